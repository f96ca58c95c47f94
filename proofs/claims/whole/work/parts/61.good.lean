def zSp (J : zMI) (k : Nat) : Prop := z8 (J 66 k) ∧ ((J 63 k = -1 ∧ ∃ f, f < 8 ∧ ((J 64 k = nI (2 ^ f) ∧ J 65 k = 0) ∨ (J 64 k = 0 ∧ J 65 k = nI (2 ^ f)))) ∨ ∃ a, a < jm J ∧ J 63 k = nI a ∧ J 64 k = J 61 a ∧ J 65 k = J 62 a)
theorem zWF_c {J J' : zMI} (W : zWF J) (h0 : J' 54 0 = J 54 0) (h5 : J' 54 5 = J 54 5) (h4 : J' 54 4 = J 54 4) (hr : ∀ c, 55 < c → c < 63 → J' c = J c) {t : Nat} (ht : J' 54 13 = nI t) (ht30 : t ≤ 30) (hS : ∀ k, k < t → zSp J' k) (hmt : jm J = 0 → t = 0) (hs : z8 (J' 54 11)) {u : Nat} (hu : J' 54 12 = nI u) (hu31 : u < 2 ^ 31) {L : Nat} (hL : J' 54 19 = nI L) (hL90 : L ≤ 90) (hG : ∀ k, k < L → ¬ J' 68 k < 32 ∧ ¬ 126 < J' 68 k) : zWF J' := by
  have en : jn J' = jn J := by unfold jn; rw [h0]
  have em : jm J' = jm J := by unfold jm; rw [h5]
  have et : jt J' = t := by unfold jt; rw [ht, nI_clamp (by omega)]
  have eu : ju J' = u := by unfold ju; rw [hu, nI_clamp hu31]
  have eL : jL J' = L := by unfold jL; rw [hL, nI_clamp (by omega)]
  have es := zj8 hs
  refine ⟨by rw [en, h0]; exact W.n, by rw [en]; exact W.n4, by rw [em, h5]; exact W.m, by rw [em]; exact W.m10, by rw [et]; exact ht, by omega, es.1, es.2, by rw [eu]; exact hu, by omega, by rw [eL]; exact hL, by omega, by rw [h4]; exact W.f8, ?_, ?_, ?_, ?_, by rw [em, en]; exact W.mn, by rw [em, et]; exact hmt⟩
  · rw [em, en, hr 59 (by decide) (by decide), hr 60 (by decide) (by decide), hr 61 (by decide) (by decide), hr 62 (by decide) (by decide), hr 58 (by decide) (by decide)]; exact W.A
  · rw [en, hr 56 (by decide) (by decide), hr 57 (by decide) (by decide)]; exact W.P
  · rw [et]; exact hS
  · rw [eL]; exact hG
theorem zWF_bl {J : zMI} (W : zWF J) : zWF (zs J 54 (upd (J 54) 19 0)) := by
  have ef : ∀ j, ¬ j = 19 → zs J 54 (upd (J 54) 19 0) 54 j = J 54 j := fun j hj => by rw [zs_eq]; simp [upd_ap, hj]
  have eo : ∀ c, ¬ c = 54 → zs J 54 (upd (J 54) 19 0) c = J c := fun c hc => zs_o _ _ hc
  refine zWF_c W (ef 0 (by decide)) (ef 5 (by decide)) (ef 4 (by decide)) (fun c c1 c2 => eo c (by omega)) ((ef 13 (by decide)).trans W.t) W.t30 (fun k hk => ?_) W.mt (by rw [ef 11 (by decide), W.s]; exact zn8 W.s8) ((ef 12 (by decide)).trans W.u) W.u31 (L := 0) (by rw [zs_eq]; simp [upd_ap]; rfl) (by omega) (fun k hk => absurd hk (Nat.not_lt_zero k))
  unfold zSp jm
  rw [ef 5 (by decide), eo 61 (by decide), eo 62 (by decide), eo 63 (by decide), eo 64 (by decide), eo 65 (by decide), eo 66 (by decide)]
  exact W.S k hk
theorem zWF_let {J : zMI} (W : zWF J) (x : Int32) : zWF (zletN J x) := by
  unfold zletN
  have L90 := W.L90
  split
  · rename_i hc
    have hL : jL J < 90 := by
      rcases Nat.lt_or_ge (jL J) 90 with q | q
      · exact q
      · exact absurd (by rw [W.L, show jL J = 90 by omega]; rfl) hc.2
    have eL : (J 54 19).toNatClampNeg = jL J := rfl
    have ef : ∀ j, ¬ j = 19 → zs (zs J 68 (upd (J 68) (J 54 19).toNatClampNeg x)) 54 (upd (J 54) 19 (J 54 19 + 1)) 54 j = J 54 j := fun j hj => by rw [zs_eq]; simp [upd_ap, hj]
    have eo : ∀ c, ¬ c = 54 → ¬ c = 68 → zs (zs J 68 (upd (J 68) (J 54 19).toNatClampNeg x)) 54 (upd (J 54) 19 (J 54 19 + 1)) c = J c := fun c hc h2 => by rw [zs_o _ _ hc, zs_o _ _ h2]
    refine zWF_c W (ef 0 (by decide)) (ef 5 (by decide)) (ef 4 (by decide)) (fun c c1 c2 => eo c (by omega) (by omega)) ((ef 13 (by decide)).trans W.t) W.t30 (fun k hk => ?_) W.mt (by rw [ef 11 (by decide), W.s]; exact zn8 W.s8) ((ef 12 (by decide)).trans W.u) W.u31 (L := jL J + 1) (by rw [zs_eq]; simp [upd_ap, W.L, nI_1]) (by omega) (fun k hk => ?_)
    · unfold zSp jm
      rw [ef 5 (by decide), eo 61 (by decide) (by decide), eo 62 (by decide) (by decide), eo 63 (by decide) (by decide), eo 64 (by decide) (by decide), eo 65 (by decide) (by decide), eo 66 (by decide) (by decide)]
      exact W.S k hk
    · rw [zs_o _ _ (by decide), zs_eq, eL]
      simp only [upd_ap]
      by_cases e : k = jL J
      · rw [if_pos e]; exact hc.1
      · rw [if_neg e]; exact W.G k (by omega)
  · exact W
theorem zWF_un {J : zMI} (W : zWF J) : zWF (zunN J (jt J)) := by
  have t30 := W.t30
  rcases Nat.eq_zero_or_pos (jt J) with h | h
  · have e : zunN J (jt J) = J := by unfold zunN; rw [if_pos h]
    rw [e]; exact W
  · obtain ⟨s, hts⟩ : ∃ s, jt J = s + 1 := ⟨jt J - 1, by omega⟩
    refine zWF_c W (zun_54 hts (by decide) (by decide) (by decide)) (zun_54 hts (by decide) (by decide) (by decide)) (zun_54 hts (by decide) (by decide) (by decide)) (fun c c1 c2 => zun_o _ (by omega)) (zun_13 W hts) (by omega) (fun k hk => ?_) (fun q => by have := W.mt q; omega) ?_ ((zun_54 hts (by decide) (by decide) (by decide)).trans W.u) W.u31 ((zun_54 hts (by decide) (by decide) (by decide)).trans W.L) W.L90 (fun k hk => by rw [zun_o _ (by decide)]; exact W.G k hk)
    · unfold zSp jm
      rw [zun_54 hts (by decide) (by decide) (by decide), zun_o _ (show ¬ 61 = 54 by decide), zun_o _ (show ¬ 62 = 54 by decide), zun_o _ (show ¬ 63 = 54 by decide), zun_o _ (show ¬ 64 = 54 by decide), zun_o _ (show ¬ 65 = 54 by decide), zun_o _ (show ¬ 66 = 54 by decide)]
      exact W.S k (by omega)
    · rw [zun_11 hts]
      split
      · exact W.f8
      · exact (W.S (s - 1) (by omega)).1
theorem zWF_fa {J : zMI} (W : zWF J) (x : Int32) : zWF (zfaN J (jt J) x) := by
  unfold zfaN
  split
  · rename_i h5
    split
    · rename_i hx
      split
      · exact W
      · rename_i ht
        have t30 := W.t30
        obtain ⟨f, hf, rfl⟩ : ∃ f : Nat, f ≤ 7 ∧ x = nI f := nI_of2 (M := 7) rfl hx.1 (Int32.not_lt.mp hx.2)
        have t29 : jt J < 30 := by
          rcases Nat.lt_or_ge (jt J) 30 with q | q
          · exact q
          · exact absurd ((zjt30 W).mpr (by omega)) ht
        exact zWF_ad W t29 (zfst J (show f < 8 by omega)).1 ((zWd W).mp h5)
    · exact W
  · exact W
theorem zWF_ac {J : zMI} (W : zWF J) (x : Int32) : zWF (zacN J (jt J) x) := by
  unfold zacN
  split
  · rename_i h5
    split
    · rename_i hx
      split
      · split
        · exact W
        · rename_i ht
          have t30 := W.t30
          have m10 := W.m10
          obtain ⟨a, ha, rfl⟩ := zidx (m := jm J) (by omega) (by rw [← W.m]; exact hx)
          have t29 : jt J < 30 := by
            rcases Nat.lt_or_ge (jt J) 30 with q | q
            · exact q
            · exact absurd ((zjt30 W).mpr (by omega)) ht
          rw [nI_clamp (by omega)]
          exact zWF_ad W t29 (Or.inr ⟨a, ha, rfl, rfl, rfl⟩) (by omega)
      · exact W
    · exact W
  · exact W
theorem zWF_g : ∀ n {J : zMI}, zWF J → ju J + n < 2 ^ 31 → zWF (zgN J n) ∧ ju (zgN J n) ≤ ju J + n
  | 0, _, W, _ => ⟨W, Nat.le_refl _⟩
  | n + 1, J, W, hu => by
    simp only [zgN]
    split
    · rename_i ht
      have e := (zpN_nu W ht (by omega)).2
      have q := zWF_g n (zWF_p W ht (by omega)) (by omega)
      exact ⟨q.1, by omega⟩
    · exact ⟨W, by omega⟩
theorem zWF_go {J : zMI} (W : zWF J) (x : Int32) (hu : ju J + 20 < 2 ^ 31) : zWF (zgoN J x) ∧ ju (zgoN J x) ≤ ju J + 20 := by
  unfold zgoN
  split
  · rename_i hx
    obtain ⟨n, h1, h2, rfl⟩ := zlt1 hx.1 hx.2
    split
    · rw [nI_clamp (by omega)]
      have q := zWF_g n W (by omega)
      exact ⟨q.1, by omega⟩
    · exact ⟨W, by omega⟩
  · exact ⟨W, by omega⟩
theorem zju_ad (J : zMI) (t : Nat) (x g k : Int32) : ju (zadN J t x g k) = ju J := by unfold ju; rw [zadN_f _ _ _ _ _ (by decide) (by decide)]
theorem zju_fa (J : zMI) (t : Nat) (x : Int32) : ju (zfaN J t x) = ju J := by
  unfold zfaN; (repeat' split) <;> first | rfl | exact zju_ad _ _ _ _ _
theorem zju_ac (J : zMI) (t : Nat) (x : Int32) : ju (zacN J t x) = ju J := by
  unfold zacN; (repeat' split) <;> first | rfl | exact zju_ad _ _ _ _ _
theorem zju_un (J : zMI) (t : Nat) : ju (zunN J t) = ju J := by
  unfold zunN; split
  · rfl
  · unfold ju; rw [zs_eq]; simp [upd_ap]
theorem zju_let (J : zMI) (x : Int32) : ju (zletN J x) = ju J := by
  unfold zletN; split
  · unfold ju; rw [zs_eq]; simp [upd_ap]
  · rfl
theorem zju_bl (J : zMI) : ju (zs J 54 (upd (J 54) 19 0)) = ju J := by unfold ju; rw [zs_eq]; simp [upd_ap]
/-- the owners of the acts that are read are people that are read -/
def zOwn (K : zMI) (n a : Nat) : Prop := ∀ k, k < a → ∃ q, q < n ∧ K 72 k = nI q
theorem zgo_72 {K : zMI} {b x : Int32} : zgo K b x 72 = K 72 ∧ zgo K b x 54 30 = K 54 30 ∧ zgo K b x 54 25 = K 54 25 := by simp [zgo, zs_ap, upd_ap]
theorem zpL_72 {K : zMI} {c : Int32} {n a : Nat} (h5 : ¬ K 54 24 = 5) : zpL K c n a 72 = K 72 ∧ zpL K c n a 54 30 = K 54 30 ∧ (¬ K 54 24 = 0 → ¬ K 54 24 = 1 → ¬ K 54 24 = 2 → ¬ K 54 24 = 3 → (K 54 24 = 4 ∨ K 54 24 = 6 ∨ (K 54 24 = 7 ∨ K 54 24 = 8) ∨ K 54 24 = 9 ∨ K 54 24 = 10 ∨ K 54 24 = 11) → zpL K c n a 54 25 = K 54 25) := by
  have q1 : zpFirst K c 72 = K 72 ∧ zpFirst K c 54 30 = K 54 30 ∧ zpFirst K c 54 25 = K 54 25 := by unfold zpFirst; split; exact zgo_72; simp [zs_ap, upd_ap]
  have q3 : ∀ a, zpNeeds K a c 72 = K 72 ∧ zpNeeds K a c 54 30 = K 54 30 ∧ zpNeeds K a c 54 25 = K 54 25 := fun a => by unfold zpNeeds; split; exact zgo_72; split; exact zgo_72; simp [zs_ap]
  have q4 : ∀ a, zpBars K a c 72 = K 72 ∧ zpBars K a c 54 30 = K 54 30 ∧ zpBars K a c 54 25 = K 54 25 := fun a => by unfold zpBars; split; exact zgo_72; simp [zgo, zs_ap, upd_ap]
  have q5 : ∀ a, zpGives K a c 72 = K 72 ∧ zpGives K a c 54 30 = K 54 30 ∧ zpGives K a c 54 25 = K 54 25 := fun a => by
    unfold zpGives; split; exact zgo_72; split
    · split; exact zgo_72; exact ⟨rfl, rfl, rfl⟩
    · simp [zs_ap]
  have q6 : ∀ a, zpTakes K a c 72 = K 72 ∧ zpTakes K a c 54 30 = K 54 30 ∧ zpTakes K a c 54 25 = K 54 25 := fun a => by
    unfold zpTakes; split
    · split; exact zgo_72; exact ⟨rfl, rfl, rfl⟩
    · simp [zgo, zs_ap, upd_ap]
  have q7 : zpPerson K n c 72 = K 72 ∧ zpPerson K n c 54 30 = K 54 30 := by
    unfold zpPerson; split
    · simp [zpKind, zgo, zs_ap, upd_ap]
    split
    · simp [zpSign, zgo, zs_ap, upd_ap]
    split
    · unfold zpWant; split <;> simp [zgo, zs_ap, upd_ap]
    · unfold zpAfter; split <;> exact ⟨zgo_72.1, zgo_72.2.1⟩
  unfold zpL
  split
  · exact ⟨q1.1, q1.2.1, fun _ _ _ _ _ => q1.2.2⟩
  split
  · exact ⟨(q3 _).1, (q3 _).2.1, fun _ _ _ _ _ => (q3 _).2.2⟩
  split
  · exact ⟨(q4 _).1, (q4 _).2.1, fun _ _ _ _ _ => (q4 _).2.2⟩
  split
  · exact ⟨(q5 _).1, (q5 _).2.1, fun _ _ _ _ _ => (q5 _).2.2⟩
  split
  · exact ⟨(q6 _).1, (q6 _).2.1, fun _ _ _ _ _ => (q6 _).2.2⟩
  · rename_i z
    refine ⟨q7.1, q7.2, fun _ _ _ _ hx => ?_⟩
    exfalso
    rcases hx with e | e | e | e | e | e
    · contradiction
    · contradiction
    · contradiction
    · contradiction
    · exact z (Or.inl e)
    · exact z (Or.inr e)
theorem zown {J : zMI} {f : Nat → Int32} {L : Nat} (hf : ∀ j, j < L → ∃ m, m < 127 ∧ f j = nI m) : ∀ i, i ≤ L → zpt J f i → ∀ n a s, zPI (zpr J f i) n a s → zOwn (zpr J f i) n a
  | 0, _, _, n, a, s, hP => fun k hk => by
    have e : zpr J f 0 54 30 = nI 0 := by show zp0 J 54 30 = nI 0; simp [zp0, zs_ap, upd_ap]; rfl
    have e2 := (nI_eq (by have := hP.2.1; omega) (by omega)).mp (hP.1.2.2.symm.trans e)
    omega
  | i + 1, hi, hp, n, a, s, hP => by
    have hp0 : zpt J f i := fun j hj => hp j (by omega)
    obtain ⟨n0, a0, s0, hP0, -⟩ := (zrun (I := J) (J := J) (v := 34) (g := f) (f := f) (Or.inl rfl) (L := L) (fun j hj => ⟨rfl, hf j hj⟩) i (by omega)).2 hp0
    have ih := zown hf i (by omega) hp0 n0 a0 s0 hP0
    have en : zpn (zpr J f i) = n0 := zpn_of hP0.1.2.1 hP0.2.1.2.1
    have ea : zpa (zpr J f i) = a0 := zpa_of hP0.1.2.2 hP0.2.1.2.2.1
    have e1 : zpr J f (i + 1) = zpL (zpr J f i) (f i) n0 a0 := by show zpL _ _ _ _ = _; rw [en, ea]
    have hans := hp i (by omega)
    rw [ea] at hans
    rw [e1] at hP ⊢
    have b0 := hP0.2.1
    have b1 := hP.2.1
    generalize zpr J f i = K at *
    by_cases h5 : K 54 24 = 5
    · have hw1 : zwh K (f i) = 1 := by unfold zpLR at hans; rw [if_neg (by rw [h5]; decide), if_pos h5] at hans; exact hans
      have s5 : s0 = 5 := (nI_eq (b := 5) (by omega) (by omega)).mp (hP0.1.1.symm.trans h5)
      have eL : zpL K (f i) n0 a0 = zpWhose K a0 (f i) := by unfold zpL; rw [if_neg (by rw [h5]; decide), if_pos h5]
      rw [eL] at hP ⊢
      have eW : zpWhose K a0 (f i) = zgo (zs (zpWhoA K a0 (f i)) 54 (upd (K 54) 30 (K 54 30 + 1))) 1 6 := by unfold zpWhose; rw [hw1, if_neg (by decide)]
      have e72 : zpWhose K a0 (f i) 72 = upd (K 72) a0 (f i - 48) := by rw [eW, zgo_72.1]; simp [zpWhoA, zs_ap]
      have e30 : zpWhose K a0 (f i) 54 30 = nI (a0 + 1) := by rw [eW, zgo_72.2.1]; simp [zs_ap, upd_ap, hP0.1.2.2, nI_1]
      have e25 : zpWhose K a0 (f i) 54 25 = nI n0 := by rw [eW, zgo_72.2.2]; simp [zs_ap, upd_ap, hP0.1.2.1]
      have en' : n = n0 := (nI_eq (by omega) (by omega)).mp (hP.1.2.1.symm.trans e25)
      have ea' : a = a0 + 1 := (nI_eq (by omega) (by omega)).mp (hP.1.2.2.symm.trans e30)
      intro k hk
      rw [e72, en']
      simp only [upd_ap]
      by_cases e : k = a0
      · rw [if_pos e]
        obtain ⟨m, hm, em⟩ := hf i (by omega)
        have hz : ¬ f i < 48 ∧ ¬ (48 + K 54 25 - 1) < f i := zb_1.mp hw1
        rw [hP0.1.2.1, em] at hz
        have := (zow_d n0 (by omega) (by omega) m hm).mpr hz
        rw [em]
        exact (zlt_ix (by omega)).mp this
      · rw [if_neg e]; exact ih k (by omega)
    · have q := zpL_72 (c := f i) (n := n0) (a := a0) h5
      have ea' : a = a0 := (nI_eq (by omega) (by omega)).mp (hP.1.2.2.symm.trans (q.2.1.trans hP0.1.2.2))
      intro k hk
      have h4 : 4 ≤ s0 := by
        rcases Nat.lt_or_ge s0 4 with z | z
        · have := b0.2.2.2.2.1 (by omega); omega
        · exact z
      have hst : ∀ t : Nat, t ≤ 11 → (K 54 24 = nI t ↔ s0 = t) := fun t ht => by rw [hP0.1.1]; exact nI_eq (by omega) (by omega)
      have hs5 : ¬ s0 = 5 := fun e => h5 ((hst 5 (by omega)).mpr e)
      have hx : K 54 24 = 4 ∨ K 54 24 = 6 ∨ (K 54 24 = 7 ∨ K 54 24 = 8) ∨ K 54 24 = 9 ∨ K 54 24 = 10 ∨ K 54 24 = 11 := by
        have : s0 = 4 ∨ s0 = 6 ∨ s0 = 7 ∨ s0 = 8 ∨ s0 = 9 ∨ s0 = 10 ∨ s0 = 11 := by omega
        rcases this with e | e | e | e | e | e | e
        · exact Or.inl ((hst 4 (by omega)).mpr e)
        · exact Or.inr (Or.inl ((hst 6 (by omega)).mpr e))
        · exact Or.inr (Or.inr (Or.inl (Or.inl ((hst 7 (by omega)).mpr e))))
        · exact Or.inr (Or.inr (Or.inl (Or.inr ((hst 8 (by omega)).mpr e))))
        · exact Or.inr (Or.inr (Or.inr (Or.inl ((hst 9 (by omega)).mpr e))))
        · exact Or.inr (Or.inr (Or.inr (Or.inr (Or.inl ((hst 10 (by omega)).mpr e)))))
        · exact Or.inr (Or.inr (Or.inr (Or.inr (Or.inr ((hst 11 (by omega)).mpr e)))))
      have e25 := q.2.2 (fun e => by have := (hst 0 (by omega)).mp e; omega) (fun e => by have := (hst 1 (by omega)).mp e; omega) (fun e => by have := (hst 2 (by omega)).mp e; omega) (fun e => by have := (hst 3 (by omega)).mp e; omega) hx
      have en' : n = n0 := (nI_eq (by omega) (by omega)).mp (hP.1.2.1.symm.trans (e25.trans hP0.1.2.1))
      rw [q.1, en']; exact ih k (by omega)
theorem zWF_nw {K I1 : zMI} {n a s : Nat} (hC : zCp K n a s) (hO : zOwn K n a) (hN : zNw K I1 n a) : zWF I1 := by
  obtain ⟨⟨⟨p1, p2, p3⟩, ⟨p4, p5, p6, p7, p8, p9, p10, p11⟩, ⟨p12, p13⟩, p14, p15, p16, -⟩, hc⟩ := hC
  obtain ⟨⟨n0, n4, n5, n11, n12, n13, n19, n21, n22, n23⟩, hP, hA, -⟩ := hN
  have hs : 9 ≤ s := by rcases hc with e | ⟨e, -⟩ <;> omega
  have en : jn I1 = n := by unfold jn; rw [n0, nI_clamp (by omega)]
  have em : jm I1 = a := by unfold jm; rw [n5, nI_clamp (by omega)]
  have et : jt I1 = 0 := by unfold jt; rw [n13]; rfl
  have eu : ju I1 = 0 := by unfold ju; rw [n12]; rfl
  have eL : jL I1 = 0 := by unfold jL; rw [n19]; rfl
  have e8 : z8 (I1 54 11) := by rw [n11]; exact p12
  have es := zj8 e8
  refine ⟨by rw [en]; exact n0, by omega, by rw [em]; exact n5, by omega, by rw [et]; exact n13, by omega, es.1, es.2, by rw [eu]; exact n12, by omega, by rw [eL]; exact n19, by omega, by rw [n4]; exact p12, ?_, ?_, ?_, ?_, ?_, ?_⟩
  · rw [em, en]; intro k hk
    obtain ⟨a1, a2, a3, a4, a5⟩ := hA k hk
    obtain ⟨b1, b2, b3, b4, b5⟩ := p16 k hk
    rw [a1, a2, a3, a4, a5]
    exact ⟨⟨b1, b2, b3, b4⟩, b5, hO k hk⟩
  · rw [en]; intro k hk
    obtain ⟨a1, a2, a3⟩ := hP k hk
    rw [a2, a3]; exact p14 k hk
  · rw [et]; intro k hk; exact absurd hk (Nat.not_lt_zero k)
  · rw [eL]; intro k hk; exact absurd hk (Nat.not_lt_zero k)
  · rw [em, en]
    have := p10 (by omega); have := p11 (by omega)
    omega
  · rw [em, et]; intro _; rfl
