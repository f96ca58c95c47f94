theorem zfgk (s : Int32) {f : Nat} (hf : f < 8) : (1 <<< (nI f &&& 31)) &&& (s ^^^ (-1)) = (if s &&& (1 <<< (nI f &&& 31)) = 0 then (1 : Int32) <<< (nI f &&& 31) else 0) ∧ (1 <<< (nI f &&& 31)) &&& s = (if s &&& (1 <<< (nI f &&& 31)) = 0 then (0 : Int32) else 1 <<< (nI f &&& 31)) := by
  have h32 : f < 32 := by omega
  rw [Int32.and_comm _ (s ^^^ (-1)), Int32.and_comm _ s, zbitA _ h32, zbitA _ h32, zBt_not s h32]
  have n0 := zbitn h32
  cases zBt s f <;> simp [n0]
theorem zfst (J : zMI) {f : Nat} (hf : f < 8) : zStO J (-1) ((if J 54 11 &&& (1 <<< (nI f &&& 31)) = 0 then 1 <<< (nI f &&& 31) else 0) : Int32) ((if J 54 11 &&& (1 <<< (nI f &&& 31)) = 0 then 0 else 1 <<< (nI f &&& 31)) : Int32) ∧ ((if J 54 11 &&& (1 <<< (nI f &&& 31)) = 0 then 1 <<< (nI f &&& 31) else 0) : Int32) &&& ((if J 54 11 &&& (1 <<< (nI f &&& 31)) = 0 then 0 else 1 <<< (nI f &&& 31)) : Int32) = 0 ∧ ((if J 54 11 &&& (1 <<< (nI f &&& 31)) = 0 then 1 <<< (nI f &&& 31) else 0) : Int32) ||| ((if J 54 11 &&& (1 <<< (nI f &&& 31)) = 0 then 0 else 1 <<< (nI f &&& 31)) : Int32) = nI (2 ^ f) := by
  by_cases c : J 54 11 &&& (1 <<< (nI f &&& 31)) = 0
  · simp only [if_pos c]; rw [zsh_d f hf]
    exact ⟨Or.inl ⟨rfl, f, hf, Or.inl ⟨rfl, rfl⟩⟩, Int32.and_zero, Int32.or_zero⟩
  · simp only [if_neg c]; rw [zsh_d f hf]
    exact ⟨Or.inl ⟨rfl, f, hf, Or.inr ⟨rfl, rfl⟩⟩, Int32.zero_and, Int32.zero_or⟩
theorem ev4_addFate {w v0 e1 e2 : Nat} {h : Int64} {I J : zMI} (W : zWF J) (hR : zRs I J) (ht : jt J < 30) {f : Nat} (hf : f < 8) : zEp m4_addFate (zRR w v0 e1 e2) h I [.ref 4, .int (nI f)] (fun v R1 h1 I1 => v = none ∧ R1 = (zRR w v0 e1 e2) ∧ h1 = h ∧ zRs I1 (zadN J (jt J) (-1) ((if J 54 11 &&& (1 <<< (nI f &&& 31)) = 0 then 1 <<< (nI f &&& 31) else 0) : Int32) ((if J 54 11 &&& (1 <<< (nI f &&& 31)) = 0 then 0 else 1 <<< (nI f &&& 31)) : Int32)) ∧ ∀ c, c < 4 ∨ 16 < c → I1 c = I c) := by
  refine zEp_of [.ref 4, .int (nI f), .null] pl4_addFate (by decide +kernel) (fun _ _ => rfl) (fun _ _ => Nat.le_of_ble_eq_true rfl) ?_
  refine g_al0 r4_addFate_0 ?_
  refine g_gfi r4_addFate_1 xx_4 rfl ?_
  refine g_eqv (y := nI (jt J)) (by simp [zs_ap, hR.1.1, W.t]) ?_
  refine g_k r4_addFate_4 ?_
  refine g_eqv (y := nI 30) rfl ?_
  refine g_icltN r4_addFate_6 (by omega) (by omega) (fun h6 => ?_) (fun hc => absurd hc (by omega))
  refine g_k r4_addFate_10 ?_
  refine g_il1 r4_addFate_11 ?_
  refine g_ishl r4_addFate_12 ?_
  refine g_is2 r4_addFate_13 rfl ?_
  refine g_al0 r4_addFate_14 ?_
  refine g_gfr r4_addFate_15 xx_4 rfl rr_4_0 ?_
  refine g_al0 r4_addFate_18 ?_
  refine g_gfi r4_addFate_19 xx_4 rfl ?_
  refine g_eqv (y := nI (jt J)) (by simp [zs_ap, hR.1.1, W.t]) ?_
  refine g_k r4_addFate_22 ?_
  refine g_iastN r4_addFate_23 xx_5 (by omega) (by decide) ?_
  refine g_al0 r4_addFate_24 ?_
  refine g_gfr r4_addFate_25 xx_4 rfl rr_4_1 ?_
  refine g_al0 r4_addFate_28 ?_
  refine g_gfi r4_addFate_29 xx_4 rfl ?_
  refine g_eqv (y := nI (jt J)) (by simp [zs_ap, hR.1.1, W.t]) ?_
  refine g_il1 r4_addFate_32 ?_
  refine g_iastN r4_addFate_33 xx_6 (by omega) (by decide) ?_
  refine g_al0 r4_addFate_34 ?_
  refine g_gfr r4_addFate_35 xx_4 rfl rr_4_7 ?_
  refine g_al0 r4_addFate_38 ?_
  refine g_gfi r4_addFate_39 xx_4 rfl ?_
  refine g_eqv (y := nI (jt J)) (by simp [zs_ap, hR.1.1, W.t]) ?_
  refine g_k r4_addFate_42 ?_
  refine g_iastN r4_addFate_43 xx_12 (by omega) (by decide) ?_
  refine g_al0 r4_addFate_44 ?_
  refine g_gfr r4_addFate_45 xx_4 rfl rr_4_8 ?_
  refine g_al0 r4_addFate_48 ?_
  refine g_gfi r4_addFate_49 xx_4 rfl ?_
  refine g_eqv (y := nI (jt J)) (by simp [zs_ap, hR.1.1, W.t]) ?_
  refine g_k r4_addFate_52 ?_
  refine g_iastN r4_addFate_53 xx_13 (by omega) (by decide) ?_
  refine g_al0 r4_addFate_54 ?_
  refine g_gfr r4_addFate_55 xx_4 rfl rr_4_9 ?_
  refine g_al0 r4_addFate_58 ?_
  refine g_gfi r4_addFate_59 xx_4 rfl ?_
  refine g_eqv (y := nI (jt J)) (by simp [zs_ap, hR.1.1, W.t]) ?_
  refine g_il2 r4_addFate_62 ?_
  refine g_al0 r4_addFate_63 ?_
  refine g_gfi r4_addFate_64 xx_4 rfl ?_
  refine g_eqv (y := J 54 11) (by simp [zs_ap, hR.1.2.2.1]) ?_
  refine g_k r4_addFate_67 ?_
  refine g_ixor r4_addFate_68 ?_
  refine g_iand r4_addFate_69 ?_
  refine g_eqv (y := ((if J 54 11 &&& (1 <<< (nI f &&& 31)) = 0 then 1 <<< (nI f &&& 31) else 0) : Int32)) (zfgk _ hf).1 ?_
  refine g_iastN r4_addFate_70 xx_14 (by omega) (by decide) ?_
  refine g_al0 r4_addFate_71 ?_
  refine g_gfr r4_addFate_72 xx_4 rfl rr_4_10 ?_
  refine g_al0 r4_addFate_75 ?_
  refine g_gfi r4_addFate_76 xx_4 rfl ?_
  refine g_eqv (y := nI (jt J)) (by simp [zs_ap, hR.1.1, W.t]) ?_
  refine g_il2 r4_addFate_79 ?_
  refine g_al0 r4_addFate_80 ?_
  refine g_gfi r4_addFate_81 xx_4 rfl ?_
  refine g_eqv (y := J 54 11) (by simp [zs_ap, hR.1.2.2.1]) ?_
  refine g_iand r4_addFate_84 ?_
  refine g_eqv (y := ((if J 54 11 &&& (1 <<< (nI f &&& 31)) = 0 then 0 else 1 <<< (nI f &&& 31)) : Int32)) (zfgk _ hf).2 ?_
  refine g_iastN r4_addFate_85 xx_15 (by omega) (by decide) ?_
  obtain ⟨s1, s2, s3⟩ := zfst J hf
  have hn8 : z8 (znT (zadN J (jt J) (-1) ((if J 54 11 &&& (1 <<< (nI f &&& 31)) = 0 then 1 <<< (nI f &&& 31) else 0) : Int32) ((if J 54 11 &&& (1 <<< (nI f &&& 31)) = 0 then 0 else 1 <<< (nI f &&& 31)) : Int32)) (jt J)) ∧ z8 (znF (zadN J (jt J) (-1) ((if J 54 11 &&& (1 <<< (nI f &&& 31)) = 0 then 1 <<< (nI f &&& 31) else 0) : Int32) ((if J 54 11 &&& (1 <<< (nI f &&& 31)) = 0 then 0 else 1 <<< (nI f &&& 31)) : Int32)) (jt J)) := by
    unfold znT znF; rw [zadN_63]; simp only [upd_ap, if_true]
    exact ⟨z80, z80⟩
  refine g_al0 r4_addFate_86 ?_
  refine g_cV0 r4_addFate_87 ok4_closeStep pl4_addFate pl4_closeStep xx_4 (Nat.le_of_ble_eq_true rfl) (ev4_closeStep W ht s1 s2 hn8 (by
    refine ⟨by simpa [zs_ap, W.t] using hR.1, fun k hk => ?_, ?_, fun b hb => ?_, hR.2.2.2.1, hR.2.2.2.2⟩
    · have q := zRs_of hR k hk
      have q2 := hR.2.1 k hk
      have ne : ¬ k = jt J := by omega
      unfold zRow at q ⊢
      simpa [zs_ap, upd_ap, ne] using (⟨q, ⟨q2.1.2.2.1, q2.1.2.2.2⟩, q2.2.1⟩ : _ ∧ _ ∧ _)
    · unfold zRow znT znF
      rw [zadN_63, zadN_64, zadN_65]
      simp only [zs_ap, upd_ap, if_true, s3, zfF_eq hf]
      simp [upd_ap]
    · rw [ztd_ad]
      have q := hR.2.2.1 b hb
      have e2 : ¬ -1 = nI b := fun c => znI_m1 (show b < 2 ^ 31 by omega) c.symm
      simp [zs_ap, e2, q])) (fun v' R' h' I1 ⟨q1, q2, q3, hr, hc⟩ => ?_)
  subst q1; subst q2; subst q3
  exact g_vret r4_addFate_90 rfl ⟨rfl, ⟨rfl, rfl, rfl, hr, fun c hc2 => by rw [hc c hc2]; simp [zs_ap, show ¬ c = 5 by omega, show ¬ c = 6 by omega, show ¬ c = 12 by omega, show ¬ c = 13 by omega, show ¬ c = 14 by omega, show ¬ c = 15 by omega]⟩⟩
theorem lp4_removeLast {w v0 e1 e2 : Nat} {h : Int64} {P : zPost} {B : zMI} {s : Nat} {x : Int32} (hs30 : s ≤ 30) {Ln : Nat → Nat → Prop} (hs : B 4 12 = nI s) (hLn : ∀ k, k < s → ∀ e, e < k → (Ln k e ↔ B 9 k >>> (nI e &&& 31) &&& 1 = 1)) (hend : ∀ M f (y : Value), (∀ c, ¬ c = 16 → M c = B c) → zTt Ln s f → (∀ j, j < s → M 16 j = nI (f j)) → zGo m4_removeLast 99 [.ref 4, .int x, y] [] zX (zRR w v0 e1 e2) h M P) : ∀ d i f M, s - i < d → i ≤ s → (∀ c, ¬ c = 16 → M c = B c) → zTt Ln i f → (∀ j, j < i → M 16 j = nI (f j)) → zGo m4_removeLast 80 [.ref 4, .int x, .int (nI i)] [] zX (zRR w v0 e1 e2) h M P := by
  intro d
  induction d with
  | zero => intro i f M hd0; exact absurd hd0 (Nat.not_lt_zero _)
  | succ d ih =>
    intro i f M hd0 hd1 hM hT h16
    refine g_il2 r4_removeLast_80 ?_
    refine g_al0 r4_removeLast_81 ?_
    refine g_gfi r4_removeLast_82 xx_4 rfl ?_
    refine g_eqv (y := nI s) (by rw [hM 4 (by decide)]; exact hs) ?_
    refine g_icgeN r4_removeLast_85 (by omega) (by omega) (fun h85 => ?_) (fun h85 => ?_)
    · rw [show i = s by omega] at hT h16
      exact hend M f _ hM hT h16
    · refine g_al0 r4_removeLast_88 ?_
      refine g_il2 r4_removeLast_89 ?_
      refine g_cV1 r4_removeLast_90 ok4_sortIntoThread pl4_removeLast pl4_sortIntoThread xx_4 (Nat.le_of_ble_eq_true rfl) (ev4_sortIntoThread (Ln := Ln) (f := f) (show i < 30 by omega) (fun e he => by rw [hM 9 (by decide)]; exact hLn i (by omega) e he) hT h16) (fun v' R' h' I1 ⟨q1, q2, q3, ho, f1, hT1, hM1⟩ => ?_)
      subst q1; subst q2; subst q3
      refine g_iiN2 r4_removeLast_93 rfl ?_
      refine g_goto r4_removeLast_96 ?_
      exact ih (i + 1) f1 I1 (by omega) (by omega) (fun c hc => by rw [ho c hc, hM c hc]) hT1 (fun j hj => hM1 j (by omega))
theorem zun_54 {J : zMI} {s : Nat} (ht : jt J = s + 1) {j : Nat} (h : ¬ j = 11) (h' : ¬ j = 13) (h2 : ¬ j = 23) : zunN J (jt J) 54 j = J 54 j := by
  rw [ht]; simp [zunN, zs_ap, upd_ap, h, h', h2]
theorem zun_o {J : zMI} (t : Nat) {c : Nat} (h : ¬ c = 54) : zunN J t c = J c := by
  unfold zunN; split
  · rfl
  · exact zs_o _ _ h
theorem zun_13 {J : zMI} (W : zWF J) {s : Nat} (ht : jt J = s + 1) : zunN J (jt J) 54 13 = nI s := by
  have e := W.t
  rw [ht] at e ⊢; simp [zunN, zs_ap, upd_ap, e, nI_pred]
theorem zun_11 {J : zMI} {s : Nat} (ht : jt J = s + 1) : zunN J (jt J) 54 11 = if s = 0 then J 54 4 else J 66 (s - 1) := by
  rw [ht]
  simp only [zunN, Nat.add_one_ne_zero, if_false, zs_ap, upd_ap, if_true, Nat.reduceEqDiff]
  by_cases c : s = 0
  · simp [c]
  · simp [c, show ¬ s + 1 = 1 by omega, show s + 1 - 2 = s - 1 by omega]
theorem zun_jt {J : zMI} (W : zWF J) {s : Nat} (ht : jt J = s + 1) : jt (zunN J (jt J)) = s := by
  have := W.t30
  show (zunN J (jt J) 54 13).toNatClampNeg = s
  rw [zun_13 W ht]; exact nI_clamp (by omega)
theorem zPx_un (J : zMI) (t : Nat) : zPx J (zunN J t) t := ⟨fun k _ => ⟨by rw [zun_o t (by decide)], by rw [zun_o t (by decide)], by rw [zun_o t (by decide)]⟩, zun_o t (by decide), zun_o t (by decide)⟩
theorem tl4_removeLast {w v0 e1 e2 : Nat} {h : Int64} {I J M : zMI} (W : zWF J) (hR : zRs I J) {s : Nat} (hts : jt J = s + 1) {x : Int32} (m4 : M 4 = upd (I 4) 12 (nI s)) (m11 : ∀ a, a < 10 → M 11 a = ztd J (nI a) s) (mo : ∀ c, ¬ c = 4 → ¬ c = 11 → M c = I c) : zGo m4_removeLast 49 [.ref 4, .int x, .null] [] zX (zRR w v0 e1 e2) h M (fun v X1 R1 h1 I1 => X1 = zX ∧ (fun v R1 h1 I1 => v = none ∧ R1 = (zRR w v0 e1 e2) ∧ h1 = h ∧ zRs I1 (zunN J (jt J)) ∧ ∀ c, c < 4 ∨ 16 < c → I1 c = I c) v R1 h1 I1) := by
  have t30 := W.t30
  refine g_al0 r4_removeLast_49 ?_
  refine g_al0 r4_removeLast_50 ?_
  refine g_gfi r4_removeLast_51 xx_4 rfl ?_
  refine g_eqv (y := nI s) (by rw [m4]; simp [upd_ap]) ?_
  refine g_ifleL r4_removeLast_54 (fun h54 => ?_) (fun h54 => ?_)
  · refine g_al0 r4_removeLast_71 ?_
    refine g_gfi r4_removeLast_72 xx_4 rfl ?_
    have s0 : s = 0 := by have := mt (nI_ltI (a := 0) (b := s) (by omega) (by omega)).mpr h54; omega
    refine g_eqv (y := (if s = 0 then J 54 4 else J 66 (s - 1))) (by rw [m4, if_pos s0]; simpa [upd_ap] using hR.1.2.2.2) ?_
    refine g_pfi r4_removeLast_75 xx_4 rfl rfl ?_
    refine g_k r4_removeLast_78 ?_
    refine g_is2 r4_removeLast_79 rfl ?_
    refine lp4_removeLast (Ln := zLn J) (s := s) (B := zs M 4 (upd (M 4) 14 (if s = 0 then J 54 4 else J 66 (s - 1)))) (by omega) (by rw [zs_eq, m4]; simp [upd_ap]) (fun k hk e he => ?_) (fun M2 f y hM hT h16 => ?_) (s + 1) 0 (fun _ => 0) _ (by omega) (by omega) (fun c _ => rfl) ⟨fun k hk => absurd hk (Nat.not_lt_zero k), fun k e _ hk => absurd hk (Nat.not_lt_zero k)⟩ (fun j hj => absurd hj (Nat.not_lt_zero j))
    · unfold zLn; rw [zs_o _ _ (by decide), mo 9 (by decide) (by decide), (hR.2.1 k (by omega)).2.1.1]
    · have hT2 : zTt (zLn (zunN J (jt J))) (jt (zunN J (jt J))) f := by
        rw [zun_jt W hts]; exact zTt_c (fun k e hk => (zLn_px (zPx_un J (jt J)) (by omega) e).symm) hT
      have th := zth_tt hT2
      have r : ∀ c, ¬ c = 4 → ¬ c = 11 → ¬ c = 16 → M2 c = I c := fun c c1 c2 c3 => by rw [hM c c3, zs_o _ _ c1, mo c c1 c2]
      have r4 : M2 4 = upd (upd (I 4) 12 (nI s)) 14 (if s = 0 then J 54 4 else J 66 (s - 1)) := by rw [hM 4 (by decide), zs_eq, m4]
      refine g_vret r4_removeLast_99 rfl ⟨rfl, rfl, rfl, rfl, ⟨⟨?_, ?_, ?_, ?_⟩, fun k hk => ?_, fun a ha => ?_, th.2⟩, fun c hc => ?_⟩
      · rw [r4, zun_13 W hts]; simp [upd_ap]
      · rw [r4, zun_54 hts (by decide) (by decide) (by decide)]; simpa [upd_ap] using hR.1.2.1
      · rw [r4, zun_11 hts]; simp [upd_ap]
      · rw [r4, zun_54 hts (by decide) (by decide) (by decide)]; simpa [upd_ap] using hR.1.2.2.2
      · have hk2 : k < jt J := by rw [zun_jt W hts] at hk; omega
        have hks : k < s := by rw [zun_jt W hts] at hk; omega
        have e16 : M2 16 k = nI (zth (zunN J (jt J)) k) := by rw [h16 k hks, th.1 k hk]
        rw [e16, zlk_px (zPx_un J (jt J)) hk2, zhg_px (zPx_un J (jt J)) k hk2]
        simp only [r 5 (by decide) (by decide) (by decide), r 6 (by decide) (by decide) (by decide), r 7 (by decide) (by decide) (by decide), r 8 (by decide) (by decide) (by decide), r 9 (by decide) (by decide) (by decide), r 10 (by decide) (by decide) (by decide), r 12 (by decide) (by decide) (by decide), r 13 (by decide) (by decide) (by decide), r 14 (by decide) (by decide) (by decide), r 15 (by decide) (by decide) (by decide), zun_o (jt J) (show ¬ 63 = 54 by decide), zun_o (jt J) (show ¬ 64 = 54 by decide), zun_o (jt J) (show ¬ 65 = 54 by decide), zun_o (jt J) (show ¬ 66 = 54 by decide), zun_o (jt J) (show ¬ 67 = 54 by decide), zun_o (jt J) (show ¬ 59 = 54 by decide), zun_o (jt J) (show ¬ 60 = 54 by decide)]
        obtain ⟨b1, ⟨b2, b3, b4⟩, b5⟩ := hR.2.1 k hk2
        exact ⟨b1, ⟨b2, b3, trivial⟩, b5⟩
      · rw [zun_jt W hts, ztd_px (zPx_un J (jt J)) _ s (by omega), hM 11 (by decide), zs_o _ _ (by decide)]; exact m11 a ha
      · rw [r c (by omega) (by omega) (by omega)]
  · have s0 : 0 < s := (nI_ltI (a := 0) (by omega) (by omega)).mp h54
    refine g_al0 r4_removeLast_57 ?_
    refine g_gfr r4_removeLast_58 xx_4 rfl rr_4_3 ?_
    refine g_al0 r4_removeLast_61 ?_
    refine g_gfi r4_removeLast_62 xx_4 rfl ?_
    refine g_eqv (y := nI s) (by rw [m4]; simp [upd_ap]) ?_
    refine g_k r4_removeLast_65 ?_
    refine g_isub r4_removeLast_66 ?_
    refine g_eqv (y := nI (s - 1)) (by rw [← nI_pred (s - 1), show s - 1 + 1 = s by omega]) ?_
    refine g_ialdN r4_removeLast_67 xx_8 (by omega) (by decide) ?_
    refine g_eqv (y := (if s = 0 then J 54 4 else J 66 (s - 1))) (by rw [mo 8 (by decide) (by decide), (hR.2.1 (s - 1) (by omega)).1.2.2.2, if_neg (by omega)]) ?_
    refine g_goto r4_removeLast_68 ?_
    refine g_pfi r4_removeLast_75 xx_4 rfl rfl ?_
    refine g_k r4_removeLast_78 ?_
    refine g_is2 r4_removeLast_79 rfl ?_
    refine lp4_removeLast (Ln := zLn J) (s := s) (B := zs M 4 (upd (M 4) 14 (if s = 0 then J 54 4 else J 66 (s - 1)))) (by omega) (by rw [zs_eq, m4]; simp [upd_ap]) (fun k hk e he => ?_) (fun M2 f y hM hT h16 => ?_) (s + 1) 0 (fun _ => 0) _ (by omega) (by omega) (fun c _ => rfl) ⟨fun k hk => absurd hk (Nat.not_lt_zero k), fun k e _ hk => absurd hk (Nat.not_lt_zero k)⟩ (fun j hj => absurd hj (Nat.not_lt_zero j))
    · unfold zLn; rw [zs_o _ _ (by decide), mo 9 (by decide) (by decide), (hR.2.1 k (by omega)).2.1.1]
    · have hT2 : zTt (zLn (zunN J (jt J))) (jt (zunN J (jt J))) f := by
        rw [zun_jt W hts]; exact zTt_c (fun k e hk => (zLn_px (zPx_un J (jt J)) (by omega) e).symm) hT
      have th := zth_tt hT2
      have r : ∀ c, ¬ c = 4 → ¬ c = 11 → ¬ c = 16 → M2 c = I c := fun c c1 c2 c3 => by rw [hM c c3, zs_o _ _ c1, mo c c1 c2]
      have r4 : M2 4 = upd (upd (I 4) 12 (nI s)) 14 (if s = 0 then J 54 4 else J 66 (s - 1)) := by rw [hM 4 (by decide), zs_eq, m4]
      refine g_vret r4_removeLast_99 rfl ⟨rfl, rfl, rfl, rfl, ⟨⟨?_, ?_, ?_, ?_⟩, fun k hk => ?_, fun a ha => ?_, th.2⟩, fun c hc => ?_⟩
      · rw [r4, zun_13 W hts]; simp [upd_ap]
      · rw [r4, zun_54 hts (by decide) (by decide) (by decide)]; simpa [upd_ap] using hR.1.2.1
      · rw [r4, zun_11 hts]; simp [upd_ap]
      · rw [r4, zun_54 hts (by decide) (by decide) (by decide)]; simpa [upd_ap] using hR.1.2.2.2
      · have hk2 : k < jt J := by rw [zun_jt W hts] at hk; omega
        have hks : k < s := by rw [zun_jt W hts] at hk; omega
        have e16 : M2 16 k = nI (zth (zunN J (jt J)) k) := by rw [h16 k hks, th.1 k hk]
        rw [e16, zlk_px (zPx_un J (jt J)) hk2, zhg_px (zPx_un J (jt J)) k hk2]
        simp only [r 5 (by decide) (by decide) (by decide), r 6 (by decide) (by decide) (by decide), r 7 (by decide) (by decide) (by decide), r 8 (by decide) (by decide) (by decide), r 9 (by decide) (by decide) (by decide), r 10 (by decide) (by decide) (by decide), r 12 (by decide) (by decide) (by decide), r 13 (by decide) (by decide) (by decide), r 14 (by decide) (by decide) (by decide), r 15 (by decide) (by decide) (by decide), zun_o (jt J) (show ¬ 63 = 54 by decide), zun_o (jt J) (show ¬ 64 = 54 by decide), zun_o (jt J) (show ¬ 65 = 54 by decide), zun_o (jt J) (show ¬ 66 = 54 by decide), zun_o (jt J) (show ¬ 67 = 54 by decide), zun_o (jt J) (show ¬ 59 = 54 by decide), zun_o (jt J) (show ¬ 60 = 54 by decide)]
        obtain ⟨b1, ⟨b2, b3, b4⟩, b5⟩ := hR.2.1 k hk2
        exact ⟨b1, ⟨b2, b3, trivial⟩, b5⟩
      · rw [zun_jt W hts, ztd_px (zPx_un J (jt J)) _ s (by omega), hM 11 (by decide), zs_o _ _ (by decide)]; exact m11 a ha
      · rw [r c (by omega) (by omega) (by omega)]
theorem ev4_removeLast {w v0 e1 e2 : Nat} {h : Int64} {I J : zMI} (W : zWF J) (hR : zRs I J) {s : Nat} (hts : jt J = s + 1) : zEp m4_removeLast (zRR w v0 e1 e2) h I [.ref 4] (fun v R1 h1 I1 => v = none ∧ R1 = (zRR w v0 e1 e2) ∧ h1 = h ∧ zRs I1 (zunN J (jt J)) ∧ ∀ c, c < 4 ∨ 16 < c → I1 c = I c) := by
  have t30 := W.t30
  have m10 := W.m10
  refine zEp_of [.ref 4, .null, .null] pl4_removeLast (by decide +kernel) (fun _ _ => rfl) (fun _ _ => Nat.le_of_ble_eq_true rfl) ?_
  refine g_al0 r4_removeLast_0 ?_
  refine g_gfi r4_removeLast_1 xx_4 rfl ?_
  refine g_eqv (y := nI (s + 1)) (by rw [hR.1.1, W.t, hts]) ?_
  refine g_k r4_removeLast_4 ?_
  refine g_eqv (y := nI 1) rfl ?_
  refine g_icgeN r4_removeLast_5 (by omega) (by omega) (fun h5 => ?_) (fun hc => absurd hc (by omega))
  refine g_al0 r4_removeLast_9 ?_
  refine g_dup r4_removeLast_10 rfl ?_
  refine g_gfi r4_removeLast_11 xx_4 rfl ?_
  refine g_eqv (y := nI (s + 1)) (by rw [hR.1.1, W.t, hts]) ?_
  refine g_k r4_removeLast_14 ?_
  refine g_isub r4_removeLast_15 ?_
  refine g_eqv (y := nI s) (nI_pred s) ?_
  refine g_pfi r4_removeLast_16 xx_4 rfl rfl ?_
  refine g_al0 r4_removeLast_19 ?_
  refine g_gfr r4_removeLast_20 xx_4 rfl rr_4_0 ?_
  refine g_al0 r4_removeLast_23 ?_
  refine g_gfi r4_removeLast_24 xx_4 rfl ?_
  refine g_eqv (y := nI s) (by simp [zs_ap, upd_ap]) ?_
  refine g_ialdN r4_removeLast_27 xx_5 (by omega) (by decide) ?_
  refine g_eqv (y := J 63 s) (by simpa [zs_ap] using (hR.2.1 s (by omega)).1.1) ?_
  refine g_is1 r4_removeLast_28 rfl ?_
  have td : ∀ x, ztd J x (s + 1) = ztd J x s + (if J 63 s = x then 1 else 0) := fun x => rfl
  refine g_il1 r4_removeLast_29 ?_
  refine g_iflt r4_removeLast_30 (fun h30 => ?_) (fun h30 => ?_)
  · rcases W.sa s (by omega) with e | ⟨a, ha, e⟩
    · exact tl4_removeLast W hR hts (zs_eq _ _ _) (fun b hb => by rw [zs_o _ _ (by decide), hR.2.2.1 b hb, hts, td, e, if_neg (fun q => znI_m1 (show b < 2 ^ 31 by omega) q.symm), Int32.add_zero]) (fun c c1 _ => zs_o _ _ c1)
    · exact absurd (e ▸ h30) (nI_pos (by omega))
  · obtain ⟨a, ha, e⟩ : ∃ a, a < jm J ∧ J 63 s = nI a := by
      rcases W.sa s (by omega) with e | q
      · exact absurd (show J 63 s < 0 by rw [e]; decide) h30
      · exact q
    rw [e]
    refine g_il1 r4_removeLast_33 ?_
    refine g_k r4_removeLast_34 ?_
    refine g_eqv (y := nI 10) rfl ?_
    refine g_icgeN r4_removeLast_36 (by omega) (by omega) (fun hc => absurd hc (by omega)) (fun h36 => ?_)
    refine g_al0 r4_removeLast_39 ?_
    refine g_gfr r4_removeLast_40 xx_4 rfl rr_4_6 ?_
    refine g_il1 r4_removeLast_43 ?_
    refine g_dup2 r4_removeLast_44 rfl rfl ?_
    refine g_ialdN r4_removeLast_45 xx_11 (by omega) (by decide) ?_
    refine g_k r4_removeLast_46 ?_
    refine g_isub r4_removeLast_47 ?_
    refine g_iastN r4_removeLast_48 xx_11 (by omega) (by decide) ?_
    refine tl4_removeLast W hR hts (by simp [zs_ap]) (fun b hb => ?_) (fun c c1 c2 => by simp [zs_ap, c1, c2])
    have q := hR.2.2.1 b hb
    rw [hts, td, e] at q
    by_cases c : b = a
    · subst c
      simp only [zs_ap, upd_ap, if_true]
      simp [q]
    · have e2 : ¬ nI a = nI b := fun z => c ((nI_eq (by omega) (by omega)).mp z).symm
      simpa [zs_ap, upd_ap, c, e2] using q
theorem lp4_begin {w v0 e1 e2 : Nat} {h : Int64} {I : zMI} {x : Int32} : ∀ d i M, 10 - i < d → i ≤ 10 → (M 4 12 = 0 ∧ M 4 13 = 0 ∧ M 4 14 = x ∧ M 4 15 = x) → (∀ a, a < i → M 11 a = 0) → (∀ c, ¬ c = 4 → ¬ c = 11 → M c = I c) → zGo m4_begin 22 [.ref 4, .int x, .int (nI i)] [] zX (zRR w v0 e1 e2) h M (fun v X1 R1 h1 I1 => X1 = zX ∧ (fun v R1 h1 I1 => v = none ∧ R1 = (zRR w v0 e1 e2) ∧ h1 = h ∧ (I1 4 12 = 0 ∧ I1 4 13 = 0 ∧ I1 4 14 = x ∧ I1 4 15 = x) ∧ (∀ a, a < 10 → I1 11 a = 0) ∧ ∀ c, ¬ c = 4 → ¬ c = 11 → I1 c = I c) v R1 h1 I1) := by
  intro d
  induction d with
  | zero => intro i M hd0; exact absurd hd0 (Nat.not_lt_zero _)
  | succ d ih =>
    intro i M hd0 hd1 h4 h11 ho
    refine g_il2 r4_begin_22 ?_
    refine g_k r4_begin_23 ?_
    refine g_eqv (y := nI 10) rfl ?_
    refine g_icgeN r4_begin_25 (by omega) (by omega) (fun h25 => ?_) (fun h25 => ?_)
    · exact g_vret r4_begin_41 rfl ⟨rfl, ⟨rfl, rfl, rfl, h4, fun a ha => h11 a (by omega), ho⟩⟩
    · refine g_al0 r4_begin_28 ?_
      refine g_gfr r4_begin_29 xx_4 rfl rr_4_6 ?_
      refine g_il2 r4_begin_32 ?_
      refine g_k r4_begin_33 ?_
      refine g_iastN r4_begin_34 xx_11 (by omega) (by decide) ?_
      refine g_iiN2 r4_begin_35 rfl ?_
      refine g_goto r4_begin_38 ?_
      refine ih (i + 1) _ (by omega) (by omega) (by rw [zs_o _ _ (by decide)]; exact h4) (fun a ha => ?_) (fun c c1 c2 => by rw [zs_o _ _ c2]; exact ho c c1 c2)
      rw [zs_eq]; simp only [upd_ap]
      by_cases e : a = i
      · rw [if_pos e]
      · rw [if_neg e]; exact h11 a (by omega)
theorem ev4_begin {w v0 e1 e2 : Nat} {h : Int64} {I : zMI} {x : Int32} : zEp m4_begin (zRR w v0 e1 e2) h I [.ref 4, .int x] (fun v R1 h1 I1 => v = none ∧ R1 = (zRR w v0 e1 e2) ∧ h1 = h ∧ (I1 4 12 = 0 ∧ I1 4 13 = 0 ∧ I1 4 14 = x ∧ I1 4 15 = x) ∧ (∀ a, a < 10 → I1 11 a = 0) ∧ ∀ c, ¬ c = 4 → ¬ c = 11 → I1 c = I c) := by
  refine zEp_of [.ref 4, .int x, .null] pl4_begin (by decide +kernel) (fun _ _ => rfl) (fun _ _ => Nat.le_of_ble_eq_true rfl) ?_
  refine g_al0 r4_begin_0 ?_
  refine g_k r4_begin_1 ?_
  refine g_pfi r4_begin_2 xx_4 rfl rfl ?_
  refine g_al0 r4_begin_5 ?_
  refine g_k r4_begin_6 ?_
  refine g_pfi r4_begin_7 xx_4 rfl rfl ?_
  refine g_al0 r4_begin_10 ?_
  refine g_il1 r4_begin_11 ?_
  refine g_pfi r4_begin_12 xx_4 rfl rfl ?_
  refine g_al0 r4_begin_15 ?_
  refine g_il1 r4_begin_16 ?_
  refine g_pfi r4_begin_17 xx_4 rfl rfl ?_
  refine g_k r4_begin_20 ?_
  refine g_is2 r4_begin_21 rfl ?_
  exact lp4_begin 11 0 _ (by omega) (by omega) (by simp [zs_ap, upd_ap]) (fun a ha => absurd ha (Nat.not_lt_zero a)) (fun c c1 c2 => by simp [zs_ap, c1])
