def zI0 : zMI := fun _ _ => 0
def zI17 : zMI := zs zI0 17 (upd (zI0 17) 2 (-1))
def zI24 : zMI := zs zI17 24 (upd (zI17 24) 2 (-1))
theorem zI0_0 (u : Nat) : ∀ a, u ≤ a → ∀ j, zI0 a j = 0 := fun _ _ _ => rfl
theorem zI17_0 {u : Nat} (h : 17 < u) : ∀ a, u ≤ a → ∀ j, zI17 a j = 0 := fun a ha j => by unfold zI17; rw [zs_o _ _ (by omega)]; rfl
theorem zI24_0 {u : Nat} (h : 24 < u) : ∀ a, u ≤ a → ∀ j, zI24 a j = 0 := fun a ha j => by unfold zI24; rw [zs_o _ _ (by omega)]; exact zI17_0 (u := a) (by omega) a (Nat.le_refl _) j
theorem zRi_f {k f u : Nat} {R : zMR} (h : zRi k f R) (hu : zR0 34 44 f = some u) : zRi k (f + 1) (zrs R 0 f (some u)) := by
  refine ⟨fun a a0 ak => ?_, fun a a0 ak j => ?_, fun j => ?_⟩
  · rw [← h.1 a a0 ak]; funext j; simp [zrs, show ¬ a = 0 by omega]
  · rw [← h.2.1 a a0 ak j]; simp [zrs, show ¬ a = 0 by omega]
  · by_cases e : j = f
    · subst e; rw [if_pos (by omega), hu]; simp [zrs]
    · have q : zrs R 0 f (some u) 0 j = R 0 j := by simp [zrs, e]
      rw [q, h.2.2 j]
      by_cases c : j < f
      · rw [if_pos c, if_pos (by omega)]
      · rw [if_neg c, if_neg (by omega)]
theorem in_0 {R : zMR} (hR : zRi 1 0 R) : zEv (m6_init 1 12) (zX.take 1) R 0 zI0 [.ref 0] (fun v X1 R1 h1 I1 => v = none ∧ X1 = zX.take 54 ∧ zRi 54 8 R1 ∧ h1 = 0 ∧ I1 = zI24) := by
  refine zEv_of (lv0 := [.ref 0]) (by decide +kernel) rfl rfl (by decide +kernel) (fun _ _ => rfl) (fun _ _ => Nat.le_of_ble_eq_true rfl) (fun v X1 R1 h1 I1 q => ?_) ?_
  · rw [q.2.1]; exact ⟨rfl, by decide +kernel⟩
  refine g_al0 (r6_init_0 1 12) ?_
  refine g_oi (r6_init_1 1 12) (Nat.le_of_ble_eq_true rfl) ?_
  refine g_al0 (r6_init_4 1 12) ?_
  refine g_nw (k := 1) (c := 1) (r6_init_5 1 12) (by decide) rfl (by decide +kernel) (by decide +kernel) ((zI0_0 1) 1 (Nat.le_refl _)) (hR.2.1 1 (by decide) (Nat.le_refl _)) rfl ?_
  refine g_dup (r6_init_8 1 12) rfl ?_
  refine g_cI (M' := m1_init 2 14) (k := 2) (r6_init_9 1 12 2 14) (ok1_init _ _) (by decide) (by decide +kernel) (by decide +kernel) (Nat.le_of_ble_eq_true rfl) (in_1 hR (zI0_0 1)) (fun v' X' R1 h' I1 ⟨q1, q2, hR1, q4, q5⟩ => ?_)
  subst q1; subst q2; subst q4; subst q5
  refine g_pfr (r6_init_12 1 12) (rfl : (zX.take 3)[0]? = some (6 + 2, zF 6)) (Or.inr ⟨rfl, rfl⟩) rfl ?_
  have hS1 := zRi_f hR1 (show zR0 34 44 0 = some 1 from rfl)
  refine g_al0 (r6_init_15 1 12) ?_
  refine g_nw (k := 3) (c := 2) (r6_init_16 1 12) (by decide) rfl (by decide +kernel) (by decide +kernel) ((zI0_0 3) 3 (Nat.le_refl _)) (hS1.2.1 3 (by decide) (Nat.le_refl _)) rfl ?_
  refine g_dup (r6_init_19 1 12) rfl ?_
  refine g_cI (M' := m2_init 4 107) (k := 4) (r6_init_20 1 12 4 107) (ok2_init _ _) (by decide) (by decide +kernel) (by decide +kernel) (Nat.le_of_ble_eq_true rfl) (in_3 hS1 (zI0_0 3)) (fun v' X' R2 h' I2 ⟨q1, q2, hR2, q4, q5⟩ => ?_)
  subst q1; subst q2; subst q4; subst q5
  refine g_pfr (r6_init_23 1 12) (rfl : (zX.take 4)[0]? = some (6 + 2, zF 6)) (Or.inr ⟨rfl, rfl⟩) rfl ?_
  have hS2 := zRi_f hR2 (show zR0 34 44 1 = some 3 from rfl)
  refine g_al0 (r6_init_26 1 12) ?_
  refine g_nw (k := 4) (c := 4) (r6_init_27 1 12) (by decide) rfl (by decide +kernel) (by decide +kernel) ((zI0_0 4) 4 (Nat.le_refl _)) (hS2.2.1 4 (by decide) (Nat.le_refl _)) rfl ?_
  refine g_dup (r6_init_30 1 12) rfl ?_
  refine g_cI (M' := m4_init 5 123) (k := 5) (r6_init_31 1 12 5 123) (ok4_init _ _) (by decide) (by decide +kernel) (by decide +kernel) (Nat.le_of_ble_eq_true rfl) (in_4 hS2 (zI0_0 4)) (fun v' X' R3 h' I3 ⟨q1, q2, hR3, q4, q5⟩ => ?_)
  subst q1; subst q2; subst q4; subst q5
  refine g_pfr (r6_init_34 1 12) (rfl : (zX.take 17)[0]? = some (6 + 2, zF 6)) (Or.inr ⟨rfl, rfl⟩) rfl ?_
  have hS3 := zRi_f hR3 (show zR0 34 44 2 = some 4 from rfl)
  refine g_al0 (r6_init_37 1 12) ?_
  refine g_nw (k := 17) (c := 3) (r6_init_38 1 12) (by decide) rfl (by decide +kernel) (by decide +kernel) ((zI0_0 17) 17 (Nat.le_refl _)) (hS3.2.1 17 (by decide) (Nat.le_refl _)) rfl ?_
  refine g_dup (r6_init_41 1 12) rfl ?_
  refine g_cI (M' := m3_init 18 472) (k := 18) (r6_init_42 1 12 18 472) (ok3_init _ _) (by decide) (by decide +kernel) (by decide +kernel) (Nat.le_of_ble_eq_true rfl) (in_17 hS3 (zI0_0 17)) (fun v' X' R4 h' I4 ⟨q1, q2, hR4, q4, q5⟩ => ?_)
  subst q1; subst q2; subst q4; subst q5
  refine g_pfr (r6_init_45 1 12) (rfl : (zX.take 24)[0]? = some (6 + 2, zF 6)) (Or.inr ⟨rfl, rfl⟩) rfl ?_
  have hS4 := zRi_f hR4 (show zR0 34 44 3 = some 17 from rfl)
  refine g_al0 (r6_init_48 1 12) ?_
  refine g_nw (k := 24) (c := 3) (r6_init_49 1 12) (by decide) rfl (by decide +kernel) (by decide +kernel) ((zI17_0 (u := 24) (by decide)) 24 (Nat.le_refl _)) (hS4.2.1 24 (by decide) (Nat.le_refl _)) rfl ?_
  refine g_dup (r6_init_52 1 12) rfl ?_
  refine g_cI (M' := m3_init 25 2017) (k := 25) (r6_init_53 1 12 25 2017) (ok3_init _ _) (by decide) (by decide +kernel) (by decide +kernel) (Nat.le_of_ble_eq_true rfl) (in_24 hS4 (zI17_0 (u := 24) (by decide))) (fun v' X' R5 h' I5 ⟨q1, q2, hR5, q4, q5⟩ => ?_)
  subst q1; subst q2; subst q4; subst q5
  refine g_pfr (r6_init_56 1 12) (rfl : (zX.take 31)[0]? = some (6 + 2, zF 6)) (Or.inr ⟨rfl, rfl⟩) rfl ?_
  have hS5 := zRi_f hR5 (show zR0 34 44 4 = some 24 from rfl)
  refine g_al0 (r6_init_59 1 12) ?_
  refine g_nw (k := 31) (c := 0) (r6_init_60 1 12) (by decide) rfl (by decide +kernel) (by decide +kernel) ((zI24_0 (u := 31) (by decide)) 31 (Nat.le_refl _)) (hS5.2.1 31 (by decide) (Nat.le_refl _)) rfl ?_
  refine g_dup (r6_init_63 1 12) rfl ?_
  refine g_cI (M' := m0_init 32 3555) (k := 32) (r6_init_64 1 12 32 3555) (ok0_init _ _) (by decide) (by decide +kernel) (by decide +kernel) (Nat.le_of_ble_eq_true rfl) (in_31 hS5 (zI24_0 (u := 31) (by decide))) (fun v' X' R6 h' I6 ⟨q1, q2, hR6, q4, q5⟩ => ?_)
  subst q1; subst q2; subst q4; subst q5
  refine g_pfr (r6_init_67 1 12) (rfl : (zX.take 34)[0]? = some (6 + 2, zF 6)) (Or.inr ⟨rfl, rfl⟩) rfl ?_
  have hS6 := zRi_f hR6 (show zR0 34 44 5 = some 31 from rfl)
  refine g_al0 (r6_init_70 1 12) ?_
  refine g_nw (k := 34) (c := 5) (r6_init_71 1 12) (by decide) rfl (by decide +kernel) (by decide +kernel) ((zI24_0 (u := 34) (by decide)) 34 (Nat.le_refl _)) (hS6.2.1 34 (by decide) (Nat.le_refl _)) rfl ?_
  refine g_dup (r6_init_74 1 12) rfl ?_
  refine g_cI (M' := m5_init 35 4079) (k := 35) (r6_init_75 1 12 35 4079) (ok5_init _ _) (by decide) (by decide +kernel) (by decide +kernel) (Nat.le_of_ble_eq_true rfl) (in_34 hS6 (zI24_0 (u := 34) (by decide))) (fun v' X' R7 h' I7 ⟨q1, q2, hR7, q4, q5⟩ => ?_)
  subst q1; subst q2; subst q4; subst q5
  refine g_pfr (r6_init_78 1 12) (rfl : (zX.take 44)[0]? = some (6 + 2, zF 6)) (Or.inl rfl) rfl ?_
  have hS7 := zRi_f hR7 (show zR0 34 44 6 = some 34 from rfl)
  refine g_al0 (r6_init_81 1 12) ?_
  refine g_nw (k := 44) (c := 5) (r6_init_82 1 12) (by decide) rfl (by decide +kernel) (by decide +kernel) ((zI24_0 (u := 44) (by decide)) 44 (Nat.le_refl _)) (hS7.2.1 44 (by decide) (Nat.le_refl _)) rfl ?_
  refine g_dup (r6_init_85 1 12) rfl ?_
  refine g_cI (M' := m5_init 45 4157) (k := 45) (r6_init_86 1 12 45 4157) (ok5_init _ _) (by decide) (by decide +kernel) (by decide +kernel) (Nat.le_of_ble_eq_true rfl) (in_44 hS7 (zI24_0 (u := 44) (by decide))) (fun v' X' R8 h' I8 ⟨q1, q2, hR8, q4, q5⟩ => ?_)
  subst q1; subst q2; subst q4; subst q5
  refine g_pfr (r6_init_89 1 12) (rfl : (zX.take 54)[0]? = some (6 + 2, zF 6)) (Or.inl rfl) rfl ?_
  have hS8 := zRi_f hR8 (show zR0 34 44 7 = some 44 from rfl)
  exact g_vret (r6_init_92 1 12) rfl ⟨rfl, rfl, hS8, rfl, rfl⟩
/-- class and model stand side by side -/
def zLs (w v0 N T : Nat) (I : zMI) : Prop := zV w v0 ∧ zRep w I I N ∧ zWF I ∧ ju I ≤ T
theorem zI24_ls : zLs 34 44 0 0 zI24 := by
  have e : ∀ c, ¬ c = 17 → ¬ c = 24 → zI24 c = fun _ => 0 := fun c c1 c2 => by unfold zI24 zI17; rw [zs_o _ _ c2, zs_o _ _ c1]; rfl
  have m : ∀ j, zI24 54 j = 0 := fun j => by rw [e 54 (by decide) (by decide)]
  have jn0 : jn zI24 = 0 := by unfold jn; rw [m]; rfl
  have jm0 : jm zI24 = 0 := by unfold jm; rw [m]; rfl
  have jt0 : jt zI24 = 0 := by unfold jt; rw [m]; rfl
  have js0 : js zI24 = 0 := by unfold js; rw [m]; rfl
  have ju0 : ju zI24 = 0 := by unfold ju; rw [m]; rfl
  have jL0 : jL zI24 = 0 := by unfold jL; rw [m]; rfl
  have no : ∀ {p : Nat → Prop} {n : Nat}, n = 0 → ∀ k, k < n → p k := fun h k hk => by omega
  have W : zWF zI24 := by
    refine ⟨by rw [jn0, m]; rfl, by omega, by rw [jm0, m]; rfl, by omega, by rw [jt0, m]; rfl, by omega, by rw [js0, m]; rfl, by omega, by rw [ju0, m]; rfl, by omega, by rw [jL0, m]; rfl, by omega, by rw [m]; exact z80, no jm0, no jn0, no jt0, no jL0, by omega, fun _ => jt0⟩
  refine ⟨Or.inl ⟨rfl, rfl⟩, ⟨⟨⟨⟨by rw [m, e 34 (by decide) (by decide)], by rw [m, e 34 (by decide) (by decide)]⟩, no jn0, no jm0⟩, ⟨⟨by rw [m, e 4 (by decide) (by decide)], by rw [m, e 4 (by decide) (by decide)], by rw [m, e 4 (by decide) (by decide)], by rw [m, e 4 (by decide) (by decide)]⟩, no jt0, fun a ha => by rw [jt0, e 11 (by decide) (by decide)]; rfl, fun k hk => by omega, fun k e' _ hk => by omega⟩, ⟨0, 0, Nat.le_refl _, Nat.le_refl _, ⟨rfl, fun s hs => ⟨0, Nat.le_refl _, rfl⟩⟩, ⟨rfl, fun s hs => ⟨0, Nat.le_refl _, rfl⟩⟩⟩⟩, ⟨by rw [m, e 0 (by decide) (by decide)]; rfl, by rw [m, e 0 (by decide) (by decide)], by rw [m, e 0 (by decide) (by decide)], by rw [m, e 0 (by decide) (by decide)]⟩, ⟨by rw [m, e 1 (by decide) (by decide)], no jL0⟩⟩, W, by omega⟩
theorem zq_next {w v0 N T N' T' : Nat} {I I1 I2 : zMI} (hs : zLs w v0 N T I) {M : Nat} (hP : zRep w I1 I M) (hF : zFc I I1) (hO : zOx I1 I2) (hM : M ≤ N') (hT : T ≤ T') : zLs w v0 N' T' I2 := by
  obtain ⟨hv, -, W, hu⟩ := hs
  have m1 : zOm I I1 := zOm_of (fun k hk => hF k (by omega))
  have m2 := m1.trans hO.m
  exact ⟨hv, zRep_le (zRep_om hv.w hP m2 (fun c hc => hO.o c (by omega) (by omega))) hM, W.ox m2, by rw [ju_ox m2]; omega⟩
theorem zm_next {w v0 N' T' : Nat} {A B I1 I2 : zMI} (hv : zV w v0) {M : Nat} (hP : zRep w I1 A M) (hAB : zOm A B) (hO : zOx B I2) (hB : ∀ c, c < 54 → B c = I1 c) (WB : zWF B) (hj : ju B ≤ T') (hM : M ≤ N') : zLs w v0 N' T' I2 :=
  ⟨hv, zRep_le (zRep_om hv.w hP (hAB.trans hO.m) (fun c hc => (hO.o c (by omega) (by omega)).trans (hB c hc))) hM, WB.ox hO.m, by rw [ju_ox hO.m]; exact hj⟩
theorem zpN_lt (J : zMI) {c : Nat} (hc : c < 54) : zpN J c = J c := by
  unfold zpN zpN1
  rw [ztk_o _ (by omega)]
  split
  · rfl
  · exact zadN_o _ _ _ _ _ (by omega) (by omega)
theorem zgN_lt : ∀ n (J : zMI) {c : Nat}, c < 54 → zgN J n c = J c
  | 0, _, _, _ => rfl
  | n + 1, J, c, hc => by
    simp only [zgN]
    split
    · rw [zgN_lt n _ hc, zpN_lt J hc]
    · rfl
theorem zgoN_lt (J : zMI) (x : Int32) {c : Nat} (hc : c < 54) : zgoN J x c = J c := by
  unfold zgoN; split
  · split
    · exact zgN_lt _ _ hc
    · rfl
  · rfl
theorem zfaN_lt (J : zMI) (t : Nat) (x : Int32) {c : Nat} (hc : c < 54) : zfaN J t x c = J c := by
  unfold zfaN; (repeat' split) <;> first | rfl | exact zadN_o _ _ _ _ _ (by omega) (by omega)
theorem zacN_lt (J : zMI) (t : Nat) (x : Int32) {c : Nat} (hc : c < 54) : zacN J t x c = J c := by
  unfold zacN; (repeat' split) <;> first | rfl | exact zadN_o _ _ _ _ _ (by omega) (by omega)
theorem zletN_lt (J : zMI) (x : Int32) {c : Nat} (hc : c < 54) : zletN J x c = J c := by
  unfold zletN; split
  · rw [zs_o _ _ (by omega), zs_o _ _ (by omega)]
  · rfl
theorem zCd_s {C K : zMI} {u n a s : Nat} (hP : zPI K n a s) (hS : zSim C K u n a s) : zCd C u a ↔ (s = 11 ∨ (s = 9 ∧ 0 < K 75 (a - 1))) := by
  obtain ⟨⟨p1, p2, p3⟩, ⟨p4, p5, p6, p7, p8, p9, p10, p11⟩, -, -, -, p16, -⟩ := hP
  obtain ⟨⟨c0, -⟩, -, -, -, hA, -, -, -, -, h10⟩ := hS
  have hz : ∀ s, s ≤ 11 → (zpart s = 8 ↔ s = 9) ∧ (zpart s = 9 ↔ s = 10 ∨ s = 11) ∧ zpart s ≤ 11 := by decide +kernel
  obtain ⟨z8', z9, z11⟩ := hz s p4
  have e8 : C 3 0 = 8 ↔ s = 9 := by rw [c0]; exact (nI_eq (b := 8) (by omega) (by omega)).trans z8'
  have e9 : C 3 0 = 9 ↔ s = 10 ∨ s = 11 := by rw [c0]; exact (nI_eq (b := 9) (by omega) (by omega)).trans z9
  unfold zCd
  rw [e8, e9]
  have pos : ∀ {x : Int32}, z8 x → (¬ x = 0 ↔ 0 < x) := fun {x} h => by
    obtain ⟨m, hm, rfl⟩ := h
    rw [show (0 : Int32) = nI 0 from rfl, nI_ltI (by omega) (by omega), nI_eq (by omega) (by omega)]; omega
  constructor
  · rintro ⟨a0, ⟨e, q⟩ | ⟨e, q⟩⟩
    · rw [(hA (a - 1) (by omega)).2.2.2.1] at q
      exact Or.inr ⟨e, (pos (p16 (a - 1) (by omega)).2.2.1).mp q⟩
    · rw [(hA (a - 1) (by omega)).2.2.2.2] at q
      rcases e with e | e
      · exact absurd ((h10 (Or.inl e)).2.mpr e) q
      · exact Or.inl e
  · rintro (e | ⟨e, q⟩)
    · have a0 := p10 (by omega)
      refine ⟨a0, Or.inr ⟨Or.inr e, ?_⟩⟩
      rw [(hA (a - 1) (by omega)).2.2.2.2]
      intro z
      have := (h10 (Or.inr e)).2.mp z
      omega
    · have a0 := p10 (by omega)
      refine ⟨a0, Or.inl ⟨e, ?_⟩⟩
      rw [(hA (a - 1) (by omega)).2.2.2.1]
      exact (pos (p16 (a - 1) (by omega)).2.2.1).mpr q
theorem zw_next {w v0 N T : Nat} {I I1 I2 : zMI} (hs : zLs w v0 N T I) {n a s : Nat} (hF : zFc I I1) (hC : zCw (zcr I v0 (I 2) (jL I)) I I1 v0) (hP : zPI (zpr I1 (I1 68) (jL I)) n a s) (hS : zSim (zcr I v0 (I 2) (jL I)) (zpr I1 (I1 68) (jL I)) v0 n a s) (hc : s = 11 ∨ (s = 9 ∧ 0 < zpr I1 (I1 68) (jL I) 75 (a - 1))) (hO : zOwn (zpr I1 (I1 68) (jL I)) n a) (hN : zNw (zpr I1 (I1 68) (jL I)) I2 n a) : zLs v0 w N T I2 := by
  obtain ⟨hv, hR, W, hu⟩ := hs
  have W2 := zWF_nw ⟨hP, hc⟩ hO hN
  obtain ⟨⟨n0, n4, n5, n11, n12, n13, n19, n21, n22, n23⟩, nP, nA, nC⟩ := hN
  obtain ⟨⟨c08, c09, c010, c011⟩, c11, ⟨c412, c413, c414, c415⟩, c11a, cC⟩ := hC
  have hs9 : 9 ≤ s := by rcases hc with e | ⟨e, -⟩ <;> omega
  have b := hP.2.1
  have k54 : ∀ j, ¬ j = 24 → ¬ j = 25 → ¬ j = 29 → ¬ j = 30 → zpr I1 (I1 68) (jL I) 54 j = I1 54 j := fun j h1 h2 h3 h4 => zpr_54 h1 h2 h3 h4 _
  have i2 : ∀ c, c < 54 → I2 c = I1 c := fun c hc' => (nC c hc').trans (zpr_o (Or.inl hc') _)
  have i2C : ∀ c, c < 54 → ¬ c = 0 → ¬ c = 1 → ¬ c = 4 → ¬ c = 11 → I2 c = zcr I v0 (I 2) (jL I) c := fun c h0 h1 h2 h3 h4 => (i2 c h0).trans (cC c h1 h2 h3 h4)
  have en : jn I2 = n := by unfold jn; rw [n0, nI_clamp (by omega)]
  have em : jm I2 = a := by unfold jm; rw [n5, nI_clamp (by omega)]
  have et : jt I2 = 0 := by unfold jt; rw [n13]; rfl
  have eL : jL I2 = 0 := by unfold jL; rw [n19]; rfl
  have eu : ju I2 = 0 := by unfold ju; rw [n12]; rfl
  have vv : ∀ c, c ≤ 9 → v0 + c < 54 ∧ ¬ v0 + c = 0 ∧ ¬ v0 + c = 1 ∧ ¬ v0 + c = 4 ∧ ¬ v0 + c = 11 := fun c hc' => by rcases hv with ⟨-, q⟩ | ⟨-, q⟩ <;> omega
  have iv : ∀ c, c ≤ 9 → I2 (v0 + c) = zcr I v0 (I 2) (jL I) (v0 + c) := fun c hc' => by obtain ⟨a1, a2, a3, a4, a5⟩ := vv c hc'; exact i2C _ a1 a2 a3 a4 a5
  obtain ⟨⟨s1, s2, s3, s4⟩, sP, -, -, sA, -⟩ := hS
  rw [if_neg (by omega)] at s2
  refine ⟨hv.symm, ⟨⟨⟨⟨?_, ?_⟩, ?_, ?_⟩, ⟨⟨?_, ?_, ?_, ?_⟩, ?_, ?_, ?_, ?_⟩, ?_⟩, ⟨?_, ?_, ?_, ?_⟩, ?_, ?_⟩, W2, by omega⟩
  · rw [show I2 v0 = _ from iv 0 (by omega), n0]; exact s2
  · rw [show I2 v0 = _ from iv 0 (by omega), n5]; exact s3
  · rw [en]; intro k hk
    obtain ⟨a1, a2, a3, a4⟩ := sP k hk
    obtain ⟨b1, b2, b3⟩ := nP k hk
    rw [iv 1 (by omega), iv 2 (by omega), iv 3 (by omega), iv 4 (by omega), b1, b2, b3]
    exact ⟨a1, a2, a3, a4⟩
  · rw [em]; intro k hk
    obtain ⟨a1, a2, a3, a4, a5⟩ := sA k hk
    obtain ⟨b1, b2, b3, b4, b5⟩ := nA k hk
    rw [iv 5 (by omega), iv 6 (by omega), iv 7 (by omega), iv 8 (by omega), iv 9 (by omega), b1, b2, b3, b4, b5]
    exact ⟨a1, a2, a3, a4, a5⟩
  · rw [i2 4 (by decide), c412, n13]
  · rw [i2 4 (by decide), c413, n12]
  · rw [i2 4 (by decide), c414, n11]; exact s4
  · rw [i2 4 (by decide), c415, n4]; exact s4
  · rw [et]; intro k hk; exact absurd hk (Nat.not_lt_zero k)
  · rw [et]; intro a ha; rw [i2 11 (by decide)]; exact c11a a ha
  · intro k hk; rw [et] at hk; exact absurd hk (Nat.not_lt_zero k)
  · intro k e' _ hk; rw [et] at hk; exact absurd hk (Nat.not_lt_zero k)
  · exact zNm_c (fun c c1 c2 => (i2C c (by omega) (by omega) (by omega) (by omega) (by omega)).trans (zcr_o (by omega) (by rcases hv with ⟨-, q⟩ | ⟨-, q⟩ <;> omega) _)) hR.1.2.2
  · rw [i2 0 (by decide), c08, n5]
    exact (zb_t ((nI_ltI (a := 0) (by omega) (by omega)).mpr (b.2.2.2.2.2.2.1 (by omega)))).symm
  · rw [i2 0 (by decide), c09, n21, k54 21 (by decide) (by decide) (by decide) (by decide), hF 54 (by decide), hR.2.1.2.1]
  · rw [i2 0 (by decide), c010, n22, k54 22 (by decide) (by decide) (by decide) (by decide), hF 54 (by decide), hR.2.1.2.2.1]
  · rw [i2 0 (by decide), c011, n23, k54 23 (by decide) (by decide) (by decide) (by decide), hF 54 (by decide), hR.2.1.2.2.2]
  · rw [i2 1 (by decide), c11, n19]
  · rw [eL]; intro k hk; exact absurd hk (Nat.not_lt_zero k)
