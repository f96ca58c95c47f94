theorem zOne' {J : zMI} (W : zWF J) {x : Int32} : (¬ x < 0 ∧ x < nI (jn J)) ↔ (0 < J 54 5 ∧ (¬ x < 0 ∧ ¬ (J 54 0 - 1) < x)) := by
  rw [zlt_ix (by have := W.n4; omega), zOne W]
theorem zneg {x : Int32} (hx : x < 0) {j : Nat} (hj : j < 2 ^ 31) : x ≠ nI j := fun q => by rw [q] at hx; exact absurd hx (nI_pos hj)
theorem zpl_eq {J I1 : zMI} (W : zWF J) {q : Nat} (hq : q < jn J) {x : Int32} (hf : zFnd 17 I1 (zEa J (zao J q (jt J) (jm J))) (zNx J) (zwq J q) (jm J) (js J)) : zAt (zPd J q x) = zplR J (nI q) x := by
  have n4 := W.n4
  unfold zplR
  by_cases hx : x < 0
  · rw [if_neg (fun q => q.2 hx)]
    have : zPd J q x = -1 := zFnd_n hf (fun j d g1 g2 g3 => zneg hx (by omega))
    unfold zAt; rw [if_pos this]
  · rw [if_pos ⟨(zOne W).mpr ⟨q, hq, rfl⟩, hx⟩, nI_clamp (by omega)]
    have : zPn J q x = zPd J q x := by unfold zPn; rw [if_neg (fun e => hx (by rw [e]; decide))]
    rw [this]; rfl
theorem ev6_plan {w v0 e1 e2 : Nat} {h : Int64} {J I : zMI} (hw : zW w) (W : zWF J) {N : Nat} (hP : zRep w I J N) (hN : N + 300 < 2 ^ 31) {y x : Int32} : zEp m6_plan (zRR w v0 e1 e2) h I [.ref 0, .int y, .int x] (fun v R1 h1 I1 => v = some (.int (zplR J y x)) ∧ R1 = (zRR w v0 e1 e2) ∧ h1 = h ∧ zFs I I1 ∧ zNm I1 (N + 300)) := by
  have hn4 := W.n4
  refine zEp_of [.ref 0, .int y, .int x] pl6_plan (by decide +kernel) (fun _ _ => rfl) (fun _ _ => Nat.le_of_ble_eq_true rfl) ?_
  refine g_al0 r6_plan_0 ?_
  refine g_il1 r6_plan_1 ?_
  refine g_eV1 r6_plan_2 ok6_isPerson pl6_plan pl6_isPerson xx_0 (Nat.le_of_ble_eq_true rfl) (ev6_isPerson hw W hP.1) ?_
  refine g_ifneB r6_plan_5 (fun h5 => ?_) (fun h5 => ?_)
  · obtain ⟨q, hq, rfl⟩ := (zlt_ix (by omega)).mp h5
    refine g_al0 r6_plan_11 ?_
    refine g_il1 r6_plan_12 ?_
    refine g_cV1 r6_plan_13 ok6_seekPlan pl6_plan pl6_seekPlan xx_0 (Nat.le_of_ble_eq_true rfl) (ev6_seekPlan hw W hP.1 (by omega) hq) (fun v' R' h' I1 ⟨q1, q2, q3, hs⟩ => ?_)
    subst q1; subst q2; subst q3
    refine g_al0 r6_plan_16 ?_
    refine g_gfr r6_plan_17 xx_0 rfl rr_0_3 ?_
    refine g_il2 r6_plan_20 ?_
    refine g_eV1 r6_plan_21 ok3_actAt pl6_plan pl3_actAt xx_17 (Nat.le_of_ble_eq_true rfl) (ev3_actAt (q := 17) (Or.inl rfl) hs.1 W.m10) ?_
    exact g_iret r6_plan_24 rfl ⟨rfl, ⟨zrt (zpl_eq W hq hs.1), rfl, rfl, hs.2.1, zNm_le hs.2.2 (by omega)⟩⟩
  · refine g_k r6_plan_8 ?_
    exact g_iret r6_plan_10 rfl ⟨rfl, ⟨zrt (by unfold zplR; rw [if_neg (fun q => h5 ((zOne' W).mpr q.1))]), rfl, rfl, zFs.refl I, zNm_le hP.1.2.2 (by omega)⟩⟩
theorem ev6_foil {w v0 e1 e2 : Nat} {h : Int64} {J I : zMI} (hw : zW w) (W : zWF J) {N : Nat} (hP : zRep w I J N) (hN : N + 300 < 2 ^ 31) {y z x : Int32} : zEp m6_foil (zRR w v0 e1 e2) h I [.ref 0, .int y, .int z, .int x] (fun v R1 h1 I1 => v = some (.int (zfoR J y z x)) ∧ R1 = (zRR w v0 e1 e2) ∧ h1 = h ∧ zFs I I1 ∧ zNm I1 (N + 300)) := by
  have hn4 := W.n4
  refine zEp_of [.ref 0, .int y, .int z, .int x] pl6_foil (by decide +kernel) (fun _ _ => rfl) (fun _ _ => Nat.le_of_ble_eq_true rfl) ?_
  refine g_al0 r6_foil_0 ?_
  refine g_il1 r6_foil_1 ?_
  refine g_eV1 r6_foil_2 ok6_isPerson pl6_foil pl6_isPerson xx_0 (Nat.le_of_ble_eq_true rfl) (ev6_isPerson hw W hP.1) ?_
  refine g_ifeqB r6_foil_5 (fun h5 => ?_) (fun h5 => ?_)
  · refine g_k r6_foil_21 ?_
    exact g_iret r6_foil_23 rfl ⟨rfl, ⟨zrt (by unfold zfoR; rw [if_neg (fun q => h5 ((zOne' W).mpr q.1.1))]), rfl, rfl, zFs.refl I, zNm_le hP.1.2.2 (by omega)⟩⟩
  · refine g_al0 r6_foil_8 ?_
    refine g_il2 r6_foil_9 ?_
    refine g_eV1 r6_foil_10 ok6_isPerson pl6_foil pl6_isPerson xx_0 (Nat.le_of_ble_eq_true rfl) (ev6_isPerson hw W hP.1) ?_
    refine g_ifeqB r6_foil_13 (fun h13 => ?_) (fun h13 => ?_)
    · refine g_k r6_foil_21 ?_
      exact g_iret r6_foil_23 rfl ⟨rfl, ⟨zrt (by unfold zfoR; rw [if_neg (fun q => h13 ((zOne' W).mpr q.1.2))]), rfl, rfl, zFs.refl I, zNm_le hP.1.2.2 (by omega)⟩⟩
    · refine g_il1 r6_foil_16 ?_
      refine g_il2 r6_foil_17 ?_
      refine g_icne r6_foil_18 (fun h18 => ?_) (fun h18 => ?_)
      · have hx : ¬ y = z := h18
        have c1 := (zOne' W).mp h5
        have c2 := (zOne' W).mp h13
        obtain ⟨q, hq, rfl⟩ := (zlt_ix (by omega)).mp h5
        obtain ⟨r, hr, rfl⟩ := (zlt_ix (by omega)).mp h13
        refine g_al0 r6_foil_24 ?_
        refine g_il1 r6_foil_25 ?_
        refine g_il2 r6_foil_26 ?_
        refine g_cV2 r6_foil_27 ok6_seekFoil pl6_foil pl6_seekFoil xx_0 (Nat.le_of_ble_eq_true rfl) (ev6_seekFoil hw W hP.1 (by omega) hq hr) (fun v' R' h' I1 ⟨q1, q2, q3, hs⟩ => ?_)
        subst q1; subst q2; subst q3
        refine g_al0 r6_foil_30 ?_
        refine g_gfr r6_foil_31 xx_0 rfl rr_0_3 ?_
        refine g_il3 r6_foil_34 ?_
        refine g_eV1 r6_foil_35 ok3_actAt pl6_foil pl3_actAt xx_17 (Nat.le_of_ble_eq_true rfl) (ev3_actAt (q := 17) (Or.inl rfl) hs.1 W.m10) ?_
        exact g_iret r6_foil_38 rfl ⟨rfl, ⟨zrt (by unfold zfoR; rw [if_pos ⟨⟨c1, c2⟩, hx⟩, nI_clamp (by omega), nI_clamp (by omega)]; rfl), rfl, rfl, hs.2.1, zNm_le hs.2.2 (by omega)⟩⟩
      · refine g_k r6_foil_21 ?_
        exact g_iret r6_foil_23 rfl ⟨rfl, ⟨zrt (by unfold zfoR; rw [if_neg (fun q => q.2 h18)]), rfl, rfl, zFs.refl I, zNm_le hP.1.2.2 (by omega)⟩⟩
theorem ev6_together {w v0 e1 e2 : Nat} {h : Int64} {J I : zMI} (hw : zW w) (W : zWF J) {N : Nat} (hP : zRep w I J N) (hN : N + 300 < 2 ^ 31) {x : Int32} : zEp m6_together (zRR w v0 e1 e2) h I [.ref 0, .int x] (fun v R1 h1 I1 => v = some (.int (ztoR J x)) ∧ R1 = (zRR w v0 e1 e2) ∧ h1 = h ∧ zFs I I1 ∧ zNm I1 (N + 300)) := by
  refine zEp_of [.ref 0, .int x] pl6_together (by decide +kernel) (fun _ _ => rfl) (fun _ _ => Nat.le_of_ble_eq_true rfl) ?_
  refine g_al0 r6_together_0 ?_
  refine g_gfz r6_together_1 xx_0 rfl ?_
  refine g_eqv (y := zb (0 < J 54 5)) hP.2.1.1 ?_
  refine g_ifneB r6_together_4 (fun h4 => ?_) (fun h4 => ?_)
  · refine g_al0 r6_together_10 ?_
    refine g_cV0 r6_together_11 ok6_seekTogether pl6_together pl6_seekTogether xx_0 (Nat.le_of_ble_eq_true rfl) (ev6_seekTogether hw W hP.1 (by omega)) (fun v' R' h' I1 ⟨q1, q2, q3, hs⟩ => ?_)
    subst q1; subst q2; subst q3
    refine g_il1 r6_together_14 ?_
    refine g_k r6_together_15 ?_
    refine g_icne r6_together_16 (fun h16 => ?_) (fun h16 => ?_)
    · refine g_al0 r6_together_29 ?_
      refine g_gfr r6_together_30 xx_0 rfl rr_0_3 ?_
      refine g_il1 r6_together_33 ?_
      refine g_eV1 r6_together_34 ok3_actAt pl6_together pl3_actAt xx_17 (Nat.le_of_ble_eq_true rfl) (ev3_actAt (q := 17) (Or.inl rfl) hs.1 W.m10) ?_
      exact g_iret r6_together_37 rfl ⟨rfl, ⟨zrt (by unfold ztoR ztoN; rw [if_pos h4, if_neg h16]; rfl), rfl, rfl, hs.2.1, zNm_le hs.2.2 (by omega)⟩⟩
    · refine g_al0 r6_together_19 ?_
      refine g_gfr r6_together_20 xx_0 rfl rr_0_3 ?_
      refine g_gfi r6_together_23 xx_17 rfl ?_
      refine g_eqv (y := zTm J) (zFnd_m hs.1) ?_
      refine g_goto r6_together_26 ?_
      exact g_iret r6_together_37 rfl ⟨rfl, ⟨zrt (by unfold ztoR ztoN; rw [if_pos h4, if_pos h16]), rfl, rfl, hs.2.1, zNm_le hs.2.2 (by omega)⟩⟩
  · refine g_k r6_together_7 ?_
    exact g_iret r6_together_9 rfl ⟨rfl, ⟨zrt (by unfold ztoR; rw [if_neg h4]), rfl, rfl, zFs.refl I, zNm_le hP.1.2.2 (by omega)⟩⟩
/-- steps of a character, act by act -/
def zcsb (J : zMI) (x : Int32) (t : Nat) : Nat → Int32
  | 0 => 0
  | a + 1 => if J 58 a = x then zcsb J x t a + ztd J (nI a) t else zcsb J x t a
theorem zcsb_0 (J : zMI) (x : Int32) : ∀ m, zcsb J x 0 m = 0
  | 0 => rfl
  | m + 1 => by simp only [zcsb, zcsb_0 J x m, ztd]; split <;> decide
theorem zcsb_s (J : zMI) (x : Int32) (t : Nat) : ∀ m, m ≤ 10 → zcsb J x (t + 1) m = zcsb J x t m + (if ∃ b, b < m ∧ J 63 t = nI b ∧ J 58 b = x then 1 else 0)
  | 0, _ => by simp [zcsb]
  | m + 1, hm => by
    have ih := zcsb_s J x t m (by omega)
    simp only [zcsb]
    by_cases c : J 58 m = x
    · simp only [if_pos c, ih, ztd]
      by_cases e : J 63 t = nI m
      · have h1 : ¬ ∃ b, b < m ∧ J 63 t = nI b ∧ J 58 b = x := fun ⟨b, hb, e', _⟩ => by
          rw [e] at e'; have := (nI_eq (by omega) (by omega)).mp e'; omega
        rw [if_neg h1, if_pos e, if_pos ⟨m, by omega, e, c⟩, Int32.add_zero, Int32.add_assoc]
      · have h1 : (∃ b, b < m + 1 ∧ J 63 t = nI b ∧ J 58 b = x) ↔ ∃ b, b < m ∧ J 63 t = nI b ∧ J 58 b = x :=
          ⟨fun ⟨b, hb, e1, e2⟩ => ⟨b, by
            by_cases q : b = m
            · rw [q] at e1; exact absurd e1 e
            · omega, e1, e2⟩, fun ⟨b, hb, e1, e2⟩ => ⟨b, by omega, e1, e2⟩⟩
        simp only [h1, if_neg e, Int32.add_zero]
        generalize (if ∃ b, b < m ∧ J 63 t = nI b ∧ J 58 b = x then (1 : Int32) else 0) = u
        rw [Int32.add_assoc, Int32.add_comm u, ← Int32.add_assoc]
    · have h1 : (∃ b, b < m + 1 ∧ J 63 t = nI b ∧ J 58 b = x) ↔ ∃ b, b < m ∧ J 63 t = nI b ∧ J 58 b = x :=
          ⟨fun ⟨b, hb, e1, e2⟩ => ⟨b, by
            by_cases q : b = m
            · rw [q] at e2; exact absurd e2 c
            · omega, e1, e2⟩, fun ⟨b, hb, e1, e2⟩ => ⟨b, by omega, e1, e2⟩⟩
      simp only [if_neg c, ih, h1]
theorem zcsb_eq {J : zMI} (W : zWF J) (x : Int32) : ∀ t, t ≤ jt J → zcsb J x t (jm J) = zsb J x t
  | 0, _ => zcsb_0 J x _
  | t + 1, ht => by
    have m10 := W.m10
    rw [zcsb_s J x t _ m10, zcsb_eq W x t (by omega)]
    simp only [zsb]
    congr 1
    have : (∃ b, b < jm J ∧ J 63 t = nI b ∧ J 58 b = x) ↔ (¬ J 63 t = -1 ∧ J 58 (J 63 t).toNatClampNeg = x) := by
      constructor
      · rintro ⟨b, hb, e1, e2⟩
        rw [e1, nI_clamp (by omega)]; exact ⟨znI_m1 (by omega), e2⟩
      · rintro ⟨e1, e2⟩
        obtain ⟨a, ha, e⟩ := (W.sa t (by omega)).resolve_left e1
        rw [e, nI_clamp (by omega)] at e2
        exact ⟨a, ha, e, e2⟩
    simp only [this]
theorem lp6_stepsOf {w v0 e1 e2 : Nat} {h : Int64} {J I : zMI} (hw : zW w) (W : zWF J) {N : Nat} (hQ : zQr w I J N) {x : Int32} (hm10 : jm J ≤ 10) : ∀ d i, jm J - i < d → i ≤ jm J → zGo m6_stepsOf 4 [.ref 0, .int x, .int (zcsb J x (jt J) i), .int (nI i)] [] zX (zRR w v0 e1 e2) h I (fun v X1 R1 h1 I1 => X1 = zX ∧ v = some (.int (zsb J x (jt J))) ∧ R1 = (zRR w v0 e1 e2) ∧ h1 = h ∧ I1 = I) := by
  intro d
  induction d with
  | zero => intro i hd0; exact absurd hd0 (Nat.not_lt_zero _)
  | succ d ih =>
    intro i hd0 hd1
    refine g_il3 r6_stepsOf_4 ?_
    refine g_al0 r6_stepsOf_5 ?_
    refine g_gfr r6_stepsOf_6 xx_0 rfl rr_0_6 ?_
    refine g_gfi r6_stepsOf_9 (xw hw) rfl ?_
    refine g_eqv (y := nI (jm J)) (hQ.1.1.2.trans W.m) ?_
    refine g_icgeN r6_stepsOf_12 (by omega) (by omega) (fun h12 => ?_) (fun h12 => ?_)
    · refine g_il2 r6_stepsOf_46 ?_
      exact g_iret r6_stepsOf_47 rfl ⟨rfl, ⟨zrt (by rw [show i = jm J by omega]; exact zcsb_eq W x _ (Nat.le_refl _)), rfl, rfl, rfl⟩⟩
    · refine g_al0 r6_stepsOf_15 ?_
      refine g_gfr r6_stepsOf_16 xx_0 rfl rr_0_6 ?_
      refine g_gfr r6_stepsOf_19 (xw hw) rfl (rw_4 hw) ?_
      refine g_il3 r6_stepsOf_22 ?_
      refine g_ialdN r6_stepsOf_23 (xwa_4 hw) (by omega) (by decide) ?_
      refine g_eqv (y := J 58 i) (hQ.1.2.2 i (by omega)).1 ?_
      refine g_il1 r6_stepsOf_24 ?_
      refine g_icne r6_stepsOf_25 (fun h25 => ?_) (fun h25 => ?_)
      · refine g_iiN3 r6_stepsOf_40 rfl ?_
        refine g_goto r6_stepsOf_43 ?_
        have ih2 := ih (i + 1) (by omega) (by omega)
        simp only [zcsb] at ih2
        rw [if_neg h25] at ih2
        exact ih2
      · refine g_il2 r6_stepsOf_28 ?_
        refine g_al0 r6_stepsOf_29 ?_
        refine g_gfr r6_stepsOf_30 xx_0 rfl rr_0_2 ?_
        refine g_gfr r6_stepsOf_33 xx_4 rfl rr_4_6 ?_
        refine g_il3 r6_stepsOf_36 ?_
        refine g_ialdN r6_stepsOf_37 xx_11 (by omega) (by decide) ?_
        refine g_eqv (y := ztd J (nI i) (jt J)) (hQ.2.1.2.2.1 i (by omega)) ?_
        refine g_iadd r6_stepsOf_38 ?_
        refine g_is2 r6_stepsOf_39 rfl ?_
        refine g_iiN3 r6_stepsOf_40 rfl ?_
        refine g_goto r6_stepsOf_43 ?_
        have ih2 := ih (i + 1) (by omega) (by omega)
        simp only [zcsb] at ih2
        rw [if_pos h25] at ih2
        exact ih2
theorem ev6_stepsOf {w v0 e1 e2 : Nat} {h : Int64} {J I : zMI} (hw : zW w) (W : zWF J) {N : Nat} (hQ : zQr w I J N) {x : Int32} : zEr m6_stepsOf (zRR w v0 e1 e2) h I [.ref 0, .int x] (some (.int (zsb J x (jt J)))) (zRR w v0 e1 e2) h I := by
  refine zEp_of [.ref 0, .int x, .null, .null] pl6_stepsOf (by decide +kernel) (fun _ _ => rfl) (fun _ _ => Nat.le_of_ble_eq_true rfl) ?_
  refine g_k r6_stepsOf_0 ?_
  refine g_is2 r6_stepsOf_1 rfl ?_
  refine g_k r6_stepsOf_2 ?_
  refine g_is3 r6_stepsOf_3 rfl ?_
  exact lp6_stepsOf hw W hQ W.m10 (jm J + 1) 0 (by omega) (by omega)
theorem zwt0 {J : zMI} (W : zWF J) {q : Nat} (hq : q < jn J) : zWt (J 57 q) (J 56 q) = 0 ↔ J 57 q = 0 := by
  obtain ⟨⟨f, hf, ef⟩, -⟩ := W.P q hq
  rw [ef]; unfold zWt
  by_cases c : J 57 q = 0
  · rw [if_pos c]; simp [c]
  · rw [if_neg c]; exact ⟨fun q => absurd q (zbitn (by omega)), fun q => absurd q c⟩
theorem ev6_one {w v0 e1 e2 : Nat} {h : Int64} {J I : zMI} (hw : zW w) (W : zWF J) {N : Nat} (hP : zRep w I J N) (hN : N + 300 < 2 ^ 31) {y x : Int32} : zEp m6_one (zRR w v0 e1 e2) h I [.ref 0, .int y, .int x] (fun v R1 h1 I1 => v = some (.int (zonR J y x)) ∧ R1 = (zRR w v0 e1 e2) ∧ h1 = h ∧ zFs I I1 ∧ zNm I1 (N + 300)) := by
  have hn4 := W.n4
  refine zEp_of [.ref 0, .int y, .int x] pl6_one (by decide +kernel) (fun _ _ => rfl) (fun _ _ => Nat.le_of_ble_eq_true rfl) ?_
  refine g_al0 r6_one_0 ?_
  refine g_il1 r6_one_1 ?_
  refine g_eV1 r6_one_2 ok6_isPerson pl6_one pl6_isPerson xx_0 (Nat.le_of_ble_eq_true rfl) (ev6_isPerson hw W hP.1) ?_
  refine g_ifneB r6_one_5 (fun h5 => ?_) (fun h5 => ?_)
  · have c1 := (zOne' W).mp h5
    obtain ⟨q, hq, rfl⟩ := (zlt_ix (by omega)).mp h5
    refine g_il2 r6_one_11 ?_
    refine g_sw r6_one_12 ⟨fun h12 => ?_, fun h12 => ?_, fun h12 => ?_, fun h12 => ?_, fun h12 => ?_, fun h12 => ?_, fun h12 => ?_, fun h12 => ?_, trivial⟩ (fun h12 => ?_)
    · refine g_al0 r6_one_60 ?_
      refine g_gfr r6_one_61 xx_0 rfl rr_0_6 ?_
      refine g_gfr r6_one_64 (xw hw) rfl (rw_0 hw) ?_
      refine g_il1 r6_one_67 ?_
      refine g_ialdN r6_one_68 (xwa_0 hw) (by omega) (by decide) ?_
      refine g_eqv (y := J 55 q) (hP.1.1.2.1 q hq).1 ?_
      exact g_iret r6_one_69 rfl ⟨rfl, ⟨zrt (by unfold zonR; subst h12; rw [if_pos c1, if_pos (by decide), nI_clamp (by omega)]; simp [zoN]), rfl, rfl, zFs.refl I, zNm_le hP.1.2.2 (by omega)⟩⟩
    · refine g_al0 r6_one_70 ?_
      refine g_gfr r6_one_71 xx_0 rfl rr_0_6 ?_
      refine g_gfr r6_one_74 (xw hw) rfl (rw_1 hw) ?_
      refine g_il1 r6_one_77 ?_
      refine g_ialdN r6_one_78 (xwa_1 hw) (by omega) (by decide) ?_
      refine g_eqv (y := J 56 q) (hP.1.1.2.1 q hq).2.1 ?_
      exact g_iret r6_one_79 rfl ⟨rfl, ⟨zrt (by unfold zonR; subst h12; rw [if_pos c1, if_pos (by decide), nI_clamp (by omega)]; simp [zoN]), rfl, rfl, zFs.refl I, zNm_le hP.1.2.2 (by omega)⟩⟩
    · refine g_al0 r6_one_80 ?_
      refine g_gfr r6_one_81 xx_0 rfl rr_0_6 ?_
      refine g_gfr r6_one_84 (xw hw) rfl (rw_2 hw) ?_
      refine g_il1 r6_one_87 ?_
      refine g_ialdN r6_one_88 (xwa_2 hw) (by omega) (by decide) ?_
      refine g_eqv (y := zWt (J 57 q) (J 56 q)) (hP.1.1.2.1 q hq).2.2.1 ?_
      refine g_ifeq r6_one_89 (fun h89 => ?_) (fun h89 => ?_)
      · refine g_k r6_one_96 ?_
        exact g_iret r6_one_97 rfl ⟨rfl, ⟨zrt (by unfold zonR; subst h12; rw [if_pos c1, if_pos (by decide), nI_clamp (by omega)]; simp [zoN]; exact (zwt0 W hq).mp h89), rfl, rfl, zFs.refl I, zNm_le hP.1.2.2 (by omega)⟩⟩
      · refine g_k r6_one_92 ?_
        refine g_goto r6_one_93 ?_
        exact g_iret r6_one_97 rfl ⟨rfl, ⟨zrt (by unfold zonR; subst h12; rw [if_pos c1, if_pos (by decide), nI_clamp (by omega)]; simp [zoN]; exact mt (zwt0 W hq).mpr h89), rfl, rfl, zFs.refl I, zNm_le hP.1.2.2 (by omega)⟩⟩
    · refine g_al0 r6_one_98 ?_
      refine g_il1 r6_one_99 ?_
      refine g_eV1 r6_one_100 ok6_repertoire pl6_one pl6_repertoire xx_0 (Nat.le_of_ble_eq_true rfl) (ev6_repertoire hw W hP.1 hq) ?_
      exact g_iret r6_one_103 rfl ⟨rfl, ⟨zrt (by unfold zonR; subst h12; rw [if_pos c1, if_pos (by decide), nI_clamp (by omega)]; simp [zoN]), rfl, rfl, zFs.refl I, zNm_le hP.1.2.2 (by omega)⟩⟩
    · refine g_al0 r6_one_104 ?_
      refine g_il1 r6_one_105 ?_
      refine g_eV1 r6_one_106 ok6_stepsOf pl6_one pl6_stepsOf xx_0 (Nat.le_of_ble_eq_true rfl) (ev6_stepsOf hw W hP.1) ?_
      exact g_iret r6_one_109 rfl ⟨rfl, ⟨zrt (by unfold zonR; subst h12; rw [if_pos c1, if_pos (by decide), nI_clamp (by omega)]; simp [zoN]), rfl, rfl, zFs.refl I, zNm_le hP.1.2.2 (by omega)⟩⟩
    · refine g_al0 r6_one_110 ?_
      refine g_il1 r6_one_111 ?_
      refine g_cV1 r6_one_112 ok6_seekPlan pl6_one pl6_seekPlan xx_0 (Nat.le_of_ble_eq_true rfl) (ev6_seekPlan hw W hP.1 (by omega) hq) (fun v' R' h' I1 ⟨q1, q2, q3, hs⟩ => ?_)
      subst q1; subst q2; subst q3
      refine g_al0 r6_one_115 ?_
      refine g_gfr r6_one_116 xx_0 rfl rr_0_3 ?_
      refine g_gfi r6_one_119 xx_17 rfl ?_
      refine g_eqv (y := zPm J q) (zFnd_m hs.1) ?_
      exact g_iret r6_one_122 rfl ⟨rfl, ⟨zrt (by unfold zonR; subst h12; rw [if_pos c1, if_pos (by decide), nI_clamp (by omega)]; simp [zoN]), rfl, rfl, hs.2.1, zNm_le hs.2.2 (by omega)⟩⟩
    · refine g_al0 r6_one_123 ?_
      refine g_il1 r6_one_124 ?_
      refine g_cV1 r6_one_125 ok6_seekPlan pl6_one pl6_seekPlan xx_0 (Nat.le_of_ble_eq_true rfl) (ev6_seekPlan hw W hP.1 (by omega) hq) (fun v' R' h' I1 ⟨q1, q2, q3, hs⟩ => ?_)
      subst q1; subst q2; subst q3
      refine g_al0 r6_one_128 ?_
      refine g_gfr r6_one_129 xx_0 rfl rr_0_3 ?_
      refine g_eV0 r6_one_132 ok3_firstAct pl6_one pl3_firstAct xx_17 (Nat.le_of_ble_eq_true rfl) (ev3_firstAct (q := 17) (Or.inl rfl) hs.1) ?_
      exact g_iret r6_one_135 rfl ⟨rfl, ⟨zrt (by unfold zonR; subst h12; rw [if_pos c1, if_pos (by decide), nI_clamp (by omega)]; simp [zoN]; rfl), rfl, rfl, hs.2.1, zNm_le hs.2.2 (by omega)⟩⟩
    · refine g_al0 r6_one_136 ?_
      refine g_il1 r6_one_137 ?_
      refine g_k r6_one_138 ?_
      refine g_cV2 r6_one_139 ok6_choice pl6_one pl6_choice xx_0 (Nat.le_of_ble_eq_true rfl) (ev6_choice (rd := 0) hw W hP.1 (by omega) hq (by decide)) (fun v' R' h' I1 ⟨q1, q2, q3, hf1, hn1⟩ => ?_)
      subst q1; subst q2; subst q3
      exact g_iret r6_one_142 rfl ⟨rfl, ⟨zrt (by unfold zonR; subst h12; rw [if_pos c1, if_pos (by decide), nI_clamp (by omega)]; simp [zoN]), rfl, rfl, hf1, zNm_le hn1 (by omega)⟩⟩
    · refine g_k r6_one_143 ?_
      exact g_iret r6_one_145 rfl ⟨rfl, ⟨zrt (by unfold zonR; rw [if_pos c1, if_neg (fun q => by have h2 := h12; simp at h2; exact absurd (zrg7 q) (by simp [h2]))]), rfl, rfl, zFs.refl I, zNm_le hP.1.2.2 (by omega)⟩⟩
  · refine g_k r6_one_8 ?_
    exact g_iret r6_one_10 rfl ⟨rfl, ⟨zrt (by unfold zonR; rw [if_neg (fun q => h5 ((zOne' W).mpr q))]), rfl, rfl, zFs.refl I, zNm_le hP.1.2.2 (by omega)⟩⟩
