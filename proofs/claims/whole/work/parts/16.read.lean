def zcR (I : zMI) (v : Nat) (c : Int32) (a1 : Nat) : Int32 := if I 3 0 = 0 then zb (¬ zkd c = -1) else if I 3 0 = 1 then zb (c = 43 ∨ c = 45) else if I 3 0 = 2 then zb (¬ zfo c = -1) else if I 3 0 = 3 then zrAG I v c else if I 3 0 = 4 then zrFFR I c else if I 3 0 = 5 then zrOwR I v c else if I 3 0 = 6 ∨ I 3 0 = 7 then zrNeR I v (a1 - 1) c else zrMaR I v (a1 - 1) c
def zcM (I : zMI) (v : Nat) (c : Int32) (p a1 : Nat) : zMI := if I 3 0 = 0 then (if zkd c = -1 then I else zrKi I v p c) else if I 3 0 = 1 then zrSi I c else if I 3 0 = 2 then (if zfo c = -1 then I else zrGo I v (p - 1) (zfo c)) else if I 3 0 = 3 then zrAGm I v c else if I 3 0 = 4 then zrFF I v c else if I 3 0 = 5 then zrOw I v a1 c else if I 3 0 = 6 ∨ I 3 0 = 7 then zrNe I v (a1 - 1) c else zrMa I v (a1 - 1) c
def zCS (I : zMI) (v p a1 : Nat) : Prop := I v 9 = nI p ∧ I v 10 = nI a1 ∧ (I 3 0 = 0 → p < 4) ∧ (I 3 0 = 2 → 0 < p ∧ p ≤ 4) ∧ (I 3 0 = 5 → a1 < 10) ∧ ((¬ I 3 0 = 0 ∧ ¬ I 3 0 = 1 ∧ ¬ I 3 0 = 2 ∧ ¬ I 3 0 = 3 ∧ ¬ I 3 0 = 4 ∧ ¬ I 3 0 = 5) → 0 < a1 ∧ a1 ≤ 10)
theorem zCS.p {I : zMI} {v p a1 : Nat} (hs : zCS I v p a1) (hp : 0 < p ∧ p ≤ 4) : I v 9 = nI (p - 1 + 1) ∧ p - 1 < 4 := ⟨by rw [show p - 1 + 1 = p by omega]; exact hs.1, by omega⟩
theorem zCS.a {I : zMI} {v p a1 : Nat} (hs : zCS I v p a1) (hp : 0 < a1 ∧ a1 ≤ 10) : I v 10 = nI (a1 - 1 + 1) ∧ a1 - 1 < 10 := ⟨by rw [show a1 - 1 + 1 = a1 by omega]; exact hs.2.1, by omega⟩
theorem z01_zrNe (I : zMI) (v a : Nat) (c : Int32) : zrNeR I v a c = 0 ∨ zrNeR I v a c = 1 := by
  simp only [zrNeR, zrTFR]
  (repeat' split) <;> first | exact zb_01 _ | exact Or.inl rfl | exact Or.inr rfl
theorem z01_zrMa (I : zMI) (v a : Nat) (c : Int32) : zrMaR I v a c = 0 ∨ zrMaR I v a c = 1 := by
  simp only [zrMaR, zrTFR]
  (repeat' split) <;> first | exact zb_01 _ | exact Or.inl rfl | exact Or.inr rfl
theorem z01_zrFF (I : zMI) (c : Int32) : zrFFR I c = 0 ∨ zrFFR I c = 1 := by
  simp only [zrFFR, znx]
  (repeat' split) <;> first | exact zb_01 _ | exact Or.inl rfl | exact Or.inr rfl
theorem z01_C (I : zMI) (v : Nat) (c : Int32) (a1 : Nat) : zcR I v c a1 = 0 ∨ zcR I v c a1 = 1 := by
  unfold zcR
  (repeat' split) <;> first | exact zb_01 _ | exact z01_zrNe .. | exact z01_zrMa .. | exact z01_zrFF ..
theorem ev2_takesInAct_34 {w v0 e1 e2 : Nat} {h : Int64} {I : zMI} {a : Nat} (ha : I 34 10 = nI (a + 1)) (ha10 : a < 10) {c : Int32} : zEr m2_takesInAct (zRR w v0 e1 e2) h I [.ref 3, .ref 34, .int c] (some (.int (if I 3 0 = 6 ∨ I 3 0 = 7 then zrNeR I 34 a c else zrMaR I 34 a c))) (zRR w v0 e1 e2) h (if I 3 0 = 6 ∨ I 3 0 = 7 then zrNe I 34 a c else zrMa I 34 a c) := by
  refine zEp_of [.ref 3, .ref 34, .int c, .null] pl2_takesInAct (by decide +kernel) (fun _ _ => rfl) (fun _ _ => Nat.le_of_ble_eq_true rfl) ?_
  refine g_al1 r2_takesInAct_0 ?_
  refine g_gfi r2_takesInAct_1 xx_34 rfl ?_
  refine g_k r2_takesInAct_4 ?_
  refine g_isub r2_takesInAct_5 ?_
  rw [ha, nI_pred]
  refine g_is3 r2_takesInAct_6 rfl ?_
  refine g_il3 r2_takesInAct_7 ?_
  refine g_iflt r2_takesInAct_8 (fun hc => absurd hc (nI_pos (by omega))) (fun _ => ?_)
  refine g_il3 r2_takesInAct_11 ?_
  refine g_k r2_takesInAct_12 ?_
  refine g_eqv (y := nI 10) rfl ?_
  refine g_icltN r2_takesInAct_14 (by omega) (by omega) (fun h14 => ?_) (fun hc => absurd hc (by omega))
  refine g_al0 r2_takesInAct_19 ?_
  refine g_gfi r2_takesInAct_20 xx_3 rfl ?_
  refine g_k r2_takesInAct_23 ?_
  refine g_iceq r2_takesInAct_25 (fun h25 => ?_) (fun h25 => ?_)
  · refine g_al0 r2_takesInAct_37 ?_
    refine g_al1 r2_takesInAct_38 ?_
    refine g_il3 r2_takesInAct_39 ?_
    refine g_il2 r2_takesInAct_40 ?_
    refine g_eV3 r2_takesInAct_41 ok2_takesInNeeds pl2_takesInAct pl2_takesInNeeds xx_3 (Nat.le_of_ble_eq_true rfl) (ev2_takesInNeeds_34 ha10) ?_
    refine g_goto r2_takesInAct_44 ?_
    exact g_zret r2_takesInAct_54 rfl (z01_zrNe ..) ⟨rfl, ⟨zrt (by simp [h25]), rfl, rfl, (by simp [h25])⟩⟩
  · refine g_al0 r2_takesInAct_28 ?_
    refine g_gfi r2_takesInAct_29 xx_3 rfl ?_
    refine g_k r2_takesInAct_32 ?_
    refine g_icne r2_takesInAct_34 (fun h34 => ?_) (fun h34 => ?_)
    · refine g_al0 r2_takesInAct_47 ?_
      refine g_al1 r2_takesInAct_48 ?_
      refine g_il3 r2_takesInAct_49 ?_
      refine g_il2 r2_takesInAct_50 ?_
      refine g_eV3 r2_takesInAct_51 ok2_takesInMakes pl2_takesInAct pl2_takesInMakes xx_3 (Nat.le_of_ble_eq_true rfl) (ev2_takesInMakes_34 ha ha10) ?_
      exact g_zret r2_takesInAct_54 rfl (z01_zrMa ..) ⟨rfl, ⟨zrt (by simp [h25, h34]), rfl, rfl, (by simp [h25, h34])⟩⟩
    · refine g_al0 r2_takesInAct_37 ?_
      refine g_al1 r2_takesInAct_38 ?_
      refine g_il3 r2_takesInAct_39 ?_
      refine g_il2 r2_takesInAct_40 ?_
      refine g_eV3 r2_takesInAct_41 ok2_takesInNeeds pl2_takesInAct pl2_takesInNeeds xx_3 (Nat.le_of_ble_eq_true rfl) (ev2_takesInNeeds_34 ha10) ?_
      refine g_goto r2_takesInAct_44 ?_
      exact g_zret r2_takesInAct_54 rfl (z01_zrNe ..) ⟨rfl, ⟨zrt (by simp [h34]), rfl, rfl, (by simp [h34])⟩⟩
theorem ev2_takes_34 {w v0 e1 e2 : Nat} {h : Int64} {I : zMI} {p a1 : Nat} (hs : zCS I 34 p a1) {c : Int32} : zEr m2_takes (zRR w v0 e1 e2) h I [.ref 3, .ref 34, .int c] (some (.int (zcR I 34 c a1))) (zRR w v0 e1 e2) h (zcM I 34 c p a1) := by
  refine zEp_of [.ref 3, .ref 34, .int c] pl2_takes (by decide +kernel) (fun _ _ => rfl) (fun _ _ => Nat.le_of_ble_eq_true rfl) ?_
  refine g_al0 r2_takes_0 ?_
  refine g_gfi r2_takes_1 xx_3 rfl ?_
  refine g_sw r2_takes_4 ⟨fun h4 => ?_, fun h4 => ?_, fun h4 => ?_, fun h4 => ?_, fun h4 => ?_, fun h4 => ?_, trivial⟩ (fun h4 => ?_)
  · refine g_al0 r2_takes_44 ?_
    refine g_al1 r2_takes_45 ?_
    refine g_il2 r2_takes_46 ?_
    refine g_eV2 r2_takes_47 ok2_takesKind pl2_takes pl2_takesKind xx_3 (Nat.le_of_ble_eq_true rfl) (ev2_takesKind_34 hs.1 (hs.2.2.1 h4)) ?_
    exact g_zret r2_takes_50 rfl (zb_01 _) ⟨rfl, ⟨zrt (by simp [zcR, h4]), rfl, rfl, (by simp [zcM, h4])⟩⟩
  · refine g_al0 r2_takes_51 ?_
    refine g_il2 r2_takes_52 ?_
    refine g_eV1 r2_takes_53 ok2_takesSign pl2_takes pl2_takesSign xx_3 (Nat.le_of_ble_eq_true rfl) (ev2_takesSign) ?_
    exact g_zret r2_takes_56 rfl (zb_01 _) ⟨rfl, ⟨zrt (by simp [zcR, h4]), rfl, rfl, (by simp [zcM, h4])⟩⟩
  · refine g_al0 r2_takes_57 ?_
    refine g_al1 r2_takes_58 ?_
    refine g_il2 r2_takes_59 ?_
    refine g_eV2 r2_takes_60 ok2_takesGoal pl2_takes pl2_takesGoal xx_3 (Nat.le_of_ble_eq_true rfl) (ev2_takesGoal_34 (hs.p (hs.2.2.2.1 h4)).1 (hs.p (hs.2.2.2.1 h4)).2) ?_
    exact g_zret r2_takes_63 rfl (zb_01 _) ⟨rfl, ⟨zrt (by simp [zcR, h4]), rfl, rfl, (by simp [zcM, h4])⟩⟩
  · refine g_al0 r2_takes_64 ?_
    refine g_al1 r2_takes_65 ?_
    refine g_il2 r2_takes_66 ?_
    refine g_eV2 r2_takes_67 ok2_takesAfterGoal pl2_takes pl2_takesAfterGoal xx_3 (Nat.le_of_ble_eq_true rfl) (ev2_takesAfterGoal_34) ?_
    exact g_zret r2_takes_70 rfl (zb_01 _) ⟨rfl, ⟨zrt (by simp [zcR, h4]), rfl, rfl, (by simp [zcM, h4])⟩⟩
  · refine g_al0 r2_takes_71 ?_
    refine g_al1 r2_takes_72 ?_
    refine g_il2 r2_takes_73 ?_
    refine g_eV2 r2_takes_74 ok2_takesFirstFact pl2_takes pl2_takesFirstFact xx_3 (Nat.le_of_ble_eq_true rfl) (ev2_takesFirstFact_34) ?_
    exact g_zret r2_takes_77 rfl (z01_zrFF ..) ⟨rfl, ⟨zrt (by simp [zcR, h4]), rfl, rfl, (by simp [zcM, h4])⟩⟩
  · refine g_al0 r2_takes_78 ?_
    refine g_al1 r2_takes_79 ?_
    refine g_il2 r2_takes_80 ?_
    refine g_eV2 r2_takes_81 ok2_takesOwner pl2_takes pl2_takesOwner xx_3 (Nat.le_of_ble_eq_true rfl) (ev2_takesOwner_34 hs.2.1 (hs.2.2.2.2.1 h4)) ?_
    exact g_zret r2_takes_84 rfl (zb_01 _) ⟨rfl, ⟨zrt (by simp [zcR, h4]), rfl, rfl, (by simp [zcM, h4])⟩⟩
  · simp only [List.mem_cons, List.not_mem_nil, or_false, forall_eq_or_imp, forall_eq] at h4
    have hq := hs.2.2.2.2.2 h4
    obtain ⟨q0, q1, q2, q3, q4, q5⟩ := h4
    refine g_al0 r2_takes_85 ?_
    refine g_al1 r2_takes_86 ?_
    refine g_il2 r2_takes_87 ?_
    refine g_eV2 r2_takes_88 ok2_takesInAct pl2_takes pl2_takesInAct xx_3 (Nat.le_of_ble_eq_true rfl) (ev2_takesInAct_34 (hs.a hq).1 (hs.a hq).2) ?_
    exact g_zret r2_takes_91 rfl (by split; exact z01_zrNe ..; exact z01_zrMa ..) ⟨rfl, ⟨zrt (by simp [zcR, q0, q1, q2, q3, q4, q5]), rfl, rfl, (by simp [zcM, q0, q1, q2, q3, q4, q5])⟩⟩
/-- the class's reading: the memory behind i signs of a page f -/
def zcr (I : zMI) (v : Nat) (f : Nat → Int32) : Nat → zMI
  | 0 => zrMv (zrCl I v) 0
  | i + 1 => zcM (zcr I v f i) v (f i) ((zcr I v f i) v 9).toNatClampNeg ((zcr I v f i) v 10).toNatClampNeg
def zct (I : zMI) (v : Nat) (f : Nat → Int32) (i : Nat) : Prop := ∀ j, j < i → zcR (zcr I v f j) v (f j) ((zcr I v f j) v 10).toNatClampNeg = 1
theorem lp2_read_34 {w v0 e1 e2 : Nat} {h : Int64} {I : zMI} {L : Nat} (hL90 : L ≤ 90) (hS : ∀ j, zct I 34 (I 2) j → j ≤ L → zCS (zcr I 34 (I 2) j) 34 ((zcr I 34 (I 2) j) 34 9).toNatClampNeg ((zcr I 34 (I 2) j) 34 10).toNatClampNeg ∧ (zcr I 34 (I 2) j) 2 = I 2 ∧ (zcr I 34 (I 2) j) 1 1 = nI L) : ∀ d i, L - i < d → i ≤ L → zct I 34 (I 2) i → zGo m2_read 12 [.ref 3, .ref 1, .ref 34, .int (nI i)] [] zX (zRR w v0 e1 e2) h (zcr I 34 (I 2) i) (fun v X1 R1 h1 I1 => X1 = zX ∧ ∃ k, k ≤ L ∧ zct I 34 (I 2) k ∧ ((k = L ∧ I1 = zcr I 34 (I 2) k) ∨ (k < L ∧ zcR (zcr I 34 (I 2) k) 34 (I 2 k) ((zcr I 34 (I 2) k) 34 10).toNatClampNeg = 0 ∧ I1 = zcr I 34 (I 2) (k + 1))) ∧ v = some (.int (nI k)) ∧ R1 = (zRR w v0 e1 e2) ∧ h1 = h) := by
  intro d
  induction d with
  | zero => intro i hd0; exact absurd hd0 (Nat.not_lt_zero _)
  | succ d ih =>
    intro i hd0 hd1 hT
    obtain ⟨hP, hrow, hlen⟩ := hS i hT hd1
    refine g_il3 r2_read_12 ?_
    refine g_al1 r2_read_13 ?_
    refine g_gfi r2_read_14 xx_1 rfl ?_
    refine g_eqv (y := nI L) hlen ?_
    refine g_icgeN r2_read_17 (by omega) (by omega) (fun h17 => ?_) (fun h17 => ?_)
    · refine g_al1 r2_read_42 ?_
      refine g_gfi r2_read_43 xx_1 rfl ?_
      refine g_eqv (y := nI i) (hlen.trans (by rw [show L = i by omega])) ?_
      exact g_iret r2_read_46 rfl ⟨rfl, ⟨i, hd1, hT, Or.inl ⟨by omega, rfl⟩, rfl, rfl, rfl⟩⟩
    · refine g_al0 r2_read_20 ?_
      refine g_al2 r2_read_21 ?_
      refine g_al1 r2_read_22 ?_
      refine g_gfr r2_read_23 xx_1 rfl rr_1_0 ?_
      refine g_il3 r2_read_26 ?_
      refine g_ialdN r2_read_27 xx_2 (by omega) (by decide) ?_
      rw [hrow]
      refine g_eV2 r2_read_28 ok2_takes pl2_read pl2_takes xx_3 (Nat.le_of_ble_eq_true rfl) (ev2_takes_34 hP) ?_
      refine g_ifne r2_read_31 (fun h31 => ?_) (fun h31 => ?_)
      · refine g_iiN3 r2_read_36 rfl ?_
        refine g_goto r2_read_39 ?_
        exact ih (i + 1) (by omega) (by omega) (fun j hj => by
          rcases Nat.lt_succ_iff_lt_or_eq.mp hj with q | rfl
          · exact hT j q
          · exact (z01_C _ _ _ _).resolve_left h31)
      · refine g_il3 r2_read_34 ?_
        exact g_iret r2_read_35 rfl ⟨rfl, ⟨i, hd1, hT, Or.inr ⟨h17, h31, rfl⟩, rfl, rfl, rfl⟩⟩
theorem ev2_read_34 {w v0 e1 e2 : Nat} {h : Int64} {I : zMI} {L : Nat} (hL90 : L ≤ 90) (hS : ∀ j, zct I 34 (I 2) j → j ≤ L → zCS (zcr I 34 (I 2) j) 34 ((zcr I 34 (I 2) j) 34 9).toNatClampNeg ((zcr I 34 (I 2) j) 34 10).toNatClampNeg ∧ (zcr I 34 (I 2) j) 2 = I 2 ∧ (zcr I 34 (I 2) j) 1 1 = nI L) : zEp m2_read (zRR w v0 e1 e2) h I [.ref 3, .ref 1, .ref 34] (fun v R1 h1 I1 => ∃ k, k ≤ L ∧ zct I 34 (I 2) k ∧ ((k = L ∧ I1 = zcr I 34 (I 2) k) ∨ (k < L ∧ zcR (zcr I 34 (I 2) k) 34 (I 2 k) ((zcr I 34 (I 2) k) 34 10).toNatClampNeg = 0 ∧ I1 = zcr I 34 (I 2) (k + 1))) ∧ v = some (.int (nI k)) ∧ R1 = (zRR w v0 e1 e2) ∧ h1 = h) := by
  refine zEp_of [.ref 3, .ref 1, .ref 34, .null] pl2_read (by decide +kernel) (fun _ _ => rfl) (fun _ _ => Nat.le_of_ble_eq_true rfl) ?_
  refine g_al2 r2_read_0 ?_
  refine g_eV0 r2_read_1 ok5_clear pl2_read pl5_clear xx_34 (Nat.le_of_ble_eq_true rfl) (ev2_clear_34) ?_
  refine g_al0 r2_read_4 ?_
  refine g_k r2_read_5 ?_
  refine g_eV1 r2_read_6 ok2_moveTo pl2_read pl2_moveTo xx_3 (Nat.le_of_ble_eq_true rfl) (ev2_moveTo) ?_
  refine g_pop r2_read_9 rfl ?_
  refine g_k r2_read_10 ?_
  refine g_is3 r2_read_11 rfl ?_
  exact lp2_read_34 hL90 hS (L + 1) 0 (by omega) (by omega) (fun j hj => absurd hj (Nat.not_lt_zero j))
theorem ev2_takesInAct_44 {w v0 e1 e2 : Nat} {h : Int64} {I : zMI} {a : Nat} (ha : I 44 10 = nI (a + 1)) (ha10 : a < 10) {c : Int32} : zEr m2_takesInAct (zRR w v0 e1 e2) h I [.ref 3, .ref 44, .int c] (some (.int (if I 3 0 = 6 ∨ I 3 0 = 7 then zrNeR I 44 a c else zrMaR I 44 a c))) (zRR w v0 e1 e2) h (if I 3 0 = 6 ∨ I 3 0 = 7 then zrNe I 44 a c else zrMa I 44 a c) := by
  refine zEp_of [.ref 3, .ref 44, .int c, .null] pl2_takesInAct (by decide +kernel) (fun _ _ => rfl) (fun _ _ => Nat.le_of_ble_eq_true rfl) ?_
  refine g_al1 r2_takesInAct_0 ?_
  refine g_gfi r2_takesInAct_1 xx_44 rfl ?_
  refine g_k r2_takesInAct_4 ?_
  refine g_isub r2_takesInAct_5 ?_
  rw [ha, nI_pred]
  refine g_is3 r2_takesInAct_6 rfl ?_
  refine g_il3 r2_takesInAct_7 ?_
  refine g_iflt r2_takesInAct_8 (fun hc => absurd hc (nI_pos (by omega))) (fun _ => ?_)
  refine g_il3 r2_takesInAct_11 ?_
  refine g_k r2_takesInAct_12 ?_
  refine g_eqv (y := nI 10) rfl ?_
  refine g_icltN r2_takesInAct_14 (by omega) (by omega) (fun h14 => ?_) (fun hc => absurd hc (by omega))
  refine g_al0 r2_takesInAct_19 ?_
  refine g_gfi r2_takesInAct_20 xx_3 rfl ?_
  refine g_k r2_takesInAct_23 ?_
  refine g_iceq r2_takesInAct_25 (fun h25 => ?_) (fun h25 => ?_)
  · refine g_al0 r2_takesInAct_37 ?_
    refine g_al1 r2_takesInAct_38 ?_
    refine g_il3 r2_takesInAct_39 ?_
    refine g_il2 r2_takesInAct_40 ?_
    refine g_eV3 r2_takesInAct_41 ok2_takesInNeeds pl2_takesInAct pl2_takesInNeeds xx_3 (Nat.le_of_ble_eq_true rfl) (ev2_takesInNeeds_44 ha10) ?_
    refine g_goto r2_takesInAct_44 ?_
    exact g_zret r2_takesInAct_54 rfl (z01_zrNe ..) ⟨rfl, ⟨zrt (by simp [h25]), rfl, rfl, (by simp [h25])⟩⟩
  · refine g_al0 r2_takesInAct_28 ?_
    refine g_gfi r2_takesInAct_29 xx_3 rfl ?_
    refine g_k r2_takesInAct_32 ?_
    refine g_icne r2_takesInAct_34 (fun h34 => ?_) (fun h34 => ?_)
    · refine g_al0 r2_takesInAct_47 ?_
      refine g_al1 r2_takesInAct_48 ?_
      refine g_il3 r2_takesInAct_49 ?_
      refine g_il2 r2_takesInAct_50 ?_
      refine g_eV3 r2_takesInAct_51 ok2_takesInMakes pl2_takesInAct pl2_takesInMakes xx_3 (Nat.le_of_ble_eq_true rfl) (ev2_takesInMakes_44 ha ha10) ?_
      exact g_zret r2_takesInAct_54 rfl (z01_zrMa ..) ⟨rfl, ⟨zrt (by simp [h25, h34]), rfl, rfl, (by simp [h25, h34])⟩⟩
    · refine g_al0 r2_takesInAct_37 ?_
      refine g_al1 r2_takesInAct_38 ?_
      refine g_il3 r2_takesInAct_39 ?_
      refine g_il2 r2_takesInAct_40 ?_
      refine g_eV3 r2_takesInAct_41 ok2_takesInNeeds pl2_takesInAct pl2_takesInNeeds xx_3 (Nat.le_of_ble_eq_true rfl) (ev2_takesInNeeds_44 ha10) ?_
      refine g_goto r2_takesInAct_44 ?_
      exact g_zret r2_takesInAct_54 rfl (z01_zrNe ..) ⟨rfl, ⟨zrt (by simp [h34]), rfl, rfl, (by simp [h34])⟩⟩
theorem ev2_takes_44 {w v0 e1 e2 : Nat} {h : Int64} {I : zMI} {p a1 : Nat} (hs : zCS I 44 p a1) {c : Int32} : zEr m2_takes (zRR w v0 e1 e2) h I [.ref 3, .ref 44, .int c] (some (.int (zcR I 44 c a1))) (zRR w v0 e1 e2) h (zcM I 44 c p a1) := by
  refine zEp_of [.ref 3, .ref 44, .int c] pl2_takes (by decide +kernel) (fun _ _ => rfl) (fun _ _ => Nat.le_of_ble_eq_true rfl) ?_
  refine g_al0 r2_takes_0 ?_
  refine g_gfi r2_takes_1 xx_3 rfl ?_
  refine g_sw r2_takes_4 ⟨fun h4 => ?_, fun h4 => ?_, fun h4 => ?_, fun h4 => ?_, fun h4 => ?_, fun h4 => ?_, trivial⟩ (fun h4 => ?_)
  · refine g_al0 r2_takes_44 ?_
    refine g_al1 r2_takes_45 ?_
    refine g_il2 r2_takes_46 ?_
    refine g_eV2 r2_takes_47 ok2_takesKind pl2_takes pl2_takesKind xx_3 (Nat.le_of_ble_eq_true rfl) (ev2_takesKind_44 hs.1 (hs.2.2.1 h4)) ?_
    exact g_zret r2_takes_50 rfl (zb_01 _) ⟨rfl, ⟨zrt (by simp [zcR, h4]), rfl, rfl, (by simp [zcM, h4])⟩⟩
  · refine g_al0 r2_takes_51 ?_
    refine g_il2 r2_takes_52 ?_
    refine g_eV1 r2_takes_53 ok2_takesSign pl2_takes pl2_takesSign xx_3 (Nat.le_of_ble_eq_true rfl) (ev2_takesSign) ?_
    exact g_zret r2_takes_56 rfl (zb_01 _) ⟨rfl, ⟨zrt (by simp [zcR, h4]), rfl, rfl, (by simp [zcM, h4])⟩⟩
  · refine g_al0 r2_takes_57 ?_
    refine g_al1 r2_takes_58 ?_
    refine g_il2 r2_takes_59 ?_
    refine g_eV2 r2_takes_60 ok2_takesGoal pl2_takes pl2_takesGoal xx_3 (Nat.le_of_ble_eq_true rfl) (ev2_takesGoal_44 (hs.p (hs.2.2.2.1 h4)).1 (hs.p (hs.2.2.2.1 h4)).2) ?_
    exact g_zret r2_takes_63 rfl (zb_01 _) ⟨rfl, ⟨zrt (by simp [zcR, h4]), rfl, rfl, (by simp [zcM, h4])⟩⟩
  · refine g_al0 r2_takes_64 ?_
    refine g_al1 r2_takes_65 ?_
    refine g_il2 r2_takes_66 ?_
    refine g_eV2 r2_takes_67 ok2_takesAfterGoal pl2_takes pl2_takesAfterGoal xx_3 (Nat.le_of_ble_eq_true rfl) (ev2_takesAfterGoal_44) ?_
    exact g_zret r2_takes_70 rfl (zb_01 _) ⟨rfl, ⟨zrt (by simp [zcR, h4]), rfl, rfl, (by simp [zcM, h4])⟩⟩
  · refine g_al0 r2_takes_71 ?_
    refine g_al1 r2_takes_72 ?_
    refine g_il2 r2_takes_73 ?_
    refine g_eV2 r2_takes_74 ok2_takesFirstFact pl2_takes pl2_takesFirstFact xx_3 (Nat.le_of_ble_eq_true rfl) (ev2_takesFirstFact_44) ?_
    exact g_zret r2_takes_77 rfl (z01_zrFF ..) ⟨rfl, ⟨zrt (by simp [zcR, h4]), rfl, rfl, (by simp [zcM, h4])⟩⟩
  · refine g_al0 r2_takes_78 ?_
    refine g_al1 r2_takes_79 ?_
    refine g_il2 r2_takes_80 ?_
    refine g_eV2 r2_takes_81 ok2_takesOwner pl2_takes pl2_takesOwner xx_3 (Nat.le_of_ble_eq_true rfl) (ev2_takesOwner_44 hs.2.1 (hs.2.2.2.2.1 h4)) ?_
    exact g_zret r2_takes_84 rfl (zb_01 _) ⟨rfl, ⟨zrt (by simp [zcR, h4]), rfl, rfl, (by simp [zcM, h4])⟩⟩
  · simp only [List.mem_cons, List.not_mem_nil, or_false, forall_eq_or_imp, forall_eq] at h4
    have hq := hs.2.2.2.2.2 h4
    obtain ⟨q0, q1, q2, q3, q4, q5⟩ := h4
    refine g_al0 r2_takes_85 ?_
    refine g_al1 r2_takes_86 ?_
    refine g_il2 r2_takes_87 ?_
    refine g_eV2 r2_takes_88 ok2_takesInAct pl2_takes pl2_takesInAct xx_3 (Nat.le_of_ble_eq_true rfl) (ev2_takesInAct_44 (hs.a hq).1 (hs.a hq).2) ?_
    exact g_zret r2_takes_91 rfl (by split; exact z01_zrNe ..; exact z01_zrMa ..) ⟨rfl, ⟨zrt (by simp [zcR, q0, q1, q2, q3, q4, q5]), rfl, rfl, (by simp [zcM, q0, q1, q2, q3, q4, q5])⟩⟩
theorem lp2_read_44 {w v0 e1 e2 : Nat} {h : Int64} {I : zMI} {L : Nat} (hL90 : L ≤ 90) (hS : ∀ j, zct I 44 (I 2) j → j ≤ L → zCS (zcr I 44 (I 2) j) 44 ((zcr I 44 (I 2) j) 44 9).toNatClampNeg ((zcr I 44 (I 2) j) 44 10).toNatClampNeg ∧ (zcr I 44 (I 2) j) 2 = I 2 ∧ (zcr I 44 (I 2) j) 1 1 = nI L) : ∀ d i, L - i < d → i ≤ L → zct I 44 (I 2) i → zGo m2_read 12 [.ref 3, .ref 1, .ref 44, .int (nI i)] [] zX (zRR w v0 e1 e2) h (zcr I 44 (I 2) i) (fun v X1 R1 h1 I1 => X1 = zX ∧ ∃ k, k ≤ L ∧ zct I 44 (I 2) k ∧ ((k = L ∧ I1 = zcr I 44 (I 2) k) ∨ (k < L ∧ zcR (zcr I 44 (I 2) k) 44 (I 2 k) ((zcr I 44 (I 2) k) 44 10).toNatClampNeg = 0 ∧ I1 = zcr I 44 (I 2) (k + 1))) ∧ v = some (.int (nI k)) ∧ R1 = (zRR w v0 e1 e2) ∧ h1 = h) := by
  intro d
  induction d with
  | zero => intro i hd0; exact absurd hd0 (Nat.not_lt_zero _)
  | succ d ih =>
    intro i hd0 hd1 hT
    obtain ⟨hP, hrow, hlen⟩ := hS i hT hd1
    refine g_il3 r2_read_12 ?_
    refine g_al1 r2_read_13 ?_
    refine g_gfi r2_read_14 xx_1 rfl ?_
    refine g_eqv (y := nI L) hlen ?_
    refine g_icgeN r2_read_17 (by omega) (by omega) (fun h17 => ?_) (fun h17 => ?_)
    · refine g_al1 r2_read_42 ?_
      refine g_gfi r2_read_43 xx_1 rfl ?_
      refine g_eqv (y := nI i) (hlen.trans (by rw [show L = i by omega])) ?_
      exact g_iret r2_read_46 rfl ⟨rfl, ⟨i, hd1, hT, Or.inl ⟨by omega, rfl⟩, rfl, rfl, rfl⟩⟩
    · refine g_al0 r2_read_20 ?_
      refine g_al2 r2_read_21 ?_
      refine g_al1 r2_read_22 ?_
      refine g_gfr r2_read_23 xx_1 rfl rr_1_0 ?_
      refine g_il3 r2_read_26 ?_
      refine g_ialdN r2_read_27 xx_2 (by omega) (by decide) ?_
      rw [hrow]
      refine g_eV2 r2_read_28 ok2_takes pl2_read pl2_takes xx_3 (Nat.le_of_ble_eq_true rfl) (ev2_takes_44 hP) ?_
      refine g_ifne r2_read_31 (fun h31 => ?_) (fun h31 => ?_)
      · refine g_iiN3 r2_read_36 rfl ?_
        refine g_goto r2_read_39 ?_
        exact ih (i + 1) (by omega) (by omega) (fun j hj => by
          rcases Nat.lt_succ_iff_lt_or_eq.mp hj with q | rfl
          · exact hT j q
          · exact (z01_C _ _ _ _).resolve_left h31)
      · refine g_il3 r2_read_34 ?_
        exact g_iret r2_read_35 rfl ⟨rfl, ⟨i, hd1, hT, Or.inr ⟨h17, h31, rfl⟩, rfl, rfl, rfl⟩⟩
theorem ev2_read_44 {w v0 e1 e2 : Nat} {h : Int64} {I : zMI} {L : Nat} (hL90 : L ≤ 90) (hS : ∀ j, zct I 44 (I 2) j → j ≤ L → zCS (zcr I 44 (I 2) j) 44 ((zcr I 44 (I 2) j) 44 9).toNatClampNeg ((zcr I 44 (I 2) j) 44 10).toNatClampNeg ∧ (zcr I 44 (I 2) j) 2 = I 2 ∧ (zcr I 44 (I 2) j) 1 1 = nI L) : zEp m2_read (zRR w v0 e1 e2) h I [.ref 3, .ref 1, .ref 44] (fun v R1 h1 I1 => ∃ k, k ≤ L ∧ zct I 44 (I 2) k ∧ ((k = L ∧ I1 = zcr I 44 (I 2) k) ∨ (k < L ∧ zcR (zcr I 44 (I 2) k) 44 (I 2 k) ((zcr I 44 (I 2) k) 44 10).toNatClampNeg = 0 ∧ I1 = zcr I 44 (I 2) (k + 1))) ∧ v = some (.int (nI k)) ∧ R1 = (zRR w v0 e1 e2) ∧ h1 = h) := by
  refine zEp_of [.ref 3, .ref 1, .ref 44, .null] pl2_read (by decide +kernel) (fun _ _ => rfl) (fun _ _ => Nat.le_of_ble_eq_true rfl) ?_
  refine g_al2 r2_read_0 ?_
  refine g_eV0 r2_read_1 ok5_clear pl2_read pl5_clear xx_44 (Nat.le_of_ble_eq_true rfl) (ev2_clear_44) ?_
  refine g_al0 r2_read_4 ?_
  refine g_k r2_read_5 ?_
  refine g_eV1 r2_read_6 ok2_moveTo pl2_read pl2_moveTo xx_3 (Nat.le_of_ble_eq_true rfl) (ev2_moveTo) ?_
  refine g_pop r2_read_9 rfl ?_
  refine g_k r2_read_10 ?_
  refine g_is3 r2_read_11 rfl ?_
  exact lp2_read_44 hL90 hS (L + 1) 0 (by omega) (by omega) (fun j hj => absurd hj (Nat.not_lt_zero j))
