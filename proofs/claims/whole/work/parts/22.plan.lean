/-- an act of a set can be done; what is behind it -/
def zEa (J : zMI) (S : Int32) (a s : Nat) : Prop := S >>> (nI a &&& 31) &&& 1 = 1 ∧ (J 59 a &&& (nI s ^^^ (-1)) = 0 ∧ J 60 a &&& nI s = 0)
def zNx (J : zMI) (a s : Nat) : Nat := ((nI s &&& (J 62 a ^^^ (-1))) ||| J 61 a).toNatClampNeg
/-- the acts' effects stay within eight facts -/
def zA8 (J : zMI) (m : Nat) : Prop := ∀ a, a < m → z8 (J 61 a) ∧ z8 (J 62 a)
theorem zand8 {x : Int32} (y : Int32) (hx : z8 x) : z8 (x &&& y) := by
  obtain ⟨k, hk, rfl⟩ := hx
  refine ⟨k &&& y.toBitVec.toNat, Nat.lt_of_le_of_lt Nat.and_le_left hk, ?_⟩
  apply Int32.toBitVec_inj.mp
  show BitVec.ofNat 32 k &&& y.toBitVec = BitVec.ofNat 32 (k &&& y.toBitVec.toNat)
  apply BitVec.eq_of_toNat_eq
  simp only [BitVec.toNat_and, BitVec.toNat_ofNat]
  rw [Nat.mod_eq_of_lt (show k < 2 ^ 32 by omega), Nat.mod_eq_of_lt]
  exact Nat.lt_of_le_of_lt Nat.and_le_left (by omega)
theorem zn8 {s : Nat} (h : s < 256) : z8 (nI s) := ⟨s, h, rfl⟩
theorem zNx_spec {J : zMI} {m a s : Nat} (hJ : zA8 J m) (ha : a < m) (hs : s < 256) : (nI s &&& (J 62 a ^^^ (-1))) ||| J 61 a = nI (zNx J a s) ∧ zNx J a s < 256 := by
  obtain ⟨k, hk, e⟩ := z8or (zand8 (J 62 a ^^^ (-1)) (zn8 hs)) (hJ a ha).1
  have : zNx J a s = k := by rw [zNx, e]; exact nI_clamp (by omega)
  rw [this]; exact ⟨e, hk⟩
def zlf (I : zMI) (S : Int32) (s : Nat) : Nat → Int32
  | 0 => I 78 s
  | a + 1 => if (if S >>> (nI a &&& 31) &&& 1 = 1 ∧ (I 59 a &&& (nI s ^^^ (-1)) = 0 ∧ I 60 a &&& nI s = 0) then I 78 (zNx I a s) + 1 else 1000) < zlf I S s a then (if S >>> (nI a &&& 31) &&& 1 = 1 ∧ (I 59 a &&& (nI s ^^^ (-1)) = 0 ∧ I 60 a &&& nI s = 0) then I 78 (zNx I a s) + 1 else 1000) else zlf I S s a
theorem lp7_lessFrom {w v0 e1 e2 : Nat} {h : Int64} {I : zMI} {s : Nat} {S : Int32} (hs : s < 256) (hS : I 54 38 = S) {m : Nat} (hm : I 54 5 = nI m) (hm10 : m ≤ 10) (hA : zA8 I m) : ∀ d i (y z : Value), m - i < d → i ≤ m → zGo m7_lessFrom 9 [.ref 54, .int (nI s), .int (zlf I S s i), .int (nI i), y, z] [] zX (zRR w v0 e1 e2) h I (fun v X1 R1 h1 I1 => X1 = zX ∧ v = some (.int (zlf I S s m)) ∧ R1 = (zRR w v0 e1 e2) ∧ h1 = h ∧ I1 = I) := by
  intro d
  induction d with
  | zero => intro i y z hd0; exact absurd hd0 (Nat.not_lt_zero _)
  | succ d ih =>
    intro i y z hd0 hd1
    refine g_il3 r7_lessFrom_9 ?_
    refine g_al0 r7_lessFrom_10 ?_
    refine g_gfi r7_lessFrom_11 xx_54 rfl ?_
    refine g_eqv (y := nI m) hm ?_
    refine g_icgeN r7_lessFrom_14 (by omega) (by omega) (fun h14 => ?_) (fun h14 => ?_)
    · refine g_il2 r7_lessFrom_90 ?_
      exact g_iret r7_lessFrom_91 rfl ⟨rfl, ⟨zrt (by rw [show i = m by omega]), rfl, rfl, rfl⟩⟩
    · refine g_al0 r7_lessFrom_17 ?_
      refine g_gfi r7_lessFrom_18 xx_54 rfl ?_
      rw [hS]
      refine g_il3 r7_lessFrom_21 ?_
      refine g_ishr r7_lessFrom_22 ?_
      refine g_k r7_lessFrom_23 ?_
      refine g_iand r7_lessFrom_24 ?_
      refine g_k r7_lessFrom_25 ?_
      refine g_icne r7_lessFrom_26 (fun h26 => ?_) (fun h26 => ?_)
      · have hav : ¬ (S >>> (nI i &&& 31) &&& 1 = 1 ∧ (I 59 i &&& (nI s ^^^ (-1)) = 0 ∧ I 60 i &&& nI s = 0)) := (by first | (intro q; exact h26 q.1) | (intro q; exact h35 q.2))
        refine g_k r7_lessFrom_42 ?_
        refine g_is4 r7_lessFrom_43 rfl ?_
        refine g_il4 r7_lessFrom_45 ?_
        refine g_ifeq r7_lessFrom_47 (fun _ => ?_) (fun hc => absurd rfl hc)
        refine g_k r7_lessFrom_66 ?_
        refine g_is5 r7_lessFrom_69 rfl ?_
        refine g_il5 r7_lessFrom_71 ?_
        refine g_il2 r7_lessFrom_73 ?_
        refine g_icgeL r7_lessFrom_74 (fun h74 => ?_) (fun h74 => ?_)
        · refine g_il2 r7_lessFrom_82 ?_
          refine g_is2 r7_lessFrom_83 rfl ?_
          refine g_iiN3 r7_lessFrom_84 rfl ?_
          refine g_goto r7_lessFrom_87 ?_
          have ih2 := fun y z => ih (i + 1) y z (by omega) (by omega)
          first | (simp only [zlf, if_pos hav, if_pos h74] at ih2; exact ih2 _ _) | (simp only [zlf, if_pos hav, if_neg h74] at ih2; exact ih2 _ _) | (simp only [zlf, if_neg hav, if_pos h74] at ih2; exact ih2 _ _) | (simp only [zlf, if_neg hav, if_neg h74] at ih2; exact ih2 _ _)
        · refine g_il5 r7_lessFrom_77 ?_
          refine g_goto r7_lessFrom_79 ?_
          refine g_is2 r7_lessFrom_83 rfl ?_
          refine g_iiN3 r7_lessFrom_84 rfl ?_
          refine g_goto r7_lessFrom_87 ?_
          have ih2 := fun y z => ih (i + 1) y z (by omega) (by omega)
          first | (simp only [zlf, if_pos hav, if_pos h74] at ih2; exact ih2 _ _) | (simp only [zlf, if_pos hav, if_neg h74] at ih2; exact ih2 _ _) | (simp only [zlf, if_neg hav, if_pos h74] at ih2; exact ih2 _ _) | (simp only [zlf, if_neg hav, if_neg h74] at ih2; exact ih2 _ _)
      · refine g_al0 r7_lessFrom_29 ?_
        refine g_il3 r7_lessFrom_30 ?_
        refine g_il1 r7_lessFrom_31 ?_
        refine g_eV2 r7_lessFrom_32 ok7_canDo pl7_lessFrom pl7_canDo xx_54 (Nat.le_of_ble_eq_true rfl) (ev7_canDo (by omega)) ?_
        refine g_ifeqB r7_lessFrom_35 (fun h35 => ?_) (fun h35 => ?_)
        · have hav : ¬ (S >>> (nI i &&& 31) &&& 1 = 1 ∧ (I 59 i &&& (nI s ^^^ (-1)) = 0 ∧ I 60 i &&& nI s = 0)) := (by first | (intro q; exact h26 q.1) | (intro q; exact h35 q.2))
          refine g_k r7_lessFrom_42 ?_
          refine g_is4 r7_lessFrom_43 rfl ?_
          refine g_il4 r7_lessFrom_45 ?_
          refine g_ifeq r7_lessFrom_47 (fun _ => ?_) (fun hc => absurd rfl hc)
          refine g_k r7_lessFrom_66 ?_
          refine g_is5 r7_lessFrom_69 rfl ?_
          refine g_il5 r7_lessFrom_71 ?_
          refine g_il2 r7_lessFrom_73 ?_
          refine g_icgeL r7_lessFrom_74 (fun h74 => ?_) (fun h74 => ?_)
          · refine g_il2 r7_lessFrom_82 ?_
            refine g_is2 r7_lessFrom_83 rfl ?_
            refine g_iiN3 r7_lessFrom_84 rfl ?_
            refine g_goto r7_lessFrom_87 ?_
            have ih2 := fun y z => ih (i + 1) y z (by omega) (by omega)
            first | (simp only [zlf, if_pos hav, if_pos h74] at ih2; exact ih2 _ _) | (simp only [zlf, if_pos hav, if_neg h74] at ih2; exact ih2 _ _) | (simp only [zlf, if_neg hav, if_pos h74] at ih2; exact ih2 _ _) | (simp only [zlf, if_neg hav, if_neg h74] at ih2; exact ih2 _ _)
          · refine g_il5 r7_lessFrom_77 ?_
            refine g_goto r7_lessFrom_79 ?_
            refine g_is2 r7_lessFrom_83 rfl ?_
            refine g_iiN3 r7_lessFrom_84 rfl ?_
            refine g_goto r7_lessFrom_87 ?_
            have ih2 := fun y z => ih (i + 1) y z (by omega) (by omega)
            first | (simp only [zlf, if_pos hav, if_pos h74] at ih2; exact ih2 _ _) | (simp only [zlf, if_pos hav, if_neg h74] at ih2; exact ih2 _ _) | (simp only [zlf, if_neg hav, if_pos h74] at ih2; exact ih2 _ _) | (simp only [zlf, if_neg hav, if_neg h74] at ih2; exact ih2 _ _)
        · have hav : S >>> (nI i &&& 31) &&& 1 = 1 ∧ (I 59 i &&& (nI s ^^^ (-1)) = 0 ∧ I 60 i &&& nI s = 0) := ⟨h26, h35⟩
          refine g_k r7_lessFrom_38 ?_
          refine g_goto r7_lessFrom_39 ?_
          refine g_is4 r7_lessFrom_43 rfl ?_
          refine g_il4 r7_lessFrom_45 ?_
          refine g_ifeq r7_lessFrom_47 (fun hc => absurd hc (by decide)) (fun _ => ?_)
          refine g_al0 r7_lessFrom_50 ?_
          refine g_gfr r7_lessFrom_51 xx_54 rfl rr_54_37 ?_
          refine g_al0 r7_lessFrom_54 ?_
          refine g_il3 r7_lessFrom_55 ?_
          refine g_il1 r7_lessFrom_56 ?_
          refine g_eV2 r7_lessFrom_57 ok7_behind pl7_lessFrom pl7_behind xx_54 (Nat.le_of_ble_eq_true rfl) (ev7_behind (by omega)) ?_
          refine g_eqv (y := nI (zNx I i s)) (zNx_spec hA (by omega) hs).1 ?_
          refine g_ialdN r7_lessFrom_60 xx_78 ((zNx_spec hA (by omega) hs).2) (by decide) ?_
          refine g_k r7_lessFrom_61 ?_
          refine g_iadd r7_lessFrom_62 ?_
          refine g_goto r7_lessFrom_63 ?_
          refine g_is5 r7_lessFrom_69 rfl ?_
          refine g_il5 r7_lessFrom_71 ?_
          refine g_il2 r7_lessFrom_73 ?_
          refine g_icgeL r7_lessFrom_74 (fun h74 => ?_) (fun h74 => ?_)
          · refine g_il2 r7_lessFrom_82 ?_
            refine g_is2 r7_lessFrom_83 rfl ?_
            refine g_iiN3 r7_lessFrom_84 rfl ?_
            refine g_goto r7_lessFrom_87 ?_
            have ih2 := fun y z => ih (i + 1) y z (by omega) (by omega)
            first | (simp only [zlf, if_pos hav, if_pos h74] at ih2; exact ih2 _ _) | (simp only [zlf, if_pos hav, if_neg h74] at ih2; exact ih2 _ _) | (simp only [zlf, if_neg hav, if_pos h74] at ih2; exact ih2 _ _) | (simp only [zlf, if_neg hav, if_neg h74] at ih2; exact ih2 _ _)
          · refine g_il5 r7_lessFrom_77 ?_
            refine g_goto r7_lessFrom_79 ?_
            refine g_is2 r7_lessFrom_83 rfl ?_
            refine g_iiN3 r7_lessFrom_84 rfl ?_
            refine g_goto r7_lessFrom_87 ?_
            have ih2 := fun y z => ih (i + 1) y z (by omega) (by omega)
            first | (simp only [zlf, if_pos hav, if_pos h74] at ih2; exact ih2 _ _) | (simp only [zlf, if_pos hav, if_neg h74] at ih2; exact ih2 _ _) | (simp only [zlf, if_neg hav, if_pos h74] at ih2; exact ih2 _ _) | (simp only [zlf, if_neg hav, if_neg h74] at ih2; exact ih2 _ _)
theorem ev7_lessFrom {w v0 e1 e2 : Nat} {h : Int64} {I : zMI} {s : Nat} {S : Int32} (hs : s < 256) (hS : I 54 38 = S) {m : Nat} (hm : I 54 5 = nI m) (hm10 : m ≤ 10) (hA : zA8 I m) : zEr m7_lessFrom (zRR w v0 e1 e2) h I [.ref 54, .int (nI s)] (some (.int (zlf I S s m))) (zRR w v0 e1 e2) h I := by
  refine zEp_of [.ref 54, .int (nI s), .null, .null, .null, .null] pl7_lessFrom (by decide +kernel) (fun _ _ => rfl) (fun _ _ => Nat.le_of_ble_eq_true rfl) ?_
  refine g_al0 r7_lessFrom_0 ?_
  refine g_gfr r7_lessFrom_1 xx_54 rfl rr_54_37 ?_
  refine g_il1 r7_lessFrom_4 ?_
  refine g_ialdN r7_lessFrom_5 xx_78 (by omega) (by decide) ?_
  refine g_is2 r7_lessFrom_6 rfl ?_
  refine g_k r7_lessFrom_7 ?_
  refine g_is3 r7_lessFrom_8 rfl ?_
  exact lp7_lessFrom hs hS hm hm10 hA (m + 1) 0 _ _ (by omega) (by omega)
