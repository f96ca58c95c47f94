theorem ev7_canDo {w v0 e1 e2 : Nat} {h : Int64} {I : zMI} {a : Nat} {s : Int32} (ha : a < 10) : zEr m7_canDo (zRR w v0 e1 e2) h I [.ref 54, .int (nI a), .int s] (some (.int (zb (I 59 a &&& (s ^^^ (-1)) = 0 ∧ I 60 a &&& s = 0)))) (zRR w v0 e1 e2) h I := by
  refine zEp_of [.ref 54, .int (nI a), .int s] pl7_canDo (by decide +kernel) (fun _ _ => rfl) (fun _ _ => Nat.le_of_ble_eq_true rfl) ?_
  refine g_al0 r7_canDo_0 ?_
  refine g_gfr r7_canDo_1 xx_54 rfl rr_54_7 ?_
  refine g_il1 r7_canDo_4 ?_
  refine g_ialdN r7_canDo_5 xx_59 (by omega) (by decide) ?_
  refine g_il2 r7_canDo_6 ?_
  refine g_k r7_canDo_7 ?_
  refine g_ixor r7_canDo_8 ?_
  refine g_iand r7_canDo_9 ?_
  refine g_ifne r7_canDo_10 (fun h10 => ?_) (fun h10 => ?_)
  · refine g_k r7_canDo_28 ?_
    exact g_zret r7_canDo_29 rfl (Or.inl rfl) ⟨rfl, ⟨zrt (by first | rfl | (simp [zb, zs_ap, upd_ap, zs_zs, *]; done) | (simp_all [zb, zs_ap, upd_ap, zs_zs]; done) | (simp only [zb, zs_ap, upd_ap, zs_zs, Int32.le_iff_toInt_le, Int32.lt_iff_toInt_lt] at *; (repeat' split) <;> first | rfl | omega)), rfl, rfl, (by first | rfl | (simp [zb, zs_ap, upd_ap, zs_zs, *]; done) | (simp_all [zb, zs_ap, upd_ap, zs_zs]; done) | (simp only [zb, zs_ap, upd_ap, zs_zs, Int32.le_iff_toInt_le, Int32.lt_iff_toInt_lt] at *; (repeat' split) <;> first | rfl | omega))⟩⟩
  · refine g_al0 r7_canDo_13 ?_
    refine g_gfr r7_canDo_14 xx_54 rfl rr_54_8 ?_
    refine g_il1 r7_canDo_17 ?_
    refine g_ialdN r7_canDo_18 xx_60 (by omega) (by decide) ?_
    refine g_il2 r7_canDo_19 ?_
    refine g_iand r7_canDo_20 ?_
    refine g_ifne r7_canDo_21 (fun h21 => ?_) (fun h21 => ?_)
    · refine g_k r7_canDo_28 ?_
      exact g_zret r7_canDo_29 rfl (Or.inl rfl) ⟨rfl, ⟨zrt (by first | rfl | (simp [zb, zs_ap, upd_ap, zs_zs, *]; done) | (simp_all [zb, zs_ap, upd_ap, zs_zs]; done) | (simp only [zb, zs_ap, upd_ap, zs_zs, Int32.le_iff_toInt_le, Int32.lt_iff_toInt_lt] at *; (repeat' split) <;> first | rfl | omega)), rfl, rfl, (by first | rfl | (simp [zb, zs_ap, upd_ap, zs_zs, *]; done) | (simp_all [zb, zs_ap, upd_ap, zs_zs]; done) | (simp only [zb, zs_ap, upd_ap, zs_zs, Int32.le_iff_toInt_le, Int32.lt_iff_toInt_lt] at *; (repeat' split) <;> first | rfl | omega))⟩⟩
    · refine g_k r7_canDo_24 ?_
      refine g_goto r7_canDo_25 ?_
      exact g_zret r7_canDo_29 rfl (Or.inr rfl) ⟨rfl, ⟨zrt (by first | rfl | (simp [zb, zs_ap, upd_ap, zs_zs, *]; done) | (simp_all [zb, zs_ap, upd_ap, zs_zs]; done) | (simp only [zb, zs_ap, upd_ap, zs_zs, Int32.le_iff_toInt_le, Int32.lt_iff_toInt_lt] at *; (repeat' split) <;> first | rfl | omega)), rfl, rfl, (by first | rfl | (simp [zb, zs_ap, upd_ap, zs_zs, *]; done) | (simp_all [zb, zs_ap, upd_ap, zs_zs]; done) | (simp only [zb, zs_ap, upd_ap, zs_zs, Int32.le_iff_toInt_le, Int32.lt_iff_toInt_lt] at *; (repeat' split) <;> first | rfl | omega))⟩⟩
theorem ev7_behind {w v0 e1 e2 : Nat} {h : Int64} {I : zMI} {a : Nat} {s : Int32} (ha : a < 10) : zEr m7_behind (zRR w v0 e1 e2) h I [.ref 54, .int (nI a), .int s] (some (.int ((s &&& (I 62 a ^^^ (-1))) ||| I 61 a))) (zRR w v0 e1 e2) h I := by
  refine zEp_of [.ref 54, .int (nI a), .int s] pl7_behind (by decide +kernel) (fun _ _ => rfl) (fun _ _ => Nat.le_of_ble_eq_true rfl) ?_
  refine g_il2 r7_behind_0 ?_
  refine g_al0 r7_behind_1 ?_
  refine g_gfr r7_behind_2 xx_54 rfl rr_54_10 ?_
  refine g_il1 r7_behind_5 ?_
  refine g_ialdN r7_behind_6 xx_62 (by omega) (by decide) ?_
  refine g_k r7_behind_7 ?_
  refine g_ixor r7_behind_8 ?_
  refine g_iand r7_behind_9 ?_
  refine g_al0 r7_behind_10 ?_
  refine g_gfr r7_behind_11 xx_54 rfl rr_54_9 ?_
  refine g_il1 r7_behind_14 ?_
  refine g_ialdN r7_behind_15 xx_61 (by omega) (by decide) ?_
  refine g_ior r7_behind_16 ?_
  exact g_iret r7_behind_17 rfl ⟨rfl, ⟨zrt (by first | rfl | (simp [zb, zs_ap, upd_ap, zs_zs, *]; done) | (simp_all [zb, zs_ap, upd_ap, zs_zs]; done) | (simp only [zb, zs_ap, upd_ap, zs_zs, Int32.le_iff_toInt_le, Int32.lt_iff_toInt_lt] at *; (repeat' split) <;> first | rfl | omega)), rfl, rfl, (by first | rfl | (simp [zb, zs_ap, upd_ap, zs_zs, *]; done) | (simp_all [zb, zs_ap, upd_ap, zs_zs]; done) | (simp only [zb, zs_ap, upd_ap, zs_zs, Int32.le_iff_toInt_le, Int32.lt_iff_toInt_lt] at *; (repeat' split) <;> first | rfl | omega))⟩⟩
def zwa (I : zMI) (k : Nat) (s : Int32) : Prop := zb (s >>> (I 56 k &&& 31) &&& 1 = 1) = I 57 k
def zcan (I : zMI) (a : Nat) (s : Int32) : Prop := I 59 a &&& (s ^^^ (-1)) = 0 ∧ I 60 a &&& s = 0
def zbeh (I : zMI) (a : Nat) (s : Int32) : Int32 := (s &&& (I 62 a ^^^ (-1))) ||| I 61 a
abbrev zwaD (I : zMI) (k : Nat) (s : Int32) : Decidable (zwa I k s) := inferInstanceAs (Decidable (_ = _))
def zwi (I : zMI) (s : Int32) : Nat → Int32
  | 0 => 0
  | k + 1 => zwi I s k ||| (if zb (s >>> (I 56 k &&& 31) &&& 1 = 1) = I 57 k then 1 <<< (nI k &&& 31) else 0)
def ztd (I : zMI) (x : Int32) : Nat → Int32
  | 0 => 0
  | k + 1 => ztd I x k + (if I 63 k = x then 1 else 0)
def zao (I : zMI) (q : Nat) (t : Nat) : Nat → Int32
  | 0 => 0
  | a + 1 => zao I q t a ||| (if I 58 a = nI q ∨ (I 55 q = 2 ∧ 1 < ztd I (nI a) t) then 1 <<< (nI a &&& 31) else 0)
def zsb (I : zMI) (q : Int32) : Nat → Int32
  | 0 => 0
  | k + 1 => zsb I q k + (if ¬ I 63 k = -1 ∧ I 58 (I 63 k).toNatClampNeg = q then 1 else 0)
def zbc (x : Int32) : Nat → Int32
  | 0 => 0
  | k + 1 => zbc x k + (x >>> (nI k &&& 31) &&& 1)
theorem ev7_isWanted {w v0 e1 e2 : Nat} {h : Int64} {I : zMI} {k : Nat} {s : Int32} (hk : k < 4) : zEr m7_isWanted (zRR w v0 e1 e2) h I [.ref 54, .int (nI k), .int s] (some (.int (zb (zb (s >>> (I 56 k &&& 31) &&& 1 = 1) = I 57 k)))) (zRR w v0 e1 e2) h I := by
  refine zEp_of [.ref 54, .int (nI k), .int s] pl7_isWanted (by decide +kernel) (fun _ _ => rfl) (fun _ _ => Nat.le_of_ble_eq_true rfl) ?_
  refine g_il2 r7_isWanted_0 ?_
  refine g_al0 r7_isWanted_1 ?_
  refine g_gfr r7_isWanted_2 xx_54 rfl rr_54_2 ?_
  refine g_il1 r7_isWanted_5 ?_
  refine g_ialdN r7_isWanted_6 xx_56 (by omega) (by decide) ?_
  refine g_ishr r7_isWanted_7 ?_
  refine g_k r7_isWanted_8 ?_
  refine g_iand r7_isWanted_9 ?_
  refine g_k r7_isWanted_10 ?_
  refine g_icne r7_isWanted_11 (fun h11 => ?_) (fun h11 => ?_)
  · refine g_k r7_isWanted_18 ?_
    refine g_al0 r7_isWanted_19 ?_
    refine g_gfr r7_isWanted_20 xx_54 rfl rr_54_3 ?_
    refine g_il1 r7_isWanted_23 ?_
    refine g_zaldN r7_isWanted_24 xx_57 (by omega) (by decide) ?_
    refine g_icne r7_isWanted_25 (fun h25 => ?_) (fun h25 => ?_)
    · refine g_k r7_isWanted_32 ?_
      exact g_zret r7_isWanted_33 rfl (Or.inl rfl) ⟨rfl, ⟨zrt (by first | rfl | (simp [zb, zs_ap, upd_ap, zs_zs, *]; done) | (simp_all [zb, zs_ap, upd_ap, zs_zs]; done) | (simp only [zb, zs_ap, upd_ap, zs_zs, Int32.le_iff_toInt_le, Int32.lt_iff_toInt_lt] at *; (repeat' split) <;> first | rfl | omega)), rfl, rfl, (by first | rfl | (simp [zb, zs_ap, upd_ap, zs_zs, *]; done) | (simp_all [zb, zs_ap, upd_ap, zs_zs]; done) | (simp only [zb, zs_ap, upd_ap, zs_zs, Int32.le_iff_toInt_le, Int32.lt_iff_toInt_lt] at *; (repeat' split) <;> first | rfl | omega))⟩⟩
    · refine g_k r7_isWanted_28 ?_
      refine g_goto r7_isWanted_29 ?_
      exact g_zret r7_isWanted_33 rfl (Or.inr rfl) ⟨rfl, ⟨zrt (by first | rfl | (simp [zb, zs_ap, upd_ap, zs_zs, *]; done) | (simp_all [zb, zs_ap, upd_ap, zs_zs]; done) | (simp only [zb, zs_ap, upd_ap, zs_zs, Int32.le_iff_toInt_le, Int32.lt_iff_toInt_lt] at *; (repeat' split) <;> first | rfl | omega)), rfl, rfl, (by first | rfl | (simp [zb, zs_ap, upd_ap, zs_zs, *]; done) | (simp_all [zb, zs_ap, upd_ap, zs_zs]; done) | (simp only [zb, zs_ap, upd_ap, zs_zs, Int32.le_iff_toInt_le, Int32.lt_iff_toInt_lt] at *; (repeat' split) <;> first | rfl | omega))⟩⟩
  · refine g_k r7_isWanted_14 ?_
    refine g_goto r7_isWanted_15 ?_
    refine g_al0 r7_isWanted_19 ?_
    refine g_gfr r7_isWanted_20 xx_54 rfl rr_54_3 ?_
    refine g_il1 r7_isWanted_23 ?_
    refine g_zaldN r7_isWanted_24 xx_57 (by omega) (by decide) ?_
    refine g_icne r7_isWanted_25 (fun h25 => ?_) (fun h25 => ?_)
    · refine g_k r7_isWanted_32 ?_
      exact g_zret r7_isWanted_33 rfl (Or.inl rfl) ⟨rfl, ⟨zrt (by first | rfl | (simp [zb, zs_ap, upd_ap, zs_zs, *]; done) | (simp_all [zb, zs_ap, upd_ap, zs_zs]; done) | (simp only [zb, zs_ap, upd_ap, zs_zs, Int32.le_iff_toInt_le, Int32.lt_iff_toInt_lt] at *; (repeat' split) <;> first | rfl | omega)), rfl, rfl, (by first | rfl | (simp [zb, zs_ap, upd_ap, zs_zs, *]; done) | (simp_all [zb, zs_ap, upd_ap, zs_zs]; done) | (simp only [zb, zs_ap, upd_ap, zs_zs, Int32.le_iff_toInt_le, Int32.lt_iff_toInt_lt] at *; (repeat' split) <;> first | rfl | omega))⟩⟩
    · refine g_k r7_isWanted_28 ?_
      refine g_goto r7_isWanted_29 ?_
      exact g_zret r7_isWanted_33 rfl (Or.inr rfl) ⟨rfl, ⟨zrt (by first | rfl | (simp [zb, zs_ap, upd_ap, zs_zs, *]; done) | (simp_all [zb, zs_ap, upd_ap, zs_zs]; done) | (simp only [zb, zs_ap, upd_ap, zs_zs, Int32.le_iff_toInt_le, Int32.lt_iff_toInt_lt] at *; (repeat' split) <;> first | rfl | omega)), rfl, rfl, (by first | rfl | (simp [zb, zs_ap, upd_ap, zs_zs, *]; done) | (simp_all [zb, zs_ap, upd_ap, zs_zs]; done) | (simp only [zb, zs_ap, upd_ap, zs_zs, Int32.le_iff_toInt_le, Int32.lt_iff_toInt_lt] at *; (repeat' split) <;> first | rfl | omega))⟩⟩
theorem lp7_wantsIn {w v0 e1 e2 : Nat} {h : Int64} {I : zMI} {s : Int32} {n : Nat} (hn : I 54 0 = nI n) (hn4 : n ≤ 4) : ∀ d i, n - i < d → i ≤ n → zGo m7_wantsIn 4 [.ref 54, .int s, .int (zwi I s i), .int (nI i)] [] zX (zRR w v0 e1 e2) h I (fun v X1 R1 h1 I1 => X1 = zX ∧ v = some (.int (zwi I s n)) ∧ R1 = (zRR w v0 e1 e2) ∧ h1 = h ∧ I1 = I) := by
  intro d
  induction d with
  | zero => intro i hd0; exact absurd hd0 (Nat.not_lt_zero _)
  | succ d ih =>
    intro i hd0 hd1
    refine g_il3 r7_wantsIn_4 ?_
    refine g_al0 r7_wantsIn_5 ?_
    refine g_gfi r7_wantsIn_6 xx_54 rfl ?_
    refine g_eqv (y := nI n) hn ?_
    refine g_icgeN r7_wantsIn_9 (by omega) (by omega) (fun h9 => ?_) (fun h9 => ?_)
    · refine g_il2 r7_wantsIn_37 ?_
      exact g_iret r7_wantsIn_38 rfl ⟨rfl, ⟨zrt (by rw [show i = n by omega]), rfl, rfl, rfl⟩⟩
    · refine g_il2 r7_wantsIn_12 ?_
      refine g_al0 r7_wantsIn_13 ?_
      refine g_il3 r7_wantsIn_14 ?_
      refine g_il1 r7_wantsIn_15 ?_
      refine g_eV2 r7_wantsIn_16 ok7_isWanted pl7_wantsIn pl7_isWanted xx_54 (Nat.le_of_ble_eq_true rfl) (ev7_isWanted (by omega)) ?_
      refine g_ifeqB r7_wantsIn_19 (fun h19 => ?_) (fun h19 => ?_)
      · refine g_k r7_wantsIn_28 ?_
        refine g_ior r7_wantsIn_29 ?_
        refine g_is2 r7_wantsIn_30 rfl ?_
        refine g_iiN3 r7_wantsIn_31 rfl ?_
        refine g_goto r7_wantsIn_34 ?_
        have ih2 := ih (i + 1) (by omega) (by omega)
        first | (have hp : zb (s >>> (I 56 i &&& 31) &&& 1 = 1) = I 57 i := (by first | assumption | (simp_all; done)); simp only [zwi, if_pos hp] at ih2; exact ih2) | (have hp : ¬ (zb (s >>> (I 56 i &&& 31) &&& 1 = 1) = I 57 i) := (by first | assumption | (simp_all; done)); simp only [zwi, if_neg hp] at ih2; exact ih2)
      · refine g_k r7_wantsIn_22 ?_
        refine g_il3 r7_wantsIn_23 ?_
        refine g_ishl r7_wantsIn_24 ?_
        refine g_goto r7_wantsIn_25 ?_
        refine g_ior r7_wantsIn_29 ?_
        refine g_is2 r7_wantsIn_30 rfl ?_
        refine g_iiN3 r7_wantsIn_31 rfl ?_
        refine g_goto r7_wantsIn_34 ?_
        have ih2 := ih (i + 1) (by omega) (by omega)
        first | (have hp : zb (s >>> (I 56 i &&& 31) &&& 1 = 1) = I 57 i := (by first | assumption | (simp_all; done)); simp only [zwi, if_pos hp] at ih2; exact ih2) | (have hp : ¬ (zb (s >>> (I 56 i &&& 31) &&& 1 = 1) = I 57 i) := (by first | assumption | (simp_all; done)); simp only [zwi, if_neg hp] at ih2; exact ih2)
theorem ev7_wantsIn {w v0 e1 e2 : Nat} {h : Int64} {I : zMI} {s : Int32} {n : Nat} (hn : I 54 0 = nI n) (hn4 : n ≤ 4) : zEr m7_wantsIn (zRR w v0 e1 e2) h I [.ref 54, .int s] (some (.int (zwi I s n))) (zRR w v0 e1 e2) h I := by
  refine zEp_of [.ref 54, .int s, .null, .null] pl7_wantsIn (by decide +kernel) (fun _ _ => rfl) (fun _ _ => Nat.le_of_ble_eq_true rfl) ?_
  refine g_k r7_wantsIn_0 ?_
  refine g_is2 r7_wantsIn_1 rfl ?_
  refine g_k r7_wantsIn_2 ?_
  refine g_is3 r7_wantsIn_3 rfl ?_
  exact lp7_wantsIn hn hn4 (n + 1) 0 (by omega) (by omega)
theorem lp7_timesDone {w v0 e1 e2 : Nat} {h : Int64} {I : zMI} {x : Int32} {t : Nat} (ht : I 54 13 = nI t) (ht30 : t ≤ 30) : ∀ d i, t - i < d → i ≤ t → zGo m7_timesDone 4 [.ref 54, .int x, .int (ztd I x i), .int (nI i)] [] zX (zRR w v0 e1 e2) h I (fun v X1 R1 h1 I1 => X1 = zX ∧ v = some (.int (ztd I x t)) ∧ R1 = (zRR w v0 e1 e2) ∧ h1 = h ∧ I1 = I) := by
  intro d
  induction d with
  | zero => intro i hd0; exact absurd hd0 (Nat.not_lt_zero _)
  | succ d ih =>
    intro i hd0 hd1
    refine g_il3 r7_timesDone_4 ?_
    refine g_al0 r7_timesDone_5 ?_
    refine g_gfi r7_timesDone_6 xx_54 rfl ?_
    refine g_eqv (y := nI t) ht ?_
    refine g_icgeN r7_timesDone_9 (by omega) (by omega) (fun h9 => ?_) (fun h9 => ?_)
    · refine g_il2 r7_timesDone_36 ?_
      exact g_iret r7_timesDone_37 rfl ⟨rfl, ⟨zrt (by rw [show i = t by omega]), rfl, rfl, rfl⟩⟩
    · refine g_il2 r7_timesDone_12 ?_
      refine g_al0 r7_timesDone_13 ?_
      refine g_gfr r7_timesDone_14 xx_54 rfl rr_54_14 ?_
      refine g_il3 r7_timesDone_17 ?_
      refine g_ialdN r7_timesDone_18 xx_63 (by omega) (by decide) ?_
      refine g_il1 r7_timesDone_19 ?_
      refine g_icne r7_timesDone_20 (fun h20 => ?_) (fun h20 => ?_)
      · refine g_k r7_timesDone_27 ?_
        refine g_iadd r7_timesDone_28 ?_
        refine g_is2 r7_timesDone_29 rfl ?_
        refine g_iiN3 r7_timesDone_30 rfl ?_
        refine g_goto r7_timesDone_33 ?_
        have ih2 := ih (i + 1) (by omega) (by omega)
        first | (have hp : I 63 i = x := (by first | assumption | (simp_all; done)); simp only [ztd, if_pos hp] at ih2; exact ih2) | (have hp : ¬ (I 63 i = x) := (by first | assumption | (simp_all; done)); simp only [ztd, if_neg hp] at ih2; exact ih2)
      · refine g_k r7_timesDone_23 ?_
        refine g_goto r7_timesDone_24 ?_
        refine g_iadd r7_timesDone_28 ?_
        refine g_is2 r7_timesDone_29 rfl ?_
        refine g_iiN3 r7_timesDone_30 rfl ?_
        refine g_goto r7_timesDone_33 ?_
        have ih2 := ih (i + 1) (by omega) (by omega)
        first | (have hp : I 63 i = x := (by first | assumption | (simp_all; done)); simp only [ztd, if_pos hp] at ih2; exact ih2) | (have hp : ¬ (I 63 i = x) := (by first | assumption | (simp_all; done)); simp only [ztd, if_neg hp] at ih2; exact ih2)
theorem ev7_timesDone {w v0 e1 e2 : Nat} {h : Int64} {I : zMI} {x : Int32} {t : Nat} (ht : I 54 13 = nI t) (ht30 : t ≤ 30) : zEr m7_timesDone (zRR w v0 e1 e2) h I [.ref 54, .int x] (some (.int (ztd I x t))) (zRR w v0 e1 e2) h I := by
  refine zEp_of [.ref 54, .int x, .null, .null] pl7_timesDone (by decide +kernel) (fun _ _ => rfl) (fun _ _ => Nat.le_of_ble_eq_true rfl) ?_
  refine g_k r7_timesDone_0 ?_
  refine g_is2 r7_timesDone_1 rfl ?_
  refine g_k r7_timesDone_2 ?_
  refine g_is3 r7_timesDone_3 rfl ?_
  exact lp7_timesDone ht ht30 (t + 1) 0 (by omega) (by omega)
theorem lp7_actsOf {w v0 e1 e2 : Nat} {h : Int64} {I : zMI} {q : Nat} (hq : q < 4) {m : Nat} (hm : I 54 5 = nI m) (hm10 : m ≤ 10) {t : Nat} (ht : I 54 13 = nI t) (ht30 : t ≤ 30) : ∀ d i (y : Value), m - i < d → i ≤ m → zGo m7_actsOf 4 [.ref 54, .int (nI q), .int (zao I q t i), .int (nI i), y] [] zX (zRR w v0 e1 e2) h I (fun v X1 R1 h1 I1 => X1 = zX ∧ v = some (.int (zao I q t m)) ∧ R1 = (zRR w v0 e1 e2) ∧ h1 = h ∧ I1 = I) := by
  intro d
  induction d with
  | zero => intro i y hd0; exact absurd hd0 (Nat.not_lt_zero _)
  | succ d ih =>
    intro i y hd0 hd1
    refine g_il3 r7_actsOf_4 ?_
    refine g_al0 r7_actsOf_5 ?_
    refine g_gfi r7_actsOf_6 xx_54 rfl ?_
    refine g_eqv (y := nI m) hm ?_
    refine g_icgeN r7_actsOf_9 (by omega) (by omega) (fun h9 => ?_) (fun h9 => ?_)
    · refine g_il2 r7_actsOf_69 ?_
      exact g_iret r7_actsOf_70 rfl ⟨rfl, ⟨zrt (by rw [show i = m by omega]), rfl, rfl, rfl⟩⟩
    · refine g_al0 r7_actsOf_12 ?_
      refine g_gfr r7_actsOf_13 xx_54 rfl rr_54_6 ?_
      refine g_il3 r7_actsOf_16 ?_
      refine g_ialdN r7_actsOf_17 xx_58 (by omega) (by decide) ?_
      refine g_il1 r7_actsOf_18 ?_
      refine g_iceq r7_actsOf_19 (fun h19 => ?_) (fun h19 => ?_)
      · refine g_k r7_actsOf_41 ?_
        refine g_goto r7_actsOf_42 ?_
        refine g_is4 r7_actsOf_46 rfl ?_
        refine g_il2 r7_actsOf_48 ?_
        refine g_il4 r7_actsOf_49 ?_
        refine g_ifeq r7_actsOf_51 (fun hc => absurd hc (by decide)) (fun _ => ?_)
        refine g_k r7_actsOf_54 ?_
        refine g_il3 r7_actsOf_55 ?_
        refine g_ishl r7_actsOf_56 ?_
        refine g_goto r7_actsOf_57 ?_
        refine g_ior r7_actsOf_61 ?_
        refine g_is2 r7_actsOf_62 rfl ?_
        refine g_iiN3 r7_actsOf_63 rfl ?_
        refine g_goto r7_actsOf_66 ?_
        have ih2 := fun y => ih (i + 1) y (by omega) (by omega)
        first | (have hp : I 58 i = nI q ∨ (I 55 q = 2 ∧ 1 < ztd I (nI i) t) := (by first | assumption | (simp_all; done)); simp only [zao, if_pos hp] at ih2; exact ih2 _) | (have hp : ¬ (I 58 i = nI q ∨ (I 55 q = 2 ∧ 1 < ztd I (nI i) t)) := (by first | assumption | (simp_all; done)); simp only [zao, if_neg hp] at ih2; exact ih2 _)
      · refine g_al0 r7_actsOf_22 ?_
        refine g_gfr r7_actsOf_23 xx_54 rfl rr_54_1 ?_
        refine g_il1 r7_actsOf_26 ?_
        refine g_ialdN r7_actsOf_27 xx_55 (by omega) (by decide) ?_
        refine g_k r7_actsOf_28 ?_
        refine g_icne r7_actsOf_29 (fun h29 => ?_) (fun h29 => ?_)
        · refine g_k r7_actsOf_45 ?_
          refine g_is4 r7_actsOf_46 rfl ?_
          refine g_il2 r7_actsOf_48 ?_
          refine g_il4 r7_actsOf_49 ?_
          refine g_ifeq r7_actsOf_51 (fun _ => ?_) (fun hc => absurd rfl hc)
          refine g_k r7_actsOf_60 ?_
          refine g_ior r7_actsOf_61 ?_
          refine g_is2 r7_actsOf_62 rfl ?_
          refine g_iiN3 r7_actsOf_63 rfl ?_
          refine g_goto r7_actsOf_66 ?_
          have ih2 := fun y => ih (i + 1) y (by omega) (by omega)
          first | (have hp : I 58 i = nI q ∨ (I 55 q = 2 ∧ 1 < ztd I (nI i) t) := (by first | assumption | (simp_all; done)); simp only [zao, if_pos hp] at ih2; exact ih2 _) | (have hp : ¬ (I 58 i = nI q ∨ (I 55 q = 2 ∧ 1 < ztd I (nI i) t)) := (by first | assumption | (simp_all; done)); simp only [zao, if_neg hp] at ih2; exact ih2 _)
        · refine g_al0 r7_actsOf_32 ?_
          refine g_il3 r7_actsOf_33 ?_
          refine g_eV1 r7_actsOf_34 ok7_timesDone pl7_actsOf pl7_timesDone xx_54 (Nat.le_of_ble_eq_true rfl) (ev7_timesDone ht ht30) ?_
          refine g_k r7_actsOf_37 ?_
          refine g_icleL r7_actsOf_38 (fun h38 => ?_) (fun h38 => ?_)
          · refine g_k r7_actsOf_45 ?_
            refine g_is4 r7_actsOf_46 rfl ?_
            refine g_il2 r7_actsOf_48 ?_
            refine g_il4 r7_actsOf_49 ?_
            refine g_ifeq r7_actsOf_51 (fun _ => ?_) (fun hc => absurd rfl hc)
            refine g_k r7_actsOf_60 ?_
            refine g_ior r7_actsOf_61 ?_
            refine g_is2 r7_actsOf_62 rfl ?_
            refine g_iiN3 r7_actsOf_63 rfl ?_
            refine g_goto r7_actsOf_66 ?_
            have ih2 := fun y => ih (i + 1) y (by omega) (by omega)
            first | (have hp : I 58 i = nI q ∨ (I 55 q = 2 ∧ 1 < ztd I (nI i) t) := (by first | assumption | (simp_all; done)); simp only [zao, if_pos hp] at ih2; exact ih2 _) | (have hp : ¬ (I 58 i = nI q ∨ (I 55 q = 2 ∧ 1 < ztd I (nI i) t)) := (by first | assumption | (simp_all; done)); simp only [zao, if_neg hp] at ih2; exact ih2 _)
          · refine g_k r7_actsOf_41 ?_
            refine g_goto r7_actsOf_42 ?_
            refine g_is4 r7_actsOf_46 rfl ?_
            refine g_il2 r7_actsOf_48 ?_
            refine g_il4 r7_actsOf_49 ?_
            refine g_ifeq r7_actsOf_51 (fun hc => absurd hc (by decide)) (fun _ => ?_)
            refine g_k r7_actsOf_54 ?_
            refine g_il3 r7_actsOf_55 ?_
            refine g_ishl r7_actsOf_56 ?_
            refine g_goto r7_actsOf_57 ?_
            refine g_ior r7_actsOf_61 ?_
            refine g_is2 r7_actsOf_62 rfl ?_
            refine g_iiN3 r7_actsOf_63 rfl ?_
            refine g_goto r7_actsOf_66 ?_
            have ih2 := fun y => ih (i + 1) y (by omega) (by omega)
            first | (have hp : I 58 i = nI q ∨ (I 55 q = 2 ∧ 1 < ztd I (nI i) t) := (by first | assumption | (simp_all; done)); simp only [zao, if_pos hp] at ih2; exact ih2 _) | (have hp : ¬ (I 58 i = nI q ∨ (I 55 q = 2 ∧ 1 < ztd I (nI i) t)) := (by first | assumption | (simp_all; done)); simp only [zao, if_neg hp] at ih2; exact ih2 _)
theorem ev7_actsOf {w v0 e1 e2 : Nat} {h : Int64} {I : zMI} {q : Nat} (hq : q < 4) {m : Nat} (hm : I 54 5 = nI m) (hm10 : m ≤ 10) {t : Nat} (ht : I 54 13 = nI t) (ht30 : t ≤ 30) : zEr m7_actsOf (zRR w v0 e1 e2) h I [.ref 54, .int (nI q)] (some (.int (zao I q t m))) (zRR w v0 e1 e2) h I := by
  refine zEp_of [.ref 54, .int (nI q), .null, .null, .null] pl7_actsOf (by decide +kernel) (fun _ _ => rfl) (fun _ _ => Nat.le_of_ble_eq_true rfl) ?_
  refine g_k r7_actsOf_0 ?_
  refine g_is2 r7_actsOf_1 rfl ?_
  refine g_k r7_actsOf_2 ?_
  refine g_is3 r7_actsOf_3 rfl ?_
  exact lp7_actsOf hq hm hm10 ht ht30 (m + 1) 0 _ (by omega) (by omega)
theorem lp7_stepsBy {w v0 e1 e2 : Nat} {h : Int64} {I : zMI} {x : Int32} {t : Nat} (ht : I 54 13 = nI t) (ht30 : t ≤ 30) {m : Nat} (hm10 : m ≤ 10) (hS : ∀ k, k < t → I 63 k = -1 ∨ ∃ a, a < m ∧ I 63 k = nI a) : ∀ d i, t - i < d → i ≤ t → zGo m7_stepsBy 4 [.ref 54, .int x, .int (zsb I x i), .int (nI i)] [] zX (zRR w v0 e1 e2) h I (fun v X1 R1 h1 I1 => X1 = zX ∧ v = some (.int (zsb I x t)) ∧ R1 = (zRR w v0 e1 e2) ∧ h1 = h ∧ I1 = I) := by
  intro d
  induction d with
  | zero => intro i hd0; exact absurd hd0 (Nat.not_lt_zero _)
  | succ d ih =>
    intro i hd0 hd1
    refine g_il3 r7_stepsBy_4 ?_
    refine g_al0 r7_stepsBy_5 ?_
    refine g_gfi r7_stepsBy_6 xx_54 rfl ?_
    refine g_eqv (y := nI t) ht ?_
    refine g_icgeN r7_stepsBy_9 (by omega) (by omega) (fun h9 => ?_) (fun h9 => ?_)
    · refine g_il2 r7_stepsBy_51 ?_
      exact g_iret r7_stepsBy_52 rfl ⟨rfl, ⟨zrt (by rw [show i = t by omega]), rfl, rfl, rfl⟩⟩
    · refine g_il2 r7_stepsBy_12 ?_
      refine g_al0 r7_stepsBy_13 ?_
      refine g_gfr r7_stepsBy_14 xx_54 rfl rr_54_14 ?_
      refine g_il3 r7_stepsBy_17 ?_
      refine g_ialdN r7_stepsBy_18 xx_63 (by omega) (by decide) ?_
      refine g_k r7_stepsBy_19 ?_
      refine g_iceq r7_stepsBy_20 (fun h20 => ?_) (fun h20 => ?_)
      · refine g_k r7_stepsBy_42 ?_
        refine g_iadd r7_stepsBy_43 ?_
        refine g_is2 r7_stepsBy_44 rfl ?_
        refine g_iiN3 r7_stepsBy_45 rfl ?_
        refine g_goto r7_stepsBy_48 ?_
        have ih2 := ih (i + 1) (by omega) (by omega)
        first | (have hp : ¬ I 63 i = -1 ∧ I 58 (I 63 i).toNatClampNeg = x := (by first | assumption | (simp_all; done)); simp only [zsb, if_pos hp] at ih2; exact ih2) | (have hp : ¬ (¬ I 63 i = -1 ∧ I 58 (I 63 i).toNatClampNeg = x) := (by first | assumption | (simp_all; done)); simp only [zsb, if_neg hp] at ih2; exact ih2)
      · refine g_al0 r7_stepsBy_23 ?_
        refine g_gfr r7_stepsBy_24 xx_54 rfl rr_54_6 ?_
        refine g_al0 r7_stepsBy_27 ?_
        refine g_gfr r7_stepsBy_28 xx_54 rfl rr_54_14 ?_
        refine g_il3 r7_stepsBy_31 ?_
        refine g_ialdN r7_stepsBy_32 xx_63 (by omega) (by decide) ?_
        obtain ⟨a, ha, hak⟩ := (hS i h9).resolve_left h20
        refine g_iald r7_stepsBy_33 xx_58 (by rw [hak]; exact vp_in_nI (by omega) (by decide)) ?_
        refine g_il1 r7_stepsBy_34 ?_
        refine g_icne r7_stepsBy_35 (fun h35 => ?_) (fun h35 => ?_)
        · refine g_k r7_stepsBy_42 ?_
          refine g_iadd r7_stepsBy_43 ?_
          refine g_is2 r7_stepsBy_44 rfl ?_
          refine g_iiN3 r7_stepsBy_45 rfl ?_
          refine g_goto r7_stepsBy_48 ?_
          have ih2 := ih (i + 1) (by omega) (by omega)
          first | (have hp : ¬ I 63 i = -1 ∧ I 58 (I 63 i).toNatClampNeg = x := (by first | assumption | (simp_all; done)); simp only [zsb, if_pos hp] at ih2; exact ih2) | (have hp : ¬ (¬ I 63 i = -1 ∧ I 58 (I 63 i).toNatClampNeg = x) := (by first | assumption | (simp_all; done)); simp only [zsb, if_neg hp] at ih2; exact ih2)
        · refine g_k r7_stepsBy_38 ?_
          refine g_goto r7_stepsBy_39 ?_
          refine g_iadd r7_stepsBy_43 ?_
          refine g_is2 r7_stepsBy_44 rfl ?_
          refine g_iiN3 r7_stepsBy_45 rfl ?_
          refine g_goto r7_stepsBy_48 ?_
          have ih2 := ih (i + 1) (by omega) (by omega)
          first | (have hp : ¬ I 63 i = -1 ∧ I 58 (I 63 i).toNatClampNeg = x := (by first | assumption | (simp_all; done)); simp only [zsb, if_pos hp] at ih2; exact ih2) | (have hp : ¬ (¬ I 63 i = -1 ∧ I 58 (I 63 i).toNatClampNeg = x) := (by first | assumption | (simp_all; done)); simp only [zsb, if_neg hp] at ih2; exact ih2)
theorem ev7_stepsBy {w v0 e1 e2 : Nat} {h : Int64} {I : zMI} {x : Int32} {t : Nat} (ht : I 54 13 = nI t) (ht30 : t ≤ 30) {m : Nat} (hm10 : m ≤ 10) (hS : ∀ k, k < t → I 63 k = -1 ∨ ∃ a, a < m ∧ I 63 k = nI a) : zEr m7_stepsBy (zRR w v0 e1 e2) h I [.ref 54, .int x] (some (.int (zsb I x t))) (zRR w v0 e1 e2) h I := by
  refine zEp_of [.ref 54, .int x, .null, .null] pl7_stepsBy (by decide +kernel) (fun _ _ => rfl) (fun _ _ => Nat.le_of_ble_eq_true rfl) ?_
  refine g_k r7_stepsBy_0 ?_
  refine g_is2 r7_stepsBy_1 rfl ?_
  refine g_k r7_stepsBy_2 ?_
  refine g_is3 r7_stepsBy_3 rfl ?_
  exact lp7_stepsBy ht ht30 hm10 hS (t + 1) 0 (by omega) (by omega)
theorem lp7_bits {R : zMR} {h : Int64} {I : zMI} {x : Int32} : ∀ d i, 31 - i < d → i ≤ 31 → zGo m7_bits 4 [.int x, .int (zbc x i), .int (nI i)] [] zX R h I (fun v X1 R1 h1 I1 => X1 = zX ∧ v = some (.int (zbc x 31)) ∧ R1 = R ∧ h1 = h ∧ I1 = I) := by
  intro d
  induction d with
  | zero => intro i hd0; exact absurd hd0 (Nat.not_lt_zero _)
  | succ d ih =>
    intro i hd0 hd1
    refine g_il2 r7_bits_4 ?_
    refine g_k r7_bits_5 ?_
    refine g_eqv (y := nI 31) rfl ?_
    refine g_icgeN r7_bits_7 (by omega) (by omega) (fun h7 => ?_) (fun h7 => ?_)
    · refine g_il1 r7_bits_24 ?_
      exact g_iret r7_bits_25 rfl ⟨rfl, ⟨zrt (by rw [show i = 31 by omega]), rfl, rfl, rfl⟩⟩
    · refine g_il1 r7_bits_10 ?_
      refine g_il0 r7_bits_11 ?_
      refine g_il2 r7_bits_12 ?_
      refine g_ishr r7_bits_13 ?_
      refine g_k r7_bits_14 ?_
      refine g_iand r7_bits_15 ?_
      refine g_iadd r7_bits_16 ?_
      refine g_is1 r7_bits_17 rfl ?_
      refine g_iiN2 r7_bits_18 rfl ?_
      refine g_goto r7_bits_21 ?_
      exact ih (i + 1) (by omega) (by omega)
theorem ev7_bits {R : zMR} {h : Int64} {I : zMI} {x : Int32} : zEr m7_bits R h I [.int x] (some (.int (zbc x 31))) R h I := by
  refine zEp_of [.int x, .null, .null] pl7_bits (by decide +kernel) (fun _ _ => rfl) (fun _ _ => Nat.le_of_ble_eq_true rfl) ?_
  refine g_k r7_bits_0 ?_
  refine g_is1 r7_bits_1 rfl ?_
  refine g_k r7_bits_2 ?_
  refine g_is2 r7_bits_3 rfl ?_
  exact lp7_bits 32 0 (by omega) (by omega)
def zadN (J : zMI) (t : Nat) (x g k : Int32) : zMI := zs (zs (zs (zs (zs (zs J 63 (upd (J 63) t x)) 64 (upd (J 64) t g)) 65 (upd (J 65) t k)) 66 (upd (J 66) t ((J 54 11 &&& (k ^^^ (-1))) ||| g))) 67 (upd (J 67) t (J 54 12))) 54 (upd (upd (J 54) 11 ((J 54 11 &&& (k ^^^ (-1))) ||| g)) 13 (J 54 13 + 1))
theorem zs_c54 (I : zMI) {l : Nat} (hl : ¬ l = 54) (f g : Nat → Int32) : zs (zs I 54 f) l g = zs (zs I l g) 54 f := zs_comm I (fun q => hl q.symm) f g
theorem ev7_addStep {w v0 e1 e2 : Nat} {h : Int64} {I : zMI} {t : Nat} {x g k : Int32} (ht : I 54 13 = nI t) (ht30 : t < 30) : zEr m7_addStep (zRR w v0 e1 e2) h I [.ref 54, .int x, .int g, .int k] none (zRR w v0 e1 e2) h (zadN I t x g k) := by
  refine zEp_of [.ref 54, .int x, .int g, .int k] pl7_addStep (by decide +kernel) (fun _ _ => rfl) (fun _ _ => Nat.le_of_ble_eq_true rfl) ?_
  refine g_al0 r7_addStep_0 ?_
  refine g_al0 r7_addStep_1 ?_
  refine g_gfi r7_addStep_2 xx_54 rfl ?_
  refine g_il3 r7_addStep_5 ?_
  refine g_k r7_addStep_6 ?_
  refine g_ixor r7_addStep_7 ?_
  refine g_iand r7_addStep_8 ?_
  refine g_il2 r7_addStep_9 ?_
  refine g_ior r7_addStep_10 ?_
  refine g_pfi r7_addStep_11 xx_54 rfl rfl ?_
  refine g_al0 r7_addStep_14 ?_
  refine g_gfr r7_addStep_15 xx_54 rfl rr_54_14 ?_
  refine g_al0 r7_addStep_18 ?_
  refine g_gfi r7_addStep_19 xx_54 rfl ?_
  refine g_eqv (y := nI t) ht ?_
  refine g_il1 r7_addStep_22 ?_
  refine g_iastN r7_addStep_23 xx_63 (by omega) (by decide) ?_
  refine g_al0 r7_addStep_24 ?_
  refine g_gfr r7_addStep_25 xx_54 rfl rr_54_15 ?_
  refine g_al0 r7_addStep_28 ?_
  refine g_gfi r7_addStep_29 xx_54 rfl ?_
  refine g_eqv (y := nI t) ht ?_
  refine g_il2 r7_addStep_32 ?_
  refine g_iastN r7_addStep_33 xx_64 (by omega) (by decide) ?_
  refine g_al0 r7_addStep_34 ?_
  refine g_gfr r7_addStep_35 xx_54 rfl rr_54_16 ?_
  refine g_al0 r7_addStep_38 ?_
  refine g_gfi r7_addStep_39 xx_54 rfl ?_
  refine g_eqv (y := nI t) ht ?_
  refine g_il3 r7_addStep_42 ?_
  refine g_iastN r7_addStep_43 xx_65 (by omega) (by decide) ?_
  refine g_al0 r7_addStep_44 ?_
  refine g_gfr r7_addStep_45 xx_54 rfl rr_54_17 ?_
  refine g_al0 r7_addStep_48 ?_
  refine g_gfi r7_addStep_49 xx_54 rfl ?_
  refine g_eqv (y := nI t) ht ?_
  refine g_al0 r7_addStep_52 ?_
  refine g_gfi r7_addStep_53 xx_54 rfl ?_
  refine g_iastN r7_addStep_56 xx_66 (by omega) (by decide) ?_
  refine g_al0 r7_addStep_57 ?_
  refine g_gfr r7_addStep_58 xx_54 rfl rr_54_18 ?_
  refine g_al0 r7_addStep_61 ?_
  refine g_gfi r7_addStep_62 xx_54 rfl ?_
  refine g_eqv (y := nI t) ht ?_
  refine g_al0 r7_addStep_65 ?_
  refine g_gfi r7_addStep_66 xx_54 rfl ?_
  refine g_iastN r7_addStep_69 xx_67 (by omega) (by decide) ?_
  refine g_al0 r7_addStep_70 ?_
  refine g_dup r7_addStep_71 rfl ?_
  refine g_gfi r7_addStep_72 xx_54 rfl ?_
  refine g_k r7_addStep_75 ?_
  refine g_iadd r7_addStep_76 ?_
  refine g_pfi r7_addStep_77 xx_54 rfl rfl ?_
  exact g_vret r7_addStep_80 rfl ⟨rfl, ⟨rfl, rfl, rfl, (by first | rfl | (simp [zadN, zs_c54, zb, zs_ap, upd_ap, zs_zs, *]; done) | (simp_all [zadN, zs_c54, zb, zs_ap, upd_ap, zs_zs]; done) | (simp only [zadN, zs_c54, zb, zs_ap, upd_ap, zs_zs, Int32.le_iff_toInt_le, Int32.lt_iff_toInt_lt] at *; (repeat' split) <;> first | rfl | omega))⟩⟩
theorem ev7_isAct {w v0 e1 e2 : Nat} {h : Int64} {I : zMI} {x : Int32} : zEr m7_isAct (zRR w v0 e1 e2) h I [.ref 54, .int x] (some (.int (zb (¬ x < 0 ∧ ¬ (I 54 5 - 1) < x)))) (zRR w v0 e1 e2) h I := by
  refine zEp_of [.ref 54, .int x] pl7_isAct (by decide +kernel) (fun _ _ => rfl) (fun _ _ => Nat.le_of_ble_eq_true rfl) ?_
  refine g_il1 r7_isAct_0 ?_
  refine g_k r7_isAct_1 ?_
  refine g_al0 r7_isAct_2 ?_
  refine g_gfi r7_isAct_3 xx_54 rfl ?_
  refine g_k r7_isAct_6 ?_
  refine g_isub r7_isAct_7 ?_
  refine g_eS3 r7_isAct_8 ok7_within pl7_isAct pl7_within (Nat.le_of_ble_eq_true rfl) (ev7_within) ?_
  exact g_zret r7_isAct_11 rfl (zb_01 _) ⟨rfl, ⟨zrt (by first | rfl | (simp [zb, zs_ap, upd_ap, zs_zs, *]; done) | (simp_all [zb, zs_ap, upd_ap, zs_zs]; done) | (simp only [zb, zs_ap, upd_ap, zs_zs, Int32.le_iff_toInt_le, Int32.lt_iff_toInt_lt] at *; (repeat' split) <;> first | rfl | omega)), rfl, rfl, (by first | rfl | (simp [zb, zs_ap, upd_ap, zs_zs, *]; done) | (simp_all [zb, zs_ap, upd_ap, zs_zs]; done) | (simp only [zb, zs_ap, upd_ap, zs_zs, Int32.le_iff_toInt_le, Int32.lt_iff_toInt_lt] at *; (repeat' split) <;> first | rfl | omega))⟩⟩
theorem ev7_isOne {w v0 e1 e2 : Nat} {h : Int64} {I : zMI} {x : Int32} : zEr m7_isOne (zRR w v0 e1 e2) h I [.ref 54, .int x] (some (.int (zb (0 < I 54 5 ∧ (¬ x < 0 ∧ ¬ (I 54 0 - 1) < x))))) (zRR w v0 e1 e2) h I := by
  refine zEp_of [.ref 54, .int x] pl7_isOne (by decide +kernel) (fun _ _ => rfl) (fun _ _ => Nat.le_of_ble_eq_true rfl) ?_
  refine g_al0 r7_isOne_0 ?_
  refine g_eV0 r7_isOne_1 ok7_isWorld pl7_isOne pl7_isWorld xx_54 (Nat.le_of_ble_eq_true rfl) (ev7_isWorld) ?_
  refine g_ifeqB r7_isOne_4 (fun h4 => ?_) (fun h4 => ?_)
  · refine g_k r7_isOne_25 ?_
    exact g_zret r7_isOne_26 rfl (Or.inl rfl) ⟨rfl, ⟨zrt (by first | rfl | (simp [zb, zs_ap, upd_ap, zs_zs, *]; done) | (simp_all [zb, zs_ap, upd_ap, zs_zs]; done) | (simp only [zb, zs_ap, upd_ap, zs_zs, Int32.le_iff_toInt_le, Int32.lt_iff_toInt_lt] at *; (repeat' split) <;> first | rfl | omega)), rfl, rfl, (by first | rfl | (simp [zb, zs_ap, upd_ap, zs_zs, *]; done) | (simp_all [zb, zs_ap, upd_ap, zs_zs]; done) | (simp only [zb, zs_ap, upd_ap, zs_zs, Int32.le_iff_toInt_le, Int32.lt_iff_toInt_lt] at *; (repeat' split) <;> first | rfl | omega))⟩⟩
  · refine g_il1 r7_isOne_7 ?_
    refine g_k r7_isOne_8 ?_
    refine g_al0 r7_isOne_9 ?_
    refine g_gfi r7_isOne_10 xx_54 rfl ?_
    refine g_k r7_isOne_13 ?_
    refine g_isub r7_isOne_14 ?_
    refine g_eS3 r7_isOne_15 ok7_within pl7_isOne pl7_within (Nat.le_of_ble_eq_true rfl) (ev7_within) ?_
    refine g_ifeqB r7_isOne_18 (fun h18 => ?_) (fun h18 => ?_)
    · refine g_k r7_isOne_25 ?_
      exact g_zret r7_isOne_26 rfl (Or.inl rfl) ⟨rfl, ⟨zrt (by first | rfl | (simp [zb, zs_ap, upd_ap, zs_zs, *]; done) | (simp_all [zb, zs_ap, upd_ap, zs_zs]; done) | (simp only [zb, zs_ap, upd_ap, zs_zs, Int32.le_iff_toInt_le, Int32.lt_iff_toInt_lt] at *; (repeat' split) <;> first | rfl | omega)), rfl, rfl, (by first | rfl | (simp [zb, zs_ap, upd_ap, zs_zs, *]; done) | (simp_all [zb, zs_ap, upd_ap, zs_zs]; done) | (simp only [zb, zs_ap, upd_ap, zs_zs, Int32.le_iff_toInt_le, Int32.lt_iff_toInt_lt] at *; (repeat' split) <;> first | rfl | omega))⟩⟩
    · refine g_k r7_isOne_21 ?_
      refine g_goto r7_isOne_22 ?_
      exact g_zret r7_isOne_26 rfl (Or.inr rfl) ⟨rfl, ⟨zrt (by first | rfl | (simp [zb, zs_ap, upd_ap, zs_zs, *]; done) | (simp_all [zb, zs_ap, upd_ap, zs_zs]; done) | (simp only [zb, zs_ap, upd_ap, zs_zs, Int32.le_iff_toInt_le, Int32.lt_iff_toInt_lt] at *; (repeat' split) <;> first | rfl | omega)), rfl, rfl, (by first | rfl | (simp [zb, zs_ap, upd_ap, zs_zs, *]; done) | (simp_all [zb, zs_ap, upd_ap, zs_zs]; done) | (simp only [zb, zs_ap, upd_ap, zs_zs, Int32.le_iff_toInt_le, Int32.lt_iff_toInt_lt] at *; (repeat' split) <;> first | rfl | omega))⟩⟩
theorem ev7_allSteps {w v0 e1 e2 : Nat} {h : Int64} {I : zMI}  : zEr m7_allSteps (zRR w v0 e1 e2) h I [.ref 54] (some (.int (1 <<< (I 54 13 &&& 31) - 1))) (zRR w v0 e1 e2) h I := by
  refine zEp_of [.ref 54] pl7_allSteps (by decide +kernel) (fun _ _ => rfl) (fun _ _ => Nat.le_of_ble_eq_true rfl) ?_
  refine g_k r7_allSteps_0 ?_
  refine g_al0 r7_allSteps_1 ?_
  refine g_gfi r7_allSteps_2 xx_54 rfl ?_
  refine g_ishl r7_allSteps_5 ?_
  refine g_k r7_allSteps_6 ?_
  refine g_isub r7_allSteps_7 ?_
  exact g_iret r7_allSteps_8 rfl ⟨rfl, ⟨zrt (by first | rfl | (simp [zb, zs_ap, upd_ap, zs_zs, *]; done) | (simp_all [zb, zs_ap, upd_ap, zs_zs]; done) | (simp only [zb, zs_ap, upd_ap, zs_zs, Int32.le_iff_toInt_le, Int32.lt_iff_toInt_lt] at *; (repeat' split) <;> first | rfl | omega)), rfl, rfl, (by first | rfl | (simp [zb, zs_ap, upd_ap, zs_zs, *]; done) | (simp_all [zb, zs_ap, upd_ap, zs_zs]; done) | (simp only [zb, zs_ap, upd_ap, zs_zs, Int32.le_iff_toInt_le, Int32.lt_iff_toInt_lt] at *; (repeat' split) <;> first | rfl | omega))⟩⟩
def zabN (J : zMI) (n : Nat) (x : Int32) : Int32 := if x = 0 then J 54 0 else if x = 1 then J 54 5 else if x = 2 then J 54 13 else if x = 3 then J 54 12 else if x = 4 then J 54 11 else if x = 5 then J 54 4 else zwi J (J 54 11) n
def zabR (J : zMI) (n : Nat) (x : Int32) : Int32 := if ¬ x < 0 ∧ ¬ 6 < x then (if 0 < J 54 5 then zabN J n x else -103) else -102
def zdeN (J : zMI) (t a : Nat) (x : Int32) : Int32 := if x = 0 then J 58 a else if x = 1 then J 59 a else if x = 2 then J 60 a else if x = 3 then J 61 a else if x = 4 then J 62 a else if x = 5 then zb (J 59 a &&& (J 54 11 ^^^ (-1)) = 0 ∧ J 60 a &&& J 54 11 = 0) else ztd J (nI a) t
def zhmR (J : zMI) (x : Int32) : Int32 := if x = 0 then J 54 5 else if x = 1 then J 54 19 else if x = 2 then J 54 13 else if x = 3 then J 54 21 else if x = 4 then J 54 22 else if x = 5 then J 54 23 else -102
theorem ev7_aboutNow {w v0 e1 e2 : Nat} {h : Int64} {I : zMI} {x : Int32} {n : Nat} (hn : I 54 0 = nI n) (hn4 : n ≤ 4) : zEr m7_aboutNow (zRR w v0 e1 e2) h I [.ref 54, .int x] (some (.int (zabN I n x))) (zRR w v0 e1 e2) h I := by
  refine zEp_of [.ref 54, .int x] pl7_aboutNow (by decide +kernel) (fun _ _ => rfl) (fun _ _ => Nat.le_of_ble_eq_true rfl) ?_
  refine g_il1 r7_aboutNow_0 ?_
  refine g_sw r7_aboutNow_1 ⟨fun h1 => ?_, fun h1 => ?_, fun h1 => ?_, fun h1 => ?_, fun h1 => ?_, fun h1 => ?_, trivial⟩ (fun h1 => ?_)
  · refine g_al0 r7_aboutNow_40 ?_
    refine g_gfi r7_aboutNow_41 xx_54 rfl ?_
    exact g_iret r7_aboutNow_44 rfl ⟨rfl, ⟨zrt (by simp [zabN, h1]), rfl, rfl, rfl⟩⟩
  · refine g_al0 r7_aboutNow_45 ?_
    refine g_gfi r7_aboutNow_46 xx_54 rfl ?_
    exact g_iret r7_aboutNow_49 rfl ⟨rfl, ⟨zrt (by simp [zabN, h1]), rfl, rfl, rfl⟩⟩
  · refine g_al0 r7_aboutNow_50 ?_
    refine g_gfi r7_aboutNow_51 xx_54 rfl ?_
    exact g_iret r7_aboutNow_54 rfl ⟨rfl, ⟨zrt (by simp [zabN, h1]), rfl, rfl, rfl⟩⟩
  · refine g_al0 r7_aboutNow_55 ?_
    refine g_gfi r7_aboutNow_56 xx_54 rfl ?_
    exact g_iret r7_aboutNow_59 rfl ⟨rfl, ⟨zrt (by simp [zabN, h1]), rfl, rfl, rfl⟩⟩
  · refine g_al0 r7_aboutNow_60 ?_
    refine g_gfi r7_aboutNow_61 xx_54 rfl ?_
    exact g_iret r7_aboutNow_64 rfl ⟨rfl, ⟨zrt (by simp [zabN, h1]), rfl, rfl, rfl⟩⟩
  · refine g_al0 r7_aboutNow_65 ?_
    refine g_gfi r7_aboutNow_66 xx_54 rfl ?_
    exact g_iret r7_aboutNow_69 rfl ⟨rfl, ⟨zrt (by simp [zabN, h1]), rfl, rfl, rfl⟩⟩
  · simp only [List.mem_cons, List.not_mem_nil, or_false, forall_eq_or_imp, forall_eq] at h1
    refine g_al0 r7_aboutNow_70 ?_
    refine g_al0 r7_aboutNow_71 ?_
    refine g_gfi r7_aboutNow_72 xx_54 rfl ?_
    refine g_eV1 r7_aboutNow_75 ok7_wantsIn pl7_aboutNow pl7_wantsIn xx_54 (Nat.le_of_ble_eq_true rfl) (ev7_wantsIn hn hn4) ?_
    exact g_iret r7_aboutNow_78 rfl ⟨rfl, ⟨zrt (by simp [zabN, h1]), rfl, rfl, rfl⟩⟩
theorem ev7_about {w v0 e1 e2 : Nat} {h : Int64} {I : zMI} {x : Int32} {n : Nat} (hn : I 54 0 = nI n) (hn4 : n ≤ 4) : zEr m7_about (zRR w v0 e1 e2) h I [.ref 54, .int x] (some (.int (zabR I n x))) (zRR w v0 e1 e2) h I := by
  refine zEp_of [.ref 54, .int x] pl7_about (by decide +kernel) (fun _ _ => rfl) (fun _ _ => Nat.le_of_ble_eq_true rfl) ?_
  refine g_il1 r7_about_0 ?_
  refine g_k r7_about_1 ?_
  refine g_k r7_about_2 ?_
  refine g_eS3 r7_about_4 ok7_within pl7_about pl7_within (Nat.le_of_ble_eq_true rfl) (ev7_within) ?_
  refine g_ifneB r7_about_7 (fun h7 => ?_) (fun h7 => ?_)
  · refine g_al0 r7_about_13 ?_
    refine g_eV0 r7_about_14 ok7_isWorld pl7_about pl7_isWorld xx_54 (Nat.le_of_ble_eq_true rfl) (ev7_isWorld) ?_
    refine g_ifeqB r7_about_17 (fun h17 => ?_) (fun h17 => ?_)
    · refine g_k r7_about_28 ?_
      exact g_iret r7_about_30 rfl ⟨rfl, ⟨zrt (by simp [zabR, h7, h17]), rfl, rfl, rfl⟩⟩
    · refine g_al0 r7_about_20 ?_
      refine g_il1 r7_about_21 ?_
      refine g_eV1 r7_about_22 ok7_aboutNow pl7_about pl7_aboutNow xx_54 (Nat.le_of_ble_eq_true rfl) (ev7_aboutNow hn hn4) ?_
      refine g_goto r7_about_25 ?_
      exact g_iret r7_about_30 rfl ⟨rfl, ⟨zrt (by simp [zabR, h7, h17]), rfl, rfl, rfl⟩⟩
  · refine g_k r7_about_10 ?_
    exact g_iret r7_about_12 rfl ⟨rfl, ⟨zrt (by simp only [zabR, if_neg h7]), rfl, rfl, rfl⟩⟩
theorem ev7_deedNow {w v0 e1 e2 : Nat} {h : Int64} {I : zMI} {x : Int32} {a : Nat} (ha : a < 10) {t : Nat} (ht : I 54 13 = nI t) (ht30 : t ≤ 30) : zEr m7_deedNow (zRR w v0 e1 e2) h I [.ref 54, .int (nI a), .int x] (some (.int (zdeN I t a x))) (zRR w v0 e1 e2) h I := by
  refine zEp_of [.ref 54, .int (nI a), .int x] pl7_deedNow (by decide +kernel) (fun _ _ => rfl) (fun _ _ => Nat.le_of_ble_eq_true rfl) ?_
  refine g_il2 r7_deedNow_0 ?_
  refine g_sw r7_deedNow_1 ⟨fun h1 => ?_, fun h1 => ?_, fun h1 => ?_, fun h1 => ?_, fun h1 => ?_, fun h1 => ?_, trivial⟩ (fun h1 => ?_)
  · refine g_al0 r7_deedNow_40 ?_
    refine g_gfr r7_deedNow_41 xx_54 rfl rr_54_6 ?_
    refine g_il1 r7_deedNow_44 ?_
    refine g_ialdN r7_deedNow_45 xx_58 (by omega) (by decide) ?_
    exact g_iret r7_deedNow_46 rfl ⟨rfl, ⟨zrt (by simp [zdeN, h1]), rfl, rfl, rfl⟩⟩
  · refine g_al0 r7_deedNow_47 ?_
    refine g_gfr r7_deedNow_48 xx_54 rfl rr_54_7 ?_
    refine g_il1 r7_deedNow_51 ?_
    refine g_ialdN r7_deedNow_52 xx_59 (by omega) (by decide) ?_
    exact g_iret r7_deedNow_53 rfl ⟨rfl, ⟨zrt (by simp [zdeN, h1]), rfl, rfl, rfl⟩⟩
  · refine g_al0 r7_deedNow_54 ?_
    refine g_gfr r7_deedNow_55 xx_54 rfl rr_54_8 ?_
    refine g_il1 r7_deedNow_58 ?_
    refine g_ialdN r7_deedNow_59 xx_60 (by omega) (by decide) ?_
    exact g_iret r7_deedNow_60 rfl ⟨rfl, ⟨zrt (by simp [zdeN, h1]), rfl, rfl, rfl⟩⟩
  · refine g_al0 r7_deedNow_61 ?_
    refine g_gfr r7_deedNow_62 xx_54 rfl rr_54_9 ?_
    refine g_il1 r7_deedNow_65 ?_
    refine g_ialdN r7_deedNow_66 xx_61 (by omega) (by decide) ?_
    exact g_iret r7_deedNow_67 rfl ⟨rfl, ⟨zrt (by simp [zdeN, h1]), rfl, rfl, rfl⟩⟩
  · refine g_al0 r7_deedNow_68 ?_
    refine g_gfr r7_deedNow_69 xx_54 rfl rr_54_10 ?_
    refine g_il1 r7_deedNow_72 ?_
    refine g_ialdN r7_deedNow_73 xx_62 (by omega) (by decide) ?_
    exact g_iret r7_deedNow_74 rfl ⟨rfl, ⟨zrt (by simp [zdeN, h1]), rfl, rfl, rfl⟩⟩
  · refine g_al0 r7_deedNow_75 ?_
    refine g_il1 r7_deedNow_76 ?_
    refine g_al0 r7_deedNow_77 ?_
    refine g_gfi r7_deedNow_78 xx_54 rfl ?_
    refine g_eV2 r7_deedNow_81 ok7_canDo pl7_deedNow pl7_canDo xx_54 (Nat.le_of_ble_eq_true rfl) (ev7_canDo ha) ?_
    refine g_ifeqB r7_deedNow_84 (fun h84 => ?_) (fun h84 => ?_)
    · refine g_k r7_deedNow_91 ?_
      exact g_iret r7_deedNow_92 rfl ⟨rfl, ⟨zrt (by rw [show x = 5 from h1]; simp_all [zdeN, zb]), rfl, rfl, rfl⟩⟩
    · refine g_k r7_deedNow_87 ?_
      refine g_goto r7_deedNow_88 ?_
      exact g_iret r7_deedNow_92 rfl ⟨rfl, ⟨zrt (by rw [show x = 5 from h1]; simp_all [zdeN, zb]), rfl, rfl, rfl⟩⟩
  · simp only [List.mem_cons, List.not_mem_nil, or_false, forall_eq_or_imp, forall_eq] at h1
    refine g_al0 r7_deedNow_93 ?_
    refine g_il1 r7_deedNow_94 ?_
    refine g_eV1 r7_deedNow_95 ok7_timesDone pl7_deedNow pl7_timesDone xx_54 (Nat.le_of_ble_eq_true rfl) (ev7_timesDone ht ht30) ?_
    exact g_iret r7_deedNow_98 rfl ⟨rfl, ⟨zrt (by simp [zdeN, h1]), rfl, rfl, rfl⟩⟩
theorem ev7_howMany {w v0 e1 e2 : Nat} {h : Int64} {I : zMI} {x : Int32} : zEr m7_howMany (zRR w v0 e1 e2) h I [.ref 54, .int x] (some (.int (zhmR I x))) (zRR w v0 e1 e2) h I := by
  refine zEp_of [.ref 54, .int x] pl7_howMany (by decide +kernel) (fun _ _ => rfl) (fun _ _ => Nat.le_of_ble_eq_true rfl) ?_
  refine g_il1 r7_howMany_0 ?_
  refine g_sw r7_howMany_1 ⟨fun h1 => ?_, fun h1 => ?_, fun h1 => ?_, fun h1 => ?_, fun h1 => ?_, fun h1 => ?_, trivial⟩ (fun h1 => ?_)
  · refine g_al0 r7_howMany_40 ?_
    refine g_gfi r7_howMany_41 xx_54 rfl ?_
    exact g_iret r7_howMany_44 rfl ⟨rfl, ⟨zrt (by simp [zhmR, h1]), rfl, rfl, rfl⟩⟩
  · refine g_al0 r7_howMany_45 ?_
    refine g_gfi r7_howMany_46 xx_54 rfl ?_
    exact g_iret r7_howMany_49 rfl ⟨rfl, ⟨zrt (by simp [zhmR, h1]), rfl, rfl, rfl⟩⟩
  · refine g_al0 r7_howMany_50 ?_
    refine g_gfi r7_howMany_51 xx_54 rfl ?_
    exact g_iret r7_howMany_54 rfl ⟨rfl, ⟨zrt (by simp [zhmR, h1]), rfl, rfl, rfl⟩⟩
  · refine g_al0 r7_howMany_55 ?_
    refine g_gfi r7_howMany_56 xx_54 rfl ?_
    exact g_iret r7_howMany_59 rfl ⟨rfl, ⟨zrt (by simp [zhmR, h1]), rfl, rfl, rfl⟩⟩
  · refine g_al0 r7_howMany_60 ?_
    refine g_gfi r7_howMany_61 xx_54 rfl ?_
    exact g_iret r7_howMany_64 rfl ⟨rfl, ⟨zrt (by simp [zhmR, h1]), rfl, rfl, rfl⟩⟩
  · refine g_al0 r7_howMany_65 ?_
    refine g_gfi r7_howMany_66 xx_54 rfl ?_
    exact g_iret r7_howMany_69 rfl ⟨rfl, ⟨zrt (by simp [zhmR, h1]), rfl, rfl, rfl⟩⟩
  · simp only [List.mem_cons, List.not_mem_nil, or_false, forall_eq_or_imp, forall_eq] at h1
    refine g_k r7_howMany_70 ?_
    exact g_iret r7_howMany_72 rfl ⟨rfl, ⟨zrt (by simp [zhmR, h1]), rfl, rfl, rfl⟩⟩
theorem ev7_count {w v0 e1 e2 : Nat} {h : Int64} {I : zMI} {x : Int32} : zEr m7_count (zRR w v0 e1 e2) h I [.ref 54, .int x] (some (.int (zhmR I x))) (zRR w v0 e1 e2) h I := by
  refine zEp_of [.ref 54, .int x] pl7_count (by decide +kernel) (fun _ _ => rfl) (fun _ _ => Nat.le_of_ble_eq_true rfl) ?_
  refine g_al0 r7_count_0 ?_
  refine g_il1 r7_count_1 ?_
  refine g_eV1 r7_count_2 ok7_howMany pl7_count pl7_howMany xx_54 (Nat.le_of_ble_eq_true rfl) (ev7_howMany) ?_
  exact g_iret r7_count_5 rfl ⟨rfl, ⟨zrt (by first | rfl | (simp [zb, zs_ap, upd_ap, zs_zs, *]; done) | (simp_all [zb, zs_ap, upd_ap, zs_zs]; done) | (simp only [zb, zs_ap, upd_ap, zs_zs, Int32.le_iff_toInt_le, Int32.lt_iff_toInt_lt] at *; (repeat' split) <;> first | rfl | omega)), rfl, rfl, (by first | rfl | (simp [zb, zs_ap, upd_ap, zs_zs, *]; done) | (simp_all [zb, zs_ap, upd_ap, zs_zs]; done) | (simp only [zb, zs_ap, upd_ap, zs_zs, Int32.le_iff_toInt_le, Int32.lt_iff_toInt_lt] at *; (repeat' split) <;> first | rfl | omega))⟩⟩
def zdeR (J : zMI) (t m : Nat) (y x : Int32) : Int32 := if ¬ y < 0 ∧ ¬ (J 54 5 - 1) < y then (if ¬ x < 0 ∧ ¬ 6 < x then zdeN J t y.toNatClampNeg x else -102) else -101
theorem zidx {m : Nat} (hm : m ≤ 1000) {y : Int32} (hy : ¬ y < 0 ∧ ¬ (nI m - 1) < y) : ∃ a, a < m ∧ y = nI a := by
  obtain ⟨j, hj, rfl⟩ := nI_of hy.1
  refine ⟨j, ?_, rfl⟩
  have h2 := hy.2
  rcases Nat.eq_zero_or_pos m with rfl | hp
  · exfalso
    apply h2
    rw [Int32.lt_iff_toInt_lt, nI_toInt hj]
    have : (nI 0 - 1).toInt = -1 := by decide
    omega
  · obtain ⟨k, rfl⟩ : ∃ k, m = k + 1 := ⟨m - 1, by omega⟩
    rw [nI_pred, nI_ltI (by omega) hj] at h2
    omega
theorem zidx' {m a : Nat} (hm : m ≤ 1000) (ha : a < m) : ¬ nI a < 0 ∧ ¬ (nI m - 1) < nI a := by
  obtain ⟨k, rfl⟩ : ∃ k, m = k + 1 := ⟨m - 1, by omega⟩
  rw [nI_pred, nI_ltI (by omega) (by omega)]
  exact ⟨nI_pos (by omega), by omega⟩
theorem ev7_deed {w v0 e1 e2 : Nat} {h : Int64} {I : zMI} {y x : Int32} {m : Nat} (hm : I 54 5 = nI m) (hm10 : m ≤ 10) {t : Nat} (ht : I 54 13 = nI t) (ht30 : t ≤ 30) : zEr m7_deed (zRR w v0 e1 e2) h I [.ref 54, .int y, .int x] (some (.int (zdeR I t m y x))) (zRR w v0 e1 e2) h I := by
  refine zEp_of [.ref 54, .int y, .int x] pl7_deed (by decide +kernel) (fun _ _ => rfl) (fun _ _ => Nat.le_of_ble_eq_true rfl) ?_
  refine g_al0 r7_deed_0 ?_
  refine g_il1 r7_deed_1 ?_
  refine g_eV1 r7_deed_2 ok7_isAct pl7_deed pl7_isAct xx_54 (Nat.le_of_ble_eq_true rfl) (ev7_isAct) ?_
  refine g_ifneB r7_deed_5 (fun h5 => ?_) (fun h5 => ?_)
  · have h5b := h5
    rw [hm] at h5b
    obtain ⟨a, ha, rfl⟩ := zidx (by omega) h5b
    refine g_il2 r7_deed_13 ?_
    refine g_k r7_deed_14 ?_
    refine g_k r7_deed_15 ?_
    refine g_eS3 r7_deed_17 ok7_within pl7_deed pl7_within (Nat.le_of_ble_eq_true rfl) (ev7_within) ?_
    refine g_ifeqB r7_deed_20 (fun h20 => ?_) (fun h20 => ?_)
    · refine g_k r7_deed_32 ?_
      exact g_iret r7_deed_34 rfl ⟨rfl, ⟨zrt (by simp only [zdeR, if_pos h5, if_neg h20]), rfl, rfl, rfl⟩⟩
    · refine g_al0 r7_deed_23 ?_
      refine g_il1 r7_deed_24 ?_
      refine g_il2 r7_deed_25 ?_
      refine g_eV2 r7_deed_26 ok7_deedNow pl7_deed pl7_deedNow xx_54 (Nat.le_of_ble_eq_true rfl) (ev7_deedNow (by omega) ht ht30) ?_
      refine g_goto r7_deed_29 ?_
      exact g_iret r7_deed_34 rfl ⟨rfl, ⟨zrt (by simp only [zdeR, if_pos h5, if_pos h20]; rw [nI_clamp (by omega)]), rfl, rfl, rfl⟩⟩
  · refine g_k r7_deed_8 ?_
    refine g_goto r7_deed_10 ?_
    exact g_iret r7_deed_34 rfl ⟨rfl, ⟨zrt (by simp only [zdeR, if_neg h5]), rfl, rfl, rfl⟩⟩
def zfaB (J : zMI) (x : Int32) : Int32 := 1 <<< (x &&& 31)
def zfaR (J : zMI) (x : Int32) : Int32 := if 0 < J 54 5 then (if ¬ x < 0 ∧ ¬ 7 < x then (if J 54 13 = 30 then -104 else J 54 13 + 1) else -101) else -103
def zfaN (J : zMI) (t : Nat) (x : Int32) : zMI := if 0 < J 54 5 then (if ¬ x < 0 ∧ ¬ 7 < x then (if J 54 13 = 30 then J else zadN J t (-1) (if J 54 11 &&& zfaB J x = 0 then zfaB J x else 0) (if J 54 11 &&& zfaB J x = 0 then 0 else zfaB J x)) else J) else J
theorem zadN_t (J : zMI) (t : Nat) (x g k : Int32) : zadN J t x g k 54 13 = J 54 13 + 1 := by simp [zadN, zs_ap, upd_ap]
theorem ev7_fate {w v0 e1 e2 : Nat} {h : Int64} {I : zMI} {x : Int32} {t : Nat} (ht : I 54 13 = nI t) (ht30 : t ≤ 30) : zEr m7_fate (zRR w v0 e1 e2) h I [.ref 54, .int x] (some (.int (zfaR I x))) (zRR w v0 e1 e2) h (zfaN I t x) := by
  refine zEp_of [.ref 54, .int x, .null, .null] pl7_fate (by decide +kernel) (fun _ _ => rfl) (fun _ _ => Nat.le_of_ble_eq_true rfl) ?_
  refine g_al0 r7_fate_0 ?_
  refine g_eV0 r7_fate_1 ok7_isWorld pl7_fate pl7_isWorld xx_54 (Nat.le_of_ble_eq_true rfl) (ev7_isWorld) ?_
  refine g_ifneB r7_fate_4 (fun h4 => ?_) (fun h4 => ?_)
  · refine g_il1 r7_fate_10 ?_
    refine g_k r7_fate_11 ?_
    refine g_k r7_fate_12 ?_
    refine g_eS3 r7_fate_14 ok7_within pl7_fate pl7_within (Nat.le_of_ble_eq_true rfl) (ev7_within) ?_
    refine g_ifneB r7_fate_17 (fun h17 => ?_) (fun h17 => ?_)
    · refine g_al0 r7_fate_23 ?_
      refine g_gfi r7_fate_24 xx_54 rfl ?_
      refine g_k r7_fate_27 ?_
      refine g_icne r7_fate_29 (fun h29 => ?_) (fun h29 => ?_)
      · refine g_k r7_fate_35 ?_
        refine g_il1 r7_fate_36 ?_
        refine g_ishl r7_fate_37 ?_
        refine g_is2 r7_fate_38 rfl ?_
        refine g_al0 r7_fate_39 ?_
        refine g_gfi r7_fate_40 xx_54 rfl ?_
        refine g_il2 r7_fate_43 ?_
        refine g_iand r7_fate_44 ?_
        refine g_ifeq r7_fate_45 (fun h45 => ?_) (fun h45 => ?_)
        · refine g_k r7_fate_52 ?_
          refine g_is3 r7_fate_53 rfl ?_
          refine g_al0 r7_fate_54 ?_
          refine g_k r7_fate_55 ?_
          refine g_il3 r7_fate_56 ?_
          refine g_ifeq r7_fate_57 (fun _ => ?_) (fun hc => absurd rfl hc)
          refine g_il2 r7_fate_64 ?_
          refine g_il3 r7_fate_65 ?_
          refine g_ifeq r7_fate_66 (fun _ => ?_) (fun hc => absurd rfl hc)
          refine g_k r7_fate_73 ?_
          refine g_eV3 r7_fate_74 ok7_addStep pl7_fate pl7_addStep xx_54 (Nat.le_of_ble_eq_true rfl) (ev7_addStep ht (by have : ¬ t = 30 := (fun q => h29 (by rw [ht, q]; rfl)); omega)) ?_
          refine g_al0 r7_fate_77 ?_
          refine g_gfi r7_fate_78 xx_54 rfl ?_
          exact g_iret r7_fate_81 rfl ⟨rfl, ⟨zrt (by simp only [zfaR, if_pos h4, if_pos h17, if_neg h29]; exact zadN_t ..), rfl, rfl, (by have h45b : I 54 11 &&& zfaB I x = 0 := h45; simp only [zfaN, if_pos h4, if_pos h17, if_neg h29, if_pos h45b]; rfl)⟩⟩
        · refine g_k r7_fate_48 ?_
          refine g_goto r7_fate_49 ?_
          refine g_is3 r7_fate_53 rfl ?_
          refine g_al0 r7_fate_54 ?_
          refine g_k r7_fate_55 ?_
          refine g_il3 r7_fate_56 ?_
          refine g_ifeq r7_fate_57 (fun hc => absurd hc (by decide)) (fun _ => ?_)
          refine g_k r7_fate_60 ?_
          refine g_goto r7_fate_61 ?_
          refine g_il3 r7_fate_65 ?_
          refine g_ifeq r7_fate_66 (fun hc => absurd hc (by decide)) (fun _ => ?_)
          refine g_il2 r7_fate_69 ?_
          refine g_goto r7_fate_70 ?_
          refine g_eV3 r7_fate_74 ok7_addStep pl7_fate pl7_addStep xx_54 (Nat.le_of_ble_eq_true rfl) (ev7_addStep ht (by have : ¬ t = 30 := (fun q => h29 (by rw [ht, q]; rfl)); omega)) ?_
          refine g_al0 r7_fate_77 ?_
          refine g_gfi r7_fate_78 xx_54 rfl ?_
          exact g_iret r7_fate_81 rfl ⟨rfl, ⟨zrt (by simp only [zfaR, if_pos h4, if_pos h17, if_neg h29]; exact zadN_t ..), rfl, rfl, (by have h45b : ¬ I 54 11 &&& zfaB I x = 0 := h45; simp only [zfaN, if_pos h4, if_pos h17, if_neg h29, if_neg h45b]; rfl)⟩⟩
      · refine g_k r7_fate_32 ?_
        exact g_iret r7_fate_34 rfl ⟨rfl, ⟨zrt (by simp only [zfaR, if_pos h4, if_pos h17, if_pos h29]), rfl, rfl, (by simp only [zfaN, if_pos h4, if_pos h17, if_pos h29])⟩⟩
    · refine g_k r7_fate_20 ?_
      exact g_iret r7_fate_22 rfl ⟨rfl, ⟨zrt (by simp only [zfaR, if_pos h4, if_neg h17]), rfl, rfl, (by simp only [zfaN, if_pos h4, if_neg h17])⟩⟩
  · refine g_k r7_fate_7 ?_
    exact g_iret r7_fate_9 rfl ⟨rfl, ⟨zrt (by simp only [zfaR, if_neg h4]), rfl, rfl, (by simp only [zfaN, if_neg h4])⟩⟩
def zacR (J : zMI) (x : Int32) : Int32 := if 0 < J 54 5 then (if ¬ x < 0 ∧ ¬ (J 54 5 - 1) < x then (if J 59 x.toNatClampNeg &&& (J 54 11 ^^^ (-1)) = 0 ∧ J 60 x.toNatClampNeg &&& J 54 11 = 0 then (if J 54 13 = 30 then -104 else J 54 13 + 1) else -102) else -101) else -103
def zacN (J : zMI) (t : Nat) (x : Int32) : zMI := if 0 < J 54 5 then (if ¬ x < 0 ∧ ¬ (J 54 5 - 1) < x then (if J 59 x.toNatClampNeg &&& (J 54 11 ^^^ (-1)) = 0 ∧ J 60 x.toNatClampNeg &&& J 54 11 = 0 then (if J 54 13 = 30 then J else zadN J t x (J 61 x.toNatClampNeg) (J 62 x.toNatClampNeg)) else J) else J) else J
theorem ev7_act {w v0 e1 e2 : Nat} {h : Int64} {I : zMI} {x : Int32} {m : Nat} (hm : I 54 5 = nI m) (hm10 : m ≤ 10) {t : Nat} (ht : I 54 13 = nI t) (ht30 : t ≤ 30) : zEr m7_act (zRR w v0 e1 e2) h I [.ref 54, .int x] (some (.int (zacR I x))) (zRR w v0 e1 e2) h (zacN I t x) := by
  refine zEp_of [.ref 54, .int x] pl7_act (by decide +kernel) (fun _ _ => rfl) (fun _ _ => Nat.le_of_ble_eq_true rfl) ?_
  refine g_al0 r7_act_0 ?_
  refine g_eV0 r7_act_1 ok7_isWorld pl7_act pl7_isWorld xx_54 (Nat.le_of_ble_eq_true rfl) (ev7_isWorld) ?_
  refine g_ifneB r7_act_4 (fun h4 => ?_) (fun h4 => ?_)
  · refine g_al0 r7_act_10 ?_
    refine g_il1 r7_act_11 ?_
    refine g_eV1 r7_act_12 ok7_isAct pl7_act pl7_isAct xx_54 (Nat.le_of_ble_eq_true rfl) (ev7_isAct) ?_
    refine g_ifneB r7_act_15 (fun h15 => ?_) (fun h15 => ?_)
    · have h5b := h15
      rw [hm] at h5b
      obtain ⟨a, ha, rfl⟩ := zidx (by omega) h5b
      have hcl : (nI a).toNatClampNeg = a := nI_clamp (by omega)
      refine g_al0 r7_act_21 ?_
      refine g_il1 r7_act_22 ?_
      refine g_al0 r7_act_23 ?_
      refine g_gfi r7_act_24 xx_54 rfl ?_
      refine g_eV2 r7_act_27 ok7_canDo pl7_act pl7_canDo xx_54 (Nat.le_of_ble_eq_true rfl) (ev7_canDo (by omega)) ?_
      refine g_ifneB r7_act_30 (fun h30 => ?_) (fun h30 => ?_)
      · refine g_al0 r7_act_36 ?_
        refine g_gfi r7_act_37 xx_54 rfl ?_
        refine g_k r7_act_40 ?_
        refine g_icne r7_act_42 (fun h42 => ?_) (fun h42 => ?_)
        · refine g_al0 r7_act_48 ?_
          refine g_il1 r7_act_49 ?_
          refine g_al0 r7_act_50 ?_
          refine g_gfr r7_act_51 xx_54 rfl rr_54_9 ?_
          refine g_il1 r7_act_54 ?_
          refine g_ialdN r7_act_55 xx_61 (by omega) (by decide) ?_
          refine g_al0 r7_act_56 ?_
          refine g_gfr r7_act_57 xx_54 rfl rr_54_10 ?_
          refine g_il1 r7_act_60 ?_
          refine g_ialdN r7_act_61 xx_62 (by omega) (by decide) ?_
          refine g_eV3 r7_act_62 ok7_addStep pl7_act pl7_addStep xx_54 (Nat.le_of_ble_eq_true rfl) (ev7_addStep ht (by have : ¬ t = 30 := (fun q => h42 (by rw [ht, q]; rfl)); omega)) ?_
          refine g_al0 r7_act_65 ?_
          refine g_gfi r7_act_66 xx_54 rfl ?_
          exact g_iret r7_act_69 rfl ⟨rfl, ⟨zrt (by simp only [zacR, if_pos h4, if_pos h15, hcl, if_pos h30, if_neg h42]; exact zadN_t ..), rfl, rfl, (by simp only [zacN, if_pos h4, if_pos h15, hcl, if_pos h30, if_neg h42])⟩⟩
        · refine g_k r7_act_45 ?_
          exact g_iret r7_act_47 rfl ⟨rfl, ⟨zrt (by simp only [zacR, if_pos h4, if_pos h15, hcl, if_pos h30, if_pos h42]), rfl, rfl, (by simp only [zacN, if_pos h4, if_pos h15, hcl, if_pos h30, if_pos h42])⟩⟩
      · refine g_k r7_act_33 ?_
        exact g_iret r7_act_35 rfl ⟨rfl, ⟨zrt (by simp only [zacR, if_pos h4, if_pos h15, hcl, if_neg h30]), rfl, rfl, (by simp only [zacN, if_pos h4, if_pos h15, hcl, if_neg h30])⟩⟩
    · refine g_k r7_act_18 ?_
      exact g_iret r7_act_20 rfl ⟨rfl, ⟨zrt (by simp only [zacR, if_pos h4, if_neg h15]), rfl, rfl, (by simp only [zacN, if_pos h4, if_neg h15])⟩⟩
  · refine g_k r7_act_7 ?_
    exact g_iret r7_act_9 rfl ⟨rfl, ⟨zrt (by simp only [zacR, if_neg h4]), rfl, rfl, (by simp only [zacN, if_neg h4])⟩⟩
def zunR (J : zMI) : Int32 := if J 54 13 = 0 then -103 else J 54 13 - 1
def zunN (J : zMI) (t : Nat) : zMI := if t = 0 then J else zs J 54 (upd (upd (upd (J 54) 13 (J 54 13 - 1)) 11 (if t = 1 then J 54 4 else J 66 (t - 2))) 23 (J 54 23 + 1))
theorem ev7_undo {w v0 e1 e2 : Nat} {h : Int64} {I : zMI} {t : Nat} (ht : I 54 13 = nI t) (ht30 : t ≤ 30) : zEr m7_undo (zRR w v0 e1 e2) h I [.ref 54] (some (.int (zunR I))) (zRR w v0 e1 e2) h (zunN I t) := by
  refine zEp_of [.ref 54] pl7_undo (by decide +kernel) (fun _ _ => rfl) (fun _ _ => Nat.le_of_ble_eq_true rfl) ?_
  refine g_al0 r7_undo_0 ?_
  refine g_gfi r7_undo_1 xx_54 rfl ?_
  refine g_ifne r7_undo_4 (fun h4 => ?_) (fun h4 => ?_)
  · have ht0 : 0 < t := Nat.pos_of_ne_zero (fun q => h4 (by rw [ht, q]; rfl))
    obtain ⟨u, rfl⟩ : ∃ u, t = u + 1 := ⟨t - 1, by omega⟩
    have hpr : I 54 13 - 1 = nI u := by rw [ht]; exact nI_pred u
    refine g_al0 r7_undo_10 ?_
    refine g_dup r7_undo_11 rfl ?_
    refine g_gfi r7_undo_12 xx_54 rfl ?_
    refine g_k r7_undo_15 ?_
    refine g_isub r7_undo_16 ?_
    refine g_pfi r7_undo_17 xx_54 rfl rfl ?_
    refine g_al0 r7_undo_20 ?_
    refine g_al0 r7_undo_21 ?_
    refine g_gfi r7_undo_22 xx_54 rfl ?_
    refine g_eqv (y := nI u) hpr ?_
    refine g_ifne r7_undo_25 (fun h25 => ?_) (fun h25 => ?_)
    · refine g_al0 r7_undo_35 ?_
      refine g_gfr r7_undo_36 xx_54 rfl rr_54_17 ?_
      refine g_al0 r7_undo_39 ?_
      refine g_gfi r7_undo_40 xx_54 rfl ?_
      refine g_k r7_undo_43 ?_
      refine g_isub r7_undo_44 ?_
      have hu0 : 0 < u := Nat.pos_of_ne_zero (fun q => h25 (by rw [q]; rfl))
      obtain ⟨u2, rfl⟩ : ∃ u2, u = u2 + 1 := ⟨u - 1, by omega⟩
      refine g_eqv (y := nI u2) (by show I 54 13 - 1 - 1 = _; rw [hpr, nI_pred]) ?_
      refine g_ialdN r7_undo_45 xx_66 (by omega) (by decide) ?_
      refine g_pfi r7_undo_46 xx_54 rfl rfl ?_
      refine g_al0 r7_undo_49 ?_
      refine g_dup r7_undo_50 rfl ?_
      refine g_gfi r7_undo_51 xx_54 rfl ?_
      refine g_k r7_undo_54 ?_
      refine g_iadd r7_undo_55 ?_
      refine g_pfi r7_undo_56 xx_54 rfl rfl ?_
      refine g_al0 r7_undo_59 ?_
      refine g_gfi r7_undo_60 xx_54 rfl ?_
      exact g_iret r7_undo_63 rfl ⟨rfl, ⟨zrt (by simp [zunR, h4, zs_ap, upd_ap]), rfl, rfl, (by first | (have hu : u = 0 := (nI_eq (b := 0) (by omega) (by omega)).mp h25; subst hu; simp [zunN, zs_ap, upd_ap, zs_zs]; done) | (simp [zunN, zs_ap, upd_ap, zs_zs]; done))⟩⟩
    · refine g_al0 r7_undo_28 ?_
      refine g_gfi r7_undo_29 xx_54 rfl ?_
      refine g_goto r7_undo_32 ?_
      refine g_pfi r7_undo_46 xx_54 rfl rfl ?_
      refine g_al0 r7_undo_49 ?_
      refine g_dup r7_undo_50 rfl ?_
      refine g_gfi r7_undo_51 xx_54 rfl ?_
      refine g_k r7_undo_54 ?_
      refine g_iadd r7_undo_55 ?_
      refine g_pfi r7_undo_56 xx_54 rfl rfl ?_
      refine g_al0 r7_undo_59 ?_
      refine g_gfi r7_undo_60 xx_54 rfl ?_
      exact g_iret r7_undo_63 rfl ⟨rfl, ⟨zrt (by simp [zunR, h4, zs_ap, upd_ap]), rfl, rfl, (by first | (have hu : u = 0 := (nI_eq (b := 0) (by omega) (by omega)).mp h25; subst hu; simp [zunN, zs_ap, upd_ap, zs_zs]; done) | (simp [zunN, zs_ap, upd_ap, zs_zs]; done))⟩⟩
  · refine g_k r7_undo_7 ?_
    exact g_iret r7_undo_9 rfl ⟨rfl, ⟨zrt (by simp only [zunR, if_pos h4]), rfl, rfl, (by simp only [zunN]; rw [if_pos (by rw [ht] at h4; exact (nI_eq (b := 0) (by omega) (by omega)).mp h4)])⟩⟩
