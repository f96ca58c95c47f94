def zbt (f : Nat) : Int32 := 1 <<< (nI f &&& 31)
/-- the latest step ahead of step k that gave (row 64) or took (row 65) a fact, as a bit -/
def zla (J : zMI) (bit : Int32) (c : Nat) : Nat → Int32
  | 0 => 0
  | k + 1 => if J c k &&& bit = 0 then zla J bit c k else 1 <<< (nI k &&& 31)
def zlkF (J : zMI) (a k : Nat) : Nat → Int32
  | 0 => 0
  | f + 1 => (zlkF J a k f ||| (if J 59 a &&& (1 <<< (nI f &&& 31)) = 0 then 0 else zla J (1 <<< (nI f &&& 31)) 64 k)) ||| (if J 60 a &&& (1 <<< (nI f &&& 31)) = 0 then 0 else zla J (1 <<< (nI f &&& 31)) 65 k)
def zlk (J : zMI) (k : Nat) : Int32 := if J 63 k = -1 then 0 else zlkF J (J 63 k).toNatClampNeg k 8
def zta (T : Nat → Int32) : Nat → Int32
  | 0 => 0
  | k + 1 => zta T k + (if T k = nI k then 1 else 0)
def zdS (J : zMI) (x ss : Int32) : Nat → Int32
  | 0 => J 54 4
  | k + 1 => if ¬ nI k = x ∧ ss >>> (nI k &&& 31) &&& 1 = 1 then (zdS J x ss k &&& (J 65 k ^^^ (-1))) ||| J 64 k else zdS J x ss k
def zdI (J : zMI) (x ss : Int32) : Nat → Int32
  | 0 => 1
  | k + 1 => if ¬ nI k = x ∧ ss >>> (nI k &&& 31) &&& 1 = 1 then (if ¬ zdI J x ss k = 0 ∧ (J 63 k = -1 ∨ (J 59 (J 63 k).toNatClampNeg &&& (zdS J x ss k ^^^ (-1)) = 0 ∧ J 60 (J 63 k).toNatClampNeg &&& zdS J x ss k = 0)) then 1 else 0) else zdI J x ss k
def zdu (J : zMI) (x ss : Int32) : Int32 := if ¬ zdI J x ss (jt J) = 0 ∧ zwi J (zdS J x ss (jt J)) (jn J) &&& zwi J (J 54 11) (jn J) = zwi J (J 54 11) (jn J) then 1 else 0
theorem zdu01 (J : zMI) (x ss : Int32) : zdu J x ss = 0 ∨ zdu J x ss = 1 := by unfold zdu; split; exact Or.inr rfl; exact Or.inl rfl
def zal (J : zMI) : Int32 := 1 <<< (J 54 13 &&& 31) - 1
def zdm (J : zMI) : Nat → Int32
  | 0 => 0
  | k + 1 => zdm J k + (if zdu J (nI k) (zal J) = 0 then 0 else 1)
def zfd (J : zMI) (s : Int32) : Int32 := zfi (fun k => s >>> (nI k &&& 31) &&& 1 = 1 ∧ ¬ zdu J (nI k) s = 0) (jt J)
def zcut (J : zMI) : Nat → Int32 → Int32
  | 0, s => s
  | f + 1, s => if zfd J s = -1 then s else zcut J f (s &&& ((1 <<< (zfd J s &&& 31)) ^^^ (-1)))
theorem zm1 (k : Nat) : nI k + (-1) = nI k - 1 := (Int32.sub_eq_add_neg _ _).symm
theorem el7_canDo {w v0 e1 e2 : Nat} {h : Int64} {J I : zMI} (hO : zOx J I) {a : Nat} {s : Int32} (ha : a < 10) : zEr m7_canDo (zRR w v0 e1 e2) h I [.ref 54, .int (nI a), .int s] (some (.int (zb (J 59 a &&& (s ^^^ (-1)) = 0 ∧ J 60 a &&& s = 0)))) (zRR w v0 e1 e2) h I := by
  rw [← hO.o 59 (by decide) (by decide), ← hO.o 60 (by decide) (by decide)]; exact ev7_canDo ha
theorem el7_behind {w v0 e1 e2 : Nat} {h : Int64} {J I : zMI} (hO : zOx J I) {a : Nat} {s : Int32} (ha : a < 10) : zEr m7_behind (zRR w v0 e1 e2) h I [.ref 54, .int (nI a), .int s] (some (.int ((s &&& (J 62 a ^^^ (-1))) ||| J 61 a))) (zRR w v0 e1 e2) h I := by
  rw [← hO.o 61 (by decide) (by decide), ← hO.o 62 (by decide) (by decide)]; exact ev7_behind ha
theorem el7_allSteps {w v0 e1 e2 : Nat} {h : Int64} {J I : zMI} (hO : zOx J I) : zEr m7_allSteps (zRR w v0 e1 e2) h I [.ref 54] (some (.int (zal J))) (zRR w v0 e1 e2) h I := by
  unfold zal; rw [← hO.f 13 (by decide)]; exact ev7_allSteps
theorem lp7_latest_64 {w v0 e1 e2 : Nat} {h : Int64} {J I : zMI} (hO : zOx J I) {x bit : Int32} : ∀ k, k ≤ 30 → zGo m7_latest 5 [.ref 54, .int x, .int bit, .int 1, .int (nI k - 1)] [] zX (zRR w v0 e1 e2) h I (fun v X1 R1 h1 I1 => X1 = zX ∧ v = some (.int (zla J bit 64 k)) ∧ R1 = (zRR w v0 e1 e2) ∧ h1 = h ∧ I1 = I) := by
  intro k
  induction k with
  | zero =>
    intro _
    refine g_il4 r7_latest_5 ?_
    refine g_iflt r7_latest_7 (fun h7 => ?_) (fun hc => absurd hc (by decide))
    refine g_k r7_latest_47 ?_
    exact g_iret r7_latest_48 rfl ⟨rfl, ⟨zrt (rfl), rfl, rfl, rfl⟩⟩
  | succ k ih =>
    intro hk
    rw [nI_pred]
    refine g_il4 r7_latest_5 ?_
    refine g_iflt r7_latest_7 (fun hc => absurd hc (nI_pos (by omega))) (fun _ => ?_)
    refine g_il3 r7_latest_10 ?_
    refine g_ifeq r7_latest_11 (fun hc => absurd hc (by decide)) (fun _ => ?_)
    refine g_al0 r7_latest_14 ?_
    refine g_gfr r7_latest_15 xx_54 rfl rr_54_15 ?_
    refine g_il4 r7_latest_18 ?_
    refine g_ialdN r7_latest_20 xx_64 (by omega) (by decide) ?_
    refine g_eqv (y := J 64 k) (congrFun (hO.o 64 (by decide) (by decide)) k) ?_
    refine g_goto r7_latest_21 ?_
    refine g_il2 r7_latest_31 ?_
    refine g_iand r7_latest_32 ?_
    refine g_ifeq r7_latest_33 (fun h33 => ?_) (fun h33 => ?_)
    · refine g_ii4 r7_latest_41 rfl ?_
      refine g_goto r7_latest_44 ?_
      have e : zla J bit 64 (k + 1) = zla J bit 64 k := by simp only [zla]; exact if_pos h33
      rw [e, zm1]
      exact ih (by omega)
    · refine g_k r7_latest_36 ?_
      refine g_il4 r7_latest_37 ?_
      refine g_ishl r7_latest_39 ?_
      exact g_iret r7_latest_40 rfl ⟨rfl, ⟨zrt (by simp only [zla]; rw [if_neg h33]), rfl, rfl, rfl⟩⟩
theorem el7_latest_64 {w v0 e1 e2 : Nat} {h : Int64} {J I : zMI} (hO : zOx J I) {k : Nat} {bit : Int32} (hk : k ≤ 30) : zEr m7_latest (zRR w v0 e1 e2) h I [.ref 54, .int (nI k), .int bit, .int 1] (some (.int (zla J bit 64 k))) (zRR w v0 e1 e2) h I := by
  refine zEp_of [.ref 54, .int (nI k), .int bit, .int 1, .null] pl7_latest (by decide +kernel) (fun _ _ => rfl) (fun _ _ => Nat.le_of_ble_eq_true rfl) ?_
  refine g_il1 r7_latest_0 ?_
  refine g_k r7_latest_1 ?_
  refine g_isub r7_latest_2 ?_
  refine g_is4 r7_latest_3 rfl ?_
  exact lp7_latest_64 hO k hk
theorem lp7_latest_65 {w v0 e1 e2 : Nat} {h : Int64} {J I : zMI} (hO : zOx J I) {x bit : Int32} : ∀ k, k ≤ 30 → zGo m7_latest 5 [.ref 54, .int x, .int bit, .int 0, .int (nI k - 1)] [] zX (zRR w v0 e1 e2) h I (fun v X1 R1 h1 I1 => X1 = zX ∧ v = some (.int (zla J bit 65 k)) ∧ R1 = (zRR w v0 e1 e2) ∧ h1 = h ∧ I1 = I) := by
  intro k
  induction k with
  | zero =>
    intro _
    refine g_il4 r7_latest_5 ?_
    refine g_iflt r7_latest_7 (fun h7 => ?_) (fun hc => absurd hc (by decide))
    refine g_k r7_latest_47 ?_
    exact g_iret r7_latest_48 rfl ⟨rfl, ⟨zrt (rfl), rfl, rfl, rfl⟩⟩
  | succ k ih =>
    intro hk
    rw [nI_pred]
    refine g_il4 r7_latest_5 ?_
    refine g_iflt r7_latest_7 (fun hc => absurd hc (nI_pos (by omega))) (fun _ => ?_)
    refine g_il3 r7_latest_10 ?_
    refine g_ifeq r7_latest_11 (fun _ => ?_) (fun hc => absurd rfl hc)
    refine g_al0 r7_latest_24 ?_
    refine g_gfr r7_latest_25 xx_54 rfl rr_54_16 ?_
    refine g_il4 r7_latest_28 ?_
    refine g_ialdN r7_latest_30 xx_65 (by omega) (by decide) ?_
    refine g_eqv (y := J 65 k) (congrFun (hO.o 65 (by decide) (by decide)) k) ?_
    refine g_il2 r7_latest_31 ?_
    refine g_iand r7_latest_32 ?_
    refine g_ifeq r7_latest_33 (fun h33 => ?_) (fun h33 => ?_)
    · refine g_ii4 r7_latest_41 rfl ?_
      refine g_goto r7_latest_44 ?_
      have e : zla J bit 65 (k + 1) = zla J bit 65 k := by simp only [zla]; exact if_pos h33
      rw [e, zm1]
      exact ih (by omega)
    · refine g_k r7_latest_36 ?_
      refine g_il4 r7_latest_37 ?_
      refine g_ishl r7_latest_39 ?_
      exact g_iret r7_latest_40 rfl ⟨rfl, ⟨zrt (by simp only [zla]; rw [if_neg h33]), rfl, rfl, rfl⟩⟩
theorem el7_latest_65 {w v0 e1 e2 : Nat} {h : Int64} {J I : zMI} (hO : zOx J I) {k : Nat} {bit : Int32} (hk : k ≤ 30) : zEr m7_latest (zRR w v0 e1 e2) h I [.ref 54, .int (nI k), .int bit, .int 0] (some (.int (zla J bit 65 k))) (zRR w v0 e1 e2) h I := by
  refine zEp_of [.ref 54, .int (nI k), .int bit, .int 0, .null] pl7_latest (by decide +kernel) (fun _ _ => rfl) (fun _ _ => Nat.le_of_ble_eq_true rfl) ?_
  refine g_il1 r7_latest_0 ?_
  refine g_k r7_latest_1 ?_
  refine g_isub r7_latest_2 ?_
  refine g_is4 r7_latest_3 rfl ?_
  exact lp7_latest_65 hO k hk
theorem lp7_linksOf {w v0 e1 e2 : Nat} {h : Int64} {J I : zMI} (hO : zOx J I) {k a : Nat} (hk : k ≤ 30) (ha : a < 10) : ∀ d i (y : Value), 8 - i < d → i ≤ 8 → zGo m7_linksOf 12 [.ref 54, .int (nI k), .int (nI a), .int (zlkF J a k i), .int (nI i), y] [] zX (zRR w v0 e1 e2) h I (fun v X1 R1 h1 I1 => X1 = zX ∧ v = some (.int (zlkF J a k 8)) ∧ R1 = (zRR w v0 e1 e2) ∧ h1 = h ∧ I1 = I) := by
  intro d
  induction d with
  | zero => intro i y hd0; exact absurd hd0 (Nat.not_lt_zero _)
  | succ d ih =>
    intro i y hd0 hd1
    refine g_il4 r7_linksOf_12 ?_
    refine g_k r7_linksOf_14 ?_
    refine g_eqv (y := nI 8) rfl ?_
    refine g_icgeN r7_linksOf_16 (by omega) (by omega) (fun h16 => ?_) (fun h16 => ?_)
    · refine g_il3 r7_linksOf_90 ?_
      exact g_iret r7_linksOf_91 rfl ⟨rfl, ⟨zrt (by rw [show i = 8 by omega]), rfl, rfl, rfl⟩⟩
    · refine g_il2 r7_linksOf_19 ?_
      refine g_k r7_linksOf_20 ?_
      refine g_iceq r7_linksOf_21 (fun hc => absurd hc (znI_m1 (by omega))) (fun h21 => ?_)
      refine g_k r7_linksOf_24 ?_
      refine g_il4 r7_linksOf_25 ?_
      refine g_ishl r7_linksOf_27 ?_
      refine g_is5 r7_linksOf_28 rfl ?_
      refine g_il3 r7_linksOf_30 ?_
      refine g_al0 r7_linksOf_31 ?_
      refine g_gfr r7_linksOf_32 xx_54 rfl rr_54_7 ?_
      refine g_il2 r7_linksOf_35 ?_
      refine g_ialdN r7_linksOf_36 xx_59 (by omega) (by decide) ?_
      refine g_eqv (y := J 59 a) (congrFun (hO.o 59 (by decide) (by decide)) a) ?_
      refine g_il5 r7_linksOf_37 ?_
      refine g_iand r7_linksOf_39 ?_
      refine g_ifeq r7_linksOf_40 (fun h40 => ?_) (fun h40 => ?_)
      · refine g_k r7_linksOf_54 ?_
        refine g_ior r7_linksOf_55 ?_
        refine g_is3 r7_linksOf_56 rfl ?_
        refine g_il3 r7_linksOf_57 ?_
        refine g_al0 r7_linksOf_58 ?_
        refine g_gfr r7_linksOf_59 xx_54 rfl rr_54_8 ?_
        refine g_il2 r7_linksOf_62 ?_
        refine g_ialdN r7_linksOf_63 xx_60 (by omega) (by decide) ?_
        refine g_eqv (y := J 60 a) (congrFun (hO.o 60 (by decide) (by decide)) a) ?_
        refine g_il5 r7_linksOf_64 ?_
        refine g_iand r7_linksOf_66 ?_
        refine g_ifeq r7_linksOf_67 (fun h67 => ?_) (fun h67 => ?_)
        · refine g_k r7_linksOf_81 ?_
          refine g_ior r7_linksOf_82 ?_
          refine g_is3 r7_linksOf_83 rfl ?_
          refine g_iiN4 r7_linksOf_84 rfl ?_
          refine g_goto r7_linksOf_87 ?_
          have ih2 := ih (i + 1) (.int (1 <<< (nI i &&& 31))) (by omega) (by omega)
          have e : zlkF J a k (i + 1) = (zlkF J a k i ||| (0 : Int32)) ||| (0 : Int32) := by simp only [zlkF]; rw [if_pos h40, if_pos h67]
          rw [e] at ih2
          exact ih2
        · refine g_al0 r7_linksOf_70 ?_
          refine g_il1 r7_linksOf_71 ?_
          refine g_il5 r7_linksOf_72 ?_
          refine g_k r7_linksOf_74 ?_
          refine g_eV3 r7_linksOf_75 ok7_latest pl7_linksOf pl7_latest xx_54 (Nat.le_of_ble_eq_true rfl) (el7_latest_65 hO hk) ?_
          refine g_goto r7_linksOf_78 ?_
          refine g_ior r7_linksOf_82 ?_
          refine g_is3 r7_linksOf_83 rfl ?_
          refine g_iiN4 r7_linksOf_84 rfl ?_
          refine g_goto r7_linksOf_87 ?_
          have ih2 := ih (i + 1) (.int (1 <<< (nI i &&& 31))) (by omega) (by omega)
          have e : zlkF J a k (i + 1) = (zlkF J a k i ||| (0 : Int32)) ||| zla J (1 <<< (nI i &&& 31)) 65 k := by simp only [zlkF]; rw [if_pos h40, if_neg h67]
          rw [e] at ih2
          exact ih2
      · refine g_al0 r7_linksOf_43 ?_
        refine g_il1 r7_linksOf_44 ?_
        refine g_il5 r7_linksOf_45 ?_
        refine g_k r7_linksOf_47 ?_
        refine g_eV3 r7_linksOf_48 ok7_latest pl7_linksOf pl7_latest xx_54 (Nat.le_of_ble_eq_true rfl) (el7_latest_64 hO hk) ?_
        refine g_goto r7_linksOf_51 ?_
        refine g_ior r7_linksOf_55 ?_
        refine g_is3 r7_linksOf_56 rfl ?_
        refine g_il3 r7_linksOf_57 ?_
        refine g_al0 r7_linksOf_58 ?_
        refine g_gfr r7_linksOf_59 xx_54 rfl rr_54_8 ?_
        refine g_il2 r7_linksOf_62 ?_
        refine g_ialdN r7_linksOf_63 xx_60 (by omega) (by decide) ?_
        refine g_eqv (y := J 60 a) (congrFun (hO.o 60 (by decide) (by decide)) a) ?_
        refine g_il5 r7_linksOf_64 ?_
        refine g_iand r7_linksOf_66 ?_
        refine g_ifeq r7_linksOf_67 (fun h67 => ?_) (fun h67 => ?_)
        · refine g_k r7_linksOf_81 ?_
          refine g_ior r7_linksOf_82 ?_
          refine g_is3 r7_linksOf_83 rfl ?_
          refine g_iiN4 r7_linksOf_84 rfl ?_
          refine g_goto r7_linksOf_87 ?_
          have ih2 := ih (i + 1) (.int (1 <<< (nI i &&& 31))) (by omega) (by omega)
          have e : zlkF J a k (i + 1) = (zlkF J a k i ||| zla J (1 <<< (nI i &&& 31)) 64 k) ||| (0 : Int32) := by simp only [zlkF]; rw [if_neg h40, if_pos h67]
          rw [e] at ih2
          exact ih2
        · refine g_al0 r7_linksOf_70 ?_
          refine g_il1 r7_linksOf_71 ?_
          refine g_il5 r7_linksOf_72 ?_
          refine g_k r7_linksOf_74 ?_
          refine g_eV3 r7_linksOf_75 ok7_latest pl7_linksOf pl7_latest xx_54 (Nat.le_of_ble_eq_true rfl) (el7_latest_65 hO hk) ?_
          refine g_goto r7_linksOf_78 ?_
          refine g_ior r7_linksOf_82 ?_
          refine g_is3 r7_linksOf_83 rfl ?_
          refine g_iiN4 r7_linksOf_84 rfl ?_
          refine g_goto r7_linksOf_87 ?_
          have ih2 := ih (i + 1) (.int (1 <<< (nI i &&& 31))) (by omega) (by omega)
          have e : zlkF J a k (i + 1) = (zlkF J a k i ||| zla J (1 <<< (nI i &&& 31)) 64 k) ||| zla J (1 <<< (nI i &&& 31)) 65 k := by simp only [zlkF]; rw [if_neg h40, if_neg h67]
          rw [e] at ih2
          exact ih2
theorem el7_linksOf {w v0 e1 e2 : Nat} {h : Int64} {J I : zMI} (hO : zOx J I) (W : zWF J) {k : Nat} (hk : k < jt J) : zEr m7_linksOf (zRR w v0 e1 e2) h I [.ref 54, .int (nI k)] (some (.int (zlk J k))) (zRR w v0 e1 e2) h I := by
  have ht30 := W.t30
  refine zEp_of [.ref 54, .int (nI k), .null, .null, .null, .null] pl7_linksOf (by decide +kernel) (fun _ _ => rfl) (fun _ _ => Nat.le_of_ble_eq_true rfl) ?_
  refine g_al0 r7_linksOf_0 ?_
  refine g_gfr r7_linksOf_1 xx_54 rfl rr_54_14 ?_
  refine g_il1 r7_linksOf_4 ?_
  refine g_ialdN r7_linksOf_5 xx_63 (by omega) (by decide) ?_
  refine g_eqv (y := J 63 k) (congrFun (hO.o 63 (by decide) (by decide)) k) ?_
  refine g_is2 r7_linksOf_6 rfl ?_
  refine g_k r7_linksOf_7 ?_
  refine g_is3 r7_linksOf_8 rfl ?_
  refine g_k r7_linksOf_9 ?_
  refine g_is4 r7_linksOf_10 rfl ?_
  rcases W.sa k hk with e | ⟨a, ha, e⟩
  · rw [e]
    refine g_il4 r7_linksOf_12 ?_
    refine g_k r7_linksOf_14 ?_
    refine g_icgeL r7_linksOf_16 (fun h16 => ?_) (fun h16 => ?_)
    · refine g_il3 r7_linksOf_90 ?_
      exact g_iret r7_linksOf_91 rfl ⟨rfl, ⟨zrt (by unfold zlk; rw [if_pos e]), rfl, rfl, rfl⟩⟩
    · refine g_il2 r7_linksOf_19 ?_
      refine g_k r7_linksOf_20 ?_
      refine g_iceq r7_linksOf_21 (fun h21 => ?_) (fun hc => absurd hc (fun q => q rfl))
      refine g_il3 r7_linksOf_90 ?_
      exact g_iret r7_linksOf_91 rfl ⟨rfl, ⟨zrt (by unfold zlk; rw [if_pos e]), rfl, rfl, rfl⟩⟩
  · have e9 : zlk J k = zlkF J a k 8 := by unfold zlk; rw [if_neg (by rw [e]; exact znI_m1 (by have := W.m10; omega)), e, nI_clamp (by have := W.m10; omega)]
    rw [e, e9]
    exact lp7_linksOf hO (by omega) (by have := W.m10; omega) 9 0 .null (by omega) (by omega)
theorem lp7_threadsAhead {w v0 e1 e2 : Nat} {h : Int64} {I : zMI} {x : Nat} (hx : x ≤ 30) : ∀ d i, x - i < d → i ≤ x → zGo m7_threadsAhead 4 [.ref 54, .int (nI x), .int (zta (I 81) i), .int (nI i)] [] zX (zRR w v0 e1 e2) h I (fun v X1 R1 h1 I1 => X1 = zX ∧ v = some (.int (zta (I 81) x)) ∧ R1 = (zRR w v0 e1 e2) ∧ h1 = h ∧ I1 = I) := by
  intro d
  induction d with
  | zero => intro i hd0; exact absurd hd0 (Nat.not_lt_zero _)
  | succ d ih =>
    intro i hd0 hd1
    refine g_il3 r7_threadsAhead_4 ?_
    refine g_il1 r7_threadsAhead_5 ?_
    refine g_icgeN r7_threadsAhead_6 (by omega) (by omega) (fun h6 => ?_) (fun h6 => ?_)
    · refine g_il2 r7_threadsAhead_33 ?_
      exact g_iret r7_threadsAhead_34 rfl ⟨rfl, ⟨zrt (by rw [show i = x by omega]), rfl, rfl, rfl⟩⟩
    · refine g_il2 r7_threadsAhead_9 ?_
      refine g_al0 r7_threadsAhead_10 ?_
      refine g_gfr r7_threadsAhead_11 xx_54 rfl rr_54_41 ?_
      refine g_il3 r7_threadsAhead_14 ?_
      refine g_ialdN r7_threadsAhead_15 xx_81 (by omega) (by decide) ?_
      refine g_il3 r7_threadsAhead_16 ?_
      refine g_icne r7_threadsAhead_17 (fun h17 => ?_) (fun h17 => ?_)
      · refine g_k r7_threadsAhead_24 ?_
        refine g_iadd r7_threadsAhead_25 ?_
        refine g_is2 r7_threadsAhead_26 rfl ?_
        refine g_iiN3 r7_threadsAhead_27 rfl ?_
        refine g_goto r7_threadsAhead_30 ?_
        have ih2 := ih (i + 1) (by omega) (by omega)
        first | (have hp : I 81 i = nI i := (by first | assumption | (simp_all; done)); simp only [zta, if_pos hp] at ih2; exact ih2) | (have hp : ¬ (I 81 i = nI i) := (by first | assumption | (simp_all; done)); simp only [zta, if_neg hp] at ih2; exact ih2)
      · refine g_k r7_threadsAhead_20 ?_
        refine g_goto r7_threadsAhead_21 ?_
        refine g_iadd r7_threadsAhead_25 ?_
        refine g_is2 r7_threadsAhead_26 rfl ?_
        refine g_iiN3 r7_threadsAhead_27 rfl ?_
        refine g_goto r7_threadsAhead_30 ?_
        have ih2 := ih (i + 1) (by omega) (by omega)
        first | (have hp : I 81 i = nI i := (by first | assumption | (simp_all; done)); simp only [zta, if_pos hp] at ih2; exact ih2) | (have hp : ¬ (I 81 i = nI i) := (by first | assumption | (simp_all; done)); simp only [zta, if_neg hp] at ih2; exact ih2)
theorem ev7_threadsAhead {w v0 e1 e2 : Nat} {h : Int64} {I : zMI} {x : Nat} (hx : x ≤ 30) : zEr m7_threadsAhead (zRR w v0 e1 e2) h I [.ref 54, .int (nI x)] (some (.int (zta (I 81) x))) (zRR w v0 e1 e2) h I := by
  refine zEp_of [.ref 54, .int (nI x), .null, .null] pl7_threadsAhead (by decide +kernel) (fun _ _ => rfl) (fun _ _ => Nat.le_of_ble_eq_true rfl) ?_
  refine g_k r7_threadsAhead_0 ?_
  refine g_is2 r7_threadsAhead_1 rfl ?_
  refine g_k r7_threadsAhead_2 ?_
  refine g_is3 r7_threadsAhead_3 rfl ?_
  exact lp7_threadsAhead hx (x + 1) 0 (by omega) (by omega)
theorem lp7_isDull {w v0 e1 e2 : Nat} {h : Int64} {J I : zMI} (hO : zOx J I) (W : zWF J) {x ss : Int32} (ht30 : jt J ≤ 30) : ∀ d i, jt J - i < d → i ≤ jt J → zGo m7_isDull 11 [.ref 54, .int x, .int ss, .int (zdS J x ss i), .int (zdI J x ss i), .int (nI i)] [] zX (zRR w v0 e1 e2) h I (fun v X1 R1 h1 I1 => X1 = zX ∧ v = some (.int (zdu J x ss)) ∧ R1 = (zRR w v0 e1 e2) ∧ h1 = h ∧ I1 = I) := by
  intro d
  induction d with
  | zero => intro i hd0; exact absurd hd0 (Nat.not_lt_zero _)
  | succ d ih =>
    intro i hd0 hd1
    refine g_il5 r7_isDull_11 ?_
    refine g_al0 r7_isDull_13 ?_
    refine g_gfi r7_isDull_14 xx_54 rfl ?_
    refine g_eqv (y := nI (jt J)) ((hO.f 13 (by decide)).trans W.t) ?_
    refine g_icgeN r7_isDull_17 (by omega) (by omega) (fun h17 => ?_) (fun h17 => ?_)
    · obtain rfl : i = jt J := by omega
      refine g_al0 r7_isDull_100 ?_
      refine g_al0 r7_isDull_101 ?_
      refine g_gfi r7_isDull_102 xx_54 rfl ?_
      refine g_eqv (y := J 54 11) (hO.f 11 (by decide)) ?_
      refine g_eV1 r7_isDull_105 ok7_wantsIn pl7_isDull pl7_wantsIn xx_54 (Nat.le_of_ble_eq_true rfl) (el7_wantsIn hO W) ?_
      refine g_is5 r7_isDull_108 rfl ?_
      refine g_il4 r7_isDull_110 ?_
      refine g_ifeq r7_isDull_112 (fun h112 => ?_) (fun h112 => ?_)
      · refine g_k r7_isDull_132 ?_
        exact g_zret r7_isDull_133 rfl (Or.inl rfl) ⟨rfl, ⟨zrt (by unfold zdu; rw [if_neg (fun q => q.1 h112)]), rfl, rfl, rfl⟩⟩
      · refine g_al0 r7_isDull_115 ?_
        refine g_il3 r7_isDull_116 ?_
        refine g_eV1 r7_isDull_117 ok7_wantsIn pl7_isDull pl7_wantsIn xx_54 (Nat.le_of_ble_eq_true rfl) (el7_wantsIn hO W) ?_
        refine g_il5 r7_isDull_120 ?_
        refine g_iand r7_isDull_122 ?_
        refine g_il5 r7_isDull_123 ?_
        refine g_icne r7_isDull_125 (fun h125 => ?_) (fun h125 => ?_)
        · refine g_k r7_isDull_132 ?_
          exact g_zret r7_isDull_133 rfl (Or.inl rfl) ⟨rfl, ⟨zrt (by unfold zdu; rw [if_neg (fun q => h125 q.2)]), rfl, rfl, rfl⟩⟩
        · refine g_k r7_isDull_128 ?_
          refine g_goto r7_isDull_129 ?_
          exact g_zret r7_isDull_133 rfl (Or.inr rfl) ⟨rfl, ⟨zrt (by unfold zdu; rw [if_pos ⟨h112, h125⟩]), rfl, rfl, rfl⟩⟩
    · refine g_il5 r7_isDull_20 ?_
      refine g_il1 r7_isDull_22 ?_
      refine g_iceq r7_isDull_23 (fun h23 => ?_) (fun h23 => ?_)
      · refine g_iiN5 r7_isDull_94 rfl ?_
        refine g_goto r7_isDull_97 ?_
        have ih2 := ih (i + 1) (by omega) (by omega)
        simp only [zdS, zdI, if_neg (show ¬ (¬ nI i = x ∧ ss >>> (nI i &&& 31) &&& 1 = 1) from fun q => q.1 h23)] at ih2
        exact ih2
      · refine g_il2 r7_isDull_26 ?_
        refine g_il5 r7_isDull_27 ?_
        refine g_ishr r7_isDull_29 ?_
        refine g_k r7_isDull_30 ?_
        refine g_iand r7_isDull_31 ?_
        refine g_k r7_isDull_32 ?_
        refine g_icne r7_isDull_33 (fun h33 => ?_) (fun h33 => ?_)
        · refine g_iiN5 r7_isDull_94 rfl ?_
          refine g_goto r7_isDull_97 ?_
          have ih2 := ih (i + 1) (by omega) (by omega)
          simp only [zdS, zdI, if_neg (show ¬ (¬ nI i = x ∧ ss >>> (nI i &&& 31) &&& 1 = 1) from fun q => h33 q.2)] at ih2
          exact ih2
        · refine g_il4 r7_isDull_36 ?_
          refine g_ifeq r7_isDull_38 (fun h38 => ?_) (fun h38 => ?_)
          · refine g_k r7_isDull_71 ?_
            refine g_is4 r7_isDull_72 rfl ?_
            refine g_il3 r7_isDull_74 ?_
            refine g_al0 r7_isDull_75 ?_
            refine g_gfr r7_isDull_76 xx_54 rfl rr_54_16 ?_
            refine g_il5 r7_isDull_79 ?_
            refine g_ialdN r7_isDull_81 xx_65 (by omega) (by decide) ?_
            refine g_eqv (y := J 65 i) (congrFun (hO.o 65 (by decide) (by decide)) i) ?_
            refine g_k r7_isDull_82 ?_
            refine g_ixor r7_isDull_83 ?_
            refine g_iand r7_isDull_84 ?_
            refine g_al0 r7_isDull_85 ?_
            refine g_gfr r7_isDull_86 xx_54 rfl rr_54_15 ?_
            refine g_il5 r7_isDull_89 ?_
            refine g_ialdN r7_isDull_91 xx_64 (by omega) (by decide) ?_
            refine g_eqv (y := J 64 i) (congrFun (hO.o 64 (by decide) (by decide)) i) ?_
            refine g_ior r7_isDull_92 ?_
            refine g_is3 r7_isDull_93 rfl ?_
            refine g_iiN5 r7_isDull_94 rfl ?_
            refine g_goto r7_isDull_97 ?_
            have ih2 := ih (i + 1) (by omega) (by omega)
            simp only [zdS, zdI, if_pos (show ¬ nI i = x ∧ ss >>> (nI i &&& 31) &&& 1 = 1 from ⟨h23, h33⟩)] at ih2
            rw [if_neg (show ¬ (¬ zdI J x ss i = 0 ∧ (J 63 i = -1 ∨ (J 59 (J 63 i).toNatClampNeg &&& (zdS J x ss i ^^^ (-1)) = 0 ∧ J 60 (J 63 i).toNatClampNeg &&& zdS J x ss i = 0))) from fun q => q.1 h38)] at ih2
            exact ih2
          · refine g_al0 r7_isDull_41 ?_
            refine g_gfr r7_isDull_42 xx_54 rfl rr_54_14 ?_
            refine g_il5 r7_isDull_45 ?_
            refine g_ialdN r7_isDull_47 xx_63 (by omega) (by decide) ?_
            refine g_eqv (y := J 63 i) (congrFun (hO.o 63 (by decide) (by decide)) i) ?_
            refine g_k r7_isDull_48 ?_
            refine g_iceq r7_isDull_49 (fun h49 => ?_) (fun h49 => ?_)
            · refine g_k r7_isDull_67 ?_
              refine g_goto r7_isDull_68 ?_
              refine g_is4 r7_isDull_72 rfl ?_
              refine g_il3 r7_isDull_74 ?_
              refine g_al0 r7_isDull_75 ?_
              refine g_gfr r7_isDull_76 xx_54 rfl rr_54_16 ?_
              refine g_il5 r7_isDull_79 ?_
              refine g_ialdN r7_isDull_81 xx_65 (by omega) (by decide) ?_
              refine g_eqv (y := J 65 i) (congrFun (hO.o 65 (by decide) (by decide)) i) ?_
              refine g_k r7_isDull_82 ?_
              refine g_ixor r7_isDull_83 ?_
              refine g_iand r7_isDull_84 ?_
              refine g_al0 r7_isDull_85 ?_
              refine g_gfr r7_isDull_86 xx_54 rfl rr_54_15 ?_
              refine g_il5 r7_isDull_89 ?_
              refine g_ialdN r7_isDull_91 xx_64 (by omega) (by decide) ?_
              refine g_eqv (y := J 64 i) (congrFun (hO.o 64 (by decide) (by decide)) i) ?_
              refine g_ior r7_isDull_92 ?_
              refine g_is3 r7_isDull_93 rfl ?_
              refine g_iiN5 r7_isDull_94 rfl ?_
              refine g_goto r7_isDull_97 ?_
              have ih2 := ih (i + 1) (by omega) (by omega)
              simp only [zdS, zdI, if_pos (show ¬ nI i = x ∧ ss >>> (nI i &&& 31) &&& 1 = 1 from ⟨h23, h33⟩)] at ih2
              rw [if_pos (show ¬ zdI J x ss i = 0 ∧ (J 63 i = -1 ∨ (J 59 (J 63 i).toNatClampNeg &&& (zdS J x ss i ^^^ (-1)) = 0 ∧ J 60 (J 63 i).toNatClampNeg &&& zdS J x ss i = 0)) from ⟨h38, Or.inl h49⟩)] at ih2
              exact ih2
            · refine g_al0 r7_isDull_52 ?_
              refine g_al0 r7_isDull_53 ?_
              refine g_gfr r7_isDull_54 xx_54 rfl rr_54_14 ?_
              refine g_il5 r7_isDull_57 ?_
              obtain ⟨a, ha, ea⟩ := (W.sa i h17).resolve_left h49
              have hm10 := W.m10
              refine g_ialdN r7_isDull_59 xx_63 (by omega) (by decide) ?_
              refine g_eqv (y := nI a) ((congrFun (hO.o 63 (by decide) (by decide)) i).trans ea) ?_
              refine g_il3 r7_isDull_60 ?_
              refine g_eV2 r7_isDull_61 ok7_canDo pl7_isDull pl7_canDo xx_54 (Nat.le_of_ble_eq_true rfl) (el7_canDo hO (by omega)) ?_
              refine g_ifeqB r7_isDull_64 (fun h64 => ?_) (fun h64 => ?_)
              · refine g_k r7_isDull_71 ?_
                refine g_is4 r7_isDull_72 rfl ?_
                refine g_il3 r7_isDull_74 ?_
                refine g_al0 r7_isDull_75 ?_
                refine g_gfr r7_isDull_76 xx_54 rfl rr_54_16 ?_
                refine g_il5 r7_isDull_79 ?_
                refine g_ialdN r7_isDull_81 xx_65 (by omega) (by decide) ?_
                refine g_eqv (y := J 65 i) (congrFun (hO.o 65 (by decide) (by decide)) i) ?_
                refine g_k r7_isDull_82 ?_
                refine g_ixor r7_isDull_83 ?_
                refine g_iand r7_isDull_84 ?_
                refine g_al0 r7_isDull_85 ?_
                refine g_gfr r7_isDull_86 xx_54 rfl rr_54_15 ?_
                refine g_il5 r7_isDull_89 ?_
                refine g_ialdN r7_isDull_91 xx_64 (by omega) (by decide) ?_
                refine g_eqv (y := J 64 i) (congrFun (hO.o 64 (by decide) (by decide)) i) ?_
                refine g_ior r7_isDull_92 ?_
                refine g_is3 r7_isDull_93 rfl ?_
                refine g_iiN5 r7_isDull_94 rfl ?_
                refine g_goto r7_isDull_97 ?_
                have ih2 := ih (i + 1) (by omega) (by omega)
                simp only [zdS, zdI, if_pos (show ¬ nI i = x ∧ ss >>> (nI i &&& 31) &&& 1 = 1 from ⟨h23, h33⟩)] at ih2
                rw [if_neg (show ¬ (¬ zdI J x ss i = 0 ∧ (J 63 i = -1 ∨ (J 59 (J 63 i).toNatClampNeg &&& (zdS J x ss i ^^^ (-1)) = 0 ∧ J 60 (J 63 i).toNatClampNeg &&& zdS J x ss i = 0))) from fun q => q.2.elim h49 (fun q => h64 (by rw [ea, nI_clamp (by omega)] at q; exact q)))] at ih2
                exact ih2
              · refine g_k r7_isDull_67 ?_
                refine g_goto r7_isDull_68 ?_
                refine g_is4 r7_isDull_72 rfl ?_
                refine g_il3 r7_isDull_74 ?_
                refine g_al0 r7_isDull_75 ?_
                refine g_gfr r7_isDull_76 xx_54 rfl rr_54_16 ?_
                refine g_il5 r7_isDull_79 ?_
                refine g_ialdN r7_isDull_81 xx_65 (by omega) (by decide) ?_
                refine g_eqv (y := J 65 i) (congrFun (hO.o 65 (by decide) (by decide)) i) ?_
                refine g_k r7_isDull_82 ?_
                refine g_ixor r7_isDull_83 ?_
                refine g_iand r7_isDull_84 ?_
                refine g_al0 r7_isDull_85 ?_
                refine g_gfr r7_isDull_86 xx_54 rfl rr_54_15 ?_
                refine g_il5 r7_isDull_89 ?_
                refine g_ialdN r7_isDull_91 xx_64 (by omega) (by decide) ?_
                refine g_eqv (y := J 64 i) (congrFun (hO.o 64 (by decide) (by decide)) i) ?_
                refine g_ior r7_isDull_92 ?_
                refine g_is3 r7_isDull_93 rfl ?_
                refine g_iiN5 r7_isDull_94 rfl ?_
                refine g_goto r7_isDull_97 ?_
                have ih2 := ih (i + 1) (by omega) (by omega)
                simp only [zdS, zdI, if_pos (show ¬ nI i = x ∧ ss >>> (nI i &&& 31) &&& 1 = 1 from ⟨h23, h33⟩)] at ih2
                rw [if_pos (show ¬ zdI J x ss i = 0 ∧ (J 63 i = -1 ∨ (J 59 (J 63 i).toNatClampNeg &&& (zdS J x ss i ^^^ (-1)) = 0 ∧ J 60 (J 63 i).toNatClampNeg &&& zdS J x ss i = 0)) from ⟨h38, Or.inr (by rw [ea, nI_clamp (by omega)]; exact h64)⟩)] at ih2
                exact ih2
theorem el7_isDull {w v0 e1 e2 : Nat} {h : Int64} {J I : zMI} (hO : zOx J I) (W : zWF J) {x ss : Int32} : zEr m7_isDull (zRR w v0 e1 e2) h I [.ref 54, .int x, .int ss] (some (.int (zdu J x ss))) (zRR w v0 e1 e2) h I := by
  refine zEp_of [.ref 54, .int x, .int ss, .null, .null, .null] pl7_isDull (by decide +kernel) (fun _ _ => rfl) (fun _ _ => Nat.le_of_ble_eq_true rfl) ?_
  refine g_al0 r7_isDull_0 ?_
  refine g_gfi r7_isDull_1 xx_54 rfl ?_
  refine g_eqv (y := J 54 4) (hO.f 4 (by decide)) ?_
  refine g_is3 r7_isDull_4 rfl ?_
  refine g_k r7_isDull_5 ?_
  refine g_is4 r7_isDull_6 rfl ?_
  refine g_k r7_isDull_8 ?_
  refine g_is5 r7_isDull_9 rfl ?_
  exact lp7_isDull hO W W.t30 (jt J + 1) 0 (by omega) (by omega)
theorem zfof : ∀ f, f < 8 → ∀ i, i < 8 → (nI (2 ^ f) >>> (nI i &&& 31) = 1 ↔ i = f) := by decide +kernel
theorem lp7_factOf {R : zMR} {h : Int64} {I : zMI} {f : Nat} (hf : f < 8) : ∀ d i, f - i < d → i ≤ f → zGo m7_factOf 2 [.int (nI (2 ^ f)), .int (nI i)] [] zX R h I (fun v X1 R1 h1 I1 => X1 = zX ∧ v = some (.int (nI f)) ∧ R1 = R ∧ h1 = h ∧ I1 = I) := by
  intro d
  induction d with
  | zero => intro i hd0; exact absurd hd0 (Nat.not_lt_zero _)
  | succ d ih =>
    intro i hd0 hd1
    refine g_il0 r7_factOf_2 ?_
    refine g_il1 r7_factOf_3 ?_
    refine g_ishr r7_factOf_4 ?_
    refine g_k r7_factOf_5 ?_
    refine g_iceq r7_factOf_6 (fun h6 => ?_) (fun h6 => ?_)
    · refine g_il1 r7_factOf_15 ?_
      exact g_iret r7_factOf_16 rfl ⟨rfl, ⟨zrt (by rw [(zfof f hf i (by omega)).mp h6]), rfl, rfl, rfl⟩⟩
    · refine g_iiN1 r7_factOf_9 rfl ?_
      refine g_goto r7_factOf_12 ?_
      have := mt (zfof f hf i (by omega)).mpr h6
      exact ih (i + 1) (by omega) (by omega)
theorem ev7_factOf {R : zMR} {h : Int64} {I : zMI} {f : Nat} (hf : f < 8) : zEr m7_factOf R h I [.int (nI (2 ^ f))] (some (.int (nI f))) R h I := by
  refine zEp_of [.int (nI (2 ^ f)), .null] pl7_factOf (by decide +kernel) (fun _ _ => rfl) (fun _ _ => Nat.le_of_ble_eq_true rfl) ?_
  refine g_k r7_factOf_0 ?_
  refine g_is1 r7_factOf_1 rfl ?_
  exact lp7_factOf hf (f + 1) 0 (by omega) (by omega)
theorem lp7_dullMany {w v0 e1 e2 : Nat} {h : Int64} {J I : zMI} (hO : zOx J I) (W : zWF J) (ht30 : jt J ≤ 30) : ∀ d i, jt J - i < d → i ≤ jt J → zGo m7_dullMany 4 [.ref 54, .int (zdm J i), .int (nI i)] [] zX (zRR w v0 e1 e2) h I (fun v X1 R1 h1 I1 => X1 = zX ∧ v = some (.int (zdm J (jt J))) ∧ R1 = (zRR w v0 e1 e2) ∧ h1 = h ∧ I1 = I) := by
  intro d
  induction d with
  | zero => intro i hd0; exact absurd hd0 (Nat.not_lt_zero _)
  | succ d ih =>
    intro i hd0 hd1
    refine g_il2 r7_dullMany_4 ?_
    refine g_al0 r7_dullMany_5 ?_
    refine g_gfi r7_dullMany_6 xx_54 rfl ?_
    refine g_eqv (y := nI (jt J)) ((hO.f 13 (by decide)).trans W.t) ?_
    refine g_icgeN r7_dullMany_9 (by omega) (by omega) (fun h9 => ?_) (fun h9 => ?_)
    · refine g_il1 r7_dullMany_38 ?_
      exact g_iret r7_dullMany_39 rfl ⟨rfl, ⟨zrt (by rw [show i = jt J by omega]), rfl, rfl, rfl⟩⟩
    · refine g_il1 r7_dullMany_12 ?_
      refine g_al0 r7_dullMany_13 ?_
      refine g_il2 r7_dullMany_14 ?_
      refine g_al0 r7_dullMany_15 ?_
      refine g_eV0 r7_dullMany_16 ok7_allSteps pl7_dullMany pl7_allSteps xx_54 (Nat.le_of_ble_eq_true rfl) (el7_allSteps hO) ?_
      refine g_eV2 r7_dullMany_19 ok7_isDull pl7_dullMany pl7_isDull xx_54 (Nat.le_of_ble_eq_true rfl) (el7_isDull hO W) ?_
      refine g_ifeq r7_dullMany_22 (fun h22 => ?_) (fun h22 => ?_)
      · refine g_k r7_dullMany_29 ?_
        refine g_iadd r7_dullMany_30 ?_
        refine g_is1 r7_dullMany_31 rfl ?_
        refine g_iiN2 r7_dullMany_32 rfl ?_
        refine g_goto r7_dullMany_35 ?_
        have ih2 := ih (i + 1) (by omega) (by omega)
        first | (have hp : zdu J (nI i) (zal J) = 0 := (by first | assumption | (simp_all; done)); simp only [zdm, if_pos hp] at ih2; exact ih2) | (have hp : ¬ (zdu J (nI i) (zal J) = 0) := (by first | assumption | (simp_all; done)); simp only [zdm, if_neg hp] at ih2; exact ih2)
      · refine g_k r7_dullMany_25 ?_
        refine g_goto r7_dullMany_26 ?_
        refine g_iadd r7_dullMany_30 ?_
        refine g_is1 r7_dullMany_31 rfl ?_
        refine g_iiN2 r7_dullMany_32 rfl ?_
        refine g_goto r7_dullMany_35 ?_
        have ih2 := ih (i + 1) (by omega) (by omega)
        first | (have hp : zdu J (nI i) (zal J) = 0 := (by first | assumption | (simp_all; done)); simp only [zdm, if_pos hp] at ih2; exact ih2) | (have hp : ¬ (zdu J (nI i) (zal J) = 0) := (by first | assumption | (simp_all; done)); simp only [zdm, if_neg hp] at ih2; exact ih2)
theorem el7_dullMany {w v0 e1 e2 : Nat} {h : Int64} {J I : zMI} (hO : zOx J I) (W : zWF J)  : zEr m7_dullMany (zRR w v0 e1 e2) h I [.ref 54] (some (.int (zdm J (jt J)))) (zRR w v0 e1 e2) h I := by
  refine zEp_of [.ref 54, .null, .null] pl7_dullMany (by decide +kernel) (fun _ _ => rfl) (fun _ _ => Nat.le_of_ble_eq_true rfl) ?_
  refine g_k r7_dullMany_0 ?_
  refine g_is1 r7_dullMany_1 rfl ?_
  refine g_k r7_dullMany_2 ?_
  refine g_is2 r7_dullMany_3 rfl ?_
  exact lp7_dullMany hO W W.t30 (jt J + 1) 0 (by omega) (by omega)
theorem lp7_firstDull {w v0 e1 e2 : Nat} {h : Int64} {J I : zMI} (hO : zOx J I) (W : zWF J) {s : Int32} (ht30 : jt J ≤ 30) : ∀ d i, jt J - i < d → i ≤ jt J → (∀ b, b < i → ¬ (s >>> (nI b &&& 31) &&& 1 = 1 ∧ ¬ zdu J (nI b) s = 0)) → zGo m7_firstDull 2 [.ref 54, .int s, .int (nI i)] [] zX (zRR w v0 e1 e2) h I (fun v X1 R1 h1 I1 => X1 = zX ∧ v = some (.int (zfd J s)) ∧ R1 = (zRR w v0 e1 e2) ∧ h1 = h ∧ I1 = I) := by
  intro d
  induction d with
  | zero => intro i hd0; exact absurd hd0 (Nat.not_lt_zero _)
  | succ d ih =>
    intro i hd0 hd1 hI
    refine g_il2 r7_firstDull_2 ?_
    refine g_al0 r7_firstDull_3 ?_
    refine g_gfi r7_firstDull_4 xx_54 rfl ?_
    refine g_eqv (y := nI (jt J)) ((hO.f 13 (by decide)).trans W.t) ?_
    refine g_icgeN r7_firstDull_7 (by omega) (by omega) (fun h7 => ?_) (fun h7 => ?_)
    · refine g_k r7_firstDull_36 ?_
      exact g_iret r7_firstDull_37 rfl ⟨rfl, ⟨zrt ((zfi_no (p := fun k => s >>> (nI k &&& 31) &&& 1 = 1 ∧ ¬ zdu J (nI k) s = 0) (fun k hk => hI k (by omega))).symm), rfl, rfl, rfl⟩⟩
    · refine g_il1 r7_firstDull_10 ?_
      refine g_il2 r7_firstDull_11 ?_
      refine g_ishr r7_firstDull_12 ?_
      refine g_k r7_firstDull_13 ?_
      refine g_iand r7_firstDull_14 ?_
      refine g_k r7_firstDull_15 ?_
      refine g_icne r7_firstDull_16 (fun h16 => ?_) (fun h16 => ?_)
      · refine g_iiN2 r7_firstDull_30 rfl ?_
        refine g_goto r7_firstDull_33 ?_
        exact ih (i + 1) (by omega) (by omega) (fun b hb => by
          rcases Nat.lt_succ_iff_lt_or_eq.mp hb with q | rfl
          · exact hI b q
          · exact fun q => h16 q.1)
      · refine g_al0 r7_firstDull_19 ?_
        refine g_il2 r7_firstDull_20 ?_
        refine g_il1 r7_firstDull_21 ?_
        refine g_eV2 r7_firstDull_22 ok7_isDull pl7_firstDull pl7_isDull xx_54 (Nat.le_of_ble_eq_true rfl) (el7_isDull hO W) ?_
        refine g_ifeq r7_firstDull_25 (fun h25 => ?_) (fun h25 => ?_)
        · refine g_iiN2 r7_firstDull_30 rfl ?_
          refine g_goto r7_firstDull_33 ?_
          exact ih (i + 1) (by omega) (by omega) (fun b hb => by
            rcases Nat.lt_succ_iff_lt_or_eq.mp hb with q | rfl
            · exact hI b q
            · exact fun q => q.2 h25)
        · refine g_il2 r7_firstDull_28 ?_
          exact g_iret r7_firstDull_29 rfl ⟨rfl, ⟨zrt ((zfi_yes (p := fun k => s >>> (nI k &&& 31) &&& 1 = 1 ∧ ¬ zdu J (nI k) s = 0) ⟨h16, h25⟩ hI (by omega) h7).symm), rfl, rfl, rfl⟩⟩
theorem el7_firstDull {w v0 e1 e2 : Nat} {h : Int64} {J I : zMI} (hO : zOx J I) (W : zWF J) {s : Int32} : zEr m7_firstDull (zRR w v0 e1 e2) h I [.ref 54, .int s] (some (.int (zfd J s))) (zRR w v0 e1 e2) h I := by
  refine zEp_of [.ref 54, .int s, .null] pl7_firstDull (by decide +kernel) (fun _ _ => rfl) (fun _ _ => Nat.le_of_ble_eq_true rfl) ?_
  refine g_k r7_firstDull_0 ?_
  refine g_is2 r7_firstDull_1 rfl ?_
  exact lp7_firstDull hO W W.t30 (jt J + 1) 0 (by omega) (by omega) (fun b hb => absurd hb (Nat.not_lt_zero b))
/-- how many bits of a set stand below t -/
def zpc (s : Int32) (t : Nat) : Nat := zsum (fun k => if s >>> (nI k &&& 31) &&& 1 = 1 then 1 else 0) t
theorem zpc_lt {s : Int32} {d t : Nat} (hd : d < t) (ht : t ≤ 30) (hb : s >>> (nI d &&& 31) &&& 1 = 1) : zpc (s &&& ((1 <<< (nI d &&& 31)) ^^^ (-1))) t < zpc s t := by
  refine zsum_lt (fun k hk => ?_) ⟨d, hd, ?_⟩
  · simp only [zclr (show d < 31 by omega) (show k < 31 by omega)]
    by_cases e : k = d
    · simp [e]
    · simp [e]
  · simp only [zclr (show d < 31 by omega) (show d < 31 by omega), hb]
    simp
theorem zpc_le (s : Int32) : ∀ t, zpc s t ≤ t
  | 0 => Nat.le_refl 0
  | t + 1 => by
    have := zpc_le s t
    simp only [zpc, zsum] at this ⊢
    split <;> omega
theorem zfd_cases {J : zMI} (W : zWF J) (s : Int32) : zfd J s = -1 ∨ ∃ d, d < jt J ∧ zfd J s = nI d ∧ s >>> (nI d &&& 31) &&& 1 = 1 ∧ ¬ zdu J (nI d) s = 0 := by
  rcases zfi_cases (fun k => s >>> (nI k &&& 31) &&& 1 = 1 ∧ ¬ zdu J (nI k) s = 0) (jt J) (by have := W.t30; omega) with h | ⟨d, h1, h2, h3, -⟩
  · exact Or.inl h.1
  · exact Or.inr ⟨d, h1, h2, h3.1, h3.2⟩
