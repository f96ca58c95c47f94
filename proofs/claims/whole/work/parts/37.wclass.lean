theorem zbit1 : ∀ f, f < 32 → zBt (1 <<< (nI f &&& 31)) f = true := fun f hf => by rw [zBt_p f hf f hf]; simp
theorem zbitA (s : Int32) {f : Nat} (hf : f < 32) : s &&& (1 <<< (nI f &&& 31)) = if zBt s f then 1 <<< (nI f &&& 31) else 0 := by
  apply zBt_ext
  intro i hi
  rw [zBt_and, zBt_p f hf i hi]
  by_cases e : i = f
  · subst e; cases zBt s i <;> simp [zBt_0, zBt_p i hf i hi]
  · cases zBt s f <;> simp [zBt_0, zBt_p f hf i hi, e]
theorem zbitn {f : Nat} (hf : f < 32) : ¬ (1 : Int32) <<< (nI f &&& 31) = 0 := fun q => by have := zbit1 f hf; rw [q, zBt_0] at this; exact absurd this (by decide)
/-- a goal is reached: the class's test and the model's -/
theorem zwh2 {s so : Int32} {f : Nat} (hf : f < 8) (hso : so = 0 ∨ so = 1) : (s &&& zWt so (nI f) = zWt so (nI f) ∧ s &&& zWf so (nI f) = 0) ↔ zb (s >>> (nI f &&& 31) &&& 1 = 1) = so := by
  have e1 := zBt_1i (x := s) (show f < 32 by omega)
  rcases hso with rfl | rfl
  · simp only [zWt, zWf, if_true, Int32.and_zero, true_and]
    rw [zbitA s (by omega), zb_0, e1]
    have := zbitn (show f < 32 by omega)
    cases zBt s f <;> simp [this]
  · simp only [zWt, zWf, if_neg (show ¬ (1 : Int32) = 0 by decide), Int32.and_zero, and_true]
    rw [zbitA s (by omega), zb_1, e1]
    have := zbitn (show f < 32 by omega)
    cases zBt s f <;> simp [Ne.symm this]
theorem zwh3 {J I : zMI} {w : Nat} (W : zWF J) (hWl : zWl w I J) {k : Nat} (hk : k < jn J) (s : Int32) : (s &&& I (w + 3) k = I (w + 3) k ∧ s &&& I (w + 4) k = 0) ↔ zb (s >>> (J 56 k &&& 31) &&& 1 = 1) = J 57 k := by
  obtain ⟨f, hf, ef⟩ := (W.P k hk).1
  rw [(hWl.2.1 k hk).2.2.1, (hWl.2.1 k hk).2.2.2, ef]
  exact zwh2 hf (W.P k hk).2
theorem zlt_ix {n : Nat} (hn : n ≤ 1000) {x : Int32} : (¬ x < 0 ∧ x < nI n) ↔ ∃ q, q < n ∧ x = nI q := by
  constructor
  · rintro ⟨h1, h2⟩
    obtain ⟨q, hq, rfl⟩ := nI_of h1
    exact ⟨q, (nI_ltI hq (by omega)).mp h2, rfl⟩
  · rintro ⟨q, hq, rfl⟩
    exact ⟨nI_pos (by omega), nI_lt hq (by omega)⟩
theorem ev5_everybody {w v0 e1 e2 : Nat} {h : Int64} {J I : zMI} (hw : zW w) (W : zWF J) (hWl : zWl w I J)  : zEr m5_everybody (zRR w v0 e1 e2) h I [.ref w] (some (.int (1 <<< (nI (jn J) &&& 31) - 1))) (zRR w v0 e1 e2) h I := by
  refine zEp_of [.ref w] pl5_everybody (by decide +kernel) (fun _ _ => rfl) (fun _ _ => Nat.le_of_ble_eq_true rfl) ?_
  refine g_k r5_everybody_0 ?_
  refine g_al0 r5_everybody_1 ?_
  refine g_gfi r5_everybody_2 (xw hw) rfl ?_
  refine g_eqv (y := nI (jn J)) (hWl.1.1.trans W.n) ?_
  refine g_ishl r5_everybody_5 ?_
  refine g_k r5_everybody_6 ?_
  refine g_isub r5_everybody_7 ?_
  exact g_iret r5_everybody_8 rfl ⟨rfl, ⟨zrt (rfl), rfl, rfl, rfl⟩⟩
theorem ev5_everyAct {w v0 e1 e2 : Nat} {h : Int64} {J I : zMI} (hw : zW w) (W : zWF J) (hWl : zWl w I J)  : zEr m5_everyAct (zRR w v0 e1 e2) h I [.ref w] (some (.int (1 <<< (nI (jm J) &&& 31) - 1))) (zRR w v0 e1 e2) h I := by
  refine zEp_of [.ref w] pl5_everyAct (by decide +kernel) (fun _ _ => rfl) (fun _ _ => Nat.le_of_ble_eq_true rfl) ?_
  refine g_k r5_everyAct_0 ?_
  refine g_al0 r5_everyAct_1 ?_
  refine g_gfi r5_everyAct_2 (xw hw) rfl ?_
  refine g_eqv (y := nI (jm J)) (hWl.1.2.trans W.m) ?_
  refine g_ishl r5_everyAct_5 ?_
  refine g_k r5_everyAct_6 ?_
  refine g_isub r5_everyAct_7 ?_
  exact g_iret r5_everyAct_8 rfl ⟨rfl, ⟨zrt (rfl), rfl, rfl, rfl⟩⟩
theorem lp5_satisfiedBy {w v0 e1 e2 : Nat} {h : Int64} {J I : zMI} (hw : zW w) (W : zWF J) (hWl : zWl w I J) {s : Int32} (hn4 : jn J ≤ 4) : ∀ d i, jn J - i < d → i ≤ jn J → zGo m5_satisfiedBy 4 [.ref w, .int s, .int (zwi J s i), .int (nI i)] [] zX (zRR w v0 e1 e2) h I (fun v X1 R1 h1 I1 => X1 = zX ∧ v = some (.int (zwi J s (jn J))) ∧ R1 = (zRR w v0 e1 e2) ∧ h1 = h ∧ I1 = I) := by
  intro d
  induction d with
  | zero => intro i hd0; exact absurd hd0 (Nat.not_lt_zero _)
  | succ d ih =>
    intro i hd0 hd1
    refine g_il3 r5_satisfiedBy_4 ?_
    refine g_al0 r5_satisfiedBy_5 ?_
    refine g_gfi r5_satisfiedBy_6 (xw hw) rfl ?_
    refine g_eqv (y := nI (jn J)) (hWl.1.1.trans W.n) ?_
    refine g_icgeN r5_satisfiedBy_9 (by omega) (by omega) (fun h9 => ?_) (fun h9 => ?_)
    · refine g_il2 r5_satisfiedBy_43 ?_
      exact g_iret r5_satisfiedBy_44 rfl ⟨rfl, ⟨zrt (by rw [show i = jn J by omega]), rfl, rfl, rfl⟩⟩
    · refine g_il1 r5_satisfiedBy_12 ?_
      refine g_al0 r5_satisfiedBy_13 ?_
      refine g_gfr r5_satisfiedBy_14 (xw hw) rfl (rw_2 hw) ?_
      refine g_il3 r5_satisfiedBy_17 ?_
      refine g_ialdN r5_satisfiedBy_18 (xwa_2 hw) (by omega) (by decide) ?_
      refine g_al0 r5_satisfiedBy_19 ?_
      refine g_gfr r5_satisfiedBy_20 (xw hw) rfl (rw_3 hw) ?_
      refine g_il3 r5_satisfiedBy_23 ?_
      refine g_ialdN r5_satisfiedBy_24 (xwa_3 hw) (by omega) (by decide) ?_
      refine g_eS3 r5_satisfiedBy_25 ok6_holds pl5_satisfiedBy pl6_holds (Nat.le_of_ble_eq_true rfl) (ev6_holds) ?_
      refine g_ifeqB r5_satisfiedBy_28 (fun h28 => ?_) (fun h28 => ?_)
      · refine g_iiN3 r5_satisfiedBy_37 rfl ?_
        refine g_goto r5_satisfiedBy_40 ?_
        have ih2 := ih (i + 1) (by omega) (by omega)
        simp only [zwi] at ih2
        rw [if_neg (mt (zwh3 W hWl (by omega) s).mpr h28), Int32.or_zero] at ih2
        exact ih2
      · refine g_il2 r5_satisfiedBy_31 ?_
        refine g_k r5_satisfiedBy_32 ?_
        refine g_il3 r5_satisfiedBy_33 ?_
        refine g_ishl r5_satisfiedBy_34 ?_
        refine g_ior r5_satisfiedBy_35 ?_
        refine g_is2 r5_satisfiedBy_36 rfl ?_
        refine g_iiN3 r5_satisfiedBy_37 rfl ?_
        refine g_goto r5_satisfiedBy_40 ?_
        have ih2 := ih (i + 1) (by omega) (by omega)
        simp only [zwi] at ih2
        rw [if_pos (((zwh3 W hWl (by omega) s).mp h28))] at ih2
        exact ih2
theorem ev5_satisfiedBy {w v0 e1 e2 : Nat} {h : Int64} {J I : zMI} (hw : zW w) (W : zWF J) (hWl : zWl w I J) {s : Int32} : zEr m5_satisfiedBy (zRR w v0 e1 e2) h I [.ref w, .int s] (some (.int (zwi J s (jn J)))) (zRR w v0 e1 e2) h I := by
  refine zEp_of [.ref w, .int s, .null, .null] pl5_satisfiedBy (by decide +kernel) (fun _ _ => rfl) (fun _ _ => Nat.le_of_ble_eq_true rfl) ?_
  refine g_k r5_satisfiedBy_0 ?_
  refine g_is2 r5_satisfiedBy_1 rfl ?_
  refine g_k r5_satisfiedBy_2 ?_
  refine g_is3 r5_satisfiedBy_3 rfl ?_
  exact lp5_satisfiedBy hw W hWl W.n4 (jn J + 1) 0 (by omega) (by omega)
/-- the facts of the goals of a set -/
def zgs (T : Nat → Int32) (S : Int32) : Nat → Int32
  | 0 => 0
  | k + 1 => if S >>> (nI k &&& 31) &&& 1 = 1 then zgs T S k ||| T k else zgs T S k
theorem zgs_c {T T' : Nat → Int32} {S : Int32} : ∀ {n : Nat}, (∀ k, k < n → T k = T' k) → zgs T S n = zgs T' S n
  | 0, _ => rfl
  | n + 1, h => by simp only [zgs]; rw [zgs_c (fun k hk => h k (by omega)), h n (by omega)]
theorem lp5_factsOf_3 {w v0 e1 e2 : Nat} {h : Int64} {J I : zMI} (hw : zW w) (W : zWF J) (hWl : zWl w I J) {S : Int32} (hn4 : jn J ≤ 4) : ∀ d i, jn J - i < d → i ≤ jn J → zGo m5_factsOf 5 [.ref w, .ref (w + 3), .int S, .int (zgs (I (w + 3)) S i), .int (nI i)] [] zX (zRR w v0 e1 e2) h I (fun v X1 R1 h1 I1 => X1 = zX ∧ v = some (.int (zgs (I (w + 3)) S (jn J))) ∧ R1 = (zRR w v0 e1 e2) ∧ h1 = h ∧ I1 = I) := by
  intro d
  induction d with
  | zero => intro i hd0; exact absurd hd0 (Nat.not_lt_zero _)
  | succ d ih =>
    intro i hd0 hd1
    refine g_il4 r5_factsOf_5 ?_
    refine g_al0 r5_factsOf_7 ?_
    refine g_gfi r5_factsOf_8 (xw hw) rfl ?_
    refine g_eqv (y := nI (jn J)) (hWl.1.1.trans W.n) ?_
    refine g_icgeN r5_factsOf_11 (by omega) (by omega) (fun h11 => ?_) (fun h11 => ?_)
    · refine g_il3 r5_factsOf_43 ?_
      exact g_iret r5_factsOf_44 rfl ⟨rfl, ⟨zrt (by rw [show i = jn J by omega]), rfl, rfl, rfl⟩⟩
    · refine g_il4 r5_factsOf_14 ?_
      refine g_al1 r5_factsOf_16 ?_
      refine g_alen r5_factsOf_17 (xwa_2 hw) ?_
      refine g_icgeN r5_factsOf_18 (by omega) (by omega) (fun hc => absurd hc (by omega)) (fun h18 => ?_)
      refine g_il2 r5_factsOf_21 ?_
      refine g_il4 r5_factsOf_22 ?_
      refine g_eS2 r5_factsOf_24 ok6_contains pl5_factsOf pl6_contains (Nat.le_of_ble_eq_true rfl) (ev6_contains) ?_
      refine g_ifeqB r5_factsOf_27 (fun h27 => ?_) (fun h27 => ?_)
      · refine g_iiN4 r5_factsOf_37 rfl ?_
        refine g_goto r5_factsOf_40 ?_
        have ih2 := ih (i + 1) (by omega) (by omega)
        simp only [zgs] at ih2
        rw [if_neg (mt (zcn (by omega)).mpr h27)] at ih2
        exact ih2
      · refine g_il3 r5_factsOf_30 ?_
        refine g_al1 r5_factsOf_31 ?_
        refine g_il4 r5_factsOf_32 ?_
        refine g_ialdN r5_factsOf_34 (xwa_2 hw) (by omega) (by decide) ?_
        refine g_ior r5_factsOf_35 ?_
        refine g_is3 r5_factsOf_36 rfl ?_
        refine g_iiN4 r5_factsOf_37 rfl ?_
        refine g_goto r5_factsOf_40 ?_
        have ih2 := ih (i + 1) (by omega) (by omega)
        simp only [zgs] at ih2
        rw [if_pos ((zcn (by omega)).mp h27)] at ih2
        exact ih2
theorem ev5_factsOf_3 {w v0 e1 e2 : Nat} {h : Int64} {J I : zMI} (hw : zW w) (W : zWF J) (hWl : zWl w I J) {S : Int32} : zEr m5_factsOf (zRR w v0 e1 e2) h I [.ref w, .ref (w + 3), .int S] (some (.int (zgs (I (w + 3)) S (jn J)))) (zRR w v0 e1 e2) h I := by
  refine zEp_of [.ref w, .ref (w + 3), .int S, .null, .null] pl5_factsOf (by decide +kernel) (fun _ _ => rfl) (fun _ _ => Nat.le_of_ble_eq_true rfl) ?_
  refine g_k r5_factsOf_0 ?_
  refine g_is3 r5_factsOf_1 rfl ?_
  refine g_k r5_factsOf_2 ?_
  refine g_is4 r5_factsOf_3 rfl ?_
  exact lp5_factsOf_3 hw W hWl W.n4 (jn J + 1) 0 (by omega) (by omega)
theorem lp5_factsOf_4 {w v0 e1 e2 : Nat} {h : Int64} {J I : zMI} (hw : zW w) (W : zWF J) (hWl : zWl w I J) {S : Int32} (hn4 : jn J ≤ 4) : ∀ d i, jn J - i < d → i ≤ jn J → zGo m5_factsOf 5 [.ref w, .ref (w + 4), .int S, .int (zgs (I (w + 4)) S i), .int (nI i)] [] zX (zRR w v0 e1 e2) h I (fun v X1 R1 h1 I1 => X1 = zX ∧ v = some (.int (zgs (I (w + 4)) S (jn J))) ∧ R1 = (zRR w v0 e1 e2) ∧ h1 = h ∧ I1 = I) := by
  intro d
  induction d with
  | zero => intro i hd0; exact absurd hd0 (Nat.not_lt_zero _)
  | succ d ih =>
    intro i hd0 hd1
    refine g_il4 r5_factsOf_5 ?_
    refine g_al0 r5_factsOf_7 ?_
    refine g_gfi r5_factsOf_8 (xw hw) rfl ?_
    refine g_eqv (y := nI (jn J)) (hWl.1.1.trans W.n) ?_
    refine g_icgeN r5_factsOf_11 (by omega) (by omega) (fun h11 => ?_) (fun h11 => ?_)
    · refine g_il3 r5_factsOf_43 ?_
      exact g_iret r5_factsOf_44 rfl ⟨rfl, ⟨zrt (by rw [show i = jn J by omega]), rfl, rfl, rfl⟩⟩
    · refine g_il4 r5_factsOf_14 ?_
      refine g_al1 r5_factsOf_16 ?_
      refine g_alen r5_factsOf_17 (xwa_3 hw) ?_
      refine g_icgeN r5_factsOf_18 (by omega) (by omega) (fun hc => absurd hc (by omega)) (fun h18 => ?_)
      refine g_il2 r5_factsOf_21 ?_
      refine g_il4 r5_factsOf_22 ?_
      refine g_eS2 r5_factsOf_24 ok6_contains pl5_factsOf pl6_contains (Nat.le_of_ble_eq_true rfl) (ev6_contains) ?_
      refine g_ifeqB r5_factsOf_27 (fun h27 => ?_) (fun h27 => ?_)
      · refine g_iiN4 r5_factsOf_37 rfl ?_
        refine g_goto r5_factsOf_40 ?_
        have ih2 := ih (i + 1) (by omega) (by omega)
        simp only [zgs] at ih2
        rw [if_neg (mt (zcn (by omega)).mpr h27)] at ih2
        exact ih2
      · refine g_il3 r5_factsOf_30 ?_
        refine g_al1 r5_factsOf_31 ?_
        refine g_il4 r5_factsOf_32 ?_
        refine g_ialdN r5_factsOf_34 (xwa_3 hw) (by omega) (by decide) ?_
        refine g_ior r5_factsOf_35 ?_
        refine g_is3 r5_factsOf_36 rfl ?_
        refine g_iiN4 r5_factsOf_37 rfl ?_
        refine g_goto r5_factsOf_40 ?_
        have ih2 := ih (i + 1) (by omega) (by omega)
        simp only [zgs] at ih2
        rw [if_pos ((zcn (by omega)).mp h27)] at ih2
        exact ih2
theorem ev5_factsOf_4 {w v0 e1 e2 : Nat} {h : Int64} {J I : zMI} (hw : zW w) (W : zWF J) (hWl : zWl w I J) {S : Int32} : zEr m5_factsOf (zRR w v0 e1 e2) h I [.ref w, .ref (w + 4), .int S] (some (.int (zgs (I (w + 4)) S (jn J)))) (zRR w v0 e1 e2) h I := by
  refine zEp_of [.ref w, .ref (w + 4), .int S, .null, .null] pl5_factsOf (by decide +kernel) (fun _ _ => rfl) (fun _ _ => Nat.le_of_ble_eq_true rfl) ?_
  refine g_k r5_factsOf_0 ?_
  refine g_is3 r5_factsOf_1 rfl ?_
  refine g_k r5_factsOf_2 ?_
  refine g_is4 r5_factsOf_3 rfl ?_
  exact lp5_factsOf_4 hw W hWl W.n4 (jn J + 1) 0 (by omega) (by omega)
def zgT (J : zMI) (S : Int32) : Int32 := zgs (fun k => zWt (J 57 k) (J 56 k)) S (jn J)
def zgF (J : zMI) (S : Int32) : Int32 := zgs (fun k => zWf (J 57 k) (J 56 k)) S (jn J)
theorem ev5_goalsToBeTrue {w v0 e1 e2 : Nat} {h : Int64} {J I : zMI} (hw : zW w) (W : zWF J) (hWl : zWl w I J) {S : Int32} : zEr m5_goalsToBeTrue (zRR w v0 e1 e2) h I [.ref w, .int S] (some (.int (zgT J S))) (zRR w v0 e1 e2) h I := by
  refine zEp_of [.ref w, .int S] pl5_goalsToBeTrue (by decide +kernel) (fun _ _ => rfl) (fun _ _ => Nat.le_of_ble_eq_true rfl) ?_
  refine g_al0 r5_goalsToBeTrue_0 ?_
  refine g_al0 r5_goalsToBeTrue_1 ?_
  refine g_gfr r5_goalsToBeTrue_2 (xw hw) rfl (rw_2 hw) ?_
  refine g_il1 r5_goalsToBeTrue_5 ?_
  refine g_eV2 r5_goalsToBeTrue_6 ok5_factsOf pl5_goalsToBeTrue pl5_factsOf (xw hw) (Nat.le_of_ble_eq_true rfl) (ev5_factsOf_3 hw W hWl) ?_
  exact g_iret r5_goalsToBeTrue_9 rfl ⟨rfl, ⟨zrt (zgs_c (fun k hk => (hWl.2.1 k hk).2.2.1)), rfl, rfl, rfl⟩⟩
theorem ev5_goalsToBeFalse {w v0 e1 e2 : Nat} {h : Int64} {J I : zMI} (hw : zW w) (W : zWF J) (hWl : zWl w I J) {S : Int32} : zEr m5_goalsToBeFalse (zRR w v0 e1 e2) h I [.ref w, .int S] (some (.int (zgF J S))) (zRR w v0 e1 e2) h I := by
  refine zEp_of [.ref w, .int S] pl5_goalsToBeFalse (by decide +kernel) (fun _ _ => rfl) (fun _ _ => Nat.le_of_ble_eq_true rfl) ?_
  refine g_al0 r5_goalsToBeFalse_0 ?_
  refine g_al0 r5_goalsToBeFalse_1 ?_
  refine g_gfr r5_goalsToBeFalse_2 (xw hw) rfl (rw_3 hw) ?_
  refine g_il1 r5_goalsToBeFalse_5 ?_
  refine g_eV2 r5_goalsToBeFalse_6 ok5_factsOf pl5_goalsToBeFalse pl5_factsOf (xw hw) (Nat.le_of_ble_eq_true rfl) (ev5_factsOf_4 hw W hWl) ?_
  exact g_iret r5_goalsToBeFalse_9 rfl ⟨rfl, ⟨zrt (zgs_c (fun k hk => (hWl.2.1 k hk).2.2.2)), rfl, rfl, rfl⟩⟩
