theorem zle0 {M : zM} (h : zPl M) : zX.length - z_x0 M ≤ z_mc M ∧ zsl zX - z_s0 M ≤ z_ms M := by
  obtain ⟨⟨h1, h2, h3, h4⟩, -⟩ := h
  rw [h1, h2, h3, h4]; decide +kernel
theorem zalb : ∀ t, t ≤ 30 → ∀ i, i < 32 → zBt ((1 : Int32) <<< (nI t &&& 31) - 1) i = decide (i < t) := by decide +kernel
theorem zal_b {J : zMI} (W : zWF J) {i : Nat} (hi : i < 32) : zBt (zal J) i = decide (i < jt J) := by unfold zal; rw [W.t]; exact zalb _ W.t30 i hi
theorem zcd_all {J : zMI} (W : zWF J) {k : Nat} (hk : k < jt J) : zcd J k (zal J) = 0 ↔ zdu J (nI k) (zal J) = 0 := by
  have t30 := W.t30
  have e : zal J >>> (nI k &&& 31) &&& 1 = 1 := (zBt_1i (by omega)).mpr (by rw [zal_b W (by omega)]; simpa using hk)
  unfold zcd
  by_cases c : zdu J (nI k) (zal J) = 0
  · rw [if_neg (fun q => q.2 c)]; simp [c]
  · rw [if_pos ⟨e, c⟩]; simp [c]
theorem zcd_i {J : zMI} {k : Nat} {S : Int32} : ¬ zcd J k S = 0 ↔ (S >>> (nI k &&& 31) &&& 1 = 1 ∧ ¬ zdu J (nI k) S = 0) := by
  unfold zcd
  by_cases c : S >>> (nI k &&& 31) &&& 1 = 1 ∧ ¬ zdu J (nI k) S = 0
  · rw [if_pos c]; simp [c]
  · rw [if_neg c]; simp only [not_true_eq_false, false_iff]; exact c
theorem lp4_dullSteps {w v0 e1 e2 : Nat} {h : Int64} {J I : zMI} (W : zWF J) (hR : zRs I J) {yes no : Int32} (ht30 : jt J ≤ 30) (hyn : ∀ s, (s &&& yes = yes ∧ s &&& no = 0) ↔ zwi J s (jn J) &&& zwi J (J 54 11) (jn J) = zwi J (J 54 11) (jn J)) : ∀ d i, jt J - i < d → i ≤ jt J → zGo m4_dullSteps 11 [.ref 4, .int yes, .int no, .int (zal J), .int (zdm J i), .int (nI i)] [] zX (zRR w v0 e1 e2) h I (fun v X1 R1 h1 I1 => X1 = zX ∧ v = some (.int (zdm J (jt J))) ∧ R1 = (zRR w v0 e1 e2) ∧ h1 = h ∧ I1 = I) := by
  intro d
  induction d with
  | zero => intro i hd0; exact absurd hd0 (Nat.not_lt_zero _)
  | succ d ih =>
    intro i hd0 hd1
    refine g_il5 r4_dullSteps_11 ?_
    refine g_al0 r4_dullSteps_13 ?_
    refine g_gfi r4_dullSteps_14 xx_4 rfl ?_
    refine g_eqv (y := nI (jt J)) (hR.1.1.trans W.t) ?_
    refine g_icgeN r4_dullSteps_17 (by omega) (by omega) (fun h17 => ?_) (fun h17 => ?_)
    · refine g_il4 r4_dullSteps_41 ?_
      exact g_iret r4_dullSteps_43 rfl ⟨rfl, ⟨zrt (by rw [show i = jt J by omega]), rfl, rfl, rfl⟩⟩
    · refine g_al0 r4_dullSteps_20 ?_
      refine g_il5 r4_dullSteps_21 ?_
      refine g_il3 r4_dullSteps_23 ?_
      refine g_il1 r4_dullSteps_24 ?_
      refine g_il2 r4_dullSteps_25 ?_
      refine g_eV4 r4_dullSteps_26 ok4_isDull pl4_dullSteps pl4_isDull xx_4 (Nat.le_of_ble_eq_true rfl) (ev4_isDull W hR (by omega) hyn) ?_
      refine g_ifeq r4_dullSteps_29 (fun h29 => ?_) (fun h29 => ?_)
      · refine g_iiN5 r4_dullSteps_35 rfl ?_
        refine g_goto r4_dullSteps_38 ?_
        have ih2 := ih (i + 1) (by omega) (by omega)
        simp only [zdm] at ih2
        rw [if_pos ((zcd_all W (by omega)).mp h29), Int32.add_zero] at ih2
        exact ih2
      · refine g_ii4 r4_dullSteps_32 rfl ?_
        refine g_iiN5 r4_dullSteps_35 rfl ?_
        refine g_goto r4_dullSteps_38 ?_
        have ih2 := ih (i + 1) (by omega) (by omega)
        simp only [zdm] at ih2
        rw [if_neg (mt (zcd_all W (by omega)).mpr h29)] at ih2
        exact ih2
theorem ev4_dullSteps {w v0 e1 e2 : Nat} {h : Int64} {J I : zMI} (W : zWF J) (hR : zRs I J) {yes no : Int32} (hyn : ∀ s, (s &&& yes = yes ∧ s &&& no = 0) ↔ zwi J s (jn J) &&& zwi J (J 54 11) (jn J) = zwi J (J 54 11) (jn J)) : zEr m4_dullSteps (zRR w v0 e1 e2) h I [.ref 4, .int yes, .int no] (some (.int (zdm J (jt J)))) (zRR w v0 e1 e2) h I := by
  refine zEp_of [.ref 4, .int yes, .int no, .null, .null, .null] pl4_dullSteps (by decide +kernel) (fun _ _ => rfl) (fun _ _ => Nat.le_of_ble_eq_true rfl) ?_
  refine g_al0 r4_dullSteps_0 ?_
  refine g_eV0 r4_dullSteps_1 ok4_allSteps pl4_dullSteps pl4_allSteps xx_4 (Nat.le_of_ble_eq_true rfl) (ev4_allSteps W hR) ?_
  refine g_is3 r4_dullSteps_4 rfl ?_
  refine g_k r4_dullSteps_5 ?_
  refine g_is4 r4_dullSteps_6 rfl ?_
  refine g_k r4_dullSteps_8 ?_
  refine g_is5 r4_dullSteps_9 rfl ?_
  exact lp4_dullSteps W hR W.t30 hyn (jt J + 1) 0 (by omega) (by omega)
theorem lp4_firstDull {w v0 e1 e2 : Nat} {h : Int64} {J I : zMI} (W : zWF J) (hR : zRs I J) {S yes no : Int32} (ht30 : jt J ≤ 30) (hyn : ∀ s, (s &&& yes = yes ∧ s &&& no = 0) ↔ zwi J s (jn J) &&& zwi J (J 54 11) (jn J) = zwi J (J 54 11) (jn J)) : ∀ d i, jt J - i < d → i ≤ jt J → (∀ b, b < i → ¬ (S >>> (nI b &&& 31) &&& 1 = 1 ∧ ¬ zdu J (nI b) S = 0)) → zGo m4_firstDull 3 [.ref 4, .int S, .int yes, .int no, .int (nI i)] [] zX (zRR w v0 e1 e2) h I (fun v X1 R1 h1 I1 => X1 = zX ∧ v = some (.int (zfd J S)) ∧ R1 = (zRR w v0 e1 e2) ∧ h1 = h ∧ I1 = I) := by
  intro d
  induction d with
  | zero => intro i hd0; exact absurd hd0 (Nat.not_lt_zero _)
  | succ d ih =>
    intro i hd0 hd1 hI
    refine g_il4 r4_firstDull_3 ?_
    refine g_al0 r4_firstDull_5 ?_
    refine g_gfi r4_firstDull_6 xx_4 rfl ?_
    refine g_eqv (y := nI (jt J)) (hR.1.1.trans W.t) ?_
    refine g_icgeN r4_firstDull_9 (by omega) (by omega) (fun h9 => ?_) (fun h9 => ?_)
    · refine g_k r4_firstDull_33 ?_
      exact g_iret r4_firstDull_34 rfl ⟨rfl, ⟨zrt ((zfi_no (p := fun k => S >>> (nI k &&& 31) &&& 1 = 1 ∧ ¬ zdu J (nI k) S = 0) (fun k hk => hI k (by omega))).symm), rfl, rfl, rfl⟩⟩
    · refine g_al0 r4_firstDull_12 ?_
      refine g_il4 r4_firstDull_13 ?_
      refine g_il1 r4_firstDull_15 ?_
      refine g_il2 r4_firstDull_16 ?_
      refine g_il3 r4_firstDull_17 ?_
      refine g_eV4 r4_firstDull_18 ok4_isDull pl4_firstDull pl4_isDull xx_4 (Nat.le_of_ble_eq_true rfl) (ev4_isDull W hR (by omega) hyn) ?_
      refine g_ifeq r4_firstDull_21 (fun h21 => ?_) (fun h21 => ?_)
      · refine g_iiN4 r4_firstDull_27 rfl ?_
        refine g_goto r4_firstDull_30 ?_
        exact ih (i + 1) (by omega) (by omega) (fun b hb => by
          rcases Nat.lt_succ_iff_lt_or_eq.mp hb with q | rfl
          · exact hI b q
          · exact fun q => zcd_i.mpr q h21)
      · refine g_il4 r4_firstDull_24 ?_
        exact g_iret r4_firstDull_26 rfl ⟨rfl, ⟨zrt ((zfi_yes (p := fun k => S >>> (nI k &&& 31) &&& 1 = 1 ∧ ¬ zdu J (nI k) S = 0) (zcd_i.mp h21) hI (by omega) h9).symm), rfl, rfl, rfl⟩⟩
theorem ev4_firstDull {w v0 e1 e2 : Nat} {h : Int64} {J I : zMI} (W : zWF J) (hR : zRs I J) {S yes no : Int32} (hyn : ∀ s, (s &&& yes = yes ∧ s &&& no = 0) ↔ zwi J s (jn J) &&& zwi J (J 54 11) (jn J) = zwi J (J 54 11) (jn J)) : zEr m4_firstDull (zRR w v0 e1 e2) h I [.ref 4, .int S, .int yes, .int no] (some (.int (zfd J S))) (zRR w v0 e1 e2) h I := by
  refine zEp_of [.ref 4, .int S, .int yes, .int no, .null] pl4_firstDull (by decide +kernel) (fun _ _ => rfl) (fun _ _ => Nat.le_of_ble_eq_true rfl) ?_
  refine g_k r4_firstDull_0 ?_
  refine g_is4 r4_firstDull_1 rfl ?_
  exact lp4_firstDull W hR W.t30 hyn (jt J + 1) 0 (by omega) (by omega) (fun b hb => absurd hb (Nat.not_lt_zero b))
theorem lp4_minimalSteps {w v0 e1 e2 : Nat} {h : Int64} {J I : zMI} (W : zWF J) (hR : zRs I J) {yes no : Int32} (hyn : ∀ s, (s &&& yes = yes ∧ s &&& no = 0) ↔ zwi J s (jn J) &&& zwi J (J 54 11) (jn J) = zwi J (J 54 11) (jn J)) : ∀ f, f ≤ 30 → ∀ s (y : Value), zGo m4_minimalSteps 11 [.ref 4, .int yes, .int no, .int s, .int (nI f), y] [] zX (zRR w v0 e1 e2) h I (fun v X1 R1 h1 I1 => X1 = zX ∧ v = some (.int (zcut J f s)) ∧ R1 = (zRR w v0 e1 e2) ∧ h1 = h ∧ I1 = I) := by
  intro f
  induction f with
  | zero =>
    intro hf s y
    refine g_il4 r4_minimalSteps_11 ?_
    refine g_ifleL r4_minimalSteps_13 (fun h13 => ?_) (fun hc => absurd hc (by decide +kernel))
    refine g_il3 r4_minimalSteps_49 ?_
    exact g_iret r4_minimalSteps_50 rfl ⟨rfl, ⟨zrt (rfl), rfl, rfl, rfl⟩⟩
  | succ f ih =>
    intro hf s y
    refine g_il4 r4_minimalSteps_11 ?_
    refine g_ifleL r4_minimalSteps_13 (fun hc => absurd hc (fun q => q (nI_lt (a := 0) (Nat.succ_pos f) (by omega)))) (fun h13 => ?_)
    refine g_al0 r4_minimalSteps_16 ?_
    refine g_il3 r4_minimalSteps_17 ?_
    refine g_il1 r4_minimalSteps_18 ?_
    refine g_il2 r4_minimalSteps_19 ?_
    refine g_eV3 r4_minimalSteps_20 ok4_firstDull pl4_minimalSteps pl4_firstDull xx_4 (Nat.le_of_ble_eq_true rfl) (ev4_firstDull W hR hyn) ?_
    refine g_is5 r4_minimalSteps_23 rfl ?_
    refine g_il5 r4_minimalSteps_25 ?_
    refine g_k r4_minimalSteps_27 ?_
    refine g_icne r4_minimalSteps_28 (fun h28 => ?_) (fun h28 => ?_)
    · refine g_il3 r4_minimalSteps_34 ?_
      refine g_k r4_minimalSteps_35 ?_
      refine g_il5 r4_minimalSteps_36 ?_
      refine g_ishl r4_minimalSteps_38 ?_
      refine g_k r4_minimalSteps_39 ?_
      refine g_ixor r4_minimalSteps_40 ?_
      refine g_iand r4_minimalSteps_41 ?_
      refine g_is3 r4_minimalSteps_42 rfl ?_
      refine g_ii4 r4_minimalSteps_43 rfl ?_
      refine g_goto r4_minimalSteps_46 ?_
      have e : zcut J (f + 1) s = zcut J f (s &&& ((1 <<< (zfd J s &&& 31)) ^^^ (-1))) := by simp only [zcut]; rw [if_neg h28]
      rw [e, pk_m1]
      exact ih (by omega) _ _
    · refine g_goto r4_minimalSteps_31 ?_
      refine g_il3 r4_minimalSteps_49 ?_
      exact g_iret r4_minimalSteps_50 rfl ⟨rfl, ⟨zrt (by simp only [zcut]; rw [if_pos h28]), rfl, rfl, rfl⟩⟩
theorem ev4_minimalSteps {w v0 e1 e2 : Nat} {h : Int64} {J I : zMI} (W : zWF J) (hR : zRs I J) {yes no : Int32} (hyn : ∀ s, (s &&& yes = yes ∧ s &&& no = 0) ↔ zwi J s (jn J) &&& zwi J (J 54 11) (jn J) = zwi J (J 54 11) (jn J)) : zEr m4_minimalSteps (zRR w v0 e1 e2) h I [.ref 4, .int yes, .int no] (some (.int (zcut J (jt J) (zal J)))) (zRR w v0 e1 e2) h I := by
  refine zEp_of [.ref 4, .int yes, .int no, .null, .null, .null] pl4_minimalSteps (by decide +kernel) (fun _ _ => rfl) (fun _ _ => Nat.le_of_ble_eq_true rfl) ?_
  refine g_al0 r4_minimalSteps_0 ?_
  refine g_eV0 r4_minimalSteps_1 ok4_allSteps pl4_minimalSteps pl4_allSteps xx_4 (Nat.le_of_ble_eq_true rfl) (ev4_allSteps W hR) ?_
  refine g_is3 r4_minimalSteps_4 rfl ?_
  refine g_al0 r4_minimalSteps_5 ?_
  refine g_gfi r4_minimalSteps_6 xx_4 rfl ?_
  refine g_eqv (y := nI (jt J)) (hR.1.1.trans W.t) ?_
  refine g_is4 r4_minimalSteps_9 rfl ?_
  exact lp4_minimalSteps W hR hyn (jt J) W.t30 _ _
theorem lp4_threadsBefore {w v0 e1 e2 : Nat} {h : Int64} {J I : zMI} (W : zWF J) (hR : zRs I J) {x : Nat} (hx : x ≤ jt J) (ht30 : jt J ≤ 30) : ∀ d i, x - i < d → i ≤ x → zGo m4_threadsBefore 4 [.ref 4, .int (nI x), .int (zta (fun j => nI (zth J j)) i), .int (nI i)] [] zX (zRR w v0 e1 e2) h I (fun v X1 R1 h1 I1 => X1 = zX ∧ v = some (.int (zTa J x)) ∧ R1 = (zRR w v0 e1 e2) ∧ h1 = h ∧ I1 = I) := by
  intro d
  induction d with
  | zero => intro i hd0; exact absurd hd0 (Nat.not_lt_zero _)
  | succ d ih =>
    intro i hd0 hd1
    refine g_il3 r4_threadsBefore_4 ?_
    refine g_il1 r4_threadsBefore_5 ?_
    refine g_icgeN r4_threadsBefore_6 (by omega) (by omega) (fun h6 => ?_) (fun h6 => ?_)
    · refine g_il2 r4_threadsBefore_36 ?_
      exact g_iret r4_threadsBefore_37 rfl ⟨rfl, ⟨zrt (by rw [show i = x by omega]; rfl), rfl, rfl, rfl⟩⟩
    · refine g_il3 r4_threadsBefore_9 ?_
      refine g_al0 r4_threadsBefore_10 ?_
      refine g_gfi r4_threadsBefore_11 xx_4 rfl ?_
      refine g_eqv (y := nI (jt J)) (hR.1.1.trans W.t) ?_
      refine g_icgeN r4_threadsBefore_14 (by omega) (by omega) (fun hc => absurd hc (by omega)) (fun h14 => ?_)
      refine g_al0 r4_threadsBefore_17 ?_
      refine g_gfr r4_threadsBefore_18 xx_4 rfl rr_4_11 ?_
      refine g_il3 r4_threadsBefore_21 ?_
      refine g_ialdN r4_threadsBefore_22 xx_16 (by omega) (by decide) ?_
      refine g_eqv (y := nI (zth J i)) (hR.2.1 i (by omega)).2.1.2.2 ?_
      refine g_il3 r4_threadsBefore_23 ?_
      refine g_icne r4_threadsBefore_24 (fun h24 => ?_) (fun h24 => ?_)
      · refine g_iiN3 r4_threadsBefore_30 rfl ?_
        refine g_goto r4_threadsBefore_33 ?_
        have ih2 := ih (i + 1) (by omega) (by omega)
        simp only [zta] at ih2
        rw [if_neg h24, Int32.add_zero] at ih2
        exact ih2
      · refine g_ii2 r4_threadsBefore_27 rfl ?_
        refine g_iiN3 r4_threadsBefore_30 rfl ?_
        refine g_goto r4_threadsBefore_33 ?_
        have ih2 := ih (i + 1) (by omega) (by omega)
        simp only [zta] at ih2
        rw [if_pos h24] at ih2
        exact ih2
theorem ev4_threadsBefore {w v0 e1 e2 : Nat} {h : Int64} {J I : zMI} (W : zWF J) (hR : zRs I J) {x : Nat} (hx : x ≤ jt J) : zEr m4_threadsBefore (zRR w v0 e1 e2) h I [.ref 4, .int (nI x)] (some (.int (zTa J x))) (zRR w v0 e1 e2) h I := by
  refine zEp_of [.ref 4, .int (nI x), .null, .null] pl4_threadsBefore (by decide +kernel) (fun _ _ => rfl) (fun _ _ => Nat.le_of_ble_eq_true rfl) ?_
  refine g_k r4_threadsBefore_0 ?_
  refine g_is2 r4_threadsBefore_1 rfl ?_
  refine g_k r4_threadsBefore_2 ?_
  refine g_is3 r4_threadsBefore_3 rfl ?_
  exact lp4_threadsBefore W hR hx W.t30 (x + 1) 0 (by omega) (by omega)
theorem ev4_threadOf {w v0 e1 e2 : Nat} {h : Int64} {J I : zMI} (W : zWF J) (hR : zRs I J) {k : Nat} (hk : k < jt J) : zEr m4_threadOf (zRR w v0 e1 e2) h I [.ref 4, .int (nI k)] (some (.int (zTa J (zth J k)))) (zRR w v0 e1 e2) h I := by
  have ht30 := W.t30
  refine zEp_of [.ref 4, .int (nI k)] pl4_threadOf (by decide +kernel) (fun _ _ => rfl) (fun _ _ => Nat.le_of_ble_eq_true rfl) ?_
  refine g_il1 r4_threadOf_0 ?_
  refine g_iflt r4_threadOf_1 (fun hc => absurd hc (nI_pos (by omega))) (fun _ => ?_)
  refine g_il1 r4_threadOf_4 ?_
  refine g_al0 r4_threadOf_5 ?_
  refine g_gfi r4_threadOf_6 xx_4 rfl ?_
  refine g_eqv (y := nI (jt J)) (hR.1.1.trans W.t) ?_
  refine g_icgeN r4_threadOf_9 (by omega) (by omega) (fun hc => absurd hc (by omega)) (fun h9 => ?_)
  refine g_al0 r4_threadOf_12 ?_
  refine g_al0 r4_threadOf_13 ?_
  refine g_gfr r4_threadOf_14 xx_4 rfl rr_4_11 ?_
  refine g_il1 r4_threadOf_17 ?_
  refine g_ialdN r4_threadOf_18 xx_16 (by omega) (by decide) ?_
  refine g_eqv (y := nI (zth J k)) (hR.2.1 k hk).2.1.2.2 ?_
  refine g_eV1 r4_threadOf_19 ok4_threadsBefore pl4_threadOf pl4_threadsBefore xx_4 (Nat.le_of_ble_eq_true rfl) (ev4_threadsBefore W hR (Nat.le_trans (hR.2.2.2.1 k hk).1 (by omega))) ?_
  refine g_goto r4_threadOf_22 ?_
  exact g_iret r4_threadOf_26 rfl ⟨rfl, ⟨zrt (rfl), rfl, rfl, rfl⟩⟩
theorem lp4_widestLink_e {w v0 e1 e2 : Nat} {h : Int64} {J I : zMI} (W : zWF J) (hR : zRs I J) {P : zPost} (ht30 : jt J ≤ 30) {i : Nat} (hi : i < jt J) (hend : ∀ y : Value, zGo m4_widestLink 46 [.ref 4, .int (zfrE (zlk J i) i (zfr J i) i), .int (nI i), y] [] zX (zRR w v0 e1 e2) h I P) : ∀ d e, i - e < d → e ≤ i → zGo m4_widestLink 14 [.ref 4, .int (zfrE (zlk J i) i (zfr J i) e), .int (nI i), .int (nI e)] [] zX (zRR w v0 e1 e2) h I P := by
  intro d
  induction d with
  | zero => intro e hd0; exact absurd hd0 (Nat.not_lt_zero _)
  | succ d ih =>
    intro e hd0 hd1
    refine g_il3 r4_widestLink_14 ?_
    refine g_il2 r4_widestLink_15 ?_
    refine g_icgeN r4_widestLink_16 (by omega) (by omega) (fun h16 => ?_) (fun h16 => ?_)
    · rw [show e = i by omega]
      exact hend _
    · refine g_al0 r4_widestLink_19 ?_
      refine g_gfr r4_widestLink_20 xx_4 rfl rr_4_4 ?_
      refine g_il2 r4_widestLink_23 ?_
      refine g_ialdN r4_widestLink_24 xx_9 (by omega) (by decide) ?_
      refine g_eqv (y := zlk J i) (hR.2.1 i (by omega)).2.1.1 ?_
      refine g_il3 r4_widestLink_25 ?_
      refine g_eS2 r4_widestLink_26 ok6_contains pl4_widestLink pl6_contains (Nat.le_of_ble_eq_true rfl) (ev6_contains) ?_
      refine g_ifeqB r4_widestLink_29 (fun h29 => ?_) (fun h29 => ?_)
      · refine g_iiN3 r4_widestLink_40 rfl ?_
        refine g_goto r4_widestLink_43 ?_
        have ih2 := ih (e + 1) (by omega) (by omega)
        simp only [zfrE] at ih2
        rw [if_neg (show ¬ (zlk J i >>> (nI e &&& 31) &&& 1 = 1 ∧ zfrE (zlk J i) i (zfr J i) e < nI i - nI e) from fun q => h29 ((zcn (by omega)).mpr q.1))] at ih2
        exact ih2
      · refine g_il1 r4_widestLink_32 ?_
        refine g_il2 r4_widestLink_33 ?_
        refine g_il3 r4_widestLink_34 ?_
        refine g_isub r4_widestLink_35 ?_
        refine g_mmax r4_widestLink_36 (Nat.le_of_ble_eq_true rfl) (zle0 pl4_widestLink) ?_
        refine g_is1 r4_widestLink_39 rfl ?_
        refine g_iiN3 r4_widestLink_40 rfl ?_
        refine g_goto r4_widestLink_43 ?_
        have ih2 := ih (e + 1) (by omega) (by omega)
        simp only [zfrE] at ih2
        rw [show (if zlk J i >>> (nI e &&& 31) &&& 1 = 1 ∧ zfrE (zlk J i) i (zfr J i) e < nI i - nI e then nI i - nI e else zfrE (zlk J i) i (zfr J i) e) = (if zfrE (zlk J i) i (zfr J i) e < nI i - nI e then nI i - nI e else zfrE (zlk J i) i (zfr J i) e) from by simp only [(zcn (show e < 32 by omega)).mp h29, true_and]] at ih2
        exact ih2
theorem lp4_widestLink {w v0 e1 e2 : Nat} {h : Int64} {J I : zMI} (W : zWF J) (hR : zRs I J) (ht30 : jt J ≤ 30) : ∀ d i (y : Value), jt J - i < d → i ≤ jt J → zGo m4_widestLink 4 [.ref 4, .int (zfr J i), .int (nI i), y] [] zX (zRR w v0 e1 e2) h I (fun v X1 R1 h1 I1 => X1 = zX ∧ v = some (.int (zfr J (jt J))) ∧ R1 = (zRR w v0 e1 e2) ∧ h1 = h ∧ I1 = I) := by
  intro d
  induction d with
  | zero => intro i y hd0; exact absurd hd0 (Nat.not_lt_zero _)
  | succ d ih =>
    intro i y hd0 hd1
    refine g_il2 r4_widestLink_4 ?_
    refine g_al0 r4_widestLink_5 ?_
    refine g_gfi r4_widestLink_6 xx_4 rfl ?_
    refine g_eqv (y := nI (jt J)) (hR.1.1.trans W.t) ?_
    refine g_icgeN r4_widestLink_9 (by omega) (by omega) (fun h9 => ?_) (fun h9 => ?_)
    · refine g_il1 r4_widestLink_52 ?_
      exact g_iret r4_widestLink_53 rfl ⟨rfl, ⟨zrt (by rw [show i = jt J by omega]), rfl, rfl, rfl⟩⟩
    · refine g_k r4_widestLink_12 ?_
      refine g_is3 r4_widestLink_13 rfl ?_
      refine lp4_widestLink_e W hR ht30 h9 (fun y1 => ?_) (i + 1) 0 (by omega) (by omega)
      refine g_iiN2 r4_widestLink_46 rfl ?_
      refine g_goto r4_widestLink_49 ?_
      exact ih (i + 1) _ (by omega) (by omega)
theorem ev4_widestLink {w v0 e1 e2 : Nat} {h : Int64} {J I : zMI} (W : zWF J) (hR : zRs I J)  : zEr m4_widestLink (zRR w v0 e1 e2) h I [.ref 4] (some (.int (zfr J (jt J)))) (zRR w v0 e1 e2) h I := by
  refine zEp_of [.ref 4, .null, .null, .null] pl4_widestLink (by decide +kernel) (fun _ _ => rfl) (fun _ _ => Nat.le_of_ble_eq_true rfl) ?_
  refine g_k r4_widestLink_0 ?_
  refine g_is1 r4_widestLink_1 rfl ?_
  refine g_k r4_widestLink_2 ?_
  refine g_is2 r4_widestLink_3 rfl ?_
  exact lp4_widestLink W hR W.t30 (jt J + 1) 0 _ (by omega) (by omega)
