theorem zab_R {J : zMI} (hw : 0 < J 54 5) {x : Nat} (hx : x ≤ 6) : zabR J (jn J) (nI x) = zabN J (jn J) (nI x) := by
  unfold zabR
  rw [if_pos ⟨nI_pos (by omega), nI_nlt (b := x) (a := 6) (by omega) (by omega)⟩, if_pos hw]
theorem zde_R {J : zMI} (W : zWF J) {a x : Nat} (ha : a < jm J) (hx : x ≤ 6) : zdeR J (jt J) (jm J) (nI a) (nI x) = zdeN J (jt J) a (nI x) := by
  have := W.m10
  unfold zdeR
  rw [if_pos (by rw [W.m]; exact zidx' (by omega) ha), if_pos ⟨nI_pos (by omega), nI_nlt (b := x) (a := 6) (by omega) (by omega)⟩, nI_clamp (by omega)]
theorem zon_R {J : zMI} (W : zWF J) {q x : Nat} (hq : q < jn J) (hx : x ≤ 7) : zonR J (nI q) (nI x) = zoN J q (nI x) := by
  have := W.n4
  unfold zonR
  rw [if_pos ((zOne W).mpr ⟨q, hq, rfl⟩), if_pos ⟨nI_pos (by omega), nI_nlt (b := x) (a := 7) (by omega) (by omega)⟩, nI_clamp (by omega)]
theorem zst_R {J : zMI} (W : zWF J) {k x : Nat} (hk : k < jt J) (hx : x ≤ 8) : zstR J (nI k) (nI x) = zsN J k (nI x) := by
  have := W.t30
  unfold zstR
  rw [if_pos (by rw [W.t]; exact zidx' (by omega) hk), if_pos ⟨nI_pos (by omega), nI_nlt (b := x) (a := 8) (by omega) (by omega)⟩, nI_clamp (by omega)]
theorem zsy_R {J : zMI} (hw : 0 < J 54 5) {x : Nat} (hx : x ≤ 6) : zsyR J (nI x) = zsyN J (nI x) := by
  unfold zsyR
  rw [if_pos ⟨nI_pos (by omega), nI_nlt (b := x) (a := 6) (by omega) (by omega)⟩, if_pos hw]
theorem zwy_R {J : zMI} (hw : 0 < J 54 5) {x : Nat} (hx : x ≤ 4) : zwyR J (nI x) = nI (zwF J x (js J)) := by
  unfold zwyR
  rw [if_pos hw, if_pos ⟨nI_pos (by omega), nI_nlt (b := x) (a := 12) (by omega) (by omega)⟩, nI_clamp (by omega)]
theorem lp6_withPath {w v0 e1 e2 : Nat} {h : Int64} {I : zMI} {E : Nat → Nat → Prop} {nx : Nat → Nat → Nat} {G : Nat → Prop} {m s : Nat} (hf : zFnd 17 I E nx G m s) (hm : m ≤ 10) {c : Nat} (hr : I 17 2 = nI c) (hc : c ≤ 255) {h0 x0 : Int64} : ∀ d i, c - i < d → i ≤ c → zGo m6_withPath 5 [.ref 0, .long x0, .null, .long (zfo2 (fun p => zld E nx G m s (nI p)) i h0), .null, .int (nI i)] [] zX (zRR w v0 e1 e2) h I (fun v X1 R1 h1 I1 => X1 = zX ∧ v = some (.long (zfo2 (fun p => zld E nx G m s (nI p)) c h0)) ∧ R1 = (zRR w v0 e1 e2) ∧ h1 = h ∧ I1 = I) := by
  intro d
  induction d with
  | zero => intro i hd0; exact absurd hd0 (Nat.not_lt_zero _)
  | succ d ih =>
    intro i hd0 hd1
    refine g_il5 r6_withPath_5 ?_
    refine g_al0 r6_withPath_7 ?_
    refine g_gfr r6_withPath_8 xx_0 rfl rr_0_3 ?_
    refine g_gfi r6_withPath_11 xx_17 rfl ?_
    refine g_eqv (y := nI c) hr ?_
    refine g_icgeN r6_withPath_14 (by omega) (by omega) (fun h14 => ?_) (fun h14 => ?_)
    · refine g_ll3 r6_withPath_40 ?_
      exact g_lret r6_withPath_41 rfl ⟨rfl, ⟨by rw [show i = c by omega], rfl, rfl, rfl⟩⟩
    · refine g_kl r6_withPath_17 ?_
      refine g_ll3 r6_withPath_20 ?_
      refine g_lmul r6_withPath_21 ?_
      refine g_al0 r6_withPath_22 ?_
      refine g_gfr r6_withPath_23 xx_0 rfl rr_0_3 ?_
      refine g_il5 r6_withPath_26 ?_
      refine g_eV1 r6_withPath_28 ok3_actAt pl6_withPath pl3_actAt xx_17 (Nat.le_of_ble_eq_true rfl) (ev3_actAt (q := 17) (Or.inl rfl) hf hm) ?_
      refine g_eqv (y := zld E nx G m s (nI i)) (by unfold zAt; rw [if_neg (zFnd_y hf hr hc h14 hm)]) ?_
      refine g_i2l r6_withPath_31 ?_
      refine g_ladd r6_withPath_32 ?_
      refine g_ls3 r6_withPath_33 rfl ?_
      refine g_iiN5 r6_withPath_34 rfl ?_
      refine g_goto r6_withPath_37 ?_
      exact ih (i + 1) (by omega) (by omega)
theorem ev6_withPath {w v0 e1 e2 : Nat} {h : Int64} {I : zMI} {E : Nat → Nat → Prop} {nx : Nat → Nat → Nat} {G : Nat → Prop} {m s : Nat} (hf : zFnd 17 I E nx G m s) (hm : m ≤ 10) {h0 : Int64} : zEr m6_withPath (zRR w v0 e1 e2) h I [.ref 0, .long h0] (some (.long (zfo2 (fun p => zld E nx G m s (nI p)) (zln (zlm E nx G m s)) h0))) (zRR w v0 e1 e2) h I := by
  refine zEp_of [.ref 0, .long h0, .null, .null, .null, .null] pl6_withPath (by decide +kernel) (fun _ _ => rfl) (fun _ _ => Nat.le_of_ble_eq_true rfl) ?_
  refine g_ll1 r6_withPath_0 ?_
  refine g_ls3 r6_withPath_1 rfl ?_
  refine g_k r6_withPath_2 ?_
  refine g_is5 r6_withPath_3 rfl ?_
  rcases zFnd_c hf with hr | ⟨c, hc, hr⟩
  · rw [← zFnd_m hf, hr, zln_m1]
    refine g_il5 r6_withPath_5 ?_
    refine g_al0 r6_withPath_7 ?_
    refine g_gfr r6_withPath_8 xx_0 rfl rr_0_3 ?_
    refine g_gfi r6_withPath_11 xx_17 rfl ?_
    rw [hr]
    refine g_icgeL r6_withPath_14 (fun h14 => ?_) (fun hc => absurd hc (by decide))
    refine g_ll3 r6_withPath_40 ?_
    exact g_lret r6_withPath_41 rfl ⟨rfl, rfl, rfl, rfl, rfl⟩
  · rw [← zFnd_m hf, hr, zln_nI hc]
    exact lp6_withPath hf hm hr hc (h0 := h0) (c + 1) 0 (by omega) (by omega)
theorem lp6_withActs_x {w v0 e1 e2 : Nat} {h : Int64} {J I : zMI} (hw : zW w) (W : zWF J) {N : Nat} (hP : zRep w I J N) {P : zPost} {h0 x0 : Int64} {a : Nat} (ha : a < jm J) (ha30 : a < 30) (hend : ∀ y : Value, zGo m6_withActs 49 [.ref 0, .long x0, .null, .long (zfo2 (fun x => zdeN J (jt J) a (nI x)) 7 h0), .null, .int (nI a), y] [] zX (zRR w v0 e1 e2) h I P) : ∀ d x, 7 - x < d → x ≤ 7 → zGo m6_withActs 20 [.ref 0, .long x0, .null, .long (zfo2 (fun x => zdeN J (jt J) a (nI x)) x h0), .null, .int (nI a), .int (nI x)] [] zX (zRR w v0 e1 e2) h I P := by
  intro d
  induction d with
  | zero => intro x hd0; exact absurd hd0 (Nat.not_lt_zero _)
  | succ d ih =>
    intro x hd0 hd1
    refine g_il6 r6_withActs_20 ?_
    refine g_k r6_withActs_22 ?_
    refine g_eqv (y := nI 6) rfl ?_
    refine g_icgtN r6_withActs_24 (by omega) (by omega) (fun h24 => ?_) (fun h24 => ?_)
    · rw [show x = 7 by omega]
      exact hend _
    · refine g_kl r6_withActs_27 ?_
      refine g_ll3 r6_withActs_30 ?_
      refine g_lmul r6_withActs_31 ?_
      refine g_al0 r6_withActs_32 ?_
      refine g_il5 r6_withActs_33 ?_
      refine g_il6 r6_withActs_35 ?_
      refine g_eV2 r6_withActs_37 ok6_deed pl6_withActs pl6_deed xx_0 (Nat.le_of_ble_eq_true rfl) (ev6_deed hw W hP) ?_
      refine g_eqv (y := zdeN J (jt J) a (nI x)) (zde_R W ha (by omega)) ?_
      refine g_i2l r6_withActs_40 ?_
      refine g_ladd r6_withActs_41 ?_
      refine g_ls3 r6_withActs_42 rfl ?_
      refine g_iiN6 r6_withActs_43 rfl ?_
      refine g_goto r6_withActs_46 ?_
      exact ih (x + 1) (by omega) (by omega)
theorem lp6_withActs {w v0 e1 e2 : Nat} {h : Int64} {J I : zMI} (hw : zW w) (W : zWF J) {N : Nat} (hP : zRep w I J N) {P : zPost} {h0 x0 : Int64} (hc30 : jm J ≤ 30) (hend : ∀ y z : Value, zGo m6_withActs 55 [.ref 0, .long x0, .null, .long (zdA J (jm J) h0), .null, y, z] [] zX (zRR w v0 e1 e2) h I P) : ∀ d a (z : Value), jm J - a < d → a ≤ jm J → zGo m6_withActs 5 [.ref 0, .long x0, .null, .long (zdA J a h0), .null, .int (nI a), z] [] zX (zRR w v0 e1 e2) h I P := by
  intro d
  induction d with
  | zero => intro a z hd0; exact absurd hd0 (Nat.not_lt_zero _)
  | succ d ih =>
    intro a z hd0 hd1
    refine g_il5 r6_withActs_5 ?_
    refine g_al0 r6_withActs_7 ?_
    refine g_gfr r6_withActs_8 xx_0 rfl rr_0_6 ?_
    refine g_gfi r6_withActs_11 (xw hw) rfl ?_
    refine g_eqv (y := nI (jm J)) (hP.1.1.1.2.trans W.m) ?_
    refine g_icgeN r6_withActs_14 (by omega) (by omega) (fun h14 => ?_) (fun h14 => ?_)
    · rw [show a = jm J by omega]
      exact hend _ _
    · refine g_k r6_withActs_17 ?_
      refine g_is6 r6_withActs_18 rfl ?_
      refine lp6_withActs_x hw W hP (by omega) (by omega) (fun y => ?_) 8 0 (by omega) (by omega)
      refine g_iiN5 r6_withActs_49 rfl ?_
      refine g_goto r6_withActs_52 ?_
      exact ih (a + 1) _ (by omega) (by omega)
theorem ev6_withActs {w v0 e1 e2 : Nat} {h : Int64} {J I : zMI} (hw : zW w) (W : zWF J) {N : Nat} (hP : zRep w I J N) {h0 : Int64} : zEr m6_withActs (zRR w v0 e1 e2) h I [.ref 0, .long h0] (some (.long (zdA J (jm J) h0))) (zRR w v0 e1 e2) h I := by
  have m10 := W.m10
  refine zEp_of [.ref 0, .long h0, .null, .null, .null, .null, .null] pl6_withActs (by decide +kernel) (fun _ _ => rfl) (fun _ _ => Nat.le_of_ble_eq_true rfl) ?_
  refine g_ll1 r6_withActs_0 ?_
  refine g_ls3 r6_withActs_1 rfl ?_
  refine g_k r6_withActs_2 ?_
  refine g_is5 r6_withActs_3 rfl ?_
  refine lp6_withActs hw W hP (by omega) (fun y z => ?_) (jm J + 1) 0 _ (by omega) (by omega)
  refine g_ll3 r6_withActs_55 ?_
  exact g_lret r6_withActs_56 rfl ⟨rfl, rfl, rfl, rfl, rfl⟩
theorem lp6_withSteps_x {w v0 e1 e2 : Nat} {h : Int64} {J I : zMI} (hw : zW w) (W : zWF J) {N : Nat} (hP : zRep w I J N) {P : zPost} {h0 x0 : Int64} {a : Nat} (ha : a < jt J) (ha30 : a < 30) (hend : ∀ y : Value, zGo m6_withSteps 49 [.ref 0, .long x0, .null, .long (zfo2 (fun x => zsN J a (nI x)) 9 h0), .null, .int (nI a), y] [] zX (zRR w v0 e1 e2) h I P) : ∀ d x, 9 - x < d → x ≤ 9 → zGo m6_withSteps 20 [.ref 0, .long x0, .null, .long (zfo2 (fun x => zsN J a (nI x)) x h0), .null, .int (nI a), .int (nI x)] [] zX (zRR w v0 e1 e2) h I P := by
  intro d
  induction d with
  | zero => intro x hd0; exact absurd hd0 (Nat.not_lt_zero _)
  | succ d ih =>
    intro x hd0 hd1
    refine g_il6 r6_withSteps_20 ?_
    refine g_k r6_withSteps_22 ?_
    refine g_eqv (y := nI 8) rfl ?_
    refine g_icgtN r6_withSteps_24 (by omega) (by omega) (fun h24 => ?_) (fun h24 => ?_)
    · rw [show x = 9 by omega]
      exact hend _
    · refine g_kl r6_withSteps_27 ?_
      refine g_ll3 r6_withSteps_30 ?_
      refine g_lmul r6_withSteps_31 ?_
      refine g_al0 r6_withSteps_32 ?_
      refine g_il5 r6_withSteps_33 ?_
      refine g_il6 r6_withSteps_35 ?_
      refine g_eV2 r6_withSteps_37 ok6_step pl6_withSteps pl6_step xx_0 (Nat.le_of_ble_eq_true rfl) (ev6_step hw W hP) ?_
      refine g_eqv (y := zsN J a (nI x)) (zst_R W ha (by omega)) ?_
      refine g_i2l r6_withSteps_40 ?_
      refine g_ladd r6_withSteps_41 ?_
      refine g_ls3 r6_withSteps_42 rfl ?_
      refine g_iiN6 r6_withSteps_43 rfl ?_
      refine g_goto r6_withSteps_46 ?_
      exact ih (x + 1) (by omega) (by omega)
theorem lp6_withSteps {w v0 e1 e2 : Nat} {h : Int64} {J I : zMI} (hw : zW w) (W : zWF J) {N : Nat} (hP : zRep w I J N) {P : zPost} {h0 x0 : Int64} (hc30 : jt J ≤ 30) (hend : ∀ y z : Value, zGo m6_withSteps 55 [.ref 0, .long x0, .null, .long (zdS2 J (jt J) h0), .null, y, z] [] zX (zRR w v0 e1 e2) h I P) : ∀ d a (z : Value), jt J - a < d → a ≤ jt J → zGo m6_withSteps 5 [.ref 0, .long x0, .null, .long (zdS2 J a h0), .null, .int (nI a), z] [] zX (zRR w v0 e1 e2) h I P := by
  intro d
  induction d with
  | zero => intro a z hd0; exact absurd hd0 (Nat.not_lt_zero _)
  | succ d ih =>
    intro a z hd0 hd1
    refine g_il5 r6_withSteps_5 ?_
    refine g_al0 r6_withSteps_7 ?_
    refine g_gfr r6_withSteps_8 xx_0 rfl rr_0_2 ?_
    refine g_gfi r6_withSteps_11 xx_4 rfl ?_
    refine g_eqv (y := nI (jt J)) (hP.1.2.1.1.1.trans W.t) ?_
    refine g_icgeN r6_withSteps_14 (by omega) (by omega) (fun h14 => ?_) (fun h14 => ?_)
    · rw [show a = jt J by omega]
      exact hend _ _
    · refine g_k r6_withSteps_17 ?_
      refine g_is6 r6_withSteps_18 rfl ?_
      refine lp6_withSteps_x hw W hP (by omega) (by omega) (fun y => ?_) 10 0 (by omega) (by omega)
      refine g_iiN5 r6_withSteps_49 rfl ?_
      refine g_goto r6_withSteps_52 ?_
      exact ih (a + 1) _ (by omega) (by omega)
theorem lp6_withSteps_y {w v0 e1 e2 : Nat} {h : Int64} {J I : zMI} (hw : zW w) (W : zWF J) {N : Nat} (hP : zRep w I J N) (hJ : 0 < J 54 5) {h0 x0 : Int64} {z : Value} : ∀ d x, 7 - x < d → x ≤ 7 → zGo m6_withSteps 58 [.ref 0, .long x0, .null, .long (zfo2 (fun x => zsyN J (nI x)) x h0), .null, .int (nI x), z] [] zX (zRR w v0 e1 e2) h I (fun v X1 R1 h1 I1 => X1 = zX ∧ v = some (.long (zfo2 (fun x => zsyN J (nI x)) 7 h0)) ∧ R1 = (zRR w v0 e1 e2) ∧ h1 = h ∧ I1 = I) := by
  intro d
  induction d with
  | zero => intro x hd0; exact absurd hd0 (Nat.not_lt_zero _)
  | succ d ih =>
    intro x hd0 hd1
    refine g_il5 r6_withSteps_58 ?_
    refine g_k r6_withSteps_60 ?_
    refine g_eqv (y := nI 6) rfl ?_
    refine g_icgtN r6_withSteps_62 (by omega) (by omega) (fun h62 => ?_) (fun h62 => ?_)
    · refine g_ll3 r6_withSteps_85 ?_
      exact g_lret r6_withSteps_86 rfl ⟨rfl, ⟨by rw [show x = 7 by omega], rfl, rfl, rfl⟩⟩
    · refine g_kl r6_withSteps_65 ?_
      refine g_ll3 r6_withSteps_68 ?_
      refine g_lmul r6_withSteps_69 ?_
      refine g_al0 r6_withSteps_70 ?_
      refine g_il5 r6_withSteps_71 ?_
      refine g_eV1 r6_withSteps_73 ok6_story pl6_withSteps pl6_story xx_0 (Nat.le_of_ble_eq_true rfl) (ev6_story hw W hP) ?_
      refine g_eqv (y := zsyN J (nI x)) (zsy_R hJ (by omega)) ?_
      refine g_i2l r6_withSteps_76 ?_
      refine g_ladd r6_withSteps_77 ?_
      refine g_ls3 r6_withSteps_78 rfl ?_
      refine g_iiN5 r6_withSteps_79 rfl ?_
      refine g_goto r6_withSteps_82 ?_
      exact ih (x + 1) (by omega) (by omega)
theorem ev6_withSteps {w v0 e1 e2 : Nat} {h : Int64} {J I : zMI} (hw : zW w) (W : zWF J) {N : Nat} (hP : zRep w I J N) (hJ : 0 < J 54 5) {h0 : Int64} : zEr m6_withSteps (zRR w v0 e1 e2) h I [.ref 0, .long h0] (some (.long (zfo2 (fun x => zsyN J (nI x)) 7 (zdS2 J (jt J) h0)))) (zRR w v0 e1 e2) h I := by
  refine zEp_of [.ref 0, .long h0, .null, .null, .null, .null, .null] pl6_withSteps (by decide +kernel) (fun _ _ => rfl) (fun _ _ => Nat.le_of_ble_eq_true rfl) ?_
  refine g_ll1 r6_withSteps_0 ?_
  refine g_ls3 r6_withSteps_1 rfl ?_
  refine g_k r6_withSteps_2 ?_
  refine g_is5 r6_withSteps_3 rfl ?_
  refine lp6_withSteps hw W hP W.t30 (fun y z => ?_) (jt J + 1) 0 _ (by omega) (by omega)
  refine g_k r6_withSteps_55 ?_
  refine g_is5 r6_withSteps_56 rfl ?_
  exact lp6_withSteps_y hw W hP hJ 8 0 (by omega) (by omega)
theorem zRep_wy {w : Nat} (hw : zW w) {I I1 J : zMI} {N : Nat} (h : zRep w I J N) (hc : ∀ c, ¬ c = 32 → ¬ c = 33 → I1 c = I c) : zRep w I1 J N := by
  refine ⟨⟨zWl_c hw (fun c c1 c2 => hc c (by omega) (by omega)) h.1.1, zRs_fs (fun k k1 k2 => hc k (by omega) (by omega)) h.1.2.1, zNm_c (fun c c1 c2 => hc c (by omega) (by omega)) h.1.2.2⟩, ?_, ?_⟩
  · rw [hc 0 (by decide) (by decide)]; exact h.2.1
  · rw [hc 1 (by decide) (by decide), hc 2 (by decide) (by decide)]; exact h.2.2
theorem lp6_withWays {w v0 : Nat} {h : Int64} {J I0 : zMI} (hw : zW w) (W : zWF J) {N : Nat} (hJ : 0 < J 54 5) {h0 x0 : Int64} : ∀ d x e1 e2 I, 5 - x < d → x ≤ 5 → zE e1 → zE e2 → ¬ e1 = e2 → zRep w I J N → zFc I0 I → zGo m6_withWays 26 [.ref 0, .long x0, .null, .long (zfo2 (fun x => nI (zwF J x (js J))) x h0), .null, .int (nI x)] [] zX (zRR w v0 e1 e2) h I (fun v X1 R1 h1 I1 => X1 = zX ∧ (fun v R1 h1 I1 => v = some (.long (zfo2 (fun x => nI (zwF J x (js J))) 5 h0)) ∧ (∃ a b, zE a ∧ zE b ∧ ¬ a = b ∧ R1 = zRR w v0 a b) ∧ h1 = h ∧ zRep w I1 J (N) ∧ zFc I0 I1) v R1 h1 I1) := by
  intro d
  induction d with
  | zero => intro x e1 e2 I hd0; exact absurd hd0 (Nat.not_lt_zero _)
  | succ d ih =>
    intro x e1 e2 I hd0 hd1 he1 he2 hne hP hF
    refine g_il5 r6_withWays_26 ?_
    refine g_k r6_withWays_28 ?_
    refine g_eqv (y := nI 4) rfl ?_
    refine g_icgtN r6_withWays_29 (by omega) (by omega) (fun h29 => ?_) (fun h29 => ?_)
    · refine g_ll3 r6_withWays_52 ?_
      exact g_lret r6_withWays_53 rfl ⟨rfl, ⟨by rw [show x = 5 by omega], ⟨e1, e2, he1, he2, hne, rfl⟩, rfl, hP, hF⟩⟩
    · refine g_kl r6_withWays_32 ?_
      refine g_ll3 r6_withWays_35 ?_
      refine g_lmul r6_withWays_36 ?_
      refine g_al0 r6_withWays_37 ?_
      refine g_il5 r6_withWays_38 ?_
      refine g_cV1 r6_withWays_40 ok6_ways pl6_withWays pl6_ways xx_0 (Nat.le_of_ble_eq_true rfl) (ev6_ways hw W hP he1 he2 hne) (fun v' R' h' I1 ⟨q1, ⟨f1, f2, hf1, hf2, hfn, q2⟩, q3, hc⟩ => ?_)
      subst q1; subst q2; subst q3
      show zGo _ _ _ (.int _ :: _) _ _ _ _ _
      refine g_eqv (y := nI (zwF J x (js J))) (zwy_R hJ (by omega)) ?_
      refine g_i2l r6_withWays_43 ?_
      refine g_ladd r6_withWays_44 ?_
      refine g_ls3 r6_withWays_45 rfl ?_
      refine g_iiN5 r6_withWays_46 rfl ?_
      refine g_goto r6_withWays_49 ?_
      exact ih (x + 1) f1 f2 I1 (by omega) (by omega) hf1 hf2 hfn (zRep_wy hw hP hc) (hF.trans (fun c hh => hc c (by omega) (by omega)))
theorem ev6_withWays {w v0 e1 e2 : Nat} {h : Int64} {J I : zMI} (hw : zW w) (W : zWF J) {N : Nat} (hP : zRep w I J N) (hN : N + 1 < 2 ^ 31) (he1 : zE e1) (he2 : zE e2) (hne : ¬ e1 = e2) (hJ : 0 < J 54 5) {h0 : Int64} : zEp m6_withWays (zRR w v0 e1 e2) h I [.ref 0, .long h0] (fun v R1 h1 I1 => v = some (.long (zfo2 (fun x => nI (zwF J x (js J))) 5 (zfo2 (fun p => zTd J (nI p)) (zln (zTm J)) (zmx h0 (zTm J))))) ∧ (∃ a b, zE a ∧ zE b ∧ ¬ a = b ∧ R1 = zRR w v0 a b) ∧ h1 = h ∧ zRep w I1 J (N + 1) ∧ zFc I I1) := by
  refine zEp_of [.ref 0, .long h0, .null, .null, .null, .null] pl6_withWays (by decide +kernel) (fun _ _ => rfl) (fun _ _ => Nat.le_of_ble_eq_true rfl) ?_
  refine g_al0 r6_withWays_0 ?_
  refine g_cV0 r6_withWays_1 ok6_seekTogether pl6_withWays pl6_seekTogether xx_0 (Nat.le_of_ble_eq_true rfl) (ev6_seekTogether hw W hP.1 (by omega)) (fun v' R' h' I1 ⟨q1, q2, q3, hs⟩ => ?_)
  subst q1; subst q2; subst q3
  have hP1 := zRep_fs hw hs.2.1 hs.2.2 hP
  refine g_al0 r6_withWays_4 ?_
  refine g_kl r6_withWays_5 ?_
  refine g_ll1 r6_withWays_8 ?_
  refine g_lmul r6_withWays_9 ?_
  refine g_al0 r6_withWays_10 ?_
  refine g_gfr r6_withWays_11 xx_0 rfl rr_0_3 ?_
  refine g_gfi r6_withWays_14 xx_17 rfl ?_
  refine g_eqv (y := zTm J) (zFnd_m hs.1) ?_
  refine g_i2l r6_withWays_17 ?_
  refine g_ladd r6_withWays_18 ?_
  refine g_eV1 r6_withWays_19 ok6_withPath pl6_withWays pl6_withPath xx_0 (Nat.le_of_ble_eq_true rfl) (ev6_withPath hs.1 W.m10) ?_
  refine g_ls3 r6_withWays_22 rfl ?_
  refine g_k r6_withWays_23 ?_
  refine g_is5 r6_withWays_24 rfl ?_
  exact lp6_withWays hw W hJ 6 0 e1 e2 I1 (by omega) (by omega) he1 he2 hne hP1 hs.2.1.c
