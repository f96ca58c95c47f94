def zmx (h : Int64) (v : Int32) : Int64 := 31 * h + v.toInt64
/-- the digest goes on with f 0 .. f (k - 1) -/
def zfo2 (f : Nat → Int32) : Nat → Int64 → Int64
  | 0, h => h
  | k + 1, h => zmx (zfo2 f k h) (f k)
def zln (r : Int32) : Nat := r.toNatClampNeg
theorem zlm_cases {E : Nat → Nat → Prop} {nx : Nat → Nat → Nat} {G : Nat → Prop} {m s : Nat} (hN : ∀ a s, a < m → s < 256 → nx a s < 256) (hs : s < 256) : zlm E nx G m s = -1 ∨ ∃ d, d ≤ 255 ∧ zlm E nx G m s = nI d := by
  by_cases h : ∃ k, zRk E nx G m k s
  · obtain ⟨k, hk⟩ := h
    obtain ⟨d, -, hD⟩ := zDi_ex hk
    exact Or.inr ⟨d, zDi_le hN hs hD, (zlm_eq (Or.inr ⟨d, zDi_le hN hs hD, hD, rfl⟩)).symm⟩
  · exact Or.inl (zlm_eq (Or.inl ⟨fun k hk => h ⟨k, hk⟩, rfl⟩)).symm
theorem zln_nI {c : Nat} (h : c ≤ 255) : zln (nI c) = c := nI_clamp (by omega)
theorem zln_m1 : zln (-1) = 0 := by decide +kernel
section OXD
variable {J I : zMI}
theorem zabN_ox (h : zOm J I) (n : Nat) (x : Int32) : zabN I n x = zabN J n x := by
  simp only [zabN, zwi_ox h, h.f 0 (by decide), h.f 5 (by decide), h.f 13 (by decide), h.f 12 (by decide), h.f 11 (by decide), h.f 4 (by decide)]
theorem zdeN_ox (h : zOm J I) (t a : Nat) (x : Int32) : zdeN I t a x = zdeN J t a x := by
  simp only [zdeN, ztd_ox h, h.f 11 (by decide), h.o 58 (by decide) (by decide), h.o 59 (by decide) (by decide), h.o 60 (by decide) (by decide), h.o 61 (by decide) (by decide), h.o 62 (by decide) (by decide)]
theorem zhmR_ox (h : zOm J I) (x : Int32) : zhmR I x = zhmR J x := by
  simp only [zhmR, h.f 5 (by decide), h.f 19 (by decide), h.f 13 (by decide), h.f 21 (by decide), h.f 22 (by decide), h.f 23 (by decide)]
variable {w v0 e1 e2 : Nat} {h : Int64}
theorem el7_aboutNow (hO : zOx J I) (W : zWF J) {x : Int32} : zEr m7_aboutNow (zRR w v0 e1 e2) h I [.ref 54, .int x] (some (.int (zabN J (jn J) x))) (zRR w v0 e1 e2) h I := by
  rw [← zabN_ox hO.m]; exact ev7_aboutNow ((hO.f 0 (by decide)).trans W.n) W.n4
theorem el7_deedNow (hO : zOx J I) (W : zWF J) {a : Nat} (ha : a < 10) {x : Int32} : zEr m7_deedNow (zRR w v0 e1 e2) h I [.ref 54, .int (nI a), .int x] (some (.int (zdeN J (jt J) a x))) (zRR w v0 e1 e2) h I := by
  rw [← zdeN_ox hO.m]; exact ev7_deedNow ha ((hO.f 13 (by decide)).trans W.t) W.t30
theorem el7_howMany (hO : zOx J I) {x : Int32} : zEr m7_howMany (zRR w v0 e1 e2) h I [.ref 54, .int x] (some (.int (zhmR J x))) (zRR w v0 e1 e2) h I := by
  rw [← zhmR_ox hO.m]; exact ev7_howMany
end OXD
theorem ev7_mix {w v0 e1 e2 : Nat} {h v : Int64} {I : zMI} : zEr m7_mix (zRR w v0 e1 e2) h I [.ref 54, .long v] none (zRR w v0 e1 e2) (31 * h + v) I := by
  refine zEp_of [.ref 54, .long v, .null] pl7_mix (by decide +kernel) (fun _ _ => rfl) (fun _ _ => Nat.le_of_ble_eq_true rfl) ?_
  refine g_al0 r7_mix_0 ?_
  refine g_kl r7_mix_1 ?_
  refine g_al0 r7_mix_4 ?_
  refine g_gfl r7_mix_5 xx_54 rfl ?_
  refine g_lmul r7_mix_8 ?_
  refine g_ll1 r7_mix_9 ?_
  refine g_ladd r7_mix_10 ?_
  refine g_pfl r7_mix_11 xx_54 zX_9 ?_
  exact g_vret r7_mix_14 rfl ⟨rfl, ⟨rfl, rfl, rfl, rfl⟩⟩
theorem lp7_mixPeople_a {w v0 e1 e2 : Nat} {P : zPost} {J : zMI} (W : zWF J) {h0 : Int64} {z : Value} (hend : ∀ I (y : Value), zOx J I → zGo m7_mixPeople 24 [.ref 54, y, z] [] zX (zRR w v0 e1 e2) (zfo2 (fun x => zabN J (jn J) (nI x)) (7) h0) I P) : ∀ d i I, 7 - i < d → i ≤ 7 → zOx J I → zGo m7_mixPeople 2 [.ref 54, .int (nI i), z] [] zX (zRR w v0 e1 e2) (zfo2 (fun x => zabN J (jn J) (nI x)) i h0) I P := by
  intro d
  induction d with
  | zero => intro i I hd0; exact absurd hd0 (Nat.not_lt_zero _)
  | succ d ih =>
    intro i I hd0 hd1 hO
    refine g_il1 r7_mixPeople_2 ?_
    refine g_k r7_mixPeople_3 ?_
    refine g_eqv (y := nI 7) rfl ?_
    refine g_icgeN r7_mixPeople_5 (by omega) (by omega) (fun h5 => ?_) (fun h5 => ?_)
    · rw [show i = 7 by omega]
      exact hend I _ hO
    · refine g_al0 r7_mixPeople_8 ?_
      refine g_al0 r7_mixPeople_9 ?_
      refine g_il1 r7_mixPeople_10 ?_
      refine g_eV1 r7_mixPeople_11 ok7_aboutNow pl7_mixPeople pl7_aboutNow xx_54 (Nat.le_of_ble_eq_true rfl) (el7_aboutNow hO W) ?_
      refine g_i2l r7_mixPeople_14 ?_
      refine g_eV1 r7_mixPeople_15 ok7_mix pl7_mixPeople pl7_mix xx_54 (Nat.le_of_ble_eq_true rfl) (ev7_mix) ?_
      refine g_iiN1 r7_mixPeople_18 rfl ?_
      refine g_goto r7_mixPeople_21 ?_
      exact ih (i + 1) I (by omega) (by omega) hO
theorem lp7_mixPeople_o {w v0 e1 e2 : Nat} {P : zPost} {J : zMI} (W : zWF J) {h0 : Int64} {k : Nat} (hk : k < jn J) (hend : ∀ I (y : Value), zOx J I → zGo m7_mixPeople 59 [.ref 54, .int (nI k), y] [] zX (zRR w v0 e1 e2) (zfo2 (fun x => zoN J k (nI x)) (8) h0) I P) : ∀ d i I, 8 - i < d → i ≤ 8 → zOx J I → zGo m7_mixPeople 36 [.ref 54, .int (nI k), .int (nI i)] [] zX (zRR w v0 e1 e2) (zfo2 (fun x => zoN J k (nI x)) i h0) I P := by
  intro d
  induction d with
  | zero => intro i I hd0; exact absurd hd0 (Nat.not_lt_zero _)
  | succ d ih =>
    intro i I hd0 hd1 hO
    refine g_il2 r7_mixPeople_36 ?_
    refine g_k r7_mixPeople_37 ?_
    refine g_eqv (y := nI 8) rfl ?_
    refine g_icgeN r7_mixPeople_39 (by omega) (by omega) (fun h39 => ?_) (fun h39 => ?_)
    · rw [show i = 8 by omega]
      exact hend I _ hO
    · refine g_al0 r7_mixPeople_42 ?_
      refine g_al0 r7_mixPeople_43 ?_
      refine g_il1 r7_mixPeople_44 ?_
      refine g_il2 r7_mixPeople_45 ?_
      refine g_cV2 r7_mixPeople_46 ok7_oneNow pl7_mixPeople pl7_oneNow xx_54 (Nat.le_of_ble_eq_true rfl) (el7_oneNow hO W hk) (fun v' R' h' I1 ⟨q1, q2, q3, hO1⟩ => ?_)
      subst q1; subst q2; subst q3
      refine g_i2l r7_mixPeople_49 ?_
      refine g_eV1 r7_mixPeople_50 ok7_mix pl7_mixPeople pl7_mix xx_54 (Nat.le_of_ble_eq_true rfl) (ev7_mix) ?_
      refine g_iiN2 r7_mixPeople_53 rfl ?_
      refine g_goto r7_mixPeople_56 ?_
      exact ih (i + 1) I1 (by omega) (by omega) hO1
theorem lp7_mixPeople_l_c {w v0 e1 e2 : Nat} {P : zPost} {J : zMI} (W : zWF J) {h0 : Int64} {I : zMI} {k c : Nat} (hl : zLaid J I (zao J k (jt J) (jm J)) (zwq J k)) (hr : zlm (zEa J (zao J k (jt J) (jm J))) (zNx J) (zwq J k) (jm J) (js J) = nI c) (hc : c ≤ 255) (hend : ∀ (y : Value), zGo m7_mixPeople 90 [.ref 54, .int (nI k), y] [] zX (zRR w v0 e1 e2) (zfo2 (fun p => zld (zEa J (zao J k (jt J) (jm J))) (zNx J) (zwq J k) (jm J) (js J) (nI p)) (c) h0) I P) : ∀ d i, c - i < d → i ≤ c → zGo m7_mixPeople 66 [.ref 54, .int (nI k), .int (nI i)] [] zX (zRR w v0 e1 e2) (zfo2 (fun p => zld (zEa J (zao J k (jt J) (jm J))) (zNx J) (zwq J k) (jm J) (js J) (nI p)) i h0) I P := by
  intro d
  induction d with
  | zero => intro i hd0; exact absurd hd0 (Nat.not_lt_zero _)
  | succ d ih =>
    intro i hd0 hd1
    refine g_il2 r7_mixPeople_66 ?_
    refine g_al0 r7_mixPeople_67 ?_
    refine g_eV0 r7_mixPeople_68 ok7_laidMany pl7_mixPeople pl7_laidMany xx_54 (Nat.le_of_ble_eq_true rfl) (el7_laidMany hl W) ?_
    rw [hr]
    refine g_icgeN r7_mixPeople_71 (by omega) (by omega) (fun h71 => ?_) (fun h71 => ?_)
    · rw [show i = c by omega]
      exact hend _
    · refine g_al0 r7_mixPeople_74 ?_
      refine g_al0 r7_mixPeople_75 ?_
      refine g_il2 r7_mixPeople_76 ?_
      refine g_eV1 r7_mixPeople_77 ok7_laidAct pl7_mixPeople pl7_laidAct xx_54 (Nat.le_of_ble_eq_true rfl) (el7_laidAct hl W) ?_
      refine g_i2l r7_mixPeople_80 ?_
      refine g_eV1 r7_mixPeople_81 ok7_mix pl7_mixPeople pl7_mix xx_54 (Nat.le_of_ble_eq_true rfl) (ev7_mix) ?_
      refine g_iiN2 r7_mixPeople_84 rfl ?_
      refine g_goto r7_mixPeople_87 ?_
      exact ih (i + 1) (by omega) (by omega)
theorem lp7_mixPeople_l {w v0 e1 e2 : Nat} {P : zPost} {J : zMI} (W : zWF J) {h0 : Int64} {I : zMI} {k : Nat} (hl : zLaid J I (zao J k (jt J) (jm J)) (zwq J k)) (hend : ∀ y : Value, zGo m7_mixPeople 90 [.ref 54, .int (nI k), y] [] zX (zRR w v0 e1 e2) (zfo2 (fun p => zld (zEa J (zao J k (jt J) (jm J))) (zNx J) (zwq J k) (jm J) (js J) (nI p)) (zln (zlm (zEa J (zao J k (jt J) (jm J))) (zNx J) (zwq J k) (jm J) (js J))) h0) I P) : zGo m7_mixPeople 66 [.ref 54, .int (nI k), .int (nI 0)] [] zX (zRR w v0 e1 e2) h0 I P := by
  rcases zlm_cases (E := zEa J (zao J k (jt J) (jm J))) (G := zwq J k) W.N W.s8 with hr | ⟨c, hc, hr⟩
  · rw [hr, zln_m1] at hend
    refine g_il2 r7_mixPeople_66 ?_
    refine g_al0 r7_mixPeople_67 ?_
    refine g_eV0 r7_mixPeople_68 ok7_laidMany pl7_mixPeople pl7_laidMany xx_54 (Nat.le_of_ble_eq_true rfl) (el7_laidMany hl W) ?_
    rw [hr]
    refine g_icgeL r7_mixPeople_71 (fun h71 => ?_) (fun hc => absurd hc (by decide +kernel))
    exact hend _
  · rw [hr, zln_nI hc] at hend
    exact lp7_mixPeople_l_c W hl hr hc hend (c + 1) 0 (by omega) (by omega)
theorem lp7_mixPeople_d {w v0 e1 e2 : Nat} {P : zPost} {J : zMI} (W : zWF J) {h0 : Int64} {a : Nat} (ha : a < 10) (hend : ∀ I (y : Value), zOx J I → zGo m7_mixPeople 131 [.ref 54, .int (nI a), y] [] zX (zRR w v0 e1 e2) (zfo2 (fun x => zdeN J (jt J) a (nI x)) (7) h0) I P) : ∀ d i I, 7 - i < d → i ≤ 7 → zOx J I → zGo m7_mixPeople 108 [.ref 54, .int (nI a), .int (nI i)] [] zX (zRR w v0 e1 e2) (zfo2 (fun x => zdeN J (jt J) a (nI x)) i h0) I P := by
  intro d
  induction d with
  | zero => intro i I hd0; exact absurd hd0 (Nat.not_lt_zero _)
  | succ d ih =>
    intro i I hd0 hd1 hO
    refine g_il2 r7_mixPeople_108 ?_
    refine g_k r7_mixPeople_109 ?_
    refine g_eqv (y := nI 7) rfl ?_
    refine g_icgeN r7_mixPeople_111 (by omega) (by omega) (fun h111 => ?_) (fun h111 => ?_)
    · rw [show i = 7 by omega]
      exact hend I _ hO
    · refine g_al0 r7_mixPeople_114 ?_
      refine g_al0 r7_mixPeople_115 ?_
      refine g_il1 r7_mixPeople_116 ?_
      refine g_il2 r7_mixPeople_117 ?_
      refine g_eV2 r7_mixPeople_118 ok7_deedNow pl7_mixPeople pl7_deedNow xx_54 (Nat.le_of_ble_eq_true rfl) (el7_deedNow hO W ha) ?_
      refine g_i2l r7_mixPeople_121 ?_
      refine g_eV1 r7_mixPeople_122 ok7_mix pl7_mixPeople pl7_mix xx_54 (Nat.le_of_ble_eq_true rfl) (ev7_mix) ?_
      refine g_iiN2 r7_mixPeople_125 rfl ?_
      refine g_goto r7_mixPeople_128 ?_
      exact ih (i + 1) I (by omega) (by omega) hO
noncomputable def zdP (J : zMI) : Nat → Int64 → Int64
  | 0, h => h
  | k + 1, h => zfo2 (fun p => zPd J k (nI p)) (zln (zPm J k)) (zfo2 (fun x => zoN J k (nI x)) 8 (zdP J k h))
def zdA (J : zMI) : Nat → Int64 → Int64
  | 0, h => h
  | a + 1, h => zfo2 (fun x => zdeN J (jt J) a (nI x)) 7 (zdA J a h)
noncomputable def zdM (J : zMI) (h : Int64) : Int64 := zdA J (jm J) (zdP J (jn J) (zfo2 (fun x => zabN J (jn J) (nI x)) 7 h))
theorem lp7_mixPeople_p {w v0 e1 e2 : Nat} {P : zPost} {J : zMI} (W : zWF J) {h0 : Int64} (hn4 : jn J ≤ 4) (hend : ∀ I (y1 y2 : Value), zOx J I → zGo m7_mixPeople 96 [.ref 54, y1, y2] [] zX (zRR w v0 e1 e2) (zdP J (jn J) h0) I P) : ∀ d i I (z : Value), jn J - i < d → i ≤ jn J → zOx J I → zGo m7_mixPeople 26 [.ref 54, .int (nI i), z] [] zX (zRR w v0 e1 e2) (zdP J (i) h0) I P := by
  intro d
  induction d with
  | zero => intro i I z hd0; exact absurd hd0 (Nat.not_lt_zero _)
  | succ d ih =>
    intro i I z hd0 hd1 hO
    refine g_il1 r7_mixPeople_26 ?_
    refine g_al0 r7_mixPeople_27 ?_
    refine g_gfi r7_mixPeople_28 xx_54 rfl ?_
    refine g_eqv (y := nI (jn J)) ((hO.f 0 (by decide)).trans W.n) ?_
    refine g_icgeN r7_mixPeople_31 (by omega) (by omega) (fun h31 => ?_) (fun h31 => ?_)
    · rw [show i = jn J by omega]
      exact hend I _ _ hO
    · refine g_k r7_mixPeople_34 ?_
      refine g_is2 r7_mixPeople_35 rfl ?_
      refine lp7_mixPeople_o W h31 (fun I1 y1 hO1 => ?_) 9 0 I (by omega) (by omega) hO
      refine g_al0 r7_mixPeople_59 ?_
      refine g_il1 r7_mixPeople_60 ?_
      refine g_cV1 r7_mixPeople_61 ok7_layPlan pl7_mixPeople pl7_layPlan xx_54 (Nat.le_of_ble_eq_true rfl) (el7_layPlan hO1 W h31) (fun v' R' h' I2 ⟨q1, q2, q3, hl⟩ => ?_)
      subst q1; subst q2; subst q3
      refine g_k r7_mixPeople_64 ?_
      refine g_is2 r7_mixPeople_65 rfl ?_
      refine lp7_mixPeople_l W hl (fun y2 => ?_)
      refine g_iiN1 r7_mixPeople_90 rfl ?_
      refine g_goto r7_mixPeople_93 ?_
      exact ih (i + 1) I2 _ (by omega) (by omega) hl.1
theorem lp7_mixPeople_A {w v0 e1 e2 : Nat} {P : zPost} {J : zMI} (W : zWF J) {h0 : Int64} (hm10 : jm J ≤ 10) (hend : ∀ I (y1 y2 : Value), zOx J I → zGo m7_mixPeople 137 [.ref 54, y1, y2] [] zX (zRR w v0 e1 e2) (zdA J (jm J) h0) I P) : ∀ d i I (z : Value), jm J - i < d → i ≤ jm J → zOx J I → zGo m7_mixPeople 98 [.ref 54, .int (nI i), z] [] zX (zRR w v0 e1 e2) (zdA J (i) h0) I P := by
  intro d
  induction d with
  | zero => intro i I z hd0; exact absurd hd0 (Nat.not_lt_zero _)
  | succ d ih =>
    intro i I z hd0 hd1 hO
    refine g_il1 r7_mixPeople_98 ?_
    refine g_al0 r7_mixPeople_99 ?_
    refine g_gfi r7_mixPeople_100 xx_54 rfl ?_
    refine g_eqv (y := nI (jm J)) ((hO.f 5 (by decide)).trans W.m) ?_
    refine g_icgeN r7_mixPeople_103 (by omega) (by omega) (fun h103 => ?_) (fun h103 => ?_)
    · rw [show i = jm J by omega]
      exact hend I _ _ hO
    · refine g_k r7_mixPeople_106 ?_
      refine g_is2 r7_mixPeople_107 rfl ?_
      refine lp7_mixPeople_d W (show i < 10 by omega) (fun I1 y1 hO1 => ?_) 8 0 I (by omega) (by omega) hO
      refine g_iiN1 r7_mixPeople_131 rfl ?_
      refine g_goto r7_mixPeople_134 ?_
      exact ih (i + 1) I1 _ (by omega) (by omega) hO1
theorem el7_mixPeople {w v0 e1 e2 : Nat} {h : Int64} {J I : zMI} (hO : zOx J I) (W : zWF J) : zEp m7_mixPeople (zRR w v0 e1 e2) h I [.ref 54] (fun v R1 h1 I1 => v = none ∧ R1 = (zRR w v0 e1 e2) ∧ h1 = zdM J h ∧ zOx J I1) := by
  refine zEp_of [.ref 54, .null, .null] pl7_mixPeople (by decide +kernel) (fun _ _ => rfl) (fun _ _ => Nat.le_of_ble_eq_true rfl) ?_
  refine g_k r7_mixPeople_0 ?_
  refine g_is1 r7_mixPeople_1 rfl ?_
  refine lp7_mixPeople_a W (fun I y hO => ?_) 8 0 I (by omega) (by omega) hO
  refine g_k r7_mixPeople_24 ?_
  refine g_is1 r7_mixPeople_25 rfl ?_
  refine lp7_mixPeople_p W W.n4 (fun I y1 y2 hO => ?_) (jn J + 1) 0 I _ (by omega) (by omega) hO
  refine g_k r7_mixPeople_96 ?_
  refine g_is1 r7_mixPeople_97 rfl ?_
  refine lp7_mixPeople_A W W.m10 (fun I y1 y2 hO => ?_) (jm J + 1) 0 I _ (by omega) (by omega) hO
  exact g_vret r7_mixPeople_137 rfl ⟨rfl, rfl, rfl, rfl, hO⟩
theorem lp7_mixStory_s {w v0 e1 e2 : Nat} {P : zPost} {J : zMI} (W : zWF J) {h0 : Int64} {I : zMI} (hl : zLkd J I) {k : Nat} (hk : k < jt J) (hend : ∀ (y : Value), zGo m7_mixStory 39 [.ref 54, .int (nI k), y] [] zX (zRR w v0 e1 e2) (zfo2 (fun x => zsN J k (nI x)) (9) h0) I P) : ∀ d i, 9 - i < d → i ≤ 9 → zGo m7_mixStory 16 [.ref 54, .int (nI k), .int (nI i)] [] zX (zRR w v0 e1 e2) (zfo2 (fun x => zsN J k (nI x)) i h0) I P := by
  intro d
  induction d with
  | zero => intro i hd0; exact absurd hd0 (Nat.not_lt_zero _)
  | succ d ih =>
    intro i hd0 hd1
    refine g_il2 r7_mixStory_16 ?_
    refine g_k r7_mixStory_17 ?_
    refine g_eqv (y := nI 9) rfl ?_
    refine g_icgeN r7_mixStory_19 (by omega) (by omega) (fun h19 => ?_) (fun h19 => ?_)
    · rw [show i = 9 by omega]
      exact hend _
    · refine g_al0 r7_mixStory_22 ?_
      refine g_al0 r7_mixStory_23 ?_
      refine g_il1 r7_mixStory_24 ?_
      refine g_il2 r7_mixStory_25 ?_
      refine g_eV2 r7_mixStory_26 ok7_stepNow pl7_mixStory pl7_stepNow xx_54 (Nat.le_of_ble_eq_true rfl) (el7_stepNow hl W hk) ?_
      refine g_i2l r7_mixStory_29 ?_
      refine g_eV1 r7_mixStory_30 ok7_mix pl7_mixStory pl7_mix xx_54 (Nat.le_of_ble_eq_true rfl) (ev7_mix) ?_
      refine g_iiN2 r7_mixStory_33 rfl ?_
      refine g_goto r7_mixStory_36 ?_
      exact ih (i + 1) (by omega) (by omega)
theorem lp7_mixStory_y {w v0 e1 e2 : Nat} {P : zPost} {J : zMI} (W : zWF J) {h0 : Int64} {z : Value} (hend : ∀ I (y : Value), zOx J I → zGo m7_mixStory 69 [.ref 54, y, z] [] zX (zRR w v0 e1 e2) (zfo2 (fun x => zsyN J (nI x)) (7) h0) I P) : ∀ d i I, 7 - i < d → i ≤ 7 → zOx J I → zGo m7_mixStory 47 [.ref 54, .int (nI i), z] [] zX (zRR w v0 e1 e2) (zfo2 (fun x => zsyN J (nI x)) i h0) I P := by
  intro d
  induction d with
  | zero => intro i I hd0; exact absurd hd0 (Nat.not_lt_zero _)
  | succ d ih =>
    intro i I hd0 hd1 hO
    refine g_il1 r7_mixStory_47 ?_
    refine g_k r7_mixStory_48 ?_
    refine g_eqv (y := nI 7) rfl ?_
    refine g_icgeN r7_mixStory_50 (by omega) (by omega) (fun h50 => ?_) (fun h50 => ?_)
    · rw [show i = 7 by omega]
      exact hend I _ hO
    · refine g_al0 r7_mixStory_53 ?_
      refine g_al0 r7_mixStory_54 ?_
      refine g_il1 r7_mixStory_55 ?_
      refine g_cV1 r7_mixStory_56 ok7_storyNow pl7_mixStory pl7_storyNow xx_54 (Nat.le_of_ble_eq_true rfl) (el7_storyNow hO W) (fun v' R' h' I1 ⟨q1, q2, q3, hO1⟩ => ?_)
      subst q1; subst q2; subst q3
      refine g_i2l r7_mixStory_59 ?_
      refine g_eV1 r7_mixStory_60 ok7_mix pl7_mixStory pl7_mix xx_54 (Nat.le_of_ble_eq_true rfl) (ev7_mix) ?_
      refine g_iiN1 r7_mixStory_63 rfl ?_
      refine g_goto r7_mixStory_66 ?_
      exact ih (i + 1) I1 (by omega) (by omega) hO1
theorem lp7_mixStory_l_c {w v0 e1 e2 : Nat} {P : zPost} {J : zMI} (W : zWF J) {h0 : Int64} {I : zMI} {z : Value} {c : Nat} (hl : zLaid J I (1 <<< (nI (jm J) &&& 31) - 1) (zTg J (jn J))) (hr : zlm (zEa J (1 <<< (nI (jm J) &&& 31) - 1)) (zNx J) (zTg J (jn J)) (jm J) (js J) = nI c) (hc : c ≤ 255) (hend : ∀ (y : Value), zGo m7_mixStory 108 [.ref 54, y, z] [] zX (zRR w v0 e1 e2) (zfo2 (fun p => zld (zEa J (1 <<< (nI (jm J) &&& 31) - 1)) (zNx J) (zTg J (jn J)) (jm J) (js J) (nI p)) (c) h0) I P) : ∀ d i, c - i < d → i ≤ c → zGo m7_mixStory 84 [.ref 54, .int (nI i), z] [] zX (zRR w v0 e1 e2) (zfo2 (fun p => zld (zEa J (1 <<< (nI (jm J) &&& 31) - 1)) (zNx J) (zTg J (jn J)) (jm J) (js J) (nI p)) i h0) I P := by
  intro d
  induction d with
  | zero => intro i hd0; exact absurd hd0 (Nat.not_lt_zero _)
  | succ d ih =>
    intro i hd0 hd1
    refine g_il1 r7_mixStory_84 ?_
    refine g_al0 r7_mixStory_85 ?_
    refine g_eV0 r7_mixStory_86 ok7_laidMany pl7_mixStory pl7_laidMany xx_54 (Nat.le_of_ble_eq_true rfl) (el7_laidMany hl W) ?_
    rw [hr]
    refine g_icgeN r7_mixStory_89 (by omega) (by omega) (fun h89 => ?_) (fun h89 => ?_)
    · rw [show i = c by omega]
      exact hend _
    · refine g_al0 r7_mixStory_92 ?_
      refine g_al0 r7_mixStory_93 ?_
      refine g_il1 r7_mixStory_94 ?_
      refine g_eV1 r7_mixStory_95 ok7_laidAct pl7_mixStory pl7_laidAct xx_54 (Nat.le_of_ble_eq_true rfl) (el7_laidAct hl W) ?_
      refine g_i2l r7_mixStory_98 ?_
      refine g_eV1 r7_mixStory_99 ok7_mix pl7_mixStory pl7_mix xx_54 (Nat.le_of_ble_eq_true rfl) (ev7_mix) ?_
      refine g_iiN1 r7_mixStory_102 rfl ?_
      refine g_goto r7_mixStory_105 ?_
      exact ih (i + 1) (by omega) (by omega)
theorem lp7_mixStory_l {w v0 e1 e2 : Nat} {P : zPost} {J : zMI} (W : zWF J) {h0 : Int64} {I : zMI} {z : Value} (hl : zLaid J I (1 <<< (nI (jm J) &&& 31) - 1) (zTg J (jn J))) (hend : ∀ y : Value, zGo m7_mixStory 108 [.ref 54, y, z] [] zX (zRR w v0 e1 e2) (zfo2 (fun p => zld (zEa J (1 <<< (nI (jm J) &&& 31) - 1)) (zNx J) (zTg J (jn J)) (jm J) (js J) (nI p)) (zln (zlm (zEa J (1 <<< (nI (jm J) &&& 31) - 1)) (zNx J) (zTg J (jn J)) (jm J) (js J))) h0) I P) : zGo m7_mixStory 84 [.ref 54, .int (nI 0), z] [] zX (zRR w v0 e1 e2) h0 I P := by
  rcases zlm_cases (E := zEa J (1 <<< (nI (jm J) &&& 31) - 1)) (G := zTg J (jn J)) W.N W.s8 with hr | ⟨c, hc, hr⟩
  · rw [hr, zln_m1] at hend
    refine g_il1 r7_mixStory_84 ?_
    refine g_al0 r7_mixStory_85 ?_
    refine g_eV0 r7_mixStory_86 ok7_laidMany pl7_mixStory pl7_laidMany xx_54 (Nat.le_of_ble_eq_true rfl) (el7_laidMany hl W) ?_
    rw [hr]
    refine g_icgeL r7_mixStory_89 (fun h89 => ?_) (fun hc => absurd hc (by decide +kernel))
    exact hend _
  · rw [hr, zln_nI hc] at hend
    exact lp7_mixStory_l_c W hl hr hc hend (c + 1) 0 (by omega) (by omega)
theorem lp7_mixStory_w {w v0 e1 e2 : Nat} {P : zPost} {J : zMI} (W : zWF J) {h0 : Int64} {z : Value} (hend : ∀ I (y : Value), zOx J I → zGo m7_mixStory 131 [.ref 54, y, z] [] zX (zRR w v0 e1 e2) (zfo2 (fun x => nI (zwF J x (js J))) (5) h0) I P) : ∀ d i I, 5 - i < d → i ≤ 5 → zOx J I → zGo m7_mixStory 110 [.ref 54, .int (nI i), z] [] zX (zRR w v0 e1 e2) (zfo2 (fun x => nI (zwF J x (js J))) i h0) I P := by
  intro d
  induction d with
  | zero => intro i I hd0; exact absurd hd0 (Nat.not_lt_zero _)
  | succ d ih =>
    intro i I hd0 hd1 hO
    refine g_il1 r7_mixStory_110 ?_
    refine g_k r7_mixStory_111 ?_
    refine g_eqv (y := nI 5) rfl ?_
    refine g_icgeN r7_mixStory_112 (by omega) (by omega) (fun h112 => ?_) (fun h112 => ?_)
    · rw [show i = 5 by omega]
      exact hend I _ hO
    · refine g_al0 r7_mixStory_115 ?_
      refine g_al0 r7_mixStory_116 ?_
      refine g_il1 r7_mixStory_117 ?_
      refine g_cV1 r7_mixStory_118 ok7_waysNow pl7_mixStory pl7_waysNow xx_54 (Nat.le_of_ble_eq_true rfl) (el7_waysNow hO W (by omega)) (fun v' R' h' I1 ⟨q1, q2, q3, hO1⟩ => ?_)
      subst q1; subst q2; subst q3
      refine g_i2l r7_mixStory_121 ?_
      refine g_eV1 r7_mixStory_122 ok7_mix pl7_mixStory pl7_mix xx_54 (Nat.le_of_ble_eq_true rfl) (ev7_mix) ?_
      refine g_iiN1 r7_mixStory_125 rfl ?_
      refine g_goto r7_mixStory_128 ?_
      exact ih (i + 1) I1 (by omega) (by omega) hO1
noncomputable def zdS2 (J : zMI) : Nat → Int64 → Int64
  | 0, h => h
  | k + 1, h => zfo2 (fun x => zsN J k (nI x)) 9 (zdS2 J k h)
noncomputable def zdN (J : zMI) (h : Int64) : Int64 := zfo2 (fun x => nI (zwF J x (js J))) 5 (zfo2 (fun p => zTd J (nI p)) (zln (zTm J)) (zmx (zfo2 (fun x => zsyN J (nI x)) 7 (zdS2 J (jt J) h)) (zTm J)))
theorem lp7_mixStory_S {w v0 e1 e2 : Nat} {P : zPost} {J : zMI} (W : zWF J) {h0 : Int64} (ht30 : jt J ≤ 30) {I : zMI} (hl : zLkd J I) (hend : ∀ (y1 y2 : Value), zGo m7_mixStory 45 [.ref 54, y1, y2] [] zX (zRR w v0 e1 e2) (zdS2 J (jt J) h0) I P) : ∀ d i (z : Value), jt J - i < d → i ≤ jt J → zGo m7_mixStory 6 [.ref 54, .int (nI i), z] [] zX (zRR w v0 e1 e2) (zdS2 J (i) h0) I P := by
  intro d
  induction d with
  | zero => intro i z hd0; exact absurd hd0 (Nat.not_lt_zero _)
  | succ d ih =>
    intro i z hd0 hd1
    refine g_il1 r7_mixStory_6 ?_
    refine g_al0 r7_mixStory_7 ?_
    refine g_gfi r7_mixStory_8 xx_54 rfl ?_
    refine g_eqv (y := nI (jt J)) ((hl.1.f 13 (by decide)).trans W.t) ?_
    refine g_icgeN r7_mixStory_11 (by omega) (by omega) (fun h11 => ?_) (fun h11 => ?_)
    · rw [show i = jt J by omega]
      exact hend _ _
    · refine g_k r7_mixStory_14 ?_
      refine g_is2 r7_mixStory_15 rfl ?_
      refine lp7_mixStory_s W hl h11 (fun y1 => ?_) 10 0 (by omega) (by omega)
      refine g_iiN1 r7_mixStory_39 rfl ?_
      refine g_goto r7_mixStory_42 ?_
      exact ih (i + 1) _ (by omega) (by omega)
theorem el7_mixStory {w v0 e1 e2 : Nat} {h : Int64} {J I : zMI} (hO : zOx J I) (W : zWF J) : zEp m7_mixStory (zRR w v0 e1 e2) h I [.ref 54] (fun v R1 h1 I1 => v = none ∧ R1 = (zRR w v0 e1 e2) ∧ h1 = zdN J h ∧ zOx J I1) := by
  refine zEp_of [.ref 54, .null, .null] pl7_mixStory (by decide +kernel) (fun _ _ => rfl) (fun _ _ => Nat.le_of_ble_eq_true rfl) ?_
  refine g_al0 r7_mixStory_0 ?_
  refine g_cV0 r7_mixStory_1 ok7_layLinks pl7_mixStory pl7_layLinks xx_54 (Nat.le_of_ble_eq_true rfl) (el7_layLinks hO W) (fun v' R' h' I1 ⟨q1, q2, q3, hl⟩ => ?_)
  subst q1; subst q2; subst q3
  refine g_k r7_mixStory_4 ?_
  refine g_is1 r7_mixStory_5 rfl ?_
  refine lp7_mixStory_S W W.t30 hl (fun y1 y2 => ?_) (jt J + 1) 0 _ (by omega) (by omega)
  refine g_k r7_mixStory_45 ?_
  refine g_is1 r7_mixStory_46 rfl ?_
  refine lp7_mixStory_y W (fun I y hO => ?_) 8 0 I1 (by omega) (by omega) hl.1
  refine g_al0 r7_mixStory_69 ?_
  refine g_cV0 r7_mixStory_70 ok7_layTogether pl7_mixStory pl7_layTogether xx_54 (Nat.le_of_ble_eq_true rfl) (el7_layTogether hO W) (fun v' R' h' I2 ⟨q1, q2, q3, hl2⟩ => ?_)
  subst q1; subst q2; subst q3
  refine g_al0 r7_mixStory_73 ?_
  refine g_al0 r7_mixStory_74 ?_
  refine g_eV0 r7_mixStory_75 ok7_laidMany pl7_mixStory pl7_laidMany xx_54 (Nat.le_of_ble_eq_true rfl) (el7_laidMany hl2 W) ?_
  refine g_i2l r7_mixStory_78 ?_
  refine g_eV1 r7_mixStory_79 ok7_mix pl7_mixStory pl7_mix xx_54 (Nat.le_of_ble_eq_true rfl) (ev7_mix) ?_
  refine g_k r7_mixStory_82 ?_
  refine g_is1 r7_mixStory_83 rfl ?_
  refine lp7_mixStory_l W hl2 (fun y => ?_)
  refine g_k r7_mixStory_108 ?_
  refine g_is1 r7_mixStory_109 rfl ?_
  refine lp7_mixStory_w W (fun I y hO => ?_) 6 0 I2 (by omega) (by omega) hl2.1
  exact g_vret r7_mixStory_131 rfl ⟨rfl, rfl, rfl, rfl, hO⟩
theorem lp7_digest_p {w v0 e1 e2 : Nat} {P : zPost} {J : zMI} (W : zWF J) {h0 : Int64} (hL90 : jL J ≤ 90) (hend : ∀ I (y : Value), zOx J I → zGo m7_digest 49 [.ref 54, y] [] zX (zRR w v0 e1 e2) (zfo2 (fun k => J 68 k) (jL J) h0) I P) : ∀ d i I, jL J - i < d → i ≤ jL J → zOx J I → zGo m7_digest 24 [.ref 54, .int (nI i)] [] zX (zRR w v0 e1 e2) (zfo2 (fun k => J 68 k) i h0) I P := by
  intro d
  induction d with
  | zero => intro i I hd0; exact absurd hd0 (Nat.not_lt_zero _)
  | succ d ih =>
    intro i I hd0 hd1 hO
    refine g_il1 r7_digest_24 ?_
    refine g_al0 r7_digest_25 ?_
    refine g_gfi r7_digest_26 xx_54 rfl ?_
    refine g_eqv (y := nI (jL J)) ((hO.f 19 (by decide)).trans W.L) ?_
    refine g_icgeN r7_digest_29 (by omega) (by omega) (fun h29 => ?_) (fun h29 => ?_)
    · rw [show i = jL J by omega]
      exact hend I _ hO
    · refine g_al0 r7_digest_32 ?_
      refine g_al0 r7_digest_33 ?_
      refine g_gfr r7_digest_34 xx_54 rfl rr_54_20 ?_
      refine g_il1 r7_digest_37 ?_
      refine g_ialdN r7_digest_38 xx_68 (by omega) (by decide) ?_
      refine g_eqv (y := J 68 i) (congrFun (hO.o 68 (by decide) (by decide)) i) ?_
      refine g_i2l r7_digest_39 ?_
      refine g_eV1 r7_digest_40 ok7_mix pl7_digest pl7_mix xx_54 (Nat.le_of_ble_eq_true rfl) (ev7_mix) ?_
      refine g_iiN1 r7_digest_43 rfl ?_
      refine g_goto r7_digest_46 ?_
      exact ih (i + 1) I (by omega) (by omega) hO
theorem lp7_digest_c {w v0 e1 e2 : Nat} {P : zPost} {J : zMI} (W : zWF J) {h0 : Int64}  (hend : ∀ I (y : Value), zOx J I → zGo m7_digest 73 [.ref 54, y] [] zX (zRR w v0 e1 e2) (zfo2 (fun x => zhmR J (nI x)) (6) h0) I P) : ∀ d i I, 6 - i < d → i ≤ 6 → zOx J I → zGo m7_digest 51 [.ref 54, .int (nI i)] [] zX (zRR w v0 e1 e2) (zfo2 (fun x => zhmR J (nI x)) i h0) I P := by
  intro d
  induction d with
  | zero => intro i I hd0; exact absurd hd0 (Nat.not_lt_zero _)
  | succ d ih =>
    intro i I hd0 hd1 hO
    refine g_il1 r7_digest_51 ?_
    refine g_k r7_digest_52 ?_
    refine g_eqv (y := nI 6) rfl ?_
    refine g_icgeN r7_digest_54 (by omega) (by omega) (fun h54 => ?_) (fun h54 => ?_)
    · rw [show i = 6 by omega]
      exact hend I _ hO
    · refine g_al0 r7_digest_57 ?_
      refine g_al0 r7_digest_58 ?_
      refine g_il1 r7_digest_59 ?_
      refine g_eV1 r7_digest_60 ok7_howMany pl7_digest pl7_howMany xx_54 (Nat.le_of_ble_eq_true rfl) (el7_howMany hO) ?_
      refine g_i2l r7_digest_63 ?_
      refine g_eV1 r7_digest_64 ok7_mix pl7_digest pl7_mix xx_54 (Nat.le_of_ble_eq_true rfl) (ev7_mix) ?_
      refine g_iiN1 r7_digest_67 rfl ?_
      refine g_goto r7_digest_70 ?_
      exact ih (i + 1) I (by omega) (by omega) hO
noncomputable def zdg (J : zMI) : Int64 := zfo2 (fun x => zhmR J (nI x)) 6 (zfo2 (fun k => J 68 k) (jL J) (if 0 < J 54 5 then zdN J (zdM J 1597) else 1597))
theorem el7_digest {w v0 e1 e2 : Nat} {h : Int64} {J I : zMI} (hO : zOx J I) (W : zWF J) : zEp m7_digest (zRR w v0 e1 e2) h I [.ref 54] (fun v R1 h1 I1 => v = some (.long (zdg J)) ∧ R1 = (zRR w v0 e1 e2) ∧ zOx J I1) := by
  refine zEp_of [.ref 54, .null] pl7_digest (by decide +kernel) (fun _ _ => rfl) (fun _ _ => Nat.le_of_ble_eq_true rfl) ?_
  refine g_al0 r7_digest_0 ?_
  refine g_kl r7_digest_1 ?_
  refine g_pfl r7_digest_4 xx_54 zX_9 ?_
  refine g_al0 r7_digest_7 ?_
  refine g_eV0 r7_digest_8 ok7_isWorld pl7_digest pl7_isWorld xx_54 (Nat.le_of_ble_eq_true rfl) (el7_isWorld hO) ?_
  refine g_ifeqB r7_digest_11 (fun h11 => ?_) (fun h11 => ?_)
  · refine g_k r7_digest_22 ?_
    refine g_is1 r7_digest_23 rfl ?_
    refine lp7_digest_p W W.L90 (fun I y hO => ?_) (jL J + 1) 0 _ (by omega) (by omega) hO
    refine g_k r7_digest_49 ?_
    refine g_is1 r7_digest_50 rfl ?_
    refine lp7_digest_c W (fun I y hO => ?_) 7 0 I (by omega) (by omega) hO
    refine g_al0 r7_digest_73 ?_
    refine g_gfl r7_digest_74 xx_54 rfl ?_
    exact g_lret r7_digest_77 rfl ⟨rfl, ⟨by unfold zdg; rw [if_neg h11], rfl, hO⟩⟩
  · refine g_al0 r7_digest_14 ?_
    refine g_cV0 r7_digest_15 ok7_mixPeople pl7_digest pl7_mixPeople xx_54 (Nat.le_of_ble_eq_true rfl) (el7_mixPeople hO W) (fun v' R' h' I1 ⟨q1, q2, q3, hO1⟩ => ?_)
    subst q1; subst q2; subst q3
    refine g_al0 r7_digest_18 ?_
    refine g_cV0 r7_digest_19 ok7_mixStory pl7_digest pl7_mixStory xx_54 (Nat.le_of_ble_eq_true rfl) (el7_mixStory hO1 W) (fun v' R' h' I2 ⟨q1, q2, q3, hO2⟩ => ?_)
    subst q1; subst q2; subst q3
    refine g_k r7_digest_22 ?_
    refine g_is1 r7_digest_23 rfl ?_
    refine lp7_digest_p W W.L90 (fun I y hO => ?_) (jL J + 1) 0 _ (by omega) (by omega) hO2
    refine g_k r7_digest_49 ?_
    refine g_is1 r7_digest_50 rfl ?_
    refine lp7_digest_c W (fun I y hO => ?_) 7 0 I (by omega) (by omega) hO
    refine g_al0 r7_digest_73 ?_
    refine g_gfl r7_digest_74 xx_54 rfl ?_
    exact g_lret r7_digest_77 rfl ⟨rfl, ⟨by unfold zdg; rw [if_pos h11]; rfl, rfl, hO⟩⟩
