theorem lp6_dig_a {w v0 e1 e2 : Nat} {h : Int64} {J I : zMI} (hw : zW w) (W : zWF J) {N : Nat} (hP : zRep w I J N) {P : zPost} (hJ : 0 < J 54 5) {h0 : Int64} {z : Value} (hend : ∀ y : Value, zGo m6_digest 38 [.ref 0, .long (zfo2 (fun x => zabN J (jn J) (nI x)) 7 h0), .null, y, z] [] zX (zRR w v0 e1 e2) h I P) : ∀ d i, 7 - i < d → i ≤ 7 → zGo m6_digest 13 [.ref 0, .long (zfo2 (fun x => zabN J (jn J) (nI x)) i h0), .null, .int (nI i), z] [] zX (zRR w v0 e1 e2) h I P := by
  intro d
  induction d with
  | zero => intro i hd0; exact absurd hd0 (Nat.not_lt_zero _)
  | succ d ih =>
    intro i hd0 hd1
    refine g_il3 r6_digest_13 ?_
    refine g_k r6_digest_14 ?_
    refine g_eqv (y := nI 6) rfl ?_
    refine g_icgtN r6_digest_16 (by omega) (by omega) (fun h16 => ?_) (fun h16 => ?_)
    · rw [show i = 7 by omega]
      exact hend _
    · refine g_kl r6_digest_19 ?_
      refine g_ll1 r6_digest_22 ?_
      refine g_lmul r6_digest_23 ?_
      refine g_al0 r6_digest_24 ?_
      refine g_il3 r6_digest_25 ?_
      refine g_eV1 r6_digest_26 ok6_about pl6_digest pl6_about xx_0 (Nat.le_of_ble_eq_true rfl) (ev6_about hw W hP) ?_
      refine g_eqv (y := zabN J (jn J) (nI i)) (zab_R hJ (by omega)) ?_
      refine g_i2l r6_digest_29 ?_
      refine g_ladd r6_digest_30 ?_
      refine g_ls1 r6_digest_31 rfl ?_
      refine g_iiN3 r6_digest_32 rfl ?_
      refine g_goto r6_digest_35 ?_
      exact ih (i + 1) (by omega) (by omega)
theorem lp6_dig_o {w v0 e1 e2 : Nat} {h : Int64} {J I0 : zMI} (hw : zW w) (W : zWF J) {N : Nat} {P : zPost} {h0 : Int64} {k : Nat} (hk : k < jn J) (hk4 : k < 4) (hN : N + 2700 < 2 ^ 31) (hend : ∀ I (y : Value), zRep w I J (N + 300 * 8) → zFc I0 I → zGo m6_digest 82 [.ref 0, .long (zfo2 (fun x => zoN J k (nI x)) 8 h0), .null, .int (nI k), y] [] zX (zRR w v0 e1 e2) h I P) : ∀ d i I, 8 - i < d → i ≤ 8 → zRep w I J (N + 300 * i) → zFc I0 I → zGo m6_digest 54 [.ref 0, .long (zfo2 (fun x => zoN J k (nI x)) i h0), .null, .int (nI k), .int (nI i)] [] zX (zRR w v0 e1 e2) h I P := by
  intro d
  induction d with
  | zero => intro i I hd0; exact absurd hd0 (Nat.not_lt_zero _)
  | succ d ih =>
    intro i I hd0 hd1 hP hF
    refine g_il4 r6_digest_54 ?_
    refine g_k r6_digest_56 ?_
    refine g_eqv (y := nI 7) rfl ?_
    refine g_icgtN r6_digest_58 (by omega) (by omega) (fun h58 => ?_) (fun h58 => ?_)
    · rw [show i = 8 by omega] at hP ⊢
      exact hend I _ hP hF
    · refine g_kl r6_digest_61 ?_
      refine g_ll1 r6_digest_64 ?_
      refine g_lmul r6_digest_65 ?_
      refine g_al0 r6_digest_66 ?_
      refine g_il3 r6_digest_67 ?_
      refine g_il4 r6_digest_68 ?_
      refine g_cV2 r6_digest_70 ok6_one pl6_digest pl6_one xx_0 (Nat.le_of_ble_eq_true rfl) (ev6_one hw W hP (by omega)) (fun v' R' h' I1 ⟨q1, q2, q3, hf, hn⟩ => ?_)
      subst q1; subst q2; subst q3
      show zGo _ _ _ (.int _ :: _) _ _ _ _ _
      refine g_eqv (y := zoN J k (nI i)) (zon_R W hk (by omega)) ?_
      refine g_i2l r6_digest_73 ?_
      refine g_ladd r6_digest_74 ?_
      refine g_ls1 r6_digest_75 rfl ?_
      refine g_iiN4 r6_digest_76 rfl ?_
      refine g_goto r6_digest_79 ?_
      exact ih (i + 1) I1 (by omega) (by omega) (zRep_le (zRep_fs hw hf hn hP) (by omega)) (hF.trans hf.c)
theorem lp6_dig_p {w v0 e1 e2 : Nat} {h : Int64} {J I0 : zMI} (hw : zW w) (W : zWF J) {N : Nat} {P : zPost} {h0 : Int64} (hn4 : jn J ≤ 4) (hN : N + 12000 < 2 ^ 31) (hend : ∀ I (y z : Value), zRep w I J (N + 10800) → zFc I0 I → zGo m6_digest 99 [.ref 0, .long (zdP J (jn J) h0), .null, y, z] [] zX (zRR w v0 e1 e2) h I P) : ∀ d i I (z : Value), jn J - i < d → i ≤ jn J → zRep w I J (N + 2700 * i) → zFc I0 I → zGo m6_digest 40 [.ref 0, .long (zdP J i h0), .null, .int (nI i), z] [] zX (zRR w v0 e1 e2) h I P := by
  intro d
  induction d with
  | zero => intro i I z hd0; exact absurd hd0 (Nat.not_lt_zero _)
  | succ d ih =>
    intro i I z hd0 hd1 hP hF
    refine g_il3 r6_digest_40 ?_
    refine g_al0 r6_digest_41 ?_
    refine g_gfr r6_digest_42 xx_0 rfl rr_0_6 ?_
    refine g_gfi r6_digest_45 (xw hw) rfl ?_
    refine g_eqv (y := nI (jn J)) (hP.1.1.1.1.trans W.n) ?_
    refine g_icgeN r6_digest_48 (by omega) (by omega) (fun h48 => ?_) (fun h48 => ?_)
    · rw [show i = jn J by omega] at hP ⊢
      exact hend I _ _ (zRep_le hP (by omega)) hF
    · refine g_k r6_digest_51 ?_
      refine g_is4 r6_digest_52 rfl ?_
      refine lp6_dig_o (N := N + 2700 * i) hw W (by omega) (by omega) (by omega) (fun I y hP hF => ?_) 9 0 I (by omega) (by omega) hP hF
      refine g_al0 r6_digest_82 ?_
      refine g_il3 r6_digest_83 ?_
      refine g_cV1 r6_digest_84 ok6_seekPlan pl6_digest pl6_seekPlan xx_0 (Nat.le_of_ble_eq_true rfl) (ev6_seekPlan hw W hP.1 (by omega) (by omega)) (fun v' R' h' I1 ⟨q1, q2, q3, hs⟩ => ?_)
      subst q1; subst q2; subst q3
      refine g_al0 r6_digest_87 ?_
      refine g_ll1 r6_digest_88 ?_
      refine g_eV1 r6_digest_89 ok6_withPath pl6_digest pl6_withPath xx_0 (Nat.le_of_ble_eq_true rfl) (ev6_withPath hs.1 W.m10) ?_
      refine g_ls1 r6_digest_92 rfl ?_
      refine g_iiN3 r6_digest_93 rfl ?_
      refine g_goto r6_digest_96 ?_
      exact ih (i + 1) I1 _ (by omega) (by omega) (zRep_le (zRep_fs hw hs.2.1 hs.2.2 hP) (by omega)) (hF.trans hs.2.1.c)
theorem lp6_dig_g {w v0 e1 e2 : Nat} {h : Int64} {J I : zMI} (hw : zW w) (W : zWF J) {N : Nat} (hP : zRep w I J N) {P : zPost} (hL90 : jL J ≤ 90) {h0 : Int64} {z : Value} (hend : ∀ y : Value, zGo m6_digest 153 [.ref 0, .long (zfo2 (fun k => J 68 k) (jL J) h0), .null, y, z] [] zX (zRR w v0 e1 e2) h I P) : ∀ d i, jL J - i < d → i ≤ jL J → zGo m6_digest 119 [.ref 0, .long (zfo2 (fun k => J 68 k) i h0), .null, .int (nI i), z] [] zX (zRR w v0 e1 e2) h I P := by
  intro d
  induction d with
  | zero => intro i hd0; exact absurd hd0 (Nat.not_lt_zero _)
  | succ d ih =>
    intro i hd0 hd1
    refine g_il3 r6_digest_119 ?_
    refine g_al0 r6_digest_120 ?_
    refine g_gfr r6_digest_121 xx_0 rfl rr_0_0 ?_
    refine g_gfi r6_digest_124 xx_1 rfl ?_
    refine g_eqv (y := nI (jL J)) (hP.2.2.1.trans W.L) ?_
    refine g_icgeN r6_digest_127 (by omega) (by omega) (fun h127 => ?_) (fun h127 => ?_)
    · rw [show i = jL J by omega]
      exact hend _
    · refine g_kl r6_digest_130 ?_
      refine g_ll1 r6_digest_133 ?_
      refine g_lmul r6_digest_134 ?_
      refine g_al0 r6_digest_135 ?_
      refine g_gfr r6_digest_136 xx_0 rfl rr_0_0 ?_
      refine g_gfr r6_digest_139 xx_1 rfl rr_1_0 ?_
      refine g_il3 r6_digest_142 ?_
      refine g_ialdN r6_digest_143 xx_2 (by omega) (by decide) ?_
      refine g_eqv (y := J 68 i) (hP.2.2.2 i (by omega)) ?_
      refine g_i2l r6_digest_144 ?_
      refine g_ladd r6_digest_145 ?_
      refine g_ls1 r6_digest_146 rfl ?_
      refine g_iiN3 r6_digest_147 rfl ?_
      refine g_goto r6_digest_150 ?_
      exact ih (i + 1) (by omega) (by omega)
theorem lp6_dig_c {w v0 e1 e2 : Nat} {h : Int64} {J I : zMI} (hw : zW w) (W : zWF J) {N : Nat} (hP : zRep w I J N) (he1 : zE e1) (he2 : zE e2) (hne : ¬ e1 = e2) {h0 : Int64} {z : Value} : ∀ d i, 6 - i < d → i ≤ 6 → zGo m6_digest 155 [.ref 0, .long (zfo2 (fun x => zhmR J (nI x)) i h0), .null, .int (nI i), z] [] zX (zRR w v0 e1 e2) h I (fun v X1 R1 h1 I1 => X1 = zX ∧ (fun v R1 h1 I1 => v = some (.long (zfo2 (fun x => zhmR J (nI x)) 6 h0)) ∧ (∃ a b, zE a ∧ zE b ∧ ¬ a = b ∧ R1 = zRR w v0 a b) ∧ h1 = h ∧ zRep w I1 J (N) ∧ zFc I I1) v R1 h1 I1) := by
  intro d
  induction d with
  | zero => intro i hd0; exact absurd hd0 (Nat.not_lt_zero _)
  | succ d ih =>
    intro i hd0 hd1
    refine g_il3 r6_digest_155 ?_
    refine g_k r6_digest_156 ?_
    refine g_eqv (y := nI 5) rfl ?_
    refine g_icgtN r6_digest_157 (by omega) (by omega) (fun h157 => ?_) (fun h157 => ?_)
    · refine g_ll1 r6_digest_179 ?_
      exact g_lret r6_digest_180 rfl ⟨rfl, ⟨by rw [show i = 6 by omega], ⟨e1, e2, he1, he2, hne, rfl⟩, rfl, hP, zFc.refl I⟩⟩
    · refine g_kl r6_digest_160 ?_
      refine g_ll1 r6_digest_163 ?_
      refine g_lmul r6_digest_164 ?_
      refine g_al0 r6_digest_165 ?_
      refine g_il3 r6_digest_166 ?_
      refine g_eV1 r6_digest_167 ok6_count pl6_digest pl6_count xx_0 (Nat.le_of_ble_eq_true rfl) (ev6_count hw W hP) ?_
      refine g_i2l r6_digest_170 ?_
      refine g_ladd r6_digest_171 ?_
      refine g_ls1 r6_digest_172 rfl ?_
      refine g_iiN3 r6_digest_173 rfl ?_
      refine g_goto r6_digest_176 ?_
      exact ih (i + 1) (by omega) (by omega)
theorem tl6_digest {w v0 e1 e2 : Nat} {h : Int64} {J I : zMI} (hw : zW w) (W : zWF J) {N : Nat} (hP : zRep w I J N) (he1 : zE e1) (he2 : zE e2) (hne : ¬ e1 = e2) {h0 : Int64} {y z : Value} : zGo m6_digest 117 [.ref 0, .long h0, .null, y, z] [] zX (zRR w v0 e1 e2) h I (fun v X1 R1 h1 I1 => X1 = zX ∧ (fun v R1 h1 I1 => v = some (.long (zfo2 (fun x => zhmR J (nI x)) 6 (zfo2 (fun k => J 68 k) (jL J) h0))) ∧ (∃ a b, zE a ∧ zE b ∧ ¬ a = b ∧ R1 = zRR w v0 a b) ∧ h1 = h ∧ zRep w I1 J (N) ∧ zFc I I1) v R1 h1 I1) := by
  refine g_k r6_digest_117 ?_
  refine g_is3 r6_digest_118 rfl ?_
  refine lp6_dig_g hw W hP W.L90 (fun y => ?_) (jL J + 1) 0 (by omega) (by omega)
  refine g_k r6_digest_153 ?_
  refine g_is3 r6_digest_154 rfl ?_
  exact lp6_dig_c hw W hP he1 he2 hne 7 0 (by omega) (by omega)
theorem ev6_digest {w v0 e1 e2 : Nat} {h : Int64} {J I : zMI} (hw : zW w) (W : zWF J) {N : Nat} (hP : zRep w I J N) (hN : N + 12000 < 2 ^ 31) (he1 : zE e1) (he2 : zE e2) (hne : ¬ e1 = e2) : zEp m6_digest (zRR w v0 e1 e2) h I [.ref 0] (fun v R1 h1 I1 => v = some (.long (zdg J)) ∧ (∃ a b, zE a ∧ zE b ∧ ¬ a = b ∧ R1 = zRR w v0 a b) ∧ h1 = h ∧ zRep w I1 J (N + 12000) ∧ zFc I I1) := by
  refine zEp_of [.ref 0, .null, .null, .null, .null] pl6_digest (by decide +kernel) (fun _ _ => rfl) (fun _ _ => Nat.le_of_ble_eq_true rfl) ?_
  refine g_kl r6_digest_0 ?_
  refine g_ls1 r6_digest_3 rfl ?_
  refine g_al0 r6_digest_4 ?_
  refine g_gfz r6_digest_5 xx_0 rfl ?_
  refine g_eqv (y := zb (0 < J 54 5)) hP.2.1.1 ?_
  refine g_ifeqB r6_digest_8 (fun hJ => ?_) (fun hJ => ?_)
  · refine g_post (tl6_digest hw W hP he1 he2 hne) (fun v X1 R1 h1 I4 ⟨g1, g2, g3, g4, g5, g6⟩ => ⟨g1, ?_, g3, g4, zRep_le g5 (by omega), g6⟩)
    rw [g2]; unfold zdg; rw [if_neg hJ]
  · refine g_k r6_digest_11 ?_
    refine g_is3 r6_digest_12 rfl ?_
    refine lp6_dig_a hw W hP hJ (fun y => ?_) 8 0 (by omega) (by omega)
    refine g_k r6_digest_38 ?_
    refine g_is3 r6_digest_39 rfl ?_
    refine lp6_dig_p hw W W.n4 (by omega) (fun I2 y z hP2 hF2 => ?_) (jn J + 1) 0 I _ (by omega) (by omega) hP (zFc.refl I)
    refine g_al0 r6_digest_99 ?_
    refine g_ll1 r6_digest_100 ?_
    refine g_eV1 r6_digest_101 ok6_withActs pl6_digest pl6_withActs xx_0 (Nat.le_of_ble_eq_true rfl) (ev6_withActs hw W hP2) ?_
    refine g_ls1 r6_digest_104 rfl ?_
    refine g_al0 r6_digest_105 ?_
    refine g_ll1 r6_digest_106 ?_
    refine g_eV1 r6_digest_107 ok6_withSteps pl6_digest pl6_withSteps xx_0 (Nat.le_of_ble_eq_true rfl) (ev6_withSteps hw W hP2 hJ) ?_
    refine g_ls1 r6_digest_110 rfl ?_
    refine g_al0 r6_digest_111 ?_
    refine g_ll1 r6_digest_112 ?_
    refine g_cV1 r6_digest_113 ok6_withWays pl6_digest pl6_withWays xx_0 (Nat.le_of_ble_eq_true rfl) (ev6_withWays hw W hP2 (by omega) he1 he2 hne hJ) (fun v' R' h' I3 ⟨q1, ⟨f1, f2, hf1, hf2, hfn, q2⟩, q3, hP3, hF3⟩ => ?_)
    subst q1; subst q2; subst q3
    show zGo _ _ _ (.long _ :: _) _ _ _ _ _
    refine g_ls1 r6_digest_116 rfl ?_
    refine g_post (tl6_digest hw W hP3 hf1 hf2 hfn) (fun v X1 R1 h1 I4 ⟨g1, g2, g3, g4, g5, g6⟩ => ⟨g1, ?_, g3, g4, zRep_le g5 (by omega), hF2.trans (hF3.trans g6)⟩)
    rw [g2]; unfold zdg; rw [if_pos hJ]; rfl
