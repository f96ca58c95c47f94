theorem znn {x : Int32} (h : zBt x 31 = false) : ∃ n, n < 2 ^ 31 ∧ x = nI n := nI_of (fun q => by
  have q2 : x.toBitVec.toInt < 0 := Int32.lt_iff_toInt_lt.mp q
  have e : x.toBitVec.msb = true := by rw [BitVec.msb_eq_toInt]; exact decide_eq_true q2
  rw [BitVec.msb_eq_getLsbD_last] at e
  unfold zBt at h
  exact absurd (h.symm.trans e) (by decide))
theorem zlk_nn (J : zMI) {k : Nat} (hk : k ≤ 30) : ∃ n, n < 2 ^ 31 ∧ zlk J k = nI n := znn (by
  cases e : zBt (zlk J k) 31 with
  | false => rfl
  | true => have := ((zlk_b J hk (by decide)).mp e).1; omega)
theorem zcut_31 {J : zMI} : ∀ f s, zBt s 31 = false → zBt (zcut J f s) 31 = false
  | 0, _, h => h
  | f + 1, s, h => by
    simp only [zcut]
    split
    · exact h
    · exact zcut_31 f _ (by rw [zBt_and, h, Bool.false_and])
theorem zcut_nn {J : zMI} (W : zWF J) (f : Nat) : ∃ n, n < 2 ^ 31 ∧ zcut J f (zal J) = nI n := znn (zcut_31 f _ (by rw [zal_b W (by decide)]; have := W.t30; simp; omega))
theorem lp4_allLinks {w v0 e1 e2 : Nat} {h : Int64} {J I : zMI} (W : zWF J) (hR : zRs I J) (ht30 : jt J ≤ 30) : ∀ d i, jt J - i < d → i ≤ jt J → zGo m4_allLinks 4 [.ref 4, .int (zlM J i), .int (nI i)] [] zX (zRR w v0 e1 e2) h I (fun v X1 R1 h1 I1 => X1 = zX ∧ v = some (.int (zlM J (jt J))) ∧ R1 = (zRR w v0 e1 e2) ∧ h1 = h ∧ I1 = I) := by
  intro d
  induction d with
  | zero => intro i hd0; exact absurd hd0 (Nat.not_lt_zero _)
  | succ d ih =>
    intro i hd0 hd1
    refine g_il2 r4_allLinks_4 ?_
    refine g_al0 r4_allLinks_5 ?_
    refine g_gfi r4_allLinks_6 xx_4 rfl ?_
    refine g_eqv (y := nI (jt J)) (hR.1.1.trans W.t) ?_
    refine g_icgeN r4_allLinks_9 (by omega) (by omega) (fun h9 => ?_) (fun h9 => ?_)
    · refine g_il1 r4_allLinks_30 ?_
      exact g_iret r4_allLinks_31 rfl ⟨rfl, ⟨zrt (by rw [show i = jt J by omega]), rfl, rfl, rfl⟩⟩
    · refine g_il1 r4_allLinks_12 ?_
      refine g_al0 r4_allLinks_13 ?_
      refine g_gfr r4_allLinks_14 xx_4 rfl rr_4_4 ?_
      refine g_il2 r4_allLinks_17 ?_
      refine g_ialdN r4_allLinks_18 xx_9 (by omega) (by decide) ?_
      refine g_eqv (y := zlk J i) (hR.2.1 i (by omega)).2.1.1 ?_
      obtain ⟨n, hn, en⟩ := zlk_nn J (show i ≤ 30 by omega)
      rw [en]
      refine g_eS1 r4_allLinks_19 okj6_bitCount_0f7a4 pl4_allLinks plj6_bitCount_0f7a4 (Nat.le_of_ble_eq_true rfl) (evj6_bitCount_0f7a4 hn) ?_
      rw [← en]
      refine g_iadd r4_allLinks_22 ?_
      refine g_is1 r4_allLinks_23 rfl ?_
      refine g_iiN2 r4_allLinks_24 rfl ?_
      refine g_goto r4_allLinks_27 ?_
      exact ih (i + 1) (by omega) (by omega)
theorem ev4_allLinks {w v0 e1 e2 : Nat} {h : Int64} {J I : zMI} (W : zWF J) (hR : zRs I J) : zEr m4_allLinks (zRR w v0 e1 e2) h I [.ref 4] (some (.int (zlM J (jt J)))) (zRR w v0 e1 e2) h I := by
  refine zEp_of [.ref 4, .null, .null] pl4_allLinks (by decide +kernel) (fun _ _ => rfl) (fun _ _ => Nat.le_of_ble_eq_true rfl) ?_
  refine g_k r4_allLinks_0 ?_
  refine g_is1 r4_allLinks_1 rfl ?_
  refine g_k r4_allLinks_2 ?_
  refine g_is2 r4_allLinks_3 rfl ?_
  exact lp4_allLinks W hR W.t30 (jt J + 1) 0 (by omega) (by omega)
theorem ev6_finalTrue {w v0 e1 e2 : Nat} {h : Int64} {J I : zMI} (hw : zW w) (W : zWF J) {N : Nat} (hP : zRep w I J N)  : zEr m6_finalTrue (zRR w v0 e1 e2) h I [.ref 0] (some (.int (zgT J (zwi J (J 54 11) (jn J))))) (zRR w v0 e1 e2) h I := by
  refine zEp_of [.ref 0] pl6_finalTrue (by decide +kernel) (fun _ _ => rfl) (fun _ _ => Nat.le_of_ble_eq_true rfl) ?_
  refine g_al0 r6_finalTrue_0 ?_
  refine g_gfr r6_finalTrue_1 xx_0 rfl rr_0_6 ?_
  refine g_al0 r6_finalTrue_4 ?_
  refine g_gfr r6_finalTrue_5 xx_0 rfl rr_0_6 ?_
  refine g_al0 r6_finalTrue_8 ?_
  refine g_gfr r6_finalTrue_9 xx_0 rfl rr_0_2 ?_
  refine g_gfi r6_finalTrue_12 xx_4 rfl ?_
  refine g_eqv (y := J 54 11) (hP.1.2.1.1.2.2.1) ?_
  refine g_eV1 r6_finalTrue_15 ok5_satisfiedBy pl6_finalTrue pl5_satisfiedBy (xw hw) (Nat.le_of_ble_eq_true rfl) (ev5_satisfiedBy hw W hP.1.1) ?_
  refine g_eV1 r6_finalTrue_18 ok5_goalsToBeTrue pl6_finalTrue pl5_goalsToBeTrue (xw hw) (Nat.le_of_ble_eq_true rfl) (ev5_goalsToBeTrue hw W hP.1.1) ?_
  exact g_iret r6_finalTrue_21 rfl ⟨rfl, ⟨zrt (rfl), rfl, rfl, rfl⟩⟩
theorem ev6_finalFalse {w v0 e1 e2 : Nat} {h : Int64} {J I : zMI} (hw : zW w) (W : zWF J) {N : Nat} (hP : zRep w I J N)  : zEr m6_finalFalse (zRR w v0 e1 e2) h I [.ref 0] (some (.int (zgF J (zwi J (J 54 11) (jn J))))) (zRR w v0 e1 e2) h I := by
  refine zEp_of [.ref 0] pl6_finalFalse (by decide +kernel) (fun _ _ => rfl) (fun _ _ => Nat.le_of_ble_eq_true rfl) ?_
  refine g_al0 r6_finalFalse_0 ?_
  refine g_gfr r6_finalFalse_1 xx_0 rfl rr_0_6 ?_
  refine g_al0 r6_finalFalse_4 ?_
  refine g_gfr r6_finalFalse_5 xx_0 rfl rr_0_6 ?_
  refine g_al0 r6_finalFalse_8 ?_
  refine g_gfr r6_finalFalse_9 xx_0 rfl rr_0_2 ?_
  refine g_gfi r6_finalFalse_12 xx_4 rfl ?_
  refine g_eqv (y := J 54 11) (hP.1.2.1.1.2.2.1) ?_
  refine g_eV1 r6_finalFalse_15 ok5_satisfiedBy pl6_finalFalse pl5_satisfiedBy (xw hw) (Nat.le_of_ble_eq_true rfl) (ev5_satisfiedBy hw W hP.1.1) ?_
  refine g_eV1 r6_finalFalse_18 ok5_goalsToBeFalse pl6_finalFalse pl5_goalsToBeFalse (xw hw) (Nat.le_of_ble_eq_true rfl) (ev5_goalsToBeFalse hw W hP.1.1) ?_
  exact g_iret r6_finalFalse_21 rfl ⟨rfl, ⟨zrt (rfl), rfl, rfl, rfl⟩⟩
theorem ev6_step {w v0 e1 e2 : Nat} {h : Int64} {J I : zMI} (hw : zW w) (W : zWF J) {N : Nat} (hP : zRep w I J N) {y x : Int32} : zEr m6_step (zRR w v0 e1 e2) h I [.ref 0, .int y, .int x] (some (.int (zstR J y x))) (zRR w v0 e1 e2) h I := by
  have t30 := W.t30
  have m10 := W.m10
  refine zEp_of [.ref 0, .int y, .int x] pl6_step (by decide +kernel) (fun _ _ => rfl) (fun _ _ => Nat.le_of_ble_eq_true rfl) ?_
  refine g_il1 r6_step_0 ?_
  refine g_iflt r6_step_1 (fun h1 => ?_) (fun h1 => ?_)
  · refine g_k r6_step_15 ?_
    exact g_iret r6_step_17 rfl ⟨rfl, ⟨zrt (by unfold zstR; rw [if_neg (fun q => q.1 h1)]), rfl, rfl, rfl⟩⟩
  · refine g_il1 r6_step_4 ?_
    refine g_al0 r6_step_5 ?_
    refine g_gfr r6_step_6 xx_0 rfl rr_0_2 ?_
    refine g_gfi r6_step_9 xx_4 rfl ?_
    refine g_eqv (y := nI (jt J)) (hP.1.2.1.1.1.trans W.t) ?_
    refine g_iclt r6_step_12 (fun h12 => ?_) (fun h12 => ?_)
    · obtain ⟨k, hk, rfl⟩ := (zlt_ix (by omega)).mp ⟨h1, h12⟩
      have ci : ¬ nI k < 0 ∧ ¬ (J 54 13 - 1) < nI k := by rw [W.t]; exact zidx' (by omega) hk
      refine g_il2 r6_step_18 ?_
      refine g_sw r6_step_19 ⟨fun h19 => ?_, fun h19 => ?_, fun h19 => ?_, fun h19 => ?_, fun h19 => ?_, fun h19 => ?_, fun h19 => ?_, fun h19 => ?_, fun h19 => ?_, trivial⟩ (fun h19 => ?_)
      · refine g_al0 r6_step_68 ?_
        refine g_gfr r6_step_69 xx_0 rfl rr_0_2 ?_
        refine g_gfr r6_step_72 xx_4 rfl rr_4_0 ?_
        refine g_il1 r6_step_75 ?_
        refine g_ialdN r6_step_76 xx_5 (by omega) (by decide) ?_
        refine g_eqv (y := J 63 k) (hP.1.2.1.2.1 k hk).1.1 ?_
        exact g_iret r6_step_77 rfl ⟨rfl, ⟨zrt (by unfold zstR; subst h19; rw [if_pos ci, if_pos (by decide), nI_clamp (by omega)]; simp [zsN]), rfl, rfl, rfl⟩⟩
      · refine g_al0 r6_step_78 ?_
        refine g_al0 r6_step_79 ?_
        refine g_gfr r6_step_80 xx_0 rfl rr_0_2 ?_
        refine g_gfr r6_step_83 xx_4 rfl rr_4_0 ?_
        refine g_il1 r6_step_86 ?_
        refine g_ialdN r6_step_87 xx_5 (by omega) (by decide) ?_
        refine g_eqv (y := J 63 k) (hP.1.2.1.2.1 k hk).1.1 ?_
        refine g_eV1 r6_step_88 ok6_isAct pl6_step pl6_isAct xx_0 (Nat.le_of_ble_eq_true rfl) (ev6_isAct hw W hP.1) ?_
        refine g_ifeqB r6_step_91 (fun h91 => ?_) (fun h91 => ?_)
        · refine g_k r6_step_114 ?_
          exact g_iret r6_step_115 rfl ⟨rfl, ⟨zrt (by unfold zstR; subst h19; rw [if_pos ci, if_pos (by decide), nI_clamp (by omega)]; simp [zsN]; intro q; rcases W.sa k hk with e | ⟨a, ha, ea⟩; exact absurd e q; exact absurd ((zlt_ix (by omega)).mpr ⟨a, ha, ea⟩) h91), rfl, rfl, rfl⟩⟩
        · obtain ⟨a, ha, ea⟩ := (zlt_ix (by omega)).mp h91
          refine g_al0 r6_step_94 ?_
          refine g_gfr r6_step_95 xx_0 rfl rr_0_6 ?_
          refine g_gfr r6_step_98 (xw hw) rfl (rw_4 hw) ?_
          refine g_al0 r6_step_101 ?_
          refine g_gfr r6_step_102 xx_0 rfl rr_0_2 ?_
          refine g_gfr r6_step_105 xx_4 rfl rr_4_0 ?_
          refine g_il1 r6_step_108 ?_
          refine g_ialdN r6_step_109 xx_5 (by omega) (by decide) ?_
          refine g_eqv (y := J 63 k) (hP.1.2.1.2.1 k hk).1.1 ?_
          rw [ea]
          refine g_ialdN r6_step_110 (xwa_4 hw) (by omega) (by decide) ?_
          refine g_eqv (y := J 58 a) (hP.1.1.2.2 a ha).1 ?_
          refine g_goto r6_step_111 ?_
          exact g_iret r6_step_115 rfl ⟨rfl, ⟨zrt (by unfold zstR; subst h19; rw [if_pos ci, if_pos (by decide), nI_clamp (by omega)]; simp [zsN]; rw [ea, if_neg (znI_m1 (by omega)), nI_clamp (by omega)]), rfl, rfl, rfl⟩⟩
      · refine g_al0 r6_step_116 ?_
        refine g_gfr r6_step_117 xx_0 rfl rr_0_2 ?_
        refine g_gfr r6_step_120 xx_4 rfl rr_4_1 ?_
        refine g_il1 r6_step_123 ?_
        refine g_ialdN r6_step_124 xx_6 (by omega) (by decide) ?_
        refine g_eqv (y := if J 63 k = -1 then zfF (J 64 k ||| J 65 k) else -1) (hP.1.2.1.2.1 k hk).1.2.1 ?_
        exact g_iret r6_step_125 rfl ⟨rfl, ⟨zrt (by unfold zstR; subst h19; rw [if_pos ci, if_pos (show ¬ (2 : Int32) < 0 ∧ ¬ 8 < (2 : Int32) by decide), nI_clamp (by omega)]; simp [zsN]), rfl, rfl, rfl⟩⟩
      · refine g_al0 r6_step_126 ?_
        refine g_gfr r6_step_127 xx_0 rfl rr_0_2 ?_
        refine g_gfr r6_step_130 xx_4 rfl rr_4_3 ?_
        refine g_il1 r6_step_133 ?_
        refine g_ialdN r6_step_134 xx_8 (by omega) (by decide) ?_
        refine g_eqv (y := J 66 k) (hP.1.2.1.2.1 k hk).1.2.2.2 ?_
        exact g_iret r6_step_135 rfl ⟨rfl, ⟨zrt (by unfold zstR; subst h19; rw [if_pos ci, if_pos (by decide), nI_clamp (by omega)]; simp [zsN]), rfl, rfl, rfl⟩⟩
      · refine g_al0 r6_step_136 ?_
        refine g_gfr r6_step_137 xx_0 rfl rr_0_2 ?_
        refine g_gfr r6_step_140 xx_4 rfl rr_4_4 ?_
        refine g_il1 r6_step_143 ?_
        refine g_ialdN r6_step_144 xx_9 (by omega) (by decide) ?_
        refine g_eqv (y := zlk J k) (hP.1.2.1.2.1 k hk).2.1.1 ?_
        exact g_iret r6_step_145 rfl ⟨rfl, ⟨zrt (by unfold zstR; subst h19; rw [if_pos ci, if_pos (by decide), nI_clamp (by omega)]; simp [zsN]), rfl, rfl, rfl⟩⟩
      · refine g_al0 r6_step_146 ?_
        refine g_gfr r6_step_147 xx_0 rfl rr_0_2 ?_
        refine g_gfr r6_step_150 xx_4 rfl rr_4_5 ?_
        refine g_il1 r6_step_153 ?_
        refine g_ialdN r6_step_154 xx_10 (by omega) (by decide) ?_
        refine g_eqv (y := zhg J k) (hP.1.2.1.2.1 k hk).2.1.2.1 ?_
        exact g_iret r6_step_155 rfl ⟨rfl, ⟨zrt (by unfold zstR; subst h19; rw [if_pos ci, if_pos (by decide), nI_clamp (by omega)]; simp [zsN]), rfl, rfl, rfl⟩⟩
      · refine g_al0 r6_step_156 ?_
        refine g_gfr r6_step_157 xx_0 rfl rr_0_2 ?_
        refine g_il1 r6_step_160 ?_
        refine g_eV1 r6_step_161 ok4_threadOf pl6_step pl4_threadOf xx_4 (Nat.le_of_ble_eq_true rfl) (ev4_threadOf W hP.1.2.1 hk) ?_
        exact g_iret r6_step_164 rfl ⟨rfl, ⟨zrt (by unfold zstR; subst h19; rw [if_pos ci, if_pos (by decide), nI_clamp (by omega)]; simp [zsN]), rfl, rfl, rfl⟩⟩
      · refine g_al0 r6_step_165 ?_
        refine g_gfr r6_step_166 xx_0 rfl rr_0_2 ?_
        refine g_il1 r6_step_169 ?_
        refine g_al0 r6_step_170 ?_
        refine g_gfr r6_step_171 xx_0 rfl rr_0_2 ?_
        refine g_eV0 r6_step_174 ok4_allSteps pl6_step pl4_allSteps xx_4 (Nat.le_of_ble_eq_true rfl) (ev4_allSteps W hP.1.2.1) ?_
        refine g_al0 r6_step_177 ?_
        refine g_eV0 r6_step_178 ok6_finalTrue pl6_step pl6_finalTrue xx_0 (Nat.le_of_ble_eq_true rfl) (ev6_finalTrue hw W hP) ?_
        refine g_al0 r6_step_181 ?_
        refine g_eV0 r6_step_182 ok6_finalFalse pl6_step pl6_finalFalse xx_0 (Nat.le_of_ble_eq_true rfl) (ev6_finalFalse hw W hP) ?_
        refine g_eV4 r6_step_185 ok4_isDull pl6_step pl4_isDull xx_4 (Nat.le_of_ble_eq_true rfl) (ev4_isDull W hP.1.2.1 (by omega) (fun s => zfin W s)) ?_
        refine g_ifeq r6_step_188 (fun h188 => ?_) (fun h188 => ?_)
        · refine g_k r6_step_195 ?_
          exact g_iret r6_step_196 rfl ⟨rfl, ⟨zrt (by unfold zstR; subst h19; rw [if_pos ci, if_pos (by decide), nI_clamp (by omega)]; simp [zsN]; exact (zcd_all W hk).mp h188), rfl, rfl, rfl⟩⟩
        · refine g_k r6_step_191 ?_
          refine g_goto r6_step_192 ?_
          exact g_iret r6_step_196 rfl ⟨rfl, ⟨zrt (by unfold zstR; subst h19; rw [if_pos ci, if_pos (by decide), nI_clamp (by omega)]; simp [zsN]; exact mt (zcd_all W hk).mpr h188), rfl, rfl, rfl⟩⟩
      · refine g_al0 r6_step_197 ?_
        refine g_gfr r6_step_198 xx_0 rfl rr_0_2 ?_
        refine g_gfr r6_step_201 xx_4 rfl rr_4_2 ?_
        refine g_il1 r6_step_204 ?_
        refine g_ialdN r6_step_205 xx_7 (by omega) (by decide) ?_
        refine g_eqv (y := J 67 k) (hP.1.2.1.2.1 k hk).1.2.2.1 ?_
        exact g_iret r6_step_206 rfl ⟨rfl, ⟨zrt (by unfold zstR; subst h19; rw [if_pos ci, if_pos (by decide), nI_clamp (by omega)]; simp [zsN]), rfl, rfl, rfl⟩⟩
      · refine g_k r6_step_207 ?_
        exact g_iret r6_step_209 rfl ⟨rfl, ⟨zrt (by unfold zstR; rw [if_pos ci, if_neg (fun q => by have h2 := h19; simp at h2; exact absurd (zrg8 q) (by simp [h2]))]), rfl, rfl, rfl⟩⟩
    · refine g_k r6_step_15 ?_
      exact g_iret r6_step_17 rfl ⟨rfl, ⟨zrt (by unfold zstR; rw [if_neg (fun q => h12 ((zlt_ix (by omega)).mpr (zidx (by omega) (by rw [← W.t]; exact q))).2)]), rfl, rfl, rfl⟩⟩
theorem ev6_story {w v0 e1 e2 : Nat} {h : Int64} {J I : zMI} (hw : zW w) (W : zWF J) {N : Nat} (hP : zRep w I J N) {x : Int32} : zEr m6_story (zRR w v0 e1 e2) h I [.ref 0, .int x] (some (.int (zsyR J x))) (zRR w v0 e1 e2) h I := by
  refine zEp_of [.ref 0, .int x] pl6_story (by decide +kernel) (fun _ _ => rfl) (fun _ _ => Nat.le_of_ble_eq_true rfl) ?_
  refine g_il1 r6_story_0 ?_
  refine g_iflt r6_story_1 (fun h1 => ?_) (fun h1 => ?_)
  · refine g_k r6_story_10 ?_
    exact g_iret r6_story_12 rfl ⟨rfl, ⟨zrt (by unfold zsyR; rw [if_neg (fun q => q.1 h1)]), rfl, rfl, rfl⟩⟩
  · refine g_il1 r6_story_4 ?_
    refine g_k r6_story_5 ?_
    refine g_icleL r6_story_7 (fun h7 => ?_) (fun h7 => ?_)
    · refine g_al0 r6_story_13 ?_
      refine g_gfz r6_story_14 xx_0 rfl ?_
      refine g_eqv (y := zb (0 < J 54 5)) hP.2.1.1 ?_
      refine g_ifneB r6_story_17 (fun h17 => ?_) (fun h17 => ?_)
      · refine g_il1 r6_story_23 ?_
        refine g_sw r6_story_24 ⟨fun h24 => ?_, fun h24 => ?_, fun h24 => ?_, fun h24 => ?_, fun h24 => ?_, fun h24 => ?_, trivial⟩ (fun h24 => ?_)
        · refine g_al0 r6_story_64 ?_
          refine g_gfr r6_story_65 xx_0 rfl rr_0_2 ?_
          refine g_al0 r6_story_68 ?_
          refine g_gfr r6_story_69 xx_0 rfl rr_0_2 ?_
          refine g_gfi r6_story_72 xx_4 rfl ?_
          refine g_eqv (y := nI (jt J)) (hP.1.2.1.1.1.trans W.t) ?_
          refine g_eV1 r6_story_75 ok4_threadsBefore pl6_story pl4_threadsBefore xx_4 (Nat.le_of_ble_eq_true rfl) (ev4_threadsBefore W hP.1.2.1 (Nat.le_refl _)) ?_
          exact g_iret r6_story_78 rfl ⟨rfl, ⟨zrt (by unfold zsyR; subst h24; rw [if_pos ⟨h1, h7⟩, if_pos h17]; simp [zsyN]), rfl, rfl, rfl⟩⟩
        · refine g_al0 r6_story_79 ?_
          refine g_gfr r6_story_80 xx_0 rfl rr_0_2 ?_
          refine g_al0 r6_story_83 ?_
          refine g_eV0 r6_story_84 ok6_finalTrue pl6_story pl6_finalTrue xx_0 (Nat.le_of_ble_eq_true rfl) (ev6_finalTrue hw W hP) ?_
          refine g_al0 r6_story_87 ?_
          refine g_eV0 r6_story_88 ok6_finalFalse pl6_story pl6_finalFalse xx_0 (Nat.le_of_ble_eq_true rfl) (ev6_finalFalse hw W hP) ?_
          refine g_eV2 r6_story_91 ok4_dullSteps pl6_story pl4_dullSteps xx_4 (Nat.le_of_ble_eq_true rfl) (ev4_dullSteps W hP.1.2.1 (fun s => zfin W s)) ?_
          exact g_iret r6_story_94 rfl ⟨rfl, ⟨zrt (by unfold zsyR; subst h24; rw [if_pos ⟨h1, h7⟩, if_pos h17]; simp [zsyN]), rfl, rfl, rfl⟩⟩
        · refine g_al0 r6_story_95 ?_
          refine g_gfr r6_story_96 xx_0 rfl rr_0_2 ?_
          refine g_al0 r6_story_99 ?_
          refine g_eV0 r6_story_100 ok6_finalTrue pl6_story pl6_finalTrue xx_0 (Nat.le_of_ble_eq_true rfl) (ev6_finalTrue hw W hP) ?_
          refine g_al0 r6_story_103 ?_
          refine g_eV0 r6_story_104 ok6_finalFalse pl6_story pl6_finalFalse xx_0 (Nat.le_of_ble_eq_true rfl) (ev6_finalFalse hw W hP) ?_
          refine g_eV2 r6_story_107 ok4_minimalSteps pl6_story pl4_minimalSteps xx_4 (Nat.le_of_ble_eq_true rfl) (ev4_minimalSteps W hP.1.2.1 (fun s => zfin W s)) ?_
          show zGo m6_story 110 _ [.int (zcut J (jt J) (zal J))] _ _ _ _ _
          obtain ⟨n, hn, en⟩ := zcut_nn W (jt J)
          rw [en]
          refine g_eS1 r6_story_110 okj6_bitCount_0f7a4 pl6_story plj6_bitCount_0f7a4 (Nat.le_of_ble_eq_true rfl) (evj6_bitCount_0f7a4 hn) ?_
          rw [← en]
          exact g_iret r6_story_113 rfl ⟨rfl, ⟨zrt (by unfold zsyR; subst h24; rw [if_pos ⟨h1, h7⟩, if_pos h17]; simp [zsyN]), rfl, rfl, rfl⟩⟩
        · refine g_al0 r6_story_114 ?_
          refine g_gfr r6_story_115 xx_0 rfl rr_0_2 ?_
          refine g_al0 r6_story_118 ?_
          refine g_eV0 r6_story_119 ok6_finalTrue pl6_story pl6_finalTrue xx_0 (Nat.le_of_ble_eq_true rfl) (ev6_finalTrue hw W hP) ?_
          refine g_al0 r6_story_122 ?_
          refine g_eV0 r6_story_123 ok6_finalFalse pl6_story pl6_finalFalse xx_0 (Nat.le_of_ble_eq_true rfl) (ev6_finalFalse hw W hP) ?_
          refine g_eV2 r6_story_126 ok4_minimalSteps pl6_story pl4_minimalSteps xx_4 (Nat.le_of_ble_eq_true rfl) (ev4_minimalSteps W hP.1.2.1 (fun s => zfin W s)) ?_
          exact g_iret r6_story_129 rfl ⟨rfl, ⟨zrt (by unfold zsyR; subst h24; rw [if_pos ⟨h1, h7⟩, if_pos h17]; simp [zsyN]), rfl, rfl, rfl⟩⟩
        · refine g_al0 r6_story_130 ?_
          refine g_gfr r6_story_131 xx_0 rfl rr_0_6 ?_
          refine g_al0 r6_story_134 ?_
          refine g_gfr r6_story_135 xx_0 rfl rr_0_2 ?_
          refine g_gfi r6_story_138 xx_4 rfl ?_
          refine g_eqv (y := J 54 11) (hP.1.2.1.1.2.2.1) ?_
          refine g_eV1 r6_story_141 ok5_satisfiedBy pl6_story pl5_satisfiedBy (xw hw) (Nat.le_of_ble_eq_true rfl) (ev5_satisfiedBy hw W hP.1.1) ?_
          exact g_iret r6_story_144 rfl ⟨rfl, ⟨zrt (by unfold zsyR; subst h24; rw [if_pos ⟨h1, h7⟩, if_pos h17]; simp [zsyN]), rfl, rfl, rfl⟩⟩
        · refine g_al0 r6_story_145 ?_
          refine g_gfr r6_story_146 xx_0 rfl rr_0_2 ?_
          refine g_eV0 r6_story_149 ok4_allLinks pl6_story pl4_allLinks xx_4 (Nat.le_of_ble_eq_true rfl) (ev4_allLinks W hP.1.2.1) ?_
          exact g_iret r6_story_152 rfl ⟨rfl, ⟨zrt (by unfold zsyR; subst h24; rw [if_pos ⟨h1, h7⟩, if_pos h17]; simp [zsyN]), rfl, rfl, rfl⟩⟩
        · refine g_al0 r6_story_153 ?_
          refine g_gfr r6_story_154 xx_0 rfl rr_0_2 ?_
          refine g_eV0 r6_story_157 ok4_widestLink pl6_story pl4_widestLink xx_4 (Nat.le_of_ble_eq_true rfl) (ev4_widestLink W hP.1.2.1) ?_
          exact g_iret r6_story_160 rfl ⟨rfl, ⟨zrt (by unfold zsyR; rw [if_pos ⟨h1, h7⟩, if_pos h17]; have h2 := h24; simp at h2; simp [zsyN, h2]), rfl, rfl, rfl⟩⟩
      · refine g_k r6_story_20 ?_
        exact g_iret r6_story_22 rfl ⟨rfl, ⟨zrt (by unfold zsyR; rw [if_pos ⟨h1, h7⟩, if_neg h17]), rfl, rfl, rfl⟩⟩
    · refine g_k r6_story_10 ?_
      exact g_iret r6_story_12 rfl ⟨rfl, ⟨zrt (by unfold zsyR; rw [if_neg (fun q => q.2 h7)]), rfl, rfl, rfl⟩⟩
