theorem zRs_px {I I1 J J' : zMI} (hp : zPx J J' (jt J)) (hj : jt J' = jt J) (h6 : ∀ k, k < jt J → J' 66 k = J 66 k ∧ J' 67 k = J 67 k) (hI : ∀ c, 4 < c → c ≤ 16 → I1 c = I c) (h4 : I1 4 12 = J' 54 13 ∧ I1 4 13 = J' 54 12 ∧ I1 4 14 = J' 54 11 ∧ I1 4 15 = J' 54 4) (h : zRs I J) : zRs I1 J' := by
  have hT : zTt (zLn J') (jt J') (zth J) := by rw [hj]; exact zTt_c (fun k e hk => (zLn_px hp hk e).symm) ⟨h.2.2.2.1, h.2.2.2.2⟩
  have th := zth_tt hT
  refine ⟨h4, fun k hk => ?_, fun a ha => ?_, th.2⟩
  · have hk2 : k < jt J := by rw [← hj]; exact hk
    rw [← th.1 k hk, zlk_px hp hk2, zhg_px hp k hk2, (hp.1 k hk2).1, (hp.1 k hk2).2.1, (hp.1 k hk2).2.2, hp.2.1, hp.2.2, (h6 k hk2).1, (h6 k hk2).2]
    simp only [hI 5 (by decide) (by decide), hI 6 (by decide) (by decide), hI 7 (by decide) (by decide), hI 8 (by decide) (by decide), hI 9 (by decide) (by decide), hI 10 (by decide) (by decide), hI 12 (by decide) (by decide), hI 13 (by decide) (by decide), hI 14 (by decide) (by decide), hI 15 (by decide) (by decide), hI 16 (by decide) (by decide)]
    exact h.2.1 k hk2
  · rw [hj, hI 11 (by decide) (by decide), ztd_px hp _ _ (Nat.le_refl _)]; exact h.2.2.1 a ha
/-- the same world -/
def zSj (J J' : zMI) : Prop := J' 54 0 = J 54 0 ∧ J' 54 5 = J 54 5 ∧ ∀ c, 54 < c → c < 63 → J' c = J c
theorem zWl_sj {w : Nat} {I J J' : zMI} (h : zSj J J') (q : zWl w I J) : zWl w I J' := by
  have e1 : jn J' = jn J := by unfold jn; rw [h.1]
  have e2 : jm J' = jm J := by unfold jm; rw [h.2.1]
  unfold zWl
  rw [e1, e2, h.1, h.2.1]
  simp only [h.2.2 55 (by decide) (by decide), h.2.2 56 (by decide) (by decide), h.2.2 57 (by decide) (by decide), h.2.2 58 (by decide) (by decide), h.2.2 59 (by decide) (by decide), h.2.2 60 (by decide) (by decide), h.2.2 61 (by decide) (by decide), h.2.2 62 (by decide) (by decide)]
  exact q
theorem zWl_c {w : Nat} (hw : zW w) {I I1 J : zMI} (hf : ∀ c, 33 < c → c < 54 → I1 c = I c) (h : zWl w I J) : zWl w I1 J := by
  have e : ∀ c, c ≤ 9 → I1 (w + c) = I (w + c) := fun c hc => hf (w + c) (by rcases hw with rfl | rfl <;> omega) (by rcases hw with rfl | rfl <;> omega)
  unfold zWl
  simp only [show I1 w = I w from e 0 (by omega), e 1 (by omega), e 2 (by omega), e 3 (by omega), e 4 (by omega), e 5 (by omega), e 6 (by omega), e 7 (by omega), e 8 (by omega), e 9 (by omega)]
  exact h
theorem zNm_c {I I1 : zMI} {N : Nat} (hf : ∀ c, 16 < c → c < 31 → I1 c = I c) (h : zNm I N) : zNm I1 N := by
  obtain ⟨c1, c2, a1, a2, a3, a4⟩ := h
  exact ⟨c1, c2, a1, a2, zSn_o (hf 17 (by decide) (by decide)) (hf (17 + 6) (by decide) (by decide)) a3, zSn_o (hf 24 (by decide) (by decide)) (hf (24 + 6) (by decide) (by decide)) a4⟩
def zFc (I I1 : zMI) : Prop := ∀ c, 53 < c → I1 c = I c
theorem zFc.refl (I : zMI) : zFc I I := fun _ _ => rfl
theorem zFc.trans {I I1 I2 : zMI} (h : zFc I I1) (h' : zFc I1 I2) : zFc I I2 := fun c hc => (h' c hc).trans (h c hc)
theorem zFs.c {I I1 : zMI} (h : zFs I I1) : zFc I I1 := fun c hc => h c (by omega)
theorem zRep_le {w : Nat} {I J : zMI} {N M : Nat} (h : zRep w I J N) (hle : N ≤ M) : zRep w I J M := ⟨⟨h.1.1, h.1.2.1, zNm_le h.1.2.2 hle⟩, h.2⟩
theorem zRep_ad {w : Nat} (hw : zW w) {I I1 J : zMI} {N : Nat} {x g k : Int32} (h : zRep w I J N) (hr : zRs I1 (zadN J (jt J) x g k)) (hc : ∀ c, c < 4 ∨ 16 < c → I1 c = I c) : zRep w I1 (zadN J (jt J) x g k) N := by
  refine ⟨⟨zWl_sj ⟨zadN_f _ _ _ _ _ (by decide) (by decide), zadN_f _ _ _ _ _ (by decide) (by decide), fun c c1 c2 => zadN_o _ _ _ _ _ (by omega) (by omega)⟩ (zWl_c hw (fun c c1 c2 => hc c (by omega)) h.1.1), hr, zNm_c (fun c c1 c2 => hc c (by omega)) h.1.2.2⟩, ?_, ?_⟩
  · rw [hc 0 (by omega), zadN_f _ _ _ _ _ (by decide) (by decide), zadN_f _ _ _ _ _ (by decide) (by decide), zadN_f _ _ _ _ _ (by decide) (by decide), zadN_f _ _ _ _ _ (by decide) (by decide)]; exact h.2.1
  · have e : jL (zadN J (jt J) x g k) = jL J := by unfold jL; rw [zadN_f _ _ _ _ _ (by decide) (by decide)]
    rw [hc 1 (by omega), hc 2 (by omega), e, zadN_f _ _ _ _ _ (by decide) (by decide), zadN_o _ _ _ _ _ (by decide) (by decide)]; exact h.2.2
theorem ztk_f (J : zMI) {j : Nat} (h : ¬ j = 12) (h' : ¬ j = 22) : ztk J 54 j = J 54 j := by simp [ztk, zs_ap, upd_ap, h, h']
theorem ztk_o (J : zMI) {c : Nat} (h : ¬ c = 54) : ztk J c = J c := zs_o _ _ h
theorem zRep_tk {w : Nat} (hw : zW w) {I I1 J : zMI} {N : Nat} (h : zRep w I J N) (h4 : I1 4 12 = I 4 12 ∧ I1 4 13 = J 54 12 + 1 ∧ I1 4 14 = I 4 14 ∧ I1 4 15 = I 4 15) (h0 : I1 0 8 = I 0 8 ∧ I1 0 9 = I 0 9 ∧ I1 0 10 = J 54 22 + 1 ∧ I1 0 11 = I 0 11) (hc : ∀ c, ¬ c = 0 → ¬ c = 4 → I1 c = I c) : zRep w I1 (ztk J) N := by
  have ej : jt (ztk J) = jt J := by unfold jt; rw [ztk_f J (by decide) (by decide)]
  have eL : jL (ztk J) = jL J := by unfold jL; rw [ztk_f J (by decide) (by decide)]
  have e12 : ztk J 54 12 = J 54 12 + 1 := by simp [ztk, zs_ap, upd_ap]
  have e22 : ztk J 54 22 = J 54 22 + 1 := by simp [ztk, zs_ap, upd_ap]
  have r := h.1.2.1.1
  refine ⟨⟨zWl_sj ⟨ztk_f J (by decide) (by decide), ztk_f J (by decide) (by decide), fun c c1 _ => ztk_o J (by omega)⟩ (zWl_c hw (fun c c1 c2 => hc c (by omega) (by omega)) h.1.1), zRs_px (I := I) ⟨fun k _ => ⟨by rw [ztk_o J (by decide)], by rw [ztk_o J (by decide)], by rw [ztk_o J (by decide)]⟩, ztk_o J (by decide), ztk_o J (by decide)⟩ ej (fun k _ => ⟨by rw [ztk_o J (by decide)], by rw [ztk_o J (by decide)]⟩) (fun c c1 c2 => hc c (by omega) (by omega)) ?_ h.1.2.1, zNm_c (fun c c1 c2 => hc c (by omega) (by omega)) h.1.2.2⟩, ?_, ?_⟩
  · rw [h4.1, h4.2.1, h4.2.2.1, h4.2.2.2, e12, ztk_f J (by decide) (by decide), ztk_f J (by decide) (by decide), ztk_f J (by decide) (by decide)]
    exact ⟨r.1, rfl, r.2.2.1, r.2.2.2⟩
  · rw [h0.1, h0.2.1, h0.2.2.1, h0.2.2.2, e22, ztk_f J (by decide) (by decide), ztk_f J (by decide) (by decide), ztk_f J (by decide) (by decide)]
    exact ⟨h.2.1.1, h.2.1.2.1, rfl, h.2.1.2.2.2⟩
  · rw [hc 1 (by decide) (by decide), hc 2 (by decide) (by decide), eL, ztk_f J (by decide) (by decide), ztk_o J (by decide)]; exact h.2.2
theorem tl6_passTurn {w v0 e1 e2 : Nat} {h : Int64} {I J : zMI} (hw : zW w) {N : Nat} (hP : zRep w I J N) {y1 y2 : Value} : zGo m6_passTurn 57 [.ref 0, y1, y2] [] zX (zRR w v0 e1 e2) h I (fun v X1 R1 h1 I1 => X1 = zX ∧ (fun v R1 h1 I1 => v = none ∧ R1 = (zRR w v0 e1 e2) ∧ h1 = h ∧ zRep w I1 (ztk J) (N) ∧ zFc I I1) v R1 h1 I1) := by
  refine g_al0 r6_passTurn_57 ?_
  refine g_gfr r6_passTurn_58 xx_0 rfl rr_0_2 ?_
  refine g_dup r6_passTurn_61 rfl ?_
  refine g_gfi r6_passTurn_62 xx_4 rfl ?_
  refine g_eqv (y := J 54 12) (hP.1.2.1.1.2.1) ?_
  refine g_k r6_passTurn_65 ?_
  refine g_iadd r6_passTurn_66 ?_
  refine g_pfi r6_passTurn_67 xx_4 rfl rfl ?_
  refine g_al0 r6_passTurn_70 ?_
  refine g_dup r6_passTurn_71 rfl ?_
  refine g_gfi r6_passTurn_72 xx_0 rfl ?_
  refine g_eqv (y := J 54 22) (by rw [zs_o _ _ (by decide)]; exact hP.2.1.2.2.1) ?_
  refine g_k r6_passTurn_75 ?_
  refine g_iadd r6_passTurn_76 ?_
  refine g_pfi r6_passTurn_77 xx_0 rfl rfl ?_
  exact g_vret r6_passTurn_80 rfl ⟨rfl, ⟨rfl, rfl, rfl, zRep_tk hw hP (by simp [zs_ap, upd_ap]) (by simp [zs_ap, upd_ap]) (fun c c1 c2 => by rw [zs_o _ _ c1, zs_o _ _ c2]), fun c hc => by rw [zs_o _ _ (by omega), zs_o _ _ (by omega)]⟩⟩
theorem ev6_passTurn {w v0 e1 e2 : Nat} {h : Int64} {J I : zMI} (hw : zW w) (W : zWF J) {N : Nat} (hP : zRep w I J N) (hN : N + 260 < 2 ^ 31) (hn : 0 < jn J) (ht : jt J < 30) : zEp m6_passTurn (zRR w v0 e1 e2) h I [.ref 0] (fun v R1 h1 I1 => v = none ∧ R1 = (zRR w v0 e1 e2) ∧ h1 = h ∧ zRep w I1 (zpN J) (N + 260) ∧ zFc I I1) := by
  have m10 := W.m10
  have n4 := W.n4
  refine zEp_of [.ref 0, .null, .null] pl6_passTurn (by decide +kernel) (fun _ _ => rfl) (fun _ _ => Nat.le_of_ble_eq_true rfl) ?_
  refine g_al0 r6_passTurn_0 ?_
  refine g_gfr r6_passTurn_1 xx_0 rfl rr_0_6 ?_
  refine g_gfi r6_passTurn_4 (xw hw) rfl ?_
  refine g_eqv (y := nI (jn J)) (hP.1.1.1.1.trans W.n) ?_
  refine g_is1 r6_passTurn_7 rfl ?_
  refine g_il1 r6_passTurn_8 ?_
  refine g_k r6_passTurn_9 ?_
  refine g_eqv (y := nI 1) rfl ?_
  refine g_icgeN r6_passTurn_10 (by omega) (by omega) (fun h10 => ?_) (fun hc => absurd hc (by omega))
  refine g_al0 r6_passTurn_14 ?_
  refine g_al0 r6_passTurn_15 ?_
  refine g_gfr r6_passTurn_16 xx_0 rfl rr_0_2 ?_
  refine g_gfi r6_passTurn_19 xx_4 rfl ?_
  refine g_eqv (y := nI (ju J)) (hP.1.2.1.1.2.1.trans W.u) ?_
  refine g_il1 r6_passTurn_22 ?_
  refine g_irem r6_passTurn_23 (nI_ne0 hn (by omega)) ?_
  refine g_eqv (y := nI (ju J % jn J)) (pk_rem W.u31 hn (by omega)) ?_
  refine g_al0 r6_passTurn_24 ?_
  refine g_gfr r6_passTurn_25 xx_0 rfl rr_0_2 ?_
  refine g_gfi r6_passTurn_28 xx_4 rfl ?_
  refine g_eqv (y := nI (ju J)) (hP.1.2.1.1.2.1.trans W.u) ?_
  refine g_il1 r6_passTurn_31 ?_
  refine g_idiv r6_passTurn_32 (nI_ne0 hn (by omega)) ?_
  refine g_eqv (y := nI (ju J / jn J)) (pk_div W.u31 hn (by omega)) ?_
  refine g_cV2 r6_passTurn_33 ok6_choice pl6_passTurn pl6_choice xx_0 (Nat.le_of_ble_eq_true rfl) (ev6_choice hw W hP.1 hN (Nat.mod_lt _ hn) (Nat.lt_of_le_of_lt (Nat.div_le_self _ _) W.u31)) (fun v' R' h' I1 ⟨q1, q2, q3, hf1, hn1⟩ => ?_)
  subst q1; subst q2; subst q3
  have hP1 := zRep_fs hw hf1 hn1 hP
  refine g_is2 r6_passTurn_36 rfl ?_
  refine g_al0 r6_passTurn_37 ?_
  refine g_il2 r6_passTurn_38 ?_
  refine g_eV1 r6_passTurn_39 ok6_isAct pl6_passTurn pl6_isAct xx_0 (Nat.le_of_ble_eq_true rfl) (ev6_isAct hw W hP1.1) ?_
  refine g_ifeqB r6_passTurn_42 (fun h42 => ?_) (fun h42 => ?_)
  · have ez : (zwd J (ju J % jn J) (ju J / jn J)) = -1 := (zwd_act W _ _).elim id (fun ⟨a, ha, ea⟩ => absurd ((zlt_ix (by omega)).mpr ⟨a, ha, ea⟩) h42)
    refine g_post (tl6_passTurn hw hP1) (fun v X1 R1 h1 I3 ⟨g1, g2, g3, g4, g5, g6⟩ => ⟨g1, g2, g3, g4, ?_, (hf1.c).trans g6⟩)
    unfold zpN zpN1; rw [ez, if_pos rfl]; exact g5
  · obtain ⟨a, ha, ea⟩ := (zlt_ix (by omega)).mp h42
    rw [ea]
    refine g_al0 r6_passTurn_45 ?_
    refine g_gfr r6_passTurn_46 xx_0 rfl rr_0_2 ?_
    refine g_al0 r6_passTurn_49 ?_
    refine g_gfr r6_passTurn_50 xx_0 rfl rr_0_6 ?_
    refine g_il2 r6_passTurn_53 ?_
    refine g_cV2 r6_passTurn_54 ok4_addAct pl6_passTurn pl4_addAct xx_4 (Nat.le_of_ble_eq_true rfl) (ev4_addAct hw W hP1.1.2.1 hP1.1.1 ht ha) (fun v' R' h' I2 ⟨q1, q2, q3, hr2, hc2⟩ => ?_)
    subst q1; subst q2; subst q3
    refine g_post (tl6_passTurn hw (zRep_ad hw hP1 hr2 hc2)) (fun v X1 R1 h1 I3 ⟨g1, g2, g3, g4, g5, g6⟩ => ⟨g1, g2, g3, g4, ?_, (hf1.c).trans (zFc.trans (fun c hc => hc2 c (by omega)) g6)⟩)
    unfold zpN zpN1; rw [ea, if_neg (znI_m1 (by omega)), nI_clamp (by omega)]; exact g5
theorem lp6_go {w v0 e1 e2 : Nat} {h : Int64} (hw : zW w) {t0 : Int32} {n : Nat} (hn20 : n ≤ 20) : ∀ d i, n - i < d → i ≤ n → ∀ J I N, zRep w I J N → zWF J → 0 < jn J → ju J + (n - i) < 2 ^ 31 → N + 260 * (n - i) < 2 ^ 31 → zGo m6_go 34 [.ref 0, .int (nI n), .int t0, .int (nI i)] [] zX (zRR w v0 e1 e2) h I (fun v X1 R1 h1 I1 => X1 = zX ∧ (fun v R1 h1 I1 => v = some (.int (zgN J (n - i) 54 13 - t0)) ∧ R1 = (zRR w v0 e1 e2) ∧ h1 = h ∧ zRep w I1 (zgN J (n - i)) (N + 260 * (n - i)) ∧ zFc I I1) v R1 h1 I1) := by
  intro d
  induction d with
  | zero => intro i hd0; exact absurd hd0 (Nat.not_lt_zero _)
  | succ d ih =>
    intro i hd0 hd1 J I N hP W hn hu hN
    refine g_il3 r6_go_34 ?_
    refine g_il1 r6_go_35 ?_
    refine g_icgeN r6_go_36 (by omega) (by omega) (fun h36 => ?_) (fun h36 => ?_)
    · have e : zgN J (n - i) = J := by rw [show n - i = 0 by omega]; rfl
      refine g_al0 r6_go_61 ?_
      refine g_gfr r6_go_62 xx_0 rfl rr_0_2 ?_
      refine g_gfi r6_go_65 xx_4 rfl ?_
      refine g_eqv (y := J 54 13) (hP.1.2.1.1.1) ?_
      refine g_il2 r6_go_68 ?_
      refine g_isub r6_go_69 ?_
      exact g_iret r6_go_70 rfl ⟨rfl, ⟨zrt (by rw [e]), rfl, rfl, by rw [e]; exact zRep_le hP (by omega), zFc.refl I⟩⟩
    · have ht30 := W.t30
      refine g_al0 r6_go_39 ?_
      refine g_gfr r6_go_40 xx_0 rfl rr_0_2 ?_
      refine g_gfi r6_go_43 xx_4 rfl ?_
      refine g_eqv (y := nI (jt J)) (hP.1.2.1.1.1.trans W.t) ?_
      refine g_k r6_go_46 ?_
      refine g_eqv (y := nI 30) rfl ?_
      refine g_icgeN r6_go_48 (by omega) (by omega) (fun h48 => ?_) (fun h48 => ?_)
      · obtain ⟨j, hj⟩ : ∃ j, n - i = j + 1 := ⟨n - i - 1, by omega⟩
        have e : zgN J (n - i) = J := by rw [hj]; simp only [zgN]; rw [if_neg (by omega)]
        refine g_al0 r6_go_61 ?_
        refine g_gfr r6_go_62 xx_0 rfl rr_0_2 ?_
        refine g_gfi r6_go_65 xx_4 rfl ?_
        refine g_eqv (y := J 54 13) (hP.1.2.1.1.1) ?_
        refine g_il2 r6_go_68 ?_
        refine g_isub r6_go_69 ?_
        exact g_iret r6_go_70 rfl ⟨rfl, ⟨zrt (by rw [e]), rfl, rfl, by rw [e]; exact zRep_le hP (by omega), zFc.refl I⟩⟩
      · refine g_al0 r6_go_51 ?_
        refine g_cV0 r6_go_52 ok6_passTurn pl6_go pl6_passTurn xx_0 (Nat.le_of_ble_eq_true rfl) (ev6_passTurn hw W hP (by omega) hn (by omega)) (fun v' R' h' I1 ⟨q1, q2, q3, hP1, hc1⟩ => ?_)
        subst q1; subst q2; subst q3
        refine g_iiN3 r6_go_55 rfl ?_
        refine g_goto r6_go_58 ?_
        have hp := zpN_nu W (by omega) (by omega)
        obtain ⟨j, hj⟩ : ∃ j, n - i = j + 1 := ⟨n - i - 1, by omega⟩
        refine g_post (ih (i + 1) (by omega) (by omega) (zpN J) I1 (N + 260) hP1 (zWF_p W (by omega) (by omega)) (by rw [hp.1]; exact hn) (by rw [hp.2]; omega) (by omega)) (fun v X1 R1 h1 I3 ⟨g1, g2, g3, g4, g5, g6⟩ => ⟨g1, ?_, g3, g4, ?_, hc1.trans g6⟩)
        · rw [g2, hj]; simp only [zgN, if_pos (show jt J < 30 by omega)]; rw [show n - (i + 1) = j by omega]
        · rw [hj]; simp only [zgN, if_pos (show jt J < 30 by omega)]; rw [show n - (i + 1) = j by omega] at g5; exact zRep_le g5 (by omega)
theorem zlt1 {x : Int32} (h1 : ¬ x < 1) (h2 : ¬ 20 < x) : ∃ n : Nat, 1 ≤ n ∧ n ≤ 20 ∧ x = nI n := by
  have h0 : ¬ x < 0 := fun q => h1 (Int32.lt_trans q (by decide))
  obtain ⟨n, hn, rfl⟩ := nI_of2 (M := 20) (n := 20) rfl h0 (Int32.not_lt.mp h2)
  refine ⟨n, ?_, hn, rfl⟩
  have := mt (nI_ltI (a := n) (b := 1) (by omega) (by omega)).mpr h1
  omega
theorem ev6_go {w v0 e1 e2 : Nat} {h : Int64} {J I : zMI} (hw : zW w) (W : zWF J) {N : Nat} (hP : zRep w I J N) (hN : N + 5200 < 2 ^ 31) (hu : ju J + 20 < 2 ^ 31) {x : Int32} : zEp m6_go (zRR w v0 e1 e2) h I [.ref 0, .int x] (fun v R1 h1 I1 => v = some (.int (zgoR J x)) ∧ R1 = (zRR w v0 e1 e2) ∧ h1 = h ∧ zRep w I1 (zgoN J x) (N + 5200) ∧ zFc I I1) := by
  refine zEp_of [.ref 0, .int x, .null, .null] pl6_go (by decide +kernel) (fun _ _ => rfl) (fun _ _ => Nat.le_of_ble_eq_true rfl) ?_
  refine g_il1 r6_go_0 ?_
  refine g_k r6_go_1 ?_
  refine g_iclt r6_go_2 (fun h2 => ?_) (fun h2 => ?_)
  · refine g_k r6_go_11 ?_
    exact g_iret r6_go_13 rfl ⟨rfl, ⟨zrt (by unfold zgoR; rw [if_neg (fun q => q.1 h2)]), rfl, rfl, by unfold zgoN; rw [if_neg (fun q => q.1 h2)]; exact zRep_le hP (by omega), zFc.refl I⟩⟩
  · refine g_il1 r6_go_5 ?_
    refine g_k r6_go_6 ?_
    refine g_icleL r6_go_8 (fun h8 => ?_) (fun h8 => ?_)
    · refine g_al0 r6_go_14 ?_
      refine g_gfz r6_go_15 xx_0 rfl ?_
      refine g_eqv (y := zb (0 < J 54 5)) hP.2.1.1 ?_
      refine g_ifneB r6_go_18 (fun h18 => ?_) (fun h18 => ?_)
      · have jm0 := (zWd W).mp h18
        have hn : 0 < jn J := Nat.pos_of_ne_zero (fun q => by have := W.mn.mpr q; omega)
        obtain ⟨n, hn1, hn20, rfl⟩ := zlt1 h2 h8
        refine g_al0 r6_go_24 ?_
        refine g_gfr r6_go_25 xx_0 rfl rr_0_2 ?_
        refine g_gfi r6_go_28 xx_4 rfl ?_
        refine g_eqv (y := J 54 13) (hP.1.2.1.1.1) ?_
        refine g_is2 r6_go_31 rfl ?_
        refine g_k r6_go_32 ?_
        refine g_is3 r6_go_33 rfl ?_
        refine g_post (lp6_go hw hn20 (n + 1) 0 (by omega) (by omega) J I N hP W hn (by omega) (by omega)) (fun v X1 R1 h1 I3 ⟨g1, g2, g3, g4, g5, g6⟩ => ⟨g1, ?_, g3, g4, ?_, g6⟩)
        · rw [g2]; unfold zgoR; rw [if_pos ⟨h2, h8⟩, if_pos h18, nI_clamp (by omega), Nat.sub_zero]
        · unfold zgoN; rw [if_pos ⟨h2, h8⟩, if_pos h18, nI_clamp (by omega)]; rw [Nat.sub_zero] at g5; exact zRep_le g5 (by omega)
      · refine g_k r6_go_21 ?_
        exact g_iret r6_go_23 rfl ⟨rfl, ⟨zrt (by unfold zgoR; rw [if_pos ⟨h2, h8⟩, if_neg h18]), rfl, rfl, by unfold zgoN; rw [if_pos ⟨h2, h8⟩, if_neg h18]; exact zRep_le hP (by omega), zFc.refl I⟩⟩
    · refine g_k r6_go_11 ?_
      exact g_iret r6_go_13 rfl ⟨rfl, ⟨zrt (by unfold zgoR; rw [if_neg (fun q => q.2 h8)]), rfl, rfl, by unfold zgoN; rw [if_neg (fun q => q.2 h8)]; exact zRep_le hP (by omega), zFc.refl I⟩⟩
theorem zlt8 {x : Int32} : ¬ x < 8 ↔ 7 < x := by
  rw [Int32.lt_iff_toInt_lt, Int32.lt_iff_toInt_lt, show (8 : Int32).toInt = 8 from by decide, show (7 : Int32).toInt = 7 from by decide]; omega
theorem zjt30 {J : zMI} (W : zWF J) : J 54 13 = 30 ↔ jt J = 30 := by
  have := W.t30
  rw [W.t]; exact nI_eq (b := 30) (by omega) (by omega)
theorem ev6_fate {w v0 e1 e2 : Nat} {h : Int64} {J I : zMI} (hw : zW w) (W : zWF J) {N : Nat} (hP : zRep w I J N) {x : Int32} : zEp m6_fate (zRR w v0 e1 e2) h I [.ref 0, .int x] (fun v R1 h1 I1 => v = some (.int (zfaR J x)) ∧ R1 = (zRR w v0 e1 e2) ∧ h1 = h ∧ zRep w I1 (zfaN J (jt J) x) (N) ∧ zFc I I1) := by
  have t30 := W.t30
  refine zEp_of [.ref 0, .int x] pl6_fate (by decide +kernel) (fun _ _ => rfl) (fun _ _ => Nat.le_of_ble_eq_true rfl) ?_
  refine g_al0 r6_fate_0 ?_
  refine g_gfz r6_fate_1 xx_0 rfl ?_
  refine g_eqv (y := zb (0 < J 54 5)) hP.2.1.1 ?_
  refine g_ifneB r6_fate_4 (fun h4 => ?_) (fun h4 => ?_)
  · refine g_il1 r6_fate_10 ?_
    refine g_iflt r6_fate_11 (fun h11 => ?_) (fun h11 => ?_)
    · refine g_k r6_fate_20 ?_
      exact g_iret r6_fate_22 rfl ⟨rfl, ⟨zrt (by unfold zfaR; rw [if_pos h4, if_neg (fun q => q.1 h11)]), rfl, rfl, by unfold zfaN; rw [if_pos h4, if_neg (fun q => q.1 h11)]; exact hP, zFc.refl I⟩⟩
    · refine g_il1 r6_fate_14 ?_
      refine g_k r6_fate_15 ?_
      refine g_iclt r6_fate_17 (fun h17 => ?_) (fun h17 => ?_)
      · obtain ⟨f, hf, rfl⟩ : ∃ f, f < 8 ∧ x = nI f := (zlt_ix (n := 8) (by omega)).mp ⟨h11, h17⟩
        have cx : ¬ nI f < 0 ∧ ¬ 7 < nI f := ⟨h11, fun q => zlt8.mpr q h17⟩
        refine g_al0 r6_fate_23 ?_
        refine g_gfr r6_fate_24 xx_0 rfl rr_0_2 ?_
        refine g_gfi r6_fate_27 xx_4 rfl ?_
        refine g_eqv (y := nI (jt J)) (hP.1.2.1.1.1.trans W.t) ?_
        refine g_k r6_fate_30 ?_
        refine g_eqv (y := nI 30) rfl ?_
        refine g_icltN r6_fate_32 (by omega) (by omega) (fun h32 => ?_) (fun h32 => ?_)
        · refine g_al0 r6_fate_38 ?_
          refine g_gfr r6_fate_39 xx_0 rfl rr_0_2 ?_
          refine g_il1 r6_fate_42 ?_
          refine g_cV1 r6_fate_43 ok4_addFate pl6_fate pl4_addFate xx_4 (Nat.le_of_ble_eq_true rfl) (ev4_addFate W hP.1.2.1 h32 hf) (fun v' R' h' I1 ⟨q1, q2, q3, hr, hc⟩ => ?_)
          subst q1; subst q2; subst q3
          refine g_al0 r6_fate_46 ?_
          refine g_gfr r6_fate_47 xx_0 rfl rr_0_2 ?_
          refine g_gfi r6_fate_50 xx_4 rfl ?_
          refine g_eqv (y := J 54 13 + 1) (hr.1.1.trans (zadN_t _ _ _ _ _)) ?_
          exact g_iret r6_fate_53 rfl ⟨rfl, ⟨zrt (by unfold zfaR; rw [if_pos h4, if_pos cx, if_neg (fun q => by have := (zjt30 W).mp q; omega)]), rfl, rfl, by unfold zfaN; rw [if_pos h4, if_pos cx, if_neg (fun q => by have := (zjt30 W).mp q; omega)]; exact zRep_ad hw hP hr hc, fun c hh => hc c (by omega)⟩⟩
        · refine g_k r6_fate_35 ?_
          exact g_iret r6_fate_37 rfl ⟨rfl, ⟨zrt (by unfold zfaR; rw [if_pos h4, if_pos cx, if_pos ((zjt30 W).mpr (by omega))]), rfl, rfl, by unfold zfaN; rw [if_pos h4, if_pos cx, if_pos ((zjt30 W).mpr (by omega))]; exact hP, zFc.refl I⟩⟩
      · refine g_k r6_fate_20 ?_
        exact g_iret r6_fate_22 rfl ⟨rfl, ⟨zrt (by unfold zfaR; rw [if_pos h4, if_neg (fun q => q.2 (zlt8.mp h17))]), rfl, rfl, by unfold zfaN; rw [if_pos h4, if_neg (fun q => q.2 (zlt8.mp h17))]; exact hP, zFc.refl I⟩⟩
  · refine g_k r6_fate_7 ?_
    exact g_iret r6_fate_9 rfl ⟨rfl, ⟨zrt (by unfold zfaR; rw [if_neg h4]), rfl, rfl, by unfold zfaN; rw [if_neg h4]; exact hP, zFc.refl I⟩⟩
theorem ev6_act {w v0 e1 e2 : Nat} {h : Int64} {J I : zMI} (hw : zW w) (W : zWF J) {N : Nat} (hP : zRep w I J N) {x : Int32} : zEp m6_act (zRR w v0 e1 e2) h I [.ref 0, .int x] (fun v R1 h1 I1 => v = some (.int (zacR J x)) ∧ R1 = (zRR w v0 e1 e2) ∧ h1 = h ∧ zRep w I1 (zacN J (jt J) x) (N) ∧ zFc I I1) := by
  have t30 := W.t30
  have m10 := W.m10
  refine zEp_of [.ref 0, .int x] pl6_act (by decide +kernel) (fun _ _ => rfl) (fun _ _ => Nat.le_of_ble_eq_true rfl) ?_
  refine g_al0 r6_act_0 ?_
  refine g_gfz r6_act_1 xx_0 rfl ?_
  refine g_eqv (y := zb (0 < J 54 5)) hP.2.1.1 ?_
  refine g_ifneB r6_act_4 (fun h4 => ?_) (fun h4 => ?_)
  · refine g_al0 r6_act_10 ?_
    refine g_il1 r6_act_11 ?_
    refine g_eV1 r6_act_12 ok6_isAct pl6_act pl6_isAct xx_0 (Nat.le_of_ble_eq_true rfl) (ev6_isAct hw W hP.1) ?_
    refine g_ifneB r6_act_15 (fun h15 => ?_) (fun h15 => ?_)
    · obtain ⟨a, ha, rfl⟩ := (zlt_ix (by omega)).mp h15
      have ci : ¬ nI a < 0 ∧ ¬ (J 54 5 - 1) < nI a := by rw [W.m]; exact zidx' (by omega) ha
      have ca : (nI a).toNatClampNeg = a := nI_clamp (by omega)
      refine g_al0 r6_act_21 ?_
      refine g_il1 r6_act_22 ?_
      refine g_eV1 r6_act_23 ok6_canBeDone pl6_act pl6_canBeDone xx_0 (Nat.le_of_ble_eq_true rfl) (ev6_canBeDone hw W hP.1 ha) ?_
      refine g_ifneB r6_act_26 (fun h26 => ?_) (fun h26 => ?_)
      · refine g_al0 r6_act_32 ?_
        refine g_gfr r6_act_33 xx_0 rfl rr_0_2 ?_
        refine g_gfi r6_act_36 xx_4 rfl ?_
        refine g_eqv (y := nI (jt J)) (hP.1.2.1.1.1.trans W.t) ?_
        refine g_k r6_act_39 ?_
        refine g_eqv (y := nI 30) rfl ?_
        refine g_icltN r6_act_41 (by omega) (by omega) (fun h41 => ?_) (fun h41 => ?_)
        · refine g_al0 r6_act_47 ?_
          refine g_gfr r6_act_48 xx_0 rfl rr_0_2 ?_
          refine g_al0 r6_act_51 ?_
          refine g_gfr r6_act_52 xx_0 rfl rr_0_6 ?_
          refine g_il1 r6_act_55 ?_
          refine g_cV2 r6_act_56 ok4_addAct pl6_act pl4_addAct xx_4 (Nat.le_of_ble_eq_true rfl) (ev4_addAct hw W hP.1.2.1 hP.1.1 h41 ha) (fun v' R' h' I1 ⟨q1, q2, q3, hr, hc⟩ => ?_)
          subst q1; subst q2; subst q3
          refine g_al0 r6_act_59 ?_
          refine g_gfr r6_act_60 xx_0 rfl rr_0_2 ?_
          refine g_gfi r6_act_63 xx_4 rfl ?_
          refine g_eqv (y := J 54 13 + 1) (hr.1.1.trans (zadN_t _ _ _ _ _)) ?_
          exact g_iret r6_act_66 rfl ⟨rfl, ⟨zrt (by unfold zacR; rw [if_pos h4, if_pos ci, ca, if_pos h26, if_neg (fun q => by have := (zjt30 W).mp q; omega)]), rfl, rfl, by unfold zacN; rw [if_pos h4, if_pos ci, ca, if_pos h26, if_neg (fun q => by have := (zjt30 W).mp q; omega)]; exact zRep_ad hw hP hr hc, fun c hh => hc c (by omega)⟩⟩
        · refine g_k r6_act_44 ?_
          exact g_iret r6_act_46 rfl ⟨rfl, ⟨zrt (by unfold zacR; rw [if_pos h4, if_pos ci, ca, if_pos h26, if_pos ((zjt30 W).mpr (by omega))]), rfl, rfl, by unfold zacN; rw [if_pos h4, if_pos ci, ca, if_pos h26, if_pos ((zjt30 W).mpr (by omega))]; exact hP, zFc.refl I⟩⟩
      · refine g_k r6_act_29 ?_
        exact g_iret r6_act_31 rfl ⟨rfl, ⟨zrt (by unfold zacR; rw [if_pos h4, if_pos ci, ca, if_neg h26]), rfl, rfl, by unfold zacN; rw [if_pos h4, if_pos ci, ca, if_neg h26]; exact hP, zFc.refl I⟩⟩
    · refine g_k r6_act_18 ?_
      exact g_iret r6_act_20 rfl ⟨rfl, ⟨zrt (by unfold zacR; rw [if_pos h4, if_neg (fun q => h15 ((zlt_ix (by omega)).mpr (zidx (by omega) (by rw [← W.m]; exact q))))]), rfl, rfl, by unfold zacN; rw [if_pos h4, if_neg (fun q => h15 ((zlt_ix (by omega)).mpr (zidx (by omega) (by rw [← W.m]; exact q))))]; exact hP, zFc.refl I⟩⟩
  · refine g_k r6_act_7 ?_
    exact g_iret r6_act_9 rfl ⟨rfl, ⟨zrt (by unfold zacR; rw [if_neg h4]), rfl, rfl, by unfold zacN; rw [if_neg h4]; exact hP, zFc.refl I⟩⟩
theorem zRep_un {w : Nat} (hw : zW w) {I I1 I2 J : zMI} {N s : Nat} (hts : jt J = s + 1) (h : zRep w I J N) (hr : zRs I1 (zunN J (jt J))) (hc : ∀ c, c < 4 ∨ 16 < c → I1 c = I c) (h0 : I2 0 8 = I 0 8 ∧ I2 0 9 = I 0 9 ∧ I2 0 10 = I 0 10 ∧ I2 0 11 = J 54 23 + 1) (h2 : ∀ c, ¬ c = 0 → I2 c = I1 c) : zRep w I2 (zunN J (jt J)) N := by
  have e23 : zunN J (jt J) 54 23 = J 54 23 + 1 := by rw [hts]; simp [zunN, zs_ap, upd_ap]
  have hx : ∀ c, ¬ c = 0 → (c < 4 ∨ 16 < c) → I2 c = I c := fun c a b => (h2 c a).trans (hc c b)
  refine ⟨⟨zWl_sj ⟨zun_54 hts (by decide) (by decide) (by decide), zun_54 hts (by decide) (by decide) (by decide), fun c c1 c2 => zun_o _ (by omega)⟩ (zWl_c hw (fun c c1 c2 => hx c (by omega) (by omega)) h.1.1), zRs_fs (fun k k1 k2 => h2 k (by omega)) hr, zNm_c (fun c c1 c2 => hx c (by omega) (by omega)) h.1.2.2⟩, ?_, ?_⟩
  · rw [h0.1, h0.2.1, h0.2.2.1, h0.2.2.2, e23, zun_54 hts (by decide) (by decide) (by decide), zun_54 hts (by decide) (by decide) (by decide), zun_54 hts (by decide) (by decide) (by decide)]
    exact ⟨h.2.1.1, h.2.1.2.1, h.2.1.2.2.1, rfl⟩
  · have e : jL (zunN J (jt J)) = jL J := by unfold jL; rw [zun_54 hts (by decide) (by decide) (by decide)]
    rw [hx 1 (by omega) (by omega), hx 2 (by omega) (by omega), e, zun_54 hts (by decide) (by decide) (by decide), zun_o _ (by decide)]; exact h.2.2
theorem ev6_undo {w v0 e1 e2 : Nat} {h : Int64} {J I : zMI} (hw : zW w) (W : zWF J) {N : Nat} (hP : zRep w I J N) : zEp m6_undo (zRR w v0 e1 e2) h I [.ref 0] (fun v R1 h1 I1 => v = some (.int (zunR J)) ∧ R1 = (zRR w v0 e1 e2) ∧ h1 = h ∧ zRep w I1 (zunN J (jt J)) (N) ∧ zFc I I1) := by
  have t30 := W.t30
  refine zEp_of [.ref 0] pl6_undo (by decide +kernel) (fun _ _ => rfl) (fun _ _ => Nat.le_of_ble_eq_true rfl) ?_
  refine g_al0 r6_undo_0 ?_
  refine g_gfr r6_undo_1 xx_0 rfl rr_0_2 ?_
  refine g_gfi r6_undo_4 xx_4 rfl ?_
  refine g_eqv (y := nI (jt J)) (hP.1.2.1.1.1.trans W.t) ?_
  refine g_k r6_undo_7 ?_
  refine g_eqv (y := nI 1) rfl ?_
  refine g_icgeN r6_undo_8 (by omega) (by omega) (fun h8 => ?_) (fun h8 => ?_)
  · obtain ⟨s, hts⟩ : ∃ s, jt J = s + 1 := ⟨jt J - 1, by omega⟩
    refine g_al0 r6_undo_14 ?_
    refine g_gfr r6_undo_15 xx_0 rfl rr_0_2 ?_
    refine g_cV0 r6_undo_18 ok4_removeLast pl6_undo pl4_removeLast xx_4 (Nat.le_of_ble_eq_true rfl) (ev4_removeLast W hP.1.2.1 hts) (fun v' R' h' I1 ⟨q1, q2, q3, hr, hc⟩ => ?_)
    subst q1; subst q2; subst q3
    refine g_al0 r6_undo_21 ?_
    refine g_dup r6_undo_22 rfl ?_
    refine g_gfi r6_undo_23 xx_0 rfl ?_
    refine g_eqv (y := J 54 23) (by rw [hc 0 (by omega)]; exact hP.2.1.2.2.2) ?_
    refine g_k r6_undo_26 ?_
    refine g_iadd r6_undo_27 ?_
    refine g_pfi r6_undo_28 xx_0 rfl rfl ?_
    refine g_al0 r6_undo_31 ?_
    refine g_gfr r6_undo_32 xx_0 rfl rr_0_2 ?_
    refine g_gfi r6_undo_35 xx_4 rfl ?_
    refine g_eqv (y := J 54 13 - 1) (by rw [zs_o _ _ (by decide), hr.1.1, zun_13 W hts, W.t, hts, nI_pred]) ?_
    exact g_iret r6_undo_38 rfl ⟨rfl, ⟨zrt (by unfold zunR; rw [if_neg (by rw [W.t]; exact nI_ne0 (by omega) (by omega))]), rfl, rfl, zRep_un hw hts hP hr hc (by rw [zs_eq, hc 0 (by omega)]; simp [upd_ap]) (fun c c1 => zs_o _ _ c1), fun c hh => by rw [zs_o _ _ (by omega), hc c (by omega)]⟩⟩
  · refine g_k r6_undo_11 ?_
    exact g_iret r6_undo_13 rfl ⟨rfl, ⟨zrt (by unfold zunR; rw [if_pos (by rw [W.t, show jt J = 0 by omega]; rfl)]), rfl, rfl, by unfold zunN; rw [if_pos (by omega)]; exact hP, zFc.refl I⟩⟩
