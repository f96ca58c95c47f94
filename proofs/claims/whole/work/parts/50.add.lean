theorem ztd_ad {J : zMI} {x g k : Int32} (y : Int32) : ztd (zadN J (jt J) x g k) y (jt J + 1) = ztd J y (jt J) + (if x = y then 1 else 0) := by
  simp only [ztd]
  rw [ztd_px (zPx_ad J x g k) y (jt J) (Nat.le_refl _), zadN_63]
  simp [upd_ap]
theorem ev4_addAct {w v0 e1 e2 : Nat} {h : Int64} {I J : zMI} (hw : zW w) (W : zWF J) (hR : zRs I J) (hWl : zWl w I J) (ht : jt J < 30) {a : Nat} (ha : a < jm J) : zEp m4_addAct (zRR w v0 e1 e2) h I [.ref 4, .ref w, .int (nI a)] (fun v R1 h1 I1 => v = none ∧ R1 = (zRR w v0 e1 e2) ∧ h1 = h ∧ zRs I1 (zadN J (jt J) (nI a) (J 61 a) (J 62 a)) ∧ ∀ c, c < 4 ∨ 16 < c → I1 c = I c) := by
  have hm10 := W.m10
  refine zEp_of [.ref 4, .ref w, .int (nI a)] pl4_addAct (by decide +kernel) (fun _ _ => rfl) (fun _ _ => Nat.le_of_ble_eq_true rfl) ?_
  refine g_al0 r4_addAct_0 ?_
  refine g_gfi r4_addAct_1 xx_4 rfl ?_
  refine g_eqv (y := nI (jt J)) (by simp [zs_ap, hR.1.1, W.t]) ?_
  refine g_k r4_addAct_4 ?_
  refine g_eqv (y := nI 30) rfl ?_
  refine g_icgeN r4_addAct_6 (by omega) (by omega) (fun hc => absurd hc (by omega)) (fun h6 => ?_)
  refine g_il2 r4_addAct_9 ?_
  refine g_iflt r4_addAct_10 (fun hc => absurd hc (nI_pos (by omega))) (fun _ => ?_)
  refine g_il2 r4_addAct_13 ?_
  refine g_k r4_addAct_14 ?_
  refine g_eqv (y := nI 10) rfl ?_
  refine g_icltN r4_addAct_16 (by omega) (by omega) (fun h16 => ?_) (fun hc => absurd hc (by omega))
  refine g_al0 r4_addAct_20 ?_
  refine g_gfr r4_addAct_21 xx_4 rfl rr_4_0 ?_
  refine g_al0 r4_addAct_24 ?_
  refine g_gfi r4_addAct_25 xx_4 rfl ?_
  refine g_eqv (y := nI (jt J)) (by simp [zs_ap, hR.1.1, W.t]) ?_
  refine g_il2 r4_addAct_28 ?_
  refine g_iastN r4_addAct_29 xx_5 (by omega) (by decide) ?_
  refine g_al0 r4_addAct_30 ?_
  refine g_gfr r4_addAct_31 xx_4 rfl rr_4_1 ?_
  refine g_al0 r4_addAct_34 ?_
  refine g_gfi r4_addAct_35 xx_4 rfl ?_
  refine g_eqv (y := nI (jt J)) (by simp [zs_ap, hR.1.1, W.t]) ?_
  refine g_k r4_addAct_38 ?_
  refine g_iastN r4_addAct_39 xx_6 (by omega) (by decide) ?_
  refine g_al0 r4_addAct_40 ?_
  refine g_gfr r4_addAct_41 xx_4 rfl rr_4_7 ?_
  refine g_al0 r4_addAct_44 ?_
  refine g_gfi r4_addAct_45 xx_4 rfl ?_
  refine g_eqv (y := nI (jt J)) (by simp [zs_ap, hR.1.1, W.t]) ?_
  refine g_al1 r4_addAct_48 ?_
  refine g_gfr r4_addAct_49 (xw hw) rfl (rw_5 hw) ?_
  refine g_il2 r4_addAct_52 ?_
  refine g_ialdN r4_addAct_53 (xwa_5 hw) (by omega) (by decide) ?_
  refine g_eqv (y := J 59 a) (by rcases hw with rfl | rfl <;> (simp only [zs_ap]; simpa using (hWl.2.2 a ha).2.1)) ?_
  refine g_iastN r4_addAct_54 xx_12 (by omega) (by decide) ?_
  refine g_al0 r4_addAct_55 ?_
  refine g_gfr r4_addAct_56 xx_4 rfl rr_4_8 ?_
  refine g_al0 r4_addAct_59 ?_
  refine g_gfi r4_addAct_60 xx_4 rfl ?_
  refine g_eqv (y := nI (jt J)) (by simp [zs_ap, hR.1.1, W.t]) ?_
  refine g_al1 r4_addAct_63 ?_
  refine g_gfr r4_addAct_64 (xw hw) rfl (rw_6 hw) ?_
  refine g_il2 r4_addAct_67 ?_
  refine g_ialdN r4_addAct_68 (xwa_6 hw) (by omega) (by decide) ?_
  refine g_eqv (y := J 60 a) (by rcases hw with rfl | rfl <;> (simp only [zs_ap]; simpa using (hWl.2.2 a ha).2.2.1)) ?_
  refine g_iastN r4_addAct_69 xx_13 (by omega) (by decide) ?_
  refine g_al0 r4_addAct_70 ?_
  refine g_gfr r4_addAct_71 xx_4 rfl rr_4_9 ?_
  refine g_al0 r4_addAct_74 ?_
  refine g_gfi r4_addAct_75 xx_4 rfl ?_
  refine g_eqv (y := nI (jt J)) (by simp [zs_ap, hR.1.1, W.t]) ?_
  refine g_al1 r4_addAct_78 ?_
  refine g_gfr r4_addAct_79 (xw hw) rfl (rw_7 hw) ?_
  refine g_il2 r4_addAct_82 ?_
  refine g_ialdN r4_addAct_83 (xwa_7 hw) (by omega) (by decide) ?_
  refine g_eqv (y := J 61 a) (by rcases hw with rfl | rfl <;> (simp only [zs_ap]; simpa using (hWl.2.2 a ha).2.2.2.1)) ?_
  refine g_iastN r4_addAct_84 xx_14 (by omega) (by decide) ?_
  refine g_al0 r4_addAct_85 ?_
  refine g_gfr r4_addAct_86 xx_4 rfl rr_4_10 ?_
  refine g_al0 r4_addAct_89 ?_
  refine g_gfi r4_addAct_90 xx_4 rfl ?_
  refine g_eqv (y := nI (jt J)) (by simp [zs_ap, hR.1.1, W.t]) ?_
  refine g_al1 r4_addAct_93 ?_
  refine g_gfr r4_addAct_94 (xw hw) rfl (rw_8 hw) ?_
  refine g_il2 r4_addAct_97 ?_
  refine g_ialdN r4_addAct_98 (xwa_8 hw) (by omega) (by decide) ?_
  refine g_eqv (y := J 62 a) (by rcases hw with rfl | rfl <;> (simp only [zs_ap]; simpa using (hWl.2.2 a ha).2.2.2.2)) ?_
  refine g_iastN r4_addAct_99 xx_15 (by omega) (by decide) ?_
  refine g_al0 r4_addAct_100 ?_
  refine g_gfr r4_addAct_101 xx_4 rfl rr_4_6 ?_
  refine g_il2 r4_addAct_104 ?_
  refine g_dup2 r4_addAct_105 rfl rfl ?_
  refine g_ialdN r4_addAct_106 xx_11 (by omega) (by decide) ?_
  refine g_k r4_addAct_107 ?_
  refine g_iadd r4_addAct_108 ?_
  refine g_iastN r4_addAct_109 xx_11 (by omega) (by decide) ?_
  have hn8 : z8 (znT (zadN J (jt J) (nI a) (J 61 a) (J 62 a)) (jt J)) ∧ z8 (znF (zadN J (jt J) (nI a) (J 61 a) (J 62 a)) (jt J)) := by
    unfold znT znF; rw [zadN_63]; simp only [upd_ap, if_true, if_neg (znI_m1 (show a < 2 ^ 31 by omega)), nI_clamp (show a < 2 ^ 31 by omega)]
    rw [zadN_o _ _ _ _ _ (show ¬ 59 = 54 by decide) (by decide), zadN_o _ _ _ _ _ (show ¬ 60 = 54 by decide) (by decide)]
    exact ⟨(W.A a ha).1.1, (W.A a ha).1.2.1⟩
  refine g_al0 r4_addAct_110 ?_
  refine g_cV0 r4_addAct_111 ok4_closeStep pl4_addAct pl4_closeStep xx_4 (Nat.le_of_ble_eq_true rfl) (ev4_closeStep W ht (Or.inr ⟨a, ha, rfl, rfl, rfl⟩) (W.A a ha).2.1 hn8 (by
    refine ⟨by simpa [zs_ap, W.t] using hR.1, fun k hk => ?_, ?_, fun b hb => ?_, hR.2.2.2.1, hR.2.2.2.2⟩
    · have q := zRs_of hR k hk
      have q2 := hR.2.1 k hk
      have ne : ¬ k = jt J := by omega
      unfold zRow at q ⊢
      simpa [zs_ap, upd_ap, ne] using (⟨q, ⟨q2.1.2.2.1, q2.1.2.2.2⟩, q2.2.1⟩ : _ ∧ _ ∧ _)
    · unfold zRow znT znF
      rw [zadN_63, zadN_64, zadN_65, zadN_o _ _ _ _ _ (show ¬ 59 = 54 by decide) (by decide), zadN_o _ _ _ _ _ (show ¬ 60 = 54 by decide) (by decide)]
      simp [zs_ap, upd_ap, znI_m1 (show a < 2 ^ 31 by omega), nI_clamp (show a < 2 ^ 31 by omega)]
    · rw [ztd_ad]
      have q := hR.2.2.1 b hb
      by_cases e : b = a
      · subst e; simp [zs_ap, upd_ap, q]
      · have e2 : ¬ nI a = nI b := fun c => e ((nI_eq (by omega) (by omega)).mp c).symm
        simp [zs_ap, upd_ap, e, e2, q])) (fun v' R' h' I1 ⟨q1, q2, q3, hr, hc⟩ => ?_)
  subst q1; subst q2; subst q3
  exact g_vret r4_addAct_114 rfl ⟨rfl, ⟨rfl, rfl, rfl, hr, fun c hc2 => by rw [hc c hc2]; simp [zs_ap, show ¬ c = 5 by omega, show ¬ c = 6 by omega, show ¬ c = 11 by omega, show ¬ c = 12 by omega, show ¬ c = 13 by omega, show ¬ c = 14 by omega, show ¬ c = 15 by omega]⟩⟩
