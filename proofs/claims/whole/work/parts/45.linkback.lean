theorem lp4_linkBack {w v0 e1 e2 : Nat} {h : Int64} {I0 : zMI} {k : Nat} (hk : k < 30) (hT : z8 (I0 12 k)) (hF : z8 (I0 13 k)) : ∀ r, r ≤ k → ∀ oT oF L D M, zLI (I0 12 k) (I0 13 k) (I0 14) (I0 15) (I0 10) k r oT oF L D → M 9 = upd (I0 9) k L → M 10 = upd (I0 10) k D → (∀ c, ¬ c = 9 → ¬ c = 10 → M c = I0 c) → zGo m4_linkBack 33 [.ref 4, .int (nI k), .int oT, .int oF, .int (nI r - 1)] [] zX (zRR w v0 e1 e2) h M (fun v X1 R1 h1 I1 => X1 = zX ∧ (fun v R1 h1 I1 => v = none ∧ R1 = (zRR w v0 e1 e2) ∧ h1 = h ∧ ∃ oT oF L D, zLI (I0 12 k) (I0 13 k) (I0 14) (I0 15) (I0 10) k 0 oT oF L D ∧ I1 9 = upd (I0 9) k L ∧ I1 10 = upd (I0 10) k D ∧ ∀ c, ¬ c = 9 → ¬ c = 10 → I1 c = I0 c) v R1 h1 I1) := by
  intro r
  induction r with
  | zero =>
    intro hr oT oF L D M hL h9 h10 ho
    refine g_il4 r4_linkBack_33 ?_
    refine g_iflt r4_linkBack_35 (fun h35 => ?_) (fun hc => absurd hc (by decide +kernel))
    exact g_vret r4_linkBack_126 rfl ⟨rfl, ⟨rfl, rfl, rfl, oT, oF, L, D, hL, h9, h10, ho⟩⟩
  | succ r ih =>
    intro hr oT oF L D M hL h9 h10 ho
    rw [nI_pred]
    refine g_il4 r4_linkBack_33 ?_
    refine g_iflt r4_linkBack_35 (fun hc => absurd hc (nI_pos (by omega))) (fun _ => ?_)
    refine g_il2 r4_linkBack_38 ?_
    refine g_al0 r4_linkBack_39 ?_
    refine g_gfr r4_linkBack_40 xx_4 rfl rr_4_9 ?_
    refine g_il4 r4_linkBack_43 ?_
    refine g_ialdN r4_linkBack_45 xx_14 (by omega) (by decide) ?_
    refine g_eqv (y := I0 14 r) (by simp [zs_ap, ho 14 (by decide) (by decide)]) ?_
    refine g_iand r4_linkBack_46 ?_
    refine g_ifne r4_linkBack_47 (fun h47 => ?_) (fun h47 => ?_)
    · refine g_al0 r4_linkBack_62 ?_
      refine g_gfr r4_linkBack_63 xx_4 rfl rr_4_4 ?_
      refine g_il1 r4_linkBack_66 ?_
      refine g_dup2 r4_linkBack_67 rfl rfl ?_
      refine g_ialdN r4_linkBack_68 xx_9 (by omega) (by decide) ?_
      refine g_eqv (y := L) (by rw [h9]; simp [upd_ap]) ?_
      refine g_k r4_linkBack_69 ?_
      refine g_il4 r4_linkBack_70 ?_
      refine g_ishl r4_linkBack_72 ?_
      refine g_ior r4_linkBack_73 ?_
      refine g_iastN r4_linkBack_74 xx_9 (by omega) (by decide) ?_
      refine g_al0 r4_linkBack_75 ?_
      refine g_gfr r4_linkBack_76 xx_4 rfl rr_4_5 ?_
      refine g_il1 r4_linkBack_79 ?_
      refine g_dup2 r4_linkBack_80 rfl rfl ?_
      refine g_ialdN r4_linkBack_81 xx_10 (by omega) (by decide) ?_
      refine g_eqv (y := D) (by simp [zs_ap, h10, upd_ap]) ?_
      refine g_k r4_linkBack_82 ?_
      refine g_il4 r4_linkBack_83 ?_
      refine g_ishl r4_linkBack_85 ?_
      refine g_al0 r4_linkBack_86 ?_
      refine g_gfr r4_linkBack_87 xx_4 rfl rr_4_5 ?_
      refine g_il4 r4_linkBack_90 ?_
      refine g_ialdN r4_linkBack_92 xx_10 (by omega) (by decide) ?_
      refine g_eqv (y := I0 10 r) (by simp [zs_ap, h10, upd_ap, show ¬ r = k by omega]) ?_
      refine g_ior r4_linkBack_93 ?_
      refine g_ior r4_linkBack_94 ?_
      refine g_iastN r4_linkBack_95 xx_10 (by omega) (by decide) ?_
      refine g_il2 r4_linkBack_96 ?_
      refine g_al0 r4_linkBack_97 ?_
      refine g_gfr r4_linkBack_98 xx_4 rfl rr_4_9 ?_
      refine g_il4 r4_linkBack_101 ?_
      refine g_ialdN r4_linkBack_103 xx_14 (by omega) (by decide) ?_
      refine g_eqv (y := I0 14 r) (by simp [zs_ap, ho 14 (by decide) (by decide)]) ?_
      refine g_k r4_linkBack_104 ?_
      refine g_ixor r4_linkBack_105 ?_
      refine g_iand r4_linkBack_106 ?_
      refine g_is2 r4_linkBack_107 rfl ?_
      refine g_il3 r4_linkBack_108 ?_
      refine g_al0 r4_linkBack_109 ?_
      refine g_gfr r4_linkBack_110 xx_4 rfl rr_4_10 ?_
      refine g_il4 r4_linkBack_113 ?_
      refine g_ialdN r4_linkBack_115 xx_15 (by omega) (by decide) ?_
      refine g_eqv (y := I0 15 r) (by simp [zs_ap, ho 15 (by decide) (by decide)]) ?_
      refine g_k r4_linkBack_116 ?_
      refine g_ixor r4_linkBack_117 ?_
      refine g_iand r4_linkBack_118 ?_
      refine g_is3 r4_linkBack_119 rfl ?_
      refine g_ii4 r4_linkBack_120 rfl ?_
      refine g_goto r4_linkBack_123 ?_
      rw [zm1]
      refine ih (by omega) _ _ _ _ _ (zLI_yes (by omega) (by omega) hL ((zLI_c hT hF (by omega) hL).mp (Or.inl h47))) ?_ ?_ (fun c c1 c2 => by simp [zs_ap, c1, c2, ho c c1 c2])
      · simp [zs_ap, h9, upd_upd]
      · simp [zs_ap, h10, upd_upd]
    · refine g_il3 r4_linkBack_50 ?_
      refine g_al0 r4_linkBack_51 ?_
      refine g_gfr r4_linkBack_52 xx_4 rfl rr_4_10 ?_
      refine g_il4 r4_linkBack_55 ?_
      refine g_ialdN r4_linkBack_57 xx_15 (by omega) (by decide) ?_
      refine g_eqv (y := I0 15 r) (by simp [zs_ap, ho 15 (by decide) (by decide)]) ?_
      refine g_iand r4_linkBack_58 ?_
      refine g_ifeq r4_linkBack_59 (fun h59 => ?_) (fun h59 => ?_)
      · refine g_ii4 r4_linkBack_120 rfl ?_
        refine g_goto r4_linkBack_123 ?_
        have h47 : oT &&& I0 14 r = 0 := (by first | exact h47 | exact Classical.not_not.mp h47)
        rw [zm1]
        exact ih (by omega) _ _ _ _ _ (zLI_no (by omega) hL (fun q => ((zLI_c hT hF (by omega) hL).mpr q).elim (fun c => c h47) (fun c => c h59)) h47 h59) h9 h10 ho
      · refine g_al0 r4_linkBack_62 ?_
        refine g_gfr r4_linkBack_63 xx_4 rfl rr_4_4 ?_
        refine g_il1 r4_linkBack_66 ?_
        refine g_dup2 r4_linkBack_67 rfl rfl ?_
        refine g_ialdN r4_linkBack_68 xx_9 (by omega) (by decide) ?_
        refine g_eqv (y := L) (by rw [h9]; simp [upd_ap]) ?_
        refine g_k r4_linkBack_69 ?_
        refine g_il4 r4_linkBack_70 ?_
        refine g_ishl r4_linkBack_72 ?_
        refine g_ior r4_linkBack_73 ?_
        refine g_iastN r4_linkBack_74 xx_9 (by omega) (by decide) ?_
        refine g_al0 r4_linkBack_75 ?_
        refine g_gfr r4_linkBack_76 xx_4 rfl rr_4_5 ?_
        refine g_il1 r4_linkBack_79 ?_
        refine g_dup2 r4_linkBack_80 rfl rfl ?_
        refine g_ialdN r4_linkBack_81 xx_10 (by omega) (by decide) ?_
        refine g_eqv (y := D) (by simp [zs_ap, h10, upd_ap]) ?_
        refine g_k r4_linkBack_82 ?_
        refine g_il4 r4_linkBack_83 ?_
        refine g_ishl r4_linkBack_85 ?_
        refine g_al0 r4_linkBack_86 ?_
        refine g_gfr r4_linkBack_87 xx_4 rfl rr_4_5 ?_
        refine g_il4 r4_linkBack_90 ?_
        refine g_ialdN r4_linkBack_92 xx_10 (by omega) (by decide) ?_
        refine g_eqv (y := I0 10 r) (by simp [zs_ap, h10, upd_ap, show ¬ r = k by omega]) ?_
        refine g_ior r4_linkBack_93 ?_
        refine g_ior r4_linkBack_94 ?_
        refine g_iastN r4_linkBack_95 xx_10 (by omega) (by decide) ?_
        refine g_il2 r4_linkBack_96 ?_
        refine g_al0 r4_linkBack_97 ?_
        refine g_gfr r4_linkBack_98 xx_4 rfl rr_4_9 ?_
        refine g_il4 r4_linkBack_101 ?_
        refine g_ialdN r4_linkBack_103 xx_14 (by omega) (by decide) ?_
        refine g_eqv (y := I0 14 r) (by simp [zs_ap, ho 14 (by decide) (by decide)]) ?_
        refine g_k r4_linkBack_104 ?_
        refine g_ixor r4_linkBack_105 ?_
        refine g_iand r4_linkBack_106 ?_
        refine g_is2 r4_linkBack_107 rfl ?_
        refine g_il3 r4_linkBack_108 ?_
        refine g_al0 r4_linkBack_109 ?_
        refine g_gfr r4_linkBack_110 xx_4 rfl rr_4_10 ?_
        refine g_il4 r4_linkBack_113 ?_
        refine g_ialdN r4_linkBack_115 xx_15 (by omega) (by decide) ?_
        refine g_eqv (y := I0 15 r) (by simp [zs_ap, ho 15 (by decide) (by decide)]) ?_
        refine g_k r4_linkBack_116 ?_
        refine g_ixor r4_linkBack_117 ?_
        refine g_iand r4_linkBack_118 ?_
        refine g_is3 r4_linkBack_119 rfl ?_
        refine g_ii4 r4_linkBack_120 rfl ?_
        refine g_goto r4_linkBack_123 ?_
        rw [zm1]
        refine ih (by omega) _ _ _ _ _ (zLI_yes (by omega) (by omega) hL ((zLI_c hT hF (by omega) hL).mp (Or.inr h59))) ?_ ?_ (fun c c1 c2 => by simp [zs_ap, c1, c2, ho c c1 c2])
        · simp [zs_ap, h9, upd_upd]
        · simp [zs_ap, h10, upd_upd]
theorem ev4_linkBack {w v0 e1 e2 : Nat} {h : Int64} {I : zMI} {k : Nat} (hk : k < 30) (hT : z8 (I 12 k)) (hF : z8 (I 13 k)) : zEp m4_linkBack (zRR w v0 e1 e2) h I [.ref 4, .int (nI k)] (fun v R1 h1 I1 => v = none ∧ R1 = (zRR w v0 e1 e2) ∧ h1 = h ∧ ∃ oT oF L D, zLI (I 12 k) (I 13 k) (I 14) (I 15) (I 10) k 0 oT oF L D ∧ I1 9 = upd (I 9) k L ∧ I1 10 = upd (I 10) k D ∧ ∀ c, ¬ c = 9 → ¬ c = 10 → I1 c = I c) := by
  refine zEp_of [.ref 4, .int (nI k), .null, .null, .null] pl4_linkBack (by decide +kernel) (fun _ _ => rfl) (fun _ _ => Nat.le_of_ble_eq_true rfl) ?_
  refine g_al0 r4_linkBack_0 ?_
  refine g_gfr r4_linkBack_1 xx_4 rfl rr_4_7 ?_
  refine g_il1 r4_linkBack_4 ?_
  refine g_ialdN r4_linkBack_5 xx_12 (by omega) (by decide) ?_
  refine g_is2 r4_linkBack_6 rfl ?_
  refine g_al0 r4_linkBack_7 ?_
  refine g_gfr r4_linkBack_8 xx_4 rfl rr_4_8 ?_
  refine g_il1 r4_linkBack_11 ?_
  refine g_ialdN r4_linkBack_12 xx_13 (by omega) (by decide) ?_
  refine g_is3 r4_linkBack_13 rfl ?_
  refine g_al0 r4_linkBack_14 ?_
  refine g_gfr r4_linkBack_15 xx_4 rfl rr_4_4 ?_
  refine g_il1 r4_linkBack_18 ?_
  refine g_k r4_linkBack_19 ?_
  refine g_iastN r4_linkBack_20 xx_9 (by omega) (by decide) ?_
  refine g_al0 r4_linkBack_21 ?_
  refine g_gfr r4_linkBack_22 xx_4 rfl rr_4_5 ?_
  refine g_il1 r4_linkBack_25 ?_
  refine g_k r4_linkBack_26 ?_
  refine g_iastN r4_linkBack_27 xx_10 (by omega) (by decide) ?_
  refine g_il1 r4_linkBack_28 ?_
  refine g_k r4_linkBack_29 ?_
  refine g_isub r4_linkBack_30 ?_
  refine g_is4 r4_linkBack_31 rfl ?_
  refine lp4_linkBack hk hT hF k (Nat.le_refl k) _ _ 0 0 _ ⟨fun f hf => ?_, fun f hf => ?_, fun e he => ?_, fun i hi => ?_⟩ (by simp [zs_ap]) (by simp [zs_ap]) (fun c c1 c2 => by simp [zs_ap, c1, c2])
  · exact ⟨fun q => ⟨q, fun j a b => by omega⟩, fun q => q.1⟩
  · exact ⟨fun q => ⟨q, fun j a b => by omega⟩, fun q => q.1⟩
  · rw [zBt_0]; exact ⟨fun q => absurd q (by decide), fun q => by omega⟩
  · rw [zBt_0]; exact ⟨fun q => absurd q (by decide), fun ⟨e, _, q, _⟩ => absurd q (by rw [zBt_0]; decide)⟩
