theorem zSm_o {q : Nat} {I I1 : zMI} {Q fr bY dp : Nat → Nat} {z c : Nat} (e : ∀ k, q ≤ k → k ≤ q + 6 → I1 k = I k) (h : zSm q I Q fr bY dp z c) : zSm q I1 Q fr bY dp z c := by
  unfold zSm
  rw [e q (by omega) (by omega), e (q + 1) (by omega) (by omega), e (q + 2) (by omega) (by omega), e (q + 3) (by omega) (by omega), e (q + 4) (by omega) (by omega), e (q + 6) (by omega) (by omega)]
  exact h
theorem zFnd_un {q : Nat} {I : zMI} {E : Nat → Nat → Prop} {nx : Nat → Nat → Nat} {G : Nat → Prop} {m s : Nat} (h : zFnd q I E nx G m s) : I q 2 = -1 ↔ ∀ k, ¬ zRk E nx G m k s := by
  rcases h with ⟨h1, h2⟩ | ⟨d, st, p, h1, h2, h3, h4, h5, h6⟩
  · exact ⟨fun _ => h2, fun _ => h1⟩
  · exact ⟨fun q => by rw [h5] at q; exact absurd q (znI_m1 (by omega)), fun q => absurd h2.1 (q d)⟩
theorem lp6_seekFoil {w v0 e1 e2 : Nat} {h : Int64} {J I0 : zMI} (hw : zW w) (W : zWF J) {N c1 c2 q r : Nat} (hN : N + 257 < 2 ^ 31) (hc1 : c1 ≤ N + 1) (hc2 : c2 ≤ N) (hr : r < jn J) (hWl : zWl w I0 J) : ∀ d hd Q fr bY dp z I, 256 - hd < d → hd ≤ z → zBf (zEa J (zao J q (jt J) (jm J))) (zNx J) (jm J) (js J) Q fr bY dp z hd 0 → zSm 17 I Q fr bY dp z c1 → zFs I0 I → I 17 2 = -1 → zSn 24 I (c2 + hd) → (∀ j, j < hd → ¬ (zUn J r (jt J) (jm J)) (Q j)) → zGo m6_seekFoil 61 [.ref 0, .int (nI q), .int (nI r), .int (zao J q (jt J) (jm J)), .int (zao J r (jt J) (jm J)), .int (I0 (w + 3) r), .int (I0 (w + 4) r), .int (nI hd)] [] zX (zRR w v0 e1 e2) h I (fun v X1 R1 h1 I1 => X1 = zX ∧ (fun v R1 h1 I1 => v = none ∧ R1 = (zRR w v0 e1 e2) ∧ h1 = h ∧ zSk I0 I1 J (zao J q (jt J) (jm J)) (zUn J r (jt J) (jm J)) (N + 257)) v R1 h1 I1) := by
  intro d
  induction d with
  | zero => intro hd Q fr bY dp z I hd0; exact absurd hd0 (Nat.not_lt_zero _)
  | succ d ih =>
    intro hd Q fr bY dp z I hd0 hd1 hB hS hF h2 hP hn
    have hzz := hB.1.2.1
    refine g_il7 r6_seekFoil_61 ?_
    refine g_k r6_seekFoil_63 ?_
    refine g_eqv (y := nI 256) rfl ?_
    refine g_icgeN r6_seekFoil_66 (by omega) (by omega) (fun h66 => ?_) (fun h66 => ?_)
    · exact g_vret r6_seekFoil_149 rfl ⟨rfl, rfl, rfl, rfl, Or.inl ⟨h2, zBf_no (by rw [show hd = z by omega] at hB; exact hB) (fun j hj => hn j (by omega))⟩, hF, c1, c2 + hd, by omega, by omega, hS.n, hP⟩
    · refine g_il7 r6_seekFoil_69 ?_
      refine g_al0 r6_seekFoil_71 ?_
      refine g_gfr r6_seekFoil_72 xx_0 rfl rr_0_3 ?_
      refine g_gfi r6_seekFoil_75 xx_17 rfl ?_
      refine g_eqv (y := nI z) hS.1 ?_
      refine g_icgeN r6_seekFoil_78 (by omega) (by omega) (fun h78 => ?_) (fun h78 => ?_)
      · exact g_vret r6_seekFoil_149 rfl ⟨rfl, rfl, rfl, rfl, Or.inl ⟨h2, zBf_no (by rw [show hd = z by omega] at hB; exact hB) (fun j hj => hn j (by omega))⟩, hF, c1, c2 + hd, by omega, by omega, hS.n, hP⟩
      · refine g_al0 r6_seekFoil_81 ?_
        refine g_gfr r6_seekFoil_82 xx_0 rfl rr_0_4 ?_
        refine g_al0 r6_seekFoil_85 ?_
        refine g_gfr r6_seekFoil_86 xx_0 rfl rr_0_6 ?_
        refine g_il4 r6_seekFoil_89 ?_
        refine g_al0 r6_seekFoil_91 ?_
        refine g_gfr r6_seekFoil_92 xx_0 rfl rr_0_3 ?_
        refine g_gfr r6_seekFoil_95 xx_17 rfl rr_17_0 ?_
        refine g_il7 r6_seekFoil_98 ?_
        refine g_ialdN r6_seekFoil_100 xx_18 (by omega) (by decide) ?_
        refine g_eqv (y := nI (Q hd)) (hS.2.1 hd h78).1 ?_
        refine g_il5 r6_seekFoil_101 ?_
        refine g_il6 r6_seekFoil_103 ?_
        refine g_cV5 r6_seekFoil_105 ok3_seek pl6_seekFoil pl3_seek xx_24 (Nat.le_of_ble_eq_true rfl) (ev3_seek (q := 24) (G := zwq J r) (Or.inr rfl) hw W (by omega) (zWl_fs hw hF hWl) (hB.2.1 hd h78) hP (fun t ht => zwh3 W hWl hr (nI t))) (fun v' R' h' I1 ⟨q1, q2, q3, hf1, hF1, hn1⟩ => ?_)
        subst q1; subst q2; subst q3
        have hS1 := zSm_o (fun k _ hk => hF1 k (by omega)) hS
        have hg := zFnd_un hf1
        have h21 : I1 17 2 = -1 := by rw [hF1 17 (by omega)]; exact h2
        refine g_al0 r6_seekFoil_108 ?_
        refine g_gfr r6_seekFoil_109 xx_0 rfl rr_0_4 ?_
        refine g_gfi r6_seekFoil_112 xx_24 rfl ?_
        refine g_k r6_seekFoil_115 ?_
        refine g_icne r6_seekFoil_116 (fun h116 => ?_) (fun h116 => ?_)
        · refine g_al0 r6_seekFoil_129 ?_
          refine g_gfr r6_seekFoil_130 xx_0 rfl rr_0_3 ?_
          refine g_al0 r6_seekFoil_133 ?_
          refine g_gfr r6_seekFoil_134 xx_0 rfl rr_0_6 ?_
          refine g_il3 r6_seekFoil_137 ?_
          refine g_il7 r6_seekFoil_138 ?_
          refine g_cV3 r6_seekFoil_140 ok3_spread pl6_seekFoil pl3_spread xx_17 (Nat.le_of_ble_eq_true rfl) (ev3_spread (q := 17) (Or.inl rfl) hw W (by omega) (zWl_fs hw (hF.trans (hF1.s (Or.inr rfl))) hWl) hB hS1 h78) (fun v' R' h' I2 ⟨q1, q2, q3, Q1, fr1, bY1, dp1, z1, hB1, hS2, hF2, h22, hz1, hK1⟩ => ?_)
          subst q1; subst q2; subst q3
          refine g_iiN7 r6_seekFoil_143 rfl ?_
          refine g_goto r6_seekFoil_146 ?_
          refine ih (hd + 1) Q1 fr1 bY1 dp1 z1 I2 (by omega) (by omega) hB1 hS2 ((hF.trans (hF1.s (Or.inr rfl))).trans (hF2.s (Or.inl rfl))) (h22.trans h21) (zSn_o (hF2 24 (by omega)) (hF2 30 (by omega)) hn1) (fun j hj => ?_)
          rw [hK1 j (by omega)]
          by_cases e : j = hd
          · rw [e]; exact fun q => h116 (hg.mpr q)
          · exact hn j (by omega)
        · refine g_al0 r6_seekFoil_119 ?_
          refine g_gfr r6_seekFoil_120 xx_0 rfl rr_0_3 ?_
          refine g_il7 r6_seekFoil_123 ?_
          refine g_cV1 r6_seekFoil_125 ok3_end pl6_seekFoil pl3_end xx_17 (Nat.le_of_ble_eq_true rfl) (ev3_end (q := 17) (Or.inl rfl) hB hS1 h78) (fun v' R' h' I2 ⟨q1, q2, q3, h22, hp2, hF2, hn2⟩ => ?_)
          subst q1; subst q2; subst q3
          exact g_vret r6_seekFoil_128 rfl ⟨rfl, ⟨rfl, rfl, rfl, zFnd_end hB h78 hn (hg.mp h116) h22 hp2, (hF.trans (hF1.s (Or.inr rfl))).trans (hF2.s (Or.inl rfl)), c1, c2 + hd + 1, by omega, by omega, hn2, zSn_o (hF2 24 (by omega)) (hF2 30 (by omega)) hn1⟩⟩
theorem ev6_seekFoil {w v0 e1 e2 : Nat} {h : Int64} {J I : zMI} (hw : zW w) (W : zWF J) {N : Nat} (hQ : zQr w I J N) (hN : N + 257 < 2 ^ 31) {q r : Nat} (hq : q < jn J) (hr : r < jn J) : zEp m6_seekFoil (zRR w v0 e1 e2) h I [.ref 0, .int (nI q), .int (nI r)] (fun v R1 h1 I1 => v = none ∧ R1 = (zRR w v0 e1 e2) ∧ h1 = h ∧ zSk I I1 J ((zao J q (jt J) (jm J))) ((zUn J r (jt J) (jm J))) (N + 257)) := by
  have hn4 := W.n4
  refine zEp_of [.ref 0, .int (nI q), .int (nI r), .null, .null, .null, .null, .null] pl6_seekFoil (by decide +kernel) (fun _ _ => rfl) (fun _ _ => Nat.le_of_ble_eq_true rfl) ?_
  refine g_al0 r6_seekFoil_0 ?_
  refine g_il1 r6_seekFoil_1 ?_
  refine g_eV1 r6_seekFoil_2 ok6_repertoire pl6_seekFoil pl6_repertoire xx_0 (Nat.le_of_ble_eq_true rfl) (ev6_repertoire hw W hQ hq) ?_
  refine g_is3 r6_seekFoil_5 rfl ?_
  refine g_al0 r6_seekFoil_6 ?_
  refine g_il2 r6_seekFoil_7 ?_
  refine g_eV1 r6_seekFoil_8 ok6_repertoire pl6_seekFoil pl6_repertoire xx_0 (Nat.le_of_ble_eq_true rfl) (ev6_repertoire hw W hQ hr) ?_
  refine g_is4 r6_seekFoil_11 rfl ?_
  refine g_al0 r6_seekFoil_13 ?_
  refine g_gfr r6_seekFoil_14 xx_0 rfl rr_0_3 ?_
  refine g_al0 r6_seekFoil_17 ?_
  refine g_gfr r6_seekFoil_18 xx_0 rfl rr_0_2 ?_
  refine g_gfi r6_seekFoil_21 xx_4 rfl ?_
  refine g_eqv (y := nI (js J)) (hQ.2.1.1.2.2.1.trans W.s) ?_
  obtain ⟨c1, c2, a1, a2, a3, a4⟩ := hQ.2.2
  refine g_cV1 r6_seekFoil_24 ok3_begin pl6_seekFoil pl3_begin xx_17 (Nat.le_of_ble_eq_true rfl) (ev3_begin (q := 17) (Or.inl rfl) W.s8 (by omega) a3) (fun v' R' h' I1 ⟨q1, q2, q3, hS1, h21, hF1⟩ => ?_)
  subst q1; subst q2; subst q3
  have hQ1 : zQr w I1 J (N + 1) := zQr_fs hw (hF1.s (Or.inl rfl)) ⟨c1 + 1, c2, by omega, by omega, hS1.n, zSn_o (hF1 24 (by omega)) (hF1 30 (by omega)) a4⟩ hQ
  refine g_al0 r6_seekFoil_27 ?_
  refine g_il2 r6_seekFoil_28 ?_
  refine g_eV1 r6_seekFoil_29 ok6_isPerson pl6_seekFoil pl6_isPerson xx_0 (Nat.le_of_ble_eq_true rfl) (ev6_isPerson hw W hQ1) ?_
  refine g_ifneB r6_seekFoil_32 (fun h32 => ?_) (fun hc => absurd hc (fun q => q ⟨nI_pos (by omega), nI_lt hr (by omega)⟩))
  refine g_al0 r6_seekFoil_36 ?_
  refine g_gfr r6_seekFoil_37 xx_0 rfl rr_0_6 ?_
  refine g_gfr r6_seekFoil_40 (xw hw) rfl (rw_2 hw) ?_
  refine g_il2 r6_seekFoil_43 ?_
  refine g_ialdN r6_seekFoil_44 (xwa_2 hw) (by omega) (by decide) ?_
  refine g_eqv (y := I (w + 3) r) (by rw [(hF1.s (Or.inl rfl)) _ (by rcases hw with rfl | rfl <;> omega)]) ?_
  refine g_is5 r6_seekFoil_45 rfl ?_
  refine g_al0 r6_seekFoil_47 ?_
  refine g_gfr r6_seekFoil_48 xx_0 rfl rr_0_6 ?_
  refine g_gfr r6_seekFoil_51 (xw hw) rfl (rw_3 hw) ?_
  refine g_il2 r6_seekFoil_54 ?_
  refine g_ialdN r6_seekFoil_55 (xwa_3 hw) (by omega) (by decide) ?_
  refine g_eqv (y := I (w + 4) r) (by rw [(hF1.s (Or.inl rfl)) _ (by rcases hw with rfl | rfl <;> omega)]) ?_
  refine g_is6 r6_seekFoil_56 rfl ?_
  refine g_k r6_seekFoil_58 ?_
  refine g_is7 r6_seekFoil_59 rfl ?_
  exact lp6_seekFoil (I0 := I) hw W (by omega) (show c1 + 1 ≤ N + 1 by omega) a2 hr hQ.1 257 0 _ _ _ _ 1 I1 (by omega) (by omega) (zBf_0 W.s8 rfl rfl) hS1 (hF1.s (Or.inl rfl)) h21 (zSn_o (hF1 24 (by omega)) (hF1 30 (by omega)) a4) (fun j hj => absurd hj (Nat.not_lt_zero j))
theorem zNm_le {I : zMI} {N M : Nat} (h : zNm I N) (hle : N ≤ M) : zNm I M := by obtain ⟨c1, c2, a1, a2, a3, a4⟩ := h; exact ⟨c1, c2, by omega, by omega, a3, a4⟩
theorem ev6_choice {w v0 e1 e2 : Nat} {h : Int64} {J I : zMI} (hw : zW w) (W : zWF J) {N : Nat} (hQ : zQr w I J N) (hN : N + 260 < 2 ^ 31) {q rd : Nat} (hq : q < jn J) (hrd : rd < 2 ^ 31) : zEp m6_choice (zRR w v0 e1 e2) h I [.ref 0, .int (nI q), .int (nI rd)] (fun v R1 h1 I1 => v = some (.int (zwd J q rd)) ∧ R1 = (zRR w v0 e1 e2) ∧ h1 = h ∧ zFs I I1 ∧ zNm I1 (N + 260)) := by
  have hn4 := W.n4
  refine zEp_of [.ref 0, .int (nI q), .int (nI rd), .null, .null] pl6_choice (by decide +kernel) (fun _ _ => rfl) (fun _ _ => Nat.le_of_ble_eq_true rfl) ?_
  refine g_al0 r6_choice_0 ?_
  refine g_il1 r6_choice_1 ?_
  refine g_eV1 r6_choice_2 ok6_isPerson pl6_choice pl6_isPerson xx_0 (Nat.le_of_ble_eq_true rfl) (ev6_isPerson hw W hQ) ?_
  refine g_ifeqB r6_choice_5 (fun hc => absurd hc (fun q => q ⟨nI_pos (by omega), nI_lt hq (by omega)⟩)) (fun h5 => ?_)
  refine g_al0 r6_choice_8 ?_
  refine g_il1 r6_choice_9 ?_
  refine g_eV1 r6_choice_10 ok6_isSatisfied pl6_choice pl6_isSatisfied xx_0 (Nat.le_of_ble_eq_true rfl) (ev6_isSatisfied hw W hQ hq) ?_
  refine g_ifeqB r6_choice_13 (fun h13 => ?_) (fun h13 => ?_)
  · refine g_al0 r6_choice_18 ?_
    refine g_gfr r6_choice_19 xx_0 rfl rr_0_6 ?_
    refine g_gfr r6_choice_22 (xw hw) rfl (rw_0 hw) ?_
    refine g_il1 r6_choice_25 ?_
    refine g_ialdN r6_choice_26 (xwa_0 hw) (by omega) (by decide) ?_
    refine g_eqv (y := J 55 q) (hQ.1.2.1 q hq).1 ?_
    refine g_is3 r6_choice_27 rfl ?_
    refine g_il3 r6_choice_28 ?_
    refine g_k r6_choice_29 ?_
    refine g_icne r6_choice_30 (fun h30 => ?_) (fun h30 => ?_)
    · have hx : ¬ (zb (J 54 11 >>> (J 56 q &&& 31) &&& 1 = 1) = J 57 q ∨ (J 55 q = 3 ∧ rd % 2 = 1)) := (fun q => q.elim h13 (fun q => h30 q.1))
      refine g_il3 r6_choice_42 ?_
      refine g_k r6_choice_43 ?_
      refine g_icne r6_choice_44 (fun h44 => ?_) (fun h44 => ?_)
      · have hf : zfo' J q = -1 := by unfold zfo'; exact if_neg (fun q => h44 q.1)
        refine g_al0 r6_choice_123 ?_
        refine g_il1 r6_choice_124 ?_
        refine g_cV1 r6_choice_125 ok6_seekPlan pl6_choice pl6_seekPlan xx_0 (Nat.le_of_ble_eq_true rfl) (ev6_seekPlan hw W hQ (by omega) hq) (fun v' R' h' I9 ⟨q1, q2, q3, hs9⟩ => ?_)
        subst q1; subst q2; subst q3
        refine g_al0 r6_choice_128 ?_
        refine g_gfr r6_choice_129 xx_0 rfl rr_0_3 ?_
        refine g_eV0 r6_choice_132 ok3_firstAct pl6_choice pl3_firstAct xx_17 (Nat.le_of_ble_eq_true rfl) (ev3_firstAct (q := 17) (Or.inl rfl) hs9.1) ?_
        exact g_iret r6_choice_135 rfl ⟨rfl, ⟨zrt (by unfold zwd; rw [if_neg hx, if_pos hf]; rfl), rfl, rfl, hs9.2.1, zNm_le hs9.2.2 (by omega)⟩⟩
      · refine g_al0 r6_choice_47 ?_
        refine g_gfr r6_choice_48 xx_0 rfl rr_0_6 ?_
        refine g_gfi r6_choice_51 (xw hw) rfl ?_
        refine g_eqv (y := nI (jn J)) (hQ.1.1.1.trans W.n) ?_
        refine g_k r6_choice_54 ?_
        refine g_eqv (y := nI 2) rfl ?_
        refine g_icltN r6_choice_55 (by omega) (by omega) (fun h55 => ?_) (fun h55 => ?_)
        · have hf : zfo' J q = -1 := by unfold zfo'; exact if_neg (fun q => absurd q.2 (by omega))
          refine g_al0 r6_choice_123 ?_
          refine g_il1 r6_choice_124 ?_
          refine g_cV1 r6_choice_125 ok6_seekPlan pl6_choice pl6_seekPlan xx_0 (Nat.le_of_ble_eq_true rfl) (ev6_seekPlan hw W hQ (by omega) hq) (fun v' R' h' I9 ⟨q1, q2, q3, hs9⟩ => ?_)
          subst q1; subst q2; subst q3
          refine g_al0 r6_choice_128 ?_
          refine g_gfr r6_choice_129 xx_0 rfl rr_0_3 ?_
          refine g_eV0 r6_choice_132 ok3_firstAct pl6_choice pl3_firstAct xx_17 (Nat.le_of_ble_eq_true rfl) (ev3_firstAct (q := 17) (Or.inl rfl) hs9.1) ?_
          exact g_iret r6_choice_135 rfl ⟨rfl, ⟨zrt (by unfold zwd; rw [if_neg hx, if_pos hf]; rfl), rfl, rfl, hs9.2.1, zNm_le hs9.2.2 (by omega)⟩⟩
        · refine g_il1 r6_choice_58 ?_
          refine g_k r6_choice_59 ?_
          refine g_iadd r6_choice_60 ?_
          refine g_eqv (y := nI (q + 1)) (nI_1 q) ?_
          refine g_al0 r6_choice_61 ?_
          refine g_gfr r6_choice_62 xx_0 rfl rr_0_6 ?_
          refine g_gfi r6_choice_65 (xw hw) rfl ?_
          refine g_eqv (y := nI (jn J)) (hQ.1.1.1.trans W.n) ?_
          refine g_icgeN r6_choice_68 (by omega) (by omega) (fun h68 => ?_) (fun h68 => ?_)
          · refine g_k r6_choice_77 ?_
            refine g_eqv (y := nI ((q + 1) % jn J)) (by rw [show q + 1 = jn J by omega, Nat.mod_self]; rfl) ?_
            have hr : ((q + 1) % jn J) < jn J := Nat.mod_lt _ (by omega)
            refine g_is4 r6_choice_78 rfl ?_
            refine g_al0 r6_choice_80 ?_
            refine g_il4 r6_choice_81 ?_
            refine g_cV1 r6_choice_83 ok6_seekPlan pl6_choice pl6_seekPlan xx_0 (Nat.le_of_ble_eq_true rfl) (ev6_seekPlan hw W hQ (by omega) hr) (fun v' R' h' I1 ⟨q1, q2, q3, hs1⟩ => ?_)
            subst q1; subst q2; subst q3
            refine g_al0 r6_choice_86 ?_
            refine g_gfr r6_choice_87 xx_0 rfl rr_0_3 ?_
            refine g_gfi r6_choice_90 xx_17 rfl ?_
            refine g_eqv (y := zPm J ((q + 1) % jn J)) (zFnd_m hs1.1) ?_
            refine g_k r6_choice_93 ?_
            refine g_iclt r6_choice_94 (fun h94 => ?_) (fun h94 => ?_)
            · have hf : zfo' J q = -1 := by unfold zfo'; rw [if_pos (show J 55 q = 1 ∧ 1 < jn J from ⟨h44, by omega⟩)]; unfold zff; exact if_pos h94
              have hQ1 := zQr_fs hw hs1.2.1 hs1.2.2 hQ
              refine g_al0 r6_choice_123 ?_
              refine g_il1 r6_choice_124 ?_
              refine g_cV1 r6_choice_125 ok6_seekPlan pl6_choice pl6_seekPlan xx_0 (Nat.le_of_ble_eq_true rfl) (ev6_seekPlan hw W hQ1 (by omega) hq) (fun v' R' h' I9 ⟨q1, q2, q3, hs9⟩ => ?_)
              subst q1; subst q2; subst q3
              refine g_al0 r6_choice_128 ?_
              refine g_gfr r6_choice_129 xx_0 rfl rr_0_3 ?_
              refine g_eV0 r6_choice_132 ok3_firstAct pl6_choice pl3_firstAct xx_17 (Nat.le_of_ble_eq_true rfl) (ev3_firstAct (q := 17) (Or.inl rfl) hs9.1) ?_
              exact g_iret r6_choice_135 rfl ⟨rfl, ⟨zrt (by unfold zwd; rw [if_neg hx, if_pos hf]; rfl), rfl, rfl, hs1.2.1.trans hs9.2.1, zNm_le hs9.2.2 (by omega)⟩⟩
            · have hQ1 := zQr_fs hw hs1.2.1 hs1.2.2 hQ
              refine g_al0 r6_choice_97 ?_
              refine g_il1 r6_choice_98 ?_
              refine g_il4 r6_choice_99 ?_
              refine g_cV2 r6_choice_101 ok6_seekFoil pl6_choice pl6_seekFoil xx_0 (Nat.le_of_ble_eq_true rfl) (ev6_seekFoil hw W hQ1 (by omega) hq hr) (fun v' R' h' I2 ⟨q1, q2, q3, hs2⟩ => ?_)
              subst q1; subst q2; subst q3
              refine g_al0 r6_choice_104 ?_
              refine g_gfr r6_choice_105 xx_0 rfl rr_0_3 ?_
              refine g_gfi r6_choice_108 xx_17 rfl ?_
              refine g_k r6_choice_111 ?_
              refine g_iclt r6_choice_112 (fun h112 => ?_) (fun h112 => ?_)
              · have hf : zfo' J q = -1 := by unfold zfo'; rw [if_pos (show J 55 q = 1 ∧ 1 < jn J from ⟨h44, by omega⟩)]; unfold zff; rw [if_neg h94]; exact zFnd_n hs2.1 (fun j d g1 g2 g3 _ => by rw [g2] at h112; have := (nI_ltI (b := 1) (by omega) (by omega)).mp h112; omega)
                have hQ2 := zQr_fs hw hs2.2.1 hs2.2.2 hQ1
                refine g_al0 r6_choice_123 ?_
                refine g_il1 r6_choice_124 ?_
                refine g_cV1 r6_choice_125 ok6_seekPlan pl6_choice pl6_seekPlan xx_0 (Nat.le_of_ble_eq_true rfl) (ev6_seekPlan hw W hQ2 (by omega) hq) (fun v' R' h' I9 ⟨q1, q2, q3, hs9⟩ => ?_)
                subst q1; subst q2; subst q3
                refine g_al0 r6_choice_128 ?_
                refine g_gfr r6_choice_129 xx_0 rfl rr_0_3 ?_
                refine g_eV0 r6_choice_132 ok3_firstAct pl6_choice pl3_firstAct xx_17 (Nat.le_of_ble_eq_true rfl) (ev3_firstAct (q := 17) (Or.inl rfl) hs9.1) ?_
                exact g_iret r6_choice_135 rfl ⟨rfl, ⟨zrt (by unfold zwd; rw [if_neg hx, if_pos hf]; rfl), rfl, rfl, (hs1.2.1.trans hs2.2.1).trans hs9.2.1, zNm_le hs9.2.2 (by omega)⟩⟩
              · refine g_al0 r6_choice_115 ?_
                refine g_gfr r6_choice_116 xx_0 rfl rr_0_3 ?_
                refine g_eV0 r6_choice_119 ok3_firstAct pl6_choice pl3_firstAct xx_17 (Nat.le_of_ble_eq_true rfl) (ev3_firstAct (q := 17) (Or.inl rfl) hs2.1) ?_
                have e0 : zfo' J q = zFd J q ((q + 1) % jn J) 0 := by unfold zfo'; rw [if_pos (show J 55 q = 1 ∧ 1 < jn J from ⟨h44, by omega⟩)]; unfold zff; exact if_neg h94
                obtain ⟨d, hd, e⟩ := (zFnd_c hs2.1).resolve_left (fun q => h112 (by rw [q]; decide))
                have hd0 : 0 < d := by rw [e] at h112; exact Nat.pos_of_ne_zero (fun q => h112 (by rw [q]; decide))
                have hne : ¬ zFd J q ((q + 1) % jn J) 0 = -1 := zFnd_y hs2.1 e hd hd0 W.m10
                exact g_iret r6_choice_122 rfl ⟨rfl, ⟨zrt (by unfold zwd; rw [if_neg hx, e0, if_neg hne]; rfl), rfl, rfl, hs1.2.1.trans hs2.2.1, zNm_le hs2.2.2 (by omega)⟩⟩
          · refine g_il1 r6_choice_71 ?_
            refine g_k r6_choice_72 ?_
            refine g_iadd r6_choice_73 ?_
            refine g_eqv (y := nI (q + 1)) (nI_1 q) ?_
            refine g_goto r6_choice_74 ?_
            refine g_eqv (y := nI ((q + 1) % jn J)) (by rw [Nat.mod_eq_of_lt (by omega)]) ?_
            have hr : ((q + 1) % jn J) < jn J := Nat.mod_lt _ (by omega)
            refine g_is4 r6_choice_78 rfl ?_
            refine g_al0 r6_choice_80 ?_
            refine g_il4 r6_choice_81 ?_
            refine g_cV1 r6_choice_83 ok6_seekPlan pl6_choice pl6_seekPlan xx_0 (Nat.le_of_ble_eq_true rfl) (ev6_seekPlan hw W hQ (by omega) hr) (fun v' R' h' I1 ⟨q1, q2, q3, hs1⟩ => ?_)
            subst q1; subst q2; subst q3
            refine g_al0 r6_choice_86 ?_
            refine g_gfr r6_choice_87 xx_0 rfl rr_0_3 ?_
            refine g_gfi r6_choice_90 xx_17 rfl ?_
            refine g_eqv (y := zPm J ((q + 1) % jn J)) (zFnd_m hs1.1) ?_
            refine g_k r6_choice_93 ?_
            refine g_iclt r6_choice_94 (fun h94 => ?_) (fun h94 => ?_)
            · have hf : zfo' J q = -1 := by unfold zfo'; rw [if_pos (show J 55 q = 1 ∧ 1 < jn J from ⟨h44, by omega⟩)]; unfold zff; exact if_pos h94
              have hQ1 := zQr_fs hw hs1.2.1 hs1.2.2 hQ
              refine g_al0 r6_choice_123 ?_
              refine g_il1 r6_choice_124 ?_
              refine g_cV1 r6_choice_125 ok6_seekPlan pl6_choice pl6_seekPlan xx_0 (Nat.le_of_ble_eq_true rfl) (ev6_seekPlan hw W hQ1 (by omega) hq) (fun v' R' h' I9 ⟨q1, q2, q3, hs9⟩ => ?_)
              subst q1; subst q2; subst q3
              refine g_al0 r6_choice_128 ?_
              refine g_gfr r6_choice_129 xx_0 rfl rr_0_3 ?_
              refine g_eV0 r6_choice_132 ok3_firstAct pl6_choice pl3_firstAct xx_17 (Nat.le_of_ble_eq_true rfl) (ev3_firstAct (q := 17) (Or.inl rfl) hs9.1) ?_
              exact g_iret r6_choice_135 rfl ⟨rfl, ⟨zrt (by unfold zwd; rw [if_neg hx, if_pos hf]; rfl), rfl, rfl, hs1.2.1.trans hs9.2.1, zNm_le hs9.2.2 (by omega)⟩⟩
            · have hQ1 := zQr_fs hw hs1.2.1 hs1.2.2 hQ
              refine g_al0 r6_choice_97 ?_
              refine g_il1 r6_choice_98 ?_
              refine g_il4 r6_choice_99 ?_
              refine g_cV2 r6_choice_101 ok6_seekFoil pl6_choice pl6_seekFoil xx_0 (Nat.le_of_ble_eq_true rfl) (ev6_seekFoil hw W hQ1 (by omega) hq hr) (fun v' R' h' I2 ⟨q1, q2, q3, hs2⟩ => ?_)
              subst q1; subst q2; subst q3
              refine g_al0 r6_choice_104 ?_
              refine g_gfr r6_choice_105 xx_0 rfl rr_0_3 ?_
              refine g_gfi r6_choice_108 xx_17 rfl ?_
              refine g_k r6_choice_111 ?_
              refine g_iclt r6_choice_112 (fun h112 => ?_) (fun h112 => ?_)
              · have hf : zfo' J q = -1 := by unfold zfo'; rw [if_pos (show J 55 q = 1 ∧ 1 < jn J from ⟨h44, by omega⟩)]; unfold zff; rw [if_neg h94]; exact zFnd_n hs2.1 (fun j d g1 g2 g3 _ => by rw [g2] at h112; have := (nI_ltI (b := 1) (by omega) (by omega)).mp h112; omega)
                have hQ2 := zQr_fs hw hs2.2.1 hs2.2.2 hQ1
                refine g_al0 r6_choice_123 ?_
                refine g_il1 r6_choice_124 ?_
                refine g_cV1 r6_choice_125 ok6_seekPlan pl6_choice pl6_seekPlan xx_0 (Nat.le_of_ble_eq_true rfl) (ev6_seekPlan hw W hQ2 (by omega) hq) (fun v' R' h' I9 ⟨q1, q2, q3, hs9⟩ => ?_)
                subst q1; subst q2; subst q3
                refine g_al0 r6_choice_128 ?_
                refine g_gfr r6_choice_129 xx_0 rfl rr_0_3 ?_
                refine g_eV0 r6_choice_132 ok3_firstAct pl6_choice pl3_firstAct xx_17 (Nat.le_of_ble_eq_true rfl) (ev3_firstAct (q := 17) (Or.inl rfl) hs9.1) ?_
                exact g_iret r6_choice_135 rfl ⟨rfl, ⟨zrt (by unfold zwd; rw [if_neg hx, if_pos hf]; rfl), rfl, rfl, (hs1.2.1.trans hs2.2.1).trans hs9.2.1, zNm_le hs9.2.2 (by omega)⟩⟩
              · refine g_al0 r6_choice_115 ?_
                refine g_gfr r6_choice_116 xx_0 rfl rr_0_3 ?_
                refine g_eV0 r6_choice_119 ok3_firstAct pl6_choice pl3_firstAct xx_17 (Nat.le_of_ble_eq_true rfl) (ev3_firstAct (q := 17) (Or.inl rfl) hs2.1) ?_
                have e0 : zfo' J q = zFd J q ((q + 1) % jn J) 0 := by unfold zfo'; rw [if_pos (show J 55 q = 1 ∧ 1 < jn J from ⟨h44, by omega⟩)]; unfold zff; exact if_neg h94
                obtain ⟨d, hd, e⟩ := (zFnd_c hs2.1).resolve_left (fun q => h112 (by rw [q]; decide))
                have hd0 : 0 < d := by rw [e] at h112; exact Nat.pos_of_ne_zero (fun q => h112 (by rw [q]; decide))
                have hne : ¬ zFd J q ((q + 1) % jn J) 0 = -1 := zFnd_y hs2.1 e hd hd0 W.m10
                exact g_iret r6_choice_122 rfl ⟨rfl, ⟨zrt (by unfold zwd; rw [if_neg hx, e0, if_neg hne]; rfl), rfl, rfl, hs1.2.1.trans hs2.2.1, zNm_le hs2.2.2 (by omega)⟩⟩
    · refine g_il2 r6_choice_33 ?_
      refine g_k r6_choice_34 ?_
      refine g_irem r6_choice_35 (by decide) ?_
      refine g_eqv (y := nI (rd % 2)) (pk_rem (d := 2) hrd (by omega) (by omega)) ?_
      refine g_k r6_choice_36 ?_
      refine g_icne r6_choice_37 (fun h37 => ?_) (fun h37 => ?_)
      · have hx : ¬ (zb (J 54 11 >>> (J 56 q &&& 31) &&& 1 = 1) = J 57 q ∨ (J 55 q = 3 ∧ rd % 2 = 1)) := (fun q => q.elim h13 (fun q => h37 ((nI_eq (b := 1) (by omega) (by omega)).mpr q.2)))
        refine g_il3 r6_choice_42 ?_
        refine g_k r6_choice_43 ?_
        refine g_icne r6_choice_44 (fun h44 => ?_) (fun h44 => ?_)
        · have hf : zfo' J q = -1 := by unfold zfo'; exact if_neg (fun q => h44 q.1)
          refine g_al0 r6_choice_123 ?_
          refine g_il1 r6_choice_124 ?_
          refine g_cV1 r6_choice_125 ok6_seekPlan pl6_choice pl6_seekPlan xx_0 (Nat.le_of_ble_eq_true rfl) (ev6_seekPlan hw W hQ (by omega) hq) (fun v' R' h' I9 ⟨q1, q2, q3, hs9⟩ => ?_)
          subst q1; subst q2; subst q3
          refine g_al0 r6_choice_128 ?_
          refine g_gfr r6_choice_129 xx_0 rfl rr_0_3 ?_
          refine g_eV0 r6_choice_132 ok3_firstAct pl6_choice pl3_firstAct xx_17 (Nat.le_of_ble_eq_true rfl) (ev3_firstAct (q := 17) (Or.inl rfl) hs9.1) ?_
          exact g_iret r6_choice_135 rfl ⟨rfl, ⟨zrt (by unfold zwd; rw [if_neg hx, if_pos hf]; rfl), rfl, rfl, hs9.2.1, zNm_le hs9.2.2 (by omega)⟩⟩
        · refine g_al0 r6_choice_47 ?_
          refine g_gfr r6_choice_48 xx_0 rfl rr_0_6 ?_
          refine g_gfi r6_choice_51 (xw hw) rfl ?_
          refine g_eqv (y := nI (jn J)) (hQ.1.1.1.trans W.n) ?_
          refine g_k r6_choice_54 ?_
          refine g_eqv (y := nI 2) rfl ?_
          refine g_icltN r6_choice_55 (by omega) (by omega) (fun h55 => ?_) (fun h55 => ?_)
          · have hf : zfo' J q = -1 := by unfold zfo'; exact if_neg (fun q => absurd q.2 (by omega))
            refine g_al0 r6_choice_123 ?_
            refine g_il1 r6_choice_124 ?_
            refine g_cV1 r6_choice_125 ok6_seekPlan pl6_choice pl6_seekPlan xx_0 (Nat.le_of_ble_eq_true rfl) (ev6_seekPlan hw W hQ (by omega) hq) (fun v' R' h' I9 ⟨q1, q2, q3, hs9⟩ => ?_)
            subst q1; subst q2; subst q3
            refine g_al0 r6_choice_128 ?_
            refine g_gfr r6_choice_129 xx_0 rfl rr_0_3 ?_
            refine g_eV0 r6_choice_132 ok3_firstAct pl6_choice pl3_firstAct xx_17 (Nat.le_of_ble_eq_true rfl) (ev3_firstAct (q := 17) (Or.inl rfl) hs9.1) ?_
            exact g_iret r6_choice_135 rfl ⟨rfl, ⟨zrt (by unfold zwd; rw [if_neg hx, if_pos hf]; rfl), rfl, rfl, hs9.2.1, zNm_le hs9.2.2 (by omega)⟩⟩
          · refine g_il1 r6_choice_58 ?_
            refine g_k r6_choice_59 ?_
            refine g_iadd r6_choice_60 ?_
            refine g_eqv (y := nI (q + 1)) (nI_1 q) ?_
            refine g_al0 r6_choice_61 ?_
            refine g_gfr r6_choice_62 xx_0 rfl rr_0_6 ?_
            refine g_gfi r6_choice_65 (xw hw) rfl ?_
            refine g_eqv (y := nI (jn J)) (hQ.1.1.1.trans W.n) ?_
            refine g_icgeN r6_choice_68 (by omega) (by omega) (fun h68 => ?_) (fun h68 => ?_)
            · refine g_k r6_choice_77 ?_
              refine g_eqv (y := nI ((q + 1) % jn J)) (by rw [show q + 1 = jn J by omega, Nat.mod_self]; rfl) ?_
              have hr : ((q + 1) % jn J) < jn J := Nat.mod_lt _ (by omega)
              refine g_is4 r6_choice_78 rfl ?_
              refine g_al0 r6_choice_80 ?_
              refine g_il4 r6_choice_81 ?_
              refine g_cV1 r6_choice_83 ok6_seekPlan pl6_choice pl6_seekPlan xx_0 (Nat.le_of_ble_eq_true rfl) (ev6_seekPlan hw W hQ (by omega) hr) (fun v' R' h' I1 ⟨q1, q2, q3, hs1⟩ => ?_)
              subst q1; subst q2; subst q3
              refine g_al0 r6_choice_86 ?_
              refine g_gfr r6_choice_87 xx_0 rfl rr_0_3 ?_
              refine g_gfi r6_choice_90 xx_17 rfl ?_
              refine g_eqv (y := zPm J ((q + 1) % jn J)) (zFnd_m hs1.1) ?_
              refine g_k r6_choice_93 ?_
              refine g_iclt r6_choice_94 (fun h94 => ?_) (fun h94 => ?_)
              · have hf : zfo' J q = -1 := by unfold zfo'; rw [if_pos (show J 55 q = 1 ∧ 1 < jn J from ⟨h44, by omega⟩)]; unfold zff; exact if_pos h94
                have hQ1 := zQr_fs hw hs1.2.1 hs1.2.2 hQ
                refine g_al0 r6_choice_123 ?_
                refine g_il1 r6_choice_124 ?_
                refine g_cV1 r6_choice_125 ok6_seekPlan pl6_choice pl6_seekPlan xx_0 (Nat.le_of_ble_eq_true rfl) (ev6_seekPlan hw W hQ1 (by omega) hq) (fun v' R' h' I9 ⟨q1, q2, q3, hs9⟩ => ?_)
                subst q1; subst q2; subst q3
                refine g_al0 r6_choice_128 ?_
                refine g_gfr r6_choice_129 xx_0 rfl rr_0_3 ?_
                refine g_eV0 r6_choice_132 ok3_firstAct pl6_choice pl3_firstAct xx_17 (Nat.le_of_ble_eq_true rfl) (ev3_firstAct (q := 17) (Or.inl rfl) hs9.1) ?_
                exact g_iret r6_choice_135 rfl ⟨rfl, ⟨zrt (by unfold zwd; rw [if_neg hx, if_pos hf]; rfl), rfl, rfl, hs1.2.1.trans hs9.2.1, zNm_le hs9.2.2 (by omega)⟩⟩
              · have hQ1 := zQr_fs hw hs1.2.1 hs1.2.2 hQ
                refine g_al0 r6_choice_97 ?_
                refine g_il1 r6_choice_98 ?_
                refine g_il4 r6_choice_99 ?_
                refine g_cV2 r6_choice_101 ok6_seekFoil pl6_choice pl6_seekFoil xx_0 (Nat.le_of_ble_eq_true rfl) (ev6_seekFoil hw W hQ1 (by omega) hq hr) (fun v' R' h' I2 ⟨q1, q2, q3, hs2⟩ => ?_)
                subst q1; subst q2; subst q3
                refine g_al0 r6_choice_104 ?_
                refine g_gfr r6_choice_105 xx_0 rfl rr_0_3 ?_
                refine g_gfi r6_choice_108 xx_17 rfl ?_
                refine g_k r6_choice_111 ?_
                refine g_iclt r6_choice_112 (fun h112 => ?_) (fun h112 => ?_)
                · have hf : zfo' J q = -1 := by unfold zfo'; rw [if_pos (show J 55 q = 1 ∧ 1 < jn J from ⟨h44, by omega⟩)]; unfold zff; rw [if_neg h94]; exact zFnd_n hs2.1 (fun j d g1 g2 g3 _ => by rw [g2] at h112; have := (nI_ltI (b := 1) (by omega) (by omega)).mp h112; omega)
                  have hQ2 := zQr_fs hw hs2.2.1 hs2.2.2 hQ1
                  refine g_al0 r6_choice_123 ?_
                  refine g_il1 r6_choice_124 ?_
                  refine g_cV1 r6_choice_125 ok6_seekPlan pl6_choice pl6_seekPlan xx_0 (Nat.le_of_ble_eq_true rfl) (ev6_seekPlan hw W hQ2 (by omega) hq) (fun v' R' h' I9 ⟨q1, q2, q3, hs9⟩ => ?_)
                  subst q1; subst q2; subst q3
                  refine g_al0 r6_choice_128 ?_
                  refine g_gfr r6_choice_129 xx_0 rfl rr_0_3 ?_
                  refine g_eV0 r6_choice_132 ok3_firstAct pl6_choice pl3_firstAct xx_17 (Nat.le_of_ble_eq_true rfl) (ev3_firstAct (q := 17) (Or.inl rfl) hs9.1) ?_
                  exact g_iret r6_choice_135 rfl ⟨rfl, ⟨zrt (by unfold zwd; rw [if_neg hx, if_pos hf]; rfl), rfl, rfl, (hs1.2.1.trans hs2.2.1).trans hs9.2.1, zNm_le hs9.2.2 (by omega)⟩⟩
                · refine g_al0 r6_choice_115 ?_
                  refine g_gfr r6_choice_116 xx_0 rfl rr_0_3 ?_
                  refine g_eV0 r6_choice_119 ok3_firstAct pl6_choice pl3_firstAct xx_17 (Nat.le_of_ble_eq_true rfl) (ev3_firstAct (q := 17) (Or.inl rfl) hs2.1) ?_
                  have e0 : zfo' J q = zFd J q ((q + 1) % jn J) 0 := by unfold zfo'; rw [if_pos (show J 55 q = 1 ∧ 1 < jn J from ⟨h44, by omega⟩)]; unfold zff; exact if_neg h94
                  obtain ⟨d, hd, e⟩ := (zFnd_c hs2.1).resolve_left (fun q => h112 (by rw [q]; decide))
                  have hd0 : 0 < d := by rw [e] at h112; exact Nat.pos_of_ne_zero (fun q => h112 (by rw [q]; decide))
                  have hne : ¬ zFd J q ((q + 1) % jn J) 0 = -1 := zFnd_y hs2.1 e hd hd0 W.m10
                  exact g_iret r6_choice_122 rfl ⟨rfl, ⟨zrt (by unfold zwd; rw [if_neg hx, e0, if_neg hne]; rfl), rfl, rfl, hs1.2.1.trans hs2.2.1, zNm_le hs2.2.2 (by omega)⟩⟩
            · refine g_il1 r6_choice_71 ?_
              refine g_k r6_choice_72 ?_
              refine g_iadd r6_choice_73 ?_
              refine g_eqv (y := nI (q + 1)) (nI_1 q) ?_
              refine g_goto r6_choice_74 ?_
              refine g_eqv (y := nI ((q + 1) % jn J)) (by rw [Nat.mod_eq_of_lt (by omega)]) ?_
              have hr : ((q + 1) % jn J) < jn J := Nat.mod_lt _ (by omega)
              refine g_is4 r6_choice_78 rfl ?_
              refine g_al0 r6_choice_80 ?_
              refine g_il4 r6_choice_81 ?_
              refine g_cV1 r6_choice_83 ok6_seekPlan pl6_choice pl6_seekPlan xx_0 (Nat.le_of_ble_eq_true rfl) (ev6_seekPlan hw W hQ (by omega) hr) (fun v' R' h' I1 ⟨q1, q2, q3, hs1⟩ => ?_)
              subst q1; subst q2; subst q3
              refine g_al0 r6_choice_86 ?_
              refine g_gfr r6_choice_87 xx_0 rfl rr_0_3 ?_
              refine g_gfi r6_choice_90 xx_17 rfl ?_
              refine g_eqv (y := zPm J ((q + 1) % jn J)) (zFnd_m hs1.1) ?_
              refine g_k r6_choice_93 ?_
              refine g_iclt r6_choice_94 (fun h94 => ?_) (fun h94 => ?_)
              · have hf : zfo' J q = -1 := by unfold zfo'; rw [if_pos (show J 55 q = 1 ∧ 1 < jn J from ⟨h44, by omega⟩)]; unfold zff; exact if_pos h94
                have hQ1 := zQr_fs hw hs1.2.1 hs1.2.2 hQ
                refine g_al0 r6_choice_123 ?_
                refine g_il1 r6_choice_124 ?_
                refine g_cV1 r6_choice_125 ok6_seekPlan pl6_choice pl6_seekPlan xx_0 (Nat.le_of_ble_eq_true rfl) (ev6_seekPlan hw W hQ1 (by omega) hq) (fun v' R' h' I9 ⟨q1, q2, q3, hs9⟩ => ?_)
                subst q1; subst q2; subst q3
                refine g_al0 r6_choice_128 ?_
                refine g_gfr r6_choice_129 xx_0 rfl rr_0_3 ?_
                refine g_eV0 r6_choice_132 ok3_firstAct pl6_choice pl3_firstAct xx_17 (Nat.le_of_ble_eq_true rfl) (ev3_firstAct (q := 17) (Or.inl rfl) hs9.1) ?_
                exact g_iret r6_choice_135 rfl ⟨rfl, ⟨zrt (by unfold zwd; rw [if_neg hx, if_pos hf]; rfl), rfl, rfl, hs1.2.1.trans hs9.2.1, zNm_le hs9.2.2 (by omega)⟩⟩
              · have hQ1 := zQr_fs hw hs1.2.1 hs1.2.2 hQ
                refine g_al0 r6_choice_97 ?_
                refine g_il1 r6_choice_98 ?_
                refine g_il4 r6_choice_99 ?_
                refine g_cV2 r6_choice_101 ok6_seekFoil pl6_choice pl6_seekFoil xx_0 (Nat.le_of_ble_eq_true rfl) (ev6_seekFoil hw W hQ1 (by omega) hq hr) (fun v' R' h' I2 ⟨q1, q2, q3, hs2⟩ => ?_)
                subst q1; subst q2; subst q3
                refine g_al0 r6_choice_104 ?_
                refine g_gfr r6_choice_105 xx_0 rfl rr_0_3 ?_
                refine g_gfi r6_choice_108 xx_17 rfl ?_
                refine g_k r6_choice_111 ?_
                refine g_iclt r6_choice_112 (fun h112 => ?_) (fun h112 => ?_)
                · have hf : zfo' J q = -1 := by unfold zfo'; rw [if_pos (show J 55 q = 1 ∧ 1 < jn J from ⟨h44, by omega⟩)]; unfold zff; rw [if_neg h94]; exact zFnd_n hs2.1 (fun j d g1 g2 g3 _ => by rw [g2] at h112; have := (nI_ltI (b := 1) (by omega) (by omega)).mp h112; omega)
                  have hQ2 := zQr_fs hw hs2.2.1 hs2.2.2 hQ1
                  refine g_al0 r6_choice_123 ?_
                  refine g_il1 r6_choice_124 ?_
                  refine g_cV1 r6_choice_125 ok6_seekPlan pl6_choice pl6_seekPlan xx_0 (Nat.le_of_ble_eq_true rfl) (ev6_seekPlan hw W hQ2 (by omega) hq) (fun v' R' h' I9 ⟨q1, q2, q3, hs9⟩ => ?_)
                  subst q1; subst q2; subst q3
                  refine g_al0 r6_choice_128 ?_
                  refine g_gfr r6_choice_129 xx_0 rfl rr_0_3 ?_
                  refine g_eV0 r6_choice_132 ok3_firstAct pl6_choice pl3_firstAct xx_17 (Nat.le_of_ble_eq_true rfl) (ev3_firstAct (q := 17) (Or.inl rfl) hs9.1) ?_
                  exact g_iret r6_choice_135 rfl ⟨rfl, ⟨zrt (by unfold zwd; rw [if_neg hx, if_pos hf]; rfl), rfl, rfl, (hs1.2.1.trans hs2.2.1).trans hs9.2.1, zNm_le hs9.2.2 (by omega)⟩⟩
                · refine g_al0 r6_choice_115 ?_
                  refine g_gfr r6_choice_116 xx_0 rfl rr_0_3 ?_
                  refine g_eV0 r6_choice_119 ok3_firstAct pl6_choice pl3_firstAct xx_17 (Nat.le_of_ble_eq_true rfl) (ev3_firstAct (q := 17) (Or.inl rfl) hs2.1) ?_
                  have e0 : zfo' J q = zFd J q ((q + 1) % jn J) 0 := by unfold zfo'; rw [if_pos (show J 55 q = 1 ∧ 1 < jn J from ⟨h44, by omega⟩)]; unfold zff; exact if_neg h94
                  obtain ⟨d, hd, e⟩ := (zFnd_c hs2.1).resolve_left (fun q => h112 (by rw [q]; decide))
                  have hd0 : 0 < d := by rw [e] at h112; exact Nat.pos_of_ne_zero (fun q => h112 (by rw [q]; decide))
                  have hne : ¬ zFd J q ((q + 1) % jn J) 0 = -1 := zFnd_y hs2.1 e hd hd0 W.m10
                  exact g_iret r6_choice_122 rfl ⟨rfl, ⟨zrt (by unfold zwd; rw [if_neg hx, e0, if_neg hne]; rfl), rfl, rfl, hs1.2.1.trans hs2.2.1, zNm_le hs2.2.2 (by omega)⟩⟩
      · refine g_k r6_choice_40 ?_
        exact g_iret r6_choice_41 rfl ⟨rfl, ⟨zrt (by unfold zwd; exact (if_pos (Or.inr ⟨h30, (nI_eq (b := 1) (by omega) (by omega)).mp h37⟩)).symm), rfl, rfl, zFs.refl I, zNm_le hQ.2.2 (by omega)⟩⟩
  · refine g_k r6_choice_16 ?_
    exact g_iret r6_choice_17 rfl ⟨rfl, ⟨zrt (by unfold zwd; exact (if_pos (Or.inl h13)).symm), rfl, rfl, zFs.refl I, zNm_le hQ.2.2 (by omega)⟩⟩
