section EL
variable {w v0 e1 e2 : Nat} {h : Int64} {J I : zMI}
theorem el7_isWanted (hO : zOx J I) {k : Nat} {s : Int32} (hk : k < 4) : zEr m7_isWanted (zRR w v0 e1 e2) h I [.ref 54, .int (nI k), .int s] (some (.int (zb (zb (s >>> (J 56 k &&& 31) &&& 1 = 1) = J 57 k)))) (zRR w v0 e1 e2) h I := by
  rw [← hO.o 56 (by decide) (by decide), ← hO.o 57 (by decide) (by decide)]; exact ev7_isWanted hk
theorem el7_actsOf (hO : zOx J I) (W : zWF J) {q : Nat} (hq : q < 4) : zEr m7_actsOf (zRR w v0 e1 e2) h I [.ref 54, .int (nI q)] (some (.int (zao J q (jt J) (jm J)))) (zRR w v0 e1 e2) h I := by
  rw [← zao_ox hO.m]; exact ev7_actsOf hq ((hO.f 5 (by decide)).trans W.m) W.m10 ((hO.f 13 (by decide)).trans W.t) W.t30
theorem el7_stepsBy (hO : zOx J I) (W : zWF J) {x : Int32} : zEr m7_stepsBy (zRR w v0 e1 e2) h I [.ref 54, .int x] (some (.int (zsb J x (jt J)))) (zRR w v0 e1 e2) h I := by
  rw [← zsb_ox hO.m]; exact ev7_stepsBy ((hO.f 13 (by decide)).trans W.t) W.t30 W.m10 (fun k hk => by rw [hO.o 63 (by decide) (by decide)]; exact W.sa k hk)
theorem el7_wantsIn (hO : zOx J I) (W : zWF J) {x : Int32} : zEr m7_wantsIn (zRR w v0 e1 e2) h I [.ref 54, .int x] (some (.int (zwi J x (jn J)))) (zRR w v0 e1 e2) h I := by
  rw [← zwi_ox hO.m]; exact ev7_wantsIn ((hO.f 0 (by decide)).trans W.n) W.n4
theorem el7_timesDone (hO : zOx J I) (W : zWF J) {x : Int32} : zEr m7_timesDone (zRR w v0 e1 e2) h I [.ref 54, .int x] (some (.int (ztd J x (jt J)))) (zRR w v0 e1 e2) h I := by
  rw [← ztd_ox hO.m]; exact ev7_timesDone ((hO.f 13 (by decide)).trans W.t) W.t30
theorem el7_isOne (hO : zOx J I) {x : Int32} : zEr m7_isOne (zRR w v0 e1 e2) h I [.ref 54, .int x] (some (.int (zb (0 < J 54 5 ∧ (¬ x < 0 ∧ ¬ (J 54 0 - 1) < x))))) (zRR w v0 e1 e2) h I := by
  rw [← hO.f 5 (by decide), ← hO.f 0 (by decide)]; exact ev7_isOne
theorem zOne (W : zWF J) {x : Int32} : (0 < J 54 5 ∧ (¬ x < 0 ∧ ¬ (J 54 0 - 1) < x)) ↔ ∃ q, q < jn J ∧ x = nI q := by
  have hn := W.n; have hm := W.m; have h1 := W.mn; have n4 := W.n4; have m10 := W.m10
  rw [hn, hm]
  constructor
  · rintro ⟨-, h2⟩; exact zidx (by omega) h2
  · rintro ⟨q, h2, rfl⟩; exact ⟨(nI_ltI (a := 0) (by omega) (by omega)).mpr (by omega), zidx' (by omega) h2⟩
theorem zWd (W : zWF J) : 0 < J 54 5 ↔ 0 < jm J := by
  have m10 := W.m10
  rw [W.m]; exact nI_ltI (a := 0) (by omega) (by omega)
end EL
theorem el7_foilFirst {w v0 e1 e2 : Nat} {h : Int64} {J I : zMI} (hO : zOx J I) (W : zWF J) {q : Nat} (hq : q < jn J) : zEp m7_foilFirst (zRR w v0 e1 e2) h I [.ref 54, .int (nI q)] (fun v R1 h1 I1 => v = (some (.int (zff J q))) ∧ R1 = (zRR w v0 e1 e2) ∧ h1 = h ∧ zOx (J) I1) := by
  have hn4 := W.n4
  refine zEp_of [.ref 54, .int (nI q), .null] pl7_foilFirst (by decide +kernel) (fun _ _ => rfl) (fun _ _ => Nat.le_of_ble_eq_true rfl) ?_
  refine g_il1 r7_foilFirst_0 ?_
  refine g_k r7_foilFirst_1 ?_
  refine g_iadd r7_foilFirst_2 ?_
  refine g_eqv (y := nI (q + 1)) (nI_1 q) ?_
  refine g_al0 r7_foilFirst_3 ?_
  refine g_gfi r7_foilFirst_4 xx_54 rfl ?_
  refine g_eqv (y := nI (jn J)) ((hO.f 0 (by decide)).trans W.n) ?_
  refine g_irem r7_foilFirst_7 (nI_ne0 (by omega) (by omega)) ?_
  refine g_eqv (y := nI ((q + 1) % jn J)) (pk_rem (by omega) (by omega) (by omega)) ?_
  refine g_is2 r7_foilFirst_8 rfl ?_
  have hr : (q + 1) % jn J < jn J := Nat.mod_lt _ (by omega)
  refine g_al0 r7_foilFirst_9 ?_
  refine g_il2 r7_foilFirst_10 ?_
  refine g_cV1 r7_foilFirst_11 ok7_layPlan pl7_foilFirst pl7_layPlan xx_54 (Nat.le_of_ble_eq_true rfl) (el7_layPlan hO W hr) (fun v' R' h' I1 ⟨q1, q2, q3, hl⟩ => ?_)
  subst q1; subst q2; subst q3
  refine g_al0 r7_foilFirst_14 ?_
  refine g_eV0 r7_foilFirst_15 ok7_laidMany pl7_foilFirst pl7_laidMany xx_54 (Nat.le_of_ble_eq_true rfl) (el7_laidMany hl W) ?_
  refine g_k r7_foilFirst_18 ?_
  refine g_icgeL r7_foilFirst_19 (fun h19 => ?_) (fun h19 => ?_)
  · refine g_al0 r7_foilFirst_24 ?_
    refine g_il1 r7_foilFirst_25 ?_
    refine g_il2 r7_foilFirst_26 ?_
    refine g_cV2 r7_foilFirst_27 ok7_layFoil pl7_foilFirst pl7_layFoil xx_54 (Nat.le_of_ble_eq_true rfl) (el7_layFoil hl.1 W hq hr) (fun v' R' h' I2 ⟨q1, q2, q3, hl2⟩ => ?_)
    subst q1; subst q2; subst q3
    refine g_al0 r7_foilFirst_30 ?_
    refine g_k r7_foilFirst_31 ?_
    refine g_eV1 r7_foilFirst_32 ok7_laidAct pl7_foilFirst pl7_laidAct xx_54 (Nat.le_of_ble_eq_true rfl) (el7_laidAct hl2 W) ?_
    exact g_iret r7_foilFirst_35 rfl ⟨rfl, ⟨zrt (by unfold zff; exact (if_neg h19).symm), rfl, rfl, hl2.1⟩⟩
  · refine g_k r7_foilFirst_22 ?_
    exact g_iret r7_foilFirst_23 rfl ⟨rfl, ⟨zrt (by unfold zff; exact (if_pos h19).symm), rfl, rfl, hl.1⟩⟩
theorem el7_wouldDo {w v0 e1 e2 : Nat} {h : Int64} {J I : zMI} (hO : zOx J I) (W : zWF J) {q : Nat} (hq : q < jn J) {rd : Nat} (hrd : rd < 2 ^ 31) : zEp m7_wouldDo (zRR w v0 e1 e2) h I [.ref 54, .int (nI q), .int (nI rd)] (fun v R1 h1 I1 => v = (some (.int (zwd J q rd))) ∧ R1 = (zRR w v0 e1 e2) ∧ h1 = h ∧ zOx (J) I1) := by
  have hn4 := W.n4
  refine zEp_of [.ref 54, .int (nI q), .int (nI rd), .null] pl7_wouldDo (by decide +kernel) (fun _ _ => rfl) (fun _ _ => Nat.le_of_ble_eq_true rfl) ?_
  refine g_al0 r7_wouldDo_0 ?_
  refine g_il1 r7_wouldDo_1 ?_
  refine g_al0 r7_wouldDo_2 ?_
  refine g_gfi r7_wouldDo_3 xx_54 rfl ?_
  refine g_eqv (y := J 54 11) (hO.f 11 (by decide)) ?_
  refine g_eV2 r7_wouldDo_6 ok7_isWanted pl7_wouldDo pl7_isWanted xx_54 (Nat.le_of_ble_eq_true rfl) (el7_isWanted hO (by omega)) ?_
  refine g_ifneB r7_wouldDo_9 (fun h9 => ?_) (fun h9 => ?_)
  · refine g_k r7_wouldDo_29 ?_
    exact g_iret r7_wouldDo_30 rfl ⟨rfl, ⟨zrt (by unfold zwd; exact (if_pos (Or.inl h9)).symm), rfl, rfl, hO⟩⟩
  · refine g_al0 r7_wouldDo_12 ?_
    refine g_gfr r7_wouldDo_13 xx_54 rfl rr_54_1 ?_
    refine g_il1 r7_wouldDo_16 ?_
    refine g_ialdN r7_wouldDo_17 xx_55 (by omega) (by decide) ?_
    refine g_eqv (y := J 55 q) (congrFun (hO.o 55 (by decide) (by decide)) q) ?_
    refine g_k r7_wouldDo_18 ?_
    refine g_icne r7_wouldDo_19 (fun h19 => ?_) (fun h19 => ?_)
    · have hx : ¬ (zb (J 54 11 >>> (J 56 q &&& 31) &&& 1 = 1) = J 57 q ∨ (J 55 q = 3 ∧ rd % 2 = 1)) := (fun q => q.elim h9 (fun q => h19 q.1))
      refine g_al0 r7_wouldDo_31 ?_
      refine g_gfr r7_wouldDo_32 xx_54 rfl rr_54_1 ?_
      refine g_il1 r7_wouldDo_35 ?_
      refine g_ialdN r7_wouldDo_36 xx_55 (by omega) (by decide) ?_
      refine g_eqv (y := J 55 q) (congrFun (hO.o 55 (by decide) (by decide)) q) ?_
      refine g_k r7_wouldDo_37 ?_
      refine g_icne r7_wouldDo_38 (fun h38 => ?_) (fun h38 => ?_)
      · have hf : zfo' J q = -1 := by unfold zfo'; exact if_neg (fun q => h38 q.1)
        refine g_k r7_wouldDo_57 ?_
        refine g_is3 r7_wouldDo_58 rfl ?_
        refine g_il3 r7_wouldDo_59 ?_
        refine g_k r7_wouldDo_60 ?_
        refine g_iceq r7_wouldDo_61 (fun h61 => ?_) (fun hc => absurd hc (fun q => q rfl))
        refine g_al0 r7_wouldDo_66 ?_
        refine g_il1 r7_wouldDo_67 ?_
        refine g_cV1 r7_wouldDo_68 ok7_layPlan pl7_wouldDo pl7_layPlan xx_54 (Nat.le_of_ble_eq_true rfl) (el7_layPlan hO W hq) (fun v' R' h' I2 ⟨q1, q2, q3, hl⟩ => ?_)
        subst q1; subst q2; subst q3
        refine g_al0 r7_wouldDo_71 ?_
        refine g_k r7_wouldDo_72 ?_
        refine g_eV1 r7_wouldDo_73 ok7_laidAct pl7_wouldDo pl7_laidAct xx_54 (Nat.le_of_ble_eq_true rfl) (el7_laidAct hl W) ?_
        exact g_iret r7_wouldDo_76 rfl ⟨rfl, ⟨zrt (by unfold zwd; rw [if_neg hx, if_pos hf]; rfl), rfl, rfl, hl.1⟩⟩
      · refine g_al0 r7_wouldDo_41 ?_
        refine g_gfi r7_wouldDo_42 xx_54 rfl ?_
        refine g_eqv (y := nI (jn J)) ((hO.f 0 (by decide)).trans W.n) ?_
        refine g_k r7_wouldDo_45 ?_
        refine g_icleL r7_wouldDo_46 (fun h46 => ?_) (fun h46 => ?_)
        · have hf : zfo' J q = -1 := by unfold zfo'; exact if_neg (fun q => h46 ((nI_ltI (a := 1) (by omega) (by omega)).mpr q.2))
          refine g_k r7_wouldDo_57 ?_
          refine g_is3 r7_wouldDo_58 rfl ?_
          refine g_il3 r7_wouldDo_59 ?_
          refine g_k r7_wouldDo_60 ?_
          refine g_iceq r7_wouldDo_61 (fun h61 => ?_) (fun hc => absurd hc (fun q => q rfl))
          refine g_al0 r7_wouldDo_66 ?_
          refine g_il1 r7_wouldDo_67 ?_
          refine g_cV1 r7_wouldDo_68 ok7_layPlan pl7_wouldDo pl7_layPlan xx_54 (Nat.le_of_ble_eq_true rfl) (el7_layPlan hO W hq) (fun v' R' h' I2 ⟨q1, q2, q3, hl⟩ => ?_)
          subst q1; subst q2; subst q3
          refine g_al0 r7_wouldDo_71 ?_
          refine g_k r7_wouldDo_72 ?_
          refine g_eV1 r7_wouldDo_73 ok7_laidAct pl7_wouldDo pl7_laidAct xx_54 (Nat.le_of_ble_eq_true rfl) (el7_laidAct hl W) ?_
          exact g_iret r7_wouldDo_76 rfl ⟨rfl, ⟨zrt (by unfold zwd; rw [if_neg hx, if_pos hf]; rfl), rfl, rfl, hl.1⟩⟩
        · refine g_al0 r7_wouldDo_49 ?_
          refine g_il1 r7_wouldDo_50 ?_
          refine g_cV1 r7_wouldDo_51 ok7_foilFirst pl7_wouldDo pl7_foilFirst xx_54 (Nat.le_of_ble_eq_true rfl) (el7_foilFirst hO W hq) (fun v' R' h' I1 ⟨q1, q2, q3, hO1⟩ => ?_)
          subst q1; subst q2; subst q3
          refine g_goto r7_wouldDo_54 ?_
          refine g_is3 r7_wouldDo_58 rfl ?_
          refine g_il3 r7_wouldDo_59 ?_
          refine g_k r7_wouldDo_60 ?_
          refine g_iceq r7_wouldDo_61 (fun h61 => ?_) (fun h61 => ?_)
          · have hf : zfo' J q = -1 := by unfold zfo'; rw [if_pos ⟨h38, (nI_ltI (a := 1) (by omega) (by omega)).mp h46⟩]; exact h61
            refine g_al0 r7_wouldDo_66 ?_
            refine g_il1 r7_wouldDo_67 ?_
            refine g_cV1 r7_wouldDo_68 ok7_layPlan pl7_wouldDo pl7_layPlan xx_54 (Nat.le_of_ble_eq_true rfl) (el7_layPlan hO1 W hq) (fun v' R' h' I2 ⟨q1, q2, q3, hl⟩ => ?_)
            subst q1; subst q2; subst q3
            refine g_al0 r7_wouldDo_71 ?_
            refine g_k r7_wouldDo_72 ?_
            refine g_eV1 r7_wouldDo_73 ok7_laidAct pl7_wouldDo pl7_laidAct xx_54 (Nat.le_of_ble_eq_true rfl) (el7_laidAct hl W) ?_
            exact g_iret r7_wouldDo_76 rfl ⟨rfl, ⟨zrt (by unfold zwd; rw [if_neg hx, if_pos hf]; rfl), rfl, rfl, hl.1⟩⟩
          · have hf : zfo' J q = zff J q := by unfold zfo'; exact if_pos ⟨h38, (nI_ltI (a := 1) (by omega) (by omega)).mp h46⟩
            refine g_il3 r7_wouldDo_64 ?_
            exact g_iret r7_wouldDo_65 rfl ⟨rfl, ⟨zrt (by unfold zwd; rw [if_neg hx, hf, if_neg h61]), rfl, rfl, hO1⟩⟩
    · refine g_il2 r7_wouldDo_22 ?_
      refine g_k r7_wouldDo_23 ?_
      refine g_irem r7_wouldDo_24 (by decide) ?_
      refine g_eqv (y := nI (rd % 2)) (pk_rem (d := 2) hrd (by omega) (by omega)) ?_
      refine g_k r7_wouldDo_25 ?_
      refine g_icne r7_wouldDo_26 (fun h26 => ?_) (fun h26 => ?_)
      · have hx : ¬ (zb (J 54 11 >>> (J 56 q &&& 31) &&& 1 = 1) = J 57 q ∨ (J 55 q = 3 ∧ rd % 2 = 1)) := (fun q => q.elim h9 (fun q => h26 ((nI_eq (b := 1) (by omega) (by omega)).mpr q.2)))
        refine g_al0 r7_wouldDo_31 ?_
        refine g_gfr r7_wouldDo_32 xx_54 rfl rr_54_1 ?_
        refine g_il1 r7_wouldDo_35 ?_
        refine g_ialdN r7_wouldDo_36 xx_55 (by omega) (by decide) ?_
        refine g_eqv (y := J 55 q) (congrFun (hO.o 55 (by decide) (by decide)) q) ?_
        refine g_k r7_wouldDo_37 ?_
        refine g_icne r7_wouldDo_38 (fun h38 => ?_) (fun h38 => ?_)
        · have hf : zfo' J q = -1 := by unfold zfo'; exact if_neg (fun q => h38 q.1)
          refine g_k r7_wouldDo_57 ?_
          refine g_is3 r7_wouldDo_58 rfl ?_
          refine g_il3 r7_wouldDo_59 ?_
          refine g_k r7_wouldDo_60 ?_
          refine g_iceq r7_wouldDo_61 (fun h61 => ?_) (fun hc => absurd hc (fun q => q rfl))
          refine g_al0 r7_wouldDo_66 ?_
          refine g_il1 r7_wouldDo_67 ?_
          refine g_cV1 r7_wouldDo_68 ok7_layPlan pl7_wouldDo pl7_layPlan xx_54 (Nat.le_of_ble_eq_true rfl) (el7_layPlan hO W hq) (fun v' R' h' I2 ⟨q1, q2, q3, hl⟩ => ?_)
          subst q1; subst q2; subst q3
          refine g_al0 r7_wouldDo_71 ?_
          refine g_k r7_wouldDo_72 ?_
          refine g_eV1 r7_wouldDo_73 ok7_laidAct pl7_wouldDo pl7_laidAct xx_54 (Nat.le_of_ble_eq_true rfl) (el7_laidAct hl W) ?_
          exact g_iret r7_wouldDo_76 rfl ⟨rfl, ⟨zrt (by unfold zwd; rw [if_neg hx, if_pos hf]; rfl), rfl, rfl, hl.1⟩⟩
        · refine g_al0 r7_wouldDo_41 ?_
          refine g_gfi r7_wouldDo_42 xx_54 rfl ?_
          refine g_eqv (y := nI (jn J)) ((hO.f 0 (by decide)).trans W.n) ?_
          refine g_k r7_wouldDo_45 ?_
          refine g_icleL r7_wouldDo_46 (fun h46 => ?_) (fun h46 => ?_)
          · have hf : zfo' J q = -1 := by unfold zfo'; exact if_neg (fun q => h46 ((nI_ltI (a := 1) (by omega) (by omega)).mpr q.2))
            refine g_k r7_wouldDo_57 ?_
            refine g_is3 r7_wouldDo_58 rfl ?_
            refine g_il3 r7_wouldDo_59 ?_
            refine g_k r7_wouldDo_60 ?_
            refine g_iceq r7_wouldDo_61 (fun h61 => ?_) (fun hc => absurd hc (fun q => q rfl))
            refine g_al0 r7_wouldDo_66 ?_
            refine g_il1 r7_wouldDo_67 ?_
            refine g_cV1 r7_wouldDo_68 ok7_layPlan pl7_wouldDo pl7_layPlan xx_54 (Nat.le_of_ble_eq_true rfl) (el7_layPlan hO W hq) (fun v' R' h' I2 ⟨q1, q2, q3, hl⟩ => ?_)
            subst q1; subst q2; subst q3
            refine g_al0 r7_wouldDo_71 ?_
            refine g_k r7_wouldDo_72 ?_
            refine g_eV1 r7_wouldDo_73 ok7_laidAct pl7_wouldDo pl7_laidAct xx_54 (Nat.le_of_ble_eq_true rfl) (el7_laidAct hl W) ?_
            exact g_iret r7_wouldDo_76 rfl ⟨rfl, ⟨zrt (by unfold zwd; rw [if_neg hx, if_pos hf]; rfl), rfl, rfl, hl.1⟩⟩
          · refine g_al0 r7_wouldDo_49 ?_
            refine g_il1 r7_wouldDo_50 ?_
            refine g_cV1 r7_wouldDo_51 ok7_foilFirst pl7_wouldDo pl7_foilFirst xx_54 (Nat.le_of_ble_eq_true rfl) (el7_foilFirst hO W hq) (fun v' R' h' I1 ⟨q1, q2, q3, hO1⟩ => ?_)
            subst q1; subst q2; subst q3
            refine g_goto r7_wouldDo_54 ?_
            refine g_is3 r7_wouldDo_58 rfl ?_
            refine g_il3 r7_wouldDo_59 ?_
            refine g_k r7_wouldDo_60 ?_
            refine g_iceq r7_wouldDo_61 (fun h61 => ?_) (fun h61 => ?_)
            · have hf : zfo' J q = -1 := by unfold zfo'; rw [if_pos ⟨h38, (nI_ltI (a := 1) (by omega) (by omega)).mp h46⟩]; exact h61
              refine g_al0 r7_wouldDo_66 ?_
              refine g_il1 r7_wouldDo_67 ?_
              refine g_cV1 r7_wouldDo_68 ok7_layPlan pl7_wouldDo pl7_layPlan xx_54 (Nat.le_of_ble_eq_true rfl) (el7_layPlan hO1 W hq) (fun v' R' h' I2 ⟨q1, q2, q3, hl⟩ => ?_)
              subst q1; subst q2; subst q3
              refine g_al0 r7_wouldDo_71 ?_
              refine g_k r7_wouldDo_72 ?_
              refine g_eV1 r7_wouldDo_73 ok7_laidAct pl7_wouldDo pl7_laidAct xx_54 (Nat.le_of_ble_eq_true rfl) (el7_laidAct hl W) ?_
              exact g_iret r7_wouldDo_76 rfl ⟨rfl, ⟨zrt (by unfold zwd; rw [if_neg hx, if_pos hf]; rfl), rfl, rfl, hl.1⟩⟩
            · have hf : zfo' J q = zff J q := by unfold zfo'; exact if_pos ⟨h38, (nI_ltI (a := 1) (by omega) (by omega)).mp h46⟩
              refine g_il3 r7_wouldDo_64 ?_
              exact g_iret r7_wouldDo_65 rfl ⟨rfl, ⟨zrt (by unfold zwd; rw [if_neg hx, hf, if_neg h61]), rfl, rfl, hO1⟩⟩
      · refine g_k r7_wouldDo_29 ?_
        exact g_iret r7_wouldDo_30 rfl ⟨rfl, ⟨zrt (by unfold zwd; exact (if_pos (Or.inr ⟨h19, (nI_eq (b := 1) (by omega) (by omega)).mp h26⟩)).symm), rfl, rfl, hO⟩⟩
theorem zld_act {E : Nat → Nat → Prop} {nx : Nat → Nat → Nat} {G : Nat → Prop} {m s : Nat} (hN : ∀ a s, a < m → s < 256 → nx a s < 256) (hs : s < 256) (pl : Int32) : zld E nx G m s pl = -1 ∨ ∃ a, a < m ∧ zld E nx G m s pl = nI a := by
  obtain ⟨r, hr⟩ := zLd_ex (E := E) (G := G) hN hs pl
  rw [← zld_eq hr]; exact zLd_act hr
theorem zwd_act {J : zMI} (W : zWF J) (q rd : Nat) : zwd J q rd = -1 ∨ ∃ a, a < jm J ∧ zwd J q rd = nI a := by
  unfold zwd
  by_cases h1 : zb (J 54 11 >>> (J 56 q &&& 31) &&& 1 = 1) = J 57 q ∨ (J 55 q = 3 ∧ rd % 2 = 1)
  · rw [if_pos h1]; exact Or.inl rfl
  · rw [if_neg h1]
    by_cases h2 : zfo' J q = -1
    · rw [if_pos h2]; exact zld_act W.N W.s8 _
    · rw [if_neg h2]
      unfold zfo' at h2 ⊢
      by_cases h3 : J 55 q = 1 ∧ 1 < jn J
      · rw [if_pos h3]; unfold zff
        by_cases h4 : zPm J ((q + 1) % jn J) < 1
        · rw [if_pos h4]; exact Or.inl rfl
        · rw [if_neg h4]; exact zld_act W.N W.s8 _
      · rw [if_neg h3]; exact Or.inl rfl
def ztk (J : zMI) : zMI := zs J 54 (upd (upd (J 54) 12 (J 54 12 + 1)) 22 (J 54 22 + 1))
noncomputable def zpN1 (J : zMI) (x : Int32) : zMI := if x = -1 then J else zadN J (jt J) x (J 61 x.toNatClampNeg) (J 62 x.toNatClampNeg)
noncomputable def zpN (J : zMI) : zMI := ztk (zpN1 J (zwd J (ju J % jn J) (ju J / jn J)))
theorem ztk_ox {J I : zMI} (h : zOx J I) : zOx (ztk J) (ztk I) := by
  refine ⟨fun k h1 h2 => ?_, fun j h1 => ?_⟩
  · simp only [ztk, zs_ap, if_neg h1]; exact h.o k h1 h2
  · simp only [ztk, zs_ap, upd_ap, if_true, h.f j h1, h.f 12 (by decide), h.f 22 (by decide)]
theorem zadN_ox {J I : zMI} (h : zOx J I) (t : Nat) (x g k : Int32) : zOx (zadN J t x g k) (zadN I t x g k) := by
  refine ⟨fun c h1 h2 => ?_, fun j h1 => ?_⟩
  · simp only [zadN, zs_ap, if_neg h1, h.o 63 (by decide) (by decide), h.o 64 (by decide) (by decide), h.o 65 (by decide) (by decide), h.o 66 (by decide) (by decide), h.o 67 (by decide) (by decide), h.f 11 (by decide), h.f 12 (by decide), h.o c h1 h2]
  · simp only [zadN, zs_ap, upd_ap, if_true, h.f j h1, h.f 11 (by decide), h.f 13 (by decide)]

theorem el7_passTurn {w v0 e1 e2 : Nat} {h : Int64} {J I : zMI} (hO : zOx J I) (W : zWF J) (hn : 0 < jn J) (hu : ju J + 1 < 2 ^ 31) (ht : jt J < 30) : zEp m7_passTurn (zRR w v0 e1 e2) h I [.ref 54] (fun v R1 h1 I1 => v = none ∧ R1 = (zRR w v0 e1 e2) ∧ h1 = h ∧ zOx (zpN J) I1) := by
  have hn4 := W.n4
  refine zEp_of [.ref 54, .null] pl7_passTurn (by decide +kernel) (fun _ _ => rfl) (fun _ _ => Nat.le_of_ble_eq_true rfl) ?_
  refine g_al0 r7_passTurn_0 ?_
  refine g_al0 r7_passTurn_1 ?_
  refine g_gfi r7_passTurn_2 xx_54 rfl ?_
  refine g_eqv (y := nI (ju J)) ((hO.f 12 (by decide)).trans W.u) ?_
  refine g_al0 r7_passTurn_5 ?_
  refine g_gfi r7_passTurn_6 xx_54 rfl ?_
  refine g_eqv (y := nI (jn J)) ((hO.f 0 (by decide)).trans W.n) ?_
  refine g_irem r7_passTurn_9 (nI_ne0 hn (by omega)) ?_
  refine g_eqv (y := nI (ju J % jn J)) (pk_rem W.u31 hn (by omega)) ?_
  refine g_al0 r7_passTurn_10 ?_
  refine g_gfi r7_passTurn_11 xx_54 rfl ?_
  refine g_eqv (y := nI (ju J)) ((hO.f 12 (by decide)).trans W.u) ?_
  refine g_al0 r7_passTurn_14 ?_
  refine g_gfi r7_passTurn_15 xx_54 rfl ?_
  refine g_eqv (y := nI (jn J)) ((hO.f 0 (by decide)).trans W.n) ?_
  refine g_idiv r7_passTurn_18 (nI_ne0 hn (by omega)) ?_
  refine g_eqv (y := nI (ju J / jn J)) (pk_div W.u31 hn (by omega)) ?_
  refine g_cV2 r7_passTurn_19 ok7_wouldDo pl7_passTurn pl7_wouldDo xx_54 (Nat.le_of_ble_eq_true rfl) (el7_wouldDo hO W (Nat.mod_lt _ hn) (Nat.lt_of_le_of_lt (Nat.div_le_self _ _) W.u31)) (fun v' R' h' I1 ⟨q1, q2, q3, hO1⟩ => ?_)
  subst q1; subst q2; subst q3
  refine g_is1 r7_passTurn_22 rfl ?_
  refine g_il1 r7_passTurn_23 ?_
  refine g_k r7_passTurn_24 ?_
  refine g_iceq r7_passTurn_25 (fun h25 => ?_) (fun h25 => ?_)
  · refine g_al0 r7_passTurn_45 ?_
    refine g_dup r7_passTurn_46 rfl ?_
    refine g_gfi r7_passTurn_47 xx_54 rfl ?_
    refine g_k r7_passTurn_50 ?_
    refine g_iadd r7_passTurn_51 ?_
    refine g_pfi r7_passTurn_52 xx_54 rfl rfl ?_
    refine g_al0 r7_passTurn_55 ?_
    refine g_dup r7_passTurn_56 rfl ?_
    refine g_gfi r7_passTurn_57 xx_54 rfl ?_
    refine g_k r7_passTurn_60 ?_
    refine g_iadd r7_passTurn_61 ?_
    refine g_pfi r7_passTurn_62 xx_54 rfl rfl ?_
    exact g_vret r7_passTurn_65 rfl ⟨rfl, ⟨rfl, rfl, rfl, by
      unfold zpN zpN1; rw [if_pos h25]
      refine cast (congrArg (zOx _) ?_) (ztk_ox hO1)
      simp only [ztk, zs_zs, zs_eq, upd_ap]; rfl⟩⟩
  · obtain ⟨a, ha, ea⟩ := (zwd_act W (ju J % jn J) (ju J / jn J)).resolve_left h25
    have hm10 := W.m10
    rw [ea]
    refine g_al0 r7_passTurn_28 ?_
    refine g_il1 r7_passTurn_29 ?_
    refine g_al0 r7_passTurn_30 ?_
    refine g_gfr r7_passTurn_31 xx_54 rfl rr_54_9 ?_
    refine g_il1 r7_passTurn_34 ?_
    refine g_ialdN r7_passTurn_35 xx_61 (by omega) (by decide) ?_
    refine g_eqv (y := J 61 a) (congrFun (hO1.o 61 (by decide) (by decide)) a) ?_
    refine g_al0 r7_passTurn_36 ?_
    refine g_gfr r7_passTurn_37 xx_54 rfl rr_54_10 ?_
    refine g_il1 r7_passTurn_40 ?_
    refine g_ialdN r7_passTurn_41 xx_62 (by omega) (by decide) ?_
    refine g_eqv (y := J 62 a) (congrFun (hO1.o 62 (by decide) (by decide)) a) ?_
    refine g_eV3 r7_passTurn_42 ok7_addStep pl7_passTurn pl7_addStep xx_54 (Nat.le_of_ble_eq_true rfl) (ev7_addStep (t := jt J) ((hO1.f 13 (by decide)).trans W.t) ht) ?_
    refine g_al0 r7_passTurn_45 ?_
    refine g_dup r7_passTurn_46 rfl ?_
    refine g_gfi r7_passTurn_47 xx_54 rfl ?_
    refine g_k r7_passTurn_50 ?_
    refine g_iadd r7_passTurn_51 ?_
    refine g_pfi r7_passTurn_52 xx_54 rfl rfl ?_
    refine g_al0 r7_passTurn_55 ?_
    refine g_dup r7_passTurn_56 rfl ?_
    refine g_gfi r7_passTurn_57 xx_54 rfl ?_
    refine g_k r7_passTurn_60 ?_
    refine g_iadd r7_passTurn_61 ?_
    refine g_pfi r7_passTurn_62 xx_54 rfl rfl ?_
    exact g_vret r7_passTurn_65 rfl ⟨rfl, ⟨rfl, rfl, rfl, by
      unfold zpN zpN1; rw [if_neg h25, ea, nI_clamp (by omega)]
      refine cast (congrArg (zOx _) ?_) (ztk_ox (zadN_ox hO1 (jt J) (nI a) (J 61 a) (J 62 a)))
      simp only [ztk, zs_zs, zs_eq, upd_ap]; rfl⟩⟩
