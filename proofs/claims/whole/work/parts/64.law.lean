section GL
variable {L : Nat} {xs : Nat → Int32} {pc nx : Nat} {lv rest : List Value} {R : zMR} {h : Int64} {I : zMI} {P : zPost}
theorem zlc {M' : zM} (h : zPl M') : (z_x0 (mL_law L xs) ≤ zX.length ∧ z_s0 (mL_law L xs) ≤ zsl zX) ∧ zX.length - z_x0 (mL_law L xs) + z_mc M' ≤ z_mc (mL_law L xs) ∧ zsl zX - z_s0 (mL_law L xs) + z_ms M' ≤ z_ms (mL_law L xs) := by
  obtain ⟨⟨h1, h2, h3, h4⟩, -⟩ := h
  rw [h3, h4, zX_sl]
  exact ⟨⟨Nat.zero_le _, Nat.zero_le _⟩, Nat.le_refl _, Nat.le_refl _⟩
theorem g_lV0 {M' : zM} {c kk : Nat} {PP : Option Value → zMR → Int64 → zMI → Prop} (hd : dCV (mL_law L xs) pc M' nx) (hok : zOkV M' c 0) (h2 : zPl M') (hs : zX[kk]? = some (c + 2, zF c)) (hr : (rest.map fun v => v.category).sum ≤ 8) (hE : zEp M' R h I (.ref kk :: []) PP) (k : ∀ v R' h' I', PP v R' h' I' → zGo (mL_law L xs) nx lv (v.toList ++ rest) zX R' h' I' P) : zGo (mL_law L xs) pc lv (.ref kk :: rest) zX R h I P := g_callV (av := []) hd hok hs rfl (zlc h2) hr rfl hE (fun v X' R' h' I' hp => by obtain ⟨rfl, hp⟩ := hp; exact k v R' h' I' hp)
theorem g_lV1 {M' : zM} {c kk : Nat} {a0 : Value} {PP : Option Value → zMR → Int64 → zMI → Prop} (hd : dCV (mL_law L xs) pc M' nx) (hok : zOkV M' c 1) (h2 : zPl M') (hs : zX[kk]? = some (c + 2, zF c)) (hr : (rest.map fun v => v.category).sum ≤ 8) (hE : zEp M' R h I (.ref kk :: [a0]) PP) (k : ∀ v R' h' I', PP v R' h' I' → zGo (mL_law L xs) nx lv (v.toList ++ rest) zX R' h' I' P) : zGo (mL_law L xs) pc lv (a0 :: .ref kk :: rest) zX R h I P := g_callV (av := [a0]) hd hok hs rfl (zlc h2) hr rfl hE (fun v X' R' h' I' hp => by obtain ⟨rfl, hp⟩ := hp; exact k v R' h' I' hp)
theorem g_lV2 {M' : zM} {c kk : Nat} {a0 a1 : Value} {PP : Option Value → zMR → Int64 → zMI → Prop} (hd : dCV (mL_law L xs) pc M' nx) (hok : zOkV M' c 2) (h2 : zPl M') (hs : zX[kk]? = some (c + 2, zF c)) (hr : (rest.map fun v => v.category).sum ≤ 8) (hE : zEp M' R h I (.ref kk :: [a0, a1]) PP) (k : ∀ v R' h' I', PP v R' h' I' → zGo (mL_law L xs) nx lv (v.toList ++ rest) zX R' h' I' P) : zGo (mL_law L xs) pc lv (a1 :: a0 :: .ref kk :: rest) zX R h I P := g_callV (av := [a0, a1]) hd hok hs rfl (zlc h2) hr rfl hE (fun v X' R' h' I' hp => by obtain ⟨rfl, hp⟩ := hp; exact k v R' h' I' hp)
theorem g_lV3 {M' : zM} {c kk : Nat} {a0 a1 a2 : Value} {PP : Option Value → zMR → Int64 → zMI → Prop} (hd : dCV (mL_law L xs) pc M' nx) (hok : zOkV M' c 3) (h2 : zPl M') (hs : zX[kk]? = some (c + 2, zF c)) (hr : (rest.map fun v => v.category).sum ≤ 8) (hE : zEp M' R h I (.ref kk :: [a0, a1, a2]) PP) (k : ∀ v R' h' I', PP v R' h' I' → zGo (mL_law L xs) nx lv (v.toList ++ rest) zX R' h' I' P) : zGo (mL_law L xs) pc lv (a2 :: a1 :: a0 :: .ref kk :: rest) zX R h I P := g_callV (av := [a0, a1, a2]) hd hok hs rfl (zlc h2) hr rfl hE (fun v X' R' h' I' hp => by obtain ⟨rfl, hp⟩ := hp; exact k v R' h' I' hp)
end GL
theorem zlen4 {L i : Nat} (hL : L ≤ 2048) (hi : i ≤ 3000) : nI L - 4 < nI i ↔ L < i + 4 := by
  have e : (nI L - 4).toInt = (L : Int) - 4 := pk_sub_toInt (a := L) (b := 4) (by omega) (by omega)
  rw [Int32.lt_iff_toInt_lt, e, nI_toInt (by omega)]; omega
theorem zcmp0 {x y : Int64} (h : x = y) : lg_cmp x y = 0 := by
  subst h; unfold lg_cmp; rw [if_neg (Int64.lt_irrefl), if_pos rfl]
theorem lw_loop {L : Nat} {xs : Nat → Int32} (hL : L ≤ 2048) : ∀ d k w v0 e1 e2 h I, 513 - k < d → 4 * k ≤ L → zLs w v0 (12000 * k) (20 * k) I → zE e1 → zE e2 → ¬ e1 = e2 → zGo (mL_law L xs) 18 [.float 0, .ref 0, .ref 54, .int (nI (4 * k))] [] zX (zRR w v0 e1 e2) h I (fun v X1 _ _ _ => X1 = zX ∧ v = some (.int 1)) := by
  intro d
  induction d with
  | zero => intro k w v0 e1 e2 h I hd0; exact absurd hd0 (Nat.not_lt_zero _)
  | succ d ih =>
    intro k w v0 e1 e2 h I hd0 hkL hs he1 he2 hne
    have hk512 : k ≤ 512 := by omega
    have hv := hs.1
    have hP := hs.2.1
    have W := hs.2.2.1
    have hu := hs.2.2.2
    refine g_il3 (rL_law_18 L xs) ?_
    refine g_sl0 (rL_law_19 L xs) ?_
    refine g_slen (rL_law_20 L xs) rfl ?_
    refine g_k (rL_law_21 L xs) ?_
    refine g_isub (rL_law_22 L xs) ?_
    refine g_icgt (rL_law_23 L xs) (fun h23 => ?_) (fun h23 => ?_)
    · refine g_k (rL_law_578 L xs) ?_
      exact g_zret (rL_law_579 L xs) rfl (Or.inr rfl) ⟨rfl, rfl⟩
    · have hb : 4 * k + 4 ≤ L := by have := mt (zlen4 hL (show 4 * k ≤ 3000 by omega)).mpr h23; omega
      refine g_sl0 (rL_law_26 L xs) ?_
      refine g_il3 (rL_law_27 L xs) ?_
      refine g_sld (rL_law_28 L xs) rfl (vp_in_nI (by omega) (by omega)) ?_
      refine g_k (rL_law_29 L xs) ?_
      refine g_iand (rL_law_31 L xs) ?_
      refine g_sw (rL_law_32 L xs) ⟨fun h32 => ?_, fun h32 => ?_, fun h32 => ?_, fun h32 => ?_, fun h32 => ?_, fun h32 => ?_, fun h32 => ?_, fun h32 => ?_, fun h32 => ?_, fun h32 => ?_, fun h32 => ?_, fun h32 => ?_, fun h32 => ?_, fun h32 => ?_, fun h32 => ?_, fun h32 => ?_, fun h32 => ?_, fun h32 => ?_, fun h32 => ?_, trivial⟩ (fun h32 => ?_)
      · refine g_al1 (rL_law_124 L xs) ?_
        refine g_sl0 (rL_law_125 L xs) ?_
        refine g_il3 (rL_law_126 L xs) ?_
        refine g_k (rL_law_127 L xs) ?_
        refine g_iadd (rL_law_128 L xs) ?_
        refine g_eqv (y := nI (4 * k + 1)) (nI_add (4 * k) 1) ?_
        refine g_sld (rL_law_129 L xs) rfl (vp_in_nI (by omega) (by omega)) ?_
        refine g_lV1 (rL_law_130 L xs) ok6_letter pl6_letter xx_0 (Nat.le_of_ble_eq_true rfl) (ev6_letter hv.w W hP) (fun v1 R1 h1 I1 ⟨q1, q2, q3, hP1, hF⟩ => ?_)
        subst q1; subst q2; subst q3
        have m1 : zOm I I1 := zOm_of (fun c hc => hF c (by omega))
        have W1 := W.ox m1
        refine g_al2 (rL_law_133 L xs) ?_
        refine g_sl0 (rL_law_134 L xs) ?_
        refine g_il3 (rL_law_135 L xs) ?_
        refine g_k (rL_law_136 L xs) ?_
        refine g_iadd (rL_law_137 L xs) ?_
        refine g_eqv (y := nI (4 * k + 1)) (nI_add (4 * k) 1) ?_
        refine g_sld (rL_law_138 L xs) rfl (vp_in_nI (by omega) (by omega)) ?_
        refine g_lV1 (rL_law_139 L xs) ok7_letter pl7_letter xx_54 (Nat.le_of_ble_eq_true rfl) (ev7_letter (Classical.byCases (fun q : jL I1 < 90 => Or.inl (by rw [W1.L]; exact vp_in_nI q (by decide))) (fun q => Or.inr (by rw [W1.L, show jL I1 = 90 from Nat.le_antisymm W1.L90 (by omega)]; rfl)))) (fun v2 R2 h2 I2 ⟨p1, p2, p3, p4⟩ => ?_)
        subst p1; subst p2; subst p3; subst p4
        refine g_iceq (rL_law_142 L xs) (fun _ => ?_) (fun hc => absurd ((zletR_om m1 _).symm) hc)
        refine g_ii3 (rL_law_572 L xs) rfl ?_
        rw [show nI (4 * k) + 4 = nI (4 * (k + 1)) from nI_add (4 * k) 4]
        refine g_goto (rL_law_575 L xs) ?_
        exact ih (k + 1) w v0 e1 e2 _ _ (by omega) (by omega) (zm_next hv hP1 (zletN_om m1 _) (zOx.refl _) (fun c hc => zletN_lt _ _ hc) (zWF_let W1 _) (by rw [zju_let, ju_ox m1]; omega) (show 12000 * k + 0 ≤ 12000 * (k + 1) by omega)) he1 he2 hne
      · refine g_al1 (rL_law_147 L xs) ?_
        refine g_lV0 (rL_law_148 L xs) ok6_blank pl6_blank xx_0 (Nat.le_of_ble_eq_true rfl) (ev6_blank hv.w W hP) (fun v1 R1 h1 I1 ⟨q1, q2, q3, hP1, hF⟩ => ?_)
        subst q1; subst q2; subst q3
        have m1 : zOm I I1 := zOm_of (fun c hc => hF c (by omega))
        have W1 := W.ox m1
        refine g_al2 (rL_law_151 L xs) ?_
        refine g_lV0 (rL_law_152 L xs) ok7_blank pl7_blank xx_54 (Nat.le_of_ble_eq_true rfl) (ev7_blank) (fun v2 R2 h2 I2 ⟨p1, p2, p3, p4⟩ => ?_)
        subst p1; subst p2; subst p3; subst p4
        refine g_iceq (rL_law_155 L xs) (fun _ => ?_) (fun hc => absurd ((m1.f 19 (by decide)).symm) hc)
        refine g_ii3 (rL_law_572 L xs) rfl ?_
        rw [show nI (4 * k) + 4 = nI (4 * (k + 1)) from nI_add (4 * k) 4]
        refine g_goto (rL_law_575 L xs) ?_
        exact ih (k + 1) w v0 e1 e2 _ _ (by omega) (by omega) (zm_next hv hP1 (zblN_om m1) (zOx.refl _) (fun c hc => zs_o _ _ (by omega)) (zWF_bl W1) (by rw [zju_bl, ju_ox m1]; omega) (show 12000 * k + 0 ≤ 12000 * (k + 1) by omega)) he1 he2 hne
      · refine g_al1 (rL_law_160 L xs) ?_
        refine g_lV0 (rL_law_161 L xs) ok6_fault pl6_fault xx_0 (Nat.le_of_ble_eq_true rfl) (ev6_fault hv W hP) (fun v1 R1 h1 I1 ⟨q1, q2, q3, hP1, hF⟩ => ?_)
        subst q1; subst q2; subst q3
        have m1 : zOm I I1 := zOm_of (fun c hc => hF c (by omega))
        have W1 := W.ox m1
        refine g_al2 (rL_law_164 L xs) ?_
        refine g_lV0 (rL_law_165 L xs) ok7_fault pl7_fault xx_54 (Nat.le_of_ble_eq_true rfl) (el7_fault (zOx.refl I1) W1) (fun v2 R2 h2 I2 ⟨p1, p2, p3, hO⟩ => ?_)
        subst p1; subst p2; subst p3
        refine g_iceq (rL_law_168 L xs) (fun _ => ?_) (fun hc => absurd (congrArg nI (zfk_om m1 W).symm) hc)
        refine g_ii3 (rL_law_572 L xs) rfl ?_
        rw [show nI (4 * k) + 4 = nI (4 * (k + 1)) from nI_add (4 * k) 4]
        refine g_goto (rL_law_575 L xs) ?_
        exact ih (k + 1) w v0 e1 e2 _ I2 (by omega) (by omega) (zq_next hs hP1 hF hO (show 12000 * k + 0 ≤ 12000 * (k + 1) by omega) (by omega)) he1 he2 hne
      · refine g_al1 (rL_law_173 L xs) ?_
        refine g_lV0 (rL_law_174 L xs) ok6_world pl6_world xx_0 (Nat.le_of_ble_eq_true rfl) (ev6_world hv W hP) (fun v1 R1 h1 I1 ⟨q3, hw1⟩ => ?_)
        subst q3
        rcases hw1 with ⟨q1, q2, k4, hno⟩ | ⟨hct, hcd, q1, q2, hcw⟩
        · subst q1; subst q2
          have hF : zFc I I1 := fun c hc => k4 c (by omega) (by rcases hv with ⟨-, q⟩ | ⟨-, q⟩ <;> omega)
          have m1 : zOm I I1 := zOm_of (fun c hc => hF c (by omega))
          have W1 := W.ox m1
          have hr := zrun (I := I) (J := I1) (g := I 2) (f := I1 68) hv.v (L := jL I) (fun i hi => ⟨by rw [hF 68 (by decide)]; exact hP.2.2.2 i hi, by rw [hF 68 (by decide)]; exact W.Gc i hi⟩) (jL I) (Nat.le_refl _)
          refine g_al2 (rL_law_177 L xs) ?_
          refine g_lV0 (rL_law_178 L xs) ok7_world pl7_world xx_54 (Nat.le_of_ble_eq_true rfl) (el7_world (zOx.refl I1) W1) (fun v2 R2 h2 I2 ⟨p2, p3, hm⟩ => ?_)
          subst p2; subst p3
          rw [jL_ox m1] at hm
          rcases hm with ⟨p1, hO, -⟩ | ⟨n, a, s, hpt, hC, p1, hN⟩
          · subst p1
            refine g_iceq (rL_law_181 L xs) (fun _ => ?_) (fun hc => absurd rfl hc)
            refine g_ii3 (rL_law_572 L xs) rfl ?_
            rw [show nI (4 * k) + 4 = nI (4 * (k + 1)) from nI_add (4 * k) 4]
            refine g_goto (rL_law_575 L xs) ?_
            exact ih (k + 1) w v0 e1 e2 _ I2 (by omega) (by omega) (zq_next hs (zRep_sp hv hP k4) hF hO (show 12000 * k + 0 ≤ 12000 * (k + 1) by omega) (by omega)) he1 he2 hne
          · exfalso
            obtain ⟨n2, a2, s2, hP2, hS2⟩ := hr.2 hpt
            obtain ⟨rfl, rfl, rfl⟩ := zCp_one hC.1 hP2
            have ea : ((zcr I v0 (I 2) (jL I)) v0 10).toNatClampNeg = a := by rw [hS2.1.2.2.1]; exact nI_clamp (by have := hP2.2.1; omega)
            exact hno ⟨hr.1.mpr hpt, by rw [ea]; exact (zCd_s hP2 hS2).mpr hC.2⟩
        · subst q1; subst q2
          have hF : zFc I I1 := fun c hc => by rw [hcw.2.2.2.2 c (by omega) (by omega) (by omega) (by omega)]; exact zcr_o (by omega) (by rcases hv with ⟨-, q⟩ | ⟨-, q⟩ <;> omega) _
          have m1 : zOm I I1 := zOm_of (fun c hc => hF c (by omega))
          have W1 := W.ox m1
          have hr := zrun (I := I) (J := I1) (g := I 2) (f := I1 68) hv.v (L := jL I) (fun i hi => ⟨by rw [hF 68 (by decide)]; exact hP.2.2.2 i hi, by rw [hF 68 (by decide)]; exact W.Gc i hi⟩) (jL I) (Nat.le_refl _)
          have hpt := hr.1.mp hct
          obtain ⟨n2, a2, s2, hP2, hS2⟩ := hr.2 hpt
          have ea : ((zcr I v0 (I 2) (jL I)) v0 10).toNatClampNeg = a2 := by rw [hS2.1.2.2.1]; exact nI_clamp (by have := hP2.2.1; omega)
          rw [ea] at hcd
          have hc2 := (zCd_s hP2 hS2).mp hcd
          refine g_al2 (rL_law_177 L xs) ?_
          refine g_lV0 (rL_law_178 L xs) ok7_world pl7_world xx_54 (Nat.le_of_ble_eq_true rfl) (el7_world (zOx.refl I1) W1) (fun v2 R2 h2 I2 ⟨p2, p3, hm⟩ => ?_)
          subst p2; subst p3
          rw [jL_ox m1] at hm
          rcases hm with ⟨p1, hO, hno⟩ | ⟨n, a, s, -, hC, p1, hN⟩
          · exact absurd ⟨hpt, n2, a2, s2, hP2, hc2⟩ hno
          · subst p1
            obtain ⟨rfl, rfl, rfl⟩ := zCp_one hC.1 hP2
            refine g_iceq (rL_law_181 L xs) (fun _ => ?_) (fun hc => absurd hS2.1.2.2.1 hc)
            have hown := zown (J := I1) (f := I1 68) (L := jL I) (fun j hj => by rw [hF 68 (by decide)]; exact W.Gc j hj) (jL I) (Nat.le_refl _) hpt n a s hP2
            have hs2 := zw_next hs hF hcw hP2 hS2 hc2 hown hN
            refine g_ii3 (rL_law_572 L xs) rfl ?_
            rw [show nI (4 * k) + 4 = nI (4 * (k + 1)) from nI_add (4 * k) 4]
            refine g_goto (rL_law_575 L xs) ?_
            exact ih (k + 1) v0 w e1 e2 _ I2 (by omega) (by omega) (⟨hs2.1, zRep_le hs2.2.1 (by omega), hs2.2.2.1, Nat.le_trans hs2.2.2.2 (by omega)⟩) he1 he2 hne
      · refine g_al1 (rL_law_186 L xs) ?_
        refine g_sl0 (rL_law_187 L xs) ?_
        refine g_il3 (rL_law_188 L xs) ?_
        refine g_k (rL_law_189 L xs) ?_
        refine g_iadd (rL_law_190 L xs) ?_
        refine g_eqv (y := nI (4 * k + 1)) (nI_add (4 * k) 1) ?_
        refine g_sld (rL_law_191 L xs) rfl (vp_in_nI (by omega) (by omega)) ?_
        refine g_lV1 (rL_law_192 L xs) ok6_go pl6_go xx_0 (Nat.le_of_ble_eq_true rfl) (ev6_go hv.w W hP (by omega) (by omega)) (fun v1 R1 h1 I1 ⟨q1, q2, q3, hP1, hF⟩ => ?_)
        subst q1; subst q2; subst q3
        have m1 : zOm I I1 := zOm_of (fun c hc => hF c (by omega))
        have W1 := W.ox m1
        refine g_al2 (rL_law_195 L xs) ?_
        refine g_sl0 (rL_law_196 L xs) ?_
        refine g_il3 (rL_law_197 L xs) ?_
        refine g_k (rL_law_198 L xs) ?_
        refine g_iadd (rL_law_199 L xs) ?_
        refine g_eqv (y := nI (4 * k + 1)) (nI_add (4 * k) 1) ?_
        refine g_sld (rL_law_200 L xs) rfl (vp_in_nI (by omega) (by omega)) ?_
        refine g_lV1 (rL_law_201 L xs) ok7_go pl7_go xx_54 (Nat.le_of_ble_eq_true rfl) (el7_go (zOx.refl I1) W1 (by rw [ju_ox m1]; omega)) (fun v2 R2 h2 I2 ⟨p1, p2, p3, hO⟩ => ?_)
        subst p1; subst p2; subst p3
        refine g_iceq (rL_law_204 L xs) (fun _ => ?_) (fun hc => absurd ((zgoR_om m1 _).symm) hc)
        refine g_ii3 (rL_law_572 L xs) rfl ?_
        rw [show nI (4 * k) + 4 = nI (4 * (k + 1)) from nI_add (4 * k) 4]
        refine g_goto (rL_law_575 L xs) ?_
        exact ih (k + 1) w v0 e1 e2 _ I2 (by omega) (by omega) (zm_next hv hP1 (zgoN_om m1 _) hO (fun c hc => zgoN_lt _ _ hc) ((zWF_go W1 _ (by rw [ju_ox m1]; omega)).1) (Nat.le_trans (zWF_go W1 _ (by rw [ju_ox m1]; omega)).2 (by rw [ju_ox m1]; omega)) (show 12000 * k + 5200 ≤ 12000 * (k + 1) by omega)) he1 he2 hne
      · refine g_al1 (rL_law_209 L xs) ?_
        refine g_sl0 (rL_law_210 L xs) ?_
        refine g_il3 (rL_law_211 L xs) ?_
        refine g_k (rL_law_212 L xs) ?_
        refine g_iadd (rL_law_213 L xs) ?_
        refine g_eqv (y := nI (4 * k + 1)) (nI_add (4 * k) 1) ?_
        refine g_sld (rL_law_214 L xs) rfl (vp_in_nI (by omega) (by omega)) ?_
        refine g_lV1 (rL_law_215 L xs) ok6_fate pl6_fate xx_0 (Nat.le_of_ble_eq_true rfl) (ev6_fate hv.w W hP) (fun v1 R1 h1 I1 ⟨q1, q2, q3, hP1, hF⟩ => ?_)
        subst q1; subst q2; subst q3
        have m1 : zOm I I1 := zOm_of (fun c hc => hF c (by omega))
        have W1 := W.ox m1
        refine g_al2 (rL_law_218 L xs) ?_
        refine g_sl0 (rL_law_219 L xs) ?_
        refine g_il3 (rL_law_220 L xs) ?_
        refine g_k (rL_law_221 L xs) ?_
        refine g_iadd (rL_law_222 L xs) ?_
        refine g_eqv (y := nI (4 * k + 1)) (nI_add (4 * k) 1) ?_
        refine g_sld (rL_law_223 L xs) rfl (vp_in_nI (by omega) (by omega)) ?_
        refine g_lV1 (rL_law_224 L xs) ok7_fate pl7_fate xx_54 (Nat.le_of_ble_eq_true rfl) (ev7_fate W1.t W1.t30) (fun v2 R2 h2 I2 ⟨p1, p2, p3, p4⟩ => ?_)
        subst p1; subst p2; subst p3; subst p4
        refine g_iceq (rL_law_227 L xs) (fun _ => ?_) (fun hc => absurd ((zfaR_om m1 _).symm) hc)
        refine g_ii3 (rL_law_572 L xs) rfl ?_
        rw [show nI (4 * k) + 4 = nI (4 * (k + 1)) from nI_add (4 * k) 4]
        refine g_goto (rL_law_575 L xs) ?_
        exact ih (k + 1) w v0 e1 e2 _ _ (by omega) (by omega) (zm_next hv hP1 (by rw [jt_ox m1]; exact zfaN_om m1 _ _) (zOx.refl _) (fun c hc => zfaN_lt _ _ _ hc) (zWF_fa W1 _) (by rw [zju_fa, ju_ox m1]; omega) (show 12000 * k + 0 ≤ 12000 * (k + 1) by omega)) he1 he2 hne
      · refine g_al1 (rL_law_232 L xs) ?_
        refine g_sl0 (rL_law_233 L xs) ?_
        refine g_il3 (rL_law_234 L xs) ?_
        refine g_k (rL_law_235 L xs) ?_
        refine g_iadd (rL_law_236 L xs) ?_
        refine g_eqv (y := nI (4 * k + 1)) (nI_add (4 * k) 1) ?_
        refine g_sld (rL_law_237 L xs) rfl (vp_in_nI (by omega) (by omega)) ?_
        refine g_lV1 (rL_law_238 L xs) ok6_act pl6_act xx_0 (Nat.le_of_ble_eq_true rfl) (ev6_act hv.w W hP) (fun v1 R1 h1 I1 ⟨q1, q2, q3, hP1, hF⟩ => ?_)
        subst q1; subst q2; subst q3
        have m1 : zOm I I1 := zOm_of (fun c hc => hF c (by omega))
        have W1 := W.ox m1
        refine g_al2 (rL_law_241 L xs) ?_
        refine g_sl0 (rL_law_242 L xs) ?_
        refine g_il3 (rL_law_243 L xs) ?_
        refine g_k (rL_law_244 L xs) ?_
        refine g_iadd (rL_law_245 L xs) ?_
        refine g_eqv (y := nI (4 * k + 1)) (nI_add (4 * k) 1) ?_
        refine g_sld (rL_law_246 L xs) rfl (vp_in_nI (by omega) (by omega)) ?_
        refine g_lV1 (rL_law_247 L xs) ok7_act pl7_act xx_54 (Nat.le_of_ble_eq_true rfl) (ev7_act W1.m W1.m10 W1.t W1.t30) (fun v2 R2 h2 I2 ⟨p1, p2, p3, p4⟩ => ?_)
        subst p1; subst p2; subst p3; subst p4
        refine g_iceq (rL_law_250 L xs) (fun _ => ?_) (fun hc => absurd ((zacR_om m1 _).symm) hc)
        refine g_ii3 (rL_law_572 L xs) rfl ?_
        rw [show nI (4 * k) + 4 = nI (4 * (k + 1)) from nI_add (4 * k) 4]
        refine g_goto (rL_law_575 L xs) ?_
        exact ih (k + 1) w v0 e1 e2 _ _ (by omega) (by omega) (zm_next hv hP1 (by rw [jt_ox m1]; exact zacN_om m1 _ _) (zOx.refl _) (fun c hc => zacN_lt _ _ _ hc) (zWF_ac W1 _) (by rw [zju_ac, ju_ox m1]; omega) (show 12000 * k + 0 ≤ 12000 * (k + 1) by omega)) he1 he2 hne
      · refine g_al1 (rL_law_255 L xs) ?_
        refine g_lV0 (rL_law_256 L xs) ok6_undo pl6_undo xx_0 (Nat.le_of_ble_eq_true rfl) (ev6_undo hv.w W hP) (fun v1 R1 h1 I1 ⟨q1, q2, q3, hP1, hF⟩ => ?_)
        subst q1; subst q2; subst q3
        have m1 : zOm I I1 := zOm_of (fun c hc => hF c (by omega))
        have W1 := W.ox m1
        refine g_al2 (rL_law_259 L xs) ?_
        refine g_lV0 (rL_law_260 L xs) ok7_undo pl7_undo xx_54 (Nat.le_of_ble_eq_true rfl) (ev7_undo W1.t W1.t30) (fun v2 R2 h2 I2 ⟨p1, p2, p3, p4⟩ => ?_)
        subst p1; subst p2; subst p3; subst p4
        refine g_iceq (rL_law_263 L xs) (fun _ => ?_) (fun hc => absurd ((zunR_om m1).symm) hc)
        refine g_ii3 (rL_law_572 L xs) rfl ?_
        rw [show nI (4 * k) + 4 = nI (4 * (k + 1)) from nI_add (4 * k) 4]
        refine g_goto (rL_law_575 L xs) ?_
        exact ih (k + 1) w v0 e1 e2 _ _ (by omega) (by omega) (zm_next hv hP1 (by rw [jt_ox m1]; exact zunN_om m1 _) (zOx.refl _) (fun c hc => zun_o _ (by omega)) (zWF_un W1) (by rw [zju_un, ju_ox m1]; omega) (show 12000 * k + 0 ≤ 12000 * (k + 1) by omega)) he1 he2 hne
      · refine g_al1 (rL_law_268 L xs) ?_
        refine g_sl0 (rL_law_269 L xs) ?_
        refine g_il3 (rL_law_270 L xs) ?_
        refine g_k (rL_law_271 L xs) ?_
        refine g_iadd (rL_law_272 L xs) ?_
        refine g_eqv (y := nI (4 * k + 1)) (nI_add (4 * k) 1) ?_
        refine g_sld (rL_law_273 L xs) rfl (vp_in_nI (by omega) (by omega)) ?_
        refine g_lV1 (rL_law_274 L xs) ok6_about pl6_about xx_0 (Nat.le_of_ble_eq_true rfl) (ev6_about hv.w W hP) (fun v1 R1 h1 I1 ⟨q1, q2, q3, q4⟩ => ?_)
        subst q1; subst q2; subst q3; subst q4
        refine g_al2 (rL_law_277 L xs) ?_
        refine g_sl0 (rL_law_278 L xs) ?_
        refine g_il3 (rL_law_279 L xs) ?_
        refine g_k (rL_law_280 L xs) ?_
        refine g_iadd (rL_law_281 L xs) ?_
        refine g_eqv (y := nI (4 * k + 1)) (nI_add (4 * k) 1) ?_
        refine g_sld (rL_law_282 L xs) rfl (vp_in_nI (by omega) (by omega)) ?_
        refine g_lV1 (rL_law_283 L xs) ok7_about pl7_about xx_54 (Nat.le_of_ble_eq_true rfl) (ev7_about W.n W.n4) (fun v2 R2 h2 I2 ⟨p1, p2, p3, p4⟩ => ?_)
        subst p1; subst p2; subst p3; subst p4
        refine g_iceq (rL_law_286 L xs) (fun _ => ?_) (fun hc => absurd (rfl) hc)
        refine g_ii3 (rL_law_572 L xs) rfl ?_
        rw [show nI (4 * k) + 4 = nI (4 * (k + 1)) from nI_add (4 * k) 4]
        refine g_goto (rL_law_575 L xs) ?_
        exact ih (k + 1) w v0 e1 e2 _ _ (by omega) (by omega) (zq_next hs hP (zFc.refl _) (zOx.refl _) (show 12000 * k + 0 ≤ 12000 * (k + 1) by omega) (by omega)) he1 he2 hne
      · refine g_al1 (rL_law_291 L xs) ?_
        refine g_sl0 (rL_law_292 L xs) ?_
        refine g_il3 (rL_law_293 L xs) ?_
        refine g_k (rL_law_294 L xs) ?_
        refine g_iadd (rL_law_295 L xs) ?_
        refine g_eqv (y := nI (4 * k + 1)) (nI_add (4 * k) 1) ?_
        refine g_sld (rL_law_296 L xs) rfl (vp_in_nI (by omega) (by omega)) ?_
        refine g_sl0 (rL_law_297 L xs) ?_
        refine g_il3 (rL_law_298 L xs) ?_
        refine g_k (rL_law_299 L xs) ?_
        refine g_iadd (rL_law_300 L xs) ?_
        refine g_eqv (y := nI (4 * k + 2)) (nI_add (4 * k) 2) ?_
        refine g_sld (rL_law_301 L xs) rfl (vp_in_nI (by omega) (by omega)) ?_
        refine g_lV2 (rL_law_302 L xs) ok6_one pl6_one xx_0 (Nat.le_of_ble_eq_true rfl) (ev6_one hv.w W hP (by omega)) (fun v1 R1 h1 I1 ⟨q1, q2, q3, hf, hn⟩ => ?_)
        subst q1; subst q2; subst q3
        have hF : zFc I I1 := hf.c
        have hP1 := zRep_fs hv.w hf hn hP
        have m1 : zOm I I1 := zOm_of (fun c hc => hF c (by omega))
        have W1 := W.ox m1
        refine g_al2 (rL_law_305 L xs) ?_
        refine g_sl0 (rL_law_306 L xs) ?_
        refine g_il3 (rL_law_307 L xs) ?_
        refine g_k (rL_law_308 L xs) ?_
        refine g_iadd (rL_law_309 L xs) ?_
        refine g_eqv (y := nI (4 * k + 1)) (nI_add (4 * k) 1) ?_
        refine g_sld (rL_law_310 L xs) rfl (vp_in_nI (by omega) (by omega)) ?_
        refine g_sl0 (rL_law_311 L xs) ?_
        refine g_il3 (rL_law_312 L xs) ?_
        refine g_k (rL_law_313 L xs) ?_
        refine g_iadd (rL_law_314 L xs) ?_
        refine g_eqv (y := nI (4 * k + 2)) (nI_add (4 * k) 2) ?_
        refine g_sld (rL_law_315 L xs) rfl (vp_in_nI (by omega) (by omega)) ?_
        refine g_lV2 (rL_law_316 L xs) ok7_one pl7_one xx_54 (Nat.le_of_ble_eq_true rfl) (el7_one (zOx.refl I1) W1) (fun v2 R2 h2 I2 ⟨p1, p2, p3, hO⟩ => ?_)
        subst p1; subst p2; subst p3
        refine g_iceq (rL_law_319 L xs) (fun _ => ?_) (fun hc => absurd ((zonR_om m1 _ _).symm) hc)
        refine g_ii3 (rL_law_572 L xs) rfl ?_
        rw [show nI (4 * k) + 4 = nI (4 * (k + 1)) from nI_add (4 * k) 4]
        refine g_goto (rL_law_575 L xs) ?_
        exact ih (k + 1) w v0 e1 e2 _ I2 (by omega) (by omega) (zq_next hs hP1 hF hO (show 12000 * k + 300 ≤ 12000 * (k + 1) by omega) (by omega)) he1 he2 hne
      · refine g_al1 (rL_law_324 L xs) ?_
        refine g_sl0 (rL_law_325 L xs) ?_
        refine g_il3 (rL_law_326 L xs) ?_
        refine g_k (rL_law_327 L xs) ?_
        refine g_iadd (rL_law_328 L xs) ?_
        refine g_eqv (y := nI (4 * k + 1)) (nI_add (4 * k) 1) ?_
        refine g_sld (rL_law_329 L xs) rfl (vp_in_nI (by omega) (by omega)) ?_
        refine g_sl0 (rL_law_330 L xs) ?_
        refine g_il3 (rL_law_331 L xs) ?_
        refine g_k (rL_law_332 L xs) ?_
        refine g_iadd (rL_law_333 L xs) ?_
        refine g_eqv (y := nI (4 * k + 2)) (nI_add (4 * k) 2) ?_
        refine g_sld (rL_law_334 L xs) rfl (vp_in_nI (by omega) (by omega)) ?_
        refine g_lV2 (rL_law_335 L xs) ok6_plan pl6_plan xx_0 (Nat.le_of_ble_eq_true rfl) (ev6_plan hv.w W hP (by omega)) (fun v1 R1 h1 I1 ⟨q1, q2, q3, hf, hn⟩ => ?_)
        subst q1; subst q2; subst q3
        have hF : zFc I I1 := hf.c
        have hP1 := zRep_fs hv.w hf hn hP
        have m1 : zOm I I1 := zOm_of (fun c hc => hF c (by omega))
        have W1 := W.ox m1
        refine g_al2 (rL_law_338 L xs) ?_
        refine g_sl0 (rL_law_339 L xs) ?_
        refine g_il3 (rL_law_340 L xs) ?_
        refine g_k (rL_law_341 L xs) ?_
        refine g_iadd (rL_law_342 L xs) ?_
        refine g_eqv (y := nI (4 * k + 1)) (nI_add (4 * k) 1) ?_
        refine g_sld (rL_law_343 L xs) rfl (vp_in_nI (by omega) (by omega)) ?_
        refine g_sl0 (rL_law_344 L xs) ?_
        refine g_il3 (rL_law_345 L xs) ?_
        refine g_k (rL_law_346 L xs) ?_
        refine g_iadd (rL_law_347 L xs) ?_
        refine g_eqv (y := nI (4 * k + 2)) (nI_add (4 * k) 2) ?_
        refine g_sld (rL_law_348 L xs) rfl (vp_in_nI (by omega) (by omega)) ?_
        refine g_lV2 (rL_law_349 L xs) ok7_plan pl7_plan xx_54 (Nat.le_of_ble_eq_true rfl) (el7_plan (zOx.refl I1) W1) (fun v2 R2 h2 I2 ⟨p1, p2, p3, hO⟩ => ?_)
        subst p1; subst p2; subst p3
        refine g_iceq (rL_law_352 L xs) (fun _ => ?_) (fun hc => absurd ((zplR_om m1 _ _).symm) hc)
        refine g_ii3 (rL_law_572 L xs) rfl ?_
        rw [show nI (4 * k) + 4 = nI (4 * (k + 1)) from nI_add (4 * k) 4]
        refine g_goto (rL_law_575 L xs) ?_
        exact ih (k + 1) w v0 e1 e2 _ I2 (by omega) (by omega) (zq_next hs hP1 hF hO (show 12000 * k + 300 ≤ 12000 * (k + 1) by omega) (by omega)) he1 he2 hne
      · refine g_al1 (rL_law_357 L xs) ?_
        refine g_sl0 (rL_law_358 L xs) ?_
        refine g_il3 (rL_law_359 L xs) ?_
        refine g_k (rL_law_360 L xs) ?_
        refine g_iadd (rL_law_361 L xs) ?_
        refine g_eqv (y := nI (4 * k + 1)) (nI_add (4 * k) 1) ?_
        refine g_sld (rL_law_362 L xs) rfl (vp_in_nI (by omega) (by omega)) ?_
        refine g_sl0 (rL_law_363 L xs) ?_
        refine g_il3 (rL_law_364 L xs) ?_
        refine g_k (rL_law_365 L xs) ?_
        refine g_iadd (rL_law_366 L xs) ?_
        refine g_eqv (y := nI (4 * k + 2)) (nI_add (4 * k) 2) ?_
        refine g_sld (rL_law_367 L xs) rfl (vp_in_nI (by omega) (by omega)) ?_
        refine g_sl0 (rL_law_368 L xs) ?_
        refine g_il3 (rL_law_369 L xs) ?_
        refine g_k (rL_law_370 L xs) ?_
        refine g_iadd (rL_law_371 L xs) ?_
        refine g_eqv (y := nI (4 * k + 3)) (nI_add (4 * k) 3) ?_
        refine g_sld (rL_law_372 L xs) rfl (vp_in_nI (by omega) (by omega)) ?_
        refine g_lV3 (rL_law_373 L xs) ok6_foil pl6_foil xx_0 (Nat.le_of_ble_eq_true rfl) (ev6_foil hv.w W hP (by omega)) (fun v1 R1 h1 I1 ⟨q1, q2, q3, hf, hn⟩ => ?_)
        subst q1; subst q2; subst q3
        have hF : zFc I I1 := hf.c
        have hP1 := zRep_fs hv.w hf hn hP
        have m1 : zOm I I1 := zOm_of (fun c hc => hF c (by omega))
        have W1 := W.ox m1
        refine g_al2 (rL_law_376 L xs) ?_
        refine g_sl0 (rL_law_377 L xs) ?_
        refine g_il3 (rL_law_378 L xs) ?_
        refine g_k (rL_law_379 L xs) ?_
        refine g_iadd (rL_law_380 L xs) ?_
        refine g_eqv (y := nI (4 * k + 1)) (nI_add (4 * k) 1) ?_
        refine g_sld (rL_law_381 L xs) rfl (vp_in_nI (by omega) (by omega)) ?_
        refine g_sl0 (rL_law_382 L xs) ?_
        refine g_il3 (rL_law_383 L xs) ?_
        refine g_k (rL_law_384 L xs) ?_
        refine g_iadd (rL_law_385 L xs) ?_
        refine g_eqv (y := nI (4 * k + 2)) (nI_add (4 * k) 2) ?_
        refine g_sld (rL_law_386 L xs) rfl (vp_in_nI (by omega) (by omega)) ?_
        refine g_sl0 (rL_law_387 L xs) ?_
        refine g_il3 (rL_law_388 L xs) ?_
        refine g_k (rL_law_389 L xs) ?_
        refine g_iadd (rL_law_390 L xs) ?_
        refine g_eqv (y := nI (4 * k + 3)) (nI_add (4 * k) 3) ?_
        refine g_sld (rL_law_391 L xs) rfl (vp_in_nI (by omega) (by omega)) ?_
        refine g_lV3 (rL_law_392 L xs) ok7_foil pl7_foil xx_54 (Nat.le_of_ble_eq_true rfl) (el7_foil (zOx.refl I1) W1) (fun v2 R2 h2 I2 ⟨p1, p2, p3, hO⟩ => ?_)
        subst p1; subst p2; subst p3
        refine g_iceq (rL_law_395 L xs) (fun _ => ?_) (fun hc => absurd ((zfoR_om m1 _ _ _).symm) hc)
        refine g_ii3 (rL_law_572 L xs) rfl ?_
        rw [show nI (4 * k) + 4 = nI (4 * (k + 1)) from nI_add (4 * k) 4]
        refine g_goto (rL_law_575 L xs) ?_
        exact ih (k + 1) w v0 e1 e2 _ I2 (by omega) (by omega) (zq_next hs hP1 hF hO (show 12000 * k + 300 ≤ 12000 * (k + 1) by omega) (by omega)) he1 he2 hne
      · refine g_al1 (rL_law_400 L xs) ?_
        refine g_sl0 (rL_law_401 L xs) ?_
        refine g_il3 (rL_law_402 L xs) ?_
        refine g_k (rL_law_403 L xs) ?_
        refine g_iadd (rL_law_404 L xs) ?_
        refine g_eqv (y := nI (4 * k + 1)) (nI_add (4 * k) 1) ?_
        refine g_sld (rL_law_405 L xs) rfl (vp_in_nI (by omega) (by omega)) ?_
        refine g_sl0 (rL_law_406 L xs) ?_
        refine g_il3 (rL_law_407 L xs) ?_
        refine g_k (rL_law_408 L xs) ?_
        refine g_iadd (rL_law_409 L xs) ?_
        refine g_eqv (y := nI (4 * k + 2)) (nI_add (4 * k) 2) ?_
        refine g_sld (rL_law_410 L xs) rfl (vp_in_nI (by omega) (by omega)) ?_
        refine g_lV2 (rL_law_411 L xs) ok6_deed pl6_deed xx_0 (Nat.le_of_ble_eq_true rfl) (ev6_deed hv.w W hP) (fun v1 R1 h1 I1 ⟨q1, q2, q3, q4⟩ => ?_)
        subst q1; subst q2; subst q3; subst q4
        refine g_al2 (rL_law_414 L xs) ?_
        refine g_sl0 (rL_law_415 L xs) ?_
        refine g_il3 (rL_law_416 L xs) ?_
        refine g_k (rL_law_417 L xs) ?_
        refine g_iadd (rL_law_418 L xs) ?_
        refine g_eqv (y := nI (4 * k + 1)) (nI_add (4 * k) 1) ?_
        refine g_sld (rL_law_419 L xs) rfl (vp_in_nI (by omega) (by omega)) ?_
        refine g_sl0 (rL_law_420 L xs) ?_
        refine g_il3 (rL_law_421 L xs) ?_
        refine g_k (rL_law_422 L xs) ?_
        refine g_iadd (rL_law_423 L xs) ?_
        refine g_eqv (y := nI (4 * k + 2)) (nI_add (4 * k) 2) ?_
        refine g_sld (rL_law_424 L xs) rfl (vp_in_nI (by omega) (by omega)) ?_
        refine g_lV2 (rL_law_425 L xs) ok7_deed pl7_deed xx_54 (Nat.le_of_ble_eq_true rfl) (ev7_deed W.m W.m10 W.t W.t30) (fun v2 R2 h2 I2 ⟨p1, p2, p3, p4⟩ => ?_)
        subst p1; subst p2; subst p3; subst p4
        refine g_iceq (rL_law_428 L xs) (fun _ => ?_) (fun hc => absurd (rfl) hc)
        refine g_ii3 (rL_law_572 L xs) rfl ?_
        rw [show nI (4 * k) + 4 = nI (4 * (k + 1)) from nI_add (4 * k) 4]
        refine g_goto (rL_law_575 L xs) ?_
        exact ih (k + 1) w v0 e1 e2 _ _ (by omega) (by omega) (zq_next hs hP (zFc.refl _) (zOx.refl _) (show 12000 * k + 0 ≤ 12000 * (k + 1) by omega) (by omega)) he1 he2 hne
      · refine g_al1 (rL_law_433 L xs) ?_
        refine g_sl0 (rL_law_434 L xs) ?_
        refine g_il3 (rL_law_435 L xs) ?_
        refine g_k (rL_law_436 L xs) ?_
        refine g_iadd (rL_law_437 L xs) ?_
        refine g_eqv (y := nI (4 * k + 1)) (nI_add (4 * k) 1) ?_
        refine g_sld (rL_law_438 L xs) rfl (vp_in_nI (by omega) (by omega)) ?_
        refine g_sl0 (rL_law_439 L xs) ?_
        refine g_il3 (rL_law_440 L xs) ?_
        refine g_k (rL_law_441 L xs) ?_
        refine g_iadd (rL_law_442 L xs) ?_
        refine g_eqv (y := nI (4 * k + 2)) (nI_add (4 * k) 2) ?_
        refine g_sld (rL_law_443 L xs) rfl (vp_in_nI (by omega) (by omega)) ?_
        refine g_lV2 (rL_law_444 L xs) ok6_step pl6_step xx_0 (Nat.le_of_ble_eq_true rfl) (ev6_step hv.w W hP) (fun v1 R1 h1 I1 ⟨q1, q2, q3, q4⟩ => ?_)
        subst q1; subst q2; subst q3; subst q4
        refine g_al2 (rL_law_447 L xs) ?_
        refine g_sl0 (rL_law_448 L xs) ?_
        refine g_il3 (rL_law_449 L xs) ?_
        refine g_k (rL_law_450 L xs) ?_
        refine g_iadd (rL_law_451 L xs) ?_
        refine g_eqv (y := nI (4 * k + 1)) (nI_add (4 * k) 1) ?_
        refine g_sld (rL_law_452 L xs) rfl (vp_in_nI (by omega) (by omega)) ?_
        refine g_sl0 (rL_law_453 L xs) ?_
        refine g_il3 (rL_law_454 L xs) ?_
        refine g_k (rL_law_455 L xs) ?_
        refine g_iadd (rL_law_456 L xs) ?_
        refine g_eqv (y := nI (4 * k + 2)) (nI_add (4 * k) 2) ?_
        refine g_sld (rL_law_457 L xs) rfl (vp_in_nI (by omega) (by omega)) ?_
        refine g_lV2 (rL_law_458 L xs) ok7_step pl7_step xx_54 (Nat.le_of_ble_eq_true rfl) (el7_step (zOx.refl _) W) (fun v2 R2 h2 I2 ⟨p1, p2, p3, hO⟩ => ?_)
        subst p1; subst p2; subst p3
        refine g_iceq (rL_law_461 L xs) (fun _ => ?_) (fun hc => absurd (rfl) hc)
        refine g_ii3 (rL_law_572 L xs) rfl ?_
        rw [show nI (4 * k) + 4 = nI (4 * (k + 1)) from nI_add (4 * k) 4]
        refine g_goto (rL_law_575 L xs) ?_
        exact ih (k + 1) w v0 e1 e2 _ I2 (by omega) (by omega) (zq_next hs hP (zFc.refl _) hO (show 12000 * k + 0 ≤ 12000 * (k + 1) by omega) (by omega)) he1 he2 hne
      · refine g_al1 (rL_law_466 L xs) ?_
        refine g_sl0 (rL_law_467 L xs) ?_
        refine g_il3 (rL_law_468 L xs) ?_
        refine g_k (rL_law_469 L xs) ?_
        refine g_iadd (rL_law_470 L xs) ?_
        refine g_eqv (y := nI (4 * k + 1)) (nI_add (4 * k) 1) ?_
        refine g_sld (rL_law_471 L xs) rfl (vp_in_nI (by omega) (by omega)) ?_
        refine g_lV1 (rL_law_472 L xs) ok6_story pl6_story xx_0 (Nat.le_of_ble_eq_true rfl) (ev6_story hv.w W hP) (fun v1 R1 h1 I1 ⟨q1, q2, q3, q4⟩ => ?_)
        subst q1; subst q2; subst q3; subst q4
        refine g_al2 (rL_law_475 L xs) ?_
        refine g_sl0 (rL_law_476 L xs) ?_
        refine g_il3 (rL_law_477 L xs) ?_
        refine g_k (rL_law_478 L xs) ?_
        refine g_iadd (rL_law_479 L xs) ?_
        refine g_eqv (y := nI (4 * k + 1)) (nI_add (4 * k) 1) ?_
        refine g_sld (rL_law_480 L xs) rfl (vp_in_nI (by omega) (by omega)) ?_
        refine g_lV1 (rL_law_481 L xs) ok7_story pl7_story xx_54 (Nat.le_of_ble_eq_true rfl) (el7_story (zOx.refl _) W) (fun v2 R2 h2 I2 ⟨p1, p2, p3, hO⟩ => ?_)
        subst p1; subst p2; subst p3
        refine g_iceq (rL_law_484 L xs) (fun _ => ?_) (fun hc => absurd (rfl) hc)
        refine g_ii3 (rL_law_572 L xs) rfl ?_
        rw [show nI (4 * k) + 4 = nI (4 * (k + 1)) from nI_add (4 * k) 4]
        refine g_goto (rL_law_575 L xs) ?_
        exact ih (k + 1) w v0 e1 e2 _ I2 (by omega) (by omega) (zq_next hs hP (zFc.refl _) hO (show 12000 * k + 0 ≤ 12000 * (k + 1) by omega) (by omega)) he1 he2 hne
      · refine g_al1 (rL_law_489 L xs) ?_
        refine g_sl0 (rL_law_490 L xs) ?_
        refine g_il3 (rL_law_491 L xs) ?_
        refine g_k (rL_law_492 L xs) ?_
        refine g_iadd (rL_law_493 L xs) ?_
        refine g_eqv (y := nI (4 * k + 1)) (nI_add (4 * k) 1) ?_
        refine g_sld (rL_law_494 L xs) rfl (vp_in_nI (by omega) (by omega)) ?_
        refine g_lV1 (rL_law_495 L xs) ok6_together pl6_together xx_0 (Nat.le_of_ble_eq_true rfl) (ev6_together hv.w W hP (by omega)) (fun v1 R1 h1 I1 ⟨q1, q2, q3, hf, hn⟩ => ?_)
        subst q1; subst q2; subst q3
        have hF : zFc I I1 := hf.c
        have hP1 := zRep_fs hv.w hf hn hP
        have m1 : zOm I I1 := zOm_of (fun c hc => hF c (by omega))
        have W1 := W.ox m1
        refine g_al2 (rL_law_498 L xs) ?_
        refine g_sl0 (rL_law_499 L xs) ?_
        refine g_il3 (rL_law_500 L xs) ?_
        refine g_k (rL_law_501 L xs) ?_
        refine g_iadd (rL_law_502 L xs) ?_
        refine g_eqv (y := nI (4 * k + 1)) (nI_add (4 * k) 1) ?_
        refine g_sld (rL_law_503 L xs) rfl (vp_in_nI (by omega) (by omega)) ?_
        refine g_lV1 (rL_law_504 L xs) ok7_together pl7_together xx_54 (Nat.le_of_ble_eq_true rfl) (el7_together (zOx.refl I1) W1) (fun v2 R2 h2 I2 ⟨p1, p2, p3, hO⟩ => ?_)
        subst p1; subst p2; subst p3
        refine g_iceq (rL_law_507 L xs) (fun _ => ?_) (fun hc => absurd ((ztoR_om m1 _).symm) hc)
        refine g_ii3 (rL_law_572 L xs) rfl ?_
        rw [show nI (4 * k) + 4 = nI (4 * (k + 1)) from nI_add (4 * k) 4]
        refine g_goto (rL_law_575 L xs) ?_
        exact ih (k + 1) w v0 e1 e2 _ I2 (by omega) (by omega) (zq_next hs hP1 hF hO (show 12000 * k + 300 ≤ 12000 * (k + 1) by omega) (by omega)) he1 he2 hne
      · refine g_al1 (rL_law_512 L xs) ?_
        refine g_sl0 (rL_law_513 L xs) ?_
        refine g_il3 (rL_law_514 L xs) ?_
        refine g_k (rL_law_515 L xs) ?_
        refine g_iadd (rL_law_516 L xs) ?_
        refine g_eqv (y := nI (4 * k + 1)) (nI_add (4 * k) 1) ?_
        refine g_sld (rL_law_517 L xs) rfl (vp_in_nI (by omega) (by omega)) ?_
        refine g_lV1 (rL_law_518 L xs) ok6_ways pl6_ways xx_0 (Nat.le_of_ble_eq_true rfl) (ev6_ways hv.w W hP he1 he2 hne) (fun v1 R1 h1 I1 ⟨q1, ⟨f1, f2, hf1, hf2, hfn, q2⟩, q3, hc⟩ => ?_)
        subst q1; subst q2; subst q3
        have hF : zFc I I1 := fun c hh => hc c (by omega) (by omega)
        have hP1 := zRep_wy hv.w hP hc
        have m1 : zOm I I1 := zOm_of (fun c hc => hF c (by omega))
        have W1 := W.ox m1
        refine g_al2 (rL_law_521 L xs) ?_
        refine g_sl0 (rL_law_522 L xs) ?_
        refine g_il3 (rL_law_523 L xs) ?_
        refine g_k (rL_law_524 L xs) ?_
        refine g_iadd (rL_law_525 L xs) ?_
        refine g_eqv (y := nI (4 * k + 1)) (nI_add (4 * k) 1) ?_
        refine g_sld (rL_law_526 L xs) rfl (vp_in_nI (by omega) (by omega)) ?_
        refine g_lV1 (rL_law_527 L xs) ok7_ways pl7_ways xx_54 (Nat.le_of_ble_eq_true rfl) (el7_ways (zOx.refl I1) W1) (fun v2 R2 h2 I2 ⟨p1, p2, p3, hO⟩ => ?_)
        subst p1; subst p2; subst p3
        refine g_iceq (rL_law_530 L xs) (fun _ => ?_) (fun hc => absurd ((zwyR_om m1 _).symm) hc)
        refine g_ii3 (rL_law_572 L xs) rfl ?_
        rw [show nI (4 * k) + 4 = nI (4 * (k + 1)) from nI_add (4 * k) 4]
        refine g_goto (rL_law_575 L xs) ?_
        exact ih (k + 1) w v0 f1 f2 _ I2 (by omega) (by omega) (zq_next hs hP1 hF hO (show 12000 * k + 0 ≤ 12000 * (k + 1) by omega) (by omega)) hf1 hf2 hfn
      · refine g_al1 (rL_law_535 L xs) ?_
        refine g_sl0 (rL_law_536 L xs) ?_
        refine g_il3 (rL_law_537 L xs) ?_
        refine g_k (rL_law_538 L xs) ?_
        refine g_iadd (rL_law_539 L xs) ?_
        refine g_eqv (y := nI (4 * k + 1)) (nI_add (4 * k) 1) ?_
        refine g_sld (rL_law_540 L xs) rfl (vp_in_nI (by omega) (by omega)) ?_
        refine g_lV1 (rL_law_541 L xs) ok6_count pl6_count xx_0 (Nat.le_of_ble_eq_true rfl) (ev6_count hv.w W hP) (fun v1 R1 h1 I1 ⟨q1, q2, q3, q4⟩ => ?_)
        subst q1; subst q2; subst q3; subst q4
        refine g_al2 (rL_law_544 L xs) ?_
        refine g_sl0 (rL_law_545 L xs) ?_
        refine g_il3 (rL_law_546 L xs) ?_
        refine g_k (rL_law_547 L xs) ?_
        refine g_iadd (rL_law_548 L xs) ?_
        refine g_eqv (y := nI (4 * k + 1)) (nI_add (4 * k) 1) ?_
        refine g_sld (rL_law_549 L xs) rfl (vp_in_nI (by omega) (by omega)) ?_
        refine g_lV1 (rL_law_550 L xs) ok7_count pl7_count xx_54 (Nat.le_of_ble_eq_true rfl) (ev7_count) (fun v2 R2 h2 I2 ⟨p1, p2, p3, p4⟩ => ?_)
        subst p1; subst p2; subst p3; subst p4
        refine g_iceq (rL_law_553 L xs) (fun _ => ?_) (fun hc => absurd (rfl) hc)
        refine g_ii3 (rL_law_572 L xs) rfl ?_
        rw [show nI (4 * k) + 4 = nI (4 * (k + 1)) from nI_add (4 * k) 4]
        refine g_goto (rL_law_575 L xs) ?_
        exact ih (k + 1) w v0 e1 e2 _ _ (by omega) (by omega) (zq_next hs hP (zFc.refl _) (zOx.refl _) (show 12000 * k + 0 ≤ 12000 * (k + 1) by omega) (by omega)) he1 he2 hne
      · refine g_al1 (rL_law_558 L xs) ?_
        refine g_lV0 (rL_law_559 L xs) ok6_digest pl6_digest xx_0 (Nat.le_of_ble_eq_true rfl) (ev6_digest hv.w W hP (by omega) he1 he2 hne) (fun v1 R1 h1 I1 ⟨q1, ⟨f1, f2, hf1, hf2, hfn, q2⟩, q3, hP1, hF⟩ => ?_)
        subst q1; subst q2; subst q3
        have m1 : zOm I I1 := zOm_of (fun c hc => hF c (by omega))
        have W1 := W.ox m1
        refine g_al2 (rL_law_562 L xs) ?_
        refine g_lV0 (rL_law_563 L xs) ok7_digest pl7_digest xx_54 (Nat.le_of_ble_eq_true rfl) (el7_digest (zOx.refl I1) W1) (fun v2 R2 h2 I2 ⟨p1, p2, hO⟩ => ?_)
        subst p1; subst p2
        refine g_lcmp (rL_law_566 L xs) ?_
        refine g_ifeq (rL_law_567 L xs) (fun _ => ?_) (fun hc => absurd (zcmp0 (zdg_om m1).symm) hc)
        refine g_ii3 (rL_law_572 L xs) rfl ?_
        rw [show nI (4 * k) + 4 = nI (4 * (k + 1)) from nI_add (4 * k) 4]
        refine g_goto (rL_law_575 L xs) ?_
        exact ih (k + 1) w v0 f1 f2 _ I2 (by omega) (by omega) (zq_next hs hP1 hF hO (show 12000 * k + 12000 ≤ 12000 * (k + 1) by omega) (by omega)) hf1 hf2 hfn
      · refine g_ii3 (rL_law_572 L xs) rfl ?_
        rw [show nI (4 * k) + 4 = nI (4 * (k + 1)) from nI_add (4 * k) 4]
        refine g_goto (rL_law_575 L xs) ?_
        exact ih (k + 1) w v0 e1 e2 _ I (by omega) (by omega) (zq_next hs hP (zFc.refl _) (zOx.refl _) (show 12000 * k + 0 ≤ 12000 * (k + 1) by omega) (by omega)) he1 he2 hne
