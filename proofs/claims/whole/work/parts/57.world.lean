theorem ev2_isComplete0 {w v0 e1 e2 : Nat} {h : Int64} {I : zMI} {u : Nat} (hu : zW u) (ha : I u 10 = nI 0) : zEr m2_isComplete (zRR w v0 e1 e2) h I [.ref 3, .ref u] (some (.int 0)) (zRR w v0 e1 e2) h I := by
  refine zEp_of [.ref 3, .ref u, .null] pl2_isComplete (by decide +kernel) (fun _ _ => rfl) (fun _ _ => Nat.le_of_ble_eq_true rfl) ?_
  refine g_al1 r2_isComplete_0 ?_
  refine g_gfi r2_isComplete_1 (xw hu) rfl ?_
  refine g_eqv (y := nI 0) ha ?_
  refine g_k r2_isComplete_4 ?_
  refine g_isub r2_isComplete_5 ?_
  refine g_is2 r2_isComplete_6 rfl ?_
  refine g_il2 r2_isComplete_7 ?_
  refine g_iflt r2_isComplete_8 (fun h8 => ?_) (fun hc => absurd hc (by decide))
  refine g_k r2_isComplete_17 ?_
  exact g_zret r2_isComplete_18 rfl (Or.inl rfl) ⟨rfl, ⟨rfl, rfl, rfl, rfl⟩⟩
def zCd (C : zMI) (u a : Nat) : Prop := 0 < a ∧ (C 3 0 = 8 ∧ ¬ C (u + 8) (a - 1) = 0 ∨ C 3 0 = 9 ∧ ¬ C (u + 9) (a - 1) = 0)
theorem ev2_isComplete {w v0 e1 e2 : Nat} {h : Int64} {I : zMI} {u a : Nat} (hu : zW u) (ha : I u 10 = nI a) (ha10 : a ≤ 10) : zEp m2_isComplete (zRR w v0 e1 e2) h I [.ref 3, .ref u] (fun v R1 h1 I1 => (∃ x : Int32, v = some (.int x) ∧ (¬ x = 0 ↔ zCd I u a)) ∧ R1 = zRR w v0 e1 e2 ∧ h1 = h ∧ I1 = I) := by
  cases a with
  | zero => exact zEp_post (ev2_isComplete0 hu ha) (fun v R1 h1 I1 ⟨q1, q2, q3, q4⟩ => ⟨⟨0, q1, fun q => absurd rfl q, fun q => absurd q.1 (Nat.lt_irrefl 0)⟩, q2, q3, q4⟩)
  | succ b =>
    have e : (¬ zrCo I u b = 0) ↔ zCd I u (b + 1) := by
      unfold zrCo zCd
      rw [zb_0, Nat.add_sub_cancel]
      constructor
      · intro q; exact ⟨by omega, Classical.byContradiction q⟩
      · rintro ⟨-, q⟩ c; exact c q
    rcases hu with rfl | rfl
    · exact zEp_post (ev2_isComplete_34 ha (by omega)) (fun v R1 h1 I1 ⟨q1, q2, q3, q4⟩ => ⟨⟨_, q1, e⟩, q2, q3, q4⟩)
    · exact zEp_post (ev2_isComplete_44 ha (by omega)) (fun v R1 h1 I1 ⟨q1, q2, q3, q4⟩ => ⟨⟨_, q1, e⟩, q2, q3, q4⟩)
theorem zRR_o {w v e1 e2 w' v' a : Nat} (h : ¬ a = 0) : zRR w v e1 e2 a = zRR w' v' e1 e2 a := by
  unfold zRR; split <;> first | rfl | exact absurd rfl h
theorem zRR_pw (w v e1 e2 : Nat) : zrs (zrs (zRR w v e1 e2) 0 7 (some w)) 0 6 (some v) = zRR v w e1 e2 := by
  funext a b
  by_cases h : a = 0
  · subst h
    by_cases b6 : b = 6
    · subst b6; rfl
    · by_cases b7 : b = 7
      · subst b7; rfl
      · have e : zrs (zrs (zRR w v e1 e2) 0 7 (some w)) 0 6 (some v) 0 b = zRR w v e1 e2 0 b := by simp [zrs, b6, b7]
        rw [e]
        show zR0 w v b = zR0 v w b
        unfold zR0; split <;> first | rfl | exact absurd rfl b6 | exact absurd rfl b7
  · simp only [zrs, h, false_and, if_false]; rw [zRR_o h]
/-- the class's cells once the page is the world: C behind the reading -/
def zCw (C I I1 : zMI) (u : Nat) : Prop := (I1 0 8 = 1 ∧ I1 0 9 = I 0 9 + 1 ∧ I1 0 10 = I 0 10 ∧ I1 0 11 = I 0 11) ∧ I1 1 1 = 0 ∧ (I1 4 12 = 0 ∧ I1 4 13 = 0 ∧ I1 4 14 = C u 11 ∧ I1 4 15 = C u 11) ∧ (∀ a, a < 10 → I1 11 a = 0) ∧ ∀ c, ¬ c = 0 → ¬ c = 1 → ¬ c = 4 → ¬ c = 11 → I1 c = C c
theorem ev6_world {w v0 e1 e2 : Nat} {h : Int64} {J I : zMI} (hv : zV w v0) (W : zWF J) {N : Nat} (hP : zRep w I J N) : zEp m6_world (zRR w v0 e1 e2) h I [.ref 0] (fun v R1 h1 I1 => h1 = h ∧ ((v = some (.int (-103)) ∧ R1 = zRR w v0 e1 e2 ∧ (∀ c, ¬ c = 3 → (c < v0 ∨ v0 + 9 < c) → I1 c = I c) ∧ ¬ (zct I v0 (I 2) (jL J) ∧ zCd (zcr I v0 (I 2) (jL J)) v0 (((zcr I v0 (I 2) (jL J)) v0 10).toNatClampNeg))) ∨ (zct I v0 (I 2) (jL J) ∧ zCd (zcr I v0 (I 2) (jL J)) v0 (((zcr I v0 (I 2) (jL J)) v0 10).toNatClampNeg) ∧ v = some (.int ((zcr I v0 (I 2) (jL J)) v0 10)) ∧ R1 = zRR v0 w e1 e2 ∧ zCw (zcr I v0 (I 2) (jL J)) I I1 v0))) := by
  have L90 := W.L90
  refine zEp_of [.ref 0, .null, .null] pl6_world (by decide +kernel) (fun _ _ => rfl) (fun _ _ => Nat.le_of_ble_eq_true rfl) ?_
  refine g_al0 r6_world_0 ?_
  refine g_gfr r6_world_1 xx_0 rfl rr_0_1 ?_
  refine g_al0 r6_world_4 ?_
  refine g_gfr r6_world_5 xx_0 rfl rr_0_0 ?_
  refine g_al0 r6_world_8 ?_
  refine g_gfr r6_world_9 xx_0 rfl rr_0_7 ?_
  refine g_cV2 r6_world_12 ok2_read pl6_world pl2_read xx_3 (Nat.le_of_ble_eq_true rfl) (ev2_read hv.v W hP.2.2.1 hP.2.2.2) (fun v' R' h' I1 ⟨q1, q2, q3, k1, k2, k3, k4⟩ => ?_)
  subst q1; subst q2; subst q3
  refine g_is1 r6_world_15 rfl ?_
  refine g_il1 r6_world_16 ?_
  refine g_al0 r6_world_17 ?_
  refine g_gfr r6_world_18 xx_0 rfl rr_0_0 ?_
  refine g_gfi r6_world_21 xx_1 rfl ?_
  refine g_eqv (y := nI (jL J)) (by rw [k4 1 (by decide) (by rcases hv with ⟨-, q⟩ | ⟨-, q⟩ <;> omega)]; exact hP.2.2.1.trans W.L) ?_
  refine g_icltN r6_world_24 (by omega) (by omega) (fun h24 => ?_) (fun h24 => ?_)
  · refine g_k r6_world_41 ?_
    exact g_iret r6_world_43 rfl ⟨rfl, ⟨rfl, Or.inl ⟨rfl, rfl, k4, fun q => by have := k2.mpr q.1; omega⟩⟩⟩
  · have ek : zfk J = jL J := by omega
    have eC := k3 ek
    have hct := k2.mp ek
    have hr := zrun (I := I) (J := J) (g := I 2) (f := J 68) hv.v (L := jL J) (fun i hi => ⟨hP.2.2.2 i hi, W.Gc i hi⟩) (jL J) (Nat.le_refl _)
    obtain ⟨n, a, s, hPI, hS⟩ := hr.2 (hr.1.mp hct)
    have a10 := hPI.2.1.2.2.1
    have ea : ((zcr I v0 (I 2) (jL J)) v0 10).toNatClampNeg = a := by rw [hS.1.2.2.1]; exact nI_clamp (by omega)
    refine g_al0 r6_world_27 ?_
    refine g_gfr r6_world_28 xx_0 rfl rr_0_1 ?_
    refine g_al0 r6_world_31 ?_
    refine g_gfr r6_world_32 xx_0 rfl rr_0_7 ?_
    refine g_cV1 r6_world_35 ok2_isComplete pl6_world pl2_isComplete xx_3 (Nat.le_of_ble_eq_true rfl) (ev2_isComplete hv.v (by rw [eC]; exact hS.1.2.2.1) a10) (fun v' R' h' I2 ⟨⟨x, q1, hx⟩, q2, q3, q4⟩ => ?_)
    subst q1; subst q2; subst q3; subst q4
    refine g_ifne r6_world_38 (fun h38 => ?_) (fun h38 => ?_)
    · refine g_al0 r6_world_44 ?_
      refine g_gfr r6_world_45 xx_0 rfl rr_0_7 ?_
      refine g_as2 r6_world_48 rfl ?_
      refine g_al0 r6_world_49 ?_
      refine g_al0 r6_world_50 ?_
      refine g_gfr r6_world_51 xx_0 rfl rr_0_6 ?_
      refine g_pfr r6_world_54 xx_0 (Or.inl rfl) rfl ?_
      refine g_al0 r6_world_57 ?_
      refine g_al2 r6_world_58 ?_
      refine g_pfr r6_world_59 xx_0 (Or.inl rfl) rfl ?_
      rw [zRR_pw]
      rw [eC]
      refine g_al0 r6_world_62 ?_
      refine g_k r6_world_63 ?_
      refine g_pfz r6_world_64 xx_0 rfl rfl (Or.inr rfl) ?_
      refine g_al0 r6_world_67 ?_
      refine g_dup r6_world_68 rfl ?_
      refine g_gfi r6_world_69 xx_0 rfl ?_
      refine g_k r6_world_72 ?_
      refine g_iadd r6_world_73 ?_
      refine g_pfi r6_world_74 xx_0 rfl rfl ?_
      have v00 : ¬ v0 = 0 := (by rcases hv with ⟨-, q⟩ | ⟨-, q⟩ <;> omega)
      have v01 : ¬ v0 = 1 := (by rcases hv with ⟨-, q⟩ | ⟨-, q⟩ <;> omega)
      have v04 : ¬ v0 = 4 := (by rcases hv with ⟨-, q⟩ | ⟨-, q⟩ <;> omega)
      have v011 : ¬ v0 = 11 := (by rcases hv with ⟨-, q⟩ | ⟨-, q⟩ <;> omega)
      refine g_al0 r6_world_77 ?_
      refine g_gfr r6_world_78 xx_0 rfl rr_0_2 ?_
      refine g_al0 r6_world_81 ?_
      refine g_gfr r6_world_82 xx_0 rfl rr_0_6 ?_
      refine g_gfi r6_world_85 (xw hv.v) rfl ?_
      refine g_eqv (y := (zcr I v0 (I 2) (jL J)) v0 11) (by rw [zs_o _ _ (v00), zs_o _ _ (v00)]) ?_
      refine g_cV1 r6_world_88 ok4_begin pl6_world pl4_begin xx_4 (Nat.le_of_ble_eq_true rfl) (ev4_begin) (fun v' R' h' I3 ⟨q1, q2, q3, b1, b2, b3⟩ => ?_)
      subst q1; subst q2; subst q3
      refine g_al0 r6_world_91 ?_
      refine g_gfr r6_world_92 xx_0 rfl rr_0_0 ?_
      refine g_k r6_world_95 ?_
      refine g_pfi r6_world_96 xx_1 rfl rfl ?_
      refine g_al0 r6_world_99 ?_
      refine g_gfr r6_world_100 xx_0 rfl rr_0_6 ?_
      refine g_gfi r6_world_103 (xw hv.v) rfl ?_
      refine g_eqv (y := (zcr I v0 (I 2) (jL J)) v0 10) (by rw [zs_o _ _ v01, b3 v0 v04 v011, zs_o _ _ v00, zs_o _ _ v00]) ?_
      have c0 : (zcr I v0 (I 2) (jL J)) 0 = I 0 := by rw [← eC]; exact k4 0 (by decide) (Or.inl (by omega))
      refine g_iret r6_world_106 rfl ⟨rfl, rfl, Or.inr ⟨hct, by rw [ea, ← eC]; exact hx.mp (by simpa using h38), rfl, rfl, ⟨?_, ?_, ?_, ?_, ?_⟩⟩⟩
      · rw [zs_o _ _ (by decide), b3 0 (by decide) (by decide)]; simp [zs_ap, upd_ap, c0]
      · rw [zs_eq]; simp [upd_ap]
      · rw [zs_o _ _ (by decide)]; exact b1
      · intro b hb; rw [zs_o _ _ (by decide)]; exact b2 b hb
      · intro c c0 c1 c4 c11; rw [zs_o _ _ c1, b3 c c4 c11, zs_o _ _ c0, zs_o _ _ c0]
    · refine g_k r6_world_41 ?_
      exact g_iret r6_world_43 rfl ⟨rfl, ⟨rfl, Or.inl ⟨rfl, rfl, k4, fun q => by rw [ea, ← eC] at q; exact hx.mpr q.2 (by simpa using h38)⟩⟩⟩
