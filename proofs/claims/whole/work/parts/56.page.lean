theorem zRep_pg {w : Nat} (hw : zW w) {I I1 J J' : zMI} {N : Nat} (h : zRep w I J N) (hJ : ∀ c, 54 < c → c < 68 → J' c = J c) (hf : ∀ j, ¬ j = 19 → J' 54 j = J 54 j) (hI : ∀ c, ¬ c = 1 → ¬ c = 2 → I1 c = I c) (hp : I1 1 1 = J' 54 19 ∧ ∀ k, k < jL J' → I1 2 k = J' 68 k) : zRep w I1 J' N := by
  have ej : jt J' = jt J := by unfold jt; rw [hf 13 (by decide)]
  refine ⟨⟨zWl_sj ⟨hf 0 (by decide), hf 5 (by decide), fun c c1 c2 => hJ c c1 (by omega)⟩ (zWl_c hw (fun c c1 c2 => hI c (by omega) (by omega)) h.1.1), zRs_px (I := I) ⟨fun k _ => ⟨by rw [hJ 63 (by decide) (by decide)], by rw [hJ 64 (by decide) (by decide)], by rw [hJ 65 (by decide) (by decide)]⟩, hJ 59 (by decide) (by decide), hJ 60 (by decide) (by decide)⟩ ej (fun k _ => ⟨by rw [hJ 66 (by decide) (by decide)], by rw [hJ 67 (by decide) (by decide)]⟩) (fun c c1 c2 => hI c (by omega) (by omega)) ?_ h.1.2.1, zNm_c (fun c c1 c2 => hI c (by omega) (by omega)) h.1.2.2⟩, ?_, hp⟩
  · rw [hI 4 (by decide) (by decide), hf 13 (by decide), hf 12 (by decide), hf 11 (by decide), hf 4 (by decide)]; exact h.1.2.1.1
  · rw [hI 0 (by decide) (by decide), hf 5 (by decide), hf 21 (by decide), hf 22 (by decide), hf 23 (by decide)]; exact h.2.1
theorem ev1_append {w v0 e1 e2 : Nat} {h : Int64} {I : zMI} {c : Int32} {L : Nat} (hL : I 1 1 = nI L) (hL90 : L < 90) : zEr m1_append (zRR w v0 e1 e2) h I [.ref 1, .int c] none (zRR w v0 e1 e2) h (zs (zs I 2 (upd (I 2) L c)) 1 (upd (I 1) 1 (nI (L + 1)))) := by
  refine zEp_of [.ref 1, .int c] pl1_append (by decide +kernel) (fun _ _ => rfl) (fun _ _ => Nat.le_of_ble_eq_true rfl) ?_
  refine g_al0 r1_append_0 ?_
  refine g_gfi r1_append_1 xx_1 rfl ?_
  refine g_eqv (y := nI (L)) (hL) ?_
  refine g_k r1_append_4 ?_
  refine g_eqv (y := nI 90) rfl ?_
  refine g_icgeN r1_append_6 (by omega) (by omega) (fun hc => absurd hc (by omega)) (fun h6 => ?_)
  refine g_al0 r1_append_9 ?_
  refine g_gfr r1_append_10 xx_1 rfl rr_1_0 ?_
  refine g_al0 r1_append_13 ?_
  refine g_gfi r1_append_14 xx_1 rfl ?_
  refine g_eqv (y := nI (L)) (hL) ?_
  refine g_il1 r1_append_17 ?_
  refine g_iastN r1_append_18 xx_2 (by omega) (by decide) ?_
  refine g_al0 r1_append_19 ?_
  refine g_dup r1_append_20 rfl ?_
  refine g_gfi r1_append_21 xx_1 rfl ?_
  refine g_eqv (y := nI (L)) (by rw [zs_o _ _ (by decide)]; exact hL) ?_
  refine g_k r1_append_24 ?_
  refine g_iadd r1_append_25 ?_
  refine g_eqv (y := nI (L + 1)) (nI_1 L) ?_
  refine g_pfi r1_append_26 xx_1 rfl rfl ?_
  exact g_vret r1_append_29 rfl ⟨rfl, ⟨rfl, rfl, rfl, by rw [zs_o I _ (show ¬ 1 = 2 by decide)]⟩⟩
theorem zlet_rep {w : Nat} (hw : zW w) {I J : zMI} (W : zWF J) {N : Nat} (hP : zRep w I J N) (h : jL J < 90) (x : Int32) : zRep w (zs (zs I 2 (upd (I 2) (jL J) x)) 1 (upd (I 1) 1 (nI (jL J + 1)))) (zs (zs J 68 (upd (J 68) (J 54 19).toNatClampNeg x)) 54 (upd (J 54) 19 (J 54 19 + 1))) N := by
  have eJ : (zs (zs J 68 (upd (J 68) (J 54 19).toNatClampNeg x)) 54 (upd (J 54) 19 (J 54 19 + 1))) 54 19 = nI (jL J + 1) := by rw [zs_eq]; simp [upd_ap, W.L, nI_1]
  have eL : jL (zs (zs J 68 (upd (J 68) (J 54 19).toNatClampNeg x)) 54 (upd (J 54) 19 (J 54 19 + 1))) = jL J + 1 := by unfold jL at *; rw [eJ]; exact nI_clamp (by omega)
  refine zRep_pg hw hP (fun c c1 c2 => by rw [zs_o _ _ (by omega), zs_o _ _ (by omega)]) (fun j hj => by rw [zs_eq]; simp [upd_ap, hj]) (fun c c1 c2 => by rw [zs_o _ _ c1, zs_o _ _ c2]) ⟨by rw [eJ, zs_eq]; simp [upd_ap], fun k hk => ?_⟩
  rw [eL] at hk
  rw [zs_o _ _ (by decide), zs_eq, zs_o _ _ (by decide), zs_eq]
  show upd (I 2) (jL J) x k = upd (J 68) (jL J) x k
  simp only [upd_ap]
  by_cases e : k = jL J
  · rw [if_pos e, if_pos e]
  · rw [if_neg e, if_neg e]; exact hP.2.2.2 k (by omega)
theorem zbl_rep {w : Nat} (hw : zW w) {I J : zMI} {N : Nat} (hP : zRep w I J N) : zRep w (zs I 1 (upd (I 1) 1 0)) (zs J 54 (upd (J 54) 19 0)) N :=
  zRep_pg hw hP (fun c c1 c2 => by rw [zs_o _ _ (by omega)]) (fun j hj => by rw [zs_eq]; simp [upd_ap, hj]) (fun c c1 c2 => by rw [zs_o _ _ c1]) ⟨by rw [zs_eq, zs_eq]; simp [upd_ap], fun k hk => by
    have e : jL (zs J 54 (upd (J 54) 19 0)) = 0 := by unfold jL; rw [zs_eq]; simp [upd_ap]
    omega⟩
theorem ev6_letter {w v0 e1 e2 : Nat} {h : Int64} {J I : zMI} (hw : zW w) (W : zWF J) {N : Nat} (hP : zRep w I J N) {x : Int32} : zEp m6_letter (zRR w v0 e1 e2) h I [.ref 0, .int x] (fun v R1 h1 I1 => v = some (.int (zletR J x)) ∧ R1 = (zRR w v0 e1 e2) ∧ h1 = h ∧ zRep w I1 (zletN J x) (N) ∧ zFc I I1) := by
  have L90 := W.L90
  refine zEp_of [.ref 0, .int x] pl6_letter (by decide +kernel) (fun _ _ => rfl) (fun _ _ => Nat.le_of_ble_eq_true rfl) ?_
  refine g_il1 r6_letter_0 ?_
  refine g_k r6_letter_1 ?_
  refine g_iclt r6_letter_3 (fun h3 => ?_) (fun h3 => ?_)
  · refine g_k r6_letter_12 ?_
    exact g_iret r6_letter_14 rfl ⟨rfl, ⟨zrt (by unfold zletR; rw [if_neg (fun q => q.1 h3)]), rfl, rfl, by unfold zletN; rw [if_neg (fun q => q.1.1 h3)]; exact hP, zFc.refl I⟩⟩
  · refine g_il1 r6_letter_6 ?_
    refine g_k r6_letter_7 ?_
    refine g_icleL r6_letter_9 (fun h9 => ?_) (fun h9 => ?_)
    · refine g_al0 r6_letter_15 ?_
      refine g_gfr r6_letter_16 xx_0 rfl rr_0_0 ?_
      refine g_gfi r6_letter_19 xx_1 rfl ?_
      refine g_eqv (y := nI (jL J)) (hP.2.2.1.trans W.L) ?_
      refine g_k r6_letter_22 ?_
      refine g_eqv (y := nI 90) rfl ?_
      refine g_icltN r6_letter_24 (by omega) (by omega) (fun h24 => ?_) (fun h24 => ?_)
      · refine g_al0 r6_letter_30 ?_
        refine g_gfr r6_letter_31 xx_0 rfl rr_0_0 ?_
        refine g_il1 r6_letter_34 ?_
        refine g_eV1 r6_letter_35 ok1_append pl6_letter pl1_append xx_1 (Nat.le_of_ble_eq_true rfl) (ev1_append (hP.2.2.1.trans W.L) h24) ?_
        refine g_al0 r6_letter_38 ?_
        refine g_gfr r6_letter_39 xx_0 rfl rr_0_0 ?_
        refine g_gfi r6_letter_42 xx_1 rfl ?_
        refine g_eqv (y := J 54 19 + 1) (by rw [zs_eq, W.L, nI_1]; simp [upd_ap]) ?_
        exact g_iret r6_letter_45 rfl ⟨rfl, ⟨zrt (by unfold zletR; rw [if_pos ⟨h3, h9⟩, if_neg (fun q => by have e := (nI_eq (a := jL J) (b := 90) (by omega) (by omega)).mp (W.L.symm.trans q); omega)]), rfl, rfl, by unfold zletN; rw [if_pos ⟨⟨h3, h9⟩, (fun q => by have e := (nI_eq (a := jL J) (b := 90) (by omega) (by omega)).mp (W.L.symm.trans q); omega)⟩]; exact zlet_rep hw W hP h24 x, fun c hc => by rw [zs_o _ _ (by omega), zs_o _ _ (by omega)]⟩⟩
      · refine g_k r6_letter_27 ?_
        exact g_iret r6_letter_29 rfl ⟨rfl, ⟨zrt (by unfold zletR; rw [if_pos ⟨h3, h9⟩, if_pos (by rw [W.L, show jL J = 90 by omega]; rfl)]), rfl, rfl, by unfold zletN; rw [if_neg (fun q => q.2 (by rw [W.L, show jL J = 90 by omega]; rfl))]; exact hP, zFc.refl I⟩⟩
    · refine g_k r6_letter_12 ?_
      exact g_iret r6_letter_14 rfl ⟨rfl, ⟨zrt (by unfold zletR; rw [if_neg (fun q => q.2 h9)]), rfl, rfl, by unfold zletN; rw [if_neg (fun q => q.1.2 h9)]; exact hP, zFc.refl I⟩⟩
theorem ev6_blank {w v0 e1 e2 : Nat} {h : Int64} {J I : zMI} (hw : zW w) (W : zWF J) {N : Nat} (hP : zRep w I J N) : zEp m6_blank (zRR w v0 e1 e2) h I [.ref 0] (fun v R1 h1 I1 => v = some (.int (J 54 19)) ∧ R1 = (zRR w v0 e1 e2) ∧ h1 = h ∧ zRep w I1 (zs J 54 (upd (J 54) 19 0)) (N) ∧ zFc I I1) := by
  refine zEp_of [.ref 0, .null] pl6_blank (by decide +kernel) (fun _ _ => rfl) (fun _ _ => Nat.le_of_ble_eq_true rfl) ?_
  refine g_al0 r6_blank_0 ?_
  refine g_gfr r6_blank_1 xx_0 rfl rr_0_0 ?_
  refine g_gfi r6_blank_4 xx_1 rfl ?_
  refine g_eqv (y := J 54 19) (hP.2.2.1) ?_
  refine g_is1 r6_blank_7 rfl ?_
  refine g_al0 r6_blank_8 ?_
  refine g_gfr r6_blank_9 xx_0 rfl rr_0_0 ?_
  refine g_k r6_blank_12 ?_
  refine g_pfi r6_blank_13 xx_1 rfl rfl ?_
  refine g_il1 r6_blank_16 ?_
  exact g_iret r6_blank_17 rfl ⟨rfl, ⟨rfl, rfl, rfl, zbl_rep hw hP, fun c hc => by rw [zs_o _ _ (by omega)]⟩⟩
theorem zhS {I J : zMI} {u : Nat} (hu : zW u) (W : zWF J) (h1 : I 1 1 = J 54 19) (h2 : ∀ k, k < jL J → I 2 k = J 68 k) : ∀ j, zct I u (I 2) j → j ≤ jL J → zCS (zcr I u (I 2) j) u ((zcr I u (I 2) j) u 9).toNatClampNeg ((zcr I u (I 2) j) u 10).toNatClampNeg ∧ (zcr I u (I 2) j) 2 = I 2 ∧ (zcr I u (I 2) j) 1 1 = nI (jL J) := by
  intro j hj hjL
  have hr := zrun (I := I) (J := J) (g := I 2) (f := J 68) hu (L := jL J) (fun i hi => ⟨h2 i hi, W.Gc i hi⟩) j hjL
  obtain ⟨n, a, s, hP, hS⟩ := hr.2 (hr.1.mp hj)
  have p := hP.2.1
  have e9 : ((zcr I u (I 2) j) u 9).toNatClampNeg = (if s = 1 ∨ s = 2 then n + 1 else n) := by rw [hS.1.2.1]; exact nI_clamp (by split <;> omega)
  have e10 : ((zcr I u (I 2) j) u 10).toNatClampNeg = a := by rw [hS.1.2.2.1]; exact nI_clamp (by omega)
  refine ⟨by rw [e9, e10]; exact zSim.CS hP hS, zcr_o (by decide) (by rcases hu with rfl | rfl <;> omega) j, ?_⟩
  rw [zcr_o (by decide) (by rcases hu with rfl | rfl <;> omega) j, h1, W.L]
theorem ev2_read {w v0 e1 e2 : Nat} {h : Int64} {I J : zMI} {u : Nat} (hu : zW u) (W : zWF J) (h1 : I 1 1 = J 54 19) (h2 : ∀ k, k < jL J → I 2 k = J 68 k) : zEp m2_read (zRR w v0 e1 e2) h I [.ref 3, .ref 1, .ref u] (fun v R1 h1 I1 => v = some (.int (nI (zfk J))) ∧ R1 = (zRR w v0 e1 e2) ∧ h1 = h ∧ zfk J ≤ jL J ∧ (zfk J = jL J ↔ zct I u (I 2) (jL J)) ∧ (zfk J = jL J → I1 = zcr I u (I 2) (jL J)) ∧ ∀ c, ¬ c = 3 → (c < u ∨ u + 9 < c) → I1 c = I c) := by
  have key : zEp m2_read (zRR w v0 e1 e2) h I [.ref 3, .ref 1, .ref u] (fun v R1 h1 I1 => ∃ k, k ≤ jL J ∧ zct I u (I 2) k ∧ ((k = jL J ∧ I1 = zcr I u (I 2) k) ∨ (k < jL J ∧ zcR (zcr I u (I 2) k) u (I 2 k) ((zcr I u (I 2) k) u 10).toNatClampNeg = 0 ∧ I1 = zcr I u (I 2) (k + 1))) ∧ v = some (.int (nI k)) ∧ R1 = (zRR w v0 e1 e2) ∧ h1 = h) := by
    have hS := zhS hu W h1 h2
    rcases hu with rfl | rfl
    · exact ev2_read_34 W.L90 hS
    · exact ev2_read_44 W.L90 hS
  refine zEp_post key (fun v R1 h1' I1 hp => ?_)
  obtain ⟨k, hk, hT, hc, rfl, rfl, rfl⟩ := hp
  have hr := fun i hi => (zrun (I := I) (J := J) (g := I 2) (f := J 68) hu (L := jL J) (fun i hi => ⟨h2 i hi, W.Gc i hi⟩) i hi).1
  have hF : zFk J k := by
    refine ⟨hk, (hr k hk).mp hT, ?_⟩
    rcases hc with ⟨e, -⟩ | ⟨e, e0, -⟩
    · exact Or.inl e
    · exact Or.inr ⟨e, fun q => by
        have q1 := (hr (k + 1) (by omega)).mpr q k (by omega)
        rw [e0] at q1; exact absurd q1 (by decide)⟩
  have ek := zfk_of hF
  refine ⟨by rw [← ek], rfl, rfl, by omega, ⟨fun q => ?_, fun q => ?_⟩, fun q => ?_, fun c c1 c2 => ?_⟩
  · rw [← q, ← ek]; exact hT
  · rcases hF.2.2 with e | ⟨e, e0⟩
    · omega
    · exact absurd (zpt_s ((hr _ (Nat.le_refl _)).mp q) e) e0
  · rcases hc with ⟨e, rfl⟩ | ⟨e, -, rfl⟩
    · rw [e]
    · omega
  · rcases hc with ⟨-, rfl⟩ | ⟨-, -, rfl⟩ <;> exact zcr_o c1 c2 _
def zV (w v : Nat) : Prop := (w = 34 ∧ v = 44) ∨ (w = 44 ∧ v = 34)
theorem zV.w {w v : Nat} (h : zV w v) : zW w := h.imp (fun q => q.1) (fun q => q.1)
theorem zV.v {w v : Nat} (h : zV w v) : zW v := by rcases h with ⟨-, h⟩ | ⟨-, h⟩; exact Or.inr h; exact Or.inl h
theorem zV.symm {w v : Nat} (h : zV w v) : zV v w := by rcases h with ⟨h1, h2⟩ | ⟨h1, h2⟩; exact Or.inr ⟨h2, h1⟩; exact Or.inl ⟨h2, h1⟩
theorem zRep_sp {w u : Nat} (hv : zV w u) {I I1 J : zMI} {N : Nat} (h : zRep w I J N) (hI : ∀ c, ¬ c = 3 → (c < u ∨ u + 9 < c) → I1 c = I c) : zRep w I1 J N := by
  have e : ∀ c, c ≤ 9 → I1 (w + c) = I (w + c) := fun c hc => hI (w + c) (by rcases hv with ⟨rfl, rfl⟩ | ⟨rfl, rfl⟩ <;> omega) (by rcases hv with ⟨rfl, rfl⟩ | ⟨rfl, rfl⟩ <;> omega)
  have e2 : ∀ c, ¬ c = 3 → c < 34 → I1 c = I c := fun c c1 c2 => hI c c1 (by rcases hv with ⟨rfl, rfl⟩ | ⟨rfl, rfl⟩ <;> omega)
  refine ⟨⟨?_, zRs_fs (fun k k1 k2 => e2 k (by omega) (by omega)) h.1.2.1, zNm_c (fun c c1 c2 => e2 c (by omega) (by omega)) h.1.2.2⟩, ?_, ?_⟩
  · unfold zWl
    simp only [show I1 w = I w from e 0 (by omega), e 1 (by omega), e 2 (by omega), e 3 (by omega), e 4 (by omega), e 5 (by omega), e 6 (by omega), e 7 (by omega), e 8 (by omega), e 9 (by omega)]
    exact h.1.1
  · rw [e2 0 (by decide) (by decide)]; exact h.2.1
  · rw [e2 1 (by decide) (by decide), e2 2 (by decide) (by decide)]; exact h.2.2
theorem ev6_fault {w v0 e1 e2 : Nat} {h : Int64} {J I : zMI} (hv : zV w v0) (W : zWF J) {N : Nat} (hP : zRep w I J N) : zEp m6_fault (zRR w v0 e1 e2) h I [.ref 0] (fun v R1 h1 I1 => v = some (.int (nI (zfk J))) ∧ R1 = (zRR w v0 e1 e2) ∧ h1 = h ∧ zRep w I1 (J) (N) ∧ zFc I I1) := by
  refine zEp_of [.ref 0] pl6_fault (by decide +kernel) (fun _ _ => rfl) (fun _ _ => Nat.le_of_ble_eq_true rfl) ?_
  refine g_al0 r6_fault_0 ?_
  refine g_gfr r6_fault_1 xx_0 rfl rr_0_1 ?_
  refine g_al0 r6_fault_4 ?_
  refine g_gfr r6_fault_5 xx_0 rfl rr_0_0 ?_
  refine g_al0 r6_fault_8 ?_
  refine g_gfr r6_fault_9 xx_0 rfl rr_0_7 ?_
  refine g_cV2 r6_fault_12 ok2_read pl6_fault pl2_read xx_3 (Nat.le_of_ble_eq_true rfl) (ev2_read hv.v W hP.2.2.1 hP.2.2.2) (fun v' R' h' I1 ⟨q1, q2, q3, k1, k2, k3, k4⟩ => ?_)
  subst q1; subst q2; subst q3
  exact g_iret r6_fault_15 rfl ⟨rfl, ⟨rfl, rfl, rfl, zRep_sp hv hP k4, fun c hc => k4 c (by omega) (by rcases hv with ⟨rfl, rfl⟩ | ⟨rfl, rfl⟩ <;> omega)⟩⟩
