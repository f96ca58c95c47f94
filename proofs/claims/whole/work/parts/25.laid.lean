def zna (I : zMI) (S : Int32) (s m : Nat) : Int32 := zfi (fun a => (S >>> (nI a &&& 31) &&& 1 = 1 ∧ (I 59 a &&& (nI s ^^^ (-1)) = 0 ∧ I 60 a &&& nI s = 0)) ∧ I 78 (zNx I a s) = I 78 s - 1) m
theorem lp7_nextAct {w v0 e1 e2 : Nat} {h : Int64} {I : zMI} {s : Nat} {S : Int32} (hs : s < 256) (hS : I 54 38 = S) {m : Nat} (hm : I 54 5 = nI m) (hm10 : m ≤ 10) (hA : zA8 I m) : ∀ d i, m - i < d → i ≤ m → (∀ b, b < i → ¬ ((S >>> (nI b &&& 31) &&& 1 = 1 ∧ (I 59 b &&& (nI s ^^^ (-1)) = 0 ∧ I 60 b &&& nI s = 0)) ∧ I 78 (zNx I b s) = I 78 s - 1)) → zGo m7_nextAct 2 [.ref 54, .int (nI s), .int (nI i)] [] zX (zRR w v0 e1 e2) h I (fun v X1 R1 h1 I1 => X1 = zX ∧ v = some (.int (zna I S s m)) ∧ R1 = (zRR w v0 e1 e2) ∧ h1 = h ∧ I1 = I) := by
  intro d
  induction d with
  | zero => intro i hd0; exact absurd hd0 (Nat.not_lt_zero _)
  | succ d ih =>
    intro i hd0 hd1 hI
    refine g_il2 r7_nextAct_2 ?_
    refine g_al0 r7_nextAct_3 ?_
    refine g_gfi r7_nextAct_4 xx_54 rfl ?_
    refine g_eqv (y := nI m) hm ?_
    refine g_icgeN r7_nextAct_7 (by omega) (by omega) (fun h7 => ?_) (fun h7 => ?_)
    · refine g_k r7_nextAct_61 ?_
      exact g_iret r7_nextAct_62 rfl ⟨rfl, ⟨zrt (zfi_no (p := fun a => (S >>> (nI a &&& 31) &&& 1 = 1 ∧ (I 59 a &&& (nI s ^^^ (-1)) = 0 ∧ I 60 a &&& nI s = 0)) ∧ I 78 (zNx I a s) = I 78 s - 1) (fun k hk => hI k (by omega))).symm, rfl, rfl, rfl⟩⟩
    · refine g_al0 r7_nextAct_10 ?_
      refine g_gfi r7_nextAct_11 xx_54 rfl ?_
      rw [hS]
      refine g_il2 r7_nextAct_14 ?_
      refine g_ishr r7_nextAct_15 ?_
      refine g_k r7_nextAct_16 ?_
      refine g_iand r7_nextAct_17 ?_
      refine g_k r7_nextAct_18 ?_
      refine g_icne r7_nextAct_19 (fun h19 => ?_) (fun h19 => ?_)
      · refine g_iiN2 r7_nextAct_55 rfl ?_
        refine g_goto r7_nextAct_58 ?_
        exact ih (i + 1) (by omega) (by omega) (fun b hb => by
          rcases Nat.lt_succ_iff_lt_or_eq.mp hb with q | rfl
          · exact hI b q
          · exact fun q => h19 q.1.1)
      · refine g_al0 r7_nextAct_22 ?_
        refine g_il2 r7_nextAct_23 ?_
        refine g_il1 r7_nextAct_24 ?_
        refine g_eV2 r7_nextAct_25 ok7_canDo pl7_nextAct pl7_canDo xx_54 (Nat.le_of_ble_eq_true rfl) (ev7_canDo (by omega)) ?_
        refine g_ifeqB r7_nextAct_28 (fun h28 => ?_) (fun h28 => ?_)
        · refine g_iiN2 r7_nextAct_55 rfl ?_
          refine g_goto r7_nextAct_58 ?_
          exact ih (i + 1) (by omega) (by omega) (fun b hb => by
            rcases Nat.lt_succ_iff_lt_or_eq.mp hb with q | rfl
            · exact hI b q
            · exact fun q => h28 q.1.2)
        · refine g_al0 r7_nextAct_31 ?_
          refine g_gfr r7_nextAct_32 xx_54 rfl rr_54_37 ?_
          refine g_al0 r7_nextAct_35 ?_
          refine g_il2 r7_nextAct_36 ?_
          refine g_il1 r7_nextAct_37 ?_
          refine g_eV2 r7_nextAct_38 ok7_behind pl7_nextAct pl7_behind xx_54 (Nat.le_of_ble_eq_true rfl) (ev7_behind (by omega)) ?_
          refine g_eqv (y := nI (zNx I i s)) (zNx_spec hA (by omega) hs).1 ?_
          refine g_ialdN r7_nextAct_41 xx_78 ((zNx_spec hA (by omega) hs).2) (by decide) ?_
          refine g_al0 r7_nextAct_42 ?_
          refine g_gfr r7_nextAct_43 xx_54 rfl rr_54_37 ?_
          refine g_il1 r7_nextAct_46 ?_
          refine g_ialdN r7_nextAct_47 xx_78 (by omega) (by decide) ?_
          refine g_k r7_nextAct_48 ?_
          refine g_isub r7_nextAct_49 ?_
          refine g_icne r7_nextAct_50 (fun h50 => ?_) (fun h50 => ?_)
          · refine g_iiN2 r7_nextAct_55 rfl ?_
            refine g_goto r7_nextAct_58 ?_
            exact ih (i + 1) (by omega) (by omega) (fun b hb => by
              rcases Nat.lt_succ_iff_lt_or_eq.mp hb with q | rfl
              · exact hI b q
              · exact fun q => h50 q.2)
          · refine g_il2 r7_nextAct_53 ?_
            exact g_iret r7_nextAct_54 rfl ⟨rfl, ⟨zrt (zfi_yes (p := fun a => (S >>> (nI a &&& 31) &&& 1 = 1 ∧ (I 59 a &&& (nI s ^^^ (-1)) = 0 ∧ I 60 a &&& nI s = 0)) ∧ I 78 (zNx I a s) = I 78 s - 1) ⟨⟨h19, h28⟩, h50⟩ hI (by omega) h7).symm, rfl, rfl, rfl⟩⟩
theorem ev7_nextAct {w v0 e1 e2 : Nat} {h : Int64} {I : zMI} {s : Nat} {S : Int32} (hs : s < 256) (hS : I 54 38 = S) {m : Nat} (hm : I 54 5 = nI m) (hm10 : m ≤ 10) (hA : zA8 I m) : zEr m7_nextAct (zRR w v0 e1 e2) h I [.ref 54, .int (nI s)] (some (.int (zna I S s m))) (zRR w v0 e1 e2) h I := by
  refine zEp_of [.ref 54, .int (nI s), .null] pl7_nextAct (by decide +kernel) (fun _ _ => rfl) (fun _ _ => Nat.le_of_ble_eq_true rfl) ?_
  refine g_k r7_nextAct_0 ?_
  refine g_is2 r7_nextAct_1 rfl ?_
  exact lp7_nextAct hs hS hm hm10 hA (m + 1) 0 (by omega) (by omega) (fun b hb => absurd hb (Nat.not_lt_zero b))
theorem zna_gs {I : zMI} {S : Int32} {m d : Nat} {G : Nat → Prop} (hA : zA8 I m) (hm10 : m ≤ 10) (hF : zFew (zEa I S) (zNx I) G m (I 78)) {st p : Nat → Nat} (hg : zGs (zEa I S) (zNx I) G m d st p) (hst : ∀ t, t ≤ d → st t < 256 ∧ zDi (zEa I S) (zNx I) G m (d - t) (st t)) (hd : d ≤ 255) {t : Nat} (ht : t < d) : zna I S (st t) m = nI (p t) := by
  obtain ⟨g1, g2, g3, g4, g5⟩ := hg t ht
  obtain ⟨h1, h2⟩ := hst t (by omega)
  have e1 : I 78 (st t) = nI (d - t) := (zFew_di hF h1 (by omega)).mpr h2
  have e2 : I 78 (st t) - 1 = nI (d - t - 1) := by
    rw [e1]
    obtain ⟨u, hu⟩ : ∃ u, d - t = u + 1 := ⟨d - t - 1, by omega⟩
    rw [hu, nI_pred]; rfl
  unfold zna
  refine zfi_yes (k := p t) ⟨g2, ?_⟩ (fun b hb hc => ?_) (by omega) g1
  · have hc2 := hc.2
    rw [e2] at hc2
    exact g5 b hb hc.1 ((zFew_di hF (zNx_spec hA (by omega) h1).2 (by omega)).mp hc2)
  · rw [e2]; exact (zFew_di hF (zNx_spec hA g1 h1).2 (by omega)).mpr g4
theorem lp7_laidAct {w v0 e1 e2 : Nat} {h : Int64} {I : zMI} {S : Int32} {dd j : Nat} {G : Nat → Prop} {st p : Nat → Nat} {m : Nat} (hm : I 54 5 = nI m) (hm10 : m ≤ 10) (hA : zA8 I m) (hS : I 54 38 = S) (hF : zFew (zEa I S) (zNx I) G m (I 78)) (hg : zGs (zEa I S) (zNx I) G m dd st p) (hst : ∀ t, t ≤ dd → st t < 256 ∧ zDi (zEa I S) (zNx I) G m (dd - t) (st t)) (hd : dd ≤ 255) (hj : j < dd) : ∀ d i, j - i < d → i ≤ j → zGo m7_laidAct 43 [.ref 54, .int (nI j), .int (nI (st i)), .int (nI i)] [] zX (zRR w v0 e1 e2) h I (fun v X1 R1 h1 I1 => X1 = zX ∧ v = some (.int (nI (p j))) ∧ R1 = (zRR w v0 e1 e2) ∧ h1 = h ∧ I1 = I) := by
  intro d
  induction d with
  | zero => intro i hd0; exact absurd hd0 (Nat.not_lt_zero _)
  | succ d ih =>
    intro i hd0 hd1
    refine g_il3 r7_laidAct_43 ?_
    refine g_il1 r7_laidAct_44 ?_
    refine g_icgeN r7_laidAct_45 (by omega) (by omega) (fun h45 => ?_) (fun h45 => ?_)
    · obtain rfl : i = j := by omega
      refine g_al0 r7_laidAct_65 ?_
      refine g_il2 r7_laidAct_66 ?_
      refine g_eV1 r7_laidAct_67 ok7_nextAct pl7_laidAct pl7_nextAct xx_54 (Nat.le_of_ble_eq_true rfl) (ev7_nextAct (hst i (by omega)).1 hS hm hm10 hA) ?_
      exact g_iret r7_laidAct_70 rfl ⟨rfl, ⟨zrt (zna_gs hA hm10 hF hg hst hd hj), rfl, rfl, rfl⟩⟩
    · refine g_al0 r7_laidAct_48 ?_
      refine g_al0 r7_laidAct_49 ?_
      refine g_il2 r7_laidAct_50 ?_
      refine g_eV1 r7_laidAct_51 ok7_nextAct pl7_laidAct pl7_nextAct xx_54 (Nat.le_of_ble_eq_true rfl) (ev7_nextAct (hst i (by omega)).1 hS hm hm10 hA) ?_
      rw [zna_gs hA hm10 hF hg hst hd (show i < dd by omega)]
      refine g_il2 r7_laidAct_54 ?_
      refine g_eV2 r7_laidAct_55 ok7_behind pl7_laidAct pl7_behind xx_54 (Nat.le_of_ble_eq_true rfl) (ev7_behind (by have := (hg i (by omega)).1; omega)) ?_
      refine g_eqv (y := nI (st (i + 1))) (by rw [(hg i (by omega)).2.2.1]; exact (zNx_spec hA (hg i (by omega)).1 (hst i (by omega)).1).1) ?_
      refine g_is2 r7_laidAct_58 rfl ?_
      refine g_iiN3 r7_laidAct_59 rfl ?_
      refine g_goto r7_laidAct_62 ?_
      exact ih (i + 1) (by omega) (by omega)
theorem ev7_laidAct {w v0 e1 e2 : Nat} {h : Int64} {I : zMI} {pl S : Int32} {s0 : Nat} {G : Nat → Prop} {m : Nat} (hm : I 54 5 = nI m) (hm10 : m ≤ 10) (hA : zA8 I m) (hS : I 54 38 = S) (hs : I 54 11 = nI s0) (hs0 : s0 < 256) (hF : zFew (zEa I S) (zNx I) G m (I 78)) : zEp m7_laidAct (zRR w v0 e1 e2) h I [.ref 54, .int pl] (fun v R1 h1 I1 => ∃ r, zLd (zEa I S) (zNx I) G m s0 pl r ∧ v = some (.int r) ∧ R1 = (zRR w v0 e1 e2) ∧ h1 = h ∧ I1 = I) := by
  refine zEp_of [.ref 54, .int pl, .null, .null] pl7_laidAct (by decide +kernel) (fun _ _ => rfl) (fun _ _ => Nat.le_of_ble_eq_true rfl) ?_
  refine g_al0 r7_laidAct_0 ?_
  refine g_gfr r7_laidAct_1 xx_54 rfl rr_54_37 ?_
  refine g_al0 r7_laidAct_4 ?_
  refine g_gfi r7_laidAct_5 xx_54 rfl ?_
  refine g_eqv (y := nI s0) hs ?_
  refine g_ialdN r7_laidAct_8 xx_78 hs0 (by decide) ?_
  refine g_k r7_laidAct_9 ?_
  refine g_iceq r7_laidAct_12 (fun h12 => ?_) (fun h12 => ?_)
  · refine g_k r7_laidAct_34 ?_
    exact g_iret r7_laidAct_35 rfl ⟨rfl, ⟨_, Or.inl ⟨(zFew_un hF hs0).mp h12, rfl⟩, rfl, rfl, rfl, rfl⟩⟩
  · obtain ⟨d, hd, e78, hD⟩ : ∃ d, d ≤ 255 ∧ I 78 s0 = nI d ∧ zDi (zEa I S) (zNx I) G m d s0 := (hF s0 hs0).resolve_left (fun q => h12 q.1)
    obtain ⟨st, p, hg, h0, hst⟩ := zGs_ex (fun a s ha hs => (zNx_spec hA ha hs).2) d s0 hs0 hD
    refine g_il1 r7_laidAct_15 ?_
    refine g_k r7_laidAct_16 ?_
    refine g_al0 r7_laidAct_17 ?_
    refine g_gfr r7_laidAct_18 xx_54 rfl rr_54_37 ?_
    refine g_al0 r7_laidAct_21 ?_
    refine g_gfi r7_laidAct_22 xx_54 rfl ?_
    refine g_eqv (y := nI s0) hs ?_
    refine g_ialdN r7_laidAct_25 xx_78 hs0 (by decide) ?_
    rw [e78]
    refine g_k r7_laidAct_26 ?_
    refine g_isub r7_laidAct_27 ?_
    refine g_eS3 r7_laidAct_28 ok7_within pl7_laidAct pl7_within (Nat.le_of_ble_eq_true rfl) (ev7_within) ?_
    refine g_ifneB r7_laidAct_31 (fun h31 => ?_) (fun h31 => ?_)
    · obtain ⟨j, hj, rfl⟩ := zidx (by omega) h31
      refine g_al0 r7_laidAct_36 ?_
      refine g_gfi r7_laidAct_37 xx_54 rfl ?_
      refine g_eqv (y := nI (st 0)) (by rw [h0]; exact hs) ?_
      refine g_is2 r7_laidAct_40 rfl ?_
      refine g_k r7_laidAct_41 ?_
      refine g_is3 r7_laidAct_42 rfl ?_
      refine g_post (lp7_laidAct hm hm10 hA hS hF hg hst hd hj (j + 1) 0 (by omega) (by omega)) (fun v X1 R1 h1 I1 hp => ?_)
      obtain ⟨q0, q1, q2, q3, q4⟩ := hp
      exact ⟨q0, _, Or.inr ⟨d, st, p, hd, hD, hg, h0, Or.inl ⟨j, hj, rfl, rfl⟩⟩, q1, q2, q3, q4⟩
    · refine g_k r7_laidAct_34 ?_
      exact g_iret r7_laidAct_35 rfl ⟨rfl, ⟨_, Or.inr ⟨d, st, p, hd, hD, hg, h0, Or.inr ⟨fun j hj e => h31 (by rw [e]; exact zidx' (by omega) hj), rfl⟩⟩, rfl, rfl, rfl, rfl⟩⟩
theorem ev7_laidMany {w v0 e1 e2 : Nat} {h : Int64} {I : zMI} {S : Int32} {s0 : Nat} {G : Nat → Prop} {m : Nat} (hs : I 54 11 = nI s0) (hs0 : s0 < 256) (hF : zFew (zEa I S) (zNx I) G m (I 78)) : zEp m7_laidMany (zRR w v0 e1 e2) h I [.ref 54] (fun v R1 h1 I1 => ∃ r, zLm (zEa I S) (zNx I) G m s0 r ∧ v = some (.int r) ∧ R1 = (zRR w v0 e1 e2) ∧ h1 = h ∧ I1 = I) := by
  refine zEp_of [.ref 54] pl7_laidMany (by decide +kernel) (fun _ _ => rfl) (fun _ _ => Nat.le_of_ble_eq_true rfl) ?_
  refine g_al0 r7_laidMany_0 ?_
  refine g_gfr r7_laidMany_1 xx_54 rfl rr_54_37 ?_
  refine g_al0 r7_laidMany_4 ?_
  refine g_gfi r7_laidMany_5 xx_54 rfl ?_
  refine g_eqv (y := nI s0) hs ?_
  refine g_ialdN r7_laidMany_8 xx_78 hs0 (by decide) ?_
  refine g_k r7_laidMany_9 ?_
  refine g_icne r7_laidMany_12 (fun h12 => ?_) (fun h12 => ?_)
  · refine g_al0 r7_laidMany_19 ?_
    refine g_gfr r7_laidMany_20 xx_54 rfl rr_54_37 ?_
    refine g_al0 r7_laidMany_23 ?_
    refine g_gfi r7_laidMany_24 xx_54 rfl ?_
    refine g_eqv (y := nI s0) hs ?_
    refine g_ialdN r7_laidMany_27 xx_78 hs0 (by decide) ?_
    exact g_iret r7_laidMany_28 rfl ⟨rfl, ⟨_, Or.inr ((hF s0 hs0).resolve_left (fun q => h12 q.1) |>.elim fun d hd => ⟨d, hd.1, hd.2.2, hd.2.1⟩), rfl, rfl, rfl, rfl⟩⟩
  · refine g_k r7_laidMany_15 ?_
    refine g_goto r7_laidMany_16 ?_
    exact g_iret r7_laidMany_28 rfl ⟨rfl, ⟨_, Or.inl ⟨(zFew_un hF hs0).mp h12, rfl⟩, rfl, rfl, rfl, rfl⟩⟩
section ONE
variable {E : Nat → Nat → Prop} {nx : Nat → Nat → Nat} {G : Nat → Prop} {m s : Nat}
theorem zLd_one {pl r r' : Int32} (h : zLd E nx G m s pl r) (h' : zLd E nx G m s pl r') : r = r' := by
  rcases h with ⟨h1, h2⟩ | ⟨d, st, p, hd, hD, hg, h0, hx⟩ <;> rcases h' with ⟨g1, g2⟩ | ⟨d', st', p', hd', hD', hg', h0', hx'⟩
  · rw [h2, g2]
  · exact absurd hD'.1 (h1 d')
  · exact absurd hD.1 (g1 d)
  · obtain rfl := zDi_one hD hD'
    rcases hx with ⟨j, hj, e1, e2⟩ | ⟨e1, e2⟩ <;> rcases hx' with ⟨j', hj', e1', e2'⟩ | ⟨e1', e2'⟩
    · have : j = j' := by rw [e1] at e1'; exact (nI_eq (by omega) (by omega)).mp e1'
      subst this
      rw [e2, e2', (zGs_one hg hg' (h0.trans h0'.symm) j (by omega)).2 hj]
    · exact absurd e1 (e1' j hj)
    · exact absurd e1' (e1 j' hj')
    · rw [e2, e2']
theorem zLm_one {r r' : Int32} (h : zLm E nx G m s r) (h' : zLm E nx G m s r') : r = r' := by
  rcases h with ⟨h1, h2⟩ | ⟨d, hd, hD, h2⟩ <;> rcases h' with ⟨g1, g2⟩ | ⟨d', hd', hD', g2⟩
  · rw [h2, g2]
  · exact absurd hD'.1 (h1 d')
  · exact absurd hD.1 (g1 d)
  · rw [h2, g2, zDi_one hD hD']
theorem zLd_ex (hN : ∀ a s, a < m → s < 256 → nx a s < 256) (hs : s < 256) (pl : Int32) : ∃ r, zLd E nx G m s pl r := by
  by_cases h : ∃ k, zRk E nx G m k s
  · obtain ⟨k, hk⟩ := h
    obtain ⟨d, -, hD⟩ := zDi_ex hk
    obtain ⟨st, p, hg, h0, -⟩ := zGs_ex hN d s hs hD
    by_cases hj : ∃ j, j < d ∧ pl = nI j
    · obtain ⟨j, h1, h2⟩ := hj
      exact ⟨_, Or.inr ⟨d, st, p, zDi_le hN hs hD, hD, hg, h0, Or.inl ⟨j, h1, h2, rfl⟩⟩⟩
    · exact ⟨_, Or.inr ⟨d, st, p, zDi_le hN hs hD, hD, hg, h0, Or.inr ⟨fun j h1 h2 => hj ⟨j, h1, h2⟩, rfl⟩⟩⟩
  · exact ⟨_, Or.inl ⟨fun k hk => h ⟨k, hk⟩, rfl⟩⟩
theorem zLd_act {pl r : Int32} (h : zLd E nx G m s pl r) : r = -1 ∨ ∃ a, a < m ∧ r = nI a := by
  rcases h with ⟨-, h⟩ | ⟨d, st, p, -, -, hg, -, hx⟩
  · exact Or.inl h
  · rcases hx with ⟨j, hj, -, e⟩ | ⟨-, e⟩
    · exact Or.inr ⟨p j, (hg j hj).1, e⟩
    · exact Or.inl e
/-- the same as functions -/
noncomputable def zld (E : Nat → Nat → Prop) (nx : Nat → Nat → Nat) (G : Nat → Prop) (m s : Nat) (pl : Int32) : Int32 := @Classical.epsilon Int32 ⟨0⟩ (fun r => zLd E nx G m s pl r)
noncomputable def zlm (E : Nat → Nat → Prop) (nx : Nat → Nat → Nat) (G : Nat → Prop) (m s : Nat) : Int32 := @Classical.epsilon Int32 ⟨0⟩ (fun r => zLm E nx G m s r)
theorem zld_eq {pl r : Int32} (h : zLd E nx G m s pl r) : r = zld E nx G m s pl := zLd_one h (@Classical.epsilon_spec_aux Int32 ⟨0⟩ (fun r => zLd E nx G m s pl r) ⟨r, h⟩)
theorem zlm_eq {r : Int32} (h : zLm E nx G m s r) : r = zlm E nx G m s := zLm_one h (@Classical.epsilon_spec_aux Int32 ⟨0⟩ (fun r => zLm E nx G m s r) ⟨r, h⟩)
end ONE
