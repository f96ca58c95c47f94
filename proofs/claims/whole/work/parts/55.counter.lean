/-- forward counting against backward counting -/
def zdt (E F : Nat → Nat) (n : Nat) : Nat := zsum (fun j => E j * F j) n
def zput (G : Nat → Nat) (t v : Nat) : Nat → Nat := fun j => if j = t then (G t + v) % 1000000 else G j
theorem zdt_c {E E' F F' : Nat → Nat} : ∀ {n : Nat}, (∀ j, j < n → E j * F j = E' j * F' j) → zdt E F n = zdt E' F' n
  | 0, _ => rfl
  | n + 1, h => by
    show zdt E F n + E n * F n = zdt E' F' n + E' n * F' n
    rw [zdt_c (fun j hj => h j (by omega)), h n (by omega)]
theorem zput_dt (G F : Nat → Nat) (t v : Nat) : ∀ n, zdt (zput G t v) F n % 1000000 = (zdt G F n + (if t < n then v * F t else 0)) % 1000000
  | 0 => by simp [zdt, zsum]
  | n + 1 => by
    have ih := zput_dt G F t v n
    show (zdt (zput G t v) F n + zput G t v n * F n) % 1000000 = (zdt G F n + G n * F n + _) % 1000000
    by_cases e : n = t
    · subst e
      rw [if_neg (by omega)] at ih
      rw [if_pos (by omega)]
      have e1 : zput G n v n = (G n + v) % 1000000 := if_pos rfl
      have e2 : ((G n + v) % 1000000 * F n) % 1000000 = (G n * F n + v * F n) % 1000000 := by
        rw [Nat.mul_mod, Nat.mod_mod, ← Nat.mul_mod, Nat.add_mul]
      rw [e1]
      generalize (G n + v) % 1000000 * F n = A at *
      generalize G n * F n = B at *
      generalize v * F n = C at *
      omega
    · have e1 : zput G t v n = G n := if_neg e
      rw [e1]
      by_cases c : t < n
      · rw [if_pos c] at ih; rw [if_pos (by omega)]
        generalize G n * F n = B at *
        generalize v * F t = C at *
        omega
      · rw [if_neg c] at ih; rw [if_neg (by omega)]
        generalize G n * F n = B at *
        omega
theorem zdt_1 (F : Nat → Nat) {s : Nat} : ∀ n, zdt (fun j => if j = s then 1 else 0) F n = if s < n then F s else 0
  | 0 => by simp [zdt, zsum]
  | n + 1 => by
    show zdt _ F n + (if n = s then 1 else 0) * F n = _
    rw [zdt_1 F n]
    by_cases e : n = s
    · subst e; simp
    · by_cases c : s < n
      · rw [if_pos c, if_neg e, if_pos (by omega)]; omega
      · rw [if_neg c, if_neg e, if_neg (by omega)]; omega
/-- all acts of a length, from behind -/
def zwO (J : zMI) (F : Nat → Nat) : Nat → Nat → Nat
  | 0 => F
  | k + 1 => fun s => zwsm J (zwO J F k) s (jm J)
theorem zwO_s (J : zMI) (F : Nat → Nat) : ∀ k, zwO J (fun s => zwsm J F s (jm J)) k = zwO J F (k + 1)
  | 0 => rfl
  | k + 1 => by
    funext s
    show zwsm J (zwO J (fun s => zwsm J F s (jm J)) k) s (jm J) = zwsm J (zwO J F (k + 1)) s (jm J)
    rw [zwO_s J F k]
theorem zwsm_m {J : zMI} (W : zWF J) {F F' : Nat → Nat} (h : ∀ s, s < 256 → F s % 1000000 = F' s % 1000000) {s : Nat} (hs : s < 256) : ∀ a, a ≤ jm J → zwsm J F s a % 1000000 = zwsm J F' s a % 1000000
  | 0, _ => rfl
  | a + 1, ha => by
    have ih := zwsm_m W h hs a (by omega)
    simp only [zwsm]
    by_cases q : J 59 a &&& (nI s ^^^ (-1)) = 0 ∧ J 60 a &&& nI s = 0
    · rw [if_pos q, if_pos q]
      have := h _ (W.N a s (by omega) hs)
      omega
    · rw [if_neg q, if_neg q]; omega
theorem zwO_F {J : zMI} (W : zWF J) : ∀ k s, s < 256 → zwO J (zwF J 0) k s % 1000000 = zwF J k s
  | 0, s, _ => Nat.mod_eq_of_lt (zwF_lt J 0 s)
  | k + 1, s, hs => by
    show zwsm J (zwO J (zwF J 0) k) s (jm J) % 1000000 = zwsm J (zwF J k) s (jm J) % 1000000
    exact zwsm_m W (fun t ht => by rw [zwO_F W k t ht, Nat.mod_eq_of_lt (zwF_lt J k t)]) hs _ (Nat.le_refl _)
def zCr (M : zMI) (e : Nat) (E : Nat → Nat) : Prop := ∀ j, j < 256 → M e j = nI (E j) ∧ E j < 1000000
theorem zRR_e {w v e1 e2 a : Nat} (h : ¬ a = 31) : zRR w v e1 e2 a = zRR w v e2 e1 a := by
  unfold zRR; split <;> first | rfl | exact absurd rfl h
theorem zRR_sw (w v e1 e2 : Nat) : zrs (zrs (zRR w v e1 e2) 31 0 (some e2)) 31 1 (some e1) = zRR w v e2 e1 := by
  funext a b
  by_cases h : a = 31
  · subst h
    by_cases b0 : b = 0
    · subst b0; rfl
    · by_cases b1 : b = 1
      · subst b1; rfl
      · simp [zrs, b0, b1, zRR]
  · simp only [zrs, h, false_and, if_false]; rw [zRR_e h]
theorem lp0_wipe {R : zMR} {h : Int64} {I : zMI} {q : Nat} (hq : zE q) : ∀ d i M, 256 - i < d → i ≤ 256 → (∀ c, ¬ c = q → M c = I c) → (∀ j, j < i → M q j = 0) → zGo m0_wipe 2 [.ref q, .int (nI i)] [] zX R h M (fun v X1 R1 h1 I1 => X1 = zX ∧ (fun v R1 h1 I1 => v = none ∧ R1 = R ∧ h1 = h ∧ (∀ j, j < 256 → I1 q j = 0) ∧ ∀ c, ¬ c = q → I1 c = I c) v R1 h1 I1) := by
  intro d
  induction d with
  | zero => intro i M hd0; exact absurd hd0 (Nat.not_lt_zero _)
  | succ d ih =>
    intro i M hd0 hd1 hM h0
    refine g_il1 r0_wipe_2 ?_
    refine g_al0 r0_wipe_3 ?_
    refine g_alen r0_wipe_4 (xe hq) ?_
    refine g_icgeN r0_wipe_5 (by omega) (by omega) (fun h5 => ?_) (fun h5 => ?_)
    · exact g_vret r0_wipe_18 rfl ⟨rfl, ⟨rfl, rfl, rfl, fun j hj => h0 j (by omega), hM⟩⟩
    · refine g_al0 r0_wipe_8 ?_
      refine g_il1 r0_wipe_9 ?_
      refine g_k r0_wipe_10 ?_
      refine g_iastN r0_wipe_11 (xe hq) (by omega) (by decide) ?_
      refine g_iiN1 r0_wipe_12 rfl ?_
      refine g_goto r0_wipe_15 ?_
      refine ih (i + 1) _ (by omega) (by omega) (fun c hc => by rw [zs_o _ _ hc]; exact hM c hc) (fun j hj => ?_)
      rw [zs_eq]; simp only [upd_ap]
      by_cases e : j = i
      · rw [if_pos e]
      · rw [if_neg e]; exact h0 j (by omega)
theorem ev0_wipe {R : zMR} {h : Int64} {I : zMI} {q : Nat} (hq : zE q) : zEp m0_wipe R h I [.ref q] (fun v R1 h1 I1 => v = none ∧ R1 = R ∧ h1 = h ∧ (∀ j, j < 256 → I1 q j = 0) ∧ ∀ c, ¬ c = q → I1 c = I c) := by
  refine zEp_of [.ref q, .null] pl0_wipe (by decide +kernel) (fun _ _ => rfl) (fun _ _ => Nat.le_of_ble_eq_true rfl) ?_
  refine g_k r0_wipe_0 ?_
  refine g_is1 r0_wipe_1 rfl ?_
  exact lp0_wipe hq 257 0 I (by omega) (by omega) (fun c _ => rfl) (fun j hj => absurd hj (Nat.not_lt_zero j))
theorem lp0_lengthenFrom {w v0 e1 e2 : Nat} {h : Int64} {I J : zMI} (hw : zW w) (W : zWF J) (hWl : zWl w I J) (he1 : zE e1) (he2 : zE e2) (hne : ¬ e1 = e2) {s : Nat} (hs : s < 256) {E G : Nat → Nat} (hE : zCr I e1 E) (hm10 : jm J ≤ 10) : ∀ d a (y : Value) G0 M, jm J - a < d → a ≤ jm J → (∀ c, ¬ c = e2 → M c = I c) → zCr M e2 G0 → (∀ F, zdt G0 F 256 % 1000000 = (zdt G F 256 + E s * zwsm J F s a) % 1000000) → zGo m0_lengthenFrom 2 [.ref 31, .ref w, .int (nI s), .int (nI a), y] [] zX (zRR w v0 e1 e2) h M (fun v X1 R1 h1 I1 => X1 = zX ∧ (fun v R1 h1 I1 => v = none ∧ R1 = (zRR w v0 e1 e2) ∧ h1 = h ∧ (∃ G1, zCr I1 e2 G1 ∧ ∀ F, zdt G1 F 256 % 1000000 = (zdt G F 256 + E s * zwsm J F s (jm J)) % 1000000) ∧ ∀ c, ¬ c = e2 → I1 c = I c) v R1 h1 I1) := by
  intro d
  induction d with
  | zero => intro a y G0 M hd0; exact absurd hd0 (Nat.not_lt_zero _)
  | succ d ih =>
    intro a y G0 M hd0 hd1 hM hG hF
    have hWlM : zWl w M J := zWl_c hw (fun c c1 c2 => hM c (by rcases he2 with q | q <;> omega)) hWl
    refine g_il3 r0_lengthenFrom_2 ?_
    refine g_al1 r0_lengthenFrom_3 ?_
    refine g_gfi r0_lengthenFrom_4 (xw hw) rfl ?_
    refine g_eqv (y := nI (jm J)) (hWlM.1.2.trans W.m) ?_
    refine g_icgeN r0_lengthenFrom_7 (by omega) (by omega) (fun h7 => ?_) (fun h7 => ?_)
    · exact g_vret r0_lengthenFrom_77 rfl ⟨rfl, ⟨rfl, rfl, rfl, ⟨G0, hG, fun F => by have := hF F; rw [show a = jm J by omega] at this; exact this⟩, hM⟩⟩
    · refine g_il2 r0_lengthenFrom_10 ?_
      refine g_al1 r0_lengthenFrom_11 ?_
      refine g_gfr r0_lengthenFrom_12 (xw hw) rfl (rw_5 hw) ?_
      refine g_il3 r0_lengthenFrom_15 ?_
      refine g_ialdN r0_lengthenFrom_16 (xwa_5 hw) (by omega) (by decide) ?_
      refine g_eqv (y := J 59 a) (hWlM.2.2 a (by omega)).2.1 ?_
      refine g_al1 r0_lengthenFrom_17 ?_
      refine g_gfr r0_lengthenFrom_18 (xw hw) rfl (rw_6 hw) ?_
      refine g_il3 r0_lengthenFrom_21 ?_
      refine g_ialdN r0_lengthenFrom_22 (xwa_6 hw) (by omega) (by decide) ?_
      refine g_eqv (y := J 60 a) (hWlM.2.2 a (by omega)).2.2.1 ?_
      refine g_eS3 r0_lengthenFrom_23 ok6_holds pl0_lengthenFrom pl6_holds (Nat.le_of_ble_eq_true rfl) (ev6_holds) ?_
      refine g_ifeqB r0_lengthenFrom_26 (fun h26 => ?_) (fun h26 => ?_)
      · refine g_iiN3 r0_lengthenFrom_71 rfl ?_
        refine g_goto r0_lengthenFrom_74 ?_
        refine ih (a + 1) _ G0 M (by omega) (by omega) hM hG (fun F => ?_)
        have := hF F
        simp only [zwsm]
        rw [if_neg (fun q => h26 (zhc.mpr q)), Nat.add_zero]
        exact this
      · refine g_il2 r0_lengthenFrom_29 ?_
        refine g_al1 r0_lengthenFrom_30 ?_
        refine g_gfr r0_lengthenFrom_31 (xw hw) rfl (rw_7 hw) ?_
        refine g_il3 r0_lengthenFrom_34 ?_
        refine g_ialdN r0_lengthenFrom_35 (xwa_7 hw) (by omega) (by decide) ?_
        refine g_eqv (y := J 61 a) (hWlM.2.2 a (by omega)).2.2.2.1 ?_
        refine g_al1 r0_lengthenFrom_36 ?_
        refine g_gfr r0_lengthenFrom_37 (xw hw) rfl (rw_8 hw) ?_
        refine g_il3 r0_lengthenFrom_40 ?_
        refine g_ialdN r0_lengthenFrom_41 (xwa_8 hw) (by omega) (by decide) ?_
        refine g_eqv (y := J 62 a) (hWlM.2.2 a (by omega)).2.2.2.2 ?_
        refine g_eS3 r0_lengthenFrom_42 ok6_changed pl0_lengthenFrom pl6_changed (Nat.le_of_ble_eq_true rfl) (ev6_changed) ?_
        refine g_eqv (y := nI (zNx J a s)) (zbh W (by omega) hs) ?_
        have hT := W.N a s (by omega) hs
        refine g_is4 r0_lengthenFrom_45 rfl ?_
        refine g_al0 r0_lengthenFrom_47 ?_
        refine g_gfr r0_lengthenFrom_48 xx_31 rfl rr_31_1 ?_
        refine g_il4 r0_lengthenFrom_51 ?_
        refine g_al0 r0_lengthenFrom_53 ?_
        refine g_gfr r0_lengthenFrom_54 xx_31 rfl rr_31_1 ?_
        refine g_il4 r0_lengthenFrom_57 ?_
        refine g_ialdN r0_lengthenFrom_59 (xe he2) hT (by decide) ?_
        refine g_eqv (y := nI (G0 (zNx J a s))) (hG _ hT).1 ?_
        refine g_al0 r0_lengthenFrom_60 ?_
        refine g_gfr r0_lengthenFrom_61 xx_31 rfl rr_31_0 ?_
        refine g_il2 r0_lengthenFrom_64 ?_
        refine g_ialdN r0_lengthenFrom_65 (xe he1) hs (by decide) ?_
        refine g_eqv (y := nI (E s)) (by rw [hM e1 hne]; exact (hE s hs).1) ?_
        refine g_iadd r0_lengthenFrom_66 ?_
        refine g_eqv (y := nI (G0 (zNx J a s) + E s)) (nI_add _ _) ?_
        refine g_k r0_lengthenFrom_67 ?_
        refine g_irem r0_lengthenFrom_69 (by decide) ?_
        refine g_eqv (y := nI ((G0 (zNx J a s) + E s) % 1000000)) (pk_rem (d := 1000000) (by have := (hG _ hT).2; have := (hE s hs).2; omega) (by omega) (by omega)) ?_
        refine g_iastN r0_lengthenFrom_70 (xe he2) hT (by decide) ?_
        refine g_iiN3 r0_lengthenFrom_71 rfl ?_
        refine g_goto r0_lengthenFrom_74 ?_
        refine ih (a + 1) _ (zput G0 (zNx J a s) (E s)) _ (by omega) (by omega) (fun c hc => by rw [zs_o _ _ hc]; exact hM c hc) (fun j hj => ?_) (fun F => ?_)
        · rw [zs_eq]; simp only [upd_ap, zput]
          by_cases e : j = (zNx J a s)
          · rw [if_pos e, if_pos e]; exact ⟨rfl, Nat.mod_lt _ (by omega)⟩
          · rw [if_neg e, if_neg e]; exact hG j hj
        · have p := zput_dt G0 F (zNx J a s) (E s) 256
          have q := hF F
          rw [if_pos hT] at p
          simp only [zwsm]
          rw [if_pos (zhc.mp h26), Nat.mul_add]
          generalize E s * zwsm J F s a = A at *
          generalize E s * F (zNx J a s) = C at *
          omega
theorem ev0_lengthenFrom {w v0 e1 e2 : Nat} {h : Int64} {I J : zMI} (hw : zW w) (W : zWF J) (hWl : zWl w I J) (he1 : zE e1) (he2 : zE e2) (hne : ¬ e1 = e2) {s : Nat} (hs : s < 256) {E G : Nat → Nat} (hE : zCr I e1 E) (hG : zCr I e2 G) : zEp m0_lengthenFrom (zRR w v0 e1 e2) h I [.ref 31, .ref w, .int (nI s)] (fun v R1 h1 I1 => v = none ∧ R1 = (zRR w v0 e1 e2) ∧ h1 = h ∧ (∃ G1, zCr I1 e2 G1 ∧ ∀ F, zdt G1 F 256 % 1000000 = (zdt G F 256 + E s * zwsm J F s (jm J)) % 1000000) ∧ ∀ c, ¬ c = e2 → I1 c = I c) := by
  refine zEp_of [.ref 31, .ref w, .int (nI s), .null, .null] pl0_lengthenFrom (by decide +kernel) (fun _ _ => rfl) (fun _ _ => Nat.le_of_ble_eq_true rfl) ?_
  refine g_k r0_lengthenFrom_0 ?_
  refine g_is3 r0_lengthenFrom_1 rfl ?_
  exact lp0_lengthenFrom hw W hWl he1 he2 hne hs hE W.m10 (jm J + 1) 0 _ G I (by omega) (by omega) (fun c _ => rfl) hG (fun F => by simp [zwsm])
theorem lp0_lengthen {w v0 e1 e2 : Nat} {h : Int64} {I J : zMI} (hw : zW w) (W : zWF J) (hWl : zWl w I J) (he1 : zE e1) (he2 : zE e2) (hne : ¬ e1 = e2) {E : Nat → Nat} (hE : zCr I e1 E) : ∀ d i G M, 256 - i < d → i ≤ 256 → (∀ c, ¬ c = e2 → M c = I c) → zCr M e2 G → (∀ F, zdt G F 256 % 1000000 = zdt E (fun s => zwsm J F s (jm J)) i % 1000000) → zGo m0_lengthen 9 [.ref 31, .ref w, .int (nI i)] [] zX (zRR w v0 e1 e2) h M (fun v X1 R1 h1 I1 => X1 = zX ∧ (fun v R1 h1 I1 => v = none ∧ R1 = zRR w v0 e2 e1 ∧ h1 = h ∧ (∃ G, zCr I1 e2 G ∧ ∀ F, zdt G F 256 % 1000000 = zdt E (fun s => zwsm J F s (jm J)) 256 % 1000000) ∧ ∀ c, ¬ c = e2 → I1 c = I c) v R1 h1 I1) := by
  intro d
  induction d with
  | zero => intro i G M hd0; exact absurd hd0 (Nat.not_lt_zero _)
  | succ d ih =>
    intro i G M hd0 hd1 hM hG hF
    have hWlM : zWl w M J := zWl_c hw (fun c c1 c2 => hM c (by rcases he2 with q | q <;> omega)) hWl
    refine g_il2 r0_lengthen_9 ?_
    refine g_k r0_lengthen_10 ?_
    refine g_eqv (y := nI 256) rfl ?_
    refine g_icgeN r0_lengthen_13 (by omega) (by omega) (fun h13 => ?_) (fun h13 => ?_)
    · refine g_al0 r0_lengthen_37 ?_
      refine g_gfr r0_lengthen_38 xx_31 rfl rr_31_0 ?_
      refine g_as2 r0_lengthen_41 rfl ?_
      refine g_al0 r0_lengthen_42 ?_
      refine g_al0 r0_lengthen_43 ?_
      refine g_gfr r0_lengthen_44 xx_31 rfl rr_31_1 ?_
      refine g_pfr r0_lengthen_47 xx_31 (Or.inl rfl) rfl ?_
      refine g_al0 r0_lengthen_50 ?_
      refine g_al2 r0_lengthen_51 ?_
      refine g_pfr r0_lengthen_52 xx_31 (Or.inl rfl) rfl ?_
      exact g_vret r0_lengthen_55 rfl ⟨rfl, ⟨rfl, zRR_sw w v0 e1 e2, rfl, ⟨G, hG, fun F => by have := hF F; rw [show i = 256 by omega] at this; exact this⟩, hM⟩⟩
    · refine g_al0 r0_lengthen_16 ?_
      refine g_gfr r0_lengthen_17 xx_31 rfl rr_31_0 ?_
      refine g_il2 r0_lengthen_20 ?_
      refine g_ialdN r0_lengthen_21 (xe he1) (by omega) (by decide) ?_
      refine g_eqv (y := nI (E i)) (by rw [hM e1 hne]; exact (hE i (by omega)).1) ?_
      refine g_ifeq r0_lengthen_22 (fun h22 => ?_) (fun h22 => ?_)
      · refine g_iiN2 r0_lengthen_31 rfl ?_
        refine g_goto r0_lengthen_34 ?_
        have e0 : E i = 0 := by have := (hE i (by omega)).2; exact (nI_eq (b := 0) (by omega) (by omega)).mp h22
        refine ih (i + 1) G M (by omega) (by omega) hM hG (fun F => ?_)
        rw [hF F]; show _ = (zdt E _ i + E i * _) % 1000000; rw [e0, Nat.zero_mul, Nat.add_zero]
      · refine g_al0 r0_lengthen_25 ?_
        refine g_al1 r0_lengthen_26 ?_
        refine g_il2 r0_lengthen_27 ?_
        refine g_cV2 r0_lengthen_28 ok0_lengthenFrom pl0_lengthen pl0_lengthenFrom xx_31 (Nat.le_of_ble_eq_true rfl) (ev0_lengthenFrom (E := E) (G := G) hw W hWlM he1 he2 hne (by omega) (fun j hj => by rw [hM e1 hne]; exact hE j hj) hG) (fun v' R' h' I1 ⟨q1, q2, q3, ⟨G1, hG1, hF1⟩, hc1⟩ => ?_)
        subst q1; subst q2; subst q3
        refine g_iiN2 r0_lengthen_31 rfl ?_
        refine g_goto r0_lengthen_34 ?_
        refine ih (i + 1) G1 I1 (by omega) (by omega) (fun c hc => by rw [hc1 c hc]; exact hM c hc) hG1 (fun F => ?_)
        have p := hF1 F
        have q := hF F
        show _ = (zdt E (fun s => zwsm J F s (jm J)) i + E i * zwsm J F i (jm J)) % 1000000
        generalize E i * zwsm J F i (jm J) = A at *
        omega
theorem zdt_0 (F : Nat → Nat) : ∀ n, zdt (fun _ => 0) F n = 0
  | 0 => rfl
  | n + 1 => by show zdt _ F n + 0 * F n = 0; rw [zdt_0 F n]; omega
theorem ev0_lengthen {w v0 e1 e2 : Nat} {h : Int64} {I J : zMI} (hw : zW w) (W : zWF J) (hWl : zWl w I J) (he1 : zE e1) (he2 : zE e2) (hne : ¬ e1 = e2) {E : Nat → Nat} (hE : zCr I e1 E) : zEp m0_lengthen (zRR w v0 e1 e2) h I [.ref 31, .ref w] (fun v R1 h1 I1 => v = none ∧ R1 = zRR w v0 e2 e1 ∧ h1 = h ∧ (∃ G, zCr I1 e2 G ∧ ∀ F, zdt G F 256 % 1000000 = zdt E (fun s => zwsm J F s (jm J)) 256 % 1000000) ∧ ∀ c, ¬ c = e2 → I1 c = I c) := by
  refine zEp_of [.ref 31, .ref w, .null] pl0_lengthen (by decide +kernel) (fun _ _ => rfl) (fun _ _ => Nat.le_of_ble_eq_true rfl) ?_
  refine g_al0 r0_lengthen_0 ?_
  refine g_gfr r0_lengthen_1 xx_31 rfl rr_31_1 ?_
  refine g_cS1 r0_lengthen_4 ok0_wipe pl0_lengthen pl0_wipe (Nat.le_of_ble_eq_true rfl) (ev0_wipe he2) (fun v' R' h' I1 ⟨q1, q2, q3, h0, hc⟩ => ?_)
  subst q1; subst q2; subst q3
  refine g_k r0_lengthen_7 ?_
  refine g_is2 r0_lengthen_8 rfl ?_
  refine g_post (lp0_lengthen (I := I1) hw W (zWl_c hw (fun c c1 c2 => hc c (by rcases he2 with q | q <;> omega)) hWl) he1 he2 hne (fun j hj => by rw [hc e1 hne]; exact hE j hj) 257 0 (fun _ => 0) I1 (by omega) (by omega) (fun c _ => rfl) (fun j hj => ⟨h0 j hj, by show (0 : Nat) < 1000000; omega⟩) (fun F => by rw [zdt_0]; rfl)) (fun v X1 R1 h1 I2 ⟨g1, g2, g3, g4, g5, g6⟩ => ⟨g1, g2, g3, g4, g5, fun c hh => by rw [g6 c hh, hc c hh]⟩)
theorem lp0_ways_2 {w v0 e1 e2 : Nat} {h : Int64} {I J M : zMI} (W : zWF J) (he1 : zE e1) (he2 : zE e2) (hne : ¬ e1 = e2) {E : Nat → Nat} (hE : zCr M e1 E) {n : Nat} (hF : ∀ F, zdt E F 256 % 1000000 = zwO J F n (js J) % 1000000) (hM : ∀ c, ¬ c = 32 → ¬ c = 33 → M c = I c) {x3 x4 x5 : Value} : ∀ d i, 256 - i < d → i ≤ 256 → zGo m0_waysToAll 66 [.ref 31, .ref w, x3, x4, x5, .int (zgT J (1 <<< (nI (jn J) &&& 31) - 1)), .int (zgF J (1 <<< (nI (jn J) &&& 31) - 1)), .int (nI (zdt E (zwF J 0) i % 1000000)), .int (nI i)] [] zX (zRR w v0 e1 e2) h M (fun v X1 R1 h1 I1 => X1 = zX ∧ (fun v R1 h1 I1 => v = some (.int (nI (zwF J n (js J)))) ∧ (∃ a b, zE a ∧ zE b ∧ ¬ a = b ∧ R1 = zRR w v0 a b) ∧ h1 = h ∧ ∀ c, ¬ c = 32 → ¬ c = 33 → I1 c = I c) v R1 h1 I1) := by
  intro d
  induction d with
  | zero => intro i hd0; exact absurd hd0 (Nat.not_lt_zero _)
  | succ d ih =>
    intro i hd0 hd1
    refine g_il8 r0_waysToAll_66 ?_
    refine g_k r0_waysToAll_68 ?_
    refine g_eqv (y := nI 256) rfl ?_
    refine g_icgeN r0_waysToAll_71 (by omega) (by omega) (fun h71 => ?_) (fun h71 => ?_)
    · refine g_il7 r0_waysToAll_107 ?_
      exact g_iret r0_waysToAll_109 rfl ⟨rfl, ⟨zrt (by rw [show i = 256 by omega, hF (zwF J 0), zwO_F W n _ W.s8]), ⟨e1, e2, he1, he2, hne, rfl⟩, rfl, hM⟩⟩
    · refine g_il8 r0_waysToAll_74 ?_
      refine g_il5 r0_waysToAll_76 ?_
      refine g_il6 r0_waysToAll_78 ?_
      refine g_eS3 r0_waysToAll_80 ok6_holds pl0_waysToAll pl6_holds (Nat.le_of_ble_eq_true rfl) (ev6_holds) ?_
      refine g_ifeqB r0_waysToAll_83 (fun h83 => ?_) (fun h83 => ?_)
      · refine g_iiN8 r0_waysToAll_101 rfl ?_
        refine g_goto r0_waysToAll_104 ?_
        have e0 : zwF J 0 i = 0 := by simp only [zwF]; rw [if_neg (fun q => h83 ((zgall W (nI i)).mpr q))]
        have e1 : zdt E (zwF J 0) i % 1000000 = zdt E (zwF J 0) (i + 1) % 1000000 := by show _ = (zdt E (zwF J 0) i + E i * zwF J 0 i) % 1000000; rw [e0, Nat.mul_zero, Nat.add_zero]
        rw [e1]
        exact ih (i + 1) (by omega) (by omega)
      · refine g_il7 r0_waysToAll_86 ?_
        refine g_al0 r0_waysToAll_88 ?_
        refine g_gfr r0_waysToAll_89 xx_31 rfl rr_31_0 ?_
        refine g_il8 r0_waysToAll_92 ?_
        refine g_ialdN r0_waysToAll_94 (xe he1) (by omega) (by decide) ?_
        refine g_eqv (y := nI (E i)) (hE i (by omega)).1 ?_
        refine g_iadd r0_waysToAll_95 ?_
        refine g_eqv (y := nI (zdt E (zwF J 0) i % 1000000 + E i)) (nI_add _ _) ?_
        refine g_k r0_waysToAll_96 ?_
        refine g_irem r0_waysToAll_98 (by decide) ?_
        refine g_eqv (y := nI ((zdt E (zwF J 0) i % 1000000 + E i) % 1000000)) (pk_rem (d := 1000000) (by have := (hE i (by omega)).2; omega) (by omega) (by omega)) ?_
        refine g_is7 r0_waysToAll_99 rfl ?_
        refine g_iiN8 r0_waysToAll_101 rfl ?_
        refine g_goto r0_waysToAll_104 ?_
        have e0 : zwF J 0 i = 1 := by simp only [zwF]; rw [if_pos ((zgall W (nI i)).mp h83)]
        have e1 : (zdt E (zwF J 0) i % 1000000 + E i) % 1000000 = zdt E (zwF J 0) (i + 1) % 1000000 := by show _ = (zdt E (zwF J 0) i + E i * zwF J 0 i) % 1000000; rw [e0, Nat.mul_one]; omega
        rw [e1]
        exact ih (i + 1) (by omega) (by omega)
theorem lp0_ways_1 {w v0 : Nat} {h : Int64} {I J : zMI} (hw : zW w) (W : zWF J) (hWl : zWl w I J) {n : Nat} (hn : n ≤ 12) {x3 : Value} : ∀ d i e1 e2 M E, n - i < d → i ≤ n → zE e1 → zE e2 → ¬ e1 = e2 → zCr M e1 E → (∀ F, zdt E F 256 % 1000000 = zwO J F i (js J) % 1000000) → (∀ c, ¬ c = 32 → ¬ c = 33 → M c = I c) → zGo m0_waysToAll 21 [.ref 31, .ref w, x3, .int (nI n), .int (nI i), .null, .null, .null, .null] [] zX (zRR w v0 e1 e2) h M (fun v X1 R1 h1 I1 => X1 = zX ∧ (fun v R1 h1 I1 => v = some (.int (nI (zwF J n (js J)))) ∧ (∃ a b, zE a ∧ zE b ∧ ¬ a = b ∧ R1 = zRR w v0 a b) ∧ h1 = h ∧ ∀ c, ¬ c = 32 → ¬ c = 33 → I1 c = I c) v R1 h1 I1) := by
  intro d
  induction d with
  | zero => intro i e1 e2 M E hd0; exact absurd hd0 (Nat.not_lt_zero _)
  | succ d ih =>
    intro i e1 e2 M E hd0 hd1 he1 he2 hne hE hF hM
    have hWlM : zWl w M J := zWl_c hw (fun c c1 c2 => hM c (by omega) (by omega)) hWl
    refine g_il4 r0_waysToAll_21 ?_
    refine g_il3 r0_waysToAll_23 ?_
    refine g_icgeN r0_waysToAll_24 (by omega) (by omega) (fun h24 => ?_) (fun h24 => ?_)
    · refine g_al1 r0_waysToAll_38 ?_
      refine g_eV0 r0_waysToAll_39 ok5_everybody pl0_waysToAll pl5_everybody (xw hw) (Nat.le_of_ble_eq_true rfl) (ev5_everybody hw W hWlM) ?_
      refine g_is4 r0_waysToAll_42 rfl ?_
      refine g_al1 r0_waysToAll_44 ?_
      refine g_il4 r0_waysToAll_45 ?_
      refine g_eV1 r0_waysToAll_47 ok5_goalsToBeTrue pl0_waysToAll pl5_goalsToBeTrue (xw hw) (Nat.le_of_ble_eq_true rfl) (ev5_goalsToBeTrue hw W hWlM) ?_
      refine g_is5 r0_waysToAll_50 rfl ?_
      refine g_al1 r0_waysToAll_52 ?_
      refine g_il4 r0_waysToAll_53 ?_
      refine g_eV1 r0_waysToAll_55 ok5_goalsToBeFalse pl0_waysToAll pl5_goalsToBeFalse (xw hw) (Nat.le_of_ble_eq_true rfl) (ev5_goalsToBeFalse hw W hWlM) ?_
      refine g_is6 r0_waysToAll_58 rfl ?_
      refine g_k r0_waysToAll_60 ?_
      refine g_is7 r0_waysToAll_61 rfl ?_
      refine g_k r0_waysToAll_63 ?_
      refine g_is8 r0_waysToAll_64 rfl ?_
      exact lp0_ways_2 W he1 he2 hne hE (by rw [show i = n by omega] at hF; exact hF) hM 257 0 (by omega) (by omega)
    · refine g_al0 r0_waysToAll_27 ?_
      refine g_al1 r0_waysToAll_28 ?_
      refine g_cV1 r0_waysToAll_29 ok0_lengthen pl0_waysToAll pl0_lengthen xx_31 (Nat.le_of_ble_eq_true rfl) (ev0_lengthen hw W hWlM he1 he2 hne hE) (fun v' R' h' I1 ⟨q1, q2, q3, ⟨G, hG, hF1⟩, hc1⟩ => ?_)
      subst q1; subst q2; subst q3
      refine g_iiN4 r0_waysToAll_32 rfl ?_
      refine g_goto r0_waysToAll_35 ?_
      refine ih (i + 1) e2 e1 I1 G (by omega) (by omega) he2 he1 (fun q => hne q.symm) hG (fun F => ?_) (fun c c1 c2 => by rw [hc1 c (by rcases he2 with q | q <;> omega)]; exact hM c c1 c2)
      rw [hF1 F, hF, zwO_s]
theorem ev0_waysToAll {w v0 e1 e2 : Nat} {h : Int64} {I J : zMI} (hw : zW w) (W : zWF J) (hWl : zWl w I J) (he1 : zE e1) (he2 : zE e2) (hne : ¬ e1 = e2) {n : Nat} (hn : n ≤ 12) : zEp m0_waysToAll (zRR w v0 e1 e2) h I [.ref 31, .ref w, .int (nI (js J)), .int (nI n)] (fun v R1 h1 I1 => v = some (.int (nI (zwF J n (js J)))) ∧ (∃ a b, zE a ∧ zE b ∧ ¬ a = b ∧ R1 = zRR w v0 a b) ∧ h1 = h ∧ ∀ c, ¬ c = 32 → ¬ c = 33 → I1 c = I c) := by
  refine zEp_of [.ref 31, .ref w, .int (nI (js J)), .int (nI n), .null, .null, .null, .null, .null] pl0_waysToAll (by decide +kernel) (fun _ _ => rfl) (fun _ _ => Nat.le_of_ble_eq_true rfl) ?_
  refine g_al0 r0_waysToAll_0 ?_
  refine g_gfr r0_waysToAll_1 xx_31 rfl rr_31_0 ?_
  refine g_cS1 r0_waysToAll_4 ok0_wipe pl0_waysToAll pl0_wipe (Nat.le_of_ble_eq_true rfl) (ev0_wipe he1) (fun v' R' h' I1 ⟨q1, q2, q3, h0, hc⟩ => ?_)
  subst q1; subst q2; subst q3
  refine g_al0 r0_waysToAll_7 ?_
  refine g_gfr r0_waysToAll_8 xx_31 rfl rr_31_0 ?_
  refine g_il2 r0_waysToAll_11 ?_
  refine g_k r0_waysToAll_12 ?_
  refine g_iand r0_waysToAll_15 ?_
  refine g_eqv (y := nI (js J)) (by rw [pk_andN (by have := W.s8; omega) 8 (by decide), Nat.mod_eq_of_lt W.s8]) ?_
  refine g_k r0_waysToAll_16 ?_
  refine g_iastN r0_waysToAll_17 (xe he1) W.s8 (by decide) ?_
  refine g_k r0_waysToAll_18 ?_
  refine g_is4 r0_waysToAll_19 rfl ?_
  refine lp0_ways_1 hw W hWl hn (n + 1) 0 e1 e2 _ (fun j => if j = js J then 1 else 0) (by omega) (by omega) he1 he2 hne (fun j hj => ?_) (fun F => by rw [zdt_1, if_pos W.s8]; rfl) (fun c c1 c2 => ?_)
  · rw [zs_eq]; simp only [upd_ap]
    by_cases e : j = js J
    · rw [if_pos e, if_pos e]; exact ⟨rfl, by omega⟩
    · rw [if_neg e, if_neg e]; exact ⟨h0 j hj, by omega⟩
  · rw [zs_o _ _ (by rcases he1 with q | q <;> omega), hc c (by rcases he1 with q | q <;> omega)]
theorem ev6_ways {w v0 e1 e2 : Nat} {h : Int64} {J I : zMI} (hw : zW w) (W : zWF J) {N : Nat} (hP : zRep w I J N) (he1 : zE e1) (he2 : zE e2) (hne : ¬ e1 = e2) {x : Int32} : zEp m6_ways (zRR w v0 e1 e2) h I [.ref 0, .int x] (fun v R1 h1 I1 => v = some (.int (zwyR J x)) ∧ (∃ a b, zE a ∧ zE b ∧ ¬ a = b ∧ R1 = zRR w v0 a b) ∧ h1 = h ∧ ∀ c, ¬ c = 32 → ¬ c = 33 → I1 c = I c) := by
  refine zEp_of [.ref 0, .int x] pl6_ways (by decide +kernel) (fun _ _ => rfl) (fun _ _ => Nat.le_of_ble_eq_true rfl) ?_
  refine g_al0 r6_ways_0 ?_
  refine g_gfz r6_ways_1 xx_0 rfl ?_
  refine g_eqv (y := zb (0 < J 54 5)) hP.2.1.1 ?_
  refine g_ifneB r6_ways_4 (fun h4 => ?_) (fun h4 => ?_)
  · refine g_il1 r6_ways_10 ?_
    refine g_iflt r6_ways_11 (fun h11 => ?_) (fun h11 => ?_)
    · refine g_k r6_ways_20 ?_
      exact g_iret r6_ways_22 rfl ⟨rfl, ⟨zrt (by unfold zwyR; rw [if_pos h4, if_neg (fun q => q.1 h11)]), ⟨e1, e2, he1, he2, hne, rfl⟩, rfl, fun _ _ _ => rfl⟩⟩
    · refine g_il1 r6_ways_14 ?_
      refine g_k r6_ways_15 ?_
      refine g_icleL r6_ways_17 (fun h17 => ?_) (fun h17 => ?_)
      · obtain ⟨k, hk, rfl⟩ : ∃ k : Nat, k ≤ 12 ∧ x = nI k := nI_of2 (M := 12) rfl h11 (Int32.not_lt.mp h17)
        refine g_al0 r6_ways_23 ?_
        refine g_gfr r6_ways_24 xx_0 rfl rr_0_5 ?_
        refine g_al0 r6_ways_27 ?_
        refine g_gfr r6_ways_28 xx_0 rfl rr_0_6 ?_
        refine g_al0 r6_ways_31 ?_
        refine g_gfr r6_ways_32 xx_0 rfl rr_0_2 ?_
        refine g_gfi r6_ways_35 xx_4 rfl ?_
        refine g_eqv (y := nI (js J)) (hP.1.2.1.1.2.2.1.trans W.s) ?_
        refine g_il1 r6_ways_38 ?_
        refine g_cV3 r6_ways_39 ok0_waysToAll pl6_ways pl0_waysToAll xx_31 (Nat.le_of_ble_eq_true rfl) (ev0_waysToAll hw W hP.1.1 he1 he2 hne hk) (fun v' R' h' I1 ⟨q1, q2, q3, hc⟩ => ?_)
        subst q1; subst q3
        exact g_iret r6_ways_42 rfl ⟨rfl, ⟨zrt (by unfold zwyR; rw [if_pos h4, if_pos ⟨h11, h17⟩, nI_clamp (by omega)]), q2, rfl, hc⟩⟩
      · refine g_k r6_ways_20 ?_
        exact g_iret r6_ways_22 rfl ⟨rfl, ⟨zrt (by unfold zwyR; rw [if_pos h4, if_neg (fun q => q.2 h17)]), ⟨e1, e2, he1, he2, hne, rfl⟩, rfl, fun _ _ _ => rfl⟩⟩
  · refine g_k r6_ways_7 ?_
    exact g_iret r6_ways_9 rfl ⟨rfl, ⟨zrt (by unfold zwyR; rw [if_neg h4]), ⟨e1, e2, he1, he2, hne, rfl⟩, rfl, fun _ _ _ => rfl⟩⟩
