def zCt (Ln : Nat → Nat → Prop) (t : Nat) (g : Nat → Nat) : Prop := ∀ k e, e < k → k < t → Ln k e → g k = g e
def zTt (Ln : Nat → Nat → Prop) (t : Nat) (f : Nat → Nat) : Prop := (∀ k, k < t → f k ≤ k ∧ ∀ g, zCt Ln t g → g k = g (f k)) ∧ zCt Ln t f
def zfy (a b : Nat) (v : Nat) : Nat := if v = max a b then min a b else v
/-- threads while step k is sorted in: its links below e are done -/
def zTe (Ln : Nat → Nat → Prop) (k e : Nat) (f : Nat → Nat) : Prop := (∀ j, j ≤ k → f j ≤ j ∧ ∀ g, zCt Ln (k + 1) g → g j = g (f j)) ∧ zCt Ln k f ∧ ∀ e', e' < e → Ln k e' → f k = f e'
theorem zTe_skip {Ln : Nat → Nat → Prop} {k e : Nat} {f : Nat → Nat} (h : zTe Ln k e f) (hn : ¬ Ln k e) : zTe Ln k (e + 1) f := ⟨h.1, h.2.1, fun e' he hl => by
  by_cases q : e' = e
  · rw [q] at hl; exact absurd hl hn
  · exact h.2.2 e' (by omega) hl⟩
theorem zTe_join {Ln : Nat → Nat → Prop} {k e : Nat} {f : Nat → Nat} (hek : e < k) (h : zTe Ln k e f) (hl : Ln k e) : zTe Ln k (e + 1) (fun j => zfy (f e) (f k) (f j)) := by
  obtain ⟨h1, h2, h3⟩ := h
  refine ⟨fun j hj => ⟨?_, fun g hg => ?_⟩, fun k' e' a b c => ?_, fun e' he hl' => ?_⟩
  · have := (h1 j hj).1
    show zfy (f e) (f k) (f j) ≤ j
    unfold zfy; split <;> omega
  · have a1 := (h1 j hj).2 g hg
    have a2 := (h1 e (by omega)).2 g hg
    have a3 := (h1 k (by omega)).2 g hg
    have a4 := hg k e hek (by omega) hl
    show g j = g (zfy (f e) (f k) (f j))
    unfold zfy
    by_cases q : f j = max (f e) (f k)
    · rw [if_pos q]
      rcases Nat.le_total (f e) (f k) with r | r
      · rw [Nat.max_eq_right r] at q; rw [Nat.min_eq_left r, a1, q, ← a3, a4, a2]
      · rw [Nat.max_eq_left r] at q; rw [Nat.min_eq_right r, a1, q, ← a2, ← a4, a3]
    · rw [if_neg q]; exact a1
  · show zfy _ _ (f k') = zfy _ _ (f e'); rw [h2 k' e' a b c]
  · show zfy (f e) (f k) (f k) = zfy (f e) (f k) (f e')
    by_cases q : e' = e
    · rw [q]; unfold zfy
      rcases Nat.le_total (f e) (f k) with r | r
      · rw [Nat.max_eq_right r, Nat.min_eq_left r]; simp only [if_true]; split <;> omega
      · rw [Nat.max_eq_left r, Nat.min_eq_right r]; simp only [if_true]; split <;> omega
    · rw [h3 e' (by omega) hl']
theorem zTe_0 {Ln : Nat → Nat → Prop} {k : Nat} {f : Nat → Nat} (h : zTt Ln k f) : zTe Ln k 0 (fun j => if j = k then k else f j) := by
  refine ⟨fun j hj => ?_, fun k' e' a b c => ?_, fun e' he => by omega⟩
  · by_cases q : j = k
    · simp only [if_pos q]; exact ⟨by omega, fun g hg => by rw [q]⟩
    · simp only [if_neg q]
      exact ⟨(h.1 j (by omega)).1, fun g hg => (h.1 j (by omega)).2 g (fun a b c d e => hg a b c (by omega) e)⟩
  · simp only [if_neg (show ¬ k' = k by omega), if_neg (show ¬ e' = k by omega)]; exact h.2 k' e' a b c
theorem zTe_t {Ln : Nat → Nat → Prop} {k : Nat} {f : Nat → Nat} (h : zTe Ln k k f) : zTt Ln (k + 1) f := ⟨fun j hj => h.1 j (by omega), fun k' e' a b c => by
  by_cases q : k' = k
  · rw [q] at a c ⊢; exact h.2.2 e' a c
  · exact h.2.1 k' e' a (by omega) c⟩
theorem lp4_joinThreads {w v0 e1 e2 : Nat} {h : Int64} {I0 : zMI} {k a b : Nat} {f : Nat → Nat} (hk : k < 30) (ha : a ≤ k) (hb : b ≤ k) (hf : ∀ j, j ≤ k → f j ≤ j) : ∀ d i M, k + 1 - i < d → max a b ≤ i → i ≤ k + 1 → (∀ c, ¬ c = 16 → M c = I0 c) → (∀ j, j ≤ k → M 16 j = nI (if j < i then zfy a b (f j) else f j)) → zGo m4_joinThreads 18 [.ref 4, .int (nI a), .int (nI b), .int (nI k), .int (nI (min a b)), .int (nI (max a b)), .int (nI i)] [] zX (zRR w v0 e1 e2) h M (fun v X1 R1 h1 I1 => X1 = zX ∧ (fun v R1 h1 I1 => v = none ∧ R1 = (zRR w v0 e1 e2) ∧ h1 = h ∧ (∀ c, ¬ c = 16 → I1 c = I0 c) ∧ ∀ j, j ≤ k → I1 16 j = nI (zfy a b (f j))) v R1 h1 I1) := by
  intro d
  induction d with
  | zero => intro i M hd0; exact absurd hd0 (Nat.not_lt_zero _)
  | succ d ih =>
    intro i M hd0 hd1 hd2 ho hM
    refine g_il6 r4_joinThreads_18 ?_
    refine g_il3 r4_joinThreads_20 ?_
    refine g_icgtN r4_joinThreads_21 (by omega) (by omega) (fun h21 => ?_) (fun h21 => ?_)
    · exact g_vret r4_joinThreads_51 rfl ⟨rfl, ⟨rfl, rfl, rfl, ho, fun j hj => by rw [hM j hj, if_pos (by omega)]⟩⟩
    · refine g_al0 r4_joinThreads_24 ?_
      refine g_gfr r4_joinThreads_25 xx_4 rfl rr_4_11 ?_
      refine g_il6 r4_joinThreads_28 ?_
      refine g_ialdN r4_joinThreads_30 xx_16 (by omega) (by decide) ?_
      refine g_eqv (y := nI (f i)) (by rw [hM i (by omega), if_neg (by omega)]) ?_
      refine g_il5 r4_joinThreads_31 ?_
      refine g_icne r4_joinThreads_33 (fun h33 => ?_) (fun h33 => ?_)
      · refine g_iiN6 r4_joinThreads_45 rfl ?_
        refine g_goto r4_joinThreads_48 ?_
        refine ih (i + 1) M (by omega) (by omega) (by omega) ho (fun j hj => ?_)
        rw [hM j hj]
        by_cases q : j = i
        · subst q; rw [if_neg (by omega), if_pos (by omega)]; unfold zfy; rw [if_neg (fun c => h33 (congrArg nI c))]
        · by_cases r : j < i
          · rw [if_pos r, if_pos (by omega)]
          · rw [if_neg r, if_neg (by omega)]
      · refine g_al0 r4_joinThreads_36 ?_
        refine g_gfr r4_joinThreads_37 xx_4 rfl rr_4_11 ?_
        refine g_il6 r4_joinThreads_40 ?_
        refine g_il4 r4_joinThreads_42 ?_
        refine g_iastN r4_joinThreads_44 xx_16 (by omega) (by decide) ?_
        refine g_iiN6 r4_joinThreads_45 rfl ?_
        refine g_goto r4_joinThreads_48 ?_
        have hfi := hf i (by omega)
        have e33 := (nI_eq (by omega) (by omega)).mp h33
        refine ih (i + 1) _ (by omega) (by omega) (by omega) (fun c hc => by rw [zs_o _ _ hc]; exact ho c hc) (fun j hj => ?_)
        rw [zs_eq]; simp only [upd_ap]
        by_cases q : j = i
        · subst q; rw [if_pos rfl, if_pos (by omega)]; unfold zfy; rw [if_pos e33]
        · rw [if_neg q, hM j hj]
          by_cases r : j < i
          · rw [if_pos r, if_pos (by omega)]
          · rw [if_neg r, if_neg (by omega)]
theorem zmin32 {a b : Nat} (ha : a < 2 ^ 31) (hb : b < 2 ^ 31) : (if nI b < nI a then nI b else nI a) = nI (min a b) := by
  by_cases q : b < a
  · rw [if_pos (nI_lt q ha), Nat.min_eq_right (by omega)]
  · rw [if_neg (nI_nlt (by omega) hb), Nat.min_eq_left (by omega)]
theorem zmax32 {a b : Nat} (ha : a < 2 ^ 31) (hb : b < 2 ^ 31) : (if nI a < nI b then nI b else nI a) = nI (max a b) := by
  by_cases q : a < b
  · rw [if_pos (nI_lt q hb), Nat.max_eq_right (by omega)]
  · rw [if_neg (nI_nlt (by omega) ha), Nat.max_eq_left (by omega)]
theorem ev4_joinThreads {w v0 e1 e2 : Nat} {h : Int64} {I : zMI} {k a b : Nat} {f : Nat → Nat} (hk : k < 30) (ha : a ≤ k) (hb : b ≤ k) (hf : ∀ j, j ≤ k → f j ≤ j) (hT : ∀ j, j ≤ k → I 16 j = nI (f j)) : zEp m4_joinThreads (zRR w v0 e1 e2) h I [.ref 4, .int (nI a), .int (nI b), .int (nI k)] (fun v R1 h1 I1 => v = none ∧ R1 = (zRR w v0 e1 e2) ∧ h1 = h ∧ (∀ c, ¬ c = 16 → I1 c = I c) ∧ ∀ j, j ≤ k → I1 16 j = nI (zfy a b (f j))) := by
  refine zEp_of [.ref 4, .int (nI a), .int (nI b), .int (nI k), .null, .null, .null] pl4_joinThreads (by decide +kernel) (fun _ _ => rfl) (fun _ _ => Nat.le_of_ble_eq_true rfl) ?_
  refine g_il1 r4_joinThreads_0 ?_
  refine g_il2 r4_joinThreads_1 ?_
  refine g_mmin r4_joinThreads_2 (Nat.le_of_ble_eq_true rfl) (zle0 pl4_joinThreads) ?_
  refine g_eqv (y := nI (min a b)) (zmin32 (by omega) (by omega)) ?_
  refine g_is4 r4_joinThreads_5 rfl ?_
  refine g_il1 r4_joinThreads_7 ?_
  refine g_il2 r4_joinThreads_8 ?_
  refine g_mmax r4_joinThreads_9 (Nat.le_of_ble_eq_true rfl) (zle0 pl4_joinThreads) ?_
  refine g_eqv (y := nI (max a b)) (zmax32 (by omega) (by omega)) ?_
  refine g_is5 r4_joinThreads_12 rfl ?_
  refine g_il5 r4_joinThreads_14 ?_
  refine g_is6 r4_joinThreads_16 rfl ?_
  refine lp4_joinThreads hk ha hb hf (k + 2) (max a b) I (by omega) (Nat.le_refl _) (by omega) (fun c _ => rfl) (fun j hj => ?_)
  rw [hT j hj]
  by_cases q : j < max a b
  · rw [if_pos q]; unfold zfy; have := hf j hj; rw [if_neg (by omega)]
  · rw [if_neg q]
theorem lp4_sortIntoThread {w v0 e1 e2 : Nat} {h : Int64} {I0 : zMI} {k : Nat} {Ln : Nat → Nat → Prop} (hk : k < 30) (hLn : ∀ e, e < k → (Ln k e ↔ I0 9 k >>> (nI e &&& 31) &&& 1 = 1)) : ∀ d e f M, k - e < d → e ≤ k → zTe Ln k e f → (∀ c, ¬ c = 16 → M c = I0 c) → (∀ j, j ≤ k → M 16 j = nI (f j)) → zGo m4_sortIntoThread 9 [.ref 4, .int (nI k), .int (nI e)] [] zX (zRR w v0 e1 e2) h M (fun v X1 R1 h1 I1 => X1 = zX ∧ (fun v R1 h1 I1 => v = none ∧ R1 = (zRR w v0 e1 e2) ∧ h1 = h ∧ (∀ c, ¬ c = 16 → I1 c = I0 c) ∧ ∃ f1, zTt Ln (k + 1) f1 ∧ ∀ j, j ≤ k → I1 16 j = nI (f1 j)) v R1 h1 I1) := by
  intro d
  induction d with
  | zero => intro e f M hd0; exact absurd hd0 (Nat.not_lt_zero _)
  | succ d ih =>
    intro e f M hd0 hd1 hT ho hM
    refine g_il2 r4_sortIntoThread_9 ?_
    refine g_il1 r4_sortIntoThread_10 ?_
    refine g_icgeN r4_sortIntoThread_11 (by omega) (by omega) (fun h11 => ?_) (fun h11 => ?_)
    · exact g_vret r4_sortIntoThread_50 rfl ⟨rfl, ⟨rfl, rfl, rfl, ho, f, zTe_t (by rw [show e = k by omega] at hT; exact hT), hM⟩⟩
    · refine g_al0 r4_sortIntoThread_14 ?_
      refine g_gfr r4_sortIntoThread_15 xx_4 rfl rr_4_4 ?_
      refine g_il1 r4_sortIntoThread_18 ?_
      refine g_ialdN r4_sortIntoThread_19 xx_9 (by omega) (by decide) ?_
      refine g_eqv (y := I0 9 k) (by rw [ho 9 (by decide)]) ?_
      refine g_il2 r4_sortIntoThread_20 ?_
      refine g_eS2 r4_sortIntoThread_21 ok6_contains pl4_sortIntoThread pl6_contains (Nat.le_of_ble_eq_true rfl) (ev6_contains) ?_
      refine g_ifeqB r4_sortIntoThread_24 (fun h24 => ?_) (fun h24 => ?_)
      · refine g_iiN2 r4_sortIntoThread_44 rfl ?_
        refine g_goto r4_sortIntoThread_47 ?_
        exact ih (e + 1) f M (by omega) (by omega) (zTe_skip hT (fun q => h24 ((zcn (by omega)).mpr ((hLn e (by omega)).mp q)))) ho hM
      · refine g_al0 r4_sortIntoThread_27 ?_
        refine g_al0 r4_sortIntoThread_28 ?_
        refine g_gfr r4_sortIntoThread_29 xx_4 rfl rr_4_11 ?_
        refine g_il2 r4_sortIntoThread_32 ?_
        refine g_ialdN r4_sortIntoThread_33 xx_16 (by omega) (by decide) ?_
        refine g_eqv (y := nI (f e)) (hM e (by omega)) ?_
        refine g_al0 r4_sortIntoThread_34 ?_
        refine g_gfr r4_sortIntoThread_35 xx_4 rfl rr_4_11 ?_
        refine g_il1 r4_sortIntoThread_38 ?_
        refine g_ialdN r4_sortIntoThread_39 xx_16 (by omega) (by decide) ?_
        refine g_eqv (y := nI (f k)) (hM k (by omega)) ?_
        refine g_il1 r4_sortIntoThread_40 ?_
        refine g_cV3 r4_sortIntoThread_41 ok4_joinThreads pl4_sortIntoThread pl4_joinThreads xx_4 (Nat.le_of_ble_eq_true rfl) (ev4_joinThreads hk (Nat.le_trans (hT.1 e (by omega)).1 (by omega)) (hT.1 k (by omega)).1 (fun j hj => (hT.1 j hj).1) hM) (fun v' R' h' M1 ⟨q1, q2, q3, ho1, hM1⟩ => ?_)
        subst q1; subst q2; subst q3
        refine g_iiN2 r4_sortIntoThread_44 rfl ?_
        refine g_goto r4_sortIntoThread_47 ?_
        exact ih (e + 1) _ M1 (by omega) (by omega) (zTe_join (by omega) hT ((hLn e (by omega)).mpr ((zcn (by omega)).mp h24))) (fun c hc => (ho1 c hc).trans (ho c hc)) hM1
theorem ev4_sortIntoThread {w v0 e1 e2 : Nat} {h : Int64} {I : zMI} {k : Nat} {Ln : Nat → Nat → Prop} {f : Nat → Nat} (hk : k < 30) (hLn : ∀ e, e < k → (Ln k e ↔ I 9 k >>> (nI e &&& 31) &&& 1 = 1)) (hT : zTt Ln k f) (hM : ∀ j, j < k → I 16 j = nI (f j)) : zEp m4_sortIntoThread (zRR w v0 e1 e2) h I [.ref 4, .int (nI k)] (fun v R1 h1 I1 => v = none ∧ R1 = (zRR w v0 e1 e2) ∧ h1 = h ∧ (∀ c, ¬ c = 16 → I1 c = I c) ∧ ∃ f1, zTt Ln (k + 1) f1 ∧ ∀ j, j ≤ k → I1 16 j = nI (f1 j)) := by
  refine zEp_of [.ref 4, .int (nI k), .null] pl4_sortIntoThread (by decide +kernel) (fun _ _ => rfl) (fun _ _ => Nat.le_of_ble_eq_true rfl) ?_
  refine g_al0 r4_sortIntoThread_0 ?_
  refine g_gfr r4_sortIntoThread_1 xx_4 rfl rr_4_11 ?_
  refine g_il1 r4_sortIntoThread_4 ?_
  refine g_il1 r4_sortIntoThread_5 ?_
  refine g_iastN r4_sortIntoThread_6 xx_16 (by omega) (by decide) ?_
  refine g_k r4_sortIntoThread_7 ?_
  refine g_is2 r4_sortIntoThread_8 rfl ?_
  refine lp4_sortIntoThread hk hLn (k + 1) 0 _ _ (by omega) (by omega) (zTe_0 hT) (fun c hc => zs_o _ _ hc) (fun j hj => ?_)
  rw [zs_eq]; simp only [upd_ap]
  by_cases q : j = k
  · rw [if_pos q, if_pos q]
  · rw [if_neg q, if_neg q]; exact hM j (by omega)
