def zhf (L : Int32) (H : Nat → Int32) : Nat → Int32
  | 0 => L
  | e + 1 => zhf L H e ||| (if L >>> (nI e &&& 31) &&& 1 = 1 then H e else 0)
def zhT (J : zMI) : Nat → Nat → Int32
  | 0 => fun _ => 0
  | k + 1 => upd (zhT J k) k (zhf (zlk J k) (zhT J k) k)
/-- all steps that a step hangs on -/
def zhg (J : zMI) (k : Nat) : Int32 := zhT J (k + 1) k
theorem zhf_c {L : Int32} {H H' : Nat → Int32} : ∀ {n : Nat}, (∀ e, e < n → H e = H' e) → zhf L H n = zhf L H' n
  | 0, _ => rfl
  | n + 1, h => by simp only [zhf]; rw [zhf_c (fun e he => h e (by omega)), h n (by omega)]
theorem zhT_lt (J : zMI) (j : Nat) : ∀ k, j < k → zhT J k j = zhg J j
  | 0, h => absurd h (Nat.not_lt_zero j)
  | k + 1, h => by
    by_cases e : j = k
    · subst e; rfl
    · simp only [zhT, upd_ap, if_neg e]; exact zhT_lt J j k (by omega)
theorem zhg_eq (J : zMI) (k : Nat) : zhg J k = zhf (zlk J k) (zhg J) k := by
  show upd (zhT J k) k (zhf (zlk J k) (zhT J k) k) k = _
  simp only [upd_ap, if_true]
  exact zhf_c (fun e he => zhT_lt J e k he)
/-- links, and what is the same along them -/
def zLn (J : zMI) (k e : Nat) : Prop := zlk J k >>> (nI e &&& 31) &&& 1 = 1
def zCm (J : zMI) (g : Nat → Nat) : Prop := ∀ k e, e < k → k < jt J → zLn J k e → g k = g e
def zTp (J : zMI) (f : Nat → Nat) : Prop := ∀ k, k < jt J → f k ≤ k ∧ ∀ g, zCm J g → g k = g (f k)
theorem zTp_one {J : zMI} {f f' : Nat → Nat} (h : zTp J f) (hc : zCm J f) (h' : zTp J f') (hc' : zCm J f') : ∀ k, k < jt J → f k = f' k := by
  intro k hk
  have a1 := (h k hk).2 f' hc'
  have a2 := (h' k hk).2 f hc
  have b1 := (h' (f k) (by have := (h k hk).1; omega)).1
  have b2 := (h (f' k) (by have := (h' k hk).1; omega)).1
  omega
noncomputable def zth (J : zMI) : Nat → Nat := @Classical.epsilon (Nat → Nat) ⟨fun _ => 0⟩ (fun f => zTp J f ∧ zCm J f)
theorem zth_of {J : zMI} {f : Nat → Nat} (h : zTp J f) (hc : zCm J f) : ∀ k, k < jt J → f k = zth J k := by
  have q := @Classical.epsilon_spec_aux (Nat → Nat) ⟨fun _ => 0⟩ (fun f => zTp J f ∧ zCm J f) ⟨f, h, hc⟩
  exact zTp_one h hc q.1 q.2
theorem zth_sp {J : zMI} {f : Nat → Nat} (h : zTp J f) (hc : zCm J f) : zTp J (zth J) ∧ zCm J (zth J) := @Classical.epsilon_spec_aux (Nat → Nat) ⟨fun _ => 0⟩ (fun f => zTp J f ∧ zCm J f) ⟨f, h, hc⟩
def zLkd (J I : zMI) : Prop := zOx J I ∧ (∀ k, k < jt J → I 79 k = zlk J k ∧ I 80 k = zhg J k ∧ I 81 k = nI (zth J k)) ∧ zTp J (zth J) ∧ zCm J (zth J)
def zLkI (J I : zMI) (f : Nat → Nat) : Prop := zOx J I ∧ (∀ k, k < jt J → I 79 k = zlk J k ∧ I 80 k = zhg J k ∧ I 81 k = nI (f k)) ∧ zTp J f
def zFl (J : zMI) (f0 f : Nat → Nat) (b : Int32) (k e : Nat) : Prop := (b = 0 ∧ f = f0 ∧ ∀ k' e', e' < k' → k' < jt J → (k' < k ∨ (k' = k ∧ e' < e)) → zLn J k' e' → f k' = f e') ∨ (b = 1 ∧ zsum f (jt J) < zsum f0 (jt J))
theorem ev7_joins {w v0 e1 e2 : Nat} {h : Int64} {I : zMI} {a b x y : Nat} (ha : a < 30) (hb : b < 30) (hx : I 81 a = nI x) (hy : I 81 b = nI y) (hx3 : x < 2 ^ 31) (hy3 : y < 2 ^ 31) : zEr m7_joins (zRR w v0 e1 e2) h I [.ref 54, .int (nI a), .int (nI b)] (some (.int (zb (¬ x = y)))) (zRR w v0 e1 e2) h (zs I 81 (upd (upd (I 81) a (nI (min x y))) b (nI (min x y)))) := by
  refine zEp_of [.ref 54, .int (nI a), .int (nI b), .null, .null] pl7_joins (by decide +kernel) (fun _ _ => rfl) (fun _ _ => Nat.le_of_ble_eq_true rfl) ?_
  refine g_al0 r7_joins_0 ?_
  refine g_gfr r7_joins_1 xx_54 rfl rr_54_41 ?_
  refine g_il1 r7_joins_4 ?_
  refine g_ialdN r7_joins_5 xx_81 ha (by decide) ?_
  refine g_eqv (y := nI x) hx ?_
  refine g_al0 r7_joins_6 ?_
  refine g_gfr r7_joins_7 xx_54 rfl rr_54_41 ?_
  refine g_il2 r7_joins_10 ?_
  refine g_ialdN r7_joins_11 xx_81 hb (by decide) ?_
  refine g_eqv (y := nI y) hy ?_
  refine g_icgeN r7_joins_12 (by omega) (by omega) (fun h12 => ?_) (fun h12 => ?_)
  · refine g_al0 r7_joins_24 ?_
    refine g_gfr r7_joins_25 xx_54 rfl rr_54_41 ?_
    refine g_il2 r7_joins_28 ?_
    refine g_ialdN r7_joins_29 xx_81 hb (by decide) ?_
    refine g_eqv (y := nI y) hy ?_
    refine g_is3 r7_joins_30 rfl ?_
    refine g_al0 r7_joins_31 ?_
    refine g_gfr r7_joins_32 xx_54 rfl rr_54_41 ?_
    refine g_il1 r7_joins_35 ?_
    refine g_ialdN r7_joins_36 xx_81 ha (by decide) ?_
    refine g_eqv (y := nI x) hx ?_
    refine g_il3 r7_joins_37 ?_
    refine g_icne r7_joins_38 (fun h38 => ?_) (fun h38 => ?_)
    · refine g_k r7_joins_51 ?_
      refine g_goto r7_joins_52 ?_
      refine g_is4 r7_joins_56 rfl ?_
      refine g_al0 r7_joins_58 ?_
      refine g_gfr r7_joins_59 xx_54 rfl rr_54_41 ?_
      refine g_il1 r7_joins_62 ?_
      refine g_il3 r7_joins_63 ?_
      refine g_iastN r7_joins_64 xx_81 ha (by decide) ?_
      refine g_al0 r7_joins_65 ?_
      refine g_gfr r7_joins_66 xx_54 rfl rr_54_41 ?_
      refine g_il2 r7_joins_69 ?_
      refine g_il3 r7_joins_70 ?_
      refine g_iastN r7_joins_71 xx_81 hb (by decide) ?_
      refine g_il4 r7_joins_72 ?_
      exact g_zret r7_joins_74 rfl (Or.inr rfl) ⟨rfl, ⟨zrt ((zb_t (show ¬ x = y from fun q => h38 (congrArg nI q))).symm), rfl, rfl, by rw [zs_zs, zs_eq, show min x y = y by omega]⟩⟩
    · refine g_al0 r7_joins_41 ?_
      refine g_gfr r7_joins_42 xx_54 rfl rr_54_41 ?_
      refine g_il2 r7_joins_45 ?_
      refine g_ialdN r7_joins_46 xx_81 hb (by decide) ?_
      refine g_eqv (y := nI y) hy ?_
      refine g_il3 r7_joins_47 ?_
      refine g_iceq r7_joins_48 (fun h48 => ?_) (fun hc => absurd hc (fun q => q rfl))
      refine g_k r7_joins_55 ?_
      refine g_is4 r7_joins_56 rfl ?_
      refine g_al0 r7_joins_58 ?_
      refine g_gfr r7_joins_59 xx_54 rfl rr_54_41 ?_
      refine g_il1 r7_joins_62 ?_
      refine g_il3 r7_joins_63 ?_
      refine g_iastN r7_joins_64 xx_81 ha (by decide) ?_
      refine g_al0 r7_joins_65 ?_
      refine g_gfr r7_joins_66 xx_54 rfl rr_54_41 ?_
      refine g_il2 r7_joins_69 ?_
      refine g_il3 r7_joins_70 ?_
      refine g_iastN r7_joins_71 xx_81 hb (by decide) ?_
      refine g_il4 r7_joins_72 ?_
      exact g_zret r7_joins_74 rfl (Or.inl rfl) ⟨rfl, ⟨zrt ((zb_f (show ¬ ¬ x = y from fun q => q ((nI_eq hx3 hy3).mp h38))).symm), rfl, rfl, by rw [zs_zs, zs_eq, show min x y = y by omega]⟩⟩
  · refine g_al0 r7_joins_15 ?_
    refine g_gfr r7_joins_16 xx_54 rfl rr_54_41 ?_
    refine g_il1 r7_joins_19 ?_
    refine g_ialdN r7_joins_20 xx_81 ha (by decide) ?_
    refine g_eqv (y := nI x) hx ?_
    refine g_goto r7_joins_21 ?_
    refine g_is3 r7_joins_30 rfl ?_
    refine g_al0 r7_joins_31 ?_
    refine g_gfr r7_joins_32 xx_54 rfl rr_54_41 ?_
    refine g_il1 r7_joins_35 ?_
    refine g_ialdN r7_joins_36 xx_81 ha (by decide) ?_
    refine g_eqv (y := nI x) hx ?_
    refine g_il3 r7_joins_37 ?_
    refine g_icne r7_joins_38 (fun hc => absurd hc (fun q => q rfl)) (fun h38 => ?_)
    refine g_al0 r7_joins_41 ?_
    refine g_gfr r7_joins_42 xx_54 rfl rr_54_41 ?_
    refine g_il2 r7_joins_45 ?_
    refine g_ialdN r7_joins_46 xx_81 hb (by decide) ?_
    refine g_eqv (y := nI y) hy ?_
    refine g_il3 r7_joins_47 ?_
    refine g_iceq r7_joins_48 (fun h48 => ?_) (fun h48 => ?_)
    · refine g_k r7_joins_55 ?_
      refine g_is4 r7_joins_56 rfl ?_
      refine g_al0 r7_joins_58 ?_
      refine g_gfr r7_joins_59 xx_54 rfl rr_54_41 ?_
      refine g_il1 r7_joins_62 ?_
      refine g_il3 r7_joins_63 ?_
      refine g_iastN r7_joins_64 xx_81 ha (by decide) ?_
      refine g_al0 r7_joins_65 ?_
      refine g_gfr r7_joins_66 xx_54 rfl rr_54_41 ?_
      refine g_il2 r7_joins_69 ?_
      refine g_il3 r7_joins_70 ?_
      refine g_iastN r7_joins_71 xx_81 hb (by decide) ?_
      refine g_il4 r7_joins_72 ?_
      exact g_zret r7_joins_74 rfl (Or.inl rfl) ⟨rfl, ⟨zrt ((zb_f (show ¬ ¬ x = y from fun q => q ((nI_eq hy3 hx3).mp h48).symm)).symm), rfl, rfl, by rw [zs_zs, zs_eq, show min x y = x by omega]⟩⟩
    · refine g_k r7_joins_51 ?_
      refine g_goto r7_joins_52 ?_
      refine g_is4 r7_joins_56 rfl ?_
      refine g_al0 r7_joins_58 ?_
      refine g_gfr r7_joins_59 xx_54 rfl rr_54_41 ?_
      refine g_il1 r7_joins_62 ?_
      refine g_il3 r7_joins_63 ?_
      refine g_iastN r7_joins_64 xx_81 ha (by decide) ?_
      refine g_al0 r7_joins_65 ?_
      refine g_gfr r7_joins_66 xx_54 rfl rr_54_41 ?_
      refine g_il2 r7_joins_69 ?_
      refine g_il3 r7_joins_70 ?_
      refine g_iastN r7_joins_71 xx_81 hb (by decide) ?_
      refine g_il4 r7_joins_72 ?_
      exact g_zret r7_joins_74 rfl (Or.inr rfl) ⟨rfl, ⟨zrt ((zb_t (show ¬ x = y from fun q => h48 (congrArg nI q.symm))).symm), rfl, rfl, by rw [zs_zs, zs_eq, show min x y = x by omega]⟩⟩
section FL
variable {J I : zMI} {f0 f : Nat → Nat} {b : Int32} {k e : Nat}
theorem zFl_1 (h : zFl J f0 f b k e) (hb : ¬ b = 0) : b = 1 := h.elim (fun q => absurd q.1 hb) (fun q => q.1)
theorem zFl_end (h : zFl J f0 f b k k) : zFl J f0 f b (k + 1) 0 := h.imp (fun ⟨h1, h2, h3⟩ => ⟨h1, h2, fun k' e' a1 a2 a3 => h3 k' e' a1 a2 (by omega)⟩) id
theorem zFl_eq (h : zFl J f0 f b k e) (he : f k = f e) : zFl J f0 f b k (e + 1) := h.imp (fun ⟨h1, h2, h3⟩ => ⟨h1, h2, fun k' e' a1 a2 a3 a4 => by
    by_cases q : k' = k ∧ e' = e
    · rw [q.1, q.2]; exact he
    · exact h3 k' e' a1 a2 (by omega) a4⟩) id
theorem zFl_skip (h : zFl J f0 f b k e) (hn : ¬ zLn J k e) : zFl J f0 f b k (e + 1) := h.imp (fun ⟨h1, h2, h3⟩ => ⟨h1, h2, fun k' e' a1 a2 a3 a4 => by
    by_cases q : k' = k ∧ e' = e
    · rw [q.1, q.2] at a4; exact absurd a4 hn
    · exact h3 k' e' a1 a2 (by omega) a4⟩) id
def zjf (f : Nat → Nat) (k e : Nat) : Nat → Nat := fun j => if j = e then min (f k) (f e) else if j = k then min (f k) (f e) else f j
theorem zLkI_join (hI : zLkI J I f) (hk : k < jt J) (he : e < k) (hl : zLn J k e) : zLkI J (zs I 81 (upd (upd (I 81) k (nI (min (f k) (f e)))) e (nI (min (f k) (f e))))) (zjf f k e) := by
  obtain ⟨h1, h2, h3⟩ := hI
  refine ⟨h1.trans (zOx_row I 81 _ (by omega) (by omega)), fun j hj => ?_, fun j hj => ?_⟩
  · obtain ⟨q1, q2, q3⟩ := h2 j hj
    refine ⟨by rw [zs_o _ _ (by decide)]; exact q1, by rw [zs_o _ _ (by decide)]; exact q2, ?_⟩
    rw [zs_eq]
    simp only [upd_ap, zjf]
    by_cases a : j = e
    · simp [a]
    · by_cases b : j = k
      · simp [a, b]
      · simp [a, b, q3]
  · have c : ∀ g, zCm J g → g (min (f k) (f e)) = g k ∧ g k = g e := fun g hg => by
      have a1 := (h3 k hk).2 g hg
      have a2 := (h3 e (by omega)).2 g hg
      have a3 := hg k e he hk hl
      refine ⟨?_, a3⟩
      by_cases q : f k ≤ f e
      · rw [Nat.min_eq_left q, ← a1]
      · rw [Nat.min_eq_right (by omega), ← a2, ← a3]
    have hfk := (h3 k hk).1
    have hfe := (h3 e (by omega)).1
    unfold zjf
    by_cases a : j = e
    · subst a; simp only [if_true]; exact ⟨by omega, fun g hg => by rw [(c g hg).1, (c g hg).2]⟩
    · by_cases b : j = k
      · subst b; simp only [if_true, if_neg a]; exact ⟨by omega, fun g hg => ((c g hg).1).symm⟩
      · simp only [if_neg a, if_neg b]; exact h3 j hj
theorem zjf_le (j : Nat) : zjf f k e j ≤ f j := by
  unfold zjf
  by_cases a : j = e
  · subst a; simp only [if_true]; omega
  · by_cases b : j = k
    · subst b; simp only [if_true, if_neg a]; omega
    · simp only [if_neg a, if_neg b]; omega
theorem zFl_join (hI : zLkI J I f) (hk : k < jt J) (he : e < k) (h : zFl J f0 f b k e) (hne : ¬ f k = f e) : zFl J f0 (zjf f k e) 1 k (e + 1) := by
  have lt : zsum (zjf f k e) (jt J) < zsum f (jt J) := by
    refine zsum_lt (fun j _ => zjf_le j) ?_
    by_cases q : f k < f e
    · exact ⟨e, by omega, by simp only [zjf, if_true]; omega⟩
    · exact ⟨k, hk, by simp only [zjf, if_true, if_neg (show ¬ k = e by omega)]; omega⟩
  refine Or.inr ⟨rfl, ?_⟩
  rcases h with ⟨-, rfl, -⟩ | ⟨-, h2⟩
  · exact lt
  · omega
theorem zjn_same (hI : zLkI J I f) (hk : k < jt J) (he : e < k) (h : f k = f e) : zs I 81 (upd (upd (I 81) k (nI (min (f k) (f e)))) e (nI (min (f k) (f e)))) = I := by
  have a1 := (hI.2.1 k hk).2.2
  have a2 := (hI.2.1 e (by omega)).2.2
  rw [h, Nat.min_self, show upd (I 81) k (nI (f e)) = I 81 from fa_upd_same' (by rw [a1, h]), fa_upd_same' a2, zs_self]
end FL
theorem lp7_layLinks_e {w v0 e1 e2 : Nat} {h : Int64} {P : zPost} {J : zMI} (W : zWF J) (ht30 : jt J ≤ 30) {f0 : Nat → Nat} {k : Nat} (hk : k < jt J) (hend : ∀ f I b (y : Value), zLkI J I f → zFl J f0 f b (k + 1) 0 → zGo m7_layLinks 156 [.ref 54, .int b, .int (nI k), y] [] zX (zRR w v0 e1 e2) h I P) : ∀ d e f I b, k - e < d → e ≤ k → zLkI J I f → zFl J f0 f b k e → zGo m7_layLinks 112 [.ref 54, .int b, .int (nI k), .int (nI e)] [] zX (zRR w v0 e1 e2) h I P := by
  intro d
  induction d with
  | zero => intro e f I b hd0; exact absurd hd0 (Nat.not_lt_zero _)
  | succ d ih =>
    intro e f I b hd0 hd1 hI hF
    have hO := hI.1
    refine g_il3 r7_layLinks_112 ?_
    refine g_il2 r7_layLinks_113 ?_
    refine g_icgeN r7_layLinks_114 (by omega) (by omega) (fun h114 => ?_) (fun h114 => ?_)
    · rw [show e = k by omega] at hF
      exact hend f I b _ hI (zFl_end hF)
    · refine g_al0 r7_layLinks_117 ?_
      refine g_gfr r7_layLinks_118 xx_54 rfl rr_54_39 ?_
      refine g_il2 r7_layLinks_121 ?_
      refine g_ialdN r7_layLinks_122 xx_79 (by omega) (by decide) ?_
      refine g_eqv (y := zlk J k) (hI.2.1 k hk).1 ?_
      refine g_il3 r7_layLinks_123 ?_
      refine g_ishr r7_layLinks_124 ?_
      refine g_k r7_layLinks_125 ?_
      refine g_iand r7_layLinks_126 ?_
      refine g_k r7_layLinks_127 ?_
      refine g_icne r7_layLinks_128 (fun h128 => ?_) (fun h128 => ?_)
      · refine g_il1 r7_layLinks_140 ?_
        refine g_ifeq r7_layLinks_141 (fun h141 => ?_) (fun h141 => ?_)
        · refine g_k r7_layLinks_148 ?_
          refine g_is1 r7_layLinks_149 rfl ?_
          refine g_iiN3 r7_layLinks_150 rfl ?_
          refine g_goto r7_layLinks_153 ?_
          exact ih (e + 1) _ _ _ (by omega) (by omega) (hI) (h141 ▸ zFl_skip hF h128)
        · refine g_k r7_layLinks_144 ?_
          refine g_goto r7_layLinks_145 ?_
          refine g_is1 r7_layLinks_149 rfl ?_
          refine g_iiN3 r7_layLinks_150 rfl ?_
          refine g_goto r7_layLinks_153 ?_
          exact ih (e + 1) _ _ _ (by omega) (by omega) (hI) (zFl_1 hF h141 ▸ zFl_skip hF h128)
      · have hfk := (hI.2.2 k hk).1
        have hfe := (hI.2.2 e (by omega)).1
        refine g_al0 r7_layLinks_131 ?_
        refine g_il2 r7_layLinks_132 ?_
        refine g_il3 r7_layLinks_133 ?_
        refine g_eV2 r7_layLinks_134 ok7_joins pl7_layLinks pl7_joins xx_54 (Nat.le_of_ble_eq_true rfl) (ev7_joins (x := f k) (y := f e) (by omega) (by omega) (hI.2.1 k hk).2.2 (hI.2.1 e (by omega)).2.2 (by omega) (by omega)) ?_
        refine g_ifneB r7_layLinks_137 (fun h137 => ?_) (fun h137 => ?_)
        · refine g_k r7_layLinks_144 ?_
          refine g_goto r7_layLinks_145 ?_
          refine g_is1 r7_layLinks_149 rfl ?_
          refine g_iiN3 r7_layLinks_150 rfl ?_
          refine g_goto r7_layLinks_153 ?_
          exact ih (e + 1) _ _ _ (by omega) (by omega) (zLkI_join hI hk h114 h128) (zFl_join hI hk h114 hF h137)
        · refine g_il1 r7_layLinks_140 ?_
          refine g_ifeq r7_layLinks_141 (fun h141 => ?_) (fun h141 => ?_)
          · refine g_k r7_layLinks_148 ?_
            refine g_is1 r7_layLinks_149 rfl ?_
            refine g_iiN3 r7_layLinks_150 rfl ?_
            refine g_goto r7_layLinks_153 ?_
            rw [zjn_same hI hk h114 (Classical.not_not.mp h137)]
            exact ih (e + 1) _ _ _ (by omega) (by omega) (hI) (h141 ▸ zFl_eq hF (Classical.not_not.mp h137))
          · refine g_k r7_layLinks_144 ?_
            refine g_goto r7_layLinks_145 ?_
            refine g_is1 r7_layLinks_149 rfl ?_
            refine g_iiN3 r7_layLinks_150 rfl ?_
            refine g_goto r7_layLinks_153 ?_
            rw [zjn_same hI hk h114 (Classical.not_not.mp h137)]
            exact ih (e + 1) _ _ _ (by omega) (by omega) (hI) (zFl_1 hF h141 ▸ zFl_eq hF (Classical.not_not.mp h137))
theorem lp7_layLinks_k {w v0 e1 e2 : Nat} {h : Int64} {P : zPost} {J : zMI} (W : zWF J) (ht30 : jt J ≤ 30) {f0 : Nat → Nat} (hend : ∀ f I b (y z : Value), zLkI J I f → zFl J f0 f b (jt J) 0 → zGo m7_layLinks 162 [.ref 54, .int b, y, z] [] zX (zRR w v0 e1 e2) h I P) : ∀ d i f I b (z : Value), jt J - i < d → i ≤ jt J → zLkI J I f → zFl J f0 f b i 0 → zGo m7_layLinks 102 [.ref 54, .int b, .int (nI i), z] [] zX (zRR w v0 e1 e2) h I P := by
  intro d
  induction d with
  | zero => intro i f I b z hd0; exact absurd hd0 (Nat.not_lt_zero _)
  | succ d ih =>
    intro i f I b z hd0 hd1 hI hF
    have hO := hI.1
    refine g_il2 r7_layLinks_102 ?_
    refine g_al0 r7_layLinks_103 ?_
    refine g_gfi r7_layLinks_104 xx_54 rfl ?_
    refine g_eqv (y := nI (jt J)) ((hO.f 13 (by decide)).trans W.t) ?_
    refine g_icgeN r7_layLinks_107 (by omega) (by omega) (fun h107 => ?_) (fun h107 => ?_)
    · rw [show i = jt J by omega] at hF
      exact hend f I b _ _ hI hF
    · refine g_k r7_layLinks_110 ?_
      refine g_is3 r7_layLinks_111 rfl ?_
      exact lp7_layLinks_e W ht30 h107 (fun f I b y hI hF => by
        have hO := hI.1
        refine g_iiN2 r7_layLinks_156 rfl ?_
        refine g_goto r7_layLinks_159 ?_
        exact ih (i + 1) f I b y (by omega) (by omega) hI hF
        ) (i + 1) 0 f I b (by omega) (by omega) hI hF
theorem lp7_layLinks_o {w v0 e1 e2 : Nat} {h : Int64} {J : zMI} (W : zWF J) : ∀ d f I (y z : Value), zsum f (jt J) < d → zLkI J I f → zGo m7_layLinks 94 [.ref 54, .int 1, y, z] [] zX (zRR w v0 e1 e2) h I (fun v X1 R1 h1 I1 => X1 = zX ∧ v = none ∧ R1 = (zRR w v0 e1 e2) ∧ h1 = h ∧ zLkd J I1) := by
  intro d
  induction d with
  | zero => intro f I y z hd0; exact absurd hd0 (Nat.not_lt_zero _)
  | succ d ih =>
    intro f I y z hd0 hI
    refine g_il1 r7_layLinks_94 ?_
    refine g_ifeq r7_layLinks_95 (fun hc => absurd hc (by decide)) (fun _ => ?_)
    refine g_k r7_layLinks_98 ?_
    refine g_is1 r7_layLinks_99 rfl ?_
    refine g_k r7_layLinks_100 ?_
    refine g_is2 r7_layLinks_101 rfl ?_
    refine lp7_layLinks_k W W.t30 (f0 := f) (fun f1 I1 b1 y1 z1 hI1 hF1 => ?_) (jt J + 1) 0 f I 0 _ (by omega) (by omega) hI (Or.inl ⟨rfl, rfl, fun k e _ _ q => by omega⟩)
    refine g_goto r7_layLinks_162 ?_
    rcases hF1 with ⟨rfl, rfl, hc⟩ | ⟨rfl, hlt⟩
    · refine g_il1 r7_layLinks_94 ?_
      exact g_ifeq r7_layLinks_95 (fun _ => g_vret r7_layLinks_165 rfl ⟨rfl, rfl, rfl, rfl, hI1.1, fun k hk => by rw [← zth_of hI1.2.2 (fun k e a1 a2 a3 => hc k e a1 a2 (by omega) a3) k hk]; exact hI1.2.1 k hk, zth_sp hI1.2.2 (fun k e a1 a2 a3 => hc k e a1 a2 (by omega) a3)⟩) (fun hc => absurd rfl hc)
    · exact ih f1 I1 y1 z1 (by omega) hI1
theorem lp7_layLinks_h {w v0 e1 e2 : Nat} {h : Int64} {P : zPost} {J : zMI} (W : zWF J) (ht30 : jt J ≤ 30) {i : Nat} (hi : i < jt J) {y3 : Value} (hend : ∀ I (y : Value), zOx J I → (∀ k, k < i + 1 → I 79 k = zlk J k ∧ I 80 k = zhg J k ∧ I 81 k = nI k) → zGo m7_layLinks 86 [.ref 54, .int (nI i), y, y3] [] zX (zRR w v0 e1 e2) h I P) : ∀ d e I, i - e < d → e ≤ i → zOx J I → (∀ k, k < i → I 79 k = zlk J k ∧ I 80 k = zhg J k ∧ I 81 k = nI k) → I 79 i = zlk J i → I 80 i = zhf (zlk J i) (zhg J) e → I 81 i = nI i → zGo m7_layLinks 42 [.ref 54, .int (nI i), .int (nI e), y3] [] zX (zRR w v0 e1 e2) h I P := by
  intro d
  induction d with
  | zero => intro e I hd0; exact absurd hd0 (Nat.not_lt_zero _)
  | succ d ih =>
    intro e I hd0 hd1 hO h3 h79 h80 h81
    refine g_il2 r7_layLinks_42 ?_
    refine g_il1 r7_layLinks_43 ?_
    refine g_icgeN r7_layLinks_44 (by omega) (by omega) (fun h44 => ?_) (fun h44 => ?_)
    · rw [show e = i by omega, ← zhg_eq] at h80
      exact hend I _ hO (fun k hk => by
        rcases Nat.lt_succ_iff_lt_or_eq.mp hk with q | rfl
        · exact h3 k q
        · exact ⟨h79, h80, h81⟩)
    · refine g_al0 r7_layLinks_47 ?_
      refine g_gfr r7_layLinks_48 xx_54 rfl rr_54_40 ?_
      refine g_il1 r7_layLinks_51 ?_
      refine g_dup2 r7_layLinks_52 rfl rfl ?_
      refine g_ialdN r7_layLinks_53 xx_80 (by omega) (by decide) ?_
      refine g_eqv (y := zhf (zlk J i) (zhg J) e) h80 ?_
      refine g_al0 r7_layLinks_54 ?_
      refine g_gfr r7_layLinks_55 xx_54 rfl rr_54_39 ?_
      refine g_il1 r7_layLinks_58 ?_
      refine g_ialdN r7_layLinks_59 xx_79 (by omega) (by decide) ?_
      refine g_eqv (y := zlk J i) h79 ?_
      refine g_il2 r7_layLinks_60 ?_
      refine g_ishr r7_layLinks_61 ?_
      refine g_k r7_layLinks_62 ?_
      refine g_iand r7_layLinks_63 ?_
      refine g_k r7_layLinks_64 ?_
      refine g_icne r7_layLinks_65 (fun h65 => ?_) (fun h65 => ?_)
      · refine g_k r7_layLinks_77 ?_
        refine g_ior r7_layLinks_78 ?_
        refine g_iastN r7_layLinks_79 xx_80 (by omega) (by decide) ?_
        refine g_iiN2 r7_layLinks_80 rfl ?_
        refine g_goto r7_layLinks_83 ?_
        refine ih (e + 1) _ (by omega) (by omega) (hO.trans (zOx_row I 80 _ (by omega) (by omega))) (fun k hk => ?_) ?_ ?_ ?_
        · obtain ⟨q1, q2, q3⟩ := h3 k hk
          exact ⟨by rw [zs_o _ _ (by decide)]; exact q1, by rw [zs_eq]; simp only [upd_ap, if_neg (show ¬ k = i by omega)]; exact q2, by rw [zs_o _ _ (by decide)]; exact q3⟩
        · rw [zs_o _ _ (by decide)]; exact h79
        · rw [zs_eq]; simp only [upd_ap, if_true, zhf]; rw [if_neg h65]
        · rw [zs_o _ _ (by decide)]; exact h81
      · refine g_al0 r7_layLinks_68 ?_
        refine g_gfr r7_layLinks_69 xx_54 rfl rr_54_40 ?_
        refine g_il2 r7_layLinks_72 ?_
        refine g_ialdN r7_layLinks_73 xx_80 (by omega) (by decide) ?_
        refine g_eqv (y := zhg J e) (h3 e h44).2.1 ?_
        refine g_goto r7_layLinks_74 ?_
        refine g_ior r7_layLinks_78 ?_
        refine g_iastN r7_layLinks_79 xx_80 (by omega) (by decide) ?_
        refine g_iiN2 r7_layLinks_80 rfl ?_
        refine g_goto r7_layLinks_83 ?_
        refine ih (e + 1) _ (by omega) (by omega) (hO.trans (zOx_row I 80 _ (by omega) (by omega))) (fun k hk => ?_) ?_ ?_ ?_
        · obtain ⟨q1, q2, q3⟩ := h3 k hk
          exact ⟨by rw [zs_o _ _ (by decide)]; exact q1, by rw [zs_eq]; simp only [upd_ap, if_neg (show ¬ k = i by omega)]; exact q2, by rw [zs_o _ _ (by decide)]; exact q3⟩
        · rw [zs_o _ _ (by decide)]; exact h79
        · rw [zs_eq]; simp only [upd_ap, if_true, zhf]; rw [if_pos h65]
        · rw [zs_o _ _ (by decide)]; exact h81
theorem lp7_layLinks_1 {w v0 e1 e2 : Nat} {h : Int64} {P : zPost} {J : zMI} (W : zWF J) (ht30 : jt J ≤ 30) (hend : ∀ I (x y z : Value), zOx J I → (∀ k, k < jt J → I 79 k = zlk J k ∧ I 80 k = zhg J k ∧ I 81 k = nI k) → zGo m7_layLinks 92 [.ref 54, x, y, z] [] zX (zRR w v0 e1 e2) h I P) : ∀ d i I (y z : Value), jt J - i < d → i ≤ jt J → zOx J I → (∀ k, k < i → I 79 k = zlk J k ∧ I 80 k = zhg J k ∧ I 81 k = nI k) → zGo m7_layLinks 2 [.ref 54, .int (nI i), y, z] [] zX (zRR w v0 e1 e2) h I P := by
  intro d
  induction d with
  | zero => intro i I y z hd0; exact absurd hd0 (Nat.not_lt_zero _)
  | succ d ih =>
    intro i I y z hd0 hd1 hO h3
    refine g_il1 r7_layLinks_2 ?_
    refine g_al0 r7_layLinks_3 ?_
    refine g_gfi r7_layLinks_4 xx_54 rfl ?_
    refine g_eqv (y := nI (jt J)) ((hO.f 13 (by decide)).trans W.t) ?_
    refine g_icgeN r7_layLinks_7 (by omega) (by omega) (fun h7 => ?_) (fun h7 => ?_)
    · exact hend I _ _ _ hO (fun k hk => h3 k (by omega))
    · refine g_al0 r7_layLinks_10 ?_
      refine g_gfr r7_layLinks_11 xx_54 rfl rr_54_39 ?_
      refine g_il1 r7_layLinks_14 ?_
      refine g_al0 r7_layLinks_15 ?_
      refine g_il1 r7_layLinks_16 ?_
      refine g_eV1 r7_layLinks_17 ok7_linksOf pl7_layLinks pl7_linksOf xx_54 (Nat.le_of_ble_eq_true rfl) (el7_linksOf hO W h7) ?_
      refine g_iastN r7_layLinks_20 xx_79 (by omega) (by decide) ?_
      refine g_al0 r7_layLinks_21 ?_
      refine g_gfr r7_layLinks_22 xx_54 rfl rr_54_40 ?_
      refine g_il1 r7_layLinks_25 ?_
      refine g_al0 r7_layLinks_26 ?_
      refine g_gfr r7_layLinks_27 xx_54 rfl rr_54_39 ?_
      refine g_il1 r7_layLinks_30 ?_
      refine g_ialdN r7_layLinks_31 xx_79 (by omega) (by decide) ?_
      refine g_iastN r7_layLinks_32 xx_80 (by omega) (by decide) ?_
      refine g_al0 r7_layLinks_33 ?_
      refine g_gfr r7_layLinks_34 xx_54 rfl rr_54_41 ?_
      refine g_il1 r7_layLinks_37 ?_
      refine g_il1 r7_layLinks_38 ?_
      refine g_iastN r7_layLinks_39 xx_81 (by omega) (by decide) ?_
      refine g_k r7_layLinks_40 ?_
      refine g_is2 r7_layLinks_41 rfl ?_
      refine lp7_layLinks_h W ht30 h7 (fun I1 y hO1 h31 => ?_) (i + 1) 0 _ (by omega) (by omega) (((hO.trans (zOx_row _ 79 _ (by omega) (by omega))).trans (zOx_row _ 80 _ (by omega) (by omega))).trans (zOx_row _ 81 _ (by omega) (by omega))) (fun k hk => ?_) ?_ ?_ ?_
      · refine g_iiN1 r7_layLinks_86 rfl ?_
        refine g_goto r7_layLinks_89 ?_
        exact ih (i + 1) I1 _ _ (by omega) (by omega) hO1 h31
      · obtain ⟨q1, q2, q3⟩ := h3 k hk
        exact ⟨by simp [zs_ap, upd_ap, show ¬ k = i by omega, q1], by simp [zs_ap, upd_ap, show ¬ k = i by omega, q2], by simp [zs_ap, upd_ap, show ¬ k = i by omega, q3]⟩
      · simp [zs_ap, upd_ap]
      · simp [zs_ap, upd_ap, zhf]
      · simp [zs_ap, upd_ap]
theorem el7_layLinks {w v0 e1 e2 : Nat} {h : Int64} {J I : zMI} (hO : zOx J I) (W : zWF J) : zEp m7_layLinks (zRR w v0 e1 e2) h I [.ref 54] (fun v R1 h1 I1 => v = none ∧ R1 = (zRR w v0 e1 e2) ∧ h1 = h ∧ zLkd J I1) := by
  refine zEp_of [.ref 54, .null, .null, .null] pl7_layLinks (by decide +kernel) (fun _ _ => rfl) (fun _ _ => Nat.le_of_ble_eq_true rfl) ?_
  refine g_k r7_layLinks_0 ?_
  refine g_is1 r7_layLinks_1 rfl ?_
  refine lp7_layLinks_1 W W.t30 (fun I x y z hO h3 => ?_) (jt J + 1) 0 I _ _ (by omega) (by omega) hO (fun k hk => absurd hk (Nat.not_lt_zero k))
  refine g_k r7_layLinks_92 ?_
  refine g_is1 r7_layLinks_93 rfl ?_
  exact lp7_layLinks_o W (zsum (fun k => k) (jt J) + 1) (fun k => k) I _ _ (by omega) ⟨hO, h3, fun k hk => ⟨Nat.le_refl k, fun g hg => rfl⟩⟩
