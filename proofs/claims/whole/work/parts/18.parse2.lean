section ST2
variable {C K : zMI} {v n a : Nat} {c : Int32}
theorem zTF {l s x : Int32} (hl : zLt l s) (hx : z8 x) : ((¬ zfo c = -1 ∧ l < zfo c) ∧ x >>> (zfo c &&& 31) &&& 1 = 0) ↔ ((0 < zbit c ∧ s < zbit c) ∧ x &&& zbit c = 0) := by
  rw [zfact hl c]
  refine and_congr_right fun hk => ?_
  rcases zchr c with ⟨f, hf, hc, h1, h2⟩ | ⟨h1, h2⟩
  · rw [h1, h2]; exact zbt8 hx hf
  · rw [h2] at hk; exact absurd hk.1 (by decide)
theorem z80 : z8 0 := ⟨0, by omega, rfl⟩
theorem zTF0 {l s : Int32} (hl : zLt l s) : ((¬ zfo c = -1 ∧ l < zfo c) ∧ (0 : Int32) >>> (zfo c &&& 31) &&& 1 = 0) ↔ (0 < zbit c ∧ s < zbit c) := by
  rw [zTF hl z80]; simp
theorem zst6 (hv : zW v) (hP : zPI K n a 6) (hS : zSim C K v n a 6) : zStp C K v n a 6 c := by
  have hP' := hP
  have hS' := hS
  obtain ⟨⟨p1, p2, p3⟩, ⟨-, p4, p5, -, -, -, p6, p7⟩, p8, p9, -, p10, p11, p12, p13⟩ := hP
  obtain ⟨⟨q1, q2, q3, q4⟩, q5, -, -, q6, q7, q8, q9, q10, q11⟩ := hS
  have p1 : K 54 24 = 6 := p1
  have q1 : C 3 0 = 6 := q1
  have ha := p6 (by omega)
  have hn := p7 (by omega)
  obtain ⟨g1, g2, g3, g4, g5⟩ := q6 (a - 1) (by omega)
  have hL := q8 rfl
  have hF := zTF0 (c := c) hL
  have er : zcR C v c a = zpLR K c a := by
    simp only [zcR, zpLR, q1, p1, zrNeR, zpNeedsR, zrTFR, zcbi]
    by_cases h62 : c = 62
    · simp [h62, zb]
    by_cases h45 : c = 45
    · simp [h45, g2]
    simpa [h62, h45] using zb_c hF
  refine ⟨er, fun hb => ?_⟩
  by_cases h62 : c = 62
  · subst h62
    refine ⟨n, a, 9, ?_⟩
    have e1 : zpL K 62 n a = zgo K 1 (nI 9) := by simp [zpL, zpNeeds, p1]; rfl
    have e2 : zcM C v 62 n a = zrMv C (nI (zpart 9)) := by simp [zcM, q1, zrNe, zrNeR, zb]; rfl
    show _ ∧ zSim (zcM C v 62 n a) _ v n a 9
    rw [e1, e2]
    exact zmove hv hP' hS' (by omega) (by omega) (by omega) (by omega) (by omega) (by omega) (by omega) (by omega) (by omega) (by omega) (fun _ => p12 (by omega) (by omega)) (fun _ _ => p13 (by omega) (by omega))
  by_cases h45 : c = 45
  · subst h45
    have hk : ¬ K 73 (a - 1) = 255 := by
      have := hb
      simp only [zpLR, p1, zpNeedsR] at this
      exact zb_1.mp (by simpa using this)
    refine ⟨n, a, 7, ?_⟩
    have e1 : zpL K 45 n a = zgo K 1 (nI 7) := by simp [zpL, zpNeeds, p1, zb, hk]; rfl
    have e2 : zcM C v 45 n a = zrMv C (nI (zpart 7)) := by simp [zcM, q1, zrNe, zrNeR, zb, g2, hk]; rfl
    show _ ∧ zSim (zcM C v 45 n a) _ v n a 7
    rw [e1, e2]
    exact zmove hv hP' hS' (by omega) (by omega) (by omega) (by omega) (by omega) (by omega) (by omega) (by omega) (fun _ => p11 (by omega)) (fun _ => p12 (by omega) (by omega)) (by omega) (fun _ _ => p13 (by omega) (by omega))
  · have hk : 0 < zbit c ∧ K 73 (a - 1) < zbit c := by
      have := hb
      simp only [zpLR, p1, zpNeedsR, zcbi, h62, h45] at this
      exact zb_1.mp (by simpa using this)
    have hk2 := hF.mpr hk
    rcases zchr c with ⟨f, hf, hc, h1, h2⟩ | ⟨h1, h2⟩
    case inr => rw [h2] at hk; exact absurd hk.1 (by decide)
    refine ⟨n, a, 6, ?_⟩
    have e1 : zpL K c n a = zs K 73 (upd (K 73) (a - 1) (K 73 (a - 1) ||| nI (2 ^ f))) := by
      have : zcbi (K 73 (a - 1)) c = 1 := zb_t hk
      simp [zpL, zpNeeds, p1, h62, h45, this, zor, h2]
    have e2 : zcM C v c n a = zs (zs C (v + 6) (upd (C (v + 6)) (a - 1) (C (v + 6) (a - 1) ||| nI (2 ^ f)))) 3 (upd (C 3) 1 (nI f)) := by
      have : zrTFR C 0 c = 1 := zb_t hk2
      simp [zcM, q1, zrNe, zrNeR, h62, h45, this, zrTF, h1, zsh_d f hf]
    show _ ∧ zSim (zcM C v c n a) _ v n a 6
    rw [e1, e2]
    rw [h2] at hk
    exact ztk6 hv rfl hf hP' hS' hk.2
theorem zst9 (hv : zW v) (hP : zPI K n a 9) (hS : zSim C K v n a 9) : zStp C K v n a 9 c := by
  have hP' := hP
  have hS' := hS
  obtain ⟨⟨p1, p2, p3⟩, ⟨-, p4, p5, -, -, -, p6, p7⟩, p8, p9, -, p10, p11, p12, p13⟩ := hP
  obtain ⟨⟨q1, q2, q3, q4⟩, q5, -, -, q6, q7, q8, q9, q10, q11⟩ := hS
  have p1 : K 54 24 = 9 := p1
  have q1 : C 3 0 = 8 := q1
  have ha := p6 (by omega)
  have hn := p7 (by omega)
  obtain ⟨g1, g2, g3, g4, g5⟩ := q6 (a - 1) (by omega)
  have hL := q10 rfl
  have hF := zTF0 (c := c) hL
  have hpos : 0 < K 75 (a - 1) ↔ ¬ K 75 (a - 1) = 0 := by
    obtain ⟨m, hm, e⟩ := (p10 (a - 1) (by omega)).2.2.1
    rw [e]
    constructor
    · intro z q; rw [q] at z; exact absurd z (by decide)
    · intro z
      have h0 : m ≠ 0 := fun q => z (by rw [q]; rfl)
      exact nI_lt (a := 0) (by omega) (by omega)
  have er : zcR C v c a = zpLR K c a := by
    simp only [zcR, zpLR, q1, p1, zrMaR, zpGivesR, zrTFR, zcbi, znxR]
    by_cases h44 : c = 44
    · simp [h44, zb, g4, q3, p3, hpos]
      by_cases q : K 75 (a - 1) = 0 <;> simp [q]
    by_cases h45 : c = 45
    · simp [h45, g4]
    simpa [h44, h45] using zb_c hF
  refine ⟨er, fun hb => ?_⟩
  by_cases h44 : c = 44
  · subst h44
    have hk : 0 < K 75 (a - 1) ∧ nI a < 10 := by
      have := hb
      simp only [zpLR, p1, zpGivesR, znxR, p3] at this
      by_cases q : 0 < K 75 (a - 1)
      · exact ⟨q, by simpa [q, zb] using this⟩
      · simp [q] at this
    have ha10 : a < 10 := (nI_ltI (b := 10) (by omega) (by omega)).mp hk.2
    refine ⟨n, a, 5, ?_⟩
    have e1 : zpL K 44 n a = zgo K 1 (nI 5) := by simp [zpL, zpGives, p1, hk.1, znxR, zb, p3, hk.2]; rfl
    have e2 : zcM C v 44 n a = zrMv C (nI (zpart 5)) := by
      have := hpos.mp hk.1
      simp [zcM, q1, zrMa, zrMaR, zb, g4, this, q3, hk.2]; rfl
    show _ ∧ zSim (zcM C v 44 n a) _ v n a 5
    rw [e1, e2]
    exact zmove hv hP' hS' (by omega) (by omega) (by omega) (by omega) (fun _ => ha10) (by omega) (by omega) (by omega) (by omega) (by omega) (by omega) (by omega)
  by_cases h45 : c = 45
  · subst h45
    have hk : ¬ K 75 (a - 1) = 255 := by
      have := hb
      simp only [zpLR, p1, zpGivesR] at this
      exact zb_1.mp (by simpa using this)
    refine ⟨n, a, 10, ?_⟩
    have e1 : zpL K 45 n a = zgo K 1 (nI 10) := by simp [zpL, zpGives, p1, zb, hk]; rfl
    have e2 : zcM C v 45 n a = zrMv C (nI (zpart 10)) := by simp [zcM, q1, zrMa, zrMaR, zb, g4, hk]; rfl
    show _ ∧ zSim (zcM C v 45 n a) _ v n a 10
    rw [e1, e2]
    exact zmove hv hP' hS' (by omega) (by omega) (by omega) (by omega) (by omega) (by omega) (by omega) (by omega) (by omega) (by omega) (by omega) (fun _ _ => p13 (by omega) (by omega))
  · have hk : 0 < zbit c ∧ K 75 (a - 1) < zbit c := by
      have := hb
      simp only [zpLR, p1, zpGivesR, zcbi, h44, h45] at this
      exact zb_1.mp (by simpa using this)
    have hk2 := hF.mpr hk
    rcases zchr c with ⟨f, hf, hc, h1, h2⟩ | ⟨h1, h2⟩
    case inr => rw [h2] at hk; exact absurd hk.1 (by decide)
    refine ⟨n, a, 9, ?_⟩
    have e1 : zpL K c n a = zs K 75 (upd (K 75) (a - 1) (K 75 (a - 1) ||| nI (2 ^ f))) := by
      have : zcbi (K 75 (a - 1)) c = 1 := zb_t hk
      simp [zpL, zpGives, p1, h44, h45, this, zor, h2]
    have e2 : zcM C v c n a = zs (zs C (v + 8) (upd (C (v + 8)) (a - 1) (C (v + 8) (a - 1) ||| nI (2 ^ f)))) 3 (upd (C 3) 1 (nI f)) := by
      have : zrTFR C 0 c = 1 := zb_t hk2
      simp [zcM, q1, zrMa, zrMaR, h44, h45, this, zrTF, h1, zsh_d f hf]
    show _ ∧ zSim (zcM C v c n a) _ v n a 9
    rw [e1, e2]
    rw [h2] at hk
    exact ztk9 hv rfl hf hP' hS' hk.2
theorem zst78 (hv : zW v) {s : Nat} (hs : s = 7 ∨ s = 8) (hP : zPI K n a s) (hS : zSim C K v n a s) : zStp C K v n a s c := by
  have hP' := hP
  have hS' := hS
  obtain ⟨⟨p1, p2, p3⟩, ⟨-, p4, p5, -, -, -, p6, p7⟩, p8, p9, -, p10, p11, p12, p13⟩ := hP
  obtain ⟨⟨q1, q2, q3, q4⟩, q5, -, -, q6, q7, q8, q9, q10, q11⟩ := hS
  have p1a : K 54 24 = 7 ∨ K 54 24 = 8 := by rcases hs with rfl | rfl; exact Or.inl p1; exact Or.inr p1
  have p1n : ¬ K 54 24 = 4 ∧ ¬ K 54 24 = 5 ∧ ¬ K 54 24 = 6 := by rcases p1a with e | e <;> (rw [e]; decide)
  have q1 : C 3 0 = 7 := by rcases hs with rfl | rfl <;> exact q1
  have ha := p6 (by omega)
  have hn := p7 (by omega)
  obtain ⟨g1, g2, g3, g4, g5⟩ := q6 (a - 1) (by omega)
  obtain ⟨hL, hz⟩ := q9 (by omega)
  have hF := zTF (c := c) hL (p10 (a - 1) (by omega)).1
  have h8 : (¬ K 74 (a - 1) = 0) ↔ K 54 24 = 8 := by
    rw [hz, p1]
    rcases hs with rfl | rfl
    · exact ⟨fun z => absurd rfl z, fun z => absurd z (by decide)⟩
    · exact ⟨fun _ => rfl, fun _ => by decide⟩
  have h45z : zbit 45 = 0 := by decide
  have er : zcR C v c a = zpLR K c a := by
    have e0 : zpLR K c a = zpBarsR K (a - 1) c := by simp [zpLR, p1n, p1a]
    rw [e0]
    simp only [zcR, q1, zrNeR, zpBarsR, zrTFR, zbi, g2, g3]
    by_cases h62 : c = 62
    · subst h62
      simpa using zb_c h8
    by_cases h45 : c = 45
    · subst h45; simp [zb, h45z]
    simpa [h62, h45] using zb_c hF
  refine ⟨er, fun hb => ?_⟩
  have e0 : zpLR K c a = zpBarsR K (a - 1) c := by simp [zpLR, p1n, p1a]
  rw [e0] at hb
  have ef : ∀ b : Nat, (if s = 1 ∨ s = 2 then n + 1 else n) = n := fun _ => if_neg (by omega)
  by_cases h62 : c = 62
  · subst h62
    have hk : K 54 24 = 8 := zb_1.mp (by simpa [zpBarsR] using hb)
    refine ⟨n, a, 9, ?_⟩
    have e1 : zpL K 62 n a = zgo K 1 (nI 9) := by simp [zpL, zpBars, hk, zb]; rfl
    have e2 : zcM C v 62 n a = zrMv C (nI (zpart 9)) := by
      have := h8.mpr hk
      simp [zcM, q1, zrNe, zrNeR, zb, g3, this]; rfl
    rw [ef 0, e1, e2]
    exact zmove hv hP' hS' (by omega) (by omega) (by omega) (by omega) (by omega) (by omega) (by omega) (by omega) (by omega) (by omega) (fun _ => p12 (by omega) (by omega)) (fun _ _ => p13 (by omega) (by omega))
  · have hk : (0 < zbit c ∧ K 74 (a - 1) < zbit c) ∧ K 73 (a - 1) &&& zbit c = 0 := zb_1.mp (by simpa [zpBarsR, h62, zbi] using hb)
    have h45 : ¬ c = 45 := fun q => by subst q; rw [h45z] at hk; exact absurd hk.1.1 (by decide)
    have hk2 := hF.mpr hk
    rcases zchr c with ⟨f, hf, hc, h1, h2⟩ | ⟨h1, h2⟩
    case inr => rw [h2] at hk; exact absurd hk.1.1 (by decide)
    refine ⟨n, a, 8, ?_⟩
    have e1 : zpL K c n a = zgo (zs K 74 (upd (K 74) (a - 1) (K 74 (a - 1) ||| nI (2 ^ f)))) 1 8 := by
      have : zbi (K 74 (a - 1)) (K 73 (a - 1)) c = 1 := zb_t hk
      simp [zpL, zpBars, p1n, p1a, h62, this, zor, h2]
    have e2 : zcM C v c n a = zs (zs C (v + 7) (upd (C (v + 7)) (a - 1) (C (v + 7) (a - 1) ||| nI (2 ^ f)))) 3 (upd (C 3) 1 (nI f)) := by
      have : zrTFR C (C (v + 6) (a - 1)) c = 1 := by rw [zrTFR, g2]; exact zb_t hk2
      simp [zcM, q1, zrNe, zrNeR, h62, h45, this, zrTF, h1, zsh_d f hf]
    rw [ef 0, e1, e2]
    rw [h2] at hk
    exact ztk8 hv hs hf hP' hS' hk.1.2
theorem zst1011 (hv : zW v) {s : Nat} (hs : s = 10 ∨ s = 11) (hP : zPI K n a s) (hS : zSim C K v n a s) : zStp C K v n a s c := by
  have hP' := hP
  have hS' := hS
  obtain ⟨⟨p1, p2, p3⟩, ⟨-, p4, p5, -, -, -, p6, p7⟩, p8, p9, -, p10, p11, p12, p13⟩ := hP
  obtain ⟨⟨q1, q2, q3, q4⟩, q5, -, -, q6, q7, q8, q9, q10, q11⟩ := hS
  have p1a : K 54 24 = 10 ∨ K 54 24 = 11 := by rcases hs with rfl | rfl; exact Or.inl p1; exact Or.inr p1
  have p1n : ¬ K 54 24 = 4 ∧ ¬ K 54 24 = 5 ∧ ¬ K 54 24 = 6 ∧ ¬ K 54 24 = 7 ∧ ¬ K 54 24 = 8 ∧ ¬ K 54 24 = 9 := by rcases p1a with e | e <;> (rw [e]; decide)
  have q1 : C 3 0 = 9 := by rcases hs with rfl | rfl <;> exact q1
  have ha := p6 (by omega)
  have hn := p7 (by omega)
  obtain ⟨g1, g2, g3, g4, g5⟩ := q6 (a - 1) (by omega)
  obtain ⟨hL, hz⟩ := q11 (by omega)
  have hF := zTF (c := c) hL (p10 (a - 1) (by omega)).2.2.1
  have h8 : (¬ K 76 (a - 1) = 0) ↔ K 54 24 = 11 := by
    rw [hz, p1]
    rcases hs with rfl | rfl
    · exact ⟨fun z => absurd rfl z, fun z => absurd z (by decide)⟩
    · exact ⟨fun _ => rfl, fun _ => by decide⟩
  have h45z : zbit 45 = 0 := by decide
  have e0 : zpLR K c a = zpTakesR K (a - 1) c := by simp [zpLR, p1n, p1a]
  have er : zcR C v c a = zpLR K c a := by
    rw [e0]
    simp only [zcR, q1, zrMaR, zpTakesR, zrTFR, zbi, g4, g5, znxR, q3, p3]
    by_cases h44 : c = 44
    · subst h44
      by_cases q : K 54 24 = 11
      · have := h8.mpr q
        simp [q, this, zb]
      · have : K 76 (a - 1) = 0 := Classical.byContradiction fun z => q (h8.mp z)
        simp [q, this, zb]
    by_cases h45 : c = 45
    · subst h45; simp [zb, h45z]
    simpa [h44, h45] using zb_c hF
  refine ⟨er, fun hb => ?_⟩
  rw [e0] at hb
  have ef : ∀ b : Nat, (if s = 1 ∨ s = 2 then n + 1 else n) = n := fun _ => if_neg (by omega)
  by_cases h44 : c = 44
  · subst h44
    have hk : K 54 24 = 11 ∧ nI a < 10 := by
      simp only [zpTakesR, znxR, p3] at hb
      by_cases q : K 54 24 = 11
      · exact ⟨q, by simpa [q, zb] using hb⟩
      · simp [q] at hb
    have ha10 : a < 10 := (nI_ltI (b := 10) (by omega) (by omega)).mp hk.2
    refine ⟨n, a, 5, ?_⟩
    have e1 : zpL K 44 n a = zgo K 1 (nI 5) := by simp [zpL, zpTakes, hk.1, znxR, zb, p3, hk.2]; rfl
    have e2 : zcM C v 44 n a = zrMv C (nI (zpart 5)) := by
      have := h8.mpr hk.1
      simp [zcM, q1, zrMa, zrMaR, zb, g5, this, q3, hk.2]; rfl
    rw [ef 0, e1, e2]
    exact zmove hv hP' hS' (by omega) (by omega) (by omega) (by omega) (fun _ => ha10) (by omega) (by omega) (by omega) (by omega) (by omega) (by omega) (by omega)
  · have hk : (0 < zbit c ∧ K 76 (a - 1) < zbit c) ∧ K 75 (a - 1) &&& zbit c = 0 := zb_1.mp (by simpa [zpTakesR, h44, zbi] using hb)
    have h45 : ¬ c = 45 := fun q => by subst q; rw [h45z] at hk; exact absurd hk.1.1 (by decide)
    have hk2 := hF.mpr hk
    rcases zchr c with ⟨f, hf, hc, h1, h2⟩ | ⟨h1, h2⟩
    case inr => rw [h2] at hk; exact absurd hk.1.1 (by decide)
    refine ⟨n, a, 11, ?_⟩
    have e1 : zpL K c n a = zgo (zs K 76 (upd (K 76) (a - 1) (K 76 (a - 1) ||| nI (2 ^ f)))) 1 11 := by
      have : zbi (K 76 (a - 1)) (K 75 (a - 1)) c = 1 := zb_t hk
      simp [zpL, zpTakes, p1n, p1a, h44, this, zor, h2]
    have e2 : zcM C v c n a = zs (zs C (v + 9) (upd (C (v + 9)) (a - 1) (C (v + 9) (a - 1) ||| nI (2 ^ f)))) 3 (upd (C 3) 1 (nI f)) := by
      have : zrTFR C (C (v + 8) (a - 1)) c = 1 := by rw [zrTFR, g4]; exact zb_t hk2
      simp [zcM, q1, zrMa, zrMaR, h44, h45, this, zrTF, h1, zsh_d f hf]
    rw [ef 0, e1, e2]
    rw [h2] at hk
    exact ztk11 hv hs hf hP' hS' hk.1.2 hk.2
theorem zstep (hv : zW v) {s : Nat} (hP : zPI K n a s) (hS : zSim C K v n a s) (hc : ∃ m, m < 127 ∧ c = nI m) : zStp C K v n a s c := by
  have hs := hP.2.1.1
  match s, hs, hP, hS with
  | 0, _, hP, hS => exact zst0 hv hP hS
  | 1, _, hP, hS => exact zst1 hv hP hS
  | 2, _, hP, hS => exact zst2 hv hP hS
  | 3, _, hP, hS => exact zst3 hv hP hS
  | 4, _, hP, hS => exact zst4 hv hP hS
  | 5, _, hP, hS => exact zst5 hv hP hS hc
  | 6, _, hP, hS => exact zst6 hv hP hS
  | 7, _, hP, hS => exact zst78 hv (by omega) hP hS
  | 8, _, hP, hS => exact zst78 hv (by omega) hP hS
  | 9, _, hP, hS => exact zst9 hv hP hS
  | 10, _, hP, hS => exact zst1011 hv (by omega) hP hS
  | 11, _, hP, hS => exact zst1011 hv (by omega) hP hS
  | k + 12, hs, _, _ => omega
end ST2
