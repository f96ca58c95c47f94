/-- a search, pure: heads below hd are done, of head hd the acts below ac -/
def zLx (a b c d : Nat) : Prop := a < c ∨ (a = c ∧ b < d)
def zLe (a b c d : Nat) : Prop := a < c ∨ (a = c ∧ b ≤ d)
def zBf (E : Nat → Nat → Prop) (nx : Nat → Nat → Nat) (m s0 : Nat) (Q fr bY dp : Nat → Nat) (z hd ac : Nat) : Prop :=
  (0 < z ∧ z ≤ 256 ∧ Q 0 = s0 ∧ dp 0 = 0) ∧ (∀ i, i < z → Q i < 256) ∧ (∀ i j, i < j → j < z → Q i ≠ Q j) ∧
  (∀ i, 0 < i → i < z → fr i < i ∧ bY i < m ∧ E (bY i) (Q (fr i)) ∧ Q i = nx (bY i) (Q (fr i)) ∧ dp i = dp (fr i) + 1) ∧
  (∀ i j, 0 < i → i < j → j < z → zLx (fr i) (bY i) (fr j) (bY j)) ∧
  (∀ i, 0 < i → i < z → zLx (fr i) (bY i) hd ac) ∧
  (∀ j a, j < z → zLx j a hd ac → a < m → E a (Q j) → ∃ i, i < z ∧ Q i = nx a (Q j) ∧ (i = 0 ∨ zLe (fr i) (bY i) j a))
section BFS
variable {E : Nat → Nat → Prop} {nx : Nat → Nat → Nat} {G : Nat → Prop} {m s0 : Nat} {Q fr bY dp : Nat → Nat} {z hd ac : Nat}
theorem zBf_mono (B : zBf E nx m s0 Q fr bY dp z hd ac) : ∀ j i, i ≤ j → j < z → dp i ≤ dp j := by
  obtain ⟨⟨b1, b2, b3, b4⟩, -, -, b5, b6, -, -⟩ := B
  intro j
  induction j using Nat.strongRecOn with
  | ind j ih =>
    intro i hij hj
    by_cases e : i = j
    · rw [e]; exact Nat.le_refl _
    · by_cases e0 : i = 0
      · rw [e0, b4]; exact Nat.zero_le _
      · have h1 := b5 i (by omega) (by omega)
        have h2 := b5 j (by omega) hj
        have h3 := b6 i j (by omega) (by omega) hj
        have h4 : dp (fr i) ≤ dp (fr j) := by
          unfold zLx at h3
          exact ih (fr j) (by omega) (fr i) (by omega) (by omega)
        omega
/-- with a first head that is wanted, no head gets to a wanted state faster -/
theorem zBf_far (B : zBf E nx m s0 Q fr bY dp z hd 0) (hz : hd < z) (hn : ∀ j, j < hd → ¬ G (Q j)) : ∀ k j, j < z → zRk E nx G m k (Q j) → dp hd ≤ dp j + k := by
  intro k
  induction k with
  | zero =>
    intro j hj h
    have : ¬ j < hd := fun q => hn j q h
    have := zBf_mono B j hd (by omega) hj
    omega
  | succ k ih =>
    intro j hj h
    by_cases q : j < hd
    · obtain ⟨a, h1, h2, h3⟩ := h
      obtain ⟨i, i1, i2, i3⟩ := B.2.2.2.2.2.2 j a hj (Or.inl q) h1 h2
      have h4 := ih i i1 (by rw [i2]; exact h3)
      have : dp i ≤ dp j + 1 := by
        rcases i3 with rfl | i3
        · rw [B.1.2.2.2]; omega
        · by_cases e0 : i = 0
          · rw [e0, B.1.2.2.2]; omega
          · have h5 := B.2.2.2.1 i (by omega) i1
            have := zBf_mono B j (fr i) (by unfold zLe at i3; omega) hj
            omega
      omega
    · have := zBf_mono B j hd (by omega) hj
      omega
/-- none of the way's places has a better one ahead of it in the queue -/
theorem zBf_lex (B : zBf E nx m s0 Q fr bY dp z hd 0) (hz : hd < z) (hn : ∀ j, j < hd → ¬ G (Q j)) {an : Nat → Nat} {d : Nat} (h0 : an d = hd) (ha : ∀ t, t < d → 0 < an (t + 1) ∧ an (t + 1) ≤ hd ∧ fr (an (t + 1)) = an t) : ∀ r t i, t + r = d → i < an t → ¬ zRk E nx G m r (Q i) := by
  intro r
  induction r with
  | zero => intro t i ht hi h; rw [show t = d by omega, h0] at hi; exact hn i hi h
  | succ r ih =>
    intro t i ht hi h
    obtain ⟨a1, a2, a3⟩ := ha t (by omega)
    obtain ⟨a, h1, h2, h3⟩ := h
    have hf := B.2.2.2.1 (an (t + 1)) a1 (by omega)
    obtain ⟨i', i1, i2, i3⟩ := B.2.2.2.2.2.2 i a (by omega) (Or.inl (by omega)) h1 h2
    refine ih (t + 1) i' (by omega) ?_ (by rw [i2]; exact h3)
    by_cases e0 : i' = 0
    · omega
    · have i3 := i3.resolve_left e0
      rcases Nat.lt_trichotomy i' (an (t + 1)) with q | q | q
      · exact q
      · rw [q, a3] at i3; unfold zLe at i3; omega
      · have := B.2.2.2.2.1 (an (t + 1)) i' a1 q i1
        rw [a3] at this
        unfold zLe at i3; unfold zLx at this; omega
theorem zBf_way (B : zBf E nx m s0 Q fr bY dp z hd 0) (hz : hd < z) (hn : ∀ j, j < hd → ¬ G (Q j)) (hg : G (Q hd)) {an : Nat → Nat} (h0 : an (dp hd) = hd) (h00 : an 0 = 0) (ha : ∀ t, t < dp hd → 0 < an (t + 1) ∧ an (t + 1) ≤ hd ∧ fr (an (t + 1)) = an t) :
    zDi E nx G m (dp hd) s0 ∧ zGs E nx G m (dp hd) (fun t => Q (an t)) (fun t => bY (an (t + 1))) := by
  have hat : ∀ t, t ≤ dp hd → an t ≤ hd ∧ dp (an t) = t := by
    intro t
    induction t with
    | zero => intro _; rw [h00]; exact ⟨Nat.zero_le _, B.1.2.2.2⟩
    | succ t ih =>
      intro ht
      obtain ⟨a1, a2, a3⟩ := ha t (by omega)
      have hf := B.2.2.2.1 (an (t + 1)) a1 (by omega)
      refine ⟨a2, ?_⟩
      rw [hf.2.2.2.2, a3, (ih (by omega)).2]
  have hr : ∀ r t, t + r = dp hd → zRk E nx G m r (Q (an t)) := by
    intro r
    induction r with
    | zero => intro t ht; rw [show t = dp hd by omega, h0]; exact hg
    | succ r ih =>
      intro t ht
      obtain ⟨a1, a2, a3⟩ := ha t (by omega)
      have hf := B.2.2.2.1 (an (t + 1)) a1 (by omega)
      rw [a3] at hf
      exact ⟨bY (an (t + 1)), hf.2.1, hf.2.2.1, by rw [← hf.2.2.2.1]; exact ih (t + 1) (by omega)⟩
  have hD : ∀ r t, t + r = dp hd → zDi E nx G m r (Q (an t)) := fun r t ht => ⟨hr r t ht, fun j hj q => by
    have h1 := zBf_far B hz hn j (an t) (by have := (hat t (by omega)).1; omega) q
    rw [(hat t (by omega)).2] at h1
    omega⟩
  refine ⟨?_, fun t ht => ?_⟩
  · have := hD (dp hd) 0 (by omega)
    rw [h00, B.1.2.2.1] at this; exact this
  · obtain ⟨a1, a2, a3⟩ := ha t ht
    have hf := B.2.2.2.1 (an (t + 1)) a1 (by omega)
    rw [a3] at hf
    refine ⟨hf.2.1, hf.2.2.1, hf.2.2.2.1, ?_, fun b hb hE hq => ?_⟩
    · rw [← hf.2.2.2.1]; exact hD (dp hd - t - 1) (t + 1) (by omega)
    · have hb : b < bY (an (t + 1)) := hb
      obtain ⟨i, i1, i2, i3⟩ := B.2.2.2.2.2.2 (an t) b (by have := (hat t (by omega)).1; omega) (Or.inl (by omega)) (by omega) hE
      have hi : i < an (t + 1) := by
        by_cases e0 : i = 0
        · omega
        · have i3 := i3.resolve_left e0
          rcases Nat.lt_trichotomy i (an (t + 1)) with q | q | q
          · exact q
          · rw [q, a3] at i3; unfold zLe at i3; omega
          · have := B.2.2.2.2.1 (an (t + 1)) i a1 q i1
            rw [a3] at this
            unfold zLe at i3; unfold zLx at this; omega
      refine zBf_lex B hz hn h0 ha (dp hd - t - 1) (t + 1) i (by omega) hi ?_
      rw [i2]; exact hq.1
/-- all heads are done, none is wanted: there is no way -/
theorem zBf_no (B : zBf E nx m s0 Q fr bY dp z z 0) (hn : ∀ j, j < z → ¬ G (Q j)) : ∀ k, ¬ zRk E nx G m k s0 := by
  have : ∀ k j, j < z → ¬ zRk E nx G m k (Q j) := by
    intro k
    induction k with
    | zero => intro j hj h; exact hn j hj h
    | succ k ih =>
      rintro j hj ⟨a, h1, h2, h3⟩
      obtain ⟨i, i1, i2, -⟩ := B.2.2.2.2.2.2 j a hj (Or.inl hj) h1 h2
      exact ih i i1 (by rw [i2]; exact h3)
  intro k
  have := this k 0 B.1.1
  rw [B.1.2.2.1] at this; exact this
theorem zBf_0 (hs : s0 < 256) {Q fr bY dp : Nat → Nat} (h1 : Q 0 = s0) (h2 : dp 0 = 0) : zBf E nx m s0 Q fr bY dp 1 0 0 :=
  ⟨⟨by omega, by omega, h1, h2⟩, fun i hi => by rw [show i = 0 by omega, h1]; exact hs, fun i j _ _ => by omega, fun i _ _ => by omega, fun i j _ _ _ => by omega, fun i _ _ => by omega, fun j a _ q => by unfold zLx at q; omega⟩
/-- the act leads to nothing new -/
theorem zBf_skip (B : zBf E nx m s0 Q fr bY dp z hd ac) (h : E ac (Q hd) → ∃ i, i < z ∧ Q i = nx ac (Q hd)) : zBf E nx m s0 Q fr bY dp z hd (ac + 1) := by
  obtain ⟨b1, b2, b3, b4, b5, b6, b7⟩ := B
  refine ⟨b1, b2, b3, b4, b5, fun i h0 hi => by have := b6 i h0 hi; unfold zLx at *; omega, fun j a hj hl ha hE => ?_⟩
  by_cases q : j = hd ∧ a = ac
  · obtain ⟨rfl, rfl⟩ := q
    obtain ⟨i, i1, i2⟩ := h hE
    refine ⟨i, i1, i2, ?_⟩
    by_cases e0 : i = 0
    · exact Or.inl e0
    · right; have := b6 i (by omega) i1; unfold zLx at this; unfold zLe; omega
  · exact b7 j a hj (by unfold zLx at *; omega) ha hE
/-- the act leads to a new state -/
theorem zBf_new (B : zBf E nx m s0 Q fr bY dp z hd ac) (hz : hd < z) (hac : ac < m) (hE : E ac (Q hd)) (h8 : nx ac (Q hd) < 256) (hnew : ∀ i, i < z → Q i ≠ nx ac (Q hd)) : z < 256 ∧ zBf E nx m s0 (fun i => if i = z then nx ac (Q hd) else Q i) (fun i => if i = z then hd else fr i) (fun i => if i = z then ac else bY i) (fun i => if i = z then dp hd + 1 else dp i) (z + 1) hd (ac + 1) := by
  obtain ⟨⟨b0, b1, c1, c2⟩, b2, b3, b4, b5, b6, b7⟩ := B
  have hlt : z < 256 := by
    have := zholes 256 (z + 1) (fun i => if i = z then nx ac (Q hd) else Q i) (fun i hi => by
      by_cases e : i = z
      · simp only [if_pos e]; exact h8
      · simp only [if_neg e]; exact b2 i (by omega)) (fun i j hij hj => by
      simp only [if_neg (show ¬ i = z by omega)]
      by_cases e : j = z
      · simp only [if_pos e]; exact hnew i (by omega)
      · simp only [if_neg e]; exact b3 i j hij (by omega))
    omega
  have ne : ∀ i, i < z → ¬ i = z := fun i hi => by omega
  refine ⟨hlt, ⟨by omega, by omega, by simp only [if_neg (ne 0 b0)]; exact c1, by simp only [if_neg (ne 0 b0)]; exact c2⟩, fun i hi => ?_, fun i j hij hj => ?_, fun i h0 hi => ?_, fun i j h0 hij hj => ?_, fun i h0 hi => ?_, fun j a hj hl ha hE' => ?_⟩
  · by_cases e : i = z
    · simp only [if_pos e]; exact h8
    · simp only [if_neg e]; exact b2 i (by omega)
  · simp only [if_neg (show ¬ i = z by omega)]
    by_cases e : j = z
    · simp only [if_pos e]; exact hnew i (by omega)
    · simp only [if_neg e]; exact b3 i j hij (by omega)
  · by_cases e : i = z
    · subst e; simp only [if_true, if_neg (ne hd hz)]; exact ⟨hz, hac, hE, trivial, trivial⟩
    · have hi' : i < z := by omega
      have := b4 i h0 hi'
      simp only [if_neg e, if_neg (ne (fr i) (by omega))]; exact this
  · simp only [if_neg (show ¬ i = z by omega)]
    by_cases e : j = z
    · simp only [if_pos e]; exact b6 i h0 (by omega)
    · simp only [if_neg e]; exact b5 i j h0 hij (by omega)
  · by_cases e : i = z
    · simp only [if_pos e]; exact Or.inr ⟨rfl, by omega⟩
    · simp only [if_neg e]; have := b6 i h0 (by omega); unfold zLx at *; omega
  · have hjz : j < z := by
      rcases hl with q | q <;> omega
    simp only [if_neg (ne j hjz)] at hE' ⊢
    by_cases q : j = hd ∧ a = ac
    · obtain ⟨rfl, rfl⟩ := q
      refine ⟨z, by omega, by simp only [if_true], Or.inr ?_⟩
      simp only [if_true]; exact Or.inr ⟨rfl, Nat.le_refl _⟩
    · obtain ⟨i, i1, i2, i3⟩ := b7 j a hjz (by unfold zLx at *; omega) ha hE'
      exact ⟨i, by omega, by simp only [if_neg (ne i i1)]; exact i2, by simp only [if_neg (ne i i1)]; exact i3⟩
theorem zBf_next (B : zBf E nx m s0 Q fr bY dp z hd m) : zBf E nx m s0 Q fr bY dp z (hd + 1) 0 := by
  obtain ⟨b1, b2, b3, b4, b5, b6, b7⟩ := B
  exact ⟨b1, b2, b3, b4, b5, fun i h0 hi => by have := b6 i h0 hi; unfold zLx at *; omega, fun j a hj hl ha hE => b7 j a hj (by unfold zLx at *; omega) ha hE⟩
end BFS
