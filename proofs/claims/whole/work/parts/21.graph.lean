/-! ways to a wanted set, pure: E a s: act a can be done at s; nx a s: what is behind it; G: wanted -/
section GRAPH
variable {E : Nat → Nat → Prop} {nx : Nat → Nat → Nat} {G : Nat → Prop} {m : Nat}
def zRk (E : Nat → Nat → Prop) (nx : Nat → Nat → Nat) (G : Nat → Prop) (m : Nat) : Nat → Nat → Prop
  | 0, s => G s
  | k + 1, s => ∃ a, a < m ∧ E a s ∧ zRk E nx G m k (nx a s)
/-- k acts are the fewest -/
def zDi (E : Nat → Nat → Prop) (nx : Nat → Nat → Nat) (G : Nat → Prop) (m k s : Nat) : Prop := zRk E nx G m k s ∧ ∀ j, j < k → ¬ zRk E nx G m j s
theorem zDi_one {k l s : Nat} (h1 : zDi E nx G m k s) (h2 : zDi E nx G m l s) : k = l := by
  rcases Nat.lt_trichotomy k l with q | q | q
  · exact absurd h1.1 (h2.2 k q)
  · exact q
  · exact absurd h2.1 (h1.2 l q)
theorem zDi_ex {k s : Nat} (h : zRk E nx G m k s) : ∃ d, d ≤ k ∧ zDi E nx G m d s := by
  obtain ⟨d, h1, h2⟩ := pk_least (fun d => zRk E nx G m d s) ⟨k, h⟩
  exact ⟨d, Nat.le_of_not_lt fun q => h2 k q h, h1, h2⟩
theorem zDi_s {k s : Nat} (h : zDi E nx G m (k + 1) s) : ∃ a, a < m ∧ E a s ∧ zDi E nx G m k (nx a s) := by
  obtain ⟨⟨a, h1, h2, h3⟩, h4⟩ := h
  exact ⟨a, h1, h2, h3, fun j hj hr => h4 (j + 1) (by omega) ⟨a, h1, h2, hr⟩⟩
theorem zDi_ge {k s a j : Nat} (h : zDi E nx G m k s) (ha : a < m) (hE : E a s) (hj : zRk E nx G m j (nx a s)) : k ≤ j + 1 :=
  Nat.le_of_not_lt fun q => h.2 (j + 1) q ⟨a, ha, hE, hj⟩
/-- the sets of facts on a shortest way are all different: their distances are -/
theorem zDi_chain (hN : ∀ a s, a < m → s < 256 → nx a s < 256) : ∀ k s, s < 256 → zDi E nx G m k s → ∃ f : Nat → Nat, ∀ i, i ≤ k → f i < 256 ∧ zDi E nx G m i (f i)
  | 0, s, hs, h => ⟨fun _ => s, fun i hi => by rw [show i = 0 by omega]; exact ⟨hs, h⟩⟩
  | k + 1, s, hs, h => by
    obtain ⟨a, h1, h2, h3⟩ := zDi_s h
    obtain ⟨f, hf⟩ := zDi_chain hN k (nx a s) (hN a s h1 hs) h3
    refine ⟨fun i => if i = k + 1 then s else f i, fun i hi => ?_⟩
    by_cases e : i = k + 1
    · subst e; simp only [if_true]; exact ⟨hs, h⟩
    · simp only [if_neg e]; exact hf i (by omega)
theorem zholes : ∀ (m n : Nat) (f : Nat → Nat), (∀ i, i < n → f i < m) → (∀ i j, i < j → j < n → f i ≠ f j) → n ≤ m
  | 0, n, f, h, _ => Nat.le_of_not_lt fun q => absurd (h 0 q) (Nat.not_lt_zero _)
  | m + 1, 0, f, _, _ => Nat.zero_le _
  | m + 1, n + 1, f, h, hd => by
    have key : n ≤ m := by
      refine zholes m n (fun i => if f i = m then f n else f i) (fun i hi => ?_) (fun i j hij hj => ?_)
      · by_cases e : f i = m
        · simp only [if_pos e]
          have := h n (by omega)
          have := hd i n hi (by omega)
          omega
        · simp only [if_neg e]
          have := h i (by omega)
          omega
      · have h1 := hd i j hij (by omega)
        have h2 := hd i n (by omega) (by omega)
        have h3 := hd j n hj (by omega)
        by_cases e1 : f i = m <;> by_cases e2 : f j = m
        · omega
        · simp only [if_pos e1, if_neg e2]; exact h3.symm
        · simp only [if_neg e1, if_pos e2]; exact h2
        · simp only [if_neg e1, if_neg e2]; exact h1
    omega
theorem zDi_le (hN : ∀ a s, a < m → s < 256 → nx a s < 256) {k s : Nat} (hs : s < 256) (h : zDi E nx G m k s) : k ≤ 255 := by
  obtain ⟨f, hf⟩ := zDi_chain hN k s hs h
  have := zholes 256 (k + 1) f (fun i hi => (hf i (by omega)).1) (fun i j hij hj e => by
    have h1 := (hf i (by omega)).2
    have h2 := (hf j (by omega)).2
    rw [e] at h1
    have := zDi_one h1 h2
    omega)
  omega
/-- the way that is laid: by the first act that leads on, each time -/
def zGs (E : Nat → Nat → Prop) (nx : Nat → Nat → Nat) (G : Nat → Prop) (m d : Nat) (st p : Nat → Nat) : Prop :=
  ∀ t, t < d → p t < m ∧ E (p t) (st t) ∧ st (t + 1) = nx (p t) (st t) ∧ zDi E nx G m (d - t - 1) (nx (p t) (st t)) ∧ ∀ b, b < p t → E b (st t) → ¬ zDi E nx G m (d - t - 1) (nx b (st t))
theorem zGs_act {d t : Nat} {st p st' p' : Nat → Nat} (h : zGs E nx G m d st p) (h' : zGs E nx G m d st' p') (hd : t < d) (e : st t = st' t) : p t = p' t := by
  obtain ⟨a1, a2, -, a4, a5⟩ := h t hd
  obtain ⟨b1, b2, -, b4, b5⟩ := h' t hd
  rw [e] at a2 a4 a5
  rcases Nat.lt_trichotomy (p t) (p' t) with q | q | q
  · exact absurd a4 (b5 _ q a2)
  · exact q
  · exact absurd b4 (a5 _ q b2)
theorem zGs_one {d : Nat} {st p st' p' : Nat → Nat} (h : zGs E nx G m d st p) (h' : zGs E nx G m d st' p') (h0 : st 0 = st' 0) : ∀ t, t ≤ d → st t = st' t ∧ (t < d → p t = p' t)
  | 0, _ => ⟨h0, fun hd => zGs_act h h' hd h0⟩
  | t + 1, ht => by
    obtain ⟨e1, e2⟩ := zGs_one h h' h0 t (by omega)
    have e3 : st (t + 1) = st' (t + 1) := by
      rw [(h t (by omega)).2.2.1, (h' t (by omega)).2.2.1, e1, e2 (by omega)]
    exact ⟨e3, fun hd => zGs_act h h' hd e3⟩
/-- the row 'few' when it is laid -/
def zFew (E : Nat → Nat → Prop) (nx : Nat → Nat → Nat) (G : Nat → Prop) (m : Nat) (F : Nat → Int32) : Prop := ∀ s, s < 256 → (F s = 1000 ∧ ∀ k, ¬ zRk E nx G m k s) ∨ ∃ k, k ≤ 255 ∧ F s = nI k ∧ zDi E nx G m k s
/-- while it is being laid -/
def zFi (E : Nat → Nat → Prop) (nx : Nat → Nat → Nat) (G : Nat → Prop) (m : Nat) (F : Nat → Int32) (f : Nat → Nat) : Prop := ∀ s, s < 256 → F s = nI (f s) ∧ f s ≤ 1000 ∧ (f s < 1000 → zRk E nx G m (f s) s) ∧ (G s → f s = 0)
theorem zFew_of (hN : ∀ a s, a < m → s < 256 → nx a s < 256) {F : Nat → Int32} {f : Nat → Nat} (h : zFi E nx G m F f) (hc : ∀ s, s < 256 → ∀ a, a < m → E a s → f s ≤ f (nx a s) + 1) : zFew E nx G m F := by
  have low : ∀ k s, s < 256 → zRk E nx G m k s → f s ≤ k := by
    intro k
    induction k with
    | zero => intro s hs hr; rw [(h s hs).2.2.2 hr]; exact Nat.le_refl 0
    | succ k ih =>
      intro s hs hr
      obtain ⟨a, h1, h2, h3⟩ := hr
      have := hc s hs a h1 h2
      have := ih (nx a s) (hN a s h1 hs) h3
      omega
  intro s hs
  obtain ⟨h1, h2, h3, h4⟩ := h s hs
  rcases Nat.lt_or_ge (f s) 1000 with q | q
  · right
    have hD : zDi E nx G m (f s) s := ⟨h3 q, fun j hj hr => by have := low j s hs hr; omega⟩
    exact ⟨f s, zDi_le hN hs hD, h1, hD⟩
  · left
    refine ⟨by rw [h1, show f s = 1000 by omega]; rfl, fun k hr => ?_⟩
    obtain ⟨d, -, hD⟩ := zDi_ex hr
    have := low d s hs hD.1
    have := zDi_le hN hs hD
    omega
end GRAPH
/-- the first number below n with p, as an int; -1 -/
def zfi (p : Nat → Prop) [DecidablePred p] : Nat → Int32
  | 0 => -1
  | n + 1 => if zfi p n = -1 then (if p n then nI n else -1) else zfi p n
theorem zfi_no {p : Nat → Prop} [DecidablePred p] : ∀ {n : Nat}, (∀ k, k < n → ¬ p k) → zfi p n = -1
  | 0, _ => rfl
  | n + 1, h => by simp only [zfi, zfi_no (fun k hk => h k (Nat.lt_succ_of_lt hk)), if_true, if_neg (h n (Nat.lt_succ_self n))]
theorem znI_m1 {n : Nat} (h : n < 2 ^ 31) : ¬ nI n = -1 := fun q => by
  have := nI_pos h
  rw [q] at this
  exact this (by decide)
theorem zfi_yes {p : Nat → Prop} [DecidablePred p] {k : Nat} (hp : p k) (hk : ∀ j, j < k → ¬ p j) (hs : k < 2 ^ 31) : ∀ {n : Nat}, k < n → zfi p n = nI k
  | 0, h => absurd h (Nat.not_lt_zero k)
  | n + 1, h => by
    rcases Nat.lt_succ_iff_lt_or_eq.mp h with q | rfl
    · simp only [zfi, zfi_yes hp hk hs q, if_neg (znI_m1 hs)]
    · simp only [zfi, zfi_no hk, if_true, if_pos hp]
theorem zfi_cases (p : Nat → Prop) [DecidablePred p] (n : Nat) (hn : n < 2 ^ 31) : (zfi p n = -1 ∧ ∀ k, k < n → ¬ p k) ∨ ∃ k, k < n ∧ zfi p n = nI k ∧ p k ∧ ∀ j, j < k → ¬ p j := by
  by_cases h : ∃ k, k < n ∧ p k
  · right
    obtain ⟨k, ⟨h1, h2⟩, h3⟩ := pk_least (fun k => k < n ∧ p k) h
    have h4 : ∀ j, j < k → ¬ p j := fun j hj hpj => h3 j hj ⟨by omega, hpj⟩
    exact ⟨k, h1, zfi_yes h2 h4 (by omega) h1, h2, h4⟩
  · left
    have h4 : ∀ k, k < n → ¬ p k := fun k hk hpk => h ⟨k, hk, hpk⟩
    exact ⟨zfi_no h4, h4⟩
