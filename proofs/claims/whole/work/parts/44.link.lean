/-- a step's link to step e, by facts -/
def zLb (T F : Int32) (g u : Nat → Int32) (k e : Nat) : Prop := ∃ f, f < 8 ∧ ((zBt T f = true ∧ zBt (g e) f = true ∧ ∀ j, e < j → j < k → zBt (g j) f = false) ∨ (zBt F f = true ∧ zBt (u e) f = true ∧ ∀ j, e < j → j < k → zBt (u j) f = false))
theorem zbit0 (s : Int32) {f : Nat} (hf : f < 32) : s &&& (1 <<< (nI f &&& 31)) = 0 ↔ zBt s f = false := by
  rw [zbitA s hf]
  have := zbitn hf
  cases zBt s f <;> simp [this]
theorem zla_b (J : zMI) (c : Nat) {f : Nat} (hf : f < 32) {e : Nat} (he : e < 32) : ∀ k, k ≤ 30 → (zBt (zla J (1 <<< (nI f &&& 31)) c k) e = true ↔ e < k ∧ zBt (J c e) f = true ∧ ∀ j, e < j → j < k → zBt (J c j) f = false)
  | 0, _ => by simp [zla, zBt_0]
  | k + 1, hk => by
    have ih := zla_b J c hf he k (by omega)
    simp only [zla]
    by_cases q : zBt (J c k) f = true
    · rw [if_neg (by rw [zbit0 _ hf, q]; decide), zBt_p k (by omega) e he]
      simp only [decide_eq_true_eq]
      constructor
      · rintro rfl; exact ⟨by omega, q, fun j h1 h2 => by omega⟩
      · rintro ⟨h1, h2, h3⟩
        by_cases e' : e = k
        · exact e'
        · have := h3 k (by omega) (by omega); rw [q] at this; exact absurd this (by decide)
    · have q : zBt (J c k) f = false := by cases h : zBt (J c k) f <;> simp_all
      rw [if_pos ((zbit0 _ hf).mpr q), ih]
      constructor
      · rintro ⟨h1, h2, h3⟩
        refine ⟨by omega, h2, fun j h4 h5 => ?_⟩
        by_cases e' : j = k
        · rw [e']; exact q
        · exact h3 j h4 (by omega)
      · rintro ⟨h1, h2, h3⟩
        refine ⟨?_, h2, fun j h4 h5 => h3 j h4 (by omega)⟩
        by_cases e' : e = k
        · rw [e', q] at h2; exact absurd h2 (by decide)
        · omega
theorem zlkF_b (J : zMI) (a : Nat) {k e : Nat} (hk : k ≤ 30) (he : e < 32) : ∀ n, n ≤ 8 → (zBt (zlkF J a k n) e = true ↔ e < k ∧ ∃ f, f < n ∧ ((zBt (J 59 a) f = true ∧ zBt (J 64 e) f = true ∧ ∀ j, e < j → j < k → zBt (J 64 j) f = false) ∨ (zBt (J 60 a) f = true ∧ zBt (J 65 e) f = true ∧ ∀ j, e < j → j < k → zBt (J 65 j) f = false)))
  | 0, _ => by simp [zlkF, zBt_0]
  | n + 1, hn => by
    have ih := zlkF_b J a hk he n (by omega)
    have l1 := zla_b J 64 (f := n) (by omega) he k hk
    have l2 := zla_b J 65 (f := n) (by omega) he k hk
    simp only [zlkF, zBt_or, Bool.or_eq_true]
    rw [ih]
    have c1 : zBt (if J 59 a &&& (1 <<< (nI n &&& 31)) = 0 then 0 else zla J (1 <<< (nI n &&& 31)) 64 k) e = true ↔ zBt (J 59 a) n = true ∧ zBt (zla J (1 <<< (nI n &&& 31)) 64 k) e = true := by
      simp only [zbit0 _ (show n < 32 by omega)]
      cases zBt (J 59 a) n <;> simp [zBt_0]
    have c2 : zBt (if J 60 a &&& (1 <<< (nI n &&& 31)) = 0 then 0 else zla J (1 <<< (nI n &&& 31)) 65 k) e = true ↔ zBt (J 60 a) n = true ∧ zBt (zla J (1 <<< (nI n &&& 31)) 65 k) e = true := by
      simp only [zbit0 _ (show n < 32 by omega)]
      cases zBt (J 60 a) n <;> simp [zBt_0]
    rw [c1, c2, l1, l2]
    constructor
    · rintro ((⟨h1, f, h2, h3⟩ | ⟨h1, h2, h3⟩) | ⟨h1, h2, h3⟩)
      · exact ⟨h1, f, by omega, h3⟩
      · exact ⟨h2, n, by omega, Or.inl ⟨h1, h3⟩⟩
      · exact ⟨h2, n, by omega, Or.inr ⟨h1, h3⟩⟩
    · rintro ⟨h1, f, h2, h3⟩
      by_cases q : f = n
      · subst q
        rcases h3 with h3 | h3
        · exact Or.inl (Or.inr ⟨h3.1, h1, h3.2⟩)
        · exact Or.inr ⟨h3.1, h1, h3.2⟩
      · exact Or.inl (Or.inl ⟨h1, f, by omega, h3⟩)
/-- what a step needs true and needs false -/
def znT (J : zMI) (k : Nat) : Int32 := if J 63 k = -1 then 0 else J 59 (J 63 k).toNatClampNeg
def znF (J : zMI) (k : Nat) : Int32 := if J 63 k = -1 then 0 else J 60 (J 63 k).toNatClampNeg
theorem zlk_b (J : zMI) {k e : Nat} (hk : k ≤ 30) (he : e < 32) : zBt (zlk J k) e = true ↔ e < k ∧ zLb (znT J k) (znF J k) (J 64) (J 65) k e := by
  unfold zlk znT znF zLb
  by_cases c : J 63 k = -1
  · simp [c, zBt_0]
  · simp only [if_neg c]
    exact zlkF_b J _ hk he 8 (Nat.le_refl 8)
/-- the class's way back over the steps: those from r on are done -/
def zLI (T F : Int32) (g u dd : Nat → Int32) (k r : Nat) (oT oF L D : Int32) : Prop :=
  (∀ f, f < 32 → (zBt oT f = true ↔ zBt T f = true ∧ ∀ j, r ≤ j → j < k → zBt (g j) f = false)) ∧ (∀ f, f < 32 → (zBt oF f = true ↔ zBt F f = true ∧ ∀ j, r ≤ j → j < k → zBt (u j) f = false)) ∧
  (∀ e, e < 32 → (zBt L e = true ↔ r ≤ e ∧ e < k ∧ zLb T F g u k e)) ∧ (∀ i, i < 32 → (zBt D i = true ↔ ∃ e, e < k ∧ zBt L e = true ∧ (i = e ∨ zBt (dd e) i = true)))
theorem zLI_c {T F : Int32} {g u dd : Nat → Int32} {k r : Nat} {oT oF L D : Int32} (hT : z8 T) (hF : z8 F) (hr : r < k) (h : zLI T F g u dd k (r + 1) oT oF L D) : (¬ oT &&& g r = 0 ∨ ¬ oF &&& u r = 0) ↔ zLb T F g u k r := by
  obtain ⟨h1, h2, -, -⟩ := h
  have e8 : ∀ {x : Int32} {f : Nat}, z8 x → zBt x f = true → f < 8 := fun hx hf => by
    rename_i x f
    rcases Nat.lt_or_ge f 8 with q | q
    · exact q
    · rw [z8_bt hx f q] at hf; exact absurd hf (by decide)
  constructor
  · intro hc
    rcases hc with hc | hc
    · rw [zBt_and0] at hc
      obtain ⟨f, hf⟩ := Classical.not_forall.mp hc
      obtain ⟨hf1, hf2⟩ := Classical.not_imp.mp hf
      obtain ⟨q1, q2⟩ := Classical.not_not.mp hf2
      obtain ⟨q3, q4⟩ := (h1 f hf1).mp q1
      exact ⟨f, e8 hT q3, Or.inl ⟨q3, q2, fun j a b => q4 j (by omega) b⟩⟩
    · rw [zBt_and0] at hc
      obtain ⟨f, hf⟩ := Classical.not_forall.mp hc
      obtain ⟨hf1, hf2⟩ := Classical.not_imp.mp hf
      obtain ⟨q1, q2⟩ := Classical.not_not.mp hf2
      obtain ⟨q3, q4⟩ := (h2 f hf1).mp q1
      exact ⟨f, e8 hF q3, Or.inr ⟨q3, q2, fun j a b => q4 j (by omega) b⟩⟩
  · rintro ⟨f, hf, ⟨q1, q2, q3⟩ | ⟨q1, q2, q3⟩⟩
    · exact Or.inl (fun q => (zBt_and0.mp q) f (by omega) ⟨(h1 f (by omega)).mpr ⟨q1, fun j a b => q3 j (by omega) b⟩, q2⟩)
    · exact Or.inr (fun q => (zBt_and0.mp q) f (by omega) ⟨(h2 f (by omega)).mpr ⟨q1, fun j a b => q3 j (by omega) b⟩, q2⟩)
theorem zop {T o : Int32} {g : Nat → Int32} {k r : Nat} (hr : r < k) (h : ∀ f, f < 32 → (zBt o f = true ↔ zBt T f = true ∧ ∀ j, r + 1 ≤ j → j < k → zBt (g j) f = false)) : ∀ f, f < 32 → (zBt (o &&& (g r ^^^ (-1))) f = true ↔ zBt T f = true ∧ ∀ j, r ≤ j → j < k → zBt (g j) f = false) := by
  intro f hf
  rw [zBt_and, zBt_not _ hf, Bool.and_eq_true, h f hf]
  constructor
  · rintro ⟨⟨q1, q2⟩, q3⟩
    refine ⟨q1, fun j a b => ?_⟩
    by_cases e : j = r
    · rw [e]; simpa using q3
    · exact q2 j (by omega) b
  · rintro ⟨q1, q2⟩
    exact ⟨⟨q1, fun j a b => q2 j (by omega) b⟩, by simpa using q2 r (by omega) hr⟩
theorem zLI_yes {T F : Int32} {g u dd : Nat → Int32} {k r : Nat} {oT oF L D : Int32} (hk : k ≤ 30) (hr : r < k) (h : zLI T F g u dd k (r + 1) oT oF L D) (hc : zLb T F g u k r) : zLI T F g u dd k r (oT &&& (g r ^^^ (-1))) (oF &&& (u r ^^^ (-1))) (L ||| (1 <<< (nI r &&& 31))) (D ||| ((1 <<< (nI r &&& 31)) ||| dd r)) := by
  obtain ⟨h1, h2, h3, h4⟩ := h
  refine ⟨zop hr h1, zop hr h2, fun e he => ?_, fun i hi => ?_⟩
  · rw [zBt_or, zBt_p r (by omega) e he, Bool.or_eq_true, h3 e he, decide_eq_true_eq]
    constructor
    · rintro (⟨q1, q2, q3⟩ | rfl)
      · exact ⟨by omega, q2, q3⟩
      · exact ⟨Nat.le_refl _, hr, hc⟩
    · rintro ⟨q1, q2, q3⟩
      by_cases q : e = r
      · exact Or.inr q
      · exact Or.inl ⟨by omega, q2, q3⟩
  · rw [zBt_or, zBt_or, zBt_p r (by omega) i hi, Bool.or_eq_true, Bool.or_eq_true, h4 i hi, decide_eq_true_eq]
    constructor
    · rintro (⟨e, q1, q2, q3⟩ | q)
      · exact ⟨e, q1, by rw [zBt_or, q2]; rfl, q3⟩
      · exact ⟨r, hr, by rw [zBt_or, zbit1 r (by omega), Bool.or_true], q⟩
    · rintro ⟨e, q1, q2, q3⟩
      rw [zBt_or, zBt_p r (by omega) e (by omega), Bool.or_eq_true, decide_eq_true_eq] at q2
      rcases q2 with q2 | rfl
      · exact Or.inl ⟨e, q1, q2, q3⟩
      · exact Or.inr q3
theorem zLI_no {T F : Int32} {g u dd : Nat → Int32} {k r : Nat} {oT oF L D : Int32} (hr : r < k) (h : zLI T F g u dd k (r + 1) oT oF L D) (hc : ¬ zLb T F g u k r) (hT : oT &&& g r = 0) (hF : oF &&& u r = 0) : zLI T F g u dd k r oT oF L D := by
  obtain ⟨h1, h2, h3, h4⟩ := h
  have key : ∀ {T o : Int32} {g : Nat → Int32}, o &&& g r = 0 → (∀ f, f < 32 → (zBt o f = true ↔ zBt T f = true ∧ ∀ j, r + 1 ≤ j → j < k → zBt (g j) f = false)) → ∀ f, f < 32 → (zBt o f = true ↔ zBt T f = true ∧ ∀ j, r ≤ j → j < k → zBt (g j) f = false) := by
    intro T o g h0 hh f hf
    rw [hh f hf]
    constructor
    · rintro ⟨q1, q2⟩
      refine ⟨q1, fun j a b => ?_⟩
      by_cases e : j = r
      · rw [e]
        have := (zBt_and0.mp h0) f hf
        have ho := (hh f hf).mpr ⟨q1, q2⟩
        cases c : zBt (g r) f
        · rfl
        · exact absurd ⟨ho, c⟩ this
      · exact q2 j (by omega) b
    · rintro ⟨q1, q2⟩; exact ⟨q1, fun j a b => q2 j (by omega) b⟩
  refine ⟨key hT h1, key hF h2, fun e he => ?_, h4⟩
  rw [h3 e he]
  constructor
  · rintro ⟨q1, q2, q3⟩; exact ⟨by omega, q2, q3⟩
  · rintro ⟨q1, q2, q3⟩
    refine ⟨?_, q2, q3⟩
    by_cases q : e = r
    · rw [q] at q3; exact absurd q3 hc
    · omega
