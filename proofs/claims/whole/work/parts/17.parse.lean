/-! the two readings of a page go side by side -/
def z8 (x : Int32) : Prop := ∃ m : Nat, m < 256 ∧ x = nI m
def zLt (l s : Int32) : Prop := (l = -1 ∧ s = 0) ∨ ∃ i m : Nat, i < 8 ∧ l = nI i ∧ s = nI m ∧ 2 ^ i ≤ m ∧ m < 2 ^ (i + 1)
theorem zch_d : ∀ f, f < 8 → zfo (nI (97 + f)) = nI f ∧ zbit (nI (97 + f)) = nI (2 ^ f) := by decide +kernel
theorem zchr (c : Int32) : (∃ f, f < 8 ∧ c = nI (97 + f) ∧ zfo c = nI f ∧ zbit c = nI (2 ^ f)) ∨ (zfo c = -1 ∧ zbit c = 0) := by
  by_cases hc : ¬ c < 97 ∧ ¬ 104 < c
  · left
    have h1 : (97 : Int32).toInt = 97 := by decide
    have h2 : (104 : Int32).toInt = 104 := by decide
    have g1 := hc.1
    have g2 := hc.2
    rw [Int32.lt_iff_toInt_lt, h1] at g1
    rw [Int32.lt_iff_toInt_lt, h2] at g2
    have e : c = nI (97 + (c.toInt - 97).toNat) := by
      apply Int32.toInt_inj.mp
      rw [nI_toInt (by omega)]
      omega
    refine ⟨(c.toInt - 97).toNat, by omega, e, ?_⟩
    have := zch_d (c.toInt - 97).toNat (by omega)
    rw [← e] at this
    exact this
  · right
    refine ⟨?_, if_neg hc⟩
    unfold zfo
    rw [if_neg]
    intro q
    apply hc
    refine ⟨q.1, fun z => ?_⟩
    have h2 : (104 : Int32).toInt = 104 := by decide
    have h3 : (105 : Int32).toInt = 105 := by decide
    have q2 := q.2
    rw [Int32.lt_iff_toInt_lt, h3] at q2
    rw [Int32.lt_iff_toInt_lt, h2] at z
    omega
theorem zc97 : ∀ f, f < 8 → nI (97 + f) - 97 = nI f := by decide +kernel
theorem zor_d : ∀ f, f < 8 → ∀ m, m < 256 → m < 2 ^ f → nI m ||| nI (2 ^ f) = nI (m + 2 ^ f) := by decide +kernel
theorem zsh_d : ∀ f, f < 8 → (1 : Int32) <<< (nI f &&& 31) = nI (2 ^ f) := by decide +kernel
theorem zbt_d : ∀ f, f < 8 → ∀ m, m < 256 → ((nI m >>> (nI f &&& 31) &&& 1 = 0) ↔ (nI m &&& nI (2 ^ f) = 0)) := by decide +kernel
theorem z0_d : ∀ f, f < 8 → (-1 : Int32) < nI f ∧ (0 : Int32) < nI (2 ^ f) ∧ ¬ nI f = -1 := by decide +kernel
theorem zpow8 {i : Nat} (h : i < 8) : 2 ^ (i + 1) ≤ 256 := by
  have : 2 ^ (i + 1) ≤ 2 ^ 8 := Nat.pow_le_pow_right (by omega) (by omega)
  simpa using this
theorem zLt.lt {l s : Int32} (h : zLt l s) {f : Nat} (hf : f < 8) : l < nI f ↔ s < nI (2 ^ f) := by
  rcases h with ⟨rfl, rfl⟩ | ⟨i, m, h1, rfl, rfl, h2, h3⟩
  · exact ⟨fun _ => (z0_d f hf).2.1, fun _ => (z0_d f hf).1⟩
  · have hp := zpow8 h1
    have hq := zpow8 hf
    have hq2 : 2 ^ f < 2 ^ (f + 1) := Nat.pow_lt_pow_right (by omega) (by omega)
    rw [nI_ltI (by omega) (by omega), nI_ltI (by omega) (by omega)]
    constructor
    · intro z
      have : 2 ^ (i + 1) ≤ 2 ^ f := Nat.pow_le_pow_right (by omega) (by omega)
      omega
    · intro z
      rcases Nat.lt_or_ge i f with q | q
      · exact q
      · have : 2 ^ f ≤ 2 ^ i := Nat.pow_le_pow_right (by omega) q
        omega
theorem zLt.or {l s : Int32} (h : zLt l s) {f : Nat} (hf : f < 8) (hl : s < nI (2 ^ f)) : zLt (nI f) (s ||| nI (2 ^ f)) ∧ ¬ (s ||| nI (2 ^ f)) = 0 := by
  have hq := zpow8 hf
  have hq2 : 2 ^ (f + 1) = 2 ^ f + 2 ^ f := by rw [Nat.pow_succ]; omega
  have hpos : 0 < 2 ^ f := Nat.pow_pos (by omega)
  rcases h with ⟨rfl, rfl⟩ | ⟨i, m, h1, rfl, rfl, h2, h3⟩
  · have e := zor_d f hf 0 (by omega) hpos
    rw [nI_0] at e
    rw [e]
    exact ⟨Or.inr ⟨f, 0 + 2 ^ f, hf, rfl, rfl, by omega, by omega⟩, nI_ne0 (by omega) (by omega)⟩
  · have hp := zpow8 h1
    rw [nI_ltI (by omega) (by omega)] at hl
    rw [zor_d f hf m (by omega) hl]
    exact ⟨Or.inr ⟨f, m + 2 ^ f, hf, rfl, rfl, by omega, by omega⟩, nI_ne0 (by omega) (by omega)⟩
theorem zLt.z8 {l s : Int32} (h : zLt l s) : z8 s := by
  rcases h with ⟨rfl, rfl⟩ | ⟨i, m, h1, rfl, rfl, h2, h3⟩
  · exact ⟨0, by omega, rfl⟩
  · have hp := zpow8 h1
    exact ⟨m, by omega, rfl⟩
theorem zbt8 {x : Int32} (h : z8 x) {f : Nat} (hf : f < 8) : (x >>> (nI f &&& 31) &&& 1 = 0) ↔ (x &&& nI (2 ^ f) = 0) := by
  obtain ⟨m, hm, rfl⟩ := h
  exact zbt_d f hf m hm
theorem zLt0 : zLt (-1) 0 := Or.inl ⟨rfl, rfl⟩
def zpart : Nat → Nat
  | 8 => 7
  | 9 => 8
  | 10 => 9
  | 11 => 9
  | s => s
def zWt (s f : Int32) : Int32 := if s = 0 then 0 else 1 <<< (f &&& 31)
def zWf (s f : Int32) : Int32 := if s = 0 then 1 <<< (f &&& 31) else 0
def zPI (K : zMI) (n a s : Nat) : Prop := (K 54 24 = nI s ∧ K 54 25 = nI n ∧ K 54 30 = nI a) ∧ (s ≤ 11 ∧ n ≤ 4 ∧ a ≤ 10 ∧ (s ≤ 2 → n < 4) ∧ (s ≤ 4 → a = 0) ∧ (s = 5 → a < 10) ∧ (6 ≤ s → 0 < a) ∧ (3 ≤ s → 0 < n)) ∧ (z8 (K 54 29) ∧ (s ≤ 3 → K 54 29 = 0)) ∧ (∀ k, k < n → (∃ f, f < 8 ∧ K 70 k = nI f) ∧ (K 71 k = 0 ∨ K 71 k = 1)) ∧ (s = 2 → K 71 n = 0 ∨ K 71 n = 1) ∧ (∀ k, k < a → z8 (K 73 k) ∧ z8 (K 74 k) ∧ z8 (K 75 k) ∧ z8 (K 76 k) ∧ K 75 k &&& K 76 k = 0) ∧ (s = 6 → K 74 (a - 1) = 0) ∧ (6 ≤ s → s ≤ 8 → K 75 (a - 1) = 0) ∧ (6 ≤ s → s ≤ 9 → K 76 (a - 1) = 0)
def zSim (C K : zMI) (v n a s : Nat) : Prop := (C 3 0 = nI (zpart s) ∧ C v 9 = nI (if s = 1 ∨ s = 2 then n + 1 else n) ∧ C v 10 = nI a ∧ C v 11 = K 54 29) ∧
  (∀ k, k < n → C (v + 1) k = K 69 k ∧ C (v + 2) k = K 70 k ∧ C (v + 3) k = zWt (K 71 k) (K 70 k) ∧ C (v + 4) k = zWf (K 71 k) (K 70 k)) ∧ (s = 1 ∨ s = 2 → C (v + 1) n = K 69 n) ∧ (s = 2 → C 3 2 = K 71 n) ∧
  (∀ k, k < a → C (v + 5) k = K 72 k ∧ C (v + 6) k = K 73 k ∧ C (v + 7) k = K 74 k ∧ C (v + 8) k = K 75 k ∧ C (v + 9) k = K 76 k) ∧
  (s = 4 → zLt (C 3 1) (K 54 29)) ∧ (s = 6 → zLt (C 3 1) (K 73 (a - 1))) ∧ (s = 7 ∨ s = 8 → zLt (C 3 1) (K 74 (a - 1)) ∧ (K 74 (a - 1) = 0 ↔ s = 7)) ∧ (s = 9 → zLt (C 3 1) (K 75 (a - 1))) ∧ (s = 10 ∨ s = 11 → zLt (C 3 1) (K 76 (a - 1)) ∧ (K 76 (a - 1) = 0 ↔ s = 10))
/-- a step: the same answer; if it is 1, side by side again -/
def zStp (C K : zMI) (v n a s : Nat) (c : Int32) : Prop := zcR C v c a = zpLR K c a ∧ (zpLR K c a = 1 → ∃ n' a' s', zPI (zpL K c n a) n' a' s' ∧ zSim (zcM C v c (if s = 1 ∨ s = 2 then n + 1 else n) a) (zpL K c n a) v n' a' s')
theorem z8or {x y : Int32} (hx : z8 x) (hy : z8 y) : z8 (x ||| y) := by
  obtain ⟨m, hm, rfl⟩ := hx
  obtain ⟨k, hk, rfl⟩ := hy
  refine ⟨m ||| k, Nat.or_lt_two_pow (n := 8) hm hk, ?_⟩
  apply Int32.toBitVec_inj.mp
  show BitVec.ofNat 32 m ||| BitVec.ofNat 32 k = BitVec.ofNat 32 (m ||| k)
  rw [BitVec.ofNat_or]
theorem z8p {f : Nat} (hf : f < 8) : z8 (nI (2 ^ f)) := ⟨2 ^ f, by have := zpow8 hf; rw [Nat.pow_succ] at this; have : 0 < 2 ^ f := Nat.pow_pos (by omega); omega, rfl⟩
theorem zandor {x y z : Int32} (h1 : x &&& y = 0) (h2 : x &&& z = 0) : x &&& (y ||| z) = 0 := by
  apply Int32.toBitVec_inj.mp
  have g1 := congrArg Int32.toBitVec h1
  have g2 := congrArg Int32.toBitVec h2
  simp only [Int32.toBitVec_and, Int32.toBitVec_or] at g1 g2 ⊢
  rw [BitVec.and_or_distrib_left, g1, g2]
  rfl
section ST
variable {C K : zMI} {v n a : Nat} {c : Int32}
theorem zst0 (hv : zW v) (hP : zPI K n a 0) (hS : zSim C K v n a 0) : zStp C K v n a 0 c := by
  obtain ⟨⟨p1, p2, p3⟩, ⟨-, p4, p5, p6, p7, -, -, -⟩, p8, p9, -, -⟩ := hP
  obtain ⟨⟨s1, s2, s3, s4⟩, s5, -, -, -, -⟩ := hS
  have p1 : K 54 24 = 0 := p1
  have s1 : C 3 0 = 0 := s1
  have ha : a = 0 := p7 (by omega)
  subst ha
  refine ⟨by simp [zcR, zpLR, zpPersonR, s1, p1], fun hb => ⟨n, 0, 1, ?_⟩⟩
  have hk : ¬ zkd c = -1 := by
    simpa [zpLR, zpPersonR, p1, zb] using hb
  have e1 : zpL K c n 0 = zgo (zs K 69 (upd (K 69) n (zkd c))) 1 1 := by simp [zpL, zpPerson, zpKind, p1, zb, hk]
  have e2 : zcM C v c n 0 = zrKi C v n c := by simp [zcM, s1, hk]
  show _ ∧ zSim (zcM C v c n 0) _ v n 0 1
  rw [e1, e2]
  refine ⟨⟨⟨?_, ?_, ?_⟩, ⟨by omega, p4, by omega, fun _ => p6 (by omega), fun _ => rfl, by omega, by omega, by omega⟩, ?_, ?_, by omega, fun k hk => by omega, by omega, by omega, by omega⟩, ⟨⟨?_, ?_, ?_, ?_⟩, ?_, ?_, by omega, fun k hk => by omega, by omega, by omega, by omega, by omega, by omega⟩⟩
  · simp [zgo, zs_ap, upd_ap]; rfl
  · simp [zgo, zs_ap, upd_ap, p2]
  · simp [zgo, zs_ap, upd_ap, p3]
  · exact ⟨by simpa [zgo, zs_ap, upd_ap] using p8.1, fun _ => by simpa [zgo, zs_ap, upd_ap] using p8.2 (by omega)⟩
  · intro k hk
    simpa [zgo, zs_ap, upd_ap] using p9 k hk
  · rcases hv with rfl | rfl <;> (simp [zrKi, zrMv, zs_ap, upd_ap]; rfl)
  · rcases hv with rfl | rfl <;> (simp [zrKi, zrMv, zrAP, zs_ap, upd_ap, s2]; exact nI_1 n)
  · rcases hv with rfl | rfl <;> simp [zrKi, zrMv, zrAP, zs_ap, upd_ap, s3]
  · rcases hv with rfl | rfl <;> simp [zrKi, zrMv, zrAP, zgo, zs_ap, upd_ap, s4]
  · intro k hk
    have hne : ¬ k = n := by omega
    have := s5 k hk
    rcases hv with rfl | rfl <;> simpa [zrKi, zrMv, zrAP, zgo, zs_ap, upd_ap, hne] using this
  · intro _
    rcases hv with rfl | rfl <;> simp [zrKi, zrMv, zrAP, zgo, zs_ap, upd_ap]
theorem zst1 (hv : zW v) (hP : zPI K n a 1) (hS : zSim C K v n a 1) : zStp C K v n a 1 c := by
  obtain ⟨⟨p1, p2, p3⟩, ⟨-, p4, p5, p6, p7, -, -, -⟩, p8, p9, -, -⟩ := hP
  obtain ⟨⟨s1, s2, s3, s4⟩, s5, s6, -, -, -⟩ := hS
  have p1 : K 54 24 = 1 := p1
  have s1 : C 3 0 = 1 := s1
  have ha : a = 0 := p7 (by omega)
  subst ha
  refine ⟨by simp [zcR, zpLR, zpPersonR, s1, p1], fun hb => ⟨n, 0, 2, ?_⟩⟩
  have hk : c = 43 ∨ c = 45 := by
    by_cases q : c = 43
    · exact Or.inl q
    · exact Or.inr (by simpa [zpLR, zpPersonR, p1, zb, q] using hb)
  have e1 : zpL K c n 0 = zgo (zs K 71 (upd (K 71) n (zb (c = 43)))) 1 2 := by
    have : zb (c = 43 ∨ c = 45) = 1 := zb_t hk
    simp [zpL, zpPerson, zpSign, p1, this]
  have e2 : zcM C v c (n + 1) 0 = zrMv (zs C 3 (upd (C 3) 2 (zb (c = 43)))) 2 := by simp [zcM, s1, zrSi, hk]
  show _ ∧ zSim (zcM C v c (n + 1) 0) _ v n 0 2
  rw [e1, e2]
  refine ⟨⟨⟨?_, ?_, ?_⟩, ⟨by omega, p4, by omega, fun _ => p6 (by omega), fun _ => rfl, by omega, by omega, by omega⟩, ?_, ?_, ?_, fun k hk => by omega, by omega, by omega, by omega⟩, ⟨⟨?_, ?_, ?_, ?_⟩, ?_, ?_, ?_, fun k hk => by omega, by omega, by omega, by omega, by omega, by omega⟩⟩
  · simp [zgo, zs_ap, upd_ap]; rfl
  · simp [zgo, zs_ap, upd_ap, p2]
  · simp [zgo, zs_ap, upd_ap, p3]
  · exact ⟨by simpa [zgo, zs_ap, upd_ap] using p8.1, fun _ => by simpa [zgo, zs_ap, upd_ap] using p8.2 (by omega)⟩
  · intro k hk
    have hne : ¬ k = n := by omega
    simpa [zgo, zs_ap, upd_ap, hne] using p9 k hk
  · intro _
    simpa [zgo, zs_ap, upd_ap] using zb_01 (c = 43)
  · rcases hv with rfl | rfl <;> (simp [zrMv, zs_ap, upd_ap]; rfl)
  · rcases hv with rfl | rfl <;> simpa [zrMv, zs_ap, upd_ap] using s2
  · rcases hv with rfl | rfl <;> simp [zrMv, zs_ap, upd_ap, s3]
  · rcases hv with rfl | rfl <;> simp [zrMv, zgo, zs_ap, upd_ap, s4]
  · intro k hk
    have hne : ¬ k = n := by omega
    have := s5 k hk
    rcases hv with rfl | rfl <;> simpa [zrMv, zgo, zs_ap, upd_ap, hne] using this
  · intro _
    have := s6 (Or.inl rfl)
    rcases hv with rfl | rfl <;> simpa [zrMv, zgo, zs_ap, upd_ap] using this
  · intro _
    simp [zrMv, zgo, zs_ap, upd_ap]
theorem zst2 (hv : zW v) (hP : zPI K n a 2) (hS : zSim C K v n a 2) : zStp C K v n a 2 c := by
  obtain ⟨⟨p1, p2, p3⟩, ⟨-, p4, p5, p6, p7, -, -, -⟩, p8, p9, p10, -⟩ := hP
  obtain ⟨⟨s1, s2, s3, s4⟩, s5, s6, s7, -, -⟩ := hS
  have p1 : K 54 24 = 2 := p1
  have s1 : C 3 0 = 2 := s1
  have ha : a = 0 := p7 (by omega)
  subst ha
  have hq : (¬ zfo c = -1) ↔ 0 < zbit c := by
    rcases zchr c with ⟨f, hf, -, h1, h2⟩ | ⟨h1, h2⟩
    · rw [h1, h2]; exact ⟨fun _ => (z0_d f hf).2.1, fun _ => (z0_d f hf).2.2⟩
    · rw [h1, h2]; simp
  refine ⟨by simp [zcR, zpLR, zpPersonR, s1, p1, zb, hq], fun hb => ⟨n + 1, 0, 3, ?_⟩⟩
  have hk : 0 < zbit c := by
    simpa [zpLR, zpPersonR, p1, zb] using hb
  rcases zchr c with ⟨f, hf, hc, h1, h2⟩ | ⟨h1, h2⟩
  case inr => rw [h2] at hk; exact absurd hk (by decide)
  have hc2 : c - 97 = nI f := by rw [hc]; exact zc97 f hf
  have e1 : zpL K c n 0 = zgo (zs (zs K 70 (upd (K 70) n (nI f))) 54 (upd (K 54) 25 (K 54 25 + 1))) 1 3 := by
    simp [zpL, zpPerson, zpWant, p1, zb, hk, hc2]
  have e2 : zcM C v c (n + 1) 0 = zrGo C v n (nI f) := by
    have := (z0_d f hf).2.2
    simp [zcM, s1, h1, this]
  show _ ∧ zSim (zcM C v c (n + 1) 0) _ v (n + 1) 0 3
  rw [e1, e2]
  have hn4 := p6 (by omega)
  refine ⟨⟨⟨?_, ?_, ?_⟩, ⟨by omega, by omega, by omega, by omega, fun _ => rfl, by omega, by omega, by omega⟩, ?_, ?_, by omega, fun k hk => by omega, by omega, by omega, by omega⟩, ⟨⟨?_, ?_, ?_, ?_⟩, ?_, by omega, by omega, fun k hk => by omega, by omega, by omega, by omega, by omega, by omega⟩⟩
  · simp [zgo, zs_ap, upd_ap]; rfl
  · simp [zgo, zs_ap, upd_ap, p2]; exact nI_1 n
  · simp [zgo, zs_ap, upd_ap, p3]
  · exact ⟨by simpa [zgo, zs_ap, upd_ap] using p8.1, fun _ => by simpa [zgo, zs_ap, upd_ap] using p8.2 (by omega)⟩
  · intro k hk
    by_cases e : k = n
    · subst e
      simp only [zgo, zs_ap, upd_ap]
      exact ⟨⟨f, hf, by simp [upd_ap]⟩, by simpa using p10 rfl⟩
    · simpa [zgo, zs_ap, upd_ap, e] using p9 k (by omega)
  · rcases hv with rfl | rfl <;> (simp [zrGo, zrMv, zs_ap, upd_ap]; rfl)
  · rcases hv with rfl | rfl <;> simpa [zrGo, zrMv, zs_ap, upd_ap] using s2
  · rcases hv with rfl | rfl <;> simp [zrGo, zrMv, zs_ap, upd_ap, s3]
  · rcases hv with rfl | rfl <;> simp [zrGo, zrMv, zgo, zs_ap, upd_ap, s4]
  · intro k hk
    by_cases e : k = n
    · subst e
      have g1 := s6 (Or.inr rfl)
      have g2 := s7 rfl
      rcases hv with rfl | rfl <;> simp [zrGo, zrMv, zgo, zs_ap, upd_ap, zWt, zWf, g1, g2]
    · have := s5 k (by omega)
      rcases hv with rfl | rfl <;> simpa [zrGo, zrMv, zgo, zs_ap, upd_ap, e] using this
/-- a move to another part, nothing else -/
theorem zmove (hv : zW v) {s t : Nat} (hP : zPI K n a s) (hS : zSim C K v n a s) (hs : s ≠ 1 ∧ s ≠ 2) (ht : t ≠ 1 ∧ t ≠ 2 ∧ t ≠ 6 ∧ t ≠ 8 ∧ t ≠ 11 ∧ t ≤ 11) (h1 : t ≤ 2 → n < 4) (h2 : t ≤ 4 → a = 0) (h3 : t = 5 → a < 10) (h4 : 6 ≤ t → 0 < a) (h5 : 3 ≤ t → 0 < n) (h6 : t ≤ 4 → K 54 29 = 0) (h7 : t = 7 → K 74 (a - 1) = 0) (h8 : t = 7 → K 75 (a - 1) = 0) (h9 : t = 9 → K 75 (a - 1) = 0) (h10 : 6 ≤ t → t ≤ 10 → K 76 (a - 1) = 0) :
    zPI (zgo K 1 (nI t)) n a t ∧ zSim (zrMv C (nI (zpart t))) (zgo K 1 (nI t)) v n a t := by
  obtain ⟨⟨p1, p2, p3⟩, ⟨-, p4, p5, -⟩, p8, p9, -, p10, -⟩ := hP
  obtain ⟨⟨s1, s2, s3, s4⟩, s5, -, -, s6, -⟩ := hS
  have s2 : C v 9 = nI n := by rw [s2, if_neg (by omega)]
  refine ⟨⟨⟨?_, ?_, ?_⟩, ⟨by omega, p4, p5, h1, h2, h3, h4, h5⟩, ⟨?_, ?_⟩, ?_, by omega, ?_, by omega, ?_, ?_⟩, ⟨⟨?_, ?_, ?_, ?_⟩, ?_, by omega, by omega, ?_, ?_, by omega, ?_, ?_, ?_⟩⟩
  · simp [zgo, zs_ap, upd_ap]
  · simp [zgo, zs_ap, upd_ap, p2]
  · simp [zgo, zs_ap, upd_ap, p3]
  · simpa [zgo, zs_ap, upd_ap] using p8.1
  · intro q; simpa [zgo, zs_ap, upd_ap] using h6 (by omega)
  · intro k hk; simpa [zgo, zs_ap, upd_ap] using p9 k hk
  · intro k hk; simpa [zgo, zs_ap, upd_ap] using p10 k hk
  · intro q1 q2
    simpa [zgo, zs_ap, upd_ap] using h8 (by omega)
  · intro q1 q2; simpa [zgo, zs_ap, upd_ap] using h10 q1 (by omega)
  · simp [zrMv, zs_ap, upd_ap]
  · rw [if_neg (by omega)]; rcases hv with rfl | rfl <;> simpa [zrMv, zs_ap, upd_ap] using s2
  · rcases hv with rfl | rfl <;> simp [zrMv, zs_ap, upd_ap, s3]
  · rcases hv with rfl | rfl <;> simp [zrMv, zgo, zs_ap, upd_ap, s4]
  · intro k hk
    have := s5 k hk
    rcases hv with rfl | rfl <;> simpa [zrMv, zgo, zs_ap, upd_ap] using this
  · intro k hk
    have := s6 k hk
    rcases hv with rfl | rfl <;> simpa [zrMv, zgo, zs_ap, upd_ap] using this
  · intro q
    have := h6 (by omega)
    simpa [zrMv, zgo, zs_ap, upd_ap, this] using zLt0
  · intro q
    have := h7 (by omega)
    have q7 : t = 7 := by omega
    subst q7
    simpa [zrMv, zgo, zs_ap, upd_ap, this] using zLt0
  · intro q
    have := h9 (by omega)
    simpa [zrMv, zgo, zs_ap, upd_ap, this] using zLt0
  · intro q
    have q7 : t = 10 := by omega
    have := h10 (by omega) (by omega)
    subst q7
    simpa [zrMv, zgo, zs_ap, upd_ap, this] using zLt0
theorem zst3 (hv : zW v) (hP : zPI K n a 3) (hS : zSim C K v n a 3) : zStp C K v n a 3 c := by
  have hP' := hP
  have hS' := hS
  obtain ⟨⟨p1, p2, p3⟩, ⟨-, p4, p5, p6, p7, -, -, p8a⟩, p8, p9, p10, -⟩ := hP
  obtain ⟨⟨s1, s2, s3, s4⟩, s5, s6, s7, -, -⟩ := hS
  have p1 : K 54 24 = 3 := p1
  have s1 : C 3 0 = 3 := s1
  have s2 : C v 9 = nI n := s2
  have ha : a = 0 := p7 (by omega)
  subst ha
  have hn0 := p8a (by omega)
  have hn4 : nI n < 4 ↔ n < 4 := nI_ltI (b := 4) (by omega) (by omega)
  refine ⟨?_, fun hb => ?_⟩
  · by_cases h59 : c = 59
    · subst h59; simp [zcR, zpLR, zpPersonR, s1, p1, zrAG, zb]
    · simp [zcR, zpLR, zpPersonR, s1, p1, zrAG, zb, h59, s2, p2]
  · by_cases h59 : c = 59
    · subst h59
      refine ⟨n, 0, 4, ?_⟩
      have e1 : zpL K 59 n 0 = zgo K 1 (nI 4) := by simp [zpL, zpPerson, zpAfter, p1]; rfl
      have e2 : zcM C v 59 n 0 = zrMv C (nI (zpart 4)) := by simp [zcM, s1, zrAGm, zrAG, zb]; rfl
      show _ ∧ zSim (zcM C v 59 n 0) _ v n 0 4
      rw [e1, e2]
      exact zmove hv hP' hS' (by omega) (by omega) (by omega) (by omega) (by omega) (by omega) (by omega) (fun _ => p8.2 (by omega)) (by omega) (by omega) (by omega) (by omega)
    · have hq : c = 44 ∧ nI n < 4 := by
        have := hb
        simp only [zpLR, zpPersonR, p1, p2, h59] at this
        exact zb_1.mp (by simpa using this)
      obtain ⟨rfl, hq4⟩ := hq
      refine ⟨n, 0, 0, ?_⟩
      have e1 : zpL K 44 n 0 = zgo K 1 (nI 0) := by
        simp [zpL, zpPerson, zpAfter, p1, zb, p2, hq4]; rfl
      have e2 : zcM C v 44 n 0 = zrMv C (nI (zpart 0)) := by simp [zcM, s1, zrAGm, zrAG, zb, s2, hq4]; rfl
      show _ ∧ zSim (zcM C v 44 n 0) _ v n 0 0
      rw [e1, e2]
      exact zmove hv hP' hS' (by omega) (by omega) (fun _ => hn4.mp hq4) (by omega) (by omega) (by omega) (by omega) (fun _ => p8.2 (by omega)) (by omega) (by omega) (by omega) (by omega)
/-- a sign is a fact's, that comes behind all, in both readings -/
theorem zfact {l s : Int32} (hl : zLt l s) (c : Int32) : ((¬ zfo c = -1 ∧ l < zfo c) ↔ (0 < zbit c ∧ s < zbit c)) := by
  rcases zchr c with ⟨f, hf, hc, h1, h2⟩ | ⟨h1, h2⟩
  · rw [h1, h2]
    have := z0_d f hf
    exact ⟨fun q => ⟨this.2.1, (hl.lt hf).mp q.2⟩, fun q => ⟨this.2.2, (hl.lt hf).mpr q.2⟩⟩
  · rw [h1, h2]; simp
theorem zst4 (hv : zW v) (hP : zPI K n a 4) (hS : zSim C K v n a 4) : zStp C K v n a 4 c := by
  have hP' := hP
  have hS' := hS
  obtain ⟨⟨p1, p2, p3⟩, ⟨-, p4, p5, p6, p7, -, -, p8a⟩, p8, p9, p10, -⟩ := hP
  obtain ⟨⟨s1, s2, s3, s4⟩, s5, s6, s7, -, s8, -⟩ := hS
  have p1 : K 54 24 = 4 := p1
  have s1 : C 3 0 = 4 := s1
  have s2 : C v 9 = nI n := s2
  have ha : a = 0 := p7 (by omega)
  subst ha
  have hn0 := p8a (by omega)
  have hL := s8 rfl
  have hF := zfact hL c
  refine ⟨?_, fun hb => ?_⟩
  · by_cases h58 : c = 58
    · subst h58; simp [zcR, zpLR, s1, p1, zrFFR]
    · simp only [zcR, zpLR, s1, p1, zrFFR, h58, znx, zcbi, if_false, if_true]
      exact zb_c hF
  · by_cases h58 : c = 58
    · subst h58
      refine ⟨n, 0, 5, ?_⟩
      have e1 : zpL K 58 n 0 = zgo K 1 (nI 5) := by simp [zpL, zpFirst, p1]; rfl
      have e2 : zcM C v 58 n 0 = zrMv C (nI (zpart 5)) := by simp [zcM, s1, zrFF]; rfl
      show _ ∧ zSim (zcM C v 58 n 0) _ v n 0 5
      rw [e1, e2]
      exact zmove hv hP' hS' (by omega) (by omega) (by omega) (by omega) (by omega) (by omega) (by omega) (by omega) (by omega) (by omega) (by omega) (by omega)
    · have hk : 0 < zbit c ∧ K 54 29 < zbit c := by
        have := hb
        simp only [zpLR, p1, h58] at this
        exact zb_1.mp (by simpa [zcbi] using this)
      have hk2 := hF.mpr hk
      refine ⟨n, 0, 4, ?_⟩
      rcases zchr c with ⟨f, hf, hc, h1, h2⟩ | ⟨h1, h2⟩
      case inr => rw [h2] at hk; exact absurd hk.1 (by decide)
      have e1 : zpL K c n 0 = zs K 54 (upd (K 54) 29 (K 54 29 ||| nI (2 ^ f))) := by
        have : zcbi (K 54 29) c = 1 := zb_t hk
        simp [zpL, zpFirst, p1, h58, this, h2]
      have e2 : zcM C v c n 0 = zs (zs C v (upd (C v) 11 (C v 11 ||| nI (2 ^ f)))) 3 (upd (C 3) 1 (nI f)) := by
        have : znx C (zfo c) = 1 := zb_t hk2
        simp [zcM, s1, zrFF, h58, this]
        rw [h1, zsh_d f hf]
      show _ ∧ zSim (zcM C v c n 0) _ v n 0 4
      rw [e1, e2]
      rw [h2] at hk
      have hor := hL.or hf hk.2
      refine ⟨⟨⟨?_, ?_, ?_⟩, ⟨by omega, p4, by omega, by omega, fun _ => rfl, by omega, by omega, by omega⟩, ⟨?_, by omega⟩, ?_, by omega, fun k hk => by omega, by omega, by omega, by omega⟩, ⟨⟨?_, ?_, ?_, ?_⟩, ?_, by omega, by omega, fun k hk => by omega, ?_, by omega, by omega, by omega, by omega⟩⟩
      · simp [zs_ap, upd_ap, p1]; rfl
      · simp [zs_ap, upd_ap, p2]
      · simp [zs_ap, upd_ap, p3]
      · simpa [zs_ap, upd_ap] using hor.1.z8
      · intro k hk
        simpa [zs_ap, upd_ap] using p9 k hk
      · rcases hv with rfl | rfl <;> (simp [zs_ap, upd_ap, s1]; rfl)
      · rcases hv with rfl | rfl <;> simpa [zs_ap, upd_ap] using s2
      · rcases hv with rfl | rfl <;> simp [zs_ap, upd_ap, s3]
      · rcases hv with rfl | rfl <;> simp [zs_ap, upd_ap, s4]
      · intro k hk
        have := s5 k hk
        rcases hv with rfl | rfl <;> simpa [zs_ap, upd_ap] using this
      · intro _
        simpa [zs_ap, upd_ap] using hor.1
theorem zow_d : ∀ n, n < 5 → 0 < n → ∀ m, m < 127 → ((¬ nI m - 48 < 0 ∧ nI m - 48 < nI n) ↔ (¬ nI m < 48 ∧ ¬ (48 + nI n - 1) < nI m)) := by decide +kernel
theorem zst5 (hv : zW v) (hP : zPI K n a 5) (hS : zSim C K v n a 5) (hc : ∃ m, m < 127 ∧ c = nI m) : zStp C K v n a 5 c := by
  obtain ⟨⟨p1, p2, p3⟩, ⟨-, p4, p5, p6, -, p7, -, p8a⟩, p8, p9, -, p10, -⟩ := hP
  obtain ⟨⟨s1, s2, s3, s4⟩, s5, s6, s7, s8, -⟩ := hS
  have p1 : K 54 24 = 5 := p1
  have s1 : C 3 0 = 5 := s1
  have s2 : C v 9 = nI n := s2
  have hn0 := p8a (by omega)
  have ha10 := p7 rfl
  obtain ⟨m, hm, rfl⟩ := hc
  have hF := zow_d n (by omega) hn0 m hm
  refine ⟨?_, fun hb => ⟨n, a + 1, 6, ?_⟩⟩
  · simp only [zcR, zpLR, s1, p1, zrOwR, zwh, s2, p2]
    simpa using zb_c hF
  · have hk : ¬ nI m < 48 ∧ ¬ (48 + nI n - 1) < nI m := by
      have := hb
      simp only [zpLR, p1, zwh, p2] at this
      exact zb_1.mp (by simpa using this)
    have hk2 := hF.mpr hk
    have e1 : zpL K (nI m) n a = zgo (zs (zpWhoA K a (nI m)) 54 (upd (K 54) 30 (K 54 30 + 1))) 1 6 := by
      have : zwh K (nI m) = 1 := by rw [zwh, p2]; exact zb_t hk
      simp [zpL, zpWhose, p1, this]
    have e2 : zcM C v (nI m) n a = zrMv (zrAA C v a (nI m - 48)) 6 := by
      have : zrOwR C v (nI m) = 1 := by rw [zrOwR, s2]; exact zb_t hk2
      simp [zcM, s1, zrOw, this]
    show _ ∧ zSim (zcM C v (nI m) n a) _ v n (a + 1) 6
    rw [e1, e2]
    refine ⟨⟨⟨?_, ?_, ?_⟩, ⟨by omega, p4, by omega, by omega, by omega, by omega, by omega, by omega⟩, ⟨?_, by omega⟩, ?_, by omega, ?_, ?_, ?_, ?_⟩, ⟨⟨?_, ?_, ?_, ?_⟩, ?_, by omega, by omega, ?_, by omega, ?_, by omega, by omega, by omega⟩⟩
    · simp [zgo, zs_ap, upd_ap]; rfl
    · simp [zgo, zpWhoA, zs_ap, upd_ap, p2]
    · simp [zgo, zpWhoA, zs_ap, upd_ap, p3]; exact nI_1 a
    · simpa [zgo, zpWhoA, zs_ap, upd_ap] using p8.1
    · intro k hk
      simpa [zgo, zpWhoA, zs_ap, upd_ap] using p9 k hk
    · intro k hk
      by_cases e : k = a
      · subst e
        have z0 : z8 0 := ⟨0, by omega, rfl⟩
        simp [zgo, zpWhoA, zs_ap, upd_ap, z0]
      · simpa [zgo, zpWhoA, zs_ap, upd_ap, e] using p10 k (by omega)
    · intro _; simp [zgo, zpWhoA, zs_ap, upd_ap]
    · intro _ _; simp [zgo, zpWhoA, zs_ap, upd_ap]
    · intro _ _; simp [zgo, zpWhoA, zs_ap, upd_ap]
    · rcases hv with rfl | rfl <;> (simp [zrMv, zs_ap, upd_ap]; rfl)
    · rcases hv with rfl | rfl <;> simpa [zrMv, zrAA, zs_ap, upd_ap] using s2
    · rcases hv with rfl | rfl <;> (simp [zrMv, zrAA, zs_ap, upd_ap, s3]; exact nI_1 a)
    · rcases hv with rfl | rfl <;> simp [zrMv, zrAA, zgo, zpWhoA, zs_ap, upd_ap, s4]
    · intro k hk
      have := s5 k hk
      rcases hv with rfl | rfl <;> simpa [zrMv, zrAA, zgo, zpWhoA, zs_ap, upd_ap] using this
    · intro k hk
      by_cases e : k = a
      · subst e
        rcases hv with rfl | rfl <;> simp [zrMv, zrAA, zgo, zpWhoA, zs_ap, upd_ap]
      · have := s8 k (by omega)
        rcases hv with rfl | rfl <;> simpa [zrMv, zrAA, zgo, zpWhoA, zs_ap, upd_ap, e] using this
    · intro _
      simpa [zrMv, zrAA, zgo, zpWhoA, zs_ap, upd_ap] using zLt0
theorem zand0 (x : Int32) : x &&& 0 = 0 := by simp
theorem ztk6 (hv : zW v) {s f : Nat} (hs : s = 6) (hf : f < 8) (hP : zPI K n a s) (hS : zSim C K v n a s) (hlt : K 73 (a - 1) < nI (2 ^ f)) :
    zPI (zs K 73 (upd (K 73) (a - 1) (K 73 (a - 1) ||| nI (2 ^ f)))) n a 6 ∧ zSim (zs (zs C (v + 6) (upd (C (v + 6)) (a - 1) (C (v + 6) (a - 1) ||| nI (2 ^ f)))) 3 (upd (C 3) 1 (nI f))) (zs K 73 (upd (K 73) (a - 1) (K 73 (a - 1) ||| nI (2 ^ f)))) v n a 6 := by
  obtain ⟨⟨p1, p2, p3⟩, ⟨-, p4, p5, -, -, -, p6, p7⟩, p8, p9, -, p10, p11, p12, p13⟩ := hP
  obtain ⟨⟨q1, q2, q3, q4⟩, q5, -, -, q6, q7, q8, q9, q10, q11⟩ := hS
  have ha := p6 (by omega)
  have hn := p7 (by omega)
  have q2 : C v 9 = nI n := by rw [q2, if_neg (by omega)]
  have hL : zLt (C 3 1) (K 73 (a - 1)) := by
    exact q8 (by omega)
  have hor := hL.or hf hlt
  have hcell := q6 (a - 1) (by omega)
  refine ⟨⟨⟨?_, ?_, ?_⟩, ⟨by omega, p4, p5, by omega, by omega, by omega, by omega, by omega⟩, ⟨?_, by omega⟩, ?_, by omega, ?_, ?_, ?_, ?_⟩, ⟨⟨?_, ?_, ?_, ?_⟩, ?_, by omega, by omega, ?_, by omega, ?_, ?_, ?_, ?_⟩⟩
  · have : s = 6 := by omega
    subst this
    simpa [zs_ap, upd_ap] using p1
  · simp [zs_ap, upd_ap, p2]
  · simp [zs_ap, upd_ap, p3]
  · simpa [zs_ap, upd_ap] using p8.1
  · intro k hk; simpa [zs_ap, upd_ap] using p9 k hk
  · intro k hk
    by_cases e : k = a - 1
    · subst e
      obtain ⟨g1, g2, g3, g4, g5⟩ := p10 (a - 1) (by omega)
      have := (⟨hor.1.z8, g2, g3, g4, g5⟩ : z8 _ ∧ z8 _ ∧ z8 _ ∧ z8 _ ∧ _ = (0 : Int32))
      simpa [zs_ap, upd_ap] using this
    · simpa [zs_ap, upd_ap, e] using p10 k hk
  · intro z; simpa [zs_ap, upd_ap] using p11 (by omega)
  · intro z1 z2; simpa [zs_ap, upd_ap] using p12 (by omega) (by omega)
  · intro z1 z2; simpa [zs_ap, upd_ap] using p13 (by omega) (by omega)
  · have : s = 6 := by omega
    subst this
    rcases hv with rfl | rfl <;> simpa [zs_ap, upd_ap] using q1
  · rw [if_neg (by omega)]; rcases hv with rfl | rfl <;> simpa [zs_ap, upd_ap] using q2
  · rcases hv with rfl | rfl <;> simp [zs_ap, upd_ap, q3]
  · rcases hv with rfl | rfl <;> simp [zs_ap, upd_ap, q4]
  · intro k hk
    have := q5 k hk
    rcases hv with rfl | rfl <;> simpa [zs_ap, upd_ap] using this
  · intro k hk
    by_cases e : k = a - 1
    · subst e
      obtain ⟨g1, g2, g3, g4, g5⟩ := hcell
      rcases hv with rfl | rfl <;> simp [zs_ap, upd_ap, g1, g2, g3, g4, g5]
    · have := q6 k hk
      rcases hv with rfl | rfl <;> simpa [zs_ap, upd_ap, e] using this
  · intro _
    simpa [zs_ap, upd_ap] using hor.1
  · omega
  · omega
  · omega
theorem ztk8 (hv : zW v) {s f : Nat} (hs : s = 7 ∨ s = 8) (hf : f < 8) (hP : zPI K n a s) (hS : zSim C K v n a s) (hlt : K 74 (a - 1) < nI (2 ^ f)) :
    zPI (zgo (zs K 74 (upd (K 74) (a - 1) (K 74 (a - 1) ||| nI (2 ^ f)))) 1 8) n a 8 ∧ zSim (zs (zs C (v + 7) (upd (C (v + 7)) (a - 1) (C (v + 7) (a - 1) ||| nI (2 ^ f)))) 3 (upd (C 3) 1 (nI f))) (zgo (zs K 74 (upd (K 74) (a - 1) (K 74 (a - 1) ||| nI (2 ^ f)))) 1 8) v n a 8 := by
  obtain ⟨⟨p1, p2, p3⟩, ⟨-, p4, p5, -, -, -, p6, p7⟩, p8, p9, -, p10, p11, p12, p13⟩ := hP
  obtain ⟨⟨q1, q2, q3, q4⟩, q5, -, -, q6, q7, q8, q9, q10, q11⟩ := hS
  have ha := p6 (by omega)
  have hn := p7 (by omega)
  have q2 : C v 9 = nI n := by rw [q2, if_neg (by omega)]
  have hL : zLt (C 3 1) (K 74 (a - 1)) := by
    exact (q9 (by omega)).1
  have hor := hL.or hf hlt
  have hcell := q6 (a - 1) (by omega)
  refine ⟨⟨⟨?_, ?_, ?_⟩, ⟨by omega, p4, p5, by omega, by omega, by omega, by omega, by omega⟩, ⟨?_, by omega⟩, ?_, by omega, ?_, ?_, ?_, ?_⟩, ⟨⟨?_, ?_, ?_, ?_⟩, ?_, by omega, by omega, ?_, by omega, ?_, ?_, ?_, ?_⟩⟩
  · simp [zs_ap, upd_ap, zgo]; rfl
  · simp [zs_ap, upd_ap, zgo, p2]
  · simp [zs_ap, upd_ap, zgo, p3]
  · simpa [zs_ap, upd_ap, zgo] using p8.1
  · intro k hk; simpa [zs_ap, upd_ap, zgo] using p9 k hk
  · intro k hk
    by_cases e : k = a - 1
    · subst e
      obtain ⟨g1, g2, g3, g4, g5⟩ := p10 (a - 1) (by omega)
      have := (⟨g1, hor.1.z8, g3, g4, g5⟩ : z8 _ ∧ z8 _ ∧ z8 _ ∧ z8 _ ∧ _ = (0 : Int32))
      simpa [zs_ap, upd_ap, zgo] using this
    · simpa [zs_ap, upd_ap, zgo, e] using p10 k hk
  · intro z; omega
  · intro z1 z2; simpa [zs_ap, upd_ap, zgo] using p12 (by omega) (by omega)
  · intro z1 z2; simpa [zs_ap, upd_ap, zgo] using p13 (by omega) (by omega)
  · have : C 3 0 = nI 7 := by rcases hs with rfl | rfl <;> exact q1
    rcases hv with rfl | rfl <;> (simp [zs_ap, upd_ap, zgo, this]; rfl)
  · rw [if_neg (by omega)]; rcases hv with rfl | rfl <;> simpa [zs_ap, upd_ap, zgo] using q2
  · rcases hv with rfl | rfl <;> simp [zs_ap, upd_ap, zgo, q3]
  · rcases hv with rfl | rfl <;> simp [zs_ap, upd_ap, zgo, q4]
  · intro k hk
    have := q5 k hk
    rcases hv with rfl | rfl <;> simpa [zs_ap, upd_ap, zgo] using this
  · intro k hk
    by_cases e : k = a - 1
    · subst e
      obtain ⟨g1, g2, g3, g4, g5⟩ := hcell
      rcases hv with rfl | rfl <;> simp [zs_ap, upd_ap, zgo, g1, g2, g3, g4, g5]
    · have := q6 k hk
      rcases hv with rfl | rfl <;> simpa [zs_ap, upd_ap, zgo, e] using this
  · omega
  · intro _
    have h1 := hor.1
    have h2 := hor.2
    exact ⟨by simpa [zs_ap, upd_ap, zgo] using h1, ⟨fun z => absurd (by simpa [zs_ap, upd_ap, zgo] using z) h2, by omega⟩⟩
  · omega
  · omega
theorem ztk9 (hv : zW v) {s f : Nat} (hs : s = 9) (hf : f < 8) (hP : zPI K n a s) (hS : zSim C K v n a s) (hlt : K 75 (a - 1) < nI (2 ^ f)) :
    zPI (zs K 75 (upd (K 75) (a - 1) (K 75 (a - 1) ||| nI (2 ^ f)))) n a 9 ∧ zSim (zs (zs C (v + 8) (upd (C (v + 8)) (a - 1) (C (v + 8) (a - 1) ||| nI (2 ^ f)))) 3 (upd (C 3) 1 (nI f))) (zs K 75 (upd (K 75) (a - 1) (K 75 (a - 1) ||| nI (2 ^ f)))) v n a 9 := by
  obtain ⟨⟨p1, p2, p3⟩, ⟨-, p4, p5, -, -, -, p6, p7⟩, p8, p9, -, p10, p11, p12, p13⟩ := hP
  obtain ⟨⟨q1, q2, q3, q4⟩, q5, -, -, q6, q7, q8, q9, q10, q11⟩ := hS
  have ha := p6 (by omega)
  have hn := p7 (by omega)
  have q2 : C v 9 = nI n := by rw [q2, if_neg (by omega)]
  have hL : zLt (C 3 1) (K 75 (a - 1)) := by
    exact q10 (by omega)
  have hor := hL.or hf hlt
  have hcell := q6 (a - 1) (by omega)
  refine ⟨⟨⟨?_, ?_, ?_⟩, ⟨by omega, p4, p5, by omega, by omega, by omega, by omega, by omega⟩, ⟨?_, by omega⟩, ?_, by omega, ?_, ?_, ?_, ?_⟩, ⟨⟨?_, ?_, ?_, ?_⟩, ?_, by omega, by omega, ?_, by omega, ?_, ?_, ?_, ?_⟩⟩
  · have : s = 9 := by omega
    subst this
    simpa [zs_ap, upd_ap] using p1
  · simp [zs_ap, upd_ap, p2]
  · simp [zs_ap, upd_ap, p3]
  · simpa [zs_ap, upd_ap] using p8.1
  · intro k hk; simpa [zs_ap, upd_ap] using p9 k hk
  · intro k hk
    by_cases e : k = a - 1
    · subst e
      obtain ⟨g1, g2, g3, g4, g5⟩ := p10 (a - 1) (by omega)
      have g6 : (K 75 (a - 1) ||| nI (2 ^ f)) &&& K 76 (a - 1) = 0 := by rw [p13 (by omega) (by omega)]; exact zand0 _
      have := (⟨g1, g2, hor.1.z8, g4, g6⟩ : z8 _ ∧ z8 _ ∧ z8 _ ∧ z8 _ ∧ _ = (0 : Int32))
      simpa [zs_ap, upd_ap] using this
    · simpa [zs_ap, upd_ap, e] using p10 k hk
  · intro z; omega
  · intro z1 z2; omega
  · intro z1 z2; simpa [zs_ap, upd_ap] using p13 (by omega) (by omega)
  · have : s = 9 := by omega
    subst this
    rcases hv with rfl | rfl <;> simpa [zs_ap, upd_ap] using q1
  · rw [if_neg (by omega)]; rcases hv with rfl | rfl <;> simpa [zs_ap, upd_ap] using q2
  · rcases hv with rfl | rfl <;> simp [zs_ap, upd_ap, q3]
  · rcases hv with rfl | rfl <;> simp [zs_ap, upd_ap, q4]
  · intro k hk
    have := q5 k hk
    rcases hv with rfl | rfl <;> simpa [zs_ap, upd_ap] using this
  · intro k hk
    by_cases e : k = a - 1
    · subst e
      obtain ⟨g1, g2, g3, g4, g5⟩ := hcell
      rcases hv with rfl | rfl <;> simp [zs_ap, upd_ap, g1, g2, g3, g4, g5]
    · have := q6 k hk
      rcases hv with rfl | rfl <;> simpa [zs_ap, upd_ap, e] using this
  · omega
  · omega
  · intro _
    simpa [zs_ap, upd_ap] using hor.1
  · omega
theorem ztk11 (hv : zW v) {s f : Nat} (hs : s = 10 ∨ s = 11) (hf : f < 8) (hP : zPI K n a s) (hS : zSim C K v n a s) (hlt : K 76 (a - 1) < nI (2 ^ f)) (hex : K 75 (a - 1) &&& nI (2 ^ f) = 0) :
    zPI (zgo (zs K 76 (upd (K 76) (a - 1) (K 76 (a - 1) ||| nI (2 ^ f)))) 1 11) n a 11 ∧ zSim (zs (zs C (v + 9) (upd (C (v + 9)) (a - 1) (C (v + 9) (a - 1) ||| nI (2 ^ f)))) 3 (upd (C 3) 1 (nI f))) (zgo (zs K 76 (upd (K 76) (a - 1) (K 76 (a - 1) ||| nI (2 ^ f)))) 1 11) v n a 11 := by
  obtain ⟨⟨p1, p2, p3⟩, ⟨-, p4, p5, -, -, -, p6, p7⟩, p8, p9, -, p10, p11, p12, p13⟩ := hP
  obtain ⟨⟨q1, q2, q3, q4⟩, q5, -, -, q6, q7, q8, q9, q10, q11⟩ := hS
  have ha := p6 (by omega)
  have hn := p7 (by omega)
  have q2 : C v 9 = nI n := by rw [q2, if_neg (by omega)]
  have hL : zLt (C 3 1) (K 76 (a - 1)) := by
    exact (q11 (by omega)).1
  have hor := hL.or hf hlt
  have hcell := q6 (a - 1) (by omega)
  refine ⟨⟨⟨?_, ?_, ?_⟩, ⟨by omega, p4, p5, by omega, by omega, by omega, by omega, by omega⟩, ⟨?_, by omega⟩, ?_, by omega, ?_, ?_, ?_, ?_⟩, ⟨⟨?_, ?_, ?_, ?_⟩, ?_, by omega, by omega, ?_, by omega, ?_, ?_, ?_, ?_⟩⟩
  · simp [zs_ap, upd_ap, zgo]; rfl
  · simp [zs_ap, upd_ap, zgo, p2]
  · simp [zs_ap, upd_ap, zgo, p3]
  · simpa [zs_ap, upd_ap, zgo] using p8.1
  · intro k hk; simpa [zs_ap, upd_ap, zgo] using p9 k hk
  · intro k hk
    by_cases e : k = a - 1
    · subst e
      obtain ⟨g1, g2, g3, g4, g5⟩ := p10 (a - 1) (by omega)
      have := (⟨g1, g2, g3, hor.1.z8, zandor g5 hex⟩ : z8 _ ∧ z8 _ ∧ z8 _ ∧ z8 _ ∧ _ = (0 : Int32))
      simpa [zs_ap, upd_ap, zgo] using this
    · simpa [zs_ap, upd_ap, zgo, e] using p10 k hk
  · intro z; omega
  · intro z1 z2; omega
  · intro z1 z2; omega
  · have : C 3 0 = nI 9 := by rcases hs with rfl | rfl <;> exact q1
    rcases hv with rfl | rfl <;> (simp [zs_ap, upd_ap, zgo, this]; rfl)
  · rw [if_neg (by omega)]; rcases hv with rfl | rfl <;> simpa [zs_ap, upd_ap, zgo] using q2
  · rcases hv with rfl | rfl <;> simp [zs_ap, upd_ap, zgo, q3]
  · rcases hv with rfl | rfl <;> simp [zs_ap, upd_ap, zgo, q4]
  · intro k hk
    have := q5 k hk
    rcases hv with rfl | rfl <;> simpa [zs_ap, upd_ap, zgo] using this
  · intro k hk
    by_cases e : k = a - 1
    · subst e
      obtain ⟨g1, g2, g3, g4, g5⟩ := hcell
      rcases hv with rfl | rfl <;> simp [zs_ap, upd_ap, zgo, g1, g2, g3, g4, g5]
    · have := q6 k hk
      rcases hv with rfl | rfl <;> simpa [zs_ap, upd_ap, zgo, e] using this
  · omega
  · omega
  · omega
  · intro _
    have h1 := hor.1
    have h2 := hor.2
    exact ⟨by simpa [zs_ap, upd_ap, zgo] using h1, ⟨fun z => absurd (by simpa [zs_ap, upd_ap, zgo] using z) h2, by omega⟩⟩
end ST
