/-- bit i of a word -/
def zBt (x : Int32) (i : Nat) : Bool := x.toBitVec.getLsbD i
theorem zBt_ext {x y : Int32} (h : ∀ i, i < 32 → zBt x i = zBt y i) : x = y := by
  apply Int32.toBitVec_inj.mp
  exact BitVec.eq_of_getLsbD_eq h
theorem zBt_and (x y : Int32) (i : Nat) : zBt (x &&& y) i = (zBt x i && zBt y i) := by unfold zBt; rw [Int32.toBitVec_and, BitVec.getLsbD_and]
theorem zBt_or (x y : Int32) (i : Nat) : zBt (x ||| y) i = (zBt x i || zBt y i) := by unfold zBt; rw [Int32.toBitVec_or, BitVec.getLsbD_or]
theorem zBt_0 (i : Nat) : zBt 0 i = false := by unfold zBt; rw [show (0 : Int32).toBitVec = 0#32 from rfl, BitVec.getLsbD_zero]
theorem zBt_m1 : ∀ i, i < 32 → zBt (-1) i = true := by decide +kernel
theorem zBt_not (x : Int32) {i : Nat} (hi : i < 32) : zBt (x ^^^ (-1)) i = !zBt x i := by
  have e := zBt_m1 i hi
  unfold zBt at e ⊢
  rw [Int32.toBitVec_xor, BitVec.getLsbD_xor, e, Bool.xor_true]
theorem zBt_1 : ∀ i, i < 32 → zBt 1 i = decide (i = 0) := by decide +kernel
theorem zBt_255 : ∀ i, i < 32 → zBt 255 i = decide (i < 8) := by decide +kernel
theorem zBt_p : ∀ k, k < 32 → ∀ i, i < 32 → zBt (1 <<< (nI k &&& 31)) i = decide (i = k) := by decide +kernel
theorem zsm : ∀ k, k < 32 → ((nI k &&& 31).toBitVec.smod 32).toNat = k := by decide +kernel
theorem zBt_shr (x : Int32) {k : Nat} (hk : k < 32) : zBt (x >>> (nI k &&& 31)) 0 = zBt x k := by
  unfold zBt
  rw [Int32.toBitVec_shiftRight, BitVec.sshiftRight', zsm k hk, BitVec.getLsbD_sshiftRight]
  simp [hk]
theorem zBt_v (x : Int32) {k : Nat} (hk : k < 32) : x >>> (nI k &&& 31) &&& 1 = if zBt x k then 1 else 0 := by
  apply zBt_ext
  intro i hi
  rw [zBt_and, zBt_1 i hi]
  by_cases e : i = 0
  · subst e
    rw [zBt_shr x hk]
    cases zBt x k
    · simp [zBt_0]
    · simp [zBt_1 0 (by omega)]
  · cases zBt x k
    · simp [zBt_0, e]
    · simp [zBt_1 i hi, e]
theorem zBt_1i {x : Int32} {k : Nat} (hk : k < 32) : x >>> (nI k &&& 31) &&& 1 = 1 ↔ zBt x k = true := by
  rw [zBt_v x hk]; cases zBt x k <;> simp
theorem zBt_ne {x : Int32} {k : Nat} (hk : k < 32) : ¬ x >>> (nI k &&& 31) &&& 1 = 0 ↔ zBt x k = true := by
  rw [zBt_v x hk]; cases zBt x k <;> simp
theorem zBt_clr (s : Int32) {d : Nat} (hd : d < 32) {k : Nat} (hk : k < 32) : zBt (s &&& ((1 <<< (nI d &&& 31)) ^^^ (-1))) k = (zBt s k && !decide (k = d)) := by
  rw [zBt_and, zBt_not _ hk, zBt_p d hd k hk]
theorem zclr {s : Int32} {d k : Nat} (hd : d < 31) (hk : k < 31) : (s &&& ((1 <<< (nI d &&& 31)) ^^^ (-1))) >>> (nI k &&& 31) &&& 1 = if k = d then 0 else s >>> (nI k &&& 31) &&& 1 := by
  rw [zBt_v _ (by omega), zBt_v _ (by omega), zBt_clr s (by omega) (by omega)]
  by_cases e : k = d <;> simp [e]
theorem zBt_and0 {x y : Int32} : x &&& y = 0 ↔ ∀ i, i < 32 → ¬ (zBt x i = true ∧ zBt y i = true) := by
  constructor
  · intro h i hi q
    have e := zBt_and x y i
    rw [h, zBt_0, q.1, q.2] at e
    exact absurd e (by decide)
  · intro h
    apply zBt_ext
    intro i hi
    rw [zBt_and, zBt_0]
    have := h i hi
    cases e1 : zBt x i <;> cases e2 : zBt y i <;> simp_all
theorem z8_bt {x : Int32} : z8 x → ∀ i, 8 ≤ i → zBt x i = false := by
  rintro ⟨m, hm, rfl⟩ i hi
  unfold zBt nI
  rw [show (Int32.ofNat m).toBitVec = BitVec.ofNat 32 m from rfl, BitVec.getLsbD_ofNat]
  have : m.testBit i = false := Nat.testBit_lt_two_pow (Nat.lt_of_lt_of_le hm (show 256 ≤ 2 ^ i from Nat.pow_le_pow_right (n := 2) (i := 8) (by omega) hi))
  rw [this, Bool.and_false]
theorem z8_of_bt {x : Int32} (h : ∀ i, 8 ≤ i → i < 32 → zBt x i = false) : z8 x := by
  have e : x = x &&& 255 := zBt_ext (fun i hi => by
    rw [zBt_and, zBt_255 i hi]
    by_cases q : i < 8
    · simp [q]
    · simp [q, h i (by omega) hi])
  obtain ⟨j, h1, h2⟩ := pk_andE x (m := 255) 8 (by decide)
  exact ⟨j, h1, e.trans h2⟩
