theorem zBt_nI (a : Nat) {i : Nat} (hi : i < 32) : zBt (nI a) i = a.testBit i := by
  show (BitVec.ofNat 32 a).getLsbD i = a.testBit i
  rw [BitVec.getLsbD_ofNat]; simp [hi]
theorem znA (a b : Nat) : nI a &&& nI b = nI (a &&& b) := by
  apply zBt_ext; intro i hi
  rw [zBt_and, zBt_nI _ hi, zBt_nI _ hi, zBt_nI _ hi, Nat.testBit_and]
/-- a byte and the rest -/
theorem zby {b m c M : Nat} (hb : b < 256) (hc : c < 256) : (b + 256 * m) &&& (c + 256 * M) = (b &&& c) + 256 * (m &&& M) := by
  have e1 : b + 256 * m = 2 ^ 8 * m + b := by omega
  have e2 : c + 256 * M = 2 ^ 8 * M + c := by omega
  have e3 : (b &&& c) + 256 * (m &&& M) = 2 ^ 8 * (m &&& M) + (b &&& c) := by omega
  rw [e1, e2, e3]
  apply Nat.eq_of_testBit_eq; intro j
  have hb' : b < 2 ^ 8 := hb
  have hc' : c < 2 ^ 8 := hc
  rw [Nat.testBit_and, Nat.testBit_two_pow_mul_add _ hb', Nat.testBit_two_pow_mul_add _ hc', Nat.testBit_two_pow_mul_add _ (Nat.and_lt_two_pow b hc'), Nat.testBit_and, Nat.testBit_and]
  split <;> rfl
def zq1 (M n : Nat) : Nat := n - (n / 2 ^ 1 &&& M)
def zq2 (M n : Nat) : Nat := (n &&& M) + (n / 2 ^ 2 &&& M)
def zq3 (M n : Nat) : Nat := (n + n / 2 ^ 4) &&& M
theorem zq1_d : ∀ b, b < 256 → ∀ r, r < 2 → (b / 2 + r * 128 &&& 85) = (b / 2 &&& 85) ∧ (b / 2 &&& 85) ≤ b ∧ zq1 85 b < 256 := by decide +kernel
theorem zq2_d : ∀ b, b < 256 → ∀ r, r < 4 → (b / 4 + r * 64 &&& 51) = (b / 4 &&& 51) ∧ zq2 51 b < 256 := by decide +kernel
theorem zq3_d : ∀ b, b < 69 → ∀ r, r < 5 → (b + (b / 16 + r * 16) &&& 15) = zq3 15 b := by decide +kernel
theorem zq1_b {b : Nat} (m M : Nat) (hb : b < 256) : zq1 (85 + 256 * M) (b + 256 * m) = zq1 85 b + 256 * zq1 M m := by
  have e : (b + 256 * m) / 2 ^ 1 = (b / 2 + (m % 2) * 128) + 256 * (m / 2) := by omega
  have d := zq1_d b hb (m % 2) (by omega)
  have l : (m / 2 ^ 1 &&& M) ≤ m := Nat.le_trans Nat.and_le_left (Nat.div_le_self _ _)
  unfold zq1
  rw [e, zby (by omega) (by omega), d.1]
  have : m / 2 ^ 1 = m / 2 := rfl
  rw [this] at l ⊢
  have : b / 2 ^ 1 = b / 2 := rfl
  rw [this]
  omega
theorem zq2_b {b : Nat} (m M : Nat) (hb : b < 256) : zq2 (51 + 256 * M) (b + 256 * m) = zq2 51 b + 256 * zq2 M m := by
  have e : (b + 256 * m) / 2 ^ 2 = (b / 4 + (m % 4) * 64) + 256 * (m / 4) := by omega
  have d := zq2_d b hb (m % 4) (by omega)
  unfold zq2
  rw [e, zby (m := m) hb (by omega), zby (by omega) (by omega), d.1]
  show _ = (b &&& 51) + (b / 4 &&& 51) + 256 * ((m &&& M) + (m / 4 &&& M))
  omega
theorem zq3_b {b m : Nat} (M : Nat) (hb : b < 69) (hm : m % 16 < 5) : zq3 (15 + 256 * M) (b + 256 * m) = zq3 15 b + 256 * zq3 M m := by
  have e : (b + 256 * m) + (b + 256 * m) / 2 ^ 4 = (b + (b / 16 + (m % 16) * 16)) + 256 * (m + m / 16) := by omega
  have d := zq3_d b hb (m % 16) hm
  unfold zq3 at d ⊢
  rw [e, zby (by omega) (by omega), d]
def zpcN (n : Nat) : Nat → Nat
  | 0 => 0
  | k + 1 => zpcN n k + n / 2 ^ k % 2
theorem zpcN_8 {b m : Nat} : zpcN (b + 256 * m) 8 = zpcN b 8 := by
  simp only [zpcN]
  have e0 : (b + 256 * m) / 2 ^ 0 % 2 = b / 2 ^ 0 % 2 := by omega
  have e1 : (b + 256 * m) / 2 ^ 1 % 2 = b / 2 ^ 1 % 2 := by omega
  have e2 : (b + 256 * m) / 2 ^ 2 % 2 = b / 2 ^ 2 % 2 := by omega
  have e3 : (b + 256 * m) / 2 ^ 3 % 2 = b / 2 ^ 3 % 2 := by omega
  have e4 : (b + 256 * m) / 2 ^ 4 % 2 = b / 2 ^ 4 % 2 := by omega
  have e5 : (b + 256 * m) / 2 ^ 5 % 2 = b / 2 ^ 5 % 2 := by omega
  have e6 : (b + 256 * m) / 2 ^ 6 % 2 = b / 2 ^ 6 % 2 := by omega
  have e7 : (b + 256 * m) / 2 ^ 7 % 2 = b / 2 ^ 7 % 2 := by omega
  rw [e0, e1, e2, e3, e4, e5, e6, e7]
theorem zpcN_b {b m : Nat} (hb : b < 256) : ∀ k, zpcN (b + 256 * m) (8 + k) = zpcN b 8 + zpcN m k
  | 0 => zpcN_8
  | k + 1 => by
    show zpcN (b + 256 * m) (8 + k) + (b + 256 * m) / 2 ^ (8 + k) % 2 = _
    rw [zpcN_b hb k, Nat.pow_add, ← Nat.div_div_eq_div_mul, show (b + 256 * m) / 2 ^ 8 = m by omega]
    simp only [zpcN]; omega
theorem zpc_d : ∀ b, b < 256 → zq3 15 (zq2 51 (zq1 85 b)) = zpcN b 8 ∧ zpcN b 8 ≤ 8 ∧ zq2 51 (zq1 85 b) < 69 ∧ zq2 51 (zq1 85 b) % 16 < 5 := by decide +kernel
theorem zpc_d7 : ∀ b, b < 128 → zpcN b 8 = zpcN b 7 := by decide +kernel
def zqG (n : Nat) : Nat := zq3 252645135 (zq2 858993459 (zq1 1431655765 n))
theorem zqG_eq {n : Nat} (hn : n < 2 ^ 31) : ∃ q0 q1 q2 q3, q0 ≤ 8 ∧ q1 ≤ 8 ∧ q2 ≤ 8 ∧ q3 ≤ 8 ∧ zqG n = q0 + 256 * (q1 + 256 * (q2 + 256 * q3)) ∧ zpcN n 31 = q0 + q1 + q2 + q3 := by
  obtain ⟨b0, b1, b2, b3, h0, h1, h2, h3, rfl⟩ : ∃ b0 b1 b2 b3, b0 < 256 ∧ b1 < 256 ∧ b2 < 256 ∧ b3 < 128 ∧ n = b0 + 256 * (b1 + 256 * (b2 + 256 * b3)) := ⟨n % 256, n / 256 % 256, n / 65536 % 256, n / 16777216, by omega, by omega, by omega, by omega, by omega⟩
  have d0 := zpc_d b0 h0
  have d1 := zpc_d b1 h1
  have d2 := zpc_d b2 h2
  have d3 := zpc_d b3 (by omega)
  refine ⟨_, _, _, _, d0.2.1, d1.2.1, d2.2.1, d3.2.1, ?_, ?_⟩
  · unfold zqG
    rw [show 1431655765 = 85 + 256 * (85 + 256 * (85 + 256 * 85)) from rfl, show 858993459 = 51 + 256 * (51 + 256 * (51 + 256 * 51)) from rfl, show 252645135 = 15 + 256 * (15 + 256 * (15 + 256 * 15)) from rfl]
    rw [zq1_b _ _ h0, zq1_b _ _ h1, zq1_b _ _ h2, zq2_b _ _ (zq1_d b0 h0 0 (by omega)).2.2, zq2_b _ _ (zq1_d b1 h1 0 (by omega)).2.2, zq2_b _ _ (zq1_d b2 h2 0 (by omega)).2.2]
    rw [zq3_b _ d0.2.2.1 (by omega), zq3_b _ d1.2.2.1 (by omega), zq3_b _ d2.2.2.1 (by omega), d0.1, d1.1, d2.1, d3.1]
  · rw [show 31 = 8 + (8 + (8 + 7)) from rfl, zpcN_b h0, zpcN_b h1, zpcN_b h2, ← zpc_d7 b3 h3]; omega
theorem zqE {q0 q1 q2 q3 : Nat} (a0 : q0 ≤ 8) (a1 : q1 ≤ 8) (a2 : q2 ≤ 8) (a3 : q3 ≤ 8) : (q0 + 256 * (q1 + 256 * (q2 + 256 * q3)) + (q0 + 256 * (q1 + 256 * (q2 + 256 * q3))) / 2 ^ 8 + (q0 + 256 * (q1 + 256 * (q2 + 256 * q3)) + (q0 + 256 * (q1 + 256 * (q2 + 256 * q3))) / 2 ^ 8) / 2 ^ 16) % 2 ^ 6 = q0 + q1 + q2 + q3 := by
  have e1 : (q0 + 256 * (q1 + 256 * (q2 + 256 * q3))) / 2 ^ 8 = q1 + 256 * (q2 + 256 * q3) := by omega
  rw [e1]
  have e2 : (q0 + 256 * (q1 + 256 * (q2 + 256 * q3)) + (q1 + 256 * (q2 + 256 * q3))) / 2 ^ 16 = q2 + q3 + 256 * q3 := by omega
  rw [e2]
  have e3 : q0 + 256 * (q1 + 256 * (q2 + 256 * q3)) + (q1 + 256 * (q2 + 256 * q3)) + (q2 + q3 + 256 * q3) = (q0 + q1 + q2 + q3) + 64 * (4 * (q1 + q2 + q3 + 256 * (q2 + q3) + 65536 * q3)) := by omega
  rw [e3, show 2 ^ 6 = 64 from rfl, Nat.add_mul_mod_self_left]
  exact Nat.mod_eq_of_lt (by omega)
theorem zbc_N {n : Nat} (hn : n < 2 ^ 31) : ∀ k, k ≤ 31 → zbc (nI n) k = nI (zpcN n k)
  | 0, _ => rfl
  | k + 1, hk => by
    simp only [zbc, zpcN]
    rw [zbc_N hn k (by omega), pk_shrN hn _ k (zsm k (by omega)), pk_andN (Nat.lt_of_le_of_lt (Nat.div_le_self _ _) (by omega)) 1 (by decide), nI_add]
theorem evj6_bitCount_0f7a4 {R : zMR} {h : Int64} {I : zMI} {n : Nat} (hn : n < 2 ^ 31) : zEr mj6_bitCount_0f7a4 R h I [.int (nI n)] (some (.int (zbc (nI n) 31))) R h I := by
  obtain ⟨q0, q1, q2, q3, a0, a1, a2, a3, eG, eP⟩ := zqG_eq hn
  have l1 : (n / 2 ^ 1 &&& 1431655765) ≤ n := Nat.le_trans Nat.and_le_left (Nat.div_le_self _ _)
  have n1 : zq1 1431655765 n < 2 ^ 31 := Nat.lt_of_le_of_lt (Nat.sub_le _ _) hn
  have n2 : zq2 858993459 (zq1 1431655765 n) < 2 ^ 31 := by
    have p1 : (zq1 1431655765 n &&& 858993459) ≤ 858993459 := Nat.and_le_right
    have p2 : (zq1 1431655765 n / 2 ^ 2 &&& 858993459) ≤ 858993459 := Nat.and_le_right
    unfold zq2; omega
  refine zEp_of [.int (nI n)] plj6_bitCount_0f7a4 (by decide +kernel) (fun _ _ => rfl) (fun _ _ => Nat.le_of_ble_eq_true rfl) ?_
  refine g_il0 rj6_bitCount_0f7a4_0 ?_
  refine g_il0 rj6_bitCount_0f7a4_1 ?_
  refine g_k rj6_bitCount_0f7a4_2 ?_
  refine g_iushr rj6_bitCount_0f7a4_3 ?_
  refine g_eqv (y := nI (n / 2 ^ 1)) (pk_ushrN (by omega) 1 1 (by decide)) ?_
  refine g_k rj6_bitCount_0f7a4_4 ?_
  refine g_eqv (y := nI (1431655765)) (rfl) ?_
  refine g_iand rj6_bitCount_0f7a4_7 ?_
  refine g_eqv (y := nI (n / 2 ^ 1 &&& 1431655765)) (znA _ _) ?_
  refine g_isub rj6_bitCount_0f7a4_8 ?_
  refine g_eqv (y := nI (zq1 1431655765 n)) (pk_sub l1) ?_
  refine g_is0 rj6_bitCount_0f7a4_9 ?_
  refine g_il0 rj6_bitCount_0f7a4_10 ?_
  refine g_k rj6_bitCount_0f7a4_11 ?_
  refine g_eqv (y := nI (858993459)) (rfl) ?_
  refine g_iand rj6_bitCount_0f7a4_14 ?_
  refine g_eqv (y := nI (zq1 1431655765 n &&& 858993459)) (znA _ _) ?_
  refine g_il0 rj6_bitCount_0f7a4_15 ?_
  refine g_k rj6_bitCount_0f7a4_16 ?_
  refine g_iushr rj6_bitCount_0f7a4_17 ?_
  refine g_eqv (y := nI (zq1 1431655765 n / 2 ^ 2)) (pk_ushrN (by omega) 2 2 (by decide)) ?_
  refine g_k rj6_bitCount_0f7a4_18 ?_
  refine g_eqv (y := nI (858993459)) (rfl) ?_
  refine g_iand rj6_bitCount_0f7a4_21 ?_
  refine g_eqv (y := nI (zq1 1431655765 n / 2 ^ 2 &&& 858993459)) (znA _ _) ?_
  refine g_iadd rj6_bitCount_0f7a4_22 ?_
  refine g_eqv (y := nI (zq2 858993459 (zq1 1431655765 n))) (nI_add _ _) ?_
  refine g_is0 rj6_bitCount_0f7a4_23 ?_
  refine g_il0 rj6_bitCount_0f7a4_24 ?_
  refine g_il0 rj6_bitCount_0f7a4_25 ?_
  refine g_k rj6_bitCount_0f7a4_26 ?_
  refine g_iushr rj6_bitCount_0f7a4_27 ?_
  refine g_eqv (y := nI (zq2 858993459 (zq1 1431655765 n) / 2 ^ 4)) (pk_ushrN (by omega) 4 4 (by decide)) ?_
  refine g_iadd rj6_bitCount_0f7a4_28 ?_
  refine g_eqv (y := nI (zq2 858993459 (zq1 1431655765 n) + zq2 858993459 (zq1 1431655765 n) / 2 ^ 4)) (nI_add _ _) ?_
  refine g_k rj6_bitCount_0f7a4_29 ?_
  refine g_eqv (y := nI (252645135)) (rfl) ?_
  refine g_iand rj6_bitCount_0f7a4_32 ?_
  refine g_eqv (y := nI (zqG n)) (znA _ _) ?_
  refine g_is0 rj6_bitCount_0f7a4_33 ?_
  refine g_il0 rj6_bitCount_0f7a4_34 ?_
  refine g_il0 rj6_bitCount_0f7a4_35 ?_
  refine g_k rj6_bitCount_0f7a4_36 ?_
  refine g_iushr rj6_bitCount_0f7a4_38 ?_
  refine g_eqv (y := nI (zqG n / 2 ^ 8)) (pk_ushrN (by omega) 8 8 (by decide)) ?_
  refine g_iadd rj6_bitCount_0f7a4_39 ?_
  refine g_eqv (y := nI (zqG n + zqG n / 2 ^ 8)) (nI_add _ _) ?_
  refine g_is0 rj6_bitCount_0f7a4_40 ?_
  refine g_il0 rj6_bitCount_0f7a4_41 ?_
  refine g_il0 rj6_bitCount_0f7a4_42 ?_
  refine g_k rj6_bitCount_0f7a4_43 ?_
  refine g_iushr rj6_bitCount_0f7a4_45 ?_
  refine g_eqv (y := nI ((zqG n + zqG n / 2 ^ 8) / 2 ^ 16)) (pk_ushrN (by omega) 16 16 (by decide)) ?_
  refine g_iadd rj6_bitCount_0f7a4_46 ?_
  refine g_eqv (y := nI ((zqG n + zqG n / 2 ^ 8) + (zqG n + zqG n / 2 ^ 8) / 2 ^ 16)) (nI_add _ _) ?_
  refine g_is0 rj6_bitCount_0f7a4_47 ?_
  refine g_il0 rj6_bitCount_0f7a4_48 ?_
  refine g_k rj6_bitCount_0f7a4_49 ?_
  refine g_iand rj6_bitCount_0f7a4_51 ?_
  refine g_eqv (y := zbc (nI n) 31) (by rw [zbc_N hn 31 (by omega), pk_andN (by omega) 6 (by decide), eP, eG, zqE a0 a1 a2 a3]) ?_
  exact g_iret rj6_bitCount_0f7a4_52 rfl ⟨rfl, ⟨rfl, rfl, rfl, rfl⟩⟩
