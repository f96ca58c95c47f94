def zsx (I : zMI) (A : Nat → Int32) (S : Int32) (F : Nat → Int32) : zMI := zs (zs (zs I 77 A) 54 (upd (I 54) 38 S)) 78 F
theorem zsx_zsx (I : zMI) (A A' F F' : Nat → Int32) (S S' : Int32) : zsx (zsx I A S F) A' S' F' = zsx I A' S' F' := by
  funext k
  simp only [zsx, zs_ap]
  by_cases h1 : k = 78
  · simp [h1]
  by_cases h2 : k = 54
  · subst h2; simp [upd_upd]
  by_cases h3 : k = 77
  · simp [h3]
  simp [h1, h2, h3]
theorem zsx_o (I : zMI) {A : Nat → Int32} {S : Int32} {F : Nat → Int32} {k : Nat} (h1 : ¬ k = 77) (h2 : ¬ k = 54) (h3 : ¬ k = 78) : zsx I A S F k = I k := by simp [zsx, zs_ap, h1, h2, h3]
theorem zsx_54 (I : zMI) {A : Nat → Int32} {S : Int32} {F : Nat → Int32} {j : Nat} (h1 : ¬ j = 38) : zsx I A S F 54 j = I 54 j := by simp [zsx, zs_ap, upd_ap, h1]
theorem zsx_self (I : zMI) : zsx I (I 77) (I 54 38) (I 78) = I := by
  have e : upd (I 54) 38 (I 54 38) = I 54 := fa_upd_same' rfl
  rw [zsx, e, zs_self]
  exact (by rw [show (zs I 54 (I 54)) = I from zs_self I 54]; exact zs_self I 78)
section XX
variable {I : zMI} {A F : Nat → Int32} {S S' x : Int32} {q t : Nat}
theorem zwi_x : ∀ n, zwi (zsx I A S F) x n = zwi I x n
  | 0 => rfl
  | n + 1 => by simp only [zwi, zwi_x n]; rfl
theorem ztd_x : ∀ n, ztd (zsx I A S F) x n = ztd I x n
  | 0 => rfl
  | n + 1 => by simp only [ztd, ztd_x n]; rfl
theorem zao_x : ∀ n, zao (zsx I A S F) q t n = zao I q t n
  | 0 => rfl
  | n + 1 => by simp only [zao, zao_x n, ztd_x]; rfl
theorem zsb_x : ∀ n, zsb (zsx I A S F) x n = zsb I x n
  | 0 => rfl
  | n + 1 => by simp only [zsb, zsb_x n]; rfl
theorem zEa_x : zEa (zsx I A S F) S' = zEa I S' := rfl
theorem zNx_x : zNx (zsx I A S F) = zNx I := rfl
theorem ztd_77 : ∀ n, ztd (zs I 77 A) x n = ztd I x n
  | 0 => rfl
  | n + 1 => by simp only [ztd, ztd_77 n]; rfl
theorem zao_77 : ∀ n, zao (zs I 77 A) q t n = zao I q t n
  | 0 => rfl
  | n + 1 => by simp only [zao, zao_77 n, ztd_77]; rfl
theorem zwi_77 : ∀ n, zwi (zs I 77 A) x n = zwi I x n
  | 0 => rfl
  | n + 1 => by simp only [zwi, zwi_77 n]; rfl
end XX
def zwq (I : zMI) (q s : Nat) : Prop := zb (nI s >>> (I 56 q &&& 31) &&& 1 = 1) = I 57 q
section CG
variable {E : Nat → Nat → Prop} {nx : Nat → Nat → Nat} {G G' : Nat → Prop} {m : Nat}
theorem zRk_c (hN : ∀ a s, a < m → s < 256 → nx a s < 256) (hG : ∀ s, s < 256 → (G s ↔ G' s)) : ∀ k s, s < 256 → (zRk E nx G m k s ↔ zRk E nx G' m k s)
  | 0, s, hs => hG s hs
  | k + 1, s, hs => by
    constructor
    · rintro ⟨a, h1, h2, h3⟩; exact ⟨a, h1, h2, (zRk_c hN hG k _ (hN a s h1 hs)).mp h3⟩
    · rintro ⟨a, h1, h2, h3⟩; exact ⟨a, h1, h2, (zRk_c hN hG k _ (hN a s h1 hs)).mpr h3⟩
theorem zDi_c (hN : ∀ a s, a < m → s < 256 → nx a s < 256) (hG : ∀ s, s < 256 → (G s ↔ G' s)) {k s : Nat} (hs : s < 256) : zDi E nx G m k s ↔ zDi E nx G' m k s :=
  ⟨fun h => ⟨(zRk_c hN hG k s hs).mp h.1, fun j hj q => h.2 j hj ((zRk_c hN hG j s hs).mpr q)⟩, fun h => ⟨(zRk_c hN hG k s hs).mpr h.1, fun j hj q => h.2 j hj ((zRk_c hN hG j s hs).mp q)⟩⟩
theorem zFew_c (hN : ∀ a s, a < m → s < 256 → nx a s < 256) (hG : ∀ s, s < 256 → (G s ↔ G' s)) {F : Nat → Int32} (h : zFew E nx G m F) : zFew E nx G' m F := fun s hs => by
  rcases h s hs with ⟨h1, h2⟩ | ⟨k, h1, h2, h3⟩
  · exact Or.inl ⟨h1, fun k q => h2 k ((zRk_c hN hG k s hs).mpr q)⟩
  · exact Or.inr ⟨k, h1, h2, (zDi_c hN hG hs).mp h3⟩
theorem zFew_un {F : Nat → Int32} (h : zFew E nx G m F) {s : Nat} (hs : s < 256) : F s = 1000 ↔ ∀ k, ¬ zRk E nx G m k s := by
  rcases h s hs with ⟨h1, h2⟩ | ⟨k, h1, h2, h3⟩
  · exact ⟨fun _ => h2, fun _ => h1⟩
  · refine ⟨fun q => ?_, fun q => absurd h3.1 (q k)⟩
    rw [h2] at q
    have := (nI_eq (b := 1000) (by omega) (by omega)).mp q
    omega
theorem zFew_di {F : Nat → Int32} (h : zFew E nx G m F) {s k : Nat} (hs : s < 256) (hk : k ≤ 255) : F s = nI k ↔ zDi E nx G m k s := by
  rcases h s hs with ⟨h1, h2⟩ | ⟨j, h1, h3, h4⟩
  · refine ⟨fun q => ?_, fun q => absurd q.1 (h2 k)⟩
    rw [h1] at q
    have := (nI_eq (a := 1000) (by omega) (by omega)).mp q
    omega
  · rw [h3, nI_eq (by omega) (by omega)]
    exact ⟨fun q => q ▸ h4, fun q => zDi_one h4 q⟩
/-- there is a laid way -/
theorem zGs_ex (hN : ∀ a s, a < m → s < 256 → nx a s < 256) : ∀ d s, s < 256 → zDi E nx G m d s → ∃ st p, zGs E nx G m d st p ∧ st 0 = s ∧ ∀ t, t ≤ d → st t < 256 ∧ zDi E nx G m (d - t) (st t)
  | 0, s, hs, h => ⟨fun _ => s, fun _ => 0, fun t ht => absurd ht (Nat.not_lt_zero t), rfl, fun t ht => by rw [show t = 0 by omega]; exact ⟨hs, h⟩⟩
  | d + 1, s, hs, h => by
    obtain ⟨a, ⟨h1, h2, h3⟩, h4⟩ := pk_least (fun a => a < m ∧ E a s ∧ zDi E nx G m d (nx a s)) (zDi_s h)
    obtain ⟨st, p, g1, g2, g3⟩ := zGs_ex hN d (nx a s) (hN a s h1 hs) h3
    refine ⟨fun t => if t = 0 then s else st (t - 1), fun t => if t = 0 then a else p (t - 1), fun t ht => ?_, rfl, fun t ht => ?_⟩
    · by_cases e : t = 0
      · subst e
        simp only [if_true]
        refine ⟨h1, h2, ?_, h3, fun b hb hE hD => h4 b hb ⟨by omega, hE, hD⟩⟩
        show st 0 = nx a s
        exact g2
      · simp only [if_neg e, if_neg (show ¬ t + 1 = 0 by omega)]
        obtain ⟨u, rfl⟩ : ∃ u, t = u + 1 := ⟨t - 1, by omega⟩
        have := g1 u (by omega)
        rw [show d + 1 - (u + 1) - 1 = d - u - 1 by omega]
        exact this
    · by_cases e : t = 0
      · subst e; simp only [if_true]; exact ⟨hs, h⟩
      · simp only [if_neg e]
        obtain ⟨u, rfl⟩ : ∃ u, t = u + 1 := ⟨t - 1, by omega⟩
        have := g3 u (by omega)
        rw [show d + 1 - (u + 1) = d - u by omega]
        exact this
/-- an act of the laid way, -1 where there is none -/
def zLd (E : Nat → Nat → Prop) (nx : Nat → Nat → Nat) (G : Nat → Prop) (m s : Nat) (pl r : Int32) : Prop := ((∀ k, ¬ zRk E nx G m k s) ∧ r = -1) ∨ ∃ d st p, d ≤ 255 ∧ zDi E nx G m d s ∧ zGs E nx G m d st p ∧ st 0 = s ∧ ((∃ j, j < d ∧ pl = nI j ∧ r = nI (p j)) ∨ ((∀ j, j < d → pl ≠ nI j) ∧ r = -1))
def zLm (E : Nat → Nat → Prop) (nx : Nat → Nat → Nat) (G : Nat → Prop) (m s : Nat) (r : Int32) : Prop := ((∀ k, ¬ zRk E nx G m k s) ∧ r = -1) ∨ ∃ d, d ≤ 255 ∧ zDi E nx G m d s ∧ r = nI d
end CG
theorem zrow_s (F : Nat → Int32) (p : Nat → Int32) (i : Nat) : upd (fun k => if k < i then p k else F k) i (p i) = (fun k => if k < i + 1 then p k else F k) := by
  funext k
  simp only [upd_ap]
  by_cases e : k = i
  · subst e; simp
  · by_cases q : k < i
    · simp [e, q, show k < i + 1 by omega]
    · simp [e, q, show ¬ k < i + 1 by omega]
theorem zrow_0 (I : zMI) (k : Nat) (p : Nat → Int32) : I = zs I k (fun j => if j < 0 then p j else I k j) := by
  rw [show (fun j => if j < 0 then p j else I k j) = I k from funext fun j => by simp]
  exact (zs_self I k).symm
theorem lp7_layPlan {w v0 e1 e2 : Nat} {h : Int64} {I : zMI} {P : zPost} {q : Nat} (hq : q < 4) 
    (hend : ∀ y : Value, zGo m7_layPlan 27 [.ref 54, .int (nI q), y] [] zX (zRR w v0 e1 e2) h (zs I 77 (fun k => if k < 256 then zb (zb (nI k >>> (I 56 q &&& 31) &&& 1 = 1) = I 57 q) else I 77 k)) P) :
    ∀ d i, 256 - i < d → i ≤ 256 → zGo m7_layPlan 2 [.ref 54, .int (nI q), .int (nI i)] [] zX (zRR w v0 e1 e2) h (zs I 77 (fun k => if k < i then zb (zb (nI k >>> (I 56 q &&& 31) &&& 1 = 1) = I 57 q) else I 77 k)) P := by
  intro d
  induction d with
  | zero => intro i hd0; exact absurd hd0 (Nat.not_lt_zero _)
  | succ d ih =>
    intro i hd0 hd1
    refine g_il2 r7_layPlan_2 ?_
    refine g_k r7_layPlan_3 ?_
    refine g_eqv (y := nI 256) rfl ?_
    refine g_icgeN r7_layPlan_6 (by omega) (by omega) (fun h6 => ?_) (fun h6 => ?_)
    · rw [show i = 256 by omega]
      exact hend _
    · refine g_al0 r7_layPlan_9 ?_
      refine g_gfr r7_layPlan_10 xx_54 rfl rr_54_36 ?_
      refine g_il2 r7_layPlan_13 ?_
      refine g_al0 r7_layPlan_14 ?_
      refine g_il1 r7_layPlan_15 ?_
      refine g_il2 r7_layPlan_16 ?_
      refine g_eV2 r7_layPlan_17 ok7_isWanted pl7_layPlan pl7_isWanted xx_54 (Nat.le_of_ble_eq_true rfl) (ev7_isWanted hq) ?_
      refine g_zastN r7_layPlan_20 xx_77 (by omega) (by decide) (zb_01 _) ?_
      refine g_eqm (I' := zs I 77 (fun k => if k < i + 1 then zb (zb (nI k >>> (I 56 q &&& 31) &&& 1 = 1) = I 57 q) else I 77 k)) (by rw [zs_zs, zs_eq]; exact congrArg (zs I 77) (zrow_s (I 77) (fun k => zb (zb (nI k >>> (I 56 q &&& 31) &&& 1 = 1) = I 57 q)) i)) ?_
      refine g_iiN2 r7_layPlan_21 rfl ?_
      refine g_goto r7_layPlan_24 ?_
      exact ih (i + 1) (by omega) (by omega)
theorem zb_g {p : Prop} [Decidable p] : ¬ zb p = 0 ↔ p := ⟨fun h => Classical.byContradiction fun q => h (zb_0.mpr q), fun h q => (zb_0.mp q) h⟩
theorem ev7_layPlan {w v0 e1 e2 : Nat} {h : Int64} {I : zMI} {q : Nat} (hq : q < 4) {m : Nat} (hm : I 54 5 = nI m) (hm10 : m ≤ 10) {t : Nat} (ht : I 54 13 = nI t) (ht30 : t ≤ 30) (hA : zA8 I m) : zEp m7_layPlan (zRR w v0 e1 e2) h I [.ref 54, .int (nI q)] (fun v R1 h1 I1 => ∃ A F, zFew (zEa I (zao I q t m)) (zNx I) (zwq I q) m F ∧ v = none ∧ R1 = (zRR w v0 e1 e2) ∧ h1 = h ∧ I1 = zsx I A (zao I q t m) F) := by
  refine zEp_of [.ref 54, .int (nI q), .null] pl7_layPlan (by decide +kernel) (fun _ _ => rfl) (fun _ _ => Nat.le_of_ble_eq_true rfl) ?_
  have hend : ∀ y : Value, zGo m7_layPlan 27 [.ref 54, .int (nI q), y] [] zX (zRR w v0 e1 e2) h (zs I 77 (fun k => if k < 256 then zb (zb (nI k >>> (I 56 q &&& 31) &&& 1 = 1) = I 57 q) else I 77 k)) (fun v X1 R1 h1 I1 => X1 = zX ∧ (fun v R1 h1 I1 => ∃ A F, zFew (zEa I (zao I q t m)) (zNx I) (zwq I q) m F ∧ v = none ∧ R1 = (zRR w v0 e1 e2) ∧ h1 = h ∧ I1 = zsx I A (zao I q t m) F) v R1 h1 I1) := by
    intro y
    obtain ⟨A, eA⟩ : ∃ A : Nat → Int32, A = (fun k => if k < 256 then zb (zb (nI k >>> (I 56 q &&& 31) &&& 1 = 1) = I 57 q) else I 77 k) := ⟨_, rfl⟩
    rw [← eA]
    have hm7 : (zs I 77 A) 54 5 = nI m := hm
    have ht7 : (zs I 77 A) 54 13 = nI t := ht
    have hA7 : zA8 (zs I 77 A) m := zA8_row hA (by decide) (by decide)
    refine g_al0 r7_layPlan_27 ?_
    refine g_al0 r7_layPlan_28 ?_
    refine g_il1 r7_layPlan_29 ?_
    refine g_eV1 r7_layPlan_30 ok7_actsOf pl7_layPlan pl7_actsOf xx_54 (Nat.le_of_ble_eq_true rfl) (ev7_actsOf hq hm7 hm10 ht7 ht30) ?_
    rw [zao_77]
    refine g_cV1 r7_layPlan_33 ok7_layFew pl7_layPlan pl7_layFew xx_54 (Nat.le_of_ble_eq_true rfl) (ev7_layFew hm7 hm10 hA7) (fun v' R' h' I' ⟨F, hF, q1, q2, q3, q4⟩ => ?_)
    subst q1; subst q2; subst q3; subst q4
    exact g_vret r7_layPlan_36 rfl ⟨rfl, ⟨_, F, zFew_c (fun a s ha hs => (zNx_spec hA ha hs).2) (fun s hs => by rw [zs_eq, eA]; simp only [if_pos hs]; exact zb_g) hF, rfl, rfl, rfl, rfl⟩⟩
  refine g_k r7_layPlan_0 ?_
  refine g_is2 r7_layPlan_1 rfl ?_
  refine g_eqm (zrow_0 _ 77 (fun k => zb (zb (nI k >>> (I 56 q &&& 31) &&& 1 = 1) = I 57 q))) ?_
  exact lp7_layPlan hq hend 257 0 (by omega) (by omega)
theorem lp7_layFoil {w v0 e1 e2 : Nat} {h : Int64} {I : zMI} {P : zPost} {q r : Nat} 
    (hend : ∀ y : Value, zGo m7_layFoil 43 [.ref 54, .int (nI q), .int (nI r), y] [] zX (zRR w v0 e1 e2) h (zs I 77 (fun k => if k < 256 then zb (I 78 k = 1000) else I 77 k)) P) :
    ∀ d i, 256 - i < d → i ≤ 256 → zGo m7_layFoil 7 [.ref 54, .int (nI q), .int (nI r), .int (nI i)] [] zX (zRR w v0 e1 e2) h (zs I 77 (fun k => if k < i then zb (I 78 k = 1000) else I 77 k)) P := by
  intro d
  induction d with
  | zero => intro i hd0; exact absurd hd0 (Nat.not_lt_zero _)
  | succ d ih =>
    intro i hd0 hd1
    refine g_il3 r7_layFoil_7 ?_
    refine g_k r7_layFoil_8 ?_
    refine g_eqv (y := nI 256) rfl ?_
    refine g_icgeN r7_layFoil_11 (by omega) (by omega) (fun h11 => ?_) (fun h11 => ?_)
    · rw [show i = 256 by omega]
      exact hend _
    · refine g_al0 r7_layFoil_14 ?_
      refine g_gfr r7_layFoil_15 xx_54 rfl rr_54_36 ?_
      refine g_il3 r7_layFoil_18 ?_
      refine g_al0 r7_layFoil_19 ?_
      refine g_gfr r7_layFoil_20 xx_54 rfl rr_54_37 ?_
      refine g_il3 r7_layFoil_23 ?_
      refine g_ialdN r7_layFoil_24 xx_78 (by omega) (by decide) ?_
      refine g_k r7_layFoil_25 ?_
      refine g_icne r7_layFoil_28 (fun h28 => ?_) (fun h28 => ?_)
      · refine g_k r7_layFoil_35 ?_
        refine g_eqv (y := zb (I 78 i = 1000)) (zb_f (show ¬ I 78 i = 1000 from h28)).symm ?_
        refine g_zastN r7_layFoil_36 xx_77 (by omega) (by decide) (zb_01 _) ?_
        refine g_eqm (I' := zs I 77 (fun k => if k < i + 1 then zb (I 78 k = 1000) else I 77 k)) (by rw [zs_zs, zs_eq]; exact congrArg (zs I 77) (zrow_s (I 77) (fun k => zb (I 78 k = 1000)) i)) ?_
        refine g_iiN3 r7_layFoil_37 rfl ?_
        refine g_goto r7_layFoil_40 ?_
        exact ih (i + 1) (by omega) (by omega)
      · refine g_k r7_layFoil_31 ?_
        refine g_goto r7_layFoil_32 ?_
        refine g_eqv (y := zb (I 78 i = 1000)) (zb_t (show I 78 i = 1000 from h28)).symm ?_
        refine g_zastN r7_layFoil_36 xx_77 (by omega) (by decide) (zb_01 _) ?_
        refine g_eqm (I' := zs I 77 (fun k => if k < i + 1 then zb (I 78 k = 1000) else I 77 k)) (by rw [zs_zs, zs_eq]; exact congrArg (zs I 77) (zrow_s (I 77) (fun k => zb (I 78 k = 1000)) i)) ?_
        refine g_iiN3 r7_layFoil_37 rfl ?_
        refine g_goto r7_layFoil_40 ?_
        exact ih (i + 1) (by omega) (by omega)
def zUn (I : zMI) (r t m s : Nat) : Prop := ∀ k, ¬ zRk (zEa I (zao I r t m)) (zNx I) (zwq I r) m k s
theorem ev7_layFoil {w v0 e1 e2 : Nat} {h : Int64} {I : zMI} {q r : Nat} (hq : q < 4) (hr : r < 4) {m : Nat} (hm : I 54 5 = nI m) (hm10 : m ≤ 10) {t : Nat} (ht : I 54 13 = nI t) (ht30 : t ≤ 30) (hA : zA8 I m) : zEp m7_layFoil (zRR w v0 e1 e2) h I [.ref 54, .int (nI q), .int (nI r)] (fun v R1 h1 I1 => ∃ A F, zFew (zEa I (zao I q t m)) (zNx I) (zUn I r t m) m F ∧ v = none ∧ R1 = (zRR w v0 e1 e2) ∧ h1 = h ∧ I1 = zsx I A (zao I q t m) F) := by
  refine zEp_of [.ref 54, .int (nI q), .int (nI r), .null] pl7_layFoil (by decide +kernel) (fun _ _ => rfl) (fun _ _ => Nat.le_of_ble_eq_true rfl) ?_
  refine g_al0 r7_layFoil_0 ?_
  refine g_il2 r7_layFoil_1 ?_
  refine g_cV1 r7_layFoil_2 ok7_layPlan pl7_layFoil pl7_layPlan xx_54 (Nat.le_of_ble_eq_true rfl) (ev7_layPlan hr hm hm10 ht ht30 hA) (fun v' R' h' I' ⟨A1, F1, hF1, q1, q2, q3, q4⟩ => ?_)
  subst q1; subst q2; subst q3; subst q4
  refine g_k r7_layFoil_5 ?_
  refine g_is3 r7_layFoil_6 rfl ?_
  refine g_eqm (zrow_0 _ 77 (fun k => zb ((zsx I A1 (zao I r t m) F1) 78 k = 1000))) ?_
  refine lp7_layFoil (fun y => ?_) 257 0 (by omega) (by omega)
  obtain ⟨A, eA⟩ : ∃ A : Nat → Int32, A = (fun k => if k < 256 then zb ((zsx I A1 (zao I r t m) F1) 78 k = 1000) else (zsx I A1 (zao I r t m) F1) 77 k) := ⟨_, rfl⟩
  rw [← eA]
  have hm7 : (zs (zsx I A1 (zao I r t m) F1) 77 A) 54 5 = nI m := hm
  have ht7 : (zs (zsx I A1 (zao I r t m) F1) 77 A) 54 13 = nI t := ht
  have hA7 : zA8 (zs (zsx I A1 (zao I r t m) F1) 77 A) m := hA
  refine g_al0 r7_layFoil_43 ?_
  refine g_al0 r7_layFoil_44 ?_
  refine g_il1 r7_layFoil_45 ?_
  refine g_eV1 r7_layFoil_46 ok7_actsOf pl7_layFoil pl7_actsOf xx_54 (Nat.le_of_ble_eq_true rfl) (ev7_actsOf hq hm7 hm10 ht7 ht30) ?_
  rw [zao_77, zao_x]
  refine g_cV1 r7_layFoil_49 ok7_layFew pl7_layFoil pl7_layFew xx_54 (Nat.le_of_ble_eq_true rfl) (ev7_layFew hm7 hm10 hA7) (fun v' R' h' I' ⟨F, hF, q1, q2, q3, q4⟩ => ?_)
  subst q1; subst q2; subst q3; subst q4
  exact g_vret r7_layFoil_52 rfl ⟨rfl, ⟨A, F, zFew_c (fun a s ha hs => (zNx_spec hA ha hs).2) (fun s hs => by rw [zs_eq, eA]; simp only [if_pos hs]; rw [zb_g]; exact zFew_un hF1 hs) hF, rfl, rfl, rfl, zsx_zsx I A1 A F1 F (zao I r t m) (zao I q t m)⟩⟩
theorem lp7_layTogether {w v0 e1 e2 : Nat} {h : Int64} {I : zMI} {P : zPost} {n : Nat} (hn : I 54 0 = nI n) (hn4 : n ≤ 4)
    (hend : ∀ y : Value, zGo m7_layTogether 42 [.ref 54, y] [] zX (zRR w v0 e1 e2) h (zs I 77 (fun k => if k < 256 then zb (zwi I (nI k) n = 1 <<< (nI n &&& 31) - 1) else I 77 k)) P) :
    ∀ d i, 256 - i < d → i ≤ 256 → zGo m7_layTogether 2 [.ref 54, .int (nI i)] [] zX (zRR w v0 e1 e2) h (zs I 77 (fun k => if k < i then zb (zwi I (nI k) n = 1 <<< (nI n &&& 31) - 1) else I 77 k)) P := by
  intro d
  induction d with
  | zero => intro i hd0; exact absurd hd0 (Nat.not_lt_zero _)
  | succ d ih =>
    intro i hd0 hd1
    have hn7 : (zs I 77 (fun k => if k < i then zb (zwi I (nI k) n = 1 <<< (nI n &&& 31) - 1) else I 77 k)) 54 0 = nI n := hn
    refine g_il1 r7_layTogether_2 ?_
    refine g_k r7_layTogether_3 ?_
    refine g_eqv (y := nI 256) rfl ?_
    refine g_icgeN r7_layTogether_6 (by omega) (by omega) (fun h6 => ?_) (fun h6 => ?_)
    · rw [show i = 256 by omega]
      exact hend _
    · refine g_al0 r7_layTogether_9 ?_
      refine g_gfr r7_layTogether_10 xx_54 rfl rr_54_36 ?_
      refine g_il1 r7_layTogether_13 ?_
      refine g_al0 r7_layTogether_14 ?_
      refine g_il1 r7_layTogether_15 ?_
      refine g_eV1 r7_layTogether_16 ok7_wantsIn pl7_layTogether pl7_wantsIn xx_54 (Nat.le_of_ble_eq_true rfl) (ev7_wantsIn hn7 hn4) ?_
      refine g_k r7_layTogether_19 ?_
      refine g_al0 r7_layTogether_20 ?_
      refine g_gfi r7_layTogether_21 xx_54 rfl ?_
      refine g_eqv (y := nI n) hn7 ?_
      refine g_ishl r7_layTogether_24 ?_
      refine g_k r7_layTogether_25 ?_
      refine g_isub r7_layTogether_26 ?_
      refine g_icne r7_layTogether_27 (fun h27 => ?_) (fun h27 => ?_)
      · refine g_k r7_layTogether_34 ?_
        refine g_eqv (y := zb (zwi I (nI i) n = 1 <<< (nI n &&& 31) - 1)) (zb_f (by rw [zwi_77] at h27; exact h27)).symm ?_
        refine g_zastN r7_layTogether_35 xx_77 (by omega) (by decide) (zb_01 _) ?_
        refine g_eqm (I' := zs I 77 (fun k => if k < i + 1 then zb (zwi I (nI k) n = 1 <<< (nI n &&& 31) - 1) else I 77 k)) (by rw [zs_zs, zs_eq]; exact congrArg (zs I 77) (zrow_s (I 77) (fun k => zb (zwi I (nI k) n = 1 <<< (nI n &&& 31) - 1)) i)) ?_
        refine g_iiN1 r7_layTogether_36 rfl ?_
        refine g_goto r7_layTogether_39 ?_
        exact ih (i + 1) (by omega) (by omega)
      · refine g_k r7_layTogether_30 ?_
        refine g_goto r7_layTogether_31 ?_
        refine g_eqv (y := zb (zwi I (nI i) n = 1 <<< (nI n &&& 31) - 1)) (zb_t (by rw [zwi_77] at h27; exact h27)).symm ?_
        refine g_zastN r7_layTogether_35 xx_77 (by omega) (by decide) (zb_01 _) ?_
        refine g_eqm (I' := zs I 77 (fun k => if k < i + 1 then zb (zwi I (nI k) n = 1 <<< (nI n &&& 31) - 1) else I 77 k)) (by rw [zs_zs, zs_eq]; exact congrArg (zs I 77) (zrow_s (I 77) (fun k => zb (zwi I (nI k) n = 1 <<< (nI n &&& 31) - 1)) i)) ?_
        refine g_iiN1 r7_layTogether_36 rfl ?_
        refine g_goto r7_layTogether_39 ?_
        exact ih (i + 1) (by omega) (by omega)
def zTg (I : zMI) (n s : Nat) : Prop := zwi I (nI s) n = 1 <<< (nI n &&& 31) - 1
theorem ev7_layTogether {w v0 e1 e2 : Nat} {h : Int64} {I : zMI} {n : Nat} (hn : I 54 0 = nI n) (hn4 : n ≤ 4) {m : Nat} (hm : I 54 5 = nI m) (hm10 : m ≤ 10) (hA : zA8 I m) : zEp m7_layTogether (zRR w v0 e1 e2) h I [.ref 54] (fun v R1 h1 I1 => ∃ A F, zFew (zEa I (1 <<< (nI m &&& 31) - 1)) (zNx I) (zTg I n) m F ∧ v = none ∧ R1 = (zRR w v0 e1 e2) ∧ h1 = h ∧ I1 = zsx I A (1 <<< (nI m &&& 31) - 1) F) := by
  refine zEp_of [.ref 54, .null] pl7_layTogether (by decide +kernel) (fun _ _ => rfl) (fun _ _ => Nat.le_of_ble_eq_true rfl) ?_
  refine g_k r7_layTogether_0 ?_
  refine g_is1 r7_layTogether_1 rfl ?_
  refine g_eqm (zrow_0 _ 77 (fun k => zb (zwi I (nI k) n = 1 <<< (nI n &&& 31) - 1))) ?_
  refine lp7_layTogether hn hn4 (fun y => ?_) 257 0 (by omega) (by omega)
  obtain ⟨A, eA⟩ : ∃ A : Nat → Int32, A = (fun k => if k < 256 then zb (zwi I (nI k) n = 1 <<< (nI n &&& 31) - 1) else I 77 k) := ⟨_, rfl⟩
  rw [← eA]
  have hm7 : (zs I 77 A) 54 5 = nI m := hm
  have hA7 : zA8 (zs I 77 A) m := hA
  refine g_al0 r7_layTogether_42 ?_
  refine g_k r7_layTogether_43 ?_
  refine g_al0 r7_layTogether_44 ?_
  refine g_gfi r7_layTogether_45 xx_54 rfl ?_
  refine g_eqv (y := nI m) hm7 ?_
  refine g_ishl r7_layTogether_48 ?_
  refine g_k r7_layTogether_49 ?_
  refine g_isub r7_layTogether_50 ?_
  refine g_cV1 r7_layTogether_51 ok7_layFew pl7_layTogether pl7_layFew xx_54 (Nat.le_of_ble_eq_true rfl) (ev7_layFew hm7 hm10 hA7) (fun v' R' h' I' ⟨F, hF, q1, q2, q3, q4⟩ => ?_)
  subst q1; subst q2; subst q3; subst q4
  exact g_vret r7_layTogether_54 rfl ⟨rfl, ⟨A, F, zFew_c (fun a s ha hs => (zNx_spec hA ha hs).2) (fun s hs => by rw [zs_eq, eA]; simp only [if_pos hs]; exact zb_g) hF, rfl, rfl, rfl, rfl⟩⟩
