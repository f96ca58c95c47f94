def zsum (f : Nat → Nat) : Nat → Nat
  | 0 => 0
  | n + 1 => zsum f n + f n
theorem zsum_le {f g : Nat → Nat} : ∀ {n : Nat}, (∀ k, k < n → f k ≤ g k) → zsum f n ≤ zsum g n
  | 0, _ => Nat.le_refl _
  | n + 1, h => by
    have h1 := zsum_le (n := n) (fun k hk => h k (by omega))
    have h2 := h n (by omega)
    simp only [zsum]; omega
theorem zsum_lt {f g : Nat → Nat} : ∀ {n : Nat}, (∀ k, k < n → f k ≤ g k) → (∃ k, k < n ∧ f k < g k) → zsum f n < zsum g n
  | 0, _, h => by obtain ⟨k, hk, -⟩ := h; omega
  | n + 1, h, hx => by
    obtain ⟨k, hk, hlt⟩ := hx
    have h2 := h n (by omega)
    rcases Nat.lt_succ_iff_lt_or_eq.mp hk with q | rfl
    · have h1 := zsum_lt (n := n) (fun k hk => h k (by omega)) ⟨k, q, hlt⟩
      simp only [zsum]; omega
    · have h1 := zsum_le (n := k) (fun j hj => h j (by omega))
      simp only [zsum]; omega
theorem zEa_row {I : zMI} {S : Int32} {k : Nat} {F : Nat → Int32} (h59 : ¬ 59 = k) (h60 : ¬ 60 = k) : zEa (zs I k F) S = zEa I S := by
  funext a s; simp only [zEa, zs_o _ _ h59, zs_o _ _ h60]
theorem zNx_row {I : zMI} {k : Nat} {F : Nat → Int32} (h61 : ¬ 61 = k) (h62 : ¬ 62 = k) : zNx (zs I k F) = zNx I := by
  funext a s; simp only [zNx, zs_o _ _ h61, zs_o _ _ h62]
theorem zlf_spec {B : zMI} {S : Int32} {m s : Nat} {G : Nat → Prop} {F : Nat → Int32} {f : Nat → Nat} (hA : zA8 B m) (hs : s < 256) (hF : zFi (zEa B S) (zNx B) G m F f) :
    ∀ a, a ≤ m → ∃ r, r ≤ 1000 ∧ zlf (zs B 78 F) S s a = nI r ∧ r ≤ f s ∧ (r < 1000 → zRk (zEa B S) (zNx B) G m r s) ∧ ∀ b, b < a → zEa B S b s → r ≤ f (zNx B b s) + 1
  | 0, _ => by
    obtain ⟨h1, h2, h3, h4⟩ := hF s hs
    exact ⟨f s, h2, by show (zs B 78 F) 78 s = _; rw [zs_eq]; exact h1, Nat.le_refl _, h3, fun b hb => absurd hb (Nat.not_lt_zero b)⟩
  | a + 1, ha => by
    obtain ⟨r, r1, r2, r3, r4, r5⟩ := zlf_spec hA hs hF a (by omega)
    obtain ⟨-, hn⟩ := zNx_spec hA (show a < m by omega) hs
    obtain ⟨g1, g2, g3, g4⟩ := hF _ hn
    have eN : zNx (zs B 78 F) a s = zNx B a s := congrFun (congrFun (zNx_row (by decide) (by decide)) a) s
    have eE : (S >>> (nI a &&& 31) &&& 1 = 1 ∧ ((zs B 78 F) 59 a &&& (nI s ^^^ (-1)) = 0 ∧ (zs B 78 F) 60 a &&& nI s = 0)) = zEa B S a s := congrFun (congrFun (zEa_row (S := S) (I := B) (F := F) (k := 78) (by decide) (by decide)) a) s
    have e78 : (zs B 78 F) 78 (zNx B a s) + 1 = nI (f (zNx B a s) + 1) := by rw [zs_eq, g1]; exact nI_1 _
    by_cases hav : zEa B S a s
    · have hav2 : S >>> (nI a &&& 31) &&& 1 = 1 ∧ ((zs B 78 F) 59 a &&& (nI s ^^^ (-1)) = 0 ∧ (zs B 78 F) 60 a &&& nI s = 0) := by rw [eE]; exact hav
      simp only [zlf, if_pos hav2, eN, e78, r2]
      rcases Nat.lt_or_ge (f (zNx B a s) + 1) r with q | q
      · rw [if_pos (nI_lt q (by omega))]
        refine ⟨_, by omega, rfl, by omega, fun _ => ⟨a, by omega, hav, g3 (by omega)⟩, fun b hb hE => ?_⟩
        rcases Nat.lt_succ_iff_lt_or_eq.mp hb with y | rfl
        · have := r5 b y hE; omega
        · exact Nat.le_refl _
      · rw [if_neg (nI_nlt q (by omega))]
        refine ⟨r, r1, rfl, r3, r4, fun b hb hE => ?_⟩
        rcases Nat.lt_succ_iff_lt_or_eq.mp hb with y | rfl
        · exact r5 b y hE
        · exact q
    · have hav2 : ¬ (S >>> (nI a &&& 31) &&& 1 = 1 ∧ ((zs B 78 F) 59 a &&& (nI s ^^^ (-1)) = 0 ∧ (zs B 78 F) 60 a &&& nI s = 0)) := by rw [eE]; exact hav
      simp only [zlf, if_neg hav2, r2]
      rw [if_neg (show ¬ (1000 : Int32) < nI r from nI_nlt (a := 1000) r1 (by omega))]
      refine ⟨r, r1, rfl, r3, r4, fun b hb hE => ?_⟩
      rcases Nat.lt_succ_iff_lt_or_eq.mp hb with y | rfl
      · exact r5 b y hE
      · exact absurd hE hav
theorem zFi_upd {B : zMI} {S : Int32} {m s r : Nat} {G : Nat → Prop} {F : Nat → Int32} {f : Nat → Nat} (hF : zFi (zEa B S) (zNx B) G m F f) (r1 : r ≤ f s) (r4 : r < 1000 → zRk (zEa B S) (zNx B) G m r s) : zFi (zEa B S) (zNx B) G m (upd F s (nI r)) (fun k => if k = s then r else f k) := by
  intro k hk
  obtain ⟨h1, h2, h3, h4⟩ := hF k hk
  by_cases e : k = s
  · subst e
    simp only [upd_ap, if_true]
    exact ⟨trivial, by omega, r4, fun hG => by have := h4 hG; omega⟩
  · simp only [upd_ap, if_neg e]
    exact ⟨h1, h2, h3, h4⟩
theorem fa_upd_same' {f : Nat → Int32} {i : Nat} {x : Int32} (h : f i = x) : upd f i x = f := by
  funext k; simp only [upd_ap]; split
  · next e => rw [e, h]
  · rfl
theorem zA8_row {B : zMI} {m k : Nat} {F : Nat → Int32} (hA : zA8 B m) (h61 : ¬ 61 = k) (h62 : ¬ 62 = k) : zA8 (zs B k F) m := fun a ha => by rw [zs_o _ _ h61, zs_o _ _ h62]; exact hA a ha
theorem lp7_layFew_in {w v0 e1 e2 : Nat} {h : Int64} {P : zPost} {B : zMI} {S : Int32} {m : Nat} {G : Nat → Prop} (hm : B 54 5 = nI m) (hm10 : m ≤ 10) (hA : zA8 B m) (hS : B 54 38 = S) {f0 : Nat → Nat} {F0 : Nat → Int32}
    (hK0 : (∀ s, s < 256 → ∀ a, a < m → zEa B S a s → f0 s ≤ f0 (zNx B a s) + 1) → ∀ y z, zGo m7_layFew 44 [.ref 54, .int S, .int 0, y, z] [] zX (zRR w v0 e1 e2) h (zs B 78 F0) P)
    (hK1 : ∀ F f y z, zFi (zEa B S) (zNx B) G m F f → (∀ s, s < 256 → f s ≤ f0 s) → (∃ s, s < 256 ∧ f s < f0 s) → zGo m7_layFew 44 [.ref 54, .int S, .int 1, y, z] [] zX (zRR w v0 e1 e2) h (zs B 78 F) P) :
    ∀ d i F f (more : Int32) (z : Value), 256 - i < d → i ≤ 256 → zFi (zEa B S) (zNx B) G m F f → (∀ s, s < 256 → f s ≤ f0 s) → ((more = 0 ∧ F = F0 ∧ f = f0 ∧ ∀ s, s < i → ∀ a, a < m → zEa B S a s → f0 s ≤ f0 (zNx B a s) + 1) ∨ (more = 1 ∧ ∃ s, s < 256 ∧ f s < f0 s)) →
      zGo m7_layFew 52 [.ref 54, .int S, .int more, .int (nI i), z] [] zX (zRR w v0 e1 e2) h (zs B 78 F) P := by
  intro d
  induction d with
  | zero => intro i F f more z hd0; exact absurd hd0 (Nat.not_lt_zero _)
  | succ d ih =>
    intro i F f more z hd0 hd1 hF hle hinv
    have hS38 : (zs B 78 F) 54 38 = S := hS
    have hm78 : (zs B 78 F) 54 5 = nI m := hm
    have hA78 : zA8 (zs B 78 F) m := zA8_row hA (by decide) (by decide)
    rcases hinv with ⟨rfl, rfl, rfl, hcl⟩ | ⟨rfl, hst⟩
    · refine g_il3 r7_layFew_52 ?_
      refine g_k r7_layFew_53 ?_
      refine g_eqv (y := nI 256) rfl ?_
      refine g_icgeN r7_layFew_56 (by omega) (by omega) (fun h56 => ?_) (fun h56 => ?_)
      · refine g_goto r7_layFew_101 ?_
        exact hK0 (fun s hs a ha => hcl s (by omega) a ha) _ _
      · refine g_al0 r7_layFew_59 ?_
        refine g_il3 r7_layFew_60 ?_
        refine g_eV1 r7_layFew_61 ok7_lessFrom pl7_layFew pl7_lessFrom xx_54 (Nat.le_of_ble_eq_true rfl) (ev7_lessFrom (by omega) hS38 hm78 hm10 hA78) ?_
        obtain ⟨r, r1, r2, r3, r4, r5⟩ := zlf_spec (s := i) hA h56 hF m (Nat.le_refl m)
        refine g_eqv (y := nI r) r2 ?_
        refine g_is4 r7_layFew_64 rfl ?_
        refine g_il2 r7_layFew_66 ?_
        refine g_ifne r7_layFew_67 (fun hc => absurd rfl hc) (fun _ => ?_)
        refine g_il4 r7_layFew_70 ?_
        refine g_al0 r7_layFew_72 ?_
        refine g_gfr r7_layFew_73 xx_54 rfl rr_54_37 ?_
        refine g_il3 r7_layFew_76 ?_
        refine g_ialdN r7_layFew_77 xx_78 (by omega) (by decide) ?_
        refine g_eqv (y := nI (f i)) (by rw [zs_eq]; exact (hF i h56).1) ?_
        refine g_icgeN r7_layFew_78 (by omega) (by have := (hF i h56).2.1; omega) (fun h78 => ?_) (fun h78 => ?_)
        · refine g_k r7_layFew_85 ?_
          refine g_is2 r7_layFew_86 rfl ?_
          refine g_al0 r7_layFew_87 ?_
          refine g_gfr r7_layFew_88 xx_54 rfl rr_54_37 ?_
          refine g_il3 r7_layFew_91 ?_
          refine g_il4 r7_layFew_92 ?_
          refine g_iastN r7_layFew_94 xx_78 (by omega) (by decide) ?_
          have er : r = f i := by omega
          refine g_eqm (I' := zs B 78 F) (by rw [zs_zs, zs_eq, er, ← (hF i h56).1, fa_upd_same' rfl]) ?_
          refine g_iiN3 r7_layFew_95 rfl ?_
          refine g_goto r7_layFew_98 ?_
          exact ih (i + 1) F f 0 _ (by omega) (by omega) hF (fun s _ => Nat.le_refl _) (Or.inl ⟨rfl, rfl, rfl, fun s hs a ha hE => by
            rcases Nat.lt_succ_iff_lt_or_eq.mp hs with q | rfl
            · exact hcl s q a ha hE
            · have := r5 a ha hE; omega⟩)
        · refine g_k r7_layFew_81 ?_
          refine g_goto r7_layFew_82 ?_
          refine g_is2 r7_layFew_86 rfl ?_
          refine g_al0 r7_layFew_87 ?_
          refine g_gfr r7_layFew_88 xx_54 rfl rr_54_37 ?_
          refine g_il3 r7_layFew_91 ?_
          refine g_il4 r7_layFew_92 ?_
          refine g_iastN r7_layFew_94 xx_78 (by omega) (by decide) ?_
          refine g_eqm (I' := zs B 78 (upd F i (nI r))) (by rw [zs_zs, zs_eq]) ?_
          refine g_iiN3 r7_layFew_95 rfl ?_
          refine g_goto r7_layFew_98 ?_
          exact ih (i + 1) _ _ 1 _ (by omega) (by omega) (zFi_upd hF (by omega) r4) (fun s hs => by by_cases e : s = i; subst e; simp only [if_true]; omega; simp only [if_neg e]; omega) (Or.inr ⟨rfl, i, h56, by simp only [if_true]; omega⟩)
    · refine g_il3 r7_layFew_52 ?_
      refine g_k r7_layFew_53 ?_
      refine g_eqv (y := nI 256) rfl ?_
      refine g_icgeN r7_layFew_56 (by omega) (by omega) (fun h56 => ?_) (fun h56 => ?_)
      · refine g_goto r7_layFew_101 ?_
        exact hK1 F f _ _ hF hle hst
      · refine g_al0 r7_layFew_59 ?_
        refine g_il3 r7_layFew_60 ?_
        refine g_eV1 r7_layFew_61 ok7_lessFrom pl7_layFew pl7_lessFrom xx_54 (Nat.le_of_ble_eq_true rfl) (ev7_lessFrom (by omega) hS38 hm78 hm10 hA78) ?_
        obtain ⟨r, r1, r2, r3, r4, r5⟩ := zlf_spec (s := i) hA h56 hF m (Nat.le_refl m)
        refine g_eqv (y := nI r) r2 ?_
        refine g_is4 r7_layFew_64 rfl ?_
        refine g_il2 r7_layFew_66 ?_
        refine g_ifne r7_layFew_67 (fun _ => ?_) (fun hc => absurd hc (by decide))
        refine g_k r7_layFew_81 ?_
        refine g_goto r7_layFew_82 ?_
        refine g_is2 r7_layFew_86 rfl ?_
        refine g_al0 r7_layFew_87 ?_
        refine g_gfr r7_layFew_88 xx_54 rfl rr_54_37 ?_
        refine g_il3 r7_layFew_91 ?_
        refine g_il4 r7_layFew_92 ?_
        refine g_iastN r7_layFew_94 xx_78 (by omega) (by decide) ?_
        refine g_eqm (I' := zs B 78 (upd F i (nI r))) (by rw [zs_zs, zs_eq]) ?_
        refine g_iiN3 r7_layFew_95 rfl ?_
        refine g_goto r7_layFew_98 ?_
        obtain ⟨s0, hs0, hlt⟩ := hst
        exact ih (i + 1) _ _ 1 _ (by omega) (by omega) (zFi_upd hF r3 r4) (fun s hs => by have := hle s hs; by_cases e : s = i; subst e; simp only [if_true]; omega; simp only [if_neg e]; omega) (Or.inr ⟨rfl, s0, hs0, by by_cases e : s0 = i; subst e; simp only [if_true]; omega; simp only [if_neg e]; omega⟩)
theorem lp7_layFew_out {w v0 e1 e2 : Nat} {h : Int64} {P : zPost} {B : zMI} {S : Int32} {m : Nat} {G : Nat → Prop} (hm : B 54 5 = nI m) (hm10 : m ≤ 10) (hA : zA8 B m) (hS : B 54 38 = S)
    (hend : ∀ F f, zFi (zEa B S) (zNx B) G m F f → (∀ s, s < 256 → ∀ a, a < m → zEa B S a s → f s ≤ f (zNx B a s) + 1) → ∀ y z, zGo m7_layFew 44 [.ref 54, .int S, .int 0, y, z] [] zX (zRR w v0 e1 e2) h (zs B 78 F) P) :
    ∀ d F f (y z : Value), zsum f 256 < d → zFi (zEa B S) (zNx B) G m F f → zGo m7_layFew 44 [.ref 54, .int S, .int 1, y, z] [] zX (zRR w v0 e1 e2) h (zs B 78 F) P := by
  intro d
  induction d with
  | zero => intro F f y z hd0; exact absurd hd0 (Nat.not_lt_zero _)
  | succ d ih =>
    intro F f y z hd0 hF
    refine g_il2 r7_layFew_44 ?_
    refine g_ifeq r7_layFew_45 (fun hc => absurd hc (by decide)) (fun _ => ?_)
    refine g_k r7_layFew_48 ?_
    refine g_is2 r7_layFew_49 rfl ?_
    refine g_k r7_layFew_50 ?_
    refine g_is3 r7_layFew_51 rfl ?_
    exact lp7_layFew_in hm hm10 hA hS (f0 := f) (F0 := F) (fun hc y z => hend F f hF hc y z) (fun F1 f1 y z hF1 hle hlt => ih F1 f1 y z (by have := zsum_lt hle hlt; omega) hF1) 257 0 F f 0 _ (by omega) (by omega) hF (fun s _ => Nat.le_refl _) (Or.inl ⟨rfl, rfl, rfl, fun s hs => absurd hs (Nat.not_lt_zero s)⟩)
def zini (I : zMI) (F : Nat → Int32) (i : Nat) : Nat → Int32 := fun k => if k < i then (if I 77 k = 0 then 1000 else 0) else F k
theorem zini_s (I : zMI) (F : Nat → Int32) (i : Nat) (x : Int32) (hx : x = if I 77 i = 0 then 1000 else 0) : upd (zini I F i) i x = zini I F (i + 1) := by
  funext k
  simp only [upd_ap, zini]
  by_cases e : k = i
  · subst e; simp [hx]
  · by_cases q : k < i
    · simp [e, q, show k < i + 1 by omega]
    · simp [e, q, show ¬ k < i + 1 by omega]
theorem lp7_layFew_1 {w v0 e1 e2 : Nat} {h : Int64} {P : zPost} {B : zMI} {S : Int32} {y z : Value}
    (hend : ∀ x y z : Value, zGo m7_layFew 42 [.ref 54, .int S, x, y, z] [] zX (zRR w v0 e1 e2) h (zs B 78 (zini B (B 78) 256)) P) :
    ∀ d i, 256 - i < d → i ≤ 256 → zGo m7_layFew 7 [.ref 54, .int S, .int (nI i), y, z] [] zX (zRR w v0 e1 e2) h (zs B 78 (zini B (B 78) i)) P := by
  intro d
  induction d with
  | zero => intro i hd0; exact absurd hd0 (Nat.not_lt_zero _)
  | succ d ih =>
    intro i hd0 hd1
    refine g_il2 r7_layFew_7 ?_
    refine g_k r7_layFew_8 ?_
    refine g_eqv (y := nI 256) rfl ?_
    refine g_icgeN r7_layFew_11 (by omega) (by omega) (fun h11 => ?_) (fun h11 => ?_)
    · rw [show i = 256 by omega]
      exact hend _ _ _
    · refine g_al0 r7_layFew_14 ?_
      refine g_gfr r7_layFew_15 xx_54 rfl rr_54_37 ?_
      refine g_il2 r7_layFew_18 ?_
      refine g_al0 r7_layFew_19 ?_
      refine g_gfr r7_layFew_20 xx_54 rfl rr_54_36 ?_
      refine g_il2 r7_layFew_23 ?_
      refine g_zaldN r7_layFew_24 xx_77 (by omega) (by decide) ?_
      refine g_ifeq r7_layFew_25 (fun h25 => ?_) (fun h25 => ?_)
      · refine g_k r7_layFew_32 ?_
        refine g_iastN r7_layFew_35 xx_78 (by omega) (by decide) ?_
        refine g_eqm (I' := zs B 78 (zini B (B 78) (i + 1))) (by rw [zs_zs, zs_eq, zini_s]; exact (if_pos (show B 77 i = 0 from h25)).symm) ?_
        refine g_iiN2 r7_layFew_36 rfl ?_
        refine g_goto r7_layFew_39 ?_
        exact ih (i + 1) (by omega) (by omega)
      · refine g_k r7_layFew_28 ?_
        refine g_goto r7_layFew_29 ?_
        refine g_iastN r7_layFew_35 xx_78 (by omega) (by decide) ?_
        refine g_eqm (I' := zs B 78 (zini B (B 78) (i + 1))) (by rw [zs_zs, zs_eq, zini_s]; exact (if_neg (show ¬ B 77 i = 0 from h25)).symm) ?_
        refine g_iiN2 r7_layFew_36 rfl ?_
        refine g_goto r7_layFew_39 ?_
        exact ih (i + 1) (by omega) (by omega)
theorem zs_self (I : zMI) (k : Nat) : zs I k (I k) = I := by funext a; by_cases e : a = k; rw [e, zs_eq]; rw [zs_ne _ _ e]
theorem ev7_layFew {w v0 e1 e2 : Nat} {h : Int64} {I : zMI} {S : Int32} {m : Nat} (hm : I 54 5 = nI m) (hm10 : m ≤ 10) (hA : zA8 I m) : zEp m7_layFew (zRR w v0 e1 e2) h I [.ref 54, .int S] (fun v R1 h1 I1 => ∃ F, zFew (zEa I S) (zNx I) (fun s => ¬ I 77 s = 0) m F ∧ v = none ∧ R1 = zRR w v0 e1 e2 ∧ h1 = h ∧ I1 = zs (zs I 54 (upd (I 54) 38 S)) 78 F) := by
  refine zEp_of [.ref 54, .int S, .null, .null, .null] pl7_layFew (by decide +kernel) (fun _ _ => rfl) (fun _ _ => Nat.le_of_ble_eq_true rfl) ?_
  obtain ⟨B, eB⟩ : ∃ B, B = zs I 54 (upd (I 54) 38 S) := ⟨_, rfl⟩
  have eE : zEa I S = zEa B S := by rw [eB]; exact (zEa_row (by decide) (by decide)).symm
  have eN : zNx I = zNx B := by rw [eB]; exact (zNx_row (by decide) (by decide)).symm
  have e77 : (fun s => ¬ I 77 s = 0) = (fun s => ¬ B 77 s = 0) := by rw [eB]; rfl
  have hA : zA8 B m := by rw [eB]; exact zA8_row hA (by decide) (by decide)
  have hm : B 54 5 = nI m := by rw [eB]; exact hm
  have hS : B 54 38 = S := by rw [eB]; simp [zs_ap, upd_ap]
  rw [eE, eN, e77, ← eB]
  have hend : ∀ F f, zFi (zEa B S) (zNx B) (fun s => ¬ B 77 s = 0) m F f → (∀ s, s < 256 → ∀ a, a < m → zEa B S a s → f s ≤ f (zNx B a s) + 1) → ∀ y z, zGo m7_layFew 44 [.ref 54, .int S, .int 0, y, z] [] zX (zRR w v0 e1 e2) h (zs B 78 F) (fun v X1 R1 h1 I1 => X1 = zX ∧ ∃ F, zFew (zEa B S) (zNx B) (fun s => ¬ B 77 s = 0) m F ∧ v = none ∧ R1 = zRR w v0 e1 e2 ∧ h1 = h ∧ I1 = zs B 78 F) := by
    intro F f hF hc y z
    refine g_il2 r7_layFew_44 ?_
    refine g_ifeq r7_layFew_45 (fun _ => ?_) (fun hc => absurd rfl hc)
    exact g_vret r7_layFew_104 rfl ⟨rfl, ⟨F, zFew_of (fun a s ha hs => (zNx_spec hA ha hs).2) hF hc, rfl, rfl, rfl, rfl⟩⟩
  have hini : zFi (zEa B S) (zNx B) (fun s => ¬ B 77 s = 0) m (zini B (B 78) 256) (fun s => if B 77 s = 0 then 1000 else 0) := by
    intro s hs
    simp only [zini, if_pos hs]
    by_cases q : B 77 s = 0
    · simp only [if_pos q]; exact ⟨rfl, by omega, by omega, fun z => absurd q z⟩
    · simp only [if_neg q]; exact ⟨rfl, by omega, fun _ => q, fun _ => trivial⟩
  have hmid : ∀ x y z : Value, zGo m7_layFew 42 [.ref 54, .int S, x, y, z] [] zX (zRR w v0 e1 e2) h (zs B 78 (zini B (B 78) 256)) (fun v X1 R1 h1 I1 => X1 = zX ∧ ∃ F, zFew (zEa B S) (zNx B) (fun s => ¬ B 77 s = 0) m F ∧ v = none ∧ R1 = zRR w v0 e1 e2 ∧ h1 = h ∧ I1 = zs B 78 F) := by
    intro x y z
    refine g_k r7_layFew_42 ?_
    refine g_is2 r7_layFew_43 rfl ?_
    exact lp7_layFew_out hm hm10 hA hS hend (zsum (fun s => if B 77 s = 0 then 1000 else 0) 256 + 1) _ (fun s => if B 77 s = 0 then 1000 else 0) _ _ (by omega) hini
  refine g_al0 r7_layFew_0 ?_
  refine g_il1 r7_layFew_1 ?_
  refine g_pfi r7_layFew_2 xx_54 rfl rfl ?_
  rw [← eB]
  refine g_k r7_layFew_5 ?_
  refine g_is2 r7_layFew_6 rfl ?_
  refine g_eqm (I' := zs B 78 (zini B (B 78) 0)) (by rw [show zini B (B 78) 0 = B 78 from funext fun k => by simp [zini]]; exact (zs_self B 78).symm) ?_
  exact lp7_layFew_1 hmid 257 0 (by omega) (by omega)
