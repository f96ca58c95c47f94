/-- the same but for what the model's methods lay down on the way -/
def zOx (J J' : zMI) : Prop := (∀ k, ¬ k = 54 → (k < 69 ∨ 83 < k) → J' k = J k) ∧ (∀ j, ¬ (j = 24 ∨ j = 25 ∨ j = 29 ∨ j = 30 ∨ j = 38) → J' 54 j = J 54 j)
/-- the model's cells that count are the same -/
def zOm (J J' : zMI) : Prop := (∀ k, ¬ k = 54 → (54 < k ∧ k < 69) → J' k = J k) ∧ (∀ j, ¬ (j = 24 ∨ j = 25 ∨ j = 29 ∨ j = 30 ∨ j = 38) → J' 54 j = J 54 j)
theorem zOm.o {J J' : zMI} (h : zOm J J') : ∀ k, ¬ k = 54 → (54 < k ∧ k < 69) → J' k = J k := h.1
theorem zOm.f {J J' : zMI} (h : zOm J J') : ∀ j, ¬ (j = 24 ∨ j = 25 ∨ j = 29 ∨ j = 30 ∨ j = 38) → J' 54 j = J 54 j := h.2
theorem zOx.m {J J' : zMI} (h : zOx J J') : zOm J J' := ⟨fun k h1 h2 => h.1 k h1 (Or.inl h2.2), h.2⟩
theorem zOm_of {J J' : zMI} (h : ∀ k, 54 ≤ k → J' k = J k) : zOm J J' := ⟨fun k _ h2 => h k (by omega), fun j _ => by rw [h 54 (by omega)]⟩
theorem zOx.o {J J' : zMI} (h : zOx J J') : ∀ k, ¬ k = 54 → (k < 69 ∨ 83 < k) → J' k = J k := h.1
theorem zOx.f {J J' : zMI} (h : zOx J J') : ∀ j, ¬ (j = 24 ∨ j = 25 ∨ j = 29 ∨ j = 30 ∨ j = 38) → J' 54 j = J 54 j := h.2
theorem zOx.refl (J : zMI) : zOx J J := ⟨fun _ _ _ => rfl, fun _ _ => rfl⟩
theorem zOx.trans {J J' J'' : zMI} (h : zOx J J') (h' : zOx J' J'') : zOx J J'' := ⟨fun k h1 h2 => (h'.o k h1 h2).trans (h.o k h1 h2), fun j h1 => (h'.f j h1).trans (h.f j h1)⟩
theorem zOx.symm {J J' : zMI} (h : zOx J J') : zOx J' J := ⟨fun k h1 h2 => (h.o k h1 h2).symm, fun j h1 => (h.f j h1).symm⟩
theorem zOx_zsx (I : zMI) (A F : Nat → Int32) (S : Int32) : zOx I (zsx I A S F) := ⟨fun k h1 h2 => zsx_o I (by omega) h1 (by omega), fun j h1 => zsx_54 I (by omega)⟩
theorem zOx_row (I : zMI) (k : Nat) (F : Nat → Int32) (hk : 69 ≤ k) (hk' : k ≤ 83) : zOx I (zs I k F) := ⟨fun j h1 h2 => zs_o I F (by omega), fun j h1 => by rw [zs_o I F (by omega)]⟩
def jn (J : zMI) : Nat := (J 54 0).toNatClampNeg
def jm (J : zMI) : Nat := (J 54 5).toNatClampNeg
def jt (J : zMI) : Nat := (J 54 13).toNatClampNeg
def js (J : zMI) : Nat := (J 54 11).toNatClampNeg
def ju (J : zMI) : Nat := (J 54 12).toNatClampNeg
def jL (J : zMI) : Nat := (J 54 19).toNatClampNeg
/-- the model's cells are those of a world and a story -/
def zWF (J : zMI) : Prop := (J 54 0 = nI (jn J)) ∧ (jn J ≤ 4) ∧ (J 54 5 = nI (jm J)) ∧ (jm J ≤ 10) ∧ (J 54 13 = nI (jt J)) ∧ (jt J ≤ 30) ∧ (J 54 11 = nI (js J)) ∧ (js J < 256) ∧ (J 54 12 = nI (ju J)) ∧ (ju J < 2 ^ 31) ∧ (J 54 19 = nI (jL J)) ∧ (jL J ≤ 90) ∧ (z8 (J 54 4)) ∧ (∀ a, a < jm J → (z8 (J 59 a) ∧ z8 (J 60 a) ∧ z8 (J 61 a) ∧ z8 (J 62 a)) ∧ J 61 a &&& J 62 a = 0 ∧ ∃ q, q < jn J ∧ J 58 a = nI q) ∧ (∀ k, k < jn J → (∃ f, f < 8 ∧ J 56 k = nI f) ∧ (J 57 k = 0 ∨ J 57 k = 1)) ∧ (∀ k, k < jt J → z8 (J 66 k) ∧ ((J 63 k = -1 ∧ ∃ f, f < 8 ∧ ((J 64 k = nI (2 ^ f) ∧ J 65 k = 0) ∨ (J 64 k = 0 ∧ J 65 k = nI (2 ^ f)))) ∨ ∃ a, a < jm J ∧ J 63 k = nI a ∧ J 64 k = J 61 a ∧ J 65 k = J 62 a)) ∧ (∀ k, k < jL J → ¬ J 68 k < 32 ∧ ¬ 126 < J 68 k) ∧ (jm J = 0 ↔ jn J = 0) ∧ (jm J = 0 → jt J = 0)
theorem zWF.n {J : zMI} (w : zWF J) : J 54 0 = nI (jn J) := w.1
theorem zWF.n4 {J : zMI} (w : zWF J) : jn J ≤ 4 := w.2.1
theorem zWF.m {J : zMI} (w : zWF J) : J 54 5 = nI (jm J) := w.2.2.1
theorem zWF.m10 {J : zMI} (w : zWF J) : jm J ≤ 10 := w.2.2.2.1
theorem zWF.t {J : zMI} (w : zWF J) : J 54 13 = nI (jt J) := w.2.2.2.2.1
theorem zWF.t30 {J : zMI} (w : zWF J) : jt J ≤ 30 := w.2.2.2.2.2.1
theorem zWF.s {J : zMI} (w : zWF J) : J 54 11 = nI (js J) := w.2.2.2.2.2.2.1
theorem zWF.s8 {J : zMI} (w : zWF J) : js J < 256 := w.2.2.2.2.2.2.2.1
theorem zWF.u {J : zMI} (w : zWF J) : J 54 12 = nI (ju J) := w.2.2.2.2.2.2.2.2.1
theorem zWF.u31 {J : zMI} (w : zWF J) : ju J < 2 ^ 31 := w.2.2.2.2.2.2.2.2.2.1
theorem zWF.L {J : zMI} (w : zWF J) : J 54 19 = nI (jL J) := w.2.2.2.2.2.2.2.2.2.2.1
theorem zWF.L90 {J : zMI} (w : zWF J) : jL J ≤ 90 := w.2.2.2.2.2.2.2.2.2.2.2.1
theorem zWF.f8 {J : zMI} (w : zWF J) : z8 (J 54 4) := w.2.2.2.2.2.2.2.2.2.2.2.2.1
theorem zWF.A {J : zMI} (w : zWF J) : ∀ a, a < jm J → (z8 (J 59 a) ∧ z8 (J 60 a) ∧ z8 (J 61 a) ∧ z8 (J 62 a)) ∧ J 61 a &&& J 62 a = 0 ∧ ∃ q, q < jn J ∧ J 58 a = nI q := w.2.2.2.2.2.2.2.2.2.2.2.2.2.1
theorem zWF.P {J : zMI} (w : zWF J) : ∀ k, k < jn J → (∃ f, f < 8 ∧ J 56 k = nI f) ∧ (J 57 k = 0 ∨ J 57 k = 1) := w.2.2.2.2.2.2.2.2.2.2.2.2.2.2.1
theorem zWF.S {J : zMI} (w : zWF J) : ∀ k, k < jt J → z8 (J 66 k) ∧ ((J 63 k = -1 ∧ ∃ f, f < 8 ∧ ((J 64 k = nI (2 ^ f) ∧ J 65 k = 0) ∨ (J 64 k = 0 ∧ J 65 k = nI (2 ^ f)))) ∨ ∃ a, a < jm J ∧ J 63 k = nI a ∧ J 64 k = J 61 a ∧ J 65 k = J 62 a) := w.2.2.2.2.2.2.2.2.2.2.2.2.2.2.2.1
theorem zWF.G {J : zMI} (w : zWF J) : ∀ k, k < jL J → ¬ J 68 k < 32 ∧ ¬ 126 < J 68 k := w.2.2.2.2.2.2.2.2.2.2.2.2.2.2.2.2.1
theorem zWF.mn {J : zMI} (w : zWF J) : jm J = 0 ↔ jn J = 0 := w.2.2.2.2.2.2.2.2.2.2.2.2.2.2.2.2.2.1
theorem zWF.mt {J : zMI} (w : zWF J) : jm J = 0 → jt J = 0 := w.2.2.2.2.2.2.2.2.2.2.2.2.2.2.2.2.2.2
theorem zWF.A8 {J : zMI} (h : zWF J) : zA8 J (jm J) := fun a ha => ⟨(h.A a ha).1.2.2.1, (h.A a ha).1.2.2.2⟩
theorem zWF.sa {J : zMI} (h : zWF J) : ∀ k, k < jt J → J 63 k = -1 ∨ ∃ a, a < jm J ∧ J 63 k = nI a := fun k hk => (h.S k hk).2.imp (fun q => q.1) (fun ⟨a, h1, h2, _⟩ => ⟨a, h1, h2⟩)
theorem zWF.N {J : zMI} (h : zWF J) : ∀ a s, a < jm J → s < 256 → zNx J a s < 256 := fun a s ha hs => (zNx_spec h.A8 ha hs).2
section OX
variable {J J' : zMI}
theorem jn_ox (h : zOm J J') : jn J' = jn J := by unfold jn; rw [h.f 0 (by decide)]
theorem jm_ox (h : zOm J J') : jm J' = jm J := by unfold jm; rw [h.f 5 (by decide)]
theorem jt_ox (h : zOm J J') : jt J' = jt J := by unfold jt; rw [h.f 13 (by decide)]
theorem js_ox (h : zOm J J') : js J' = js J := by unfold js; rw [h.f 11 (by decide)]
theorem ju_ox (h : zOm J J') : ju J' = ju J := by unfold ju; rw [h.f 12 (by decide)]
theorem jL_ox (h : zOm J J') : jL J' = jL J := by unfold jL; rw [h.f 19 (by decide)]
theorem zWF.ox (w : zWF J) (h : zOm J J') : zWF J' := by
  simp only [zWF, jn_ox h, jm_ox h, jt_ox h, js_ox h, ju_ox h, jL_ox h, h.f 0 (by decide), h.f 5 (by decide), h.f 13 (by decide), h.f 11 (by decide), h.f 12 (by decide), h.f 19 (by decide), h.f 4 (by decide), h.o 56 (by decide) (by decide), h.o 57 (by decide) (by decide), h.o 58 (by decide) (by decide), h.o 59 (by decide) (by decide), h.o 60 (by decide) (by decide), h.o 61 (by decide) (by decide), h.o 62 (by decide) (by decide), h.o 63 (by decide) (by decide), h.o 64 (by decide) (by decide), h.o 65 (by decide) (by decide), h.o 66 (by decide) (by decide), h.o 68 (by decide) (by decide)]
  exact w
theorem zwi_ox (h : zOm J J') (x : Int32) : ∀ n, zwi J' x n = zwi J x n
  | 0 => rfl
  | n + 1 => by simp only [zwi, zwa, zwi_ox h x n, h.o 56 (by decide) (by decide), h.o 57 (by decide) (by decide)]
theorem ztd_ox (h : zOm J J') (x : Int32) : ∀ n, ztd J' x n = ztd J x n
  | 0 => rfl
  | n + 1 => by simp only [ztd, ztd_ox h x n, h.o 63 (by decide) (by decide)]
theorem zao_ox (h : zOm J J') (q t : Nat) : ∀ n, zao J' q t n = zao J q t n
  | 0 => rfl
  | n + 1 => by simp only [zao, zao_ox h q t n, ztd_ox h, h.o 58 (by decide) (by decide), h.o 55 (by decide) (by decide)]
theorem zsb_ox (h : zOm J J') (x : Int32) : ∀ n, zsb J' x n = zsb J x n
  | 0 => rfl
  | n + 1 => by simp only [zsb, zsb_ox h x n, h.o 63 (by decide) (by decide), h.o 58 (by decide) (by decide)]
theorem zEa_ox (h : zOm J J') (S : Int32) : zEa J' S = zEa J S := by funext a s; simp only [zEa, h.o 59 (by decide) (by decide), h.o 60 (by decide) (by decide)]
theorem zNx_ox (h : zOm J J') : zNx J' = zNx J := by funext a s; simp only [zNx, h.o 61 (by decide) (by decide), h.o 62 (by decide) (by decide)]
theorem zwq_ox (h : zOm J J') (q : Nat) : zwq J' q = zwq J q := by funext s; simp only [zwq, h.o 56 (by decide) (by decide), h.o 57 (by decide) (by decide)]
theorem zUn_ox (h : zOm J J') (r t m : Nat) : zUn J' r t m = zUn J r t m := by funext s; simp only [zUn, zEa_ox h, zNx_ox h, zwq_ox h, zao_ox h]
theorem zTg_ox (h : zOm J J') (n : Nat) : zTg J' n = zTg J n := by funext s; simp only [zTg, zwi_ox h]
end OX
/-- what the plans, foils and ways to all goals are -/
noncomputable def zPd (J : zMI) (q : Nat) (pl : Int32) : Int32 := zld (zEa J (zao J q (jt J) (jm J))) (zNx J) (zwq J q) (jm J) (js J) pl
noncomputable def zPm (J : zMI) (q : Nat) : Int32 := zlm (zEa J (zao J q (jt J) (jm J))) (zNx J) (zwq J q) (jm J) (js J)
noncomputable def zFd (J : zMI) (q r : Nat) (pl : Int32) : Int32 := zld (zEa J (zao J q (jt J) (jm J))) (zNx J) (zUn J r (jt J) (jm J)) (jm J) (js J) pl
noncomputable def zTd (J : zMI) (pl : Int32) : Int32 := zld (zEa J (1 <<< (nI (jm J) &&& 31) - 1)) (zNx J) (zTg J (jn J)) (jm J) (js J) pl
noncomputable def zTm (J : zMI) : Int32 := zlm (zEa J (1 <<< (nI (jm J) &&& 31) - 1)) (zNx J) (zTg J (jn J)) (jm J) (js J)
noncomputable def zff (J : zMI) (q : Nat) : Int32 := if zPm J ((q + 1) % jn J) < 1 then -1 else zFd J q ((q + 1) % jn J) 0
noncomputable def zfo' (J : zMI) (q : Nat) : Int32 := if J 55 q = 1 ∧ 1 < jn J then zff J q else -1
noncomputable def zwd (J : zMI) (q rd : Nat) : Int32 := if zb (J 54 11 >>> (J 56 q &&& 31) &&& 1 = 1) = J 57 q ∨ (J 55 q = 3 ∧ rd % 2 = 1) then -1 else if zfo' J q = -1 then zPd J q 0 else zfo' J q
section OX2
variable {J J' : zMI}
theorem zPd_ox (h : zOm J J') (q : Nat) (pl : Int32) : zPd J' q pl = zPd J q pl := by simp only [zPd, zEa_ox h, zNx_ox h, zwq_ox h, zao_ox h, jt_ox h, jm_ox h, js_ox h]
theorem zPm_ox (h : zOm J J') (q : Nat) : zPm J' q = zPm J q := by simp only [zPm, zEa_ox h, zNx_ox h, zwq_ox h, zao_ox h, jt_ox h, jm_ox h, js_ox h]
theorem zFd_ox (h : zOm J J') (q r : Nat) (pl : Int32) : zFd J' q r pl = zFd J q r pl := by simp only [zFd, zEa_ox h, zNx_ox h, zUn_ox h, zao_ox h, jt_ox h, jm_ox h, js_ox h]
theorem zTd_ox (h : zOm J J') (pl : Int32) : zTd J' pl = zTd J pl := by simp only [zTd, zEa_ox h, zNx_ox h, zTg_ox h, jn_ox h, jm_ox h, js_ox h]
theorem zTm_ox (h : zOm J J') : zTm J' = zTm J := by simp only [zTm, zEa_ox h, zNx_ox h, zTg_ox h, jn_ox h, jm_ox h, js_ox h]
theorem zff_ox (h : zOm J J') (q : Nat) : zff J' q = zff J q := by simp only [zff, zPm_ox h, zFd_ox h, jn_ox h]
theorem zfo'_ox (h : zOm J J') (q : Nat) : zfo' J' q = zfo' J q := by simp only [zfo', zff_ox h, jn_ox h, h.o 55 (by decide) (by decide)]
theorem zwd_ox (h : zOm J J') (q rd : Nat) : zwd J' q rd = zwd J q rd := by simp only [zwd, zfo'_ox h, zPd_ox h, h.f 11 (by decide), h.o 55 (by decide) (by decide), h.o 56 (by decide) (by decide), h.o 57 (by decide) (by decide)]
end OX2
def zLaid (J J' : zMI) (S : Int32) (G : Nat → Prop) : Prop := zOx J J' ∧ J' 54 38 = S ∧ zFew (zEa J S) (zNx J) G (jm J) (J' 78)
theorem zsx_38 (I : zMI) (A F : Nat → Int32) (S : Int32) : zsx I A S F 54 38 = S := by simp [zsx, zs_ap, upd_ap]
theorem zsx_78 (I : zMI) (A F : Nat → Int32) (S : Int32) : zsx I A S F 78 = F := by simp [zsx, zs_ap]
section LAID
variable {w v0 e1 e2 : Nat} {h : Int64} {J I : zMI}
theorem el7_layPlan (hO : zOx J I) (W : zWF J) {q : Nat} (hq : q < jn J) : zEp m7_layPlan (zRR w v0 e1 e2) h I [.ref 54, .int (nI q)] (fun v R1 h1 I1 => v = none ∧ R1 = zRR w v0 e1 e2 ∧ h1 = h ∧ zLaid J I1 (zao J q (jt J) (jm J)) (zwq J q)) :=
  zEp_post (ev7_layPlan (q := q) (by have := W.n4; omega) (W.ox hO.m).m (W.ox hO.m).m10 (W.ox hO.m).t (W.ox hO.m).t30 (W.ox hO.m).A8) (fun v R1 h1 I1 ⟨A, F, hF, q1, q2, q3, q4⟩ => ⟨q1, q2, q3, by
    simp only [zao_ox hO.m, zEa_ox hO.m, zNx_ox hO.m, zwq_ox hO.m, jm_ox hO.m, jt_ox hO.m] at hF q4
    rw [q4]
    exact ⟨hO.trans (zOx_zsx I A F _), zsx_38 I A F _, by rw [zsx_78]; exact hF⟩⟩)
theorem el7_layFoil (hO : zOx J I) (W : zWF J) {q r : Nat} (hq : q < jn J) (hr : r < jn J) : zEp m7_layFoil (zRR w v0 e1 e2) h I [.ref 54, .int (nI q), .int (nI r)] (fun v R1 h1 I1 => v = none ∧ R1 = zRR w v0 e1 e2 ∧ h1 = h ∧ zLaid J I1 (zao J q (jt J) (jm J)) (zUn J r (jt J) (jm J))) :=
  zEp_post (ev7_layFoil (q := q) (r := r) (by have := W.n4; omega) (by have := W.n4; omega) (W.ox hO.m).m (W.ox hO.m).m10 (W.ox hO.m).t (W.ox hO.m).t30 (W.ox hO.m).A8) (fun v R1 h1 I1 ⟨A, F, hF, q1, q2, q3, q4⟩ => ⟨q1, q2, q3, by
    simp only [zao_ox hO.m, zEa_ox hO.m, zNx_ox hO.m, zUn_ox hO.m, jm_ox hO.m, jt_ox hO.m] at hF q4
    rw [q4]
    exact ⟨hO.trans (zOx_zsx I A F _), zsx_38 I A F _, by rw [zsx_78]; exact hF⟩⟩)
theorem el7_layTogether (hO : zOx J I) (W : zWF J) : zEp m7_layTogether (zRR w v0 e1 e2) h I [.ref 54] (fun v R1 h1 I1 => v = none ∧ R1 = zRR w v0 e1 e2 ∧ h1 = h ∧ zLaid J I1 (1 <<< (nI (jm J) &&& 31) - 1) (zTg J (jn J))) :=
  zEp_post (ev7_layTogether (W.ox hO.m).n (W.ox hO.m).n4 (W.ox hO.m).m (W.ox hO.m).m10 (W.ox hO.m).A8) (fun v R1 h1 I1 ⟨A, F, hF, q1, q2, q3, q4⟩ => ⟨q1, q2, q3, by
    simp only [zEa_ox hO.m, zNx_ox hO.m, zTg_ox hO.m, jm_ox hO.m, jn_ox hO.m] at hF q4
    rw [q4]
    exact ⟨hO.trans (zOx_zsx I A F _), zsx_38 I A F _, by rw [zsx_78]; exact hF⟩⟩)
theorem el7_laidAct {S pl : Int32} {G : Nat → Prop} (hl : zLaid J I S G) (W : zWF J) : zEr m7_laidAct (zRR w v0 e1 e2) h I [.ref 54, .int pl] (some (.int (zld (zEa J S) (zNx J) G (jm J) (js J) pl))) (zRR w v0 e1 e2) h I :=
  zEp_post (ev7_laidAct (pl := pl) (G := G) (W.ox hl.1.m).m (W.ox hl.1.m).m10 (W.ox hl.1.m).A8 hl.2.1 (W.ox hl.1.m).s (W.ox hl.1.m).s8 (by rw [zEa_ox hl.1.m, zNx_ox hl.1.m, jm_ox hl.1.m]; exact hl.2.2)) (fun v R1 h1 I1 ⟨r, hr, q1, q2, q3, q4⟩ => ⟨by
    simp only [zEa_ox hl.1.m, zNx_ox hl.1.m, jm_ox hl.1.m, js_ox hl.1.m] at hr
    rw [q1, zld_eq hr], q2, q3, q4⟩)
theorem el7_laidMany {S : Int32} {G : Nat → Prop} (hl : zLaid J I S G) (W : zWF J) : zEr m7_laidMany (zRR w v0 e1 e2) h I [.ref 54] (some (.int (zlm (zEa J S) (zNx J) G (jm J) (js J)))) (zRR w v0 e1 e2) h I :=
  zEp_post (ev7_laidMany (S := S) (G := G) (m := jm J) (W.ox hl.1.m).s (W.ox hl.1.m).s8 (by rw [zEa_ox hl.1.m, zNx_ox hl.1.m]; exact hl.2.2)) (fun v R1 h1 I1 ⟨r, hr, q1, q2, q3, q4⟩ => ⟨by
    simp only [zEa_ox hl.1.m, zNx_ox hl.1.m, js_ox hl.1.m] at hr
    rw [q1, zlm_eq hr], q2, q3, q4⟩)
end LAID
