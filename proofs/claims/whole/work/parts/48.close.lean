/-- the rows of a step -/
def zRow (I J : zMI) (k : Nat) : Prop := (I 5 k = J 63 k ∧ I 6 k = (if J 63 k = -1 then zfF (J 64 k ||| J 65 k) else -1)) ∧ I 12 k = znT J k ∧ I 13 k = znF J k ∧ I 14 k = J 64 k ∧ I 15 k = J 65 k
theorem zRs_of {I J : zMI} (h : zRs I J) : ∀ k, k < jt J → zRow I J k := fun k hk => ⟨⟨(h.2.1 k hk).1.1, (h.2.1 k hk).1.2.1⟩, (h.2.1 k hk).2.2.1, (h.2.1 k hk).2.2.2.1, (h.2.1 k hk).2.2.2.2.1, (h.2.1 k hk).2.2.2.2.2⟩
/-- from the class's links of step k to the model's -/
theorem zlk_of {J I : zMI} {k : Nat} (hk : k ≤ 30) {oT oF L D : Int32} {T F : Int32} {dd : Nat → Int32} (eT : T = znT J k) (eF : F = znF J k) (eg : ∀ j, j < k → I 14 j = J 64 j) (eu : ∀ j, j < k → I 15 j = J 65 j) (ed : ∀ j, j < k → dd j = zhg J j) (h : zLI T F (I 14) (I 15) dd k 0 oT oF L D) : L = zlk J k ∧ D = zhg J k := by
  have e1 : L = zlk J k := by
    apply zBt_ext
    intro e he
    have a := h.2.2.1 e he
    have b := zlk_b J hk he
    have c : (0 ≤ e ∧ e < k ∧ zLb T F (I 14) (I 15) k e) ↔ (e < k ∧ zLb (znT J k) (znF J k) (J 64) (J 65) k e) := by
      rw [eT, eF]
      constructor
      · rintro ⟨-, q, f, hf, hh⟩
        refine ⟨q, f, hf, ?_⟩
        rw [← eg e q, ← eu e q]
        exact hh.imp (fun ⟨x, y, z⟩ => ⟨x, y, fun j p r => by rw [← eg j r]; exact z j p r⟩) (fun ⟨x, y, z⟩ => ⟨x, y, fun j p r => by rw [← eu j r]; exact z j p r⟩)
      · rintro ⟨q, f, hf, hh⟩
        refine ⟨Nat.zero_le _, q, f, hf, ?_⟩
        rw [eg e q, eu e q]
        exact hh.imp (fun ⟨x, y, z⟩ => ⟨x, y, fun j p r => by rw [eg j r]; exact z j p r⟩) (fun ⟨x, y, z⟩ => ⟨x, y, fun j p r => by rw [eu j r]; exact z j p r⟩)
    have d := (a.trans c).trans b.symm
    cases p : zBt L e <;> cases r : zBt (zlk J k) e <;> simp_all
  refine ⟨e1, ?_⟩
  rw [zhg_eq]
  apply zBt_ext
  intro i hi
  have a := h.2.2.2 i hi
  have b := zhf_b (zlk J k) (zhg J) (i := i) k (by omega)
  rw [e1] at a
  have c : (∃ e, e < k ∧ zBt (zlk J k) e = true ∧ (i = e ∨ zBt (dd e) i = true)) ↔ (zBt (zlk J k) i = true ∨ ∃ e, e < k ∧ zBt (zlk J k) e = true ∧ zBt (zhg J e) i = true) := by
    constructor
    · rintro ⟨e, q1, q2, rfl | q3⟩
      · exact Or.inl q2
      · exact Or.inr ⟨e, q1, q2, by rw [← ed e q1]; exact q3⟩
    · rintro (q | ⟨e, q1, q2, q3⟩)
      · exact ⟨i, ((zlk_b J hk hi).mp q).1, q, Or.inl rfl⟩
      · exact ⟨e, q1, q2, Or.inr (by rw [ed e q1]; exact q3)⟩
  have d := (a.trans c).trans b.symm
  cases p : zBt D i <;> cases r : zBt (zhf (zlk J k) (zhg J) k) i <;> simp_all
