section FR
variable {C K I J : zMI} {v n a p : Nat} {c : Int32} {f g : Nat → Int32}
theorem zs_o (I : zMI) {k t : Nat} (f : Nat → Int32) (h : ¬ k = t) : zs I t f k = I k := if_neg h
theorem zrMv_o {k : Nat} (x : Int32) (h3 : ¬ k = 3) : zrMv C x k = C k := by simp [zrMv, zs_ap, h3]
theorem zrTF_o {k t : Nat} (x : Int32) (h3 : ¬ k = 3) (ht : ¬ k = t) : zrTF C t a x k = C k := by simp [zrTF, zs_ap, h3, ht]
theorem zcM_o {k : Nat} (h3 : ¬ k = 3) (hk : k < v ∨ v + 9 < k) : zcM C v c p a k = C k := by
  have e0 : ¬ k = v := by omega
  have e1 : ¬ k = v + 1 := by omega
  have e2 : ¬ k = v + 2 := by omega
  have e3 : ¬ k = v + 3 := by omega
  have e4 : ¬ k = v + 4 := by omega
  have e5 : ¬ k = v + 5 := by omega
  have e6 : ¬ k = v + 6 := by omega
  have e7 : ¬ k = v + 7 := by omega
  have e8 : ¬ k = v + 8 := by omega
  have e9 : ¬ k = v + 9 := by omega
  unfold zcM
  split
  · split
    · rfl
    · simp [zrKi, zrAP, zrMv_o, zs_ap, h3, e0, e1]
  split
  · unfold zrSi; split <;> simp [zrMv_o, zs_ap, h3]
  split
  · split
    · rfl
    · simp [zrGo, zrMv_o, zs_ap, h3, e2, e3, e4]
  split
  · unfold zrAGm; split
    · rfl
    · split <;> simp [zrMv_o, h3]
  split
  · unfold zrFF; split
    · simp [zrMv_o, h3]
    · split
      · rfl
      · simp [zs_ap, h3, e0]
  split
  · unfold zrOw; split
    · rfl
    · simp [zrAA, zrMv_o, zs_ap, h3, e0, e5, e6, e7, e8, e9]
  split
  · unfold zrNe; split
    · rfl
    · split
      · simp [zrMv_o, h3]
      · split
        · simp [zrMv_o, h3]
        · split <;> simp [zrTF_o, h3, e6, e7]
  · unfold zrMa; split
    · rfl
    · split
      · simp [zrMv_o, h3]
      · split
        · simp [zrMv_o, h3]
        · split <;> simp [zrTF_o, h3, e8, e9]
theorem zcr_o {k : Nat} (h3 : ¬ k = 3) (hk : k < v ∨ v + 9 < k) : ∀ i, zcr I v g i k = I k
  | 0 => by
    have e0 : ¬ k = v := by omega
    show zrMv (zrCl I v) 0 k = I k
    rw [zrMv_o _ h3]; simp [zrCl, zs_ap, e0]
  | i + 1 => by
    show zcM _ _ _ _ _ k = I k
    rw [zcM_o h3 hk, zcr_o h3 hk i]
theorem zgo_o {k : Nat} {b x : Int32} (h : ¬ k = 54) : zgo K b x k = K k := by simp [zgo, zs_ap, h]
theorem zgo_54 {j : Nat} {b x : Int32} (h : ¬ j = 24) : zgo K b x 54 j = K 54 j := by simp [zgo, zs_ap, upd_ap, h]
theorem zpL_o {k : Nat} (hk : k < 54 ∨ (54 < k ∧ k < 69) ∨ 76 < k) : zpL K c n a k = K k := by
  have e0 : ¬ k = 54 := by omega
  have e1 : ¬ k = 69 := by omega
  have e2 : ¬ k = 70 := by omega
  have e3 : ¬ k = 71 := by omega
  have e4 : ¬ k = 72 := by omega
  have e5 : ¬ k = 73 := by omega
  have e6 : ¬ k = 74 := by omega
  have e7 : ¬ k = 75 := by omega
  have e8 : ¬ k = 76 := by omega
  have q1 : zpFirst K c k = K k := by unfold zpFirst; split <;> simp [zgo_o, zs_ap, e0]
  have q2 : zpWhose K a c k = K k := by unfold zpWhose zpWhoA; rw [zgo_o e0]; split <;> simp [zs_ap, e0, e4, e5, e6, e7, e8]
  have q3 : ∀ a, zpNeeds K a c k = K k := fun a => by unfold zpNeeds; split; simp [zgo_o, e0]; split <;> simp [zgo_o, zs_ap, e0, e5]
  have q4 : ∀ a, zpBars K a c k = K k := fun a => by unfold zpBars; split <;> simp [zgo_o, zs_ap, e0, e6]
  have q5 : ∀ a, zpGives K a c k = K k := fun a => by
    unfold zpGives; split; simp [zgo_o, e0]; split
    · split <;> simp [zgo_o, e0]
    · simp [zs_ap, e7]
  have q6 : ∀ a, zpTakes K a c k = K k := fun a => by
    unfold zpTakes; split
    · split <;> simp [zgo_o, e0]
    · simp [zgo_o, zs_ap, e0, e8]
  have q7 : zpPerson K n c k = K k := by
    unfold zpPerson; split
    · simp [zpKind, zgo_o, zs_ap, e0, e1]
    split
    · simp [zpSign, zgo_o, zs_ap, e0, e3]
    split
    · unfold zpWant; rw [zgo_o e0]; split <;> simp [zs_ap, e0, e2]
    · unfold zpAfter; split <;> simp [zgo_o, e0]
  unfold zpL
  (repeat' split) <;> first | exact q1 | exact q2 | exact q3 _ | exact q4 _ | exact q5 _ | exact q6 _ | exact q7
theorem zpL_54 {j : Nat} (h1 : ¬ j = 24) (h2 : ¬ j = 25) (h3 : ¬ j = 29) (h4 : ¬ j = 30) : zpL K c n a 54 j = K 54 j := by
  have q1 : zpFirst K c 54 j = K 54 j := by unfold zpFirst; split <;> simp [zgo_54, zs_ap, upd_ap, h1, h3]
  have q2 : zpWhose K a c 54 j = K 54 j := by unfold zpWhose zpWhoA; rw [zgo_54 h1]; split <;> simp [zs_ap, upd_ap, h4]
  have q3 : ∀ a, zpNeeds K a c 54 j = K 54 j := fun a => by unfold zpNeeds; split; simp [zgo_54, h1]; split <;> simp [zgo_54, zs_ap, h1]
  have q4 : ∀ a, zpBars K a c 54 j = K 54 j := fun a => by unfold zpBars; split <;> simp [zgo_54, zs_ap, h1]
  have q5 : ∀ a, zpGives K a c 54 j = K 54 j := fun a => by
    unfold zpGives; split; simp [zgo_54, h1]; split
    · split <;> simp [zgo_54, h1]
    · simp [zs_ap]
  have q6 : ∀ a, zpTakes K a c 54 j = K 54 j := fun a => by
    unfold zpTakes; split
    · split <;> simp [zgo_54, h1]
    · simp [zgo_54, zs_ap, h1]
  have q7 : zpPerson K n c 54 j = K 54 j := by
    unfold zpPerson; split
    · simp [zpKind, zgo_54, zs_ap, h1]
    split
    · simp [zpSign, zgo_54, zs_ap, h1]
    split
    · unfold zpWant; rw [zgo_54 h1]; split <;> simp [zs_ap, upd_ap, h2]
    · unfold zpAfter; split <;> simp [zgo_54, h1]
  unfold zpL
  (repeat' split) <;> first | exact q1 | exact q2 | exact q3 _ | exact q4 _ | exact q5 _ | exact q6 _ | exact q7
theorem zpr_o {k : Nat} (hk : k < 54 ∨ (54 < k ∧ k < 69) ∨ 76 < k) : ∀ i, zpr J f i k = J k
  | 0 => by
    have e0 : ¬ k = 54 := by omega
    show zp0 J k = J k
    simp [zp0, zs_ap, e0]
  | i + 1 => by
    show zpL _ _ _ _ k = J k
    rw [zpL_o hk, zpr_o hk i]
theorem zpr_54 {j : Nat} (h1 : ¬ j = 24) (h2 : ¬ j = 25) (h3 : ¬ j = 29) (h4 : ¬ j = 30) : ∀ i, zpr J f i 54 j = J 54 j
  | 0 => by
    show zp0 J 54 j = J 54 j
    simp [zp0, zs_ap, upd_ap, h1, h2, h3, h4]
  | i + 1 => by
    show zpL _ _ _ _ 54 j = J 54 j
    rw [zpL_54 h1 h2 h3 h4, zpr_54 h1 h2 h3 h4 i]
theorem zrun0 (hv : zW v) : zPI (zp0 J) 0 0 0 ∧ zSim (zrMv (zrCl I v) 0) (zp0 J) v 0 0 0 := by
  refine ⟨⟨⟨?_, ?_, ?_⟩, ⟨by omega, by omega, by omega, by omega, by omega, by omega, by omega, by omega⟩, ⟨?_, ?_⟩, fun k hk => by omega, by omega, fun k hk => by omega, by omega, by omega, by omega⟩, ⟨⟨?_, ?_, ?_, ?_⟩, fun k hk => by omega, by omega, by omega, fun k hk => by omega, by omega, by omega, by omega, by omega, by omega⟩⟩
  · simp [zp0, zs_ap, upd_ap]; rfl
  · simp [zp0, zs_ap, upd_ap]; rfl
  · simp [zp0, zs_ap, upd_ap]; rfl
  · simpa [zp0, zs_ap, upd_ap] using z80
  · intro _; simp [zp0, zs_ap, upd_ap]
  · simp [zrMv, zs_ap, upd_ap]; rfl
  · rcases hv with rfl | rfl <;> (simp [zrMv, zrCl, zs_ap, upd_ap]; rfl)
  · rcases hv with rfl | rfl <;> (simp [zrMv, zrCl, zs_ap, upd_ap]; rfl)
  · rcases hv with rfl | rfl <;> simp [zrMv, zrCl, zp0, zs_ap, upd_ap]
theorem zpn_of {K : zMI} {n : Nat} (h : K 54 25 = nI n) (hn : n ≤ 4) : zpn K = n := by rw [zpn, h]; exact nI_clamp (by omega)
theorem zpa_of {K : zMI} {n : Nat} (h : K 54 30 = nI n) (hn : n ≤ 10) : zpa K = n := by rw [zpa, h]; exact nI_clamp (by omega)
theorem zrun (hv : zW v) {L : Nat} (hf : ∀ j, j < L → g j = f j ∧ ∃ m, m < 127 ∧ f j = nI m) : ∀ i, i ≤ L → (zct I v g i ↔ zpt J f i) ∧ (zpt J f i → ∃ n a s, zPI (zpr J f i) n a s ∧ zSim (zcr I v g i) (zpr J f i) v n a s)
  | 0, _ => ⟨⟨fun _ j hj => absurd hj (Nat.not_lt_zero j), fun _ j hj => absurd hj (Nat.not_lt_zero j)⟩, fun _ => ⟨0, 0, 0, zrun0 hv⟩⟩
  | i + 1, hi => by
    obtain ⟨ih1, ih2⟩ := zrun hv hf i (by omega)
    have ctS : zct I v g (i + 1) ↔ zct I v g i ∧ zcR (zcr I v g i) v (g i) ((zcr I v g i) v 10).toNatClampNeg = 1 := by
      constructor
      · intro h; exact ⟨fun j hj => h j (by omega), h i (by omega)⟩
      · rintro ⟨h1, h2⟩ j hj
        rcases Nat.lt_succ_iff_lt_or_eq.mp hj with q | rfl
        · exact h1 j q
        · exact h2
    have ptS : zpt J f (i + 1) ↔ zpt J f i ∧ zpLR (zpr J f i) (f i) (zpa (zpr J f i)) = 1 := by
      constructor
      · intro h; exact ⟨fun j hj => h j (by omega), h i (by omega)⟩
      · rintro ⟨h1, h2⟩ j hj
        rcases Nat.lt_succ_iff_lt_or_eq.mp hj with q | rfl
        · exact h1 j q
        · exact h2
    obtain ⟨hgf, hm⟩ := hf i (by omega)
    by_cases hp : zpt J f i
    · obtain ⟨n, a, s, hP, hS⟩ := ih2 hp
      have hstep := zstep (c := f i) hv hP hS hm
      have en : zpn (zpr J f i) = n := zpn_of hP.1.2.1 hP.2.1.2.1
      have ea : zpa (zpr J f i) = a := zpa_of hP.1.2.2 hP.2.1.2.2.1
      have ec : ((zcr I v g i) v 10).toNatClampNeg = a := by rw [hS.1.2.2.1]; exact nI_clamp (by have := hP.2.1.2.2.1; omega)
      have ep : ((zcr I v g i) v 9).toNatClampNeg = (if s = 1 ∨ s = 2 then n + 1 else n) := by rw [hS.1.2.1]; exact nI_clamp (by have := hP.2.1.2.1; split <;> omega)
      have e1 : zpr J f (i + 1) = zpL (zpr J f i) (f i) n a := by show zpL _ _ _ _ = _; rw [en, ea]
      have e2 : zcr I v g (i + 1) = zcM (zcr I v g i) v (f i) (if s = 1 ∨ s = 2 then n + 1 else n) a := by show zcM _ _ _ _ _ = _; rw [ec, ep, hgf]
      rw [ctS, ptS, ea, ec, hgf, hstep.1, e1, e2]
      exact ⟨⟨fun q => ⟨ih1.mp q.1, q.2⟩, fun q => ⟨ih1.mpr q.1, q.2⟩⟩, fun q => hstep.2 q.2⟩
    · rw [ctS, ptS]
      exact ⟨⟨fun q => absurd (ih1.mp q.1) hp, fun q => absurd q.1 hp⟩, fun q => absurd q.1 hp⟩
/-- the parser's state is one that its methods go on from -/
theorem zPI.PS {K : zMI} {n a s : Nat} (h : zPI K n a s) : zPS K n a := by
  obtain ⟨⟨p1, p2, p3⟩, ⟨p4, p5, p6, p7, p8, p9, p10, p11⟩, -⟩ := h
  have hs : ∀ t : Nat, t ≤ 11 → K 54 24 = nI t → s = t := fun t ht e => by rw [p1] at e; exact (nI_eq (by omega) (by omega)).mp e
  refine ⟨p2, p3, fun q => ?_, fun q => ?_, p6, fun q => ?_⟩
  · rcases q with q | q | q
    · have := hs 0 (by omega) q; omega
    · have := hs 1 (by omega) q; omega
    · have := hs 2 (by omega) q; omega
  · have := hs 5 (by omega) q; omega
  · rcases q with q | q | q | q | q | q
    · have := hs 6 (by omega) q; omega
    · have := hs 7 (by omega) q; omega
    · have := hs 8 (by omega) q; omega
    · have := hs 9 (by omega) q; omega
    · have := hs 10 (by omega) q; omega
    · have := hs 11 (by omega) q; omega
theorem zSim.CS {n a s : Nat} (hP : zPI K n a s) (hS : zSim C K v n a s) : zCS C v (if s = 1 ∨ s = 2 then n + 1 else n) a := by
  obtain ⟨⟨p1, p2, p3⟩, ⟨p4, p5, p6, p7, p8, p9, p10, p11⟩, -⟩ := hP
  obtain ⟨⟨q1, q2, q3, -⟩, -⟩ := hS
  have hz : ∀ s, s ≤ 11 → zpart s ≤ 9 ∧ (zpart s = 0 → s = 0) ∧ (zpart s = 1 → s = 1) ∧ (zpart s = 2 → s = 2) ∧ (zpart s = 5 → s = 5) ∧ (zpart s = 3 → s = 3) ∧ (zpart s = 4 → s = 4) ∧ (s ≤ 6 → zpart s = s) := by decide +kernel
  obtain ⟨z0, z1, z1a, z2, z5, z3, z4, z6⟩ := hz s (by omega)
  have hs : ∀ t : Nat, t ≤ 11 → C 3 0 = nI t → zpart s = t := fun t ht e => by rw [q1] at e; exact (nI_eq (by omega) (by omega)).mp e
  refine ⟨q2, q3, fun q => ?_, fun q => ?_, fun q => ?_, fun q => ?_⟩
  · have := z1 (hs 0 (by omega) q); rw [if_neg (by omega)]; omega
  · have := z2 (hs 2 (by omega) q); rw [if_pos (by omega)]; omega
  · have := z5 (hs 5 (by omega) q); omega
  · obtain ⟨a0, a1, a2, a3, a4, a5⟩ := q
    have hge : 6 ≤ s := by
      rcases Nat.lt_or_ge s 6 with y | y
      · exfalso
        have e := z6 (by omega)
        rw [q1, e] at a0 a1 a2 a3 a4 a5
        match s, y with
        | 0, _ => exact a0 rfl
        | 1, _ => exact a1 rfl
        | 2, _ => exact a2 rfl
        | 3, _ => exact a3 rfl
        | 4, _ => exact a4 rfl
        | 5, _ => exact a5 rfl
        | k + 6, y => omega
      · exact y
    exact ⟨p10 hge, p6⟩
end FR
