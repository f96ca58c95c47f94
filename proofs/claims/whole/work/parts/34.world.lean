theorem zWF.Gc {J : zMI} (W : zWF J) : ∀ j, j < jL J → ∃ m, m < 127 ∧ J 68 j = nI m := fun j hj => by
  obtain ⟨h1, h2⟩ := W.G j hj
  obtain ⟨k, hk, e⟩ := nI_of2 (x := J 68 j) (M := 126) (n := 126) rfl (fun q => h1 (Int32.lt_of_lt_of_le q (by decide))) (Int32.not_lt.mp h2)
  exact ⟨k, by omega, e⟩
theorem zpt_s {J : zMI} {f : Nat → Int32} {i k : Nat} (h : zpt J f k) (hi : i ≤ k) : zpt J f i := fun j hj => h j (by omega)
/-- the runs of the parser from memories with the same page are the same -/
theorem zpt_ox {J I : zMI} (hO : zOx J I) (W : zWF J) {i : Nat} (hi : i ≤ jL J) : zpt I (I 68) i ↔ zpt J (J 68) i := by
  have e := hO.o 68 (by decide) (by decide)
  have a := (zrun (I := J) (J := I) (v := 34) (g := J 68) (f := I 68) (Or.inl rfl) (L := jL J) (fun j hj => ⟨by rw [e], by rw [e]; exact W.Gc j hj⟩) i hi).1
  have b := (zrun (I := J) (J := J) (v := 34) (g := J 68) (f := J 68) (Or.inl rfl) (L := jL J) (fun j hj => ⟨rfl, W.Gc j hj⟩) i hi).1
  exact a.symm.trans b
def zFk (J : zMI) (k : Nat) : Prop := k ≤ jL J ∧ zpt J (J 68) k ∧ (k = jL J ∨ (k < jL J ∧ ¬ zpt J (J 68) (k + 1)))
noncomputable def zfk (J : zMI) : Nat := @Classical.epsilon Nat ⟨0⟩ (zFk J)
theorem zFk_one {J : zMI} {k l : Nat} (h : zFk J k) (h' : zFk J l) : k = l := by
  obtain ⟨a1, a2, a3⟩ := h
  obtain ⟨b1, b2, b3⟩ := h'
  rcases Nat.lt_trichotomy k l with q | q | q
  · rcases a3 with e | ⟨-, e⟩
    · omega
    · exact absurd (zpt_s b2 q) e
  · exact q
  · rcases b3 with e | ⟨-, e⟩
    · omega
    · exact absurd (zpt_s a2 q) e
theorem zfk_of {J : zMI} {k : Nat} (h : zFk J k) : k = zfk J := zFk_one h (@Classical.epsilon_spec_aux Nat ⟨0⟩ (zFk J) ⟨k, h⟩)
theorem zOx_zpr (I : zMI) (f : Nat → Int32) (i : Nat) : zOx I (zpr I f i) := ⟨fun k h1 h2 => zpr_o (by omega) i, fun j h1 => zpr_54 (by omega) (by omega) (by omega) (by omega) i⟩
theorem zpi_ex {J I : zMI} (hO : zOx J I) (W : zWF J) {i : Nat} (hi : i ≤ jL J) (h : zpt I (I 68) i) : ∃ n a s, zPI (zpr I (I 68) i) n a s := by
  have e := hO.o 68 (by decide) (by decide)
  obtain ⟨n, a, s, h1, -⟩ := (zrun (I := J) (J := I) (v := 34) (g := J 68) (f := I 68) (Or.inl rfl) (L := jL J) (fun j hj => ⟨by rw [e], by rw [e]; exact W.Gc j hj⟩) i hi).2 h
  exact ⟨n, a, s, h1⟩
theorem el7_read {w v0 e1 e2 : Nat} {h : Int64} {J I : zMI} (hO : zOx J I) (W : zWF J) : zEp m7_read (zRR w v0 e1 e2) h I [.ref 54] (fun v R1 h1 I1 => v = some (.int (nI (zfk J))) ∧ R1 = (zRR w v0 e1 e2) ∧ h1 = h ∧ zOx J I1 ∧ zfk J ≤ jL J ∧ (zfk J = jL J ↔ zpt J (J 68) (jL J)) ∧ (zfk J = jL J → I1 = zpr I (I 68) (jL J))) := by
  refine zEp_of [.ref 54, .null] pl7_read (by decide +kernel) (fun _ _ => rfl) (fun _ _ => Nat.le_of_ble_eq_true rfl) ?_
  refine g_al0 r7_read_0 ?_
  refine g_k r7_read_1 ?_
  refine g_pfi r7_read_2 xx_54 rfl rfl ?_
  refine g_al0 r7_read_5 ?_
  refine g_k r7_read_6 ?_
  refine g_pfi r7_read_7 xx_54 rfl rfl ?_
  refine g_al0 r7_read_10 ?_
  refine g_k r7_read_11 ?_
  refine g_pfi r7_read_12 xx_54 rfl rfl ?_
  refine g_al0 r7_read_15 ?_
  refine g_k r7_read_16 ?_
  refine g_pfi r7_read_17 xx_54 rfl rfl ?_
  refine g_k r7_read_20 ?_
  refine g_is1 r7_read_21 rfl ?_
  refine g_eqm (I' := zpr I (I 68) 0) (by simp only [zpr, zp0, zs_zs, zs_eq]) ?_
  have hL : I 54 19 = nI (jL J) := ((hO.f 19 (by decide)).trans W.L)
  refine g_post (lp7_read (I := I) hL W.L90 (fun j hj hjL => ?_) (jL J + 1) 0 (by omega) (by omega) (fun j hj => absurd hj (Nat.not_lt_zero j))) (fun v X1 R1 h1 I1 hp => ?_)
  · obtain ⟨n, a, s, hP⟩ := zpi_ex hO W hjL hj
    exact ⟨by rw [zpn_of hP.1.2.1 hP.2.1.2.1, zpa_of hP.1.2.2 hP.2.1.2.2.1]; exact hP.PS, zpr_o (by omega) j, (zpr_54 (by decide) (by decide) (by decide) (by decide) j).trans hL⟩
  · obtain ⟨rfl, k, hk, hT, hc, rfl, rfl, rfl⟩ := hp
    have hF : zFk J k := by
      refine ⟨hk, (zpt_ox hO W hk).mp hT, ?_⟩
      rcases hc with ⟨e, -⟩ | ⟨e, e0, -⟩
      · exact Or.inl e
      · exact Or.inr ⟨e, fun q => by
          have q1 := (zpt_ox hO W (show k + 1 ≤ jL J by omega)).mpr q k (by omega)
          rw [e0] at q1; exact absurd q1 (by decide)⟩
    have ek := zfk_of hF
    refine ⟨rfl, by rw [← ek], rfl, rfl, ?_, by omega, ⟨fun q => ?_, fun q => ?_⟩, fun q => ?_⟩
    · rcases hc with ⟨-, rfl⟩ | ⟨-, -, rfl⟩ <;> exact hO.trans (zOx_zpr I _ _)
    · rw [← q, ← ek]; exact hF.2.1
    · rcases hF.2.2 with e | ⟨e, e0⟩
      · omega
      · exact absurd (zpt_s q e) e0
    · rcases hc with ⟨e, rfl⟩ | ⟨e, -, rfl⟩
      · rw [e]
      · omega
theorem el7_fault {w v0 e1 e2 : Nat} {h : Int64} {J I : zMI} (hO : zOx J I) (W : zWF J)  : zEp m7_fault (zRR w v0 e1 e2) h I [.ref 54] (fun v R1 h1 I1 => v = (some (.int (nI (zfk J)))) ∧ R1 = (zRR w v0 e1 e2) ∧ h1 = h ∧ zOx (J) I1) := by
  refine zEp_of [.ref 54] pl7_fault (by decide +kernel) (fun _ _ => rfl) (fun _ _ => Nat.le_of_ble_eq_true rfl) ?_
  refine g_al0 r7_fault_0 ?_
  refine g_cV0 r7_fault_1 ok7_read pl7_fault pl7_read xx_54 (Nat.le_of_ble_eq_true rfl) (el7_read hO W) (fun v' R' h' I1 ⟨q1, q2, q3, hO1, _⟩ => ?_)
  subst q1; subst q2; subst q3
  exact g_iret r7_fault_4 rfl ⟨rfl, ⟨zrt (rfl), rfl, rfl, hO1⟩⟩
/-- a whole world's text stands on the page -/
def zCp (K : zMI) (n a s : Nat) : Prop := zPI K n a s ∧ (s = 11 ∨ (s = 9 ∧ 0 < K 75 (a - 1)))
/-- the model's cells once the page is the world -/
def zNw (K I1 : zMI) (n a : Nat) : Prop :=
  (I1 54 0 = nI n ∧ I1 54 4 = K 54 29 ∧ I1 54 5 = nI a ∧ I1 54 11 = K 54 29 ∧ I1 54 12 = 0 ∧ I1 54 13 = 0 ∧ I1 54 19 = 0 ∧ I1 54 21 = K 54 21 + 1 ∧ I1 54 22 = K 54 22 ∧ I1 54 23 = K 54 23) ∧
  (∀ k, k < n → I1 55 k = K 69 k ∧ I1 56 k = K 70 k ∧ I1 57 k = K 71 k) ∧
  (∀ k, k < a → I1 58 k = K 72 k ∧ I1 59 k = K 73 k ∧ I1 60 k = K 74 k ∧ I1 61 k = K 75 k ∧ I1 62 k = K 76 k) ∧
  (∀ c, c < 54 → I1 c = K c)
theorem zCp_one {K : zMI} {n a s n' a' s' : Nat} (h : zPI K n a s) (h' : zPI K n' a' s') : n = n' ∧ a = a' ∧ s = s' := by
  obtain ⟨⟨p1, p2, p3⟩, ⟨p4, p5, p6, -⟩, -⟩ := h
  obtain ⟨⟨q1, q2, q3⟩, ⟨q4, q5, q6, -⟩, -⟩ := h'
  rw [p1] at q1; rw [p2] at q2; rw [p3] at q3
  exact ⟨(nI_eq (by omega) (by omega)).mp q2, (nI_eq (by omega) (by omega)).mp q3, (nI_eq (by omega) (by omega)).mp q1⟩
def zN1 (K M : zMI) (n i : Nat) : Prop := (M 54 0 = nI n ∧ (∀ j, ¬ j = 0 → M 54 j = K 54 j) ∧ (∀ c, ¬ c = 54 → ¬ c = 55 → ¬ c = 56 → ¬ c = 57 → M c = K c) ∧ (∀ k, k < i → M 55 k = K 69 k ∧ M 56 k = K 70 k ∧ M 57 k = K 71 k))
theorem lp7_world_1 {w v0 e1 e2 : Nat} {h : Int64} {P : zPost} {K : zMI} {n a : Nat} (hn4 : n ≤ 4) {x : Int32} (h01 : ∀ k, k < n → K 71 k = 0 ∨ K 71 k = 1) (hend : ∀ M (y : Value), zN1 K M n n → zGo m7_world 116 [.ref 54, .int x, y] [] zX (zRR w v0 e1 e2) h M P) : ∀ d i M, n - i < d → i ≤ n → zN1 K M n i → zGo m7_world 66 [.ref 54, .int x, .int (nI i)] [] zX (zRR w v0 e1 e2) h M P := by
  intro d
  induction d with
  | zero => intro i M hd0; exact absurd hd0 (Nat.not_lt_zero _)
  | succ d ih =>
    intro i M hd0 hd1 hg
    obtain ⟨g1, g2, g3, g4⟩ := hg
    refine g_il2 r7_world_66 ?_
    refine g_al0 r7_world_67 ?_
    refine g_gfi r7_world_68 xx_54 rfl ?_
    refine g_eqv (y := nI n) g1 ?_
    refine g_icgeN r7_world_71 (by omega) (by omega) (fun h71 => ?_) (fun h71 => ?_)
    · exact hend M _ ⟨g1, g2, g3, fun k hk => g4 k (by omega)⟩
    · refine g_al0 r7_world_74 ?_
      refine g_gfr r7_world_75 xx_54 rfl rr_54_1 ?_
      refine g_il2 r7_world_78 ?_
      refine g_al0 r7_world_79 ?_
      refine g_gfr r7_world_80 xx_54 rfl rr_54_26 ?_
      refine g_il2 r7_world_83 ?_
      refine g_ialdN r7_world_84 xx_69 (by omega) (by decide) ?_
      refine g_iastN r7_world_85 xx_55 (by omega) (by decide) ?_
      refine g_al0 r7_world_86 ?_
      refine g_gfr r7_world_87 xx_54 rfl rr_54_2 ?_
      refine g_il2 r7_world_90 ?_
      refine g_al0 r7_world_91 ?_
      refine g_gfr r7_world_92 xx_54 rfl rr_54_27 ?_
      refine g_il2 r7_world_95 ?_
      refine g_ialdN r7_world_96 xx_70 (by omega) (by decide) ?_
      refine g_iastN r7_world_97 xx_56 (by omega) (by decide) ?_
      refine g_al0 r7_world_98 ?_
      refine g_gfr r7_world_99 xx_54 rfl rr_54_3 ?_
      refine g_il2 r7_world_102 ?_
      refine g_al0 r7_world_103 ?_
      refine g_gfr r7_world_104 xx_54 rfl rr_54_28 ?_
      refine g_il2 r7_world_107 ?_
      refine g_zaldN r7_world_108 xx_71 (by omega) (by decide) ?_
      refine g_zastN r7_world_109 xx_57 (by omega) (by decide) (by have e71 := congrFun (g3 71 (by decide) (by decide) (by decide) (by decide)) i; simp only [zs_ap]; simp [e71]; exact h01 i h71) ?_
      refine g_iiN2 r7_world_110 rfl ?_
      refine g_goto r7_world_113 ?_
      refine ih (i + 1) _ (by omega) (by omega) ⟨by simp [zs_ap, g1], fun j hj => by simp [zs_ap, g2 j hj], fun c c1 c2 c3 c4 => by simp [zs_ap, c2, c3, c4, g3 c c1 c2 c3 c4], fun k hk => ?_⟩
      have e69 := congrFun (g3 69 (by decide) (by decide) (by decide) (by decide)) i
      have e70 := congrFun (g3 70 (by decide) (by decide) (by decide) (by decide)) i
      have e71 := congrFun (g3 71 (by decide) (by decide) (by decide) (by decide)) i
      by_cases e : k = i
      · subst e; simp [zs_ap, upd_ap, e69, e70, e71]
      · have := g4 k (by omega)
        simp [zs_ap, upd_ap, e, this]
def zN2 (B M : zMI) (a i : Nat) : Prop := (M 54 5 = nI a ∧ (∀ j, ¬ j = 5 → M 54 j = B 54 j) ∧ (∀ c, ¬ c = 54 → (c < 58 ∨ 62 < c) → M c = B c) ∧ (∀ k, k < i → M 58 k = B 72 k ∧ M 59 k = B 73 k ∧ M 60 k = B 74 k ∧ M 61 k = B 75 k ∧ M 62 k = B 76 k))
theorem lp7_world_2 {w v0 e1 e2 : Nat} {h : Int64} {P : zPost} {K : zMI} {n a : Nat} (ha10 : a ≤ 10) {x : Int32} (hend : ∀ M (y : Value), zN2 K M a a → zGo m7_world 208 [.ref 54, .int x, y] [] zX (zRR w v0 e1 e2) h M P) : ∀ d i M, a - i < d → i ≤ a → zN2 K M a i → zGo m7_world 134 [.ref 54, .int x, .int (nI i)] [] zX (zRR w v0 e1 e2) h M P := by
  intro d
  induction d with
  | zero => intro i M hd0; exact absurd hd0 (Nat.not_lt_zero _)
  | succ d ih =>
    intro i M hd0 hd1 hg
    obtain ⟨g1, g2, g3, g4⟩ := hg
    refine g_il2 r7_world_134 ?_
    refine g_al0 r7_world_135 ?_
    refine g_gfi r7_world_136 xx_54 rfl ?_
    refine g_eqv (y := nI a) g1 ?_
    refine g_icgeN r7_world_139 (by omega) (by omega) (fun h139 => ?_) (fun h139 => ?_)
    · exact hend M _ ⟨g1, g2, g3, fun k hk => g4 k (by omega)⟩
    · refine g_al0 r7_world_142 ?_
      refine g_gfr r7_world_143 xx_54 rfl rr_54_6 ?_
      refine g_il2 r7_world_146 ?_
      refine g_al0 r7_world_147 ?_
      refine g_gfr r7_world_148 xx_54 rfl rr_54_31 ?_
      refine g_il2 r7_world_151 ?_
      refine g_ialdN r7_world_152 xx_72 (by omega) (by decide) ?_
      refine g_iastN r7_world_153 xx_58 (by omega) (by decide) ?_
      refine g_al0 r7_world_154 ?_
      refine g_gfr r7_world_155 xx_54 rfl rr_54_7 ?_
      refine g_il2 r7_world_158 ?_
      refine g_al0 r7_world_159 ?_
      refine g_gfr r7_world_160 xx_54 rfl rr_54_32 ?_
      refine g_il2 r7_world_163 ?_
      refine g_ialdN r7_world_164 xx_73 (by omega) (by decide) ?_
      refine g_iastN r7_world_165 xx_59 (by omega) (by decide) ?_
      refine g_al0 r7_world_166 ?_
      refine g_gfr r7_world_167 xx_54 rfl rr_54_8 ?_
      refine g_il2 r7_world_170 ?_
      refine g_al0 r7_world_171 ?_
      refine g_gfr r7_world_172 xx_54 rfl rr_54_33 ?_
      refine g_il2 r7_world_175 ?_
      refine g_ialdN r7_world_176 xx_74 (by omega) (by decide) ?_
      refine g_iastN r7_world_177 xx_60 (by omega) (by decide) ?_
      refine g_al0 r7_world_178 ?_
      refine g_gfr r7_world_179 xx_54 rfl rr_54_9 ?_
      refine g_il2 r7_world_182 ?_
      refine g_al0 r7_world_183 ?_
      refine g_gfr r7_world_184 xx_54 rfl rr_54_34 ?_
      refine g_il2 r7_world_187 ?_
      refine g_ialdN r7_world_188 xx_75 (by omega) (by decide) ?_
      refine g_iastN r7_world_189 xx_61 (by omega) (by decide) ?_
      refine g_al0 r7_world_190 ?_
      refine g_gfr r7_world_191 xx_54 rfl rr_54_10 ?_
      refine g_il2 r7_world_194 ?_
      refine g_al0 r7_world_195 ?_
      refine g_gfr r7_world_196 xx_54 rfl rr_54_35 ?_
      refine g_il2 r7_world_199 ?_
      refine g_ialdN r7_world_200 xx_76 (by omega) (by decide) ?_
      refine g_iastN r7_world_201 xx_62 (by omega) (by decide) ?_
      refine g_iiN2 r7_world_202 rfl ?_
      refine g_goto r7_world_205 ?_
      refine ih (i + 1) _ (by omega) (by omega) ⟨by simp [zs_ap, g1], fun j hj => by simp [zs_ap, g2 j hj], fun c c1 c2 => by simp [zs_ap, show ¬ c = 58 by omega, show ¬ c = 59 by omega, show ¬ c = 60 by omega, show ¬ c = 61 by omega, show ¬ c = 62 by omega, g3 c c1 c2], fun k hk => ?_⟩
      have e72 := congrFun (g3 72 (by decide) (by decide)) i
      have e73 := congrFun (g3 73 (by decide) (by decide)) i
      have e74 := congrFun (g3 74 (by decide) (by decide)) i
      have e75 := congrFun (g3 75 (by decide) (by decide)) i
      have e76 := congrFun (g3 76 (by decide) (by decide)) i
      by_cases e : k = i
      · subst e; simp [zs_ap, upd_ap, e72, e73, e74, e75, e76]
      · have := g4 k (by omega)
        simp [zs_ap, upd_ap, e, this]
theorem lp7_world_3 {w v0 e1 e2 : Nat} {h : Int64} {P : zPost} {K : zMI} {n a : Nat} {s : Nat} {y : Value} (hP : zPI K n a s) (hend : ∀ I1, zNw K I1 n a → P (some (.int (nI a))) zX (zRR w v0 e1 e2) h I1) : zGo m7_world 56 [.ref 54, .int 1, y] [] zX (zRR w v0 e1 e2) h K P := by
  refine g_al0 r7_world_56 ?_
  refine g_al0 r7_world_57 ?_
  refine g_gfi r7_world_58 xx_54 rfl ?_
  refine g_eqv (y := nI n) hP.1.2.1 ?_
  refine g_pfi r7_world_61 xx_54 rfl rfl ?_
  refine g_k r7_world_64 ?_
  refine g_is2 r7_world_65 rfl ?_
  refine lp7_world_1 (K := K) (a := a) hP.2.1.2.1 (fun k hk => (hP.2.2.2.1 k hk).2) (fun M y hM => ?_) (n + 1) 0 _ (by omega) (by omega) ⟨by simp [zs_ap, upd_ap], fun j hj => by simp [zs_ap, upd_ap, hj], fun c c1 _ _ _ => by simp [zs_ap, c1], fun k hk => absurd hk (Nat.not_lt_zero k)⟩
  obtain ⟨g1, g2, g3, g4⟩ := hM
  refine g_al0 r7_world_116 ?_
  refine g_al0 r7_world_117 ?_
  refine g_gfi r7_world_118 xx_54 rfl ?_
  refine g_pfi r7_world_121 xx_54 rfl rfl ?_
  refine g_al0 r7_world_124 ?_
  refine g_al0 r7_world_125 ?_
  refine g_gfi r7_world_126 xx_54 rfl ?_
  refine g_eqv (y := nI a) (by simp [zs_ap, upd_ap, g2, hP.1.2.2]) ?_
  refine g_pfi r7_world_129 xx_54 rfl rfl ?_
  refine g_k r7_world_132 ?_
  refine g_is2 r7_world_133 rfl ?_
  refine lp7_world_2 (n := n) hP.2.1.2.2.1 (fun M2 y2 hM2 => ?_) (a + 1) 0 _ (by omega) (by omega) ⟨by simp [zs_ap, upd_ap], fun j hj => rfl, fun c c1 c2 => rfl, fun k hk => absurd hk (Nat.not_lt_zero k)⟩
  obtain ⟨k1, k2, k3, k4⟩ := hM2
  refine g_al0 r7_world_208 ?_
  refine g_al0 r7_world_209 ?_
  refine g_gfi r7_world_210 xx_54 rfl ?_
  refine g_pfi r7_world_213 xx_54 rfl rfl ?_
  refine g_al0 r7_world_216 ?_
  refine g_k r7_world_217 ?_
  refine g_pfi r7_world_218 xx_54 rfl rfl ?_
  refine g_al0 r7_world_221 ?_
  refine g_k r7_world_222 ?_
  refine g_pfi r7_world_223 xx_54 rfl rfl ?_
  refine g_al0 r7_world_226 ?_
  refine g_dup r7_world_227 rfl ?_
  refine g_gfi r7_world_228 xx_54 rfl ?_
  refine g_k r7_world_231 ?_
  refine g_iadd r7_world_232 ?_
  refine g_pfi r7_world_233 xx_54 rfl rfl ?_
  refine g_al0 r7_world_236 ?_
  refine g_k r7_world_237 ?_
  refine g_pfi r7_world_238 xx_54 rfl rfl ?_
  refine g_al0 r7_world_241 ?_
  refine g_gfi r7_world_242 xx_54 rfl ?_
  refine g_eqv (y := nI a) (by simp [zs_ap, upd_ap, k1]) ?_
  refine g_iret r7_world_245 rfl (hend _ ⟨⟨?_, ?_, ?_, ?_, ?_, ?_, ?_, ?_, ?_, ?_⟩, fun k hk => ?_, fun k hk => ?_, fun c hc => ?_⟩)
  · simp [zs_ap, upd_ap, k2, g1]
  · simp [zs_ap, upd_ap, k2, g2]
  · simp [zs_ap, upd_ap, k1]
  · simp [zs_ap, upd_ap, k2, g2]
  · simp [zs_ap, upd_ap]
  · simp [zs_ap, upd_ap]
  · simp [zs_ap, upd_ap]
  · simp [zs_ap, upd_ap, k2, g2]
  · simp [zs_ap, upd_ap, k2, g2]
  · simp [zs_ap, upd_ap, k2, g2]
  · have := g4 k hk; simp [zs_ap, k3, this]
  · have := k4 k hk; simpa [zs_ap, g3] using this
  · simp [zs_ap, show ¬ c = 54 by omega, k3 c (by omega) (by omega), g3 c (by omega) (by omega) (by omega) (by omega)]
theorem el7_world {w v0 e1 e2 : Nat} {h : Int64} {J I : zMI} (hO : zOx J I) (W : zWF J) : zEp m7_world (zRR w v0 e1 e2) h I [.ref 54] (fun v R1 h1 I1 => R1 = (zRR w v0 e1 e2) ∧ h1 = h ∧ ((v = some (.int (-103)) ∧ zOx J I1 ∧ ¬ (zpt J (J 68) (jL J) ∧ ∃ n a s, zCp (zpr I (I 68) (jL J)) n a s)) ∨ ∃ n a s, zpt J (J 68) (jL J) ∧ zCp (zpr I (I 68) (jL J)) n a s ∧ v = some (.int (nI a)) ∧ zNw (zpr I (I 68) (jL J)) I1 n a)) := by
  refine zEp_of [.ref 54, .null, .null] pl7_world (by decide +kernel) (fun _ _ => rfl) (fun _ _ => Nat.le_of_ble_eq_true rfl) ?_
  refine g_al0 r7_world_0 ?_
  refine g_cV0 r7_world_1 ok7_read pl7_world pl7_read xx_54 (Nat.le_of_ble_eq_true rfl) (el7_read hO W) (fun v' R' h' I0 ⟨q1, q2, q3, hO1, hk1, hk2, hk3⟩ => ?_)
  subst q1; subst q2; subst q3
  refine g_al0 r7_world_4 ?_
  refine g_gfi r7_world_5 xx_54 rfl ?_
  refine g_eqv (y := nI (jL J)) ((hO1.f 19 (by decide)).trans W.L) ?_
  refine g_icne r7_world_8 (fun h8 => ?_) (fun h8 => ?_)
  · refine g_k r7_world_47 ?_
    refine g_is1 r7_world_48 rfl ?_
    refine g_il1 r7_world_49 ?_
    refine g_ifne r7_world_50 (fun hc => absurd rfl hc) (fun _ => ?_)
    refine g_k r7_world_53 ?_
    exact g_iret r7_world_55 rfl ⟨rfl, ⟨rfl, rfl, Or.inl ⟨rfl, hO1, fun q => h8 (congrArg nI (hk2.mpr q.1))⟩⟩⟩
  · have hL90 := W.L90
    have e8 := (nI_eq (by omega) (by omega)).mp h8
    have eK := hk3 e8
    obtain ⟨n, a, s, hP⟩ := zpi_ex hO W (Nat.le_refl _) ((zpt_ox hO W (Nat.le_refl _)).mpr (hk2.mp e8))
    rw [← eK] at hP
    refine g_al0 r7_world_11 ?_
    refine g_gfi r7_world_12 xx_54 rfl ?_
    refine g_eqv (y := nI s) hP.1.1 ?_
    refine g_k r7_world_15 ?_
    refine g_eqv (y := nI 11) rfl ?_
    refine g_iceq r7_world_17 (fun h17 => ?_) (fun h17 => ?_)
    · refine g_k r7_world_43 ?_
      refine g_goto r7_world_44 ?_
      refine g_is1 r7_world_48 rfl ?_
      refine g_il1 r7_world_49 ?_
      refine g_ifne r7_world_50 (fun _ => ?_) (fun hc => absurd hc (by decide))
      exact lp7_world_3 hP (fun I1 hN => ⟨rfl, rfl, rfl, Or.inr ⟨n, a, s, hk2.mp e8, by rw [← eK]; exact ⟨hP, Or.inl ((nI_eq (by have := hP.2.1.1; omega) (by omega)).mp h17)⟩, rfl, by rw [← eK]; exact hN⟩⟩)
    · refine g_al0 r7_world_20 ?_
      refine g_gfi r7_world_21 xx_54 rfl ?_
      refine g_eqv (y := nI s) hP.1.1 ?_
      refine g_k r7_world_24 ?_
      refine g_eqv (y := nI 9) rfl ?_
      refine g_icne r7_world_26 (fun h26 => ?_) (fun h26 => ?_)
      · refine g_k r7_world_47 ?_
        refine g_is1 r7_world_48 rfl ?_
        refine g_il1 r7_world_49 ?_
        refine g_ifne r7_world_50 (fun hc => absurd rfl hc) (fun _ => ?_)
        refine g_k r7_world_53 ?_
        exact g_iret r7_world_55 rfl ⟨rfl, ⟨rfl, rfl, Or.inl ⟨rfl, hO1, fun q => by
          rw [← eK] at q
          obtain ⟨-, n1, a1, s1, hC⟩ := q
          obtain ⟨rfl, rfl, rfl⟩ := zCp_one hP hC.1
          rcases hC.2 with e | ⟨e, -⟩
          · exact h17 (congrArg nI e)
          · exact h26 (congrArg nI e)⟩⟩⟩
      · refine g_al0 r7_world_29 ?_
        refine g_gfr r7_world_30 xx_54 rfl rr_54_34 ?_
        refine g_al0 r7_world_33 ?_
        refine g_gfi r7_world_34 xx_54 rfl ?_
        refine g_eqv (y := nI a) hP.1.2.2 ?_
        have s9 : s = 9 := (nI_eq (by have := hP.2.1.1; omega) (by omega)).mp h26
        obtain ⟨b, rfl⟩ : ∃ b, a = b + 1 := ⟨a - 1, by have := hP.2.1.2.2.2.2.2.2.1; omega⟩
        have ha10 := hP.2.1.2.2.1
        refine g_k r7_world_37 ?_
        refine g_isub r7_world_38 ?_
        refine g_eqv (y := nI b) (nI_pred b) ?_
        refine g_ialdN r7_world_39 xx_75 (by omega) (by decide) ?_
        refine g_ifleL r7_world_40 (fun h40 => ?_) (fun h40 => ?_)
        · refine g_k r7_world_47 ?_
          refine g_is1 r7_world_48 rfl ?_
          refine g_il1 r7_world_49 ?_
          refine g_ifne r7_world_50 (fun hc => absurd rfl hc) (fun _ => ?_)
          refine g_k r7_world_53 ?_
          exact g_iret r7_world_55 rfl ⟨rfl, ⟨rfl, rfl, Or.inl ⟨rfl, hO1, fun q => by
            rw [← eK] at q
            obtain ⟨-, n1, a1, s1, hC⟩ := q
            obtain ⟨rfl, rfl, rfl⟩ := zCp_one hP hC.1
            rcases hC.2 with e | ⟨e, e0⟩
            · exact h17 (congrArg nI e)
            · exact h40 e0⟩⟩⟩
        · refine g_k r7_world_43 ?_
          refine g_goto r7_world_44 ?_
          refine g_is1 r7_world_48 rfl ?_
          refine g_il1 r7_world_49 ?_
          refine g_ifne r7_world_50 (fun _ => ?_) (fun hc => absurd hc (by decide))
          exact lp7_world_3 hP (fun I1 hN => ⟨rfl, rfl, rfl, Or.inr ⟨n, b + 1, s, hk2.mp e8, by rw [← eK]; exact ⟨hP, Or.inr ⟨s9, h40⟩⟩, rfl, by rw [← eK]; exact hN⟩⟩)
