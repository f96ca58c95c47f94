theorem ev4_allSteps {w v0 e1 e2 : Nat} {h : Int64} {J I : zMI} (W : zWF J) (hR : zRs I J)  : zEr m4_allSteps (zRR w v0 e1 e2) h I [.ref 4] (some (.int (zal J))) (zRR w v0 e1 e2) h I := by
  refine zEp_of [.ref 4] pl4_allSteps (by decide +kernel) (fun _ _ => rfl) (fun _ _ => Nat.le_of_ble_eq_true rfl) ?_
  refine g_k r4_allSteps_0 ?_
  refine g_al0 r4_allSteps_1 ?_
  refine g_gfi r4_allSteps_2 xx_4 rfl ?_
  refine g_eqv (y := J 54 13) hR.1.1 ?_
  refine g_ishl r4_allSteps_5 ?_
  refine g_k r4_allSteps_6 ?_
  refine g_isub r4_allSteps_7 ?_
  exact g_iret r4_allSteps_8 rfl ⟨rfl, ⟨zrt (rfl), rfl, rfl, rfl⟩⟩
theorem zSt_gk {J : zMI} (W : zWF J) {k : Nat} (hk : k < jt J) : z8 (J 64 k) ∧ z8 (J 65 k) ∧ J 64 k &&& J 65 k = 0 := by
  rcases (W.S k hk).2 with ⟨-, f, hf, ⟨h1, h2⟩ | ⟨h1, h2⟩⟩ | ⟨a, ha, -, h1, h2⟩
  · rw [h1, h2]; exact ⟨z8p hf, z80, Int32.and_zero⟩
  · rw [h1, h2]; exact ⟨z80, z8p hf, Int32.zero_and⟩
  · rw [h1, h2]; exact ⟨(W.A a ha).1.2.2.1, (W.A a ha).1.2.2.2, (W.A a ha).2.1⟩
theorem zdS_8 {J : zMI} (W : zWF J) (x S : Int32) : ∀ k, k ≤ jt J → z8 (zdS J x S k)
  | 0, _ => W.f8
  | k + 1, hk => by
    simp only [zdS]
    split
    · exact z8or (zand8 _ (zdS_8 W x S k (by omega))) (zSt_gk W (by omega)).1
    · exact zdS_8 W x S k (by omega)
theorem zdI_0 {J : zMI} {x S : Int32} {k : Nat} (h : zdI J x S k = 0) : ∀ d, zdI J x S (k + d) = 0
  | 0 => h
  | d + 1 => by
    have ih := zdI_0 h d
    show zdI J x S ((k + d) + 1) = 0
    simp only [zdI]
    split
    · rw [if_neg (fun q => q.1 ih)]
    · exact ih
theorem zand_sub {x y : Int32} : x &&& y = y ↔ ∀ i, i < 32 → zBt y i = true → zBt x i = true := by
  constructor
  · intro h i hi hy
    have e := zBt_and x y i
    rw [h, hy, Bool.and_true] at e
    exact e.symm
  · intro h
    apply zBt_ext; intro i hi
    rw [zBt_and]
    have := h i hi
    cases a : zBt x i <;> cases b : zBt y i <;> simp_all
theorem zfin {J : zMI} (W : zWF J) (s : Int32) : (s &&& zgT J (zwi J (J 54 11) (jn J)) = zgT J (zwi J (J 54 11) (jn J)) ∧ s &&& zgF J (zwi J (J 54 11) (jn J)) = 0) ↔ zwi J s (jn J) &&& zwi J (J 54 11) (jn J) = zwi J (J 54 11) (jn J) := by
  have n4 := W.n4
  rw [zgoal W, zand_sub]
  constructor
  · intro hh i hi hb
    have h1 := ((zwi_b (jn J) n4 i hi).mp hb).1
    exact (zwi_b (jn J) n4 i hi).mpr ⟨h1, hh i h1 hb⟩
  · intro hh i hi hb
    exact ((zwi_b (jn J) n4 i (by omega)).mp (hh i (by omega) hb)).2
def zrm (S : Int32) (k : Nat) : Int32 := S &&& ((1 <<< (nI k &&& 31)) ^^^ (-1))
theorem zrm_c {S : Int32} {k i : Nat} (hk : k < 31) (hi : i < 31) : (¬ (zrm S k >>> (nI i &&& 31)) &&& 1 = 0) ↔ (¬ nI i = nI k ∧ S >>> (nI i &&& 31) &&& 1 = 1) := by
  rw [zBt_ne (by omega), zBt_1i (by omega), zrm, zBt_clr S (by omega) (by omega), nI_eq (by omega) (by omega)]
  cases zBt S i <;> simp
theorem zdA0 {J : zMI} {x S : Int32} {k : Nat} (h : zdI J x S k = 0) (hk : k ≤ jt J) : zdu J x S = 0 := by
  unfold zdu
  obtain ⟨d, hd⟩ : ∃ d, jt J = k + d := ⟨jt J - k, by omega⟩
  rw [if_neg (fun q => q.1 (by rw [hd]; exact zdI_0 h d))]
theorem zhol {I J : zMI} (W : zWF J) (hR : zRs I J) {i : Nat} (hi : i < jt J) (s : Int32) : (s &&& I 12 i = I 12 i ∧ s &&& I 13 i = 0) ↔ (J 63 i = -1 ∨ (J 59 (J 63 i).toNatClampNeg &&& (s ^^^ (-1)) = 0 ∧ J 60 (J 63 i).toNatClampNeg &&& s = 0)) := by
  obtain ⟨-, -, h12, h13, -⟩ := hR.2.1 i hi
  rw [h12, h13]
  by_cases e : J 63 i = -1
  · simp [e]
  · simp only [if_neg e, e, false_or]; exact zhc
theorem lp4_isValid {w v0 e1 e2 : Nat} {h : Int64} {J I : zMI} (W : zWF J) (hR : zRs I J) {S yes no : Int32} {k : Nat} (hk : k < 31) (ht30 : jt J ≤ 30) (hyn : ∀ s, (s &&& yes = yes ∧ s &&& no = 0) ↔ zwi J s (jn J) &&& zwi J (J 54 11) (jn J) = zwi J (J 54 11) (jn J)) : ∀ d i, jt J - i < d → i ≤ jt J → ¬ zdI J (nI k) S i = 0 → zGo m4_isValid 9 [.ref 4, .int (zrm S k), .int yes, .int no, .int (zdS J (nI k) S i), .int (nI i)] [] zX (zRR w v0 e1 e2) h I (fun v X1 R1 h1 I1 => X1 = zX ∧ v = some (.int (zdu J (nI k) S)) ∧ R1 = (zRR w v0 e1 e2) ∧ h1 = h ∧ I1 = I) := by
  intro d
  induction d with
  | zero => intro i hd0; exact absurd hd0 (Nat.not_lt_zero _)
  | succ d ih =>
    intro i hd0 hd1 hI
    refine g_il5 r4_isValid_9 ?_
    refine g_al0 r4_isValid_11 ?_
    refine g_gfi r4_isValid_12 xx_4 rfl ?_
    refine g_eqv (y := nI (jt J)) (hR.1.1.trans W.t) ?_
    refine g_icgeN r4_isValid_15 (by omega) (by omega) (fun h15 => ?_) (fun h15 => ?_)
    · refine g_il4 r4_isValid_78 ?_
      refine g_il2 r4_isValid_80 ?_
      refine g_il3 r4_isValid_81 ?_
      refine g_eS3 r4_isValid_82 ok6_holds pl4_isValid pl6_holds (Nat.le_of_ble_eq_true rfl) (ev6_holds) ?_
      obtain rfl : i = jt J := by omega
      exact g_zret r4_isValid_85 rfl (zb_01 _) ⟨rfl, ⟨zrt (by unfold zdu zb; simp only [hyn _, hI, not_false_eq_true, true_and]), rfl, rfl, rfl⟩⟩
    · refine g_il1 r4_isValid_18 ?_
      refine g_il5 r4_isValid_19 ?_
      refine g_eS2 r4_isValid_21 ok6_contains pl4_isValid pl6_contains (Nat.le_of_ble_eq_true rfl) (ev6_contains) ?_
      refine g_ifeqB r4_isValid_24 (fun h24 => ?_) (fun h24 => ?_)
      · refine g_iiN5 r4_isValid_72 rfl ?_
        refine g_goto r4_isValid_75 ?_
        have c : ¬ (¬ nI i = nI k ∧ S >>> (nI i &&& 31) &&& 1 = 1) := mt (zrm_c (by omega) (by omega)).mpr h24
        have e1 : zdS J (nI k) S (i + 1) = zdS J (nI k) S i := by simp only [zdS]; exact if_neg c
        have ih2 := ih (i + 1) (by omega) (by omega) (by simp only [zdI]; rw [if_neg c]; exact hI)
        rw [e1] at ih2
        exact ih2
      · refine g_il4 r4_isValid_27 ?_
        refine g_al0 r4_isValid_29 ?_
        refine g_gfr r4_isValid_30 xx_4 rfl rr_4_7 ?_
        refine g_il5 r4_isValid_33 ?_
        refine g_ialdN r4_isValid_35 xx_12 (by omega) (by decide) ?_
        refine g_al0 r4_isValid_36 ?_
        refine g_gfr r4_isValid_37 xx_4 rfl rr_4_8 ?_
        refine g_il5 r4_isValid_40 ?_
        refine g_ialdN r4_isValid_42 xx_13 (by omega) (by decide) ?_
        refine g_eS3 r4_isValid_43 ok6_holds pl4_isValid pl6_holds (Nat.le_of_ble_eq_true rfl) (ev6_holds) ?_
        have hol := zhol W hR (show i < jt J by omega) (zdS J (nI k) S i)
        refine g_ifneB r4_isValid_46 (fun h46 => ?_) (fun h46 => ?_)
        · refine g_il4 r4_isValid_51 ?_
          refine g_al0 r4_isValid_53 ?_
          refine g_gfr r4_isValid_54 xx_4 rfl rr_4_9 ?_
          refine g_il5 r4_isValid_57 ?_
          refine g_ialdN r4_isValid_59 xx_14 (by omega) (by decide) ?_
          refine g_eqv (y := J 64 i) (hR.2.1 i (by omega)).2.2.2.2.1 ?_
          refine g_al0 r4_isValid_60 ?_
          refine g_gfr r4_isValid_61 xx_4 rfl rr_4_10 ?_
          refine g_il5 r4_isValid_64 ?_
          refine g_ialdN r4_isValid_66 xx_15 (by omega) (by decide) ?_
          refine g_eqv (y := J 65 i) (hR.2.1 i (by omega)).2.2.2.2.2 ?_
          refine g_eS3 r4_isValid_67 ok6_changed pl4_isValid pl6_changed (Nat.le_of_ble_eq_true rfl) (ev6_changed) ?_
          refine g_eqv (y := zdS J (nI k) S (i + 1)) (by simp only [zdS]; rw [if_pos ((zrm_c (by omega) (by omega)).mp h24)]; exact zchg (zdS_8 W _ _ _ (by omega)) (zSt_gk W (by omega)).1 (zSt_gk W (by omega)).2.2) ?_
          refine g_is4 r4_isValid_70 rfl ?_
          refine g_iiN5 r4_isValid_72 rfl ?_
          refine g_goto r4_isValid_75 ?_
          exact ih (i + 1) (by omega) (by omega) (by simp only [zdI]; rw [if_pos ((zrm_c (by omega) (by omega)).mp h24), if_pos ⟨hI, hol.mp h46⟩]; decide)
        · refine g_k r4_isValid_49 ?_
          exact g_zret r4_isValid_50 rfl (Or.inl rfl) ⟨rfl, ⟨zrt ((zdA0 (k := i + 1) (by simp only [zdI]; rw [if_pos ((zrm_c (by omega) (by omega)).mp h24), if_neg (fun q => h46 (hol.mpr q.2))]) (by omega)).symm), rfl, rfl, rfl⟩⟩
theorem ev4_isValid {w v0 e1 e2 : Nat} {h : Int64} {J I : zMI} (W : zWF J) (hR : zRs I J) {S yes no : Int32} {k : Nat} (hk : k < 31) (hyn : ∀ s, (s &&& yes = yes ∧ s &&& no = 0) ↔ zwi J s (jn J) &&& zwi J (J 54 11) (jn J) = zwi J (J 54 11) (jn J)) : zEr m4_isValid (zRR w v0 e1 e2) h I [.ref 4, .int (zrm S k), .int yes, .int no] (some (.int (zdu J (nI k) S))) (zRR w v0 e1 e2) h I := by
  refine zEp_of [.ref 4, .int (zrm S k), .int yes, .int no, .null, .null] pl4_isValid (by decide +kernel) (fun _ _ => rfl) (fun _ _ => Nat.le_of_ble_eq_true rfl) ?_
  refine g_al0 r4_isValid_0 ?_
  refine g_gfi r4_isValid_1 xx_4 rfl ?_
  refine g_eqv (y := J 54 4) hR.1.2.2.2 ?_
  refine g_is4 r4_isValid_4 rfl ?_
  refine g_k r4_isValid_6 ?_
  refine g_is5 r4_isValid_7 rfl ?_
  exact lp4_isValid W hR hk W.t30 hyn (jt J + 1) 0 (by omega) (by omega) (by simp only [zdI]; decide)
def zcd (J : zMI) (k : Nat) (S : Int32) : Int32 := if S >>> (nI k &&& 31) &&& 1 = 1 ∧ ¬ zdu J (nI k) S = 0 then 1 else 0
theorem ev4_isDull {w v0 e1 e2 : Nat} {h : Int64} {J I : zMI} (W : zWF J) (hR : zRs I J) {S yes no : Int32} {k : Nat} (hk : k < 31) (hyn : ∀ s, (s &&& yes = yes ∧ s &&& no = 0) ↔ zwi J s (jn J) &&& zwi J (J 54 11) (jn J) = zwi J (J 54 11) (jn J)) : zEr m4_isDull (zRR w v0 e1 e2) h I [.ref 4, .int (nI k), .int S, .int yes, .int no] (some (.int (zcd J k S))) (zRR w v0 e1 e2) h I := by
  refine zEp_of [.ref 4, .int (nI k), .int S, .int yes, .int no] pl4_isDull (by decide +kernel) (fun _ _ => rfl) (fun _ _ => Nat.le_of_ble_eq_true rfl) ?_
  refine g_il2 r4_isDull_0 ?_
  refine g_il1 r4_isDull_1 ?_
  refine g_eS2 r4_isDull_2 ok6_contains pl4_isDull pl6_contains (Nat.le_of_ble_eq_true rfl) (ev6_contains) ?_
  refine g_ifeqB r4_isDull_5 (fun h5 => ?_) (fun h5 => ?_)
  · refine g_k r4_isDull_29 ?_
    exact g_zret r4_isDull_30 rfl (Or.inl rfl) ⟨rfl, ⟨zrt (by unfold zcd; rw [if_neg (fun q => h5 ((zcn (by omega)).mpr q.1))]), rfl, rfl, rfl⟩⟩
  · refine g_al0 r4_isDull_8 ?_
    refine g_il2 r4_isDull_9 ?_
    refine g_k r4_isDull_10 ?_
    refine g_il1 r4_isDull_11 ?_
    refine g_ishl r4_isDull_12 ?_
    refine g_k r4_isDull_13 ?_
    refine g_ixor r4_isDull_14 ?_
    refine g_iand r4_isDull_15 ?_
    refine g_il3 r4_isDull_16 ?_
    refine g_il4 r4_isDull_17 ?_
    refine g_eV3 r4_isDull_19 ok4_isValid pl4_isDull pl4_isValid xx_4 (Nat.le_of_ble_eq_true rfl) (ev4_isValid (S := S) W hR hk hyn) ?_
    refine g_ifeq r4_isDull_22 (fun h22 => ?_) (fun h22 => ?_)
    · refine g_k r4_isDull_29 ?_
      exact g_zret r4_isDull_30 rfl (Or.inl rfl) ⟨rfl, ⟨zrt (by unfold zcd; rw [if_neg (fun q => q.2 h22)]), rfl, rfl, rfl⟩⟩
    · refine g_k r4_isDull_25 ?_
      refine g_goto r4_isDull_26 ?_
      exact g_zret r4_isDull_30 rfl (Or.inr rfl) ⟨rfl, ⟨zrt (by unfold zcd; rw [if_pos ⟨(zcn (by omega)).mp h5, h22⟩]), rfl, rfl, rfl⟩⟩
