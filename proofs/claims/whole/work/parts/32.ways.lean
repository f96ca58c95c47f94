/-- ways: how many sequences of acts of a length lead from a state to all goals -/
def zwsm (J : zMI) (F : Nat → Nat) (s : Nat) : Nat → Nat
  | 0 => 0
  | a + 1 => zwsm J F s a + (if J 59 a &&& (nI s ^^^ (-1)) = 0 ∧ J 60 a &&& nI s = 0 then F (zNx J a s) else 0)
def zwst (J : zMI) (F : Nat → Nat) (s : Nat) : Nat := zwsm J F s (jm J) % 1000000
def zwF (J : zMI) : Nat → Nat → Nat
  | 0 => fun s => if zwi J (nI s) (jn J) = 1 <<< (nI (jn J) &&& 31) - 1 then 1 else 0
  | k + 1 => zwst J (zwF J k)
theorem zwF_lt (J : zMI) : ∀ k s, zwF J k s < 1000000
  | 0, s => by simp only [zwF]; split <;> omega
  | k + 1, s => Nat.mod_lt _ (by omega)
theorem zwsm_le {J : zMI} {F : Nat → Nat} (hF : ∀ s, F s < 1000000) (s : Nat) : ∀ a, zwsm J F s a ≤ a * 1000000
  | 0 => by simp [zwsm]
  | a + 1 => by
    have h1 := zwsm_le (J := J) hF s a
    have h2 := hF (zNx J a s)
    simp only [zwsm]
    have h3 : (if J 59 a &&& (nI s ^^^ (-1)) = 0 ∧ J 60 a &&& nI s = 0 then F (zNx J a s) else 0) ≤ 1000000 := by
      by_cases q : J 59 a &&& (nI s ^^^ (-1)) = 0 ∧ J 60 a &&& nI s = 0
      · rw [if_pos q]; exact Nat.le_of_lt h2
      · rw [if_neg q]; exact Nat.zero_le _
    rw [Nat.succ_mul]
    exact Nat.add_le_add h1 h3
theorem lp7_layMore_a {w v0 e1 e2 : Nat} {h : Int64} {P : zPost} {J : zMI} (W : zWF J) {I : zMI} (hO : zOx J I) (hm10 : jm J ≤ 10) {F : Nat → Nat} (hF : ∀ s, F s < 1000000) (h82 : ∀ s, s < 256 → I 82 s = nI (F s)) {i : Nat} (hi : i < 256) (hend : ∀ y : Value, zGo m7_layMore 54 [.ref 54, .int (nI i), .int (nI (zwsm J F i (jm J))), y] [] zX (zRR w v0 e1 e2) h I P) : ∀ d a, jm J - a < d → a ≤ jm J → zGo m7_layMore 13 [.ref 54, .int (nI i), .int (nI (zwsm J F i a)), .int (nI a)] [] zX (zRR w v0 e1 e2) h I P := by
  intro d
  induction d with
  | zero => intro a hd0; exact absurd hd0 (Nat.not_lt_zero _)
  | succ d ih =>
    intro a hd0 hd1
    refine g_il3 r7_layMore_13 ?_
    refine g_al0 r7_layMore_14 ?_
    refine g_gfi r7_layMore_15 xx_54 rfl ?_
    refine g_eqv (y := nI (jm J)) ((hO.f 5 (by decide)).trans W.m) ?_
    refine g_icgeN r7_layMore_18 (by omega) (by omega) (fun h18 => ?_) (fun h18 => ?_)
    · rw [show a = jm J by omega]
      exact hend _
    · refine g_il2 r7_layMore_21 ?_
      refine g_al0 r7_layMore_22 ?_
      refine g_il3 r7_layMore_23 ?_
      refine g_il1 r7_layMore_24 ?_
      refine g_eV2 r7_layMore_25 ok7_canDo pl7_layMore pl7_canDo xx_54 (Nat.le_of_ble_eq_true rfl) (el7_canDo hO (by omega)) ?_
      refine g_ifeqB r7_layMore_28 (fun h28 => ?_) (fun h28 => ?_)
      · refine g_k r7_layMore_45 ?_
        refine g_iadd r7_layMore_46 ?_
        refine g_eqv (y := nI (zwsm J F i (a + 1))) (by simp only [zwsm]; rw [if_neg h28]; exact Int32.add_zero _) ?_
        refine g_is2 r7_layMore_47 rfl ?_
        refine g_iiN3 r7_layMore_48 rfl ?_
        refine g_goto r7_layMore_51 ?_
        exact ih (a + 1) (by omega) (by omega)
      · refine g_al0 r7_layMore_31 ?_
        refine g_gfr r7_layMore_32 xx_54 rfl rr_54_42 ?_
        refine g_al0 r7_layMore_35 ?_
        refine g_il3 r7_layMore_36 ?_
        refine g_il1 r7_layMore_37 ?_
        refine g_eV2 r7_layMore_38 ok7_behind pl7_layMore pl7_behind xx_54 (Nat.le_of_ble_eq_true rfl) (el7_behind hO (by omega)) ?_
        refine g_eqv (y := nI (zNx J a i)) (zNx_spec W.A8 (by omega) hi).1 ?_
        refine g_ialdN r7_layMore_41 xx_82 (zNx_spec W.A8 (by omega) hi).2 (by decide) ?_
        refine g_eqv (y := nI (F (zNx J a i))) (h82 _ (zNx_spec W.A8 (by omega) hi).2) ?_
        refine g_goto r7_layMore_42 ?_
        refine g_iadd r7_layMore_46 ?_
        refine g_eqv (y := nI (zwsm J F i (a + 1))) (by rw [nI_add]; simp only [zwsm]; rw [if_pos h28]) ?_
        refine g_is2 r7_layMore_47 rfl ?_
        refine g_iiN3 r7_layMore_48 rfl ?_
        refine g_goto r7_layMore_51 ?_
        exact ih (a + 1) (by omega) (by omega)
theorem lp7_layMore_1 {w v0 e1 e2 : Nat} {h : Int64} {P : zPost} {J : zMI} (W : zWF J) {F : Nat → Nat} (hF : ∀ s, F s < 1000000) (hend : ∀ I (x y z : Value), zOx J I → (∀ s, s < 256 → I 83 s = nI (zwst J F s)) → zGo m7_layMore 71 [.ref 54, x, y, z] [] zX (zRR w v0 e1 e2) h I P) : ∀ d i I (y z : Value), 256 - i < d → i ≤ 256 → zOx J I → (∀ s, s < 256 → I 82 s = nI (F s)) → (∀ s, s < i → I 83 s = nI (zwst J F s)) → zGo m7_layMore 2 [.ref 54, .int (nI i), y, z] [] zX (zRR w v0 e1 e2) h I P := by
  intro d
  induction d with
  | zero => intro i I y z hd0; exact absurd hd0 (Nat.not_lt_zero _)
  | succ d ih =>
    intro i I y z hd0 hd1 hO h82 h83
    refine g_il1 r7_layMore_2 ?_
    refine g_k r7_layMore_3 ?_
    refine g_eqv (y := nI 256) rfl ?_
    refine g_icgeN r7_layMore_6 (by omega) (by omega) (fun h6 => ?_) (fun h6 => ?_)
    · rw [show i = 256 by omega] at h83
      exact hend I _ _ _ hO h83
    · refine g_k r7_layMore_9 ?_
      refine g_is2 r7_layMore_10 rfl ?_
      refine g_k r7_layMore_11 ?_
      refine g_is3 r7_layMore_12 rfl ?_
      refine lp7_layMore_a W hO W.m10 hF h82 h6 (fun y => ?_) (jm J + 1) 0 (by omega) (by omega)
      refine g_al0 r7_layMore_54 ?_
      refine g_gfr r7_layMore_55 xx_54 rfl rr_54_43 ?_
      refine g_il1 r7_layMore_58 ?_
      refine g_il2 r7_layMore_59 ?_
      refine g_k r7_layMore_60 ?_
      refine g_irem r7_layMore_63 (by decide) ?_
      refine g_eqv (y := nI (zwst J F i)) (pk_rem (d := 1000000) (by have := zwsm_le (J := J) hF i (jm J); have := W.m10; omega) (by omega) (by omega)) ?_
      refine g_iastN r7_layMore_64 xx_83 (by omega) (by decide) ?_
      refine g_iiN1 r7_layMore_65 rfl ?_
      refine g_goto r7_layMore_68 ?_
      refine ih (i + 1) _ _ _ (by omega) (by omega) (hO.trans (zOx_row I 83 _ (by omega) (by omega))) (fun s hs => by rw [zs_o _ _ (by decide)]; exact h82 s hs) (fun k hk => ?_)
      rw [zs_eq]; simp only [upd_ap]
      by_cases e : k = i
      · rw [if_pos e, e]
      · rw [if_neg e]; exact h83 k (by omega)
theorem lp7_layMore_2 {w v0 e1 e2 : Nat} {h : Int64} {J : zMI} {F : Nat → Nat} {y z : Value} : ∀ d i I, 256 - i < d → i ≤ 256 → zOx J I → (∀ s, s < 256 → I 83 s = nI (zwst J F s)) → (∀ s, s < i → I 82 s = nI (zwst J F s)) → zGo m7_layMore 73 [.ref 54, .int (nI i), y, z] [] zX (zRR w v0 e1 e2) h I (fun v X1 R1 h1 I1 => X1 = zX ∧ (fun v R1 h1 I1 => v = none ∧ R1 = (zRR w v0 e1 e2) ∧ h1 = h ∧ zOx J I1 ∧ ∀ s, s < 256 → I1 82 s = nI (zwst J F s)) v R1 h1 I1) := by
  intro d
  induction d with
  | zero => intro i I hd0; exact absurd hd0 (Nat.not_lt_zero _)
  | succ d ih =>
    intro i I hd0 hd1 hO h83 h82
    refine g_il1 r7_layMore_73 ?_
    refine g_k r7_layMore_74 ?_
    refine g_eqv (y := nI 256) rfl ?_
    refine g_icgeN r7_layMore_77 (by omega) (by omega) (fun h77 => ?_) (fun h77 => ?_)
    · exact g_vret r7_layMore_98 rfl ⟨rfl, ⟨rfl, rfl, rfl, hO, fun s hs => h82 s (by omega)⟩⟩
    · refine g_al0 r7_layMore_80 ?_
      refine g_gfr r7_layMore_81 xx_54 rfl rr_54_42 ?_
      refine g_il1 r7_layMore_84 ?_
      refine g_al0 r7_layMore_85 ?_
      refine g_gfr r7_layMore_86 xx_54 rfl rr_54_43 ?_
      refine g_il1 r7_layMore_89 ?_
      refine g_ialdN r7_layMore_90 xx_83 (by omega) (by decide) ?_
      refine g_eqv (y := nI (zwst J F i)) (h83 i (by omega)) ?_
      refine g_iastN r7_layMore_91 xx_82 (by omega) (by decide) ?_
      refine g_iiN1 r7_layMore_92 rfl ?_
      refine g_goto r7_layMore_95 ?_
      refine ih (i + 1) _ (by omega) (by omega) (hO.trans (zOx_row I 82 _ (by omega) (by omega))) (fun s hs => by rw [zs_o _ _ (by decide)]; exact h83 s hs) (fun k hk => ?_)
      rw [zs_eq]; simp only [upd_ap]
      by_cases e : k = i
      · rw [if_pos e, e]
      · rw [if_neg e]; exact h82 k (by omega)
theorem el7_layMore {w v0 e1 e2 : Nat} {h : Int64} {J I : zMI} (hO : zOx J I) (W : zWF J) {F : Nat → Nat} (hF : ∀ s, F s < 1000000) (h82 : ∀ s, s < 256 → I 82 s = nI (F s)) : zEp m7_layMore (zRR w v0 e1 e2) h I [.ref 54] (fun v R1 h1 I1 => v = none ∧ R1 = (zRR w v0 e1 e2) ∧ h1 = h ∧ zOx J I1 ∧ ∀ s, s < 256 → I1 82 s = nI (zwst J F s)) := by
  refine zEp_of [.ref 54, .null, .null, .null] pl7_layMore (by decide +kernel) (fun _ _ => rfl) (fun _ _ => Nat.le_of_ble_eq_true rfl) ?_
  refine g_k r7_layMore_0 ?_
  refine g_is1 r7_layMore_1 rfl ?_
  refine lp7_layMore_1 W hF (fun I x y z hO h83 => ?_) 257 0 I _ _ (by omega) (by omega) hO h82 (fun s hs => absurd hs (Nat.not_lt_zero s))
  refine g_k r7_layMore_71 ?_
  refine g_is1 r7_layMore_72 rfl ?_
  exact lp7_layMore_2 257 0 I (by omega) (by omega) hO h83 (fun s hs => absurd hs (Nat.not_lt_zero s))
theorem lp7_waysNow_1 {w v0 e1 e2 : Nat} {h : Int64} {P : zPost} {J : zMI} (W : zWF J) {x : Int32} (hend : ∀ I (y : Value), zOx J I → (∀ s, s < 256 → I 82 s = nI (zwF J 0 s)) → zGo m7_waysNow 42 [.ref 54, .int x, y] [] zX (zRR w v0 e1 e2) h I P) : ∀ d i I, 256 - i < d → i ≤ 256 → zOx J I → (∀ s, s < i → I 82 s = nI (zwF J 0 s)) → zGo m7_waysNow 2 [.ref 54, .int x, .int (nI i)] [] zX (zRR w v0 e1 e2) h I P := by
  intro d
  induction d with
  | zero => intro i I hd0; exact absurd hd0 (Nat.not_lt_zero _)
  | succ d ih =>
    intro i I hd0 hd1 hO h82
    refine g_il2 r7_waysNow_2 ?_
    refine g_k r7_waysNow_3 ?_
    refine g_eqv (y := nI 256) rfl ?_
    refine g_icgeN r7_waysNow_6 (by omega) (by omega) (fun h6 => ?_) (fun h6 => ?_)
    · exact hend I _ hO (fun s hs => h82 s (by omega))
    · refine g_al0 r7_waysNow_9 ?_
      refine g_gfr r7_waysNow_10 xx_54 rfl rr_54_42 ?_
      refine g_il2 r7_waysNow_13 ?_
      refine g_al0 r7_waysNow_14 ?_
      refine g_il2 r7_waysNow_15 ?_
      refine g_eV1 r7_waysNow_16 ok7_wantsIn pl7_waysNow pl7_wantsIn xx_54 (Nat.le_of_ble_eq_true rfl) (el7_wantsIn hO W) ?_
      refine g_k r7_waysNow_19 ?_
      refine g_al0 r7_waysNow_20 ?_
      refine g_gfi r7_waysNow_21 xx_54 rfl ?_
      refine g_eqv (y := nI (jn J)) ((hO.f 0 (by decide)).trans W.n) ?_
      refine g_ishl r7_waysNow_24 ?_
      refine g_k r7_waysNow_25 ?_
      refine g_isub r7_waysNow_26 ?_
      refine g_icne r7_waysNow_27 (fun h27 => ?_) (fun h27 => ?_)
      · refine g_k r7_waysNow_34 ?_
        refine g_iastN r7_waysNow_35 xx_82 (by omega) (by decide) ?_
        refine g_iiN2 r7_waysNow_36 rfl ?_
        refine g_goto r7_waysNow_39 ?_
        refine ih (i + 1) _ (by omega) (by omega) (hO.trans (zOx_row I 82 _ (by omega) (by omega))) (fun k hk => ?_)
        rw [zs_eq]; simp only [upd_ap]
        by_cases e : k = i
        · rw [if_pos e, e]; simp only [zwF]; rw [if_neg h27]; rfl
        · rw [if_neg e]; exact h82 k (by omega)
      · refine g_k r7_waysNow_30 ?_
        refine g_goto r7_waysNow_31 ?_
        refine g_iastN r7_waysNow_35 xx_82 (by omega) (by decide) ?_
        refine g_iiN2 r7_waysNow_36 rfl ?_
        refine g_goto r7_waysNow_39 ?_
        refine ih (i + 1) _ (by omega) (by omega) (hO.trans (zOx_row I 82 _ (by omega) (by omega))) (fun k hk => ?_)
        rw [zs_eq]; simp only [upd_ap]
        by_cases e : k = i
        · rw [if_pos e, e]; simp only [zwF]; rw [if_pos h27]; rfl
        · rw [if_neg e]; exact h82 k (by omega)
theorem lp7_waysNow_2 {w v0 e1 e2 : Nat} {h : Int64} {J : zMI} (W : zWF J) {n : Nat} (hn : n ≤ 12) : ∀ d i I, n - i < d → i ≤ n → zOx J I → (∀ s, s < 256 → I 82 s = nI (zwF J i s)) → zGo m7_waysNow 44 [.ref 54, .int (nI n), .int (nI i)] [] zX (zRR w v0 e1 e2) h I (fun v X1 R1 h1 I1 => X1 = zX ∧ (fun v R1 h1 I1 => v = (some (.int (nI (zwF J n (js J))))) ∧ R1 = (zRR w v0 e1 e2) ∧ h1 = h ∧ zOx J I1) v R1 h1 I1) := by
  intro d
  induction d with
  | zero => intro i I hd0; exact absurd hd0 (Nat.not_lt_zero _)
  | succ d ih =>
    intro i I hd0 hd1 hO h82
    refine g_il2 r7_waysNow_44 ?_
    refine g_il1 r7_waysNow_45 ?_
    refine g_icgeN r7_waysNow_46 (by omega) (by omega) (fun h46 => ?_) (fun h46 => ?_)
    · refine g_al0 r7_waysNow_59 ?_
      refine g_gfr r7_waysNow_60 xx_54 rfl rr_54_42 ?_
      refine g_al0 r7_waysNow_63 ?_
      refine g_gfi r7_waysNow_64 xx_54 rfl ?_
      refine g_eqv (y := nI (js J)) ((hO.f 11 (by decide)).trans W.s) ?_
      refine g_ialdN r7_waysNow_67 xx_82 W.s8 (by decide) ?_
      exact g_iret r7_waysNow_68 rfl ⟨rfl, ⟨zrt (by rw [h82 _ W.s8, show i = n by omega]), rfl, rfl, hO⟩⟩
    · refine g_al0 r7_waysNow_49 ?_
      refine g_cV0 r7_waysNow_50 ok7_layMore pl7_waysNow pl7_layMore xx_54 (Nat.le_of_ble_eq_true rfl) (el7_layMore hO W (zwF_lt J i) h82) (fun v' R' h' I1 ⟨q1, q2, q3, hO1, h821⟩ => ?_)
      subst q1; subst q2; subst q3
      refine g_iiN2 r7_waysNow_53 rfl ?_
      refine g_goto r7_waysNow_56 ?_
      exact ih (i + 1) I1 (by omega) (by omega) hO1 h821
theorem el7_waysNow {w v0 e1 e2 : Nat} {h : Int64} {J I : zMI} (hO : zOx J I) (W : zWF J) {n : Nat} (hn : n ≤ 12) : zEp m7_waysNow (zRR w v0 e1 e2) h I [.ref 54, .int (nI n)] (fun v R1 h1 I1 => v = (some (.int (nI (zwF J n (js J))))) ∧ R1 = (zRR w v0 e1 e2) ∧ h1 = h ∧ zOx J I1) := by
  refine zEp_of [.ref 54, .int (nI n), .null] pl7_waysNow (by decide +kernel) (fun _ _ => rfl) (fun _ _ => Nat.le_of_ble_eq_true rfl) ?_
  refine g_k r7_waysNow_0 ?_
  refine g_is2 r7_waysNow_1 rfl ?_
  refine lp7_waysNow_1 W (fun I y hO h82 => ?_) 257 0 I (by omega) (by omega) hO (fun s hs => absurd hs (Nat.not_lt_zero s))
  refine g_k r7_waysNow_42 ?_
  refine g_is2 r7_waysNow_43 rfl ?_
  exact lp7_waysNow_2 W hn (n + 1) 0 I (by omega) (by omega) hO h82
def zwyR (J : zMI) (x : Int32) : Int32 := if 0 < J 54 5 then (if ¬ x < 0 ∧ ¬ 12 < x then nI (zwF J x.toNatClampNeg (js J)) else -102) else -103
theorem el7_ways {w v0 e1 e2 : Nat} {h : Int64} {J I : zMI} (hO : zOx J I) (W : zWF J) {x : Int32} : zEp m7_ways (zRR w v0 e1 e2) h I [.ref 54, .int x] (fun v R1 h1 I1 => v = (some (.int (zwyR J x))) ∧ R1 = (zRR w v0 e1 e2) ∧ h1 = h ∧ zOx (J) I1) := by
  refine zEp_of [.ref 54, .int x] pl7_ways (by decide +kernel) (fun _ _ => rfl) (fun _ _ => Nat.le_of_ble_eq_true rfl) ?_
  refine g_al0 r7_ways_0 ?_
  refine g_eV0 r7_ways_1 ok7_isWorld pl7_ways pl7_isWorld xx_54 (Nat.le_of_ble_eq_true rfl) (el7_isWorld hO) ?_
  refine g_ifneB r7_ways_4 (fun h4 => ?_) (fun h4 => ?_)
  · refine g_il1 r7_ways_10 ?_
    refine g_k r7_ways_11 ?_
    refine g_k r7_ways_12 ?_
    refine g_eS3 r7_ways_14 ok7_within pl7_ways pl7_within (Nat.le_of_ble_eq_true rfl) (ev7_within) ?_
    refine g_ifeqB r7_ways_17 (fun h17 => ?_) (fun h17 => ?_)
    · refine g_k r7_ways_28 ?_
      exact g_iret r7_ways_30 rfl ⟨rfl, ⟨zrt (by unfold zwyR; rw [if_pos h4, if_neg h17]), rfl, rfl, hO⟩⟩
    · obtain ⟨k, hk, rfl⟩ : ∃ k : Nat, k ≤ 12 ∧ x = nI k := nI_of2 (M := 12) rfl h17.1 (Int32.not_lt.mp h17.2)
      refine g_al0 r7_ways_20 ?_
      refine g_il1 r7_ways_21 ?_
      refine g_cV1 r7_ways_22 ok7_waysNow pl7_ways pl7_waysNow xx_54 (Nat.le_of_ble_eq_true rfl) (el7_waysNow hO W hk) (fun v' R' h' I1 ⟨q1, q2, q3, hO1⟩ => ?_)
      subst q1; subst q2; subst q3
      refine g_goto r7_ways_25 ?_
      exact g_iret r7_ways_30 rfl ⟨rfl, ⟨zrt (by unfold zwyR; rw [if_pos h4, if_pos h17, nI_clamp (by omega)]), rfl, rfl, hO1⟩⟩
  · refine g_k r7_ways_7 ?_
    exact g_iret r7_ways_9 rfl ⟨rfl, ⟨zrt (by unfold zwyR; rw [if_neg h4]), rfl, rfl, hO⟩⟩
