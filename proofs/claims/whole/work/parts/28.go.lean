theorem zadN_o (J : zMI) (t : Nat) (x g k : Int32) {c : Nat} (h : ¬ c = 54) (h' : c < 63 ∨ 67 < c) : zadN J t x g k c = J c := by
  simp only [zadN, zs_ap, if_neg h, if_neg (show ¬ c = 63 by omega), if_neg (show ¬ c = 64 by omega), if_neg (show ¬ c = 65 by omega), if_neg (show ¬ c = 66 by omega), if_neg (show ¬ c = 67 by omega)]
theorem zadN_f (J : zMI) (t : Nat) (x g k : Int32) {j : Nat} (h : ¬ j = 11) (h' : ¬ j = 13) : zadN J t x g k 54 j = J 54 j := by
  simp only [zadN, zs_ap, upd_ap, if_true, if_neg h, if_neg h']
theorem zadN_11 (J : zMI) (t : Nat) (x g k : Int32) : zadN J t x g k 54 11 = (J 54 11 &&& (k ^^^ (-1))) ||| g := by simp [zadN, zs_ap, upd_ap]
theorem zadN_63 (J : zMI) (t : Nat) (x g k : Int32) : zadN J t x g k 63 = upd (J 63) t x := by simp [zadN, zs_ap]
theorem zadN_64 (J : zMI) (t : Nat) (x g k : Int32) : zadN J t x g k 64 = upd (J 64) t g := by simp [zadN, zs_ap]
theorem zadN_65 (J : zMI) (t : Nat) (x g k : Int32) : zadN J t x g k 65 = upd (J 65) t k := by simp [zadN, zs_ap]
theorem zadN_66 (J : zMI) (t : Nat) (x g k : Int32) : zadN J t x g k 66 = upd (J 66) t ((J 54 11 &&& (k ^^^ (-1))) ||| g) := by simp [zadN, zs_ap]
theorem zadN_67 (J : zMI) (t : Nat) (x g k : Int32) : zadN J t x g k 67 = upd (J 67) t (J 54 12) := by simp [zadN, zs_ap]
/-- what a step may be -/
def zStO (J : zMI) (x g k : Int32) : Prop := (x = -1 ∧ ∃ f, f < 8 ∧ ((g = nI (2 ^ f) ∧ k = 0) ∨ (g = 0 ∧ k = nI (2 ^ f)))) ∨ ∃ a, a < jm J ∧ x = nI a ∧ g = J 61 a ∧ k = J 62 a
theorem zStO_8 {J : zMI} (W : zWF J) {x g k : Int32} (h : zStO J x g k) : z8 g ∧ z8 k := by
  rcases h with ⟨-, f, hf, ⟨rfl, rfl⟩ | ⟨rfl, rfl⟩⟩ | ⟨a, ha, -, rfl, rfl⟩
  · exact ⟨z8p hf, z80⟩
  · exact ⟨z80, z8p hf⟩
  · exact ⟨(W.A a ha).1.2.2.1, (W.A a ha).1.2.2.2⟩
theorem zj8 {x : Int32} (h : z8 x) : x = nI x.toNatClampNeg ∧ x.toNatClampNeg < 256 := by
  obtain ⟨m, h1, rfl⟩ := h
  rw [nI_clamp (by omega)]; exact ⟨rfl, h1⟩
theorem zWF_ad {J : zMI} (W : zWF J) (ht : jt J < 30) {x g k : Int32} (hs : zStO J x g k) (hm : 0 < jm J) : zWF (zadN J (jt J) x g k) := by
  have e11 : z8 ((J 54 11 &&& (k ^^^ (-1))) ||| g) := z8or (zand8 _ (W.s ▸ zn8 W.s8)) (zStO_8 W hs).1
  have en : jn (zadN J (jt J) x g k) = jn J := by unfold jn; rw [zadN_f _ _ _ _ _ (by decide) (by decide)]
  have em : jm (zadN J (jt J) x g k) = jm J := by unfold jm; rw [zadN_f _ _ _ _ _ (by decide) (by decide)]
  have eu : ju (zadN J (jt J) x g k) = ju J := by unfold ju; rw [zadN_f _ _ _ _ _ (by decide) (by decide)]
  have eL : jL (zadN J (jt J) x g k) = jL J := by unfold jL; rw [zadN_f _ _ _ _ _ (by decide) (by decide)]
  have et' : zadN J (jt J) x g k 54 13 = nI (jt J + 1) := by rw [zadN_t, W.t, nI_1]
  have et : jt (zadN J (jt J) x g k) = jt J + 1 := by unfold jt; rw [show (zadN J (J 54 13).toNatClampNeg x g k) 54 13 = nI (jt J + 1) from et']; rw [nI_clamp (by omega)]; rfl
  simp only [zWF, en, em, eu, eL, et]
  simp only [zadN_f _ _ _ _ _ (show ¬ 0 = 11 by decide) (show ¬ 0 = 13 by decide), zadN_f _ _ _ _ _ (show ¬ 5 = 11 by decide) (show ¬ 5 = 13 by decide), zadN_f _ _ _ _ _ (show ¬ 12 = 11 by decide) (show ¬ 12 = 13 by decide), zadN_f _ _ _ _ _ (show ¬ 19 = 11 by decide) (show ¬ 19 = 13 by decide), zadN_f _ _ _ _ _ (show ¬ 4 = 11 by decide) (show ¬ 4 = 13 by decide), zadN_o _ _ _ _ _ (show ¬ 56 = 54 by decide) (by decide), zadN_o _ _ _ _ _ (show ¬ 57 = 54 by decide) (by decide), zadN_o _ _ _ _ _ (show ¬ 58 = 54 by decide) (by decide), zadN_o _ _ _ _ _ (show ¬ 59 = 54 by decide) (by decide), zadN_o _ _ _ _ _ (show ¬ 60 = 54 by decide) (by decide), zadN_o _ _ _ _ _ (show ¬ 61 = 54 by decide) (by decide), zadN_o _ _ _ _ _ (show ¬ 62 = 54 by decide) (by decide), zadN_o _ _ _ _ _ (show ¬ 68 = 54 by decide) (by decide), et', zadN_63, zadN_64, zadN_65, zadN_66]
  refine ⟨W.n, W.n4, W.m, W.m10, trivial, by omega, ?_, ?_, W.u, W.u31, W.L, W.L90, W.f8, W.A, W.P, ?_, W.G, W.mn, fun q => absurd q (by omega)⟩
  · unfold js; rw [zadN_11]; exact (zj8 e11).1
  · unfold js; rw [zadN_11]; exact (zj8 e11).2
  · intro i hi
    simp only [upd_ap]
    by_cases e : i = jt J
    · simp only [if_pos e]
      exact ⟨e11, hs⟩
    · simp only [if_neg e]
      exact W.S i (by omega)
theorem zWF_tk {J : zMI} (W : zWF J) (hu : ju J + 1 < 2 ^ 31) : zWF (ztk J) := by
  have eo : ∀ c, ¬ c = 54 → ztk J c = J c := fun c hc => by simp only [ztk, zs_ap, if_neg hc]
  have ef : ∀ j, ¬ j = 12 → ¬ j = 22 → ztk J 54 j = J 54 j := fun j h1 h2 => by simp only [ztk, zs_ap, upd_ap, if_true, if_neg h1, if_neg h2]
  have en : jn (ztk J) = jn J := by unfold jn; rw [ef _ (by decide) (by decide)]
  have em : jm (ztk J) = jm J := by unfold jm; rw [ef _ (by decide) (by decide)]
  have et : jt (ztk J) = jt J := by unfold jt; rw [ef _ (by decide) (by decide)]
  have es : js (ztk J) = js J := by unfold js; rw [ef _ (by decide) (by decide)]
  have eL : jL (ztk J) = jL J := by unfold jL; rw [ef _ (by decide) (by decide)]
  have eu' : ztk J 54 12 = nI (ju J + 1) := by simp only [ztk, zs_ap, upd_ap, if_true]; rw [if_neg (by decide), W.u, nI_1]
  have eu : ju (ztk J) = ju J + 1 := by unfold ju; rw [show (ztk J) 54 12 = nI (ju J + 1) from eu', nI_clamp (by omega)]; rfl
  simp only [zWF, en, em, et, es, eL, eu]
  simp only [ef 0 (by decide) (by decide), ef 5 (by decide) (by decide), ef 13 (by decide) (by decide), ef 11 (by decide) (by decide), ef 19 (by decide) (by decide), ef 4 (by decide) (by decide), eo 56 (by decide), eo 57 (by decide), eo 58 (by decide), eo 59 (by decide), eo 60 (by decide), eo 61 (by decide), eo 62 (by decide), eo 63 (by decide), eo 64 (by decide), eo 65 (by decide), eo 66 (by decide), eo 68 (by decide), eu']
  exact ⟨W.n, W.n4, W.m, W.m10, W.t, W.t30, W.s, W.s8, trivial, hu, W.L, W.L90, W.f8, W.A, W.P, W.S, W.G, W.mn, W.mt⟩
theorem zpN1_u {J : zMI} (x : Int32) : ju (zpN1 J x) = ju J ∧ jn (zpN1 J x) = jn J := by
  unfold zpN1
  split
  · exact ⟨rfl, rfl⟩
  · exact ⟨by unfold ju; rw [zadN_f _ _ _ _ _ (by decide) (by decide)], by unfold jn; rw [zadN_f _ _ _ _ _ (by decide) (by decide)]⟩
theorem zWF_p1 {J : zMI} (W : zWF J) (ht : jt J < 30) (x : Int32) (hx : x = -1 ∨ ∃ a, a < jm J ∧ x = nI a) : zWF (zpN1 J x) := by
  unfold zpN1
  rcases hx with h | ⟨a, ha, e⟩
  · rw [if_pos h]; exact W
  · have m10 := W.m10
    rw [if_neg (by rw [e]; exact znI_m1 (by omega)), e, nI_clamp (by omega)]
    exact zWF_ad W ht (Or.inr ⟨a, ha, rfl, rfl, rfl⟩) (by omega)
theorem zWF_p {J : zMI} (W : zWF J) (ht : jt J < 30) (hu : ju J + 1 < 2 ^ 31) : zWF (zpN J) :=
  zWF_tk (zWF_p1 W ht _ (zwd_act W _ _)) (by rw [(zpN1_u _).1]; exact hu)
theorem ztk_nu (J : zMI) : jn (ztk J) = jn J ∧ ztk J 54 12 = J 54 12 + 1 := ⟨by simp only [jn, ztk, zs_ap, upd_ap, if_true]; rw [if_neg (by decide), if_neg (by decide)], by simp only [ztk, zs_ap, upd_ap, if_true]; rw [if_neg (by decide)]⟩
theorem zpN_nu {J : zMI} (W : zWF J) (ht : jt J < 30) (hu : ju J + 1 < 2 ^ 31) : jn (zpN J) = jn J ∧ ju (zpN J) = ju J + 1 := by
  have W1 := zWF_p1 W ht _ (zwd_act W (ju J % jn J) (ju J / jn J))
  refine ⟨(ztk_nu _).1.trans (zpN1_u _).2, ?_⟩
  show (ztk (zpN1 J (zwd J (ju J % jn J) (ju J / jn J))) 54 12).toNatClampNeg = ju J + 1
  rw [(ztk_nu _).2, W1.u, (zpN1_u _).1, nI_1, nI_clamp hu]
/-- turns pass -/
noncomputable def zgN (J : zMI) : Nat → zMI
  | 0 => J
  | k + 1 => if jt J < 30 then zgN (zpN J) k else J
theorem lp7_goNow {w v0 e1 e2 : Nat} {h : Int64} {t0 : Int32} {n : Nat} (hn20 : n ≤ 20) : ∀ d i, n - i < d → i ≤ n → ∀ J I, zOx J I → zWF J → 0 < jn J → ju J + (n - i) < 2 ^ 31 → zGo m7_goNow 7 [.ref 54, .int (nI n), .int t0, .int (nI i)] [] zX (zRR w v0 e1 e2) h I (fun v X1 R1 h1 I1 => X1 = zX ∧ v = some (.int (zgN J (n - i) 54 13 - t0)) ∧ R1 = (zRR w v0 e1 e2) ∧ h1 = h ∧ zOx (zgN J (n - i)) I1) := by
  intro d
  induction d with
  | zero => intro i hd0; exact absurd hd0 (Nat.not_lt_zero _)
  | succ d ih =>
    intro i hd0 hd1 J I hO W hn hu
    refine g_il3 r7_goNow_7 ?_
    refine g_il1 r7_goNow_8 ?_
    refine g_icgeN r7_goNow_9 (by omega) (by omega) (fun h9 => ?_) (fun h9 => ?_)
    · refine g_al0 r7_goNow_31 ?_
      refine g_gfi r7_goNow_32 xx_54 rfl ?_
      refine g_eqv (y := J 54 13) (hO.f 13 (by decide)) ?_
      refine g_il2 r7_goNow_35 ?_
      refine g_isub r7_goNow_36 ?_
      exact g_iret r7_goNow_37 rfl ⟨rfl, ⟨zrt (by rw [show n - i = 0 by omega]; rfl), rfl, rfl, by rw [show n - i = 0 by omega]; exact hO⟩⟩
    · have ht30 := W.t30
      refine g_al0 r7_goNow_12 ?_
      refine g_gfi r7_goNow_13 xx_54 rfl ?_
      refine g_eqv (y := nI (jt J)) ((hO.f 13 (by decide)).trans W.t) ?_
      refine g_k r7_goNow_16 ?_
      refine g_eqv (y := nI 30) rfl ?_
      refine g_icgeN r7_goNow_18 (by omega) (by omega) (fun h18 => ?_) (fun h18 => ?_)
      · obtain ⟨j, hj⟩ : ∃ j, n - i = j + 1 := ⟨n - i - 1, by omega⟩
        have e : zgN J (n - i) = J := by rw [hj]; simp only [zgN]; rw [if_neg (by omega)]
        refine g_al0 r7_goNow_31 ?_
        refine g_gfi r7_goNow_32 xx_54 rfl ?_
        refine g_eqv (y := J 54 13) (hO.f 13 (by decide)) ?_
        refine g_il2 r7_goNow_35 ?_
        refine g_isub r7_goNow_36 ?_
        exact g_iret r7_goNow_37 rfl ⟨rfl, ⟨zrt (by rw [e]), rfl, rfl, by rw [e]; exact hO⟩⟩
      · refine g_al0 r7_goNow_21 ?_
        refine g_cV0 r7_goNow_22 ok7_passTurn pl7_goNow pl7_passTurn xx_54 (Nat.le_of_ble_eq_true rfl) (el7_passTurn hO W hn (by omega) (by omega)) (fun v' R' h' I1 ⟨q1, q2, q3, hO1⟩ => ?_)
        subst q1; subst q2; subst q3
        refine g_iiN3 r7_goNow_25 rfl ?_
        refine g_goto r7_goNow_28 ?_
        have hp := zpN_nu W (by omega) (by omega)
        have ih2 := ih (i + 1) (by omega) (by omega) (zpN J) I1 hO1 (zWF_p W (by omega) (by omega)) (by rw [hp.1]; exact hn) (by rw [hp.2]; omega)
        obtain ⟨j, hj⟩ : ∃ j, n - i = j + 1 := ⟨n - i - 1, by omega⟩
        rw [hj]; simp only [zgN, if_pos (show jt J < 30 by omega)]
        rw [show n - (i + 1) = j by omega] at ih2
        exact ih2
theorem el7_goNow {w v0 e1 e2 : Nat} {h : Int64} {J I : zMI} (hO : zOx J I) (W : zWF J) {n : Nat} (hn20 : n ≤ 20) (hn : 0 < jn J) (hu : ju J + n < 2 ^ 31) : zEp m7_goNow (zRR w v0 e1 e2) h I [.ref 54, .int (nI n)] (fun v R1 h1 I1 => v = (some (.int (zgN J n 54 13 - J 54 13))) ∧ R1 = (zRR w v0 e1 e2) ∧ h1 = h ∧ zOx (zgN J n) I1) := by
  refine zEp_of [.ref 54, .int (nI n), .null, .null] pl7_goNow (by decide +kernel) (fun _ _ => rfl) (fun _ _ => Nat.le_of_ble_eq_true rfl) ?_
  refine g_al0 r7_goNow_0 ?_
  refine g_gfi r7_goNow_1 xx_54 rfl ?_
  refine g_eqv (y := J 54 13) (hO.f 13 (by decide)) ?_
  refine g_is2 r7_goNow_4 rfl ?_
  refine g_k r7_goNow_5 ?_
  refine g_is3 r7_goNow_6 rfl ?_
  exact g_post (lp7_goNow hn20 (n + 1) 0 (by omega) (by omega) J I hO W hn (by omega)) (fun v X1 R1 h1 I1 hp => by simpa using hp)
noncomputable def zgoR (J : zMI) (x : Int32) : Int32 := if ¬ x < 1 ∧ ¬ 20 < x then (if 0 < J 54 5 then zgN J x.toNatClampNeg 54 13 - J 54 13 else -103) else -102
noncomputable def zgoN (J : zMI) (x : Int32) : zMI := if ¬ x < 1 ∧ ¬ 20 < x then (if 0 < J 54 5 then zgN J x.toNatClampNeg else J) else J
theorem el7_isWorld {w v0 e1 e2 : Nat} {h : Int64} {J I : zMI} (hO : zOx J I) : zEr m7_isWorld (zRR w v0 e1 e2) h I [.ref 54] (some (.int (zb (0 < J 54 5)))) (zRR w v0 e1 e2) h I := by
  rw [← hO.f 5 (by decide)]; exact ev7_isWorld
theorem el7_go {w v0 e1 e2 : Nat} {h : Int64} {J I : zMI} (hO : zOx J I) (W : zWF J) {x : Int32} (hu : ju J + 20 < 2 ^ 31) : zEp m7_go (zRR w v0 e1 e2) h I [.ref 54, .int x] (fun v R1 h1 I1 => v = (some (.int (zgoR J x))) ∧ R1 = (zRR w v0 e1 e2) ∧ h1 = h ∧ zOx (zgoN J x) I1) := by
  refine zEp_of [.ref 54, .int x] pl7_go (by decide +kernel) (fun _ _ => rfl) (fun _ _ => Nat.le_of_ble_eq_true rfl) ?_
  refine g_il1 r7_go_0 ?_
  refine g_k r7_go_1 ?_
  refine g_k r7_go_2 ?_
  refine g_eS3 r7_go_4 ok7_within pl7_go pl7_within (Nat.le_of_ble_eq_true rfl) (ev7_within) ?_
  refine g_ifneB r7_go_7 (fun h7 => ?_) (fun h7 => ?_)
  · refine g_al0 r7_go_13 ?_
    refine g_eV0 r7_go_14 ok7_isWorld pl7_go pl7_isWorld xx_54 (Nat.le_of_ble_eq_true rfl) (el7_isWorld hO) ?_
    refine g_ifeqB r7_go_17 (fun h17 => ?_) (fun h17 => ?_)
    · refine g_k r7_go_28 ?_
      exact g_iret r7_go_30 rfl ⟨rfl, ⟨zrt (by unfold zgoR; rw [if_pos h7, if_neg h17]), rfl, rfl, by unfold zgoN; rw [if_pos h7, if_neg h17]; exact hO⟩⟩
    · obtain ⟨k, hk, rfl⟩ : ∃ k : Nat, k ≤ 20 ∧ x = nI k := nI_of2 (M := 20) rfl (fun q => h7.1 (Int32.lt_of_lt_of_le q (by decide))) (Int32.not_lt.mp h7.2)
      have hn : 0 < jn J := by have := W.mn; have := (zWd W).mp h17; omega
      refine g_al0 r7_go_20 ?_
      refine g_il1 r7_go_21 ?_
      refine g_cV1 r7_go_22 ok7_goNow pl7_go pl7_goNow xx_54 (Nat.le_of_ble_eq_true rfl) (el7_goNow hO W hk hn (by omega)) (fun v' R' h' I1 ⟨q1, q2, q3, hO1⟩ => ?_)
      subst q1; subst q2; subst q3
      refine g_goto r7_go_25 ?_
      exact g_iret r7_go_30 rfl ⟨rfl, ⟨zrt (by unfold zgoR; rw [if_pos h7, if_pos h17, nI_clamp (by omega)]), rfl, rfl, by unfold zgoN; rw [if_pos h7, if_pos h17, nI_clamp (by omega)]; exact hO1⟩⟩
  · refine g_k r7_go_10 ?_
    exact g_iret r7_go_12 rfl ⟨rfl, ⟨zrt (by unfold zgoR; exact (if_neg h7).symm), rfl, rfl, by unfold zgoN; rw [if_neg h7]; exact hO⟩⟩
noncomputable def zPn (J : zMI) (q : Nat) (pl : Int32) : Int32 := if pl = -1 then zPm J q else zPd J q pl
theorem el7_planNow {w v0 e1 e2 : Nat} {h : Int64} {J I : zMI} (hO : zOx J I) (W : zWF J) {q : Nat} (hq : q < jn J) {pl : Int32} : zEp m7_planNow (zRR w v0 e1 e2) h I [.ref 54, .int (nI q), .int pl] (fun v R1 h1 I1 => v = (some (.int (zPn J q pl))) ∧ R1 = (zRR w v0 e1 e2) ∧ h1 = h ∧ zOx (J) I1) := by
  refine zEp_of [.ref 54, .int (nI q), .int pl] pl7_planNow (by decide +kernel) (fun _ _ => rfl) (fun _ _ => Nat.le_of_ble_eq_true rfl) ?_
  refine g_al0 r7_planNow_0 ?_
  refine g_il1 r7_planNow_1 ?_
  refine g_cV1 r7_planNow_2 ok7_layPlan pl7_planNow pl7_layPlan xx_54 (Nat.le_of_ble_eq_true rfl) (el7_layPlan hO W hq) (fun v' R' h' I1 ⟨q1, q2, q3, hl⟩ => ?_)
  subst q1; subst q2; subst q3
  refine g_il2 r7_planNow_5 ?_
  refine g_k r7_planNow_6 ?_
  refine g_icne r7_planNow_7 (fun h7 => ?_) (fun h7 => ?_)
  · refine g_al0 r7_planNow_17 ?_
    refine g_il2 r7_planNow_18 ?_
    refine g_eV1 r7_planNow_19 ok7_laidAct pl7_planNow pl7_laidAct xx_54 (Nat.le_of_ble_eq_true rfl) (el7_laidAct hl W) ?_
    exact g_iret r7_planNow_22 rfl ⟨rfl, ⟨zrt (by unfold zPn; rw [if_neg h7]; rfl), rfl, rfl, hl.1⟩⟩
  · refine g_al0 r7_planNow_10 ?_
    refine g_eV0 r7_planNow_11 ok7_laidMany pl7_planNow pl7_laidMany xx_54 (Nat.le_of_ble_eq_true rfl) (el7_laidMany hl W) ?_
    refine g_goto r7_planNow_14 ?_
    exact g_iret r7_planNow_22 rfl ⟨rfl, ⟨zrt (by unfold zPn; rw [if_pos h7]; rfl), rfl, rfl, hl.1⟩⟩
noncomputable def zoN (J : zMI) (q : Nat) (x : Int32) : Int32 := if x = 0 then J 55 q else if x = 1 then J 56 q else if x = 2 then (if J 57 q = 0 then 0 else 1) else if x = 3 then zao J q (jt J) (jm J) else if x = 4 then zsb J (nI q) (jt J) else if x = 5 then zPm J q else if x = 6 then zPd J q 0 else zwd J q 0
theorem el7_oneNow {w v0 e1 e2 : Nat} {h : Int64} {J I : zMI} (hO : zOx J I) (W : zWF J) {q : Nat} (hq : q < jn J) {x : Int32} : zEp m7_oneNow (zRR w v0 e1 e2) h I [.ref 54, .int (nI q), .int x] (fun v R1 h1 I1 => v = (some (.int (zoN J q x))) ∧ R1 = (zRR w v0 e1 e2) ∧ h1 = h ∧ zOx (J) I1) := by
  have hn4 := W.n4
  refine zEp_of [.ref 54, .int (nI q), .int x] pl7_oneNow (by decide +kernel) (fun _ _ => rfl) (fun _ _ => Nat.le_of_ble_eq_true rfl) ?_
  refine g_il2 r7_oneNow_0 ?_
  refine g_sw r7_oneNow_1 ⟨fun h1 => ?_, fun h1 => ?_, fun h1 => ?_, fun h1 => ?_, fun h1 => ?_, fun h1 => ?_, fun h1 => ?_, trivial⟩ (fun h1 => ?_)
  · refine g_al0 r7_oneNow_44 ?_
    refine g_gfr r7_oneNow_45 xx_54 rfl rr_54_1 ?_
    refine g_il1 r7_oneNow_48 ?_
    refine g_ialdN r7_oneNow_49 xx_55 (by omega) (by decide) ?_
    refine g_eqv (y := J 55 q) (congrFun (hO.o 55 (by decide) (by decide)) q) ?_
    exact g_iret r7_oneNow_50 rfl ⟨rfl, ⟨zrt (by subst h1; simp [zoN]), rfl, rfl, hO⟩⟩
  · refine g_al0 r7_oneNow_51 ?_
    refine g_gfr r7_oneNow_52 xx_54 rfl rr_54_2 ?_
    refine g_il1 r7_oneNow_55 ?_
    refine g_ialdN r7_oneNow_56 xx_56 (by omega) (by decide) ?_
    refine g_eqv (y := J 56 q) (congrFun (hO.o 56 (by decide) (by decide)) q) ?_
    exact g_iret r7_oneNow_57 rfl ⟨rfl, ⟨zrt (by subst h1; simp [zoN]), rfl, rfl, hO⟩⟩
  · refine g_al0 r7_oneNow_58 ?_
    refine g_gfr r7_oneNow_59 xx_54 rfl rr_54_3 ?_
    refine g_il1 r7_oneNow_62 ?_
    refine g_zaldN r7_oneNow_63 xx_57 (by omega) (by decide) ?_
    refine g_eqv (y := J 57 q) (congrFun (hO.o 57 (by decide) (by decide)) q) ?_
    refine g_ifeq r7_oneNow_64 (fun h64 => ?_) (fun h64 => ?_)
    · refine g_k r7_oneNow_71 ?_
      exact g_iret r7_oneNow_72 rfl ⟨rfl, ⟨zrt (by subst h1; simp [zoN, h64]), rfl, rfl, hO⟩⟩
    · refine g_k r7_oneNow_67 ?_
      refine g_goto r7_oneNow_68 ?_
      exact g_iret r7_oneNow_72 rfl ⟨rfl, ⟨zrt (by subst h1; simp [zoN, h64]), rfl, rfl, hO⟩⟩
  · refine g_al0 r7_oneNow_73 ?_
    refine g_il1 r7_oneNow_74 ?_
    refine g_eV1 r7_oneNow_75 ok7_actsOf pl7_oneNow pl7_actsOf xx_54 (Nat.le_of_ble_eq_true rfl) (el7_actsOf hO W (by omega)) ?_
    exact g_iret r7_oneNow_78 rfl ⟨rfl, ⟨zrt (by subst h1; simp [zoN]), rfl, rfl, hO⟩⟩
  · refine g_al0 r7_oneNow_79 ?_
    refine g_il1 r7_oneNow_80 ?_
    refine g_eV1 r7_oneNow_81 ok7_stepsBy pl7_oneNow pl7_stepsBy xx_54 (Nat.le_of_ble_eq_true rfl) (el7_stepsBy hO W) ?_
    exact g_iret r7_oneNow_84 rfl ⟨rfl, ⟨zrt (by subst h1; simp [zoN]), rfl, rfl, hO⟩⟩
  · refine g_al0 r7_oneNow_85 ?_
    refine g_il1 r7_oneNow_86 ?_
    refine g_k r7_oneNow_87 ?_
    refine g_cV2 r7_oneNow_88 ok7_planNow pl7_oneNow pl7_planNow xx_54 (Nat.le_of_ble_eq_true rfl) (el7_planNow hO W hq) (fun v' R' h' I1 ⟨q1, q2, q3, hO1⟩ => ?_)
    subst q1; subst q2; subst q3
    exact g_iret r7_oneNow_91 rfl ⟨rfl, ⟨zrt (by subst h1; simp [zoN, zPn]), rfl, rfl, hO1⟩⟩
  · refine g_al0 r7_oneNow_92 ?_
    refine g_il1 r7_oneNow_93 ?_
    refine g_k r7_oneNow_94 ?_
    refine g_cV2 r7_oneNow_95 ok7_planNow pl7_oneNow pl7_planNow xx_54 (Nat.le_of_ble_eq_true rfl) (el7_planNow hO W hq) (fun v' R' h' I1 ⟨q1, q2, q3, hO1⟩ => ?_)
    subst q1; subst q2; subst q3
    exact g_iret r7_oneNow_98 rfl ⟨rfl, ⟨zrt (by subst h1; simp [zoN, zPn]), rfl, rfl, hO1⟩⟩
  · refine g_al0 r7_oneNow_99 ?_
    refine g_il1 r7_oneNow_100 ?_
    refine g_k r7_oneNow_101 ?_
    refine g_cV2 r7_oneNow_102 ok7_wouldDo pl7_oneNow pl7_wouldDo xx_54 (Nat.le_of_ble_eq_true rfl) (el7_wouldDo hO W (rd := 0) hq (by decide)) (fun v' R' h' I1 ⟨q1, q2, q3, hO1⟩ => ?_)
    subst q1; subst q2; subst q3
    exact g_iret r7_oneNow_105 rfl ⟨rfl, ⟨zrt (by have h2 := h1; simp at h2; simp [zoN, h2]), rfl, rfl, hO1⟩⟩
noncomputable def zonR (J : zMI) (y x : Int32) : Int32 := if 0 < J 54 5 ∧ (¬ y < 0 ∧ ¬ (J 54 0 - 1) < y) then (if ¬ x < 0 ∧ ¬ 7 < x then zoN J y.toNatClampNeg x else -102) else -101
theorem el7_one {w v0 e1 e2 : Nat} {h : Int64} {J I : zMI} (hO : zOx J I) (W : zWF J) {y x : Int32} : zEp m7_one (zRR w v0 e1 e2) h I [.ref 54, .int y, .int x] (fun v R1 h1 I1 => v = (some (.int (zonR J y x))) ∧ R1 = (zRR w v0 e1 e2) ∧ h1 = h ∧ zOx (J) I1) := by
  refine zEp_of [.ref 54, .int y, .int x] pl7_one (by decide +kernel) (fun _ _ => rfl) (fun _ _ => Nat.le_of_ble_eq_true rfl) ?_
  refine g_al0 r7_one_0 ?_
  refine g_il1 r7_one_1 ?_
  refine g_eV1 r7_one_2 ok7_isOne pl7_one pl7_isOne xx_54 (Nat.le_of_ble_eq_true rfl) (el7_isOne hO) ?_
  refine g_ifneB r7_one_5 (fun h5 => ?_) (fun h5 => ?_)
  · obtain ⟨q, hq, rfl⟩ := (zOne W).mp h5
    have hn4 := W.n4
    refine g_il2 r7_one_13 ?_
    refine g_k r7_one_14 ?_
    refine g_k r7_one_15 ?_
    refine g_eS3 r7_one_17 ok7_within pl7_one pl7_within (Nat.le_of_ble_eq_true rfl) (ev7_within) ?_
    refine g_ifeqB r7_one_20 (fun h20 => ?_) (fun h20 => ?_)
    · refine g_k r7_one_32 ?_
      exact g_iret r7_one_34 rfl ⟨rfl, ⟨zrt (by unfold zonR; rw [if_pos h5, if_neg h20]), rfl, rfl, hO⟩⟩
    · refine g_al0 r7_one_23 ?_
      refine g_il1 r7_one_24 ?_
      refine g_il2 r7_one_25 ?_
      refine g_cV2 r7_one_26 ok7_oneNow pl7_one pl7_oneNow xx_54 (Nat.le_of_ble_eq_true rfl) (el7_oneNow hO W hq) (fun v' R' h' I1 ⟨q1, q2, q3, hO1⟩ => ?_)
      subst q1; subst q2; subst q3
      refine g_goto r7_one_29 ?_
      exact g_iret r7_one_34 rfl ⟨rfl, ⟨zrt (by unfold zonR; rw [if_pos h5, if_pos h20, nI_clamp (by omega)]), rfl, rfl, hO1⟩⟩
  · refine g_k r7_one_8 ?_
    refine g_goto r7_one_10 ?_
    exact g_iret r7_one_34 rfl ⟨rfl, ⟨zrt (by unfold zonR; rw [if_neg h5]), rfl, rfl, hO⟩⟩
noncomputable def zplR (J : zMI) (y x : Int32) : Int32 := if (0 < J 54 5 ∧ (¬ y < 0 ∧ ¬ (J 54 0 - 1) < y)) ∧ ¬ x < 0 then (if zPn J y.toNatClampNeg x = -1 then -101 else zPn J y.toNatClampNeg x) else -101
theorem el7_plan {w v0 e1 e2 : Nat} {h : Int64} {J I : zMI} (hO : zOx J I) (W : zWF J) {y x : Int32} : zEp m7_plan (zRR w v0 e1 e2) h I [.ref 54, .int y, .int x] (fun v R1 h1 I1 => v = (some (.int (zplR J y x))) ∧ R1 = (zRR w v0 e1 e2) ∧ h1 = h ∧ zOx (J) I1) := by
  refine zEp_of [.ref 54, .int y, .int x, .null] pl7_plan (by decide +kernel) (fun _ _ => rfl) (fun _ _ => Nat.le_of_ble_eq_true rfl) ?_
  refine g_al0 r7_plan_0 ?_
  refine g_il1 r7_plan_1 ?_
  refine g_eV1 r7_plan_2 ok7_isOne pl7_plan pl7_isOne xx_54 (Nat.le_of_ble_eq_true rfl) (el7_isOne hO) ?_
  refine g_ifeqB r7_plan_5 (fun h5 => ?_) (fun h5 => ?_)
  · refine g_k r7_plan_21 ?_
    refine g_is3 r7_plan_22 rfl ?_
    refine g_il3 r7_plan_23 ?_
    refine g_k r7_plan_24 ?_
    refine g_icne r7_plan_25 (fun hc => absurd hc (fun q => q rfl)) (fun h25 => ?_)
    refine g_k r7_plan_28 ?_
    refine g_goto r7_plan_30 ?_
    exact g_iret r7_plan_34 rfl ⟨rfl, ⟨zrt (by unfold zplR; rw [if_neg (fun q => h5 q.1)]), rfl, rfl, hO⟩⟩
  · obtain ⟨q, hq, rfl⟩ := (zOne W).mp h5
    have hn4 := W.n4
    refine g_il2 r7_plan_8 ?_
    refine g_iflt r7_plan_9 (fun h9 => ?_) (fun h9 => ?_)
    · refine g_k r7_plan_21 ?_
      refine g_is3 r7_plan_22 rfl ?_
      refine g_il3 r7_plan_23 ?_
      refine g_k r7_plan_24 ?_
      refine g_icne r7_plan_25 (fun hc => absurd hc (fun q => q rfl)) (fun h25 => ?_)
      refine g_k r7_plan_28 ?_
      refine g_goto r7_plan_30 ?_
      exact g_iret r7_plan_34 rfl ⟨rfl, ⟨zrt (by unfold zplR; rw [if_neg (fun q => q.2 h9)]), rfl, rfl, hO⟩⟩
    · refine g_al0 r7_plan_12 ?_
      refine g_il1 r7_plan_13 ?_
      refine g_il2 r7_plan_14 ?_
      refine g_cV2 r7_plan_15 ok7_planNow pl7_plan pl7_planNow xx_54 (Nat.le_of_ble_eq_true rfl) (el7_planNow hO W hq) (fun v' R' h' I1 ⟨q1, q2, q3, hO1⟩ => ?_)
      subst q1; subst q2; subst q3
      refine g_goto r7_plan_18 ?_
      refine g_is3 r7_plan_22 rfl ?_
      refine g_il3 r7_plan_23 ?_
      refine g_k r7_plan_24 ?_
      refine g_icne r7_plan_25 (fun h25 => ?_) (fun h25 => ?_)
      · refine g_il3 r7_plan_33 ?_
        exact g_iret r7_plan_34 rfl ⟨rfl, ⟨zrt (by unfold zplR; rw [if_pos ⟨h5, h9⟩, nI_clamp (by omega), if_neg h25]), rfl, rfl, hO1⟩⟩
      · refine g_k r7_plan_28 ?_
        refine g_goto r7_plan_30 ?_
        exact g_iret r7_plan_34 rfl ⟨rfl, ⟨zrt (by unfold zplR; rw [if_pos ⟨h5, h9⟩, nI_clamp (by omega), if_pos h25]), rfl, rfl, hO1⟩⟩
theorem el7_foilNow {w v0 e1 e2 : Nat} {h : Int64} {J I : zMI} (hO : zOx J I) (W : zWF J) {q : Nat} (hq : q < jn J) {r : Nat} (hr : r < jn J) {pl : Int32} : zEp m7_foilNow (zRR w v0 e1 e2) h I [.ref 54, .int (nI q), .int (nI r), .int pl] (fun v R1 h1 I1 => v = (some (.int (zFd J q r pl))) ∧ R1 = (zRR w v0 e1 e2) ∧ h1 = h ∧ zOx (J) I1) := by
  refine zEp_of [.ref 54, .int (nI q), .int (nI r), .int pl] pl7_foilNow (by decide +kernel) (fun _ _ => rfl) (fun _ _ => Nat.le_of_ble_eq_true rfl) ?_
  refine g_al0 r7_foilNow_0 ?_
  refine g_il1 r7_foilNow_1 ?_
  refine g_il2 r7_foilNow_2 ?_
  refine g_cV2 r7_foilNow_3 ok7_layFoil pl7_foilNow pl7_layFoil xx_54 (Nat.le_of_ble_eq_true rfl) (el7_layFoil hO W hq hr) (fun v' R' h' I1 ⟨q1, q2, q3, hl⟩ => ?_)
  subst q1; subst q2; subst q3
  refine g_al0 r7_foilNow_6 ?_
  refine g_il3 r7_foilNow_7 ?_
  refine g_eV1 r7_foilNow_8 ok7_laidAct pl7_foilNow pl7_laidAct xx_54 (Nat.le_of_ble_eq_true rfl) (el7_laidAct hl W) ?_
  exact g_iret r7_foilNow_11 rfl ⟨rfl, ⟨zrt (rfl), rfl, rfl, hl.1⟩⟩
noncomputable def zfoR (J : zMI) (y z x : Int32) : Int32 := if ((0 < J 54 5 ∧ (¬ y < 0 ∧ ¬ (J 54 0 - 1) < y)) ∧ (0 < J 54 5 ∧ (¬ z < 0 ∧ ¬ (J 54 0 - 1) < z))) ∧ ¬ y = z then (if zFd J y.toNatClampNeg z.toNatClampNeg x = -1 then -101 else zFd J y.toNatClampNeg z.toNatClampNeg x) else -101
theorem el7_foil {w v0 e1 e2 : Nat} {h : Int64} {J I : zMI} (hO : zOx J I) (W : zWF J) {y z x : Int32} : zEp m7_foil (zRR w v0 e1 e2) h I [.ref 54, .int y, .int z, .int x] (fun v R1 h1 I1 => v = (some (.int (zfoR J y z x))) ∧ R1 = (zRR w v0 e1 e2) ∧ h1 = h ∧ zOx (J) I1) := by
  refine zEp_of [.ref 54, .int y, .int z, .int x, .null, .null] pl7_foil (by decide +kernel) (fun _ _ => rfl) (fun _ _ => Nat.le_of_ble_eq_true rfl) ?_
  refine g_al0 r7_foil_0 ?_
  refine g_il1 r7_foil_1 ?_
  refine g_eV1 r7_foil_2 ok7_isOne pl7_foil pl7_isOne xx_54 (Nat.le_of_ble_eq_true rfl) (el7_isOne hO) ?_
  refine g_ifeqB r7_foil_5 (fun h5 => ?_) (fun h5 => ?_)
  · refine g_k r7_foil_25 ?_
    refine g_is4 r7_foil_26 rfl ?_
    refine g_il4 r7_foil_28 ?_
    refine g_ifeq r7_foil_30 (fun _ => ?_) (fun hc => absurd rfl hc)
    refine g_k r7_foil_43 ?_
    refine g_is5 r7_foil_44 rfl ?_
    refine g_il5 r7_foil_46 ?_
    refine g_k r7_foil_48 ?_
    refine g_icne r7_foil_49 (fun hc => absurd hc (fun q => q rfl)) (fun h49 => ?_)
    refine g_k r7_foil_52 ?_
    refine g_goto r7_foil_54 ?_
    exact g_iret r7_foil_59 rfl ⟨rfl, ⟨zrt (by unfold zfoR; rw [if_neg (fun q => h5 q.1.1)]), rfl, rfl, hO⟩⟩
  · refine g_al0 r7_foil_8 ?_
    refine g_il2 r7_foil_9 ?_
    refine g_eV1 r7_foil_10 ok7_isOne pl7_foil pl7_isOne xx_54 (Nat.le_of_ble_eq_true rfl) (el7_isOne hO) ?_
    refine g_ifeqB r7_foil_13 (fun h13 => ?_) (fun h13 => ?_)
    · refine g_k r7_foil_25 ?_
      refine g_is4 r7_foil_26 rfl ?_
      refine g_il4 r7_foil_28 ?_
      refine g_ifeq r7_foil_30 (fun _ => ?_) (fun hc => absurd rfl hc)
      refine g_k r7_foil_43 ?_
      refine g_is5 r7_foil_44 rfl ?_
      refine g_il5 r7_foil_46 ?_
      refine g_k r7_foil_48 ?_
      refine g_icne r7_foil_49 (fun hc => absurd hc (fun q => q rfl)) (fun h49 => ?_)
      refine g_k r7_foil_52 ?_
      refine g_goto r7_foil_54 ?_
      exact g_iret r7_foil_59 rfl ⟨rfl, ⟨zrt (by unfold zfoR; rw [if_neg (fun q => h13 q.1.2)]), rfl, rfl, hO⟩⟩
    · refine g_il1 r7_foil_16 ?_
      refine g_il2 r7_foil_17 ?_
      refine g_iceq r7_foil_18 (fun h18 => ?_) (fun h18 => ?_)
      · refine g_k r7_foil_25 ?_
        refine g_is4 r7_foil_26 rfl ?_
        refine g_il4 r7_foil_28 ?_
        refine g_ifeq r7_foil_30 (fun _ => ?_) (fun hc => absurd rfl hc)
        refine g_k r7_foil_43 ?_
        refine g_is5 r7_foil_44 rfl ?_
        refine g_il5 r7_foil_46 ?_
        refine g_k r7_foil_48 ?_
        refine g_icne r7_foil_49 (fun hc => absurd hc (fun q => q rfl)) (fun h49 => ?_)
        refine g_k r7_foil_52 ?_
        refine g_goto r7_foil_54 ?_
        exact g_iret r7_foil_59 rfl ⟨rfl, ⟨zrt (by unfold zfoR; rw [if_neg (fun q => q.2 h18)]), rfl, rfl, hO⟩⟩
      · have hx : ¬ y = z := h18
        obtain ⟨q, hq, rfl⟩ := (zOne W).mp h5
        obtain ⟨r, hr, rfl⟩ := (zOne W).mp h13
        have hn4 := W.n4
        refine g_k r7_foil_21 ?_
        refine g_goto r7_foil_22 ?_
        refine g_is4 r7_foil_26 rfl ?_
        refine g_il4 r7_foil_28 ?_
        refine g_ifeq r7_foil_30 (fun hc => absurd hc (by decide)) (fun _ => ?_)
        refine g_al0 r7_foil_33 ?_
        refine g_il1 r7_foil_34 ?_
        refine g_il2 r7_foil_35 ?_
        refine g_il3 r7_foil_36 ?_
        refine g_cV3 r7_foil_37 ok7_foilNow pl7_foil pl7_foilNow xx_54 (Nat.le_of_ble_eq_true rfl) (el7_foilNow hO W hq hr) (fun v' R' h' I1 ⟨q1, q2, q3, hO1⟩ => ?_)
        subst q1; subst q2; subst q3
        refine g_goto r7_foil_40 ?_
        refine g_is5 r7_foil_44 rfl ?_
        refine g_il5 r7_foil_46 ?_
        refine g_k r7_foil_48 ?_
        refine g_icne r7_foil_49 (fun h49 => ?_) (fun h49 => ?_)
        · refine g_il5 r7_foil_57 ?_
          exact g_iret r7_foil_59 rfl ⟨rfl, ⟨zrt (by unfold zfoR; rw [if_pos ⟨⟨h5, h13⟩, hx⟩, nI_clamp (by omega), nI_clamp (by omega), if_neg h49]), rfl, rfl, hO1⟩⟩
        · refine g_k r7_foil_52 ?_
          refine g_goto r7_foil_54 ?_
          exact g_iret r7_foil_59 rfl ⟨rfl, ⟨zrt (by unfold zfoR; rw [if_pos ⟨⟨h5, h13⟩, hx⟩, nI_clamp (by omega), nI_clamp (by omega), if_pos h49]), rfl, rfl, hO1⟩⟩
noncomputable def ztoN (J : zMI) (x : Int32) : Int32 := if x = -1 then zTm J else if zTd J x = -1 then -101 else zTd J x
theorem el7_togetherNow {w v0 e1 e2 : Nat} {h : Int64} {J I : zMI} (hO : zOx J I) (W : zWF J) {x : Int32} : zEp m7_togetherNow (zRR w v0 e1 e2) h I [.ref 54, .int x] (fun v R1 h1 I1 => v = (some (.int (ztoN J x))) ∧ R1 = (zRR w v0 e1 e2) ∧ h1 = h ∧ zOx (J) I1) := by
  refine zEp_of [.ref 54, .int x, .null] pl7_togetherNow (by decide +kernel) (fun _ _ => rfl) (fun _ _ => Nat.le_of_ble_eq_true rfl) ?_
  refine g_al0 r7_togetherNow_0 ?_
  refine g_cV0 r7_togetherNow_1 ok7_layTogether pl7_togetherNow pl7_layTogether xx_54 (Nat.le_of_ble_eq_true rfl) (el7_layTogether hO W) (fun v' R' h' I1 ⟨q1, q2, q3, hl⟩ => ?_)
  subst q1; subst q2; subst q3
  refine g_al0 r7_togetherNow_4 ?_
  refine g_il1 r7_togetherNow_5 ?_
  refine g_eV1 r7_togetherNow_6 ok7_laidAct pl7_togetherNow pl7_laidAct xx_54 (Nat.le_of_ble_eq_true rfl) (el7_laidAct hl W) ?_
  refine g_is2 r7_togetherNow_9 rfl ?_
  refine g_il1 r7_togetherNow_10 ?_
  refine g_k r7_togetherNow_11 ?_
  refine g_icne r7_togetherNow_12 (fun h12 => ?_) (fun h12 => ?_)
  · refine g_il2 r7_togetherNow_22 ?_
    refine g_k r7_togetherNow_23 ?_
    refine g_icne r7_togetherNow_24 (fun h24 => ?_) (fun h24 => ?_)
    · refine g_il2 r7_togetherNow_32 ?_
      exact g_iret r7_togetherNow_33 rfl ⟨rfl, ⟨zrt (by unfold ztoN; rw [if_neg h12]; exact (if_neg h24).symm), rfl, rfl, hl.1⟩⟩
    · refine g_k r7_togetherNow_27 ?_
      refine g_goto r7_togetherNow_29 ?_
      exact g_iret r7_togetherNow_33 rfl ⟨rfl, ⟨zrt (by unfold ztoN; rw [if_neg h12]; exact (if_pos h24).symm), rfl, rfl, hl.1⟩⟩
  · refine g_al0 r7_togetherNow_15 ?_
    refine g_eV0 r7_togetherNow_16 ok7_laidMany pl7_togetherNow pl7_laidMany xx_54 (Nat.le_of_ble_eq_true rfl) (el7_laidMany hl W) ?_
    refine g_goto r7_togetherNow_19 ?_
    exact g_iret r7_togetherNow_33 rfl ⟨rfl, ⟨zrt (by unfold ztoN; rw [if_pos h12]; rfl), rfl, rfl, hl.1⟩⟩
noncomputable def ztoR (J : zMI) (x : Int32) : Int32 := if 0 < J 54 5 then ztoN J x else -103
theorem el7_together {w v0 e1 e2 : Nat} {h : Int64} {J I : zMI} (hO : zOx J I) (W : zWF J) {x : Int32} : zEp m7_together (zRR w v0 e1 e2) h I [.ref 54, .int x] (fun v R1 h1 I1 => v = (some (.int (ztoR J x))) ∧ R1 = (zRR w v0 e1 e2) ∧ h1 = h ∧ zOx (J) I1) := by
  refine zEp_of [.ref 54, .int x] pl7_together (by decide +kernel) (fun _ _ => rfl) (fun _ _ => Nat.le_of_ble_eq_true rfl) ?_
  refine g_al0 r7_together_0 ?_
  refine g_eV0 r7_together_1 ok7_isWorld pl7_together pl7_isWorld xx_54 (Nat.le_of_ble_eq_true rfl) (el7_isWorld hO) ?_
  refine g_ifeqB r7_together_4 (fun h4 => ?_) (fun h4 => ?_)
  · refine g_k r7_together_15 ?_
    exact g_iret r7_together_17 rfl ⟨rfl, ⟨zrt (by unfold ztoR; rw [if_neg h4]), rfl, rfl, hO⟩⟩
  · refine g_al0 r7_together_7 ?_
    refine g_il1 r7_together_8 ?_
    refine g_cV1 r7_together_9 ok7_togetherNow pl7_together pl7_togetherNow xx_54 (Nat.le_of_ble_eq_true rfl) (el7_togetherNow hO W) (fun v' R' h' I1 ⟨q1, q2, q3, hO1⟩ => ?_)
    subst q1; subst q2; subst q3
    refine g_goto r7_together_12 ?_
    exact g_iret r7_together_17 rfl ⟨rfl, ⟨zrt (by unfold ztoR; rw [if_pos h4]), rfl, rfl, hO1⟩⟩
