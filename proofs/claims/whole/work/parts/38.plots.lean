/-- the class's story is the model's -/
def zRs (I J : zMI) : Prop := (I 4 12 = J 54 13 ∧ I 4 13 = J 54 12 ∧ I 4 14 = J 54 11 ∧ I 4 15 = J 54 4) ∧
  (∀ k, k < jt J → (I 5 k = J 63 k ∧ I 6 k = (if J 63 k = -1 then zfF (J 64 k ||| J 65 k) else -1) ∧ I 7 k = J 67 k ∧ I 8 k = J 66 k) ∧ (I 9 k = zlk J k ∧ I 10 k = zhg J k ∧ I 16 k = nI (zth J k)) ∧ I 12 k = (if J 63 k = -1 then 0 else J 59 (J 63 k).toNatClampNeg) ∧ I 13 k = (if J 63 k = -1 then 0 else J 60 (J 63 k).toNatClampNeg) ∧ I 14 k = J 64 k ∧ I 15 k = J 65 k) ∧
  (∀ a, a < 10 → I 11 a = ztd J (nI a) (jt J)) ∧ zTp J (zth J) ∧ zCm J (zth J)
def zNm (I : zMI) (N : Nat) : Prop := ∃ c1 c2, c1 ≤ N ∧ c2 ≤ N ∧ zSn 17 I c1 ∧ zSn 24 I c2
def zQr (w : Nat) (I J : zMI) (N : Nat) : Prop := zWl w I J ∧ zRs I J ∧ zNm I N
/-- only cells of the searches have changed -/
def zFs (I I1 : zMI) : Prop := ∀ k, k < 17 ∨ 30 < k → I1 k = I k
theorem zFs.refl (I : zMI) : zFs I I := fun _ _ => rfl
theorem zFs.trans {I I1 I2 : zMI} (h : zFs I I1) (h' : zFs I1 I2) : zFs I I2 := fun k hk => (h' k hk).trans (h k hk)
theorem zFq.s {q : Nat} (hq : zQ q) {I I1 : zMI} (h : zFq q I I1) : zFs I I1 := fun k hk => h k (by rcases hq with rfl | rfl <;> omega)
theorem zWl_fs {w : Nat} (hw : zW w) {I I1 J : zMI} (hf : zFs I I1) (h : zWl w I J) : zWl w I1 J := by
  have e : ∀ c, c ≤ 9 → I1 (w + c) = I (w + c) := fun c hc => hf (w + c) (by rcases hw with rfl | rfl <;> omega)
  unfold zWl
  simp only [show I1 w = I w from e 0 (by omega), e 1 (by omega), e 2 (by omega), e 3 (by omega), e 4 (by omega), e 5 (by omega), e 6 (by omega), e 7 (by omega), e 8 (by omega), e 9 (by omega)]
  exact h
theorem zRs_fs {I I1 J : zMI} (hf : ∀ k, 4 ≤ k → k ≤ 16 → I1 k = I k) (h : zRs I J) : zRs I1 J := by
  unfold zRs
  simp only [hf 4 (by omega) (by omega), hf 5 (by omega) (by omega), hf 6 (by omega) (by omega), hf 7 (by omega) (by omega), hf 8 (by omega) (by omega), hf 9 (by omega) (by omega), hf 10 (by omega) (by omega), hf 11 (by omega) (by omega), hf 12 (by omega) (by omega), hf 13 (by omega) (by omega), hf 14 (by omega) (by omega), hf 15 (by omega) (by omega), hf 16 (by omega) (by omega)]
  exact h
theorem zSn_o {q : Nat} {I I1 : zMI} {c : Nat} (e1 : I1 q = I q) (e2 : I1 (q + 6) = I (q + 6)) (h : zSn q I c) : zSn q I1 c := by unfold zSn; rw [e1, e2]; exact h
theorem zQr_fs {w : Nat} (hw : zW w) {I I1 J : zMI} {N M : Nat} (hf : zFs I I1) (hn : zNm I1 M) (h : zQr w I J N) : zQr w I1 J M := ⟨zWl_fs hw hf h.1, zRs_fs (fun k _ h2 => hf k (by omega)) h.2.1, hn⟩
theorem zlt2 {x : Int32} : ¬ x < 2 ↔ 1 < x := by
  rw [Int32.lt_iff_toInt_lt, Int32.lt_iff_toInt_lt, show (2 : Int32).toInt = 2 from by decide, show (1 : Int32).toInt = 1 from by decide]; omega
theorem ev6_isPerson {w v0 e1 e2 : Nat} {h : Int64} {J I : zMI} (hw : zW w) (W : zWF J) {N : Nat} (hQ : zQr w I J N) {x : Int32} : zEr m6_isPerson (zRR w v0 e1 e2) h I [.ref 0, .int x] (some (.int (zb (¬ x < 0 ∧ x < nI (jn J))))) (zRR w v0 e1 e2) h I := by
  refine zEp_of [.ref 0, .int x] pl6_isPerson (by decide +kernel) (fun _ _ => rfl) (fun _ _ => Nat.le_of_ble_eq_true rfl) ?_
  refine g_il1 r6_isPerson_0 ?_
  refine g_iflt r6_isPerson_1 (fun h1 => ?_) (fun h1 => ?_)
  · refine g_k r6_isPerson_19 ?_
    exact g_zret r6_isPerson_20 rfl (Or.inl rfl) ⟨rfl, ⟨zrt ((zb_f (fun q => q.1 h1)).symm), rfl, rfl, rfl⟩⟩
  · refine g_il1 r6_isPerson_4 ?_
    refine g_al0 r6_isPerson_5 ?_
    refine g_gfr r6_isPerson_6 xx_0 rfl rr_0_6 ?_
    refine g_gfi r6_isPerson_9 (xw hw) rfl ?_
    refine g_eqv (y := nI (jn J)) (hQ.1.1.1.trans W.n) ?_
    refine g_icgeL r6_isPerson_12 (fun h12 => ?_) (fun h12 => ?_)
    · refine g_k r6_isPerson_19 ?_
      exact g_zret r6_isPerson_20 rfl (Or.inl rfl) ⟨rfl, ⟨zrt ((zb_f (fun q => h12 q.2)).symm), rfl, rfl, rfl⟩⟩
    · refine g_k r6_isPerson_15 ?_
      refine g_goto r6_isPerson_16 ?_
      exact g_zret r6_isPerson_20 rfl (Or.inr rfl) ⟨rfl, ⟨zrt ((zb_t ⟨h1, h12⟩).symm), rfl, rfl, rfl⟩⟩
theorem ev6_isAct {w v0 e1 e2 : Nat} {h : Int64} {J I : zMI} (hw : zW w) (W : zWF J) {N : Nat} (hQ : zQr w I J N) {x : Int32} : zEr m6_isAct (zRR w v0 e1 e2) h I [.ref 0, .int x] (some (.int (zb (¬ x < 0 ∧ x < nI (jm J))))) (zRR w v0 e1 e2) h I := by
  refine zEp_of [.ref 0, .int x] pl6_isAct (by decide +kernel) (fun _ _ => rfl) (fun _ _ => Nat.le_of_ble_eq_true rfl) ?_
  refine g_il1 r6_isAct_0 ?_
  refine g_iflt r6_isAct_1 (fun h1 => ?_) (fun h1 => ?_)
  · refine g_k r6_isAct_19 ?_
    exact g_zret r6_isAct_20 rfl (Or.inl rfl) ⟨rfl, ⟨zrt ((zb_f (fun q => q.1 h1)).symm), rfl, rfl, rfl⟩⟩
  · refine g_il1 r6_isAct_4 ?_
    refine g_al0 r6_isAct_5 ?_
    refine g_gfr r6_isAct_6 xx_0 rfl rr_0_6 ?_
    refine g_gfi r6_isAct_9 (xw hw) rfl ?_
    refine g_eqv (y := nI (jm J)) (hQ.1.1.2.trans W.m) ?_
    refine g_icgeL r6_isAct_12 (fun h12 => ?_) (fun h12 => ?_)
    · refine g_k r6_isAct_19 ?_
      exact g_zret r6_isAct_20 rfl (Or.inl rfl) ⟨rfl, ⟨zrt ((zb_f (fun q => h12 q.2)).symm), rfl, rfl, rfl⟩⟩
    · refine g_k r6_isAct_15 ?_
      refine g_goto r6_isAct_16 ?_
      exact g_zret r6_isAct_20 rfl (Or.inr rfl) ⟨rfl, ⟨zrt ((zb_t ⟨h1, h12⟩).symm), rfl, rfl, rfl⟩⟩
theorem ev6_canBeDone {w v0 e1 e2 : Nat} {h : Int64} {J I : zMI} (hw : zW w) (W : zWF J) {N : Nat} (hQ : zQr w I J N) {a : Nat} (ha : a < jm J) : zEr m6_canBeDone (zRR w v0 e1 e2) h I [.ref 0, .int (nI a)] (some (.int (zb (J 59 a &&& (J 54 11 ^^^ (-1)) = 0 ∧ J 60 a &&& J 54 11 = 0)))) (zRR w v0 e1 e2) h I := by
  have hm10 := W.m10
  refine zEp_of [.ref 0, .int (nI a)] pl6_canBeDone (by decide +kernel) (fun _ _ => rfl) (fun _ _ => Nat.le_of_ble_eq_true rfl) ?_
  refine g_al0 r6_canBeDone_0 ?_
  refine g_il1 r6_canBeDone_1 ?_
  refine g_eV1 r6_canBeDone_2 ok6_isAct pl6_canBeDone pl6_isAct xx_0 (Nat.le_of_ble_eq_true rfl) (ev6_isAct hw W hQ) ?_
  refine g_ifeqB r6_canBeDone_5 (fun hc => absurd hc (fun q => q ⟨nI_pos (by omega), nI_lt ha (by omega)⟩)) (fun h5 => ?_)
  refine g_al0 r6_canBeDone_8 ?_
  refine g_gfr r6_canBeDone_9 xx_0 rfl rr_0_2 ?_
  refine g_gfi r6_canBeDone_12 xx_4 rfl ?_
  refine g_eqv (y := J 54 11) hQ.2.1.1.2.2.1 ?_
  refine g_al0 r6_canBeDone_15 ?_
  refine g_gfr r6_canBeDone_16 xx_0 rfl rr_0_6 ?_
  refine g_gfr r6_canBeDone_19 (xw hw) rfl (rw_5 hw) ?_
  refine g_il1 r6_canBeDone_22 ?_
  refine g_ialdN r6_canBeDone_23 (xwa_5 hw) (by omega) (by decide) ?_
  refine g_eqv (y := J 59 a) (hQ.1.2.2 a ha).2.1 ?_
  refine g_al0 r6_canBeDone_24 ?_
  refine g_gfr r6_canBeDone_25 xx_0 rfl rr_0_6 ?_
  refine g_gfr r6_canBeDone_28 (xw hw) rfl (rw_6 hw) ?_
  refine g_il1 r6_canBeDone_31 ?_
  refine g_ialdN r6_canBeDone_32 (xwa_6 hw) (by omega) (by decide) ?_
  refine g_eqv (y := J 60 a) (hQ.1.2.2 a ha).2.2.1 ?_
  refine g_eS3 r6_canBeDone_33 ok6_holds pl6_canBeDone pl6_holds (Nat.le_of_ble_eq_true rfl) (ev6_holds) ?_
  refine g_ifeqB r6_canBeDone_36 (fun h36 => ?_) (fun h36 => ?_)
  · refine g_k r6_canBeDone_43 ?_
    exact g_zret r6_canBeDone_44 rfl (Or.inl rfl) ⟨rfl, ⟨zrt ((zb_f (mt zhc.mpr h36)).symm), rfl, rfl, rfl⟩⟩
  · refine g_k r6_canBeDone_39 ?_
    refine g_goto r6_canBeDone_40 ?_
    exact g_zret r6_canBeDone_44 rfl (Or.inr rfl) ⟨rfl, ⟨zrt ((zb_t (zhc.mp h36)).symm), rfl, rfl, rfl⟩⟩
theorem ev6_isSatisfied {w v0 e1 e2 : Nat} {h : Int64} {J I : zMI} (hw : zW w) (W : zWF J) {N : Nat} (hQ : zQr w I J N) {q : Nat} (hq : q < jn J) : zEr m6_isSatisfied (zRR w v0 e1 e2) h I [.ref 0, .int (nI q)] (some (.int (zb (zb (J 54 11 >>> (J 56 q &&& 31) &&& 1 = 1) = J 57 q)))) (zRR w v0 e1 e2) h I := by
  have hn4 := W.n4
  refine zEp_of [.ref 0, .int (nI q)] pl6_isSatisfied (by decide +kernel) (fun _ _ => rfl) (fun _ _ => Nat.le_of_ble_eq_true rfl) ?_
  refine g_al0 r6_isSatisfied_0 ?_
  refine g_il1 r6_isSatisfied_1 ?_
  refine g_eV1 r6_isSatisfied_2 ok6_isPerson pl6_isSatisfied pl6_isPerson xx_0 (Nat.le_of_ble_eq_true rfl) (ev6_isPerson hw W hQ) ?_
  refine g_ifeqB r6_isSatisfied_5 (fun hc => absurd hc (fun q => q ⟨nI_pos (by omega), nI_lt hq (by omega)⟩)) (fun h5 => ?_)
  refine g_al0 r6_isSatisfied_8 ?_
  refine g_gfr r6_isSatisfied_9 xx_0 rfl rr_0_2 ?_
  refine g_gfi r6_isSatisfied_12 xx_4 rfl ?_
  refine g_eqv (y := J 54 11) hQ.2.1.1.2.2.1 ?_
  refine g_al0 r6_isSatisfied_15 ?_
  refine g_gfr r6_isSatisfied_16 xx_0 rfl rr_0_6 ?_
  refine g_gfr r6_isSatisfied_19 (xw hw) rfl (rw_2 hw) ?_
  refine g_il1 r6_isSatisfied_22 ?_
  refine g_ialdN r6_isSatisfied_23 (xwa_2 hw) (by omega) (by decide) ?_
  refine g_al0 r6_isSatisfied_24 ?_
  refine g_gfr r6_isSatisfied_25 xx_0 rfl rr_0_6 ?_
  refine g_gfr r6_isSatisfied_28 (xw hw) rfl (rw_3 hw) ?_
  refine g_il1 r6_isSatisfied_31 ?_
  refine g_ialdN r6_isSatisfied_32 (xwa_3 hw) (by omega) (by decide) ?_
  refine g_eS3 r6_isSatisfied_33 ok6_holds pl6_isSatisfied pl6_holds (Nat.le_of_ble_eq_true rfl) (ev6_holds) ?_
  refine g_ifeqB r6_isSatisfied_36 (fun h36 => ?_) (fun h36 => ?_)
  · refine g_k r6_isSatisfied_43 ?_
    exact g_zret r6_isSatisfied_44 rfl (Or.inl rfl) ⟨rfl, ⟨zrt ((zb_f (mt (zwh3 W hQ.1 hq _).mpr h36)).symm), rfl, rfl, rfl⟩⟩
  · refine g_k r6_isSatisfied_39 ?_
    refine g_goto r6_isSatisfied_40 ?_
    exact g_zret r6_isSatisfied_44 rfl (Or.inr rfl) ⟨rfl, ⟨zrt ((zb_t ((zwh3 W hQ.1 hq _).mp h36)).symm), rfl, rfl, rfl⟩⟩
theorem lp6_repertoire {w v0 e1 e2 : Nat} {h : Int64} {J I : zMI} (hw : zW w) (W : zWF J) {N : Nat} (hQ : zQr w I J N) {q : Nat} {b : Int32} (hb : b = 0 ↔ ¬ J 55 q = 2) (hm10 : jm J ≤ 10) : ∀ d i, jm J - i < d → i ≤ jm J → zGo m6_repertoire 32 [.ref 0, .int (nI q), .int b, .int (zao J q (jt J) i), .int (nI i)] [] zX (zRR w v0 e1 e2) h I (fun v X1 R1 h1 I1 => X1 = zX ∧ v = some (.int (zao J q (jt J) (jm J))) ∧ R1 = (zRR w v0 e1 e2) ∧ h1 = h ∧ I1 = I) := by
  intro d
  induction d with
  | zero => intro i hd0; exact absurd hd0 (Nat.not_lt_zero _)
  | succ d ih =>
    intro i hd0 hd1
    refine g_il4 r6_repertoire_32 ?_
    refine g_al0 r6_repertoire_34 ?_
    refine g_gfr r6_repertoire_35 xx_0 rfl rr_0_6 ?_
    refine g_gfi r6_repertoire_38 (xw hw) rfl ?_
    refine g_eqv (y := nI (jm J)) (hQ.1.1.2.trans W.m) ?_
    refine g_icgeN r6_repertoire_41 (by omega) (by omega) (fun h41 => ?_) (fun h41 => ?_)
    · refine g_il3 r6_repertoire_89 ?_
      exact g_iret r6_repertoire_90 rfl ⟨rfl, ⟨zrt (by rw [show i = jm J by omega]), rfl, rfl, rfl⟩⟩
    · refine g_al0 r6_repertoire_44 ?_
      refine g_gfr r6_repertoire_45 xx_0 rfl rr_0_6 ?_
      refine g_gfr r6_repertoire_48 (xw hw) rfl (rw_4 hw) ?_
      refine g_il4 r6_repertoire_51 ?_
      refine g_ialdN r6_repertoire_53 (xwa_4 hw) (by omega) (by decide) ?_
      refine g_eqv (y := J 58 i) (hQ.1.2.2 i (by omega)).1 ?_
      refine g_il1 r6_repertoire_54 ?_
      refine g_iceq r6_repertoire_55 (fun h55 => ?_) (fun h55 => ?_)
      · refine g_il3 r6_repertoire_76 ?_
        refine g_k r6_repertoire_77 ?_
        refine g_il4 r6_repertoire_78 ?_
        refine g_ishl r6_repertoire_80 ?_
        refine g_ior r6_repertoire_81 ?_
        refine g_is3 r6_repertoire_82 rfl ?_
        refine g_iiN4 r6_repertoire_83 rfl ?_
        refine g_goto r6_repertoire_86 ?_
        have ih2 := ih (i + 1) (by omega) (by omega)
        simp only [zao] at ih2
        rw [if_pos (show J 58 i = nI q ∨ (J 55 q = 2 ∧ 1 < ztd J (nI i) (jt J)) from Or.inl h55)] at ih2
        exact ih2
      · refine g_il2 r6_repertoire_58 ?_
        refine g_ifeq r6_repertoire_59 (fun h59 => ?_) (fun h59 => ?_)
        · refine g_iiN4 r6_repertoire_83 rfl ?_
          refine g_goto r6_repertoire_86 ?_
          have ih2 := ih (i + 1) (by omega) (by omega)
          simp only [zao] at ih2
          rw [if_neg (show ¬ (J 58 i = nI q ∨ (J 55 q = 2 ∧ 1 < ztd J (nI i) (jt J))) from fun q => q.elim h55 (fun q => hb.mp h59 q.1)), Int32.or_zero] at ih2
          exact ih2
        · refine g_al0 r6_repertoire_62 ?_
          refine g_gfr r6_repertoire_63 xx_0 rfl rr_0_2 ?_
          refine g_gfr r6_repertoire_66 xx_4 rfl rr_4_6 ?_
          refine g_il4 r6_repertoire_69 ?_
          refine g_ialdN r6_repertoire_71 xx_11 (by omega) (by decide) ?_
          refine g_eqv (y := ztd J (nI i) (jt J)) (hQ.2.1.2.2.1 i (by omega)) ?_
          refine g_k r6_repertoire_72 ?_
          refine g_iclt r6_repertoire_73 (fun h73 => ?_) (fun h73 => ?_)
          · refine g_iiN4 r6_repertoire_83 rfl ?_
            refine g_goto r6_repertoire_86 ?_
            have ih2 := ih (i + 1) (by omega) (by omega)
            simp only [zao] at ih2
            rw [if_neg (show ¬ (J 58 i = nI q ∨ (J 55 q = 2 ∧ 1 < ztd J (nI i) (jt J))) from fun q => q.elim h55 (fun q => zlt2.mpr q.2 h73)), Int32.or_zero] at ih2
            exact ih2
          · refine g_il3 r6_repertoire_76 ?_
            refine g_k r6_repertoire_77 ?_
            refine g_il4 r6_repertoire_78 ?_
            refine g_ishl r6_repertoire_80 ?_
            refine g_ior r6_repertoire_81 ?_
            refine g_is3 r6_repertoire_82 rfl ?_
            refine g_iiN4 r6_repertoire_83 rfl ?_
            refine g_goto r6_repertoire_86 ?_
            have ih2 := ih (i + 1) (by omega) (by omega)
            simp only [zao] at ih2
            rw [if_pos (show J 58 i = nI q ∨ (J 55 q = 2 ∧ 1 < ztd J (nI i) (jt J)) from Or.inr ⟨Classical.not_not.mp (mt hb.mpr h59), zlt2.mp h73⟩)] at ih2
            exact ih2
theorem ev6_repertoire {w v0 e1 e2 : Nat} {h : Int64} {J I : zMI} (hw : zW w) (W : zWF J) {N : Nat} (hQ : zQr w I J N) {q : Nat} (hq : q < jn J) : zEr m6_repertoire (zRR w v0 e1 e2) h I [.ref 0, .int (nI q)] (some (.int (zao J q (jt J) (jm J)))) (zRR w v0 e1 e2) h I := by
  have hn4 := W.n4
  refine zEp_of [.ref 0, .int (nI q), .null, .null, .null] pl6_repertoire (by decide +kernel) (fun _ _ => rfl) (fun _ _ => Nat.le_of_ble_eq_true rfl) ?_
  refine g_al0 r6_repertoire_0 ?_
  refine g_il1 r6_repertoire_1 ?_
  refine g_eV1 r6_repertoire_2 ok6_isPerson pl6_repertoire pl6_isPerson xx_0 (Nat.le_of_ble_eq_true rfl) (ev6_isPerson hw W hQ) ?_
  refine g_ifeqB r6_repertoire_5 (fun hc => absurd hc (fun q => q ⟨nI_pos (by omega), nI_lt hq (by omega)⟩)) (fun h5 => ?_)
  refine g_al0 r6_repertoire_8 ?_
  refine g_gfr r6_repertoire_9 xx_0 rfl rr_0_6 ?_
  refine g_gfr r6_repertoire_12 (xw hw) rfl (rw_0 hw) ?_
  refine g_il1 r6_repertoire_15 ?_
  refine g_ialdN r6_repertoire_16 (xwa_0 hw) (by omega) (by decide) ?_
  refine g_eqv (y := J 55 q) (hQ.1.2.1 q hq).1 ?_
  refine g_k r6_repertoire_17 ?_
  refine g_icne r6_repertoire_18 (fun h18 => ?_) (fun h18 => ?_)
  · refine g_k r6_repertoire_25 ?_
    refine g_is2 r6_repertoire_26 rfl ?_
    refine g_k r6_repertoire_27 ?_
    refine g_is3 r6_repertoire_28 rfl ?_
    refine g_k r6_repertoire_29 ?_
    refine g_is4 r6_repertoire_30 rfl ?_
    exact lp6_repertoire hw W hQ ⟨fun _ => h18, fun _ => rfl⟩ W.m10 (jm J + 1) 0 (by omega) (by omega)
  · refine g_k r6_repertoire_21 ?_
    refine g_goto r6_repertoire_22 ?_
    refine g_is2 r6_repertoire_26 rfl ?_
    refine g_k r6_repertoire_27 ?_
    refine g_is3 r6_repertoire_28 rfl ?_
    refine g_k r6_repertoire_29 ?_
    refine g_is4 r6_repertoire_30 rfl ?_
    exact lp6_repertoire hw W hQ ⟨fun c => absurd c (by decide), fun c => absurd h18 c⟩ W.m10 (jm J + 1) 0 (by omega) (by omega)
theorem zNm_17 {I I1 : zMI} {N : Nat} (h : zNm I N) (hf : zFq 17 I I1) (h1 : ∀ c1, zSn 17 I c1 → zSn 17 I1 (c1 + 1)) : zNm I1 (N + 1) := by
  obtain ⟨c1, c2, a1, a2, a3, a4⟩ := h
  exact ⟨c1 + 1, c2, by omega, by omega, h1 c1 a3, zSn_o (hf 24 (by omega)) (hf 30 (by omega)) a4⟩
theorem zSn_one {q : Nat} {I : zMI} {c c' : Nat} (h : zSn q I c) (h' : zSn q I c') (hc : c < 2 ^ 31) (hc' : c' < 2 ^ 31) : c = c' := (nI_eq hc hc').mp (h.1.symm.trans h'.1)
/-- search 17 has sought -/
def zSk (I I1 J : zMI) (S : Int32) (G : Nat → Prop) (M : Nat) : Prop := zFnd 17 I1 (zEa J S) (zNx J) G (jm J) (js J) ∧ zFs I I1 ∧ zNm I1 M
theorem ev6_seekPlan {w v0 e1 e2 : Nat} {h : Int64} {J I : zMI} (hw : zW w) (W : zWF J) {N : Nat} (hQ : zQr w I J N) (hN : N + 1 < 2 ^ 31) {q : Nat} (hq : q < jn J) : zEp m6_seekPlan (zRR w v0 e1 e2) h I [.ref 0, .int (nI q)] (fun v R1 h1 I1 => v = none ∧ R1 = (zRR w v0 e1 e2) ∧ h1 = h ∧ zSk I I1 J (zao J q (jt J) (jm J)) (zwq J q) (N + 1)) := by
  have hn4 := W.n4
  refine zEp_of [.ref 0, .int (nI q)] pl6_seekPlan (by decide +kernel) (fun _ _ => rfl) (fun _ _ => Nat.le_of_ble_eq_true rfl) ?_
  refine g_al0 r6_seekPlan_0 ?_
  refine g_il1 r6_seekPlan_1 ?_
  refine g_eV1 r6_seekPlan_2 ok6_isPerson pl6_seekPlan pl6_isPerson xx_0 (Nat.le_of_ble_eq_true rfl) (ev6_isPerson hw W hQ) ?_
  refine g_ifeqB r6_seekPlan_5 (fun hc => absurd hc (fun q => q ⟨nI_pos (by omega), nI_lt hq (by omega)⟩)) (fun h5 => ?_)
  refine g_al0 r6_seekPlan_8 ?_
  refine g_gfr r6_seekPlan_9 xx_0 rfl rr_0_3 ?_
  refine g_al0 r6_seekPlan_12 ?_
  refine g_gfr r6_seekPlan_13 xx_0 rfl rr_0_6 ?_
  refine g_al0 r6_seekPlan_16 ?_
  refine g_il1 r6_seekPlan_17 ?_
  refine g_eV1 r6_seekPlan_18 ok6_repertoire pl6_seekPlan pl6_repertoire xx_0 (Nat.le_of_ble_eq_true rfl) (ev6_repertoire hw W hQ hq) ?_
  refine g_al0 r6_seekPlan_21 ?_
  refine g_gfr r6_seekPlan_22 xx_0 rfl rr_0_2 ?_
  refine g_gfi r6_seekPlan_25 xx_4 rfl ?_
  refine g_eqv (y := nI (js J)) (hQ.2.1.1.2.2.1.trans W.s) ?_
  refine g_al0 r6_seekPlan_28 ?_
  refine g_gfr r6_seekPlan_29 xx_0 rfl rr_0_6 ?_
  refine g_gfr r6_seekPlan_32 (xw hw) rfl (rw_2 hw) ?_
  refine g_il1 r6_seekPlan_35 ?_
  refine g_ialdN r6_seekPlan_36 (xwa_2 hw) (by omega) (by decide) ?_
  refine g_al0 r6_seekPlan_37 ?_
  refine g_gfr r6_seekPlan_38 xx_0 rfl rr_0_6 ?_
  refine g_gfr r6_seekPlan_41 (xw hw) rfl (rw_3 hw) ?_
  refine g_il1 r6_seekPlan_44 ?_
  refine g_ialdN r6_seekPlan_45 (xwa_3 hw) (by omega) (by decide) ?_
  obtain ⟨c1, c2, a1, a2, a3, a4⟩ := hQ.2.2
  refine g_cV5 r6_seekPlan_46 ok3_seek pl6_seekPlan pl3_seek xx_17 (Nat.le_of_ble_eq_true rfl) (ev3_seek (G := zwq J q) (Or.inl rfl) hw W (by omega) hQ.1 W.s8 a3 (fun t ht => zwh3 W hQ.1 hq (nI t))) (fun v' R' h' I1 ⟨q1, q2, q3, hf1, hF1, hn1⟩ => ?_)
  subst q1; subst q2; subst q3
  exact g_vret r6_seekPlan_49 rfl ⟨rfl, ⟨rfl, rfl, rfl, hf1, hF1.s (Or.inl rfl), c1 + 1, c2, by omega, by omega, hn1, zSn_o (hF1 24 (by omega)) (hF1 30 (by omega)) a4⟩⟩
theorem zalB : ∀ n, n ≤ 4 → ∀ i, i < 32 → zBt ((1 : Int32) <<< (nI n &&& 31) - 1) i = decide (i < n) := by decide +kernel
theorem zwi_b {J : zMI} {s : Int32} : ∀ n, n ≤ 4 → ∀ i, i < 32 → (zBt (zwi J s n) i = true ↔ i < n ∧ zb (s >>> (J 56 i &&& 31) &&& 1 = 1) = J 57 i)
  | 0, _, i, hi => by simp [zwi, zBt_0]
  | n + 1, hn, i, hi => by
    simp only [zwi, zBt_or]
    have ih := zwi_b (J := J) (s := s) n (by omega) i hi
    by_cases c : zb (s >>> (J 56 n &&& 31) &&& 1 = 1) = J 57 n
    · rw [if_pos c, zBt_p n (by omega) i hi]
      by_cases e : i = n
      · subst e; simp [c]
      · rw [Bool.or_eq_true, ih]
        simp only [e, decide_false, Bool.false_eq_true, or_false]
        exact ⟨fun q => ⟨by omega, q.2⟩, fun q => ⟨by omega, q.2⟩⟩
    · rw [if_neg c, zBt_0, Bool.or_false, ih]
      exact ⟨fun q => ⟨by omega, q.2⟩, fun q => ⟨by
        by_cases e : i = n
        · rw [e] at q; exact absurd q.2 c
        · omega, q.2⟩⟩
theorem zwi_all {J : zMI} {s : Int32} {n : Nat} (hn : n ≤ 4) : zwi J s n = 1 <<< (nI n &&& 31) - 1 ↔ ∀ i, i < n → zb (s >>> (J 56 i &&& 31) &&& 1 = 1) = J 57 i := by
  constructor
  · intro h i hi
    have := zwi_b (J := J) (s := s) n hn i (by omega)
    rw [h, zalB n hn i (by omega)] at this
    exact (this.mp (by simpa using hi)).2
  · intro h
    apply zBt_ext
    intro i hi
    rw [zalB n hn i hi]
    have := zwi_b (J := J) (s := s) n hn i hi
    by_cases q : i < n
    · simp only [q, decide_true]; exact this.mpr ⟨q, h i q⟩
    · simp only [q, decide_false]
      cases e : zBt (zwi J s n) i
      · rfl
      · exact absurd (this.mp e).1 q
theorem zand_or {s x y : Int32} : s &&& (x ||| y) = x ||| y ↔ s &&& x = x ∧ s &&& y = y := by
  constructor
  · intro h
    constructor <;> (apply zBt_ext; intro i hi; have e := congrArg (fun t => zBt t i) h; simp only [zBt_and, zBt_or] at e ⊢; cases a : zBt s i <;> cases b : zBt x i <;> cases c : zBt y i <;> simp_all)
  · rintro ⟨h1, h2⟩
    apply zBt_ext; intro i hi
    have e1 := congrArg (fun t => zBt t i) h1
    have e2 := congrArg (fun t => zBt t i) h2
    simp only [zBt_and, zBt_or] at e1 e2 ⊢
    cases a : zBt s i <;> cases b : zBt x i <;> cases c : zBt y i <;> simp_all
theorem zand_or0 {s x y : Int32} : s &&& (x ||| y) = 0 ↔ s &&& x = 0 ∧ s &&& y = 0 := by
  simp only [zBt_and0, zBt_or]
  constructor
  · intro h; exact ⟨fun i hi q => h i hi ⟨q.1, by simp [q.2]⟩, fun i hi q => h i hi ⟨q.1, by simp [q.2]⟩⟩
  · rintro ⟨h1, h2⟩ i hi ⟨a, b⟩
    rw [Bool.or_eq_true] at b
    exact b.elim (fun q => h1 i hi ⟨a, q⟩) (fun q => h2 i hi ⟨a, q⟩)
/-- the goals of a set hold: each of them -/
theorem zgs_h {T F : Nat → Int32} {S s : Int32} : ∀ n, n ≤ 4 → ((s &&& zgs T S n = zgs T S n ∧ s &&& zgs F S n = 0) ↔ ∀ i, i < n → zBt S i = true → (s &&& T i = T i ∧ s &&& F i = 0))
  | 0, _ => by simp [zgs]
  | n + 1, hn => by
    have ih := zgs_h (T := T) (F := F) (S := S) (s := s) n (by omega)
    simp only [zgs]
    have e := zBt_1i (x := S) (show n < 32 by omega)
    by_cases c : S >>> (nI n &&& 31) &&& 1 = 1
    · simp only [if_pos c, zand_or, zand_or0]
      constructor
      · rintro ⟨⟨a1, a2⟩, b1, b2⟩ i hi hS
        by_cases q : i = n
        · subst q; exact ⟨a2, b2⟩
        · exact ih.mp ⟨a1, b1⟩ i (by omega) hS
      · intro hh
        obtain ⟨a1, b1⟩ := ih.mpr (fun i hi hS => hh i (by omega) hS)
        obtain ⟨a2, b2⟩ := hh n (by omega) (e.mp c)
        exact ⟨⟨a1, a2⟩, b1, b2⟩
    · simp only [if_neg c]
      rw [ih]
      exact ⟨fun hh i hi hS => hh i (by
        by_cases q : i = n
        · rw [q] at hS; exact absurd (e.mpr hS) c
        · omega) hS, fun hh i hi hS => hh i (by omega) hS⟩
theorem zgoal {J : zMI} (W : zWF J) (S s : Int32) : (s &&& zgT J S = zgT J S ∧ s &&& zgF J S = 0) ↔ ∀ i, i < jn J → zBt S i = true → zb (s >>> (J 56 i &&& 31) &&& 1 = 1) = J 57 i := by
  unfold zgT zgF
  rw [zgs_h (jn J) W.n4]
  constructor
  · intro hh i hi hS
    obtain ⟨f, hf, ef⟩ := (W.P i hi).1
    have := hh i hi hS
    rw [ef] at this ⊢
    exact (zwh2 hf (W.P i hi).2).mp this
  · intro hh i hi hS
    obtain ⟨f, hf, ef⟩ := (W.P i hi).1
    have := hh i hi hS
    rw [ef] at this ⊢
    exact (zwh2 hf (W.P i hi).2).mpr this
theorem zgall {J : zMI} (W : zWF J) (s : Int32) : (s &&& zgT J (1 <<< (nI (jn J) &&& 31) - 1) = zgT J (1 <<< (nI (jn J) &&& 31) - 1) ∧ s &&& zgF J (1 <<< (nI (jn J) &&& 31) - 1) = 0) ↔ zwi J s (jn J) = 1 <<< (nI (jn J) &&& 31) - 1 := by
  rw [zgoal W, zwi_all W.n4]
  have n4 := W.n4
  exact ⟨fun hh i hi => hh i hi (by rw [zalB _ n4 i (by omega)]; simpa using hi), fun hh i hi _ => hh i hi⟩
theorem ev6_seekTogether {w v0 e1 e2 : Nat} {h : Int64} {J I : zMI} (hw : zW w) (W : zWF J) {N : Nat} (hQ : zQr w I J N) (hN : N + 1 < 2 ^ 31) : zEp m6_seekTogether (zRR w v0 e1 e2) h I [.ref 0] (fun v R1 h1 I1 => v = none ∧ R1 = (zRR w v0 e1 e2) ∧ h1 = h ∧ zSk I I1 J (1 <<< (nI (jm J) &&& 31) - 1) (zTg J (jn J)) (N + 1)) := by
  refine zEp_of [.ref 0, .null] pl6_seekTogether (by decide +kernel) (fun _ _ => rfl) (fun _ _ => Nat.le_of_ble_eq_true rfl) ?_
  refine g_al0 r6_seekTogether_0 ?_
  refine g_gfr r6_seekTogether_1 xx_0 rfl rr_0_6 ?_
  refine g_eV0 r6_seekTogether_4 ok5_everybody pl6_seekTogether pl5_everybody (xw hw) (Nat.le_of_ble_eq_true rfl) (ev5_everybody hw W hQ.1) ?_
  refine g_is1 r6_seekTogether_7 rfl ?_
  refine g_al0 r6_seekTogether_8 ?_
  refine g_gfr r6_seekTogether_9 xx_0 rfl rr_0_3 ?_
  refine g_al0 r6_seekTogether_12 ?_
  refine g_gfr r6_seekTogether_13 xx_0 rfl rr_0_6 ?_
  refine g_al0 r6_seekTogether_16 ?_
  refine g_gfr r6_seekTogether_17 xx_0 rfl rr_0_6 ?_
  refine g_eV0 r6_seekTogether_20 ok5_everyAct pl6_seekTogether pl5_everyAct (xw hw) (Nat.le_of_ble_eq_true rfl) (ev5_everyAct hw W hQ.1) ?_
  refine g_al0 r6_seekTogether_23 ?_
  refine g_gfr r6_seekTogether_24 xx_0 rfl rr_0_2 ?_
  refine g_gfi r6_seekTogether_27 xx_4 rfl ?_
  refine g_eqv (y := nI (js J)) (hQ.2.1.1.2.2.1.trans W.s) ?_
  refine g_al0 r6_seekTogether_30 ?_
  refine g_gfr r6_seekTogether_31 xx_0 rfl rr_0_6 ?_
  refine g_il1 r6_seekTogether_34 ?_
  refine g_eV1 r6_seekTogether_35 ok5_goalsToBeTrue pl6_seekTogether pl5_goalsToBeTrue (xw hw) (Nat.le_of_ble_eq_true rfl) (ev5_goalsToBeTrue hw W hQ.1) ?_
  refine g_al0 r6_seekTogether_38 ?_
  refine g_gfr r6_seekTogether_39 xx_0 rfl rr_0_6 ?_
  refine g_il1 r6_seekTogether_42 ?_
  refine g_eV1 r6_seekTogether_43 ok5_goalsToBeFalse pl6_seekTogether pl5_goalsToBeFalse (xw hw) (Nat.le_of_ble_eq_true rfl) (ev5_goalsToBeFalse hw W hQ.1) ?_
  obtain ⟨c1, c2, a1, a2, a3, a4⟩ := hQ.2.2
  refine g_cV5 r6_seekTogether_46 ok3_seek pl6_seekTogether pl3_seek xx_17 (Nat.le_of_ble_eq_true rfl) (ev3_seek (G := zTg J (jn J)) (Or.inl rfl) hw W (by omega) hQ.1 W.s8 a3 (fun t ht => zgall W (nI t))) (fun v' R' h' I1 ⟨q1, q2, q3, hf1, hF1, hn1⟩ => ?_)
  subst q1; subst q2; subst q3
  exact g_vret r6_seekTogether_49 rfl ⟨rfl, ⟨rfl, rfl, rfl, hf1, hF1.s (Or.inl rfl), c1 + 1, c2, by omega, by omega, hn1, zSn_o (hF1 24 (by omega)) (hF1 30 (by omega)) a4⟩⟩
