theorem lp7_cut {w v0 e1 e2 : Nat} {h : Int64} {J I : zMI} (hO : zOx J I) (W : zWF J) : ∀ f s, zpc s (jt J) ≤ f → zGo m7_cut 11 [.ref 54, .int s, .int (zfd J s)] [] zX (zRR w v0 e1 e2) h I (fun v X1 R1 h1 I1 => X1 = zX ∧ v = some (.int (zcut J f s)) ∧ R1 = (zRR w v0 e1 e2) ∧ h1 = h ∧ I1 = I) := by
  intro f
  induction f with
  | zero =>
    intro s hs
    have h0 : zfd J s = -1 := by
      rcases zfd_cases W s with q | ⟨d, hd, -, hb, -⟩
      · exact q
      · have := zpc_lt hd W.t30 hb; omega
    refine g_il2 r7_cut_11 ?_
    refine g_k r7_cut_12 ?_
    refine g_iceq r7_cut_13 (fun h13 => ?_) (fun hc => absurd hc (fun q => q h0))
    refine g_il1 r7_cut_33 ?_
    exact g_iret r7_cut_34 rfl ⟨rfl, ⟨zrt (rfl), rfl, rfl, rfl⟩⟩
  | succ f ih =>
    intro s hs
    refine g_il2 r7_cut_11 ?_
    refine g_k r7_cut_12 ?_
    refine g_iceq r7_cut_13 (fun h13 => ?_) (fun h13 => ?_)
    · refine g_il1 r7_cut_33 ?_
      exact g_iret r7_cut_34 rfl ⟨rfl, ⟨zrt (by simp only [zcut]; rw [if_pos h13]), rfl, rfl, rfl⟩⟩
    · obtain ⟨d, hd, ed, hb, -⟩ := (zfd_cases W s).resolve_left h13
      refine g_il1 r7_cut_16 ?_
      refine g_k r7_cut_17 ?_
      refine g_il2 r7_cut_18 ?_
      refine g_ishl r7_cut_19 ?_
      refine g_k r7_cut_20 ?_
      refine g_ixor r7_cut_21 ?_
      refine g_iand r7_cut_22 ?_
      refine g_is1 r7_cut_23 rfl ?_
      refine g_al0 r7_cut_24 ?_
      refine g_il1 r7_cut_25 ?_
      refine g_eV1 r7_cut_26 ok7_firstDull pl7_cut pl7_firstDull xx_54 (Nat.le_of_ble_eq_true rfl) (el7_firstDull hO W) ?_
      refine g_is2 r7_cut_29 rfl ?_
      refine g_goto r7_cut_30 ?_
      have e : zcut J (f + 1) s = zcut J f (s &&& ((1 <<< (zfd J s &&& 31)) ^^^ (-1))) := by simp only [zcut]; rw [if_neg h13]
      rw [e]
      refine ih _ ?_
      have := zpc_lt hd W.t30 hb
      rw [← ed] at this; omega
theorem el7_cut {w v0 e1 e2 : Nat} {h : Int64} {J I : zMI} (hO : zOx J I) (W : zWF J)  : zEr m7_cut (zRR w v0 e1 e2) h I [.ref 54] (some (.int (zcut J (jt J) (zal J)))) (zRR w v0 e1 e2) h I := by
  refine zEp_of [.ref 54, .null, .null] pl7_cut (by decide +kernel) (fun _ _ => rfl) (fun _ _ => Nat.le_of_ble_eq_true rfl) ?_
  refine g_al0 r7_cut_0 ?_
  refine g_eV0 r7_cut_1 ok7_allSteps pl7_cut pl7_allSteps xx_54 (Nat.le_of_ble_eq_true rfl) (el7_allSteps hO) ?_
  refine g_is1 r7_cut_4 rfl ?_
  refine g_al0 r7_cut_5 ?_
  refine g_il1 r7_cut_6 ?_
  refine g_eV1 r7_cut_7 ok7_firstDull pl7_cut pl7_firstDull xx_54 (Nat.le_of_ble_eq_true rfl) (el7_firstDull hO W) ?_
  refine g_is2 r7_cut_10 rfl ?_
  exact lp7_cut hO W (jt J) (zal J) (zpc_le _ _)
def zlM (J : zMI) : Nat → Int32
  | 0 => 0
  | k + 1 => zlM J k + zbc (zlk J k) 31
def zfrE (L : Int32) (k : Nat) (acc : Int32) : Nat → Int32
  | 0 => acc
  | e + 1 => if L >>> (nI e &&& 31) &&& 1 = 1 ∧ zfrE L k acc e < nI k - nI e then nI k - nI e else zfrE L k acc e
def zfr (J : zMI) : Nat → Int32
  | 0 => 0
  | k + 1 => zfrE (zlk J k) k (zfr J k) k
def zfF (x : Int32) : Int32 := zfi (fun f => x = nI (2 ^ f)) 8
theorem zp2 : ∀ f, f < 8 → ∀ j, j < 8 → (nI (2 ^ f) = nI (2 ^ j) ↔ f = j) := by decide +kernel
theorem zfF_eq {f : Nat} (hf : f < 8) : zfF (nI (2 ^ f)) = nI f := zfi_yes (p := fun j => nI (2 ^ f) = nI (2 ^ j)) rfl (fun j hj q => by have := (zp2 f hf j (by omega)).mp q; omega) (by omega) hf
theorem zta_c {T T' : Nat → Int32} : ∀ {x : Nat}, (∀ j, j < x → T j = T' j) → zta T x = zta T' x
  | 0, _ => rfl
  | x + 1, h => by simp only [zta]; rw [zta_c (fun j hj => h j (by omega)), h x (by omega)]
noncomputable def zTa (J : zMI) (x : Nat) : Int32 := zta (fun j => nI (zth J j)) x
theorem el7_threadsAhead {w v0 e1 e2 : Nat} {h : Int64} {J I : zMI} (hl : zLkd J I) (W : zWF J) {x : Nat} (hx : x ≤ jt J) : zEr m7_threadsAhead (zRR w v0 e1 e2) h I [.ref 54, .int (nI x)] (some (.int (zTa J x))) (zRR w v0 e1 e2) h I := by
  unfold zTa
  rw [← zta_c (fun j hj => (hl.2.1 j (by omega)).2.2)]
  exact ev7_threadsAhead (by have := W.t30; omega)
theorem lp7_linksMany {w v0 e1 e2 : Nat} {h : Int64} {J I : zMI} (hl : zLkd J I) (W : zWF J) (ht30 : jt J ≤ 30) : ∀ d i, jt J - i < d → i ≤ jt J → zGo m7_linksMany 4 [.ref 54, .int (zlM J i), .int (nI i)] [] zX (zRR w v0 e1 e2) h I (fun v X1 R1 h1 I1 => X1 = zX ∧ v = some (.int (zlM J (jt J))) ∧ R1 = (zRR w v0 e1 e2) ∧ h1 = h ∧ I1 = I) := by
  intro d
  induction d with
  | zero => intro i hd0; exact absurd hd0 (Nat.not_lt_zero _)
  | succ d ih =>
    intro i hd0 hd1
    refine g_il2 r7_linksMany_4 ?_
    refine g_al0 r7_linksMany_5 ?_
    refine g_gfi r7_linksMany_6 xx_54 rfl ?_
    refine g_eqv (y := nI (jt J)) ((hl.1.f 13 (by decide)).trans W.t) ?_
    refine g_icgeN r7_linksMany_9 (by omega) (by omega) (fun h9 => ?_) (fun h9 => ?_)
    · refine g_il1 r7_linksMany_30 ?_
      exact g_iret r7_linksMany_31 rfl ⟨rfl, ⟨zrt (by rw [show i = jt J by omega]), rfl, rfl, rfl⟩⟩
    · refine g_il1 r7_linksMany_12 ?_
      refine g_al0 r7_linksMany_13 ?_
      refine g_gfr r7_linksMany_14 xx_54 rfl rr_54_39 ?_
      refine g_il2 r7_linksMany_17 ?_
      refine g_ialdN r7_linksMany_18 xx_79 (by omega) (by decide) ?_
      refine g_eqv (y := zlk J i) (hl.2.1 i (by omega)).1 ?_
      refine g_eS1 r7_linksMany_19 ok7_bits pl7_linksMany pl7_bits (Nat.le_of_ble_eq_true rfl) (ev7_bits) ?_
      refine g_iadd r7_linksMany_22 ?_
      refine g_is1 r7_linksMany_23 rfl ?_
      refine g_iiN2 r7_linksMany_24 rfl ?_
      refine g_goto r7_linksMany_27 ?_
      exact ih (i + 1) (by omega) (by omega)
theorem el7_linksMany {w v0 e1 e2 : Nat} {h : Int64} {J I : zMI} (hl : zLkd J I) (W : zWF J)  : zEr m7_linksMany (zRR w v0 e1 e2) h I [.ref 54] (some (.int (zlM J (jt J)))) (zRR w v0 e1 e2) h I := by
  refine zEp_of [.ref 54, .null, .null] pl7_linksMany (by decide +kernel) (fun _ _ => rfl) (fun _ _ => Nat.le_of_ble_eq_true rfl) ?_
  refine g_k r7_linksMany_0 ?_
  refine g_is1 r7_linksMany_1 rfl ?_
  refine g_k r7_linksMany_2 ?_
  refine g_is2 r7_linksMany_3 rfl ?_
  exact lp7_linksMany hl W W.t30 (jt J + 1) 0 (by omega) (by omega)
theorem lp7_farthest_e {w v0 e1 e2 : Nat} {h : Int64} {J I : zMI} (hl : zLkd J I) (W : zWF J) {P : zPost} (ht30 : jt J ≤ 30) {i : Nat} (hi : i < jt J) (hend : ∀ y : Value, zGo m7_farthest 54 [.ref 54, .int (zfrE (zlk J i) i (zfr J i) i), .int (nI i), y] [] zX (zRR w v0 e1 e2) h I P) : ∀ d e, i - e < d → e ≤ i → zGo m7_farthest 14 [.ref 54, .int (zfrE (zlk J i) i (zfr J i) e), .int (nI i), .int (nI e)] [] zX (zRR w v0 e1 e2) h I P := by
  intro d
  induction d with
  | zero => intro e hd0; exact absurd hd0 (Nat.not_lt_zero _)
  | succ d ih =>
    intro e hd0 hd1
    refine g_il3 r7_farthest_14 ?_
    refine g_il2 r7_farthest_15 ?_
    refine g_icgeN r7_farthest_16 (by omega) (by omega) (fun h16 => ?_) (fun h16 => ?_)
    · rw [show e = i by omega]
      exact hend _
    · refine g_al0 r7_farthest_19 ?_
      refine g_gfr r7_farthest_20 xx_54 rfl rr_54_39 ?_
      refine g_il2 r7_farthest_23 ?_
      refine g_ialdN r7_farthest_24 xx_79 (by omega) (by decide) ?_
      refine g_eqv (y := zlk J i) (hl.2.1 i (by omega)).1 ?_
      refine g_il3 r7_farthest_25 ?_
      refine g_ishr r7_farthest_26 ?_
      refine g_k r7_farthest_27 ?_
      refine g_iand r7_farthest_28 ?_
      refine g_k r7_farthest_29 ?_
      refine g_icne r7_farthest_30 (fun h30 => ?_) (fun h30 => ?_)
      · refine g_il1 r7_farthest_46 ?_
        refine g_is1 r7_farthest_47 rfl ?_
        refine g_iiN3 r7_farthest_48 rfl ?_
        refine g_goto r7_farthest_51 ?_
        have ih2 := ih (e + 1) (by omega) (by omega)
        simp only [zfrE] at ih2
        rw [if_neg (show ¬ (zlk J i >>> (nI e &&& 31) &&& 1 = 1 ∧ zfrE (zlk J i) i (zfr J i) e < nI i - nI e) from fun q => h30 q.1)] at ih2
        exact ih2
      · refine g_il2 r7_farthest_33 ?_
        refine g_il3 r7_farthest_34 ?_
        refine g_isub r7_farthest_35 ?_
        refine g_il1 r7_farthest_36 ?_
        refine g_icleL r7_farthest_37 (fun h37 => ?_) (fun h37 => ?_)
        · refine g_il1 r7_farthest_46 ?_
          refine g_is1 r7_farthest_47 rfl ?_
          refine g_iiN3 r7_farthest_48 rfl ?_
          refine g_goto r7_farthest_51 ?_
          have ih2 := ih (e + 1) (by omega) (by omega)
          simp only [zfrE] at ih2
          rw [if_neg (show ¬ (zlk J i >>> (nI e &&& 31) &&& 1 = 1 ∧ zfrE (zlk J i) i (zfr J i) e < nI i - nI e) from fun q => h37 q.2)] at ih2
          exact ih2
        · refine g_il2 r7_farthest_40 ?_
          refine g_il3 r7_farthest_41 ?_
          refine g_isub r7_farthest_42 ?_
          refine g_goto r7_farthest_43 ?_
          refine g_is1 r7_farthest_47 rfl ?_
          refine g_iiN3 r7_farthest_48 rfl ?_
          refine g_goto r7_farthest_51 ?_
          have ih2 := ih (e + 1) (by omega) (by omega)
          simp only [zfrE] at ih2
          rw [if_pos (show zlk J i >>> (nI e &&& 31) &&& 1 = 1 ∧ zfrE (zlk J i) i (zfr J i) e < nI i - nI e from ⟨h30, h37⟩)] at ih2
          exact ih2
theorem lp7_farthest {w v0 e1 e2 : Nat} {h : Int64} {J I : zMI} (hl : zLkd J I) (W : zWF J) (ht30 : jt J ≤ 30) : ∀ d i (y : Value), jt J - i < d → i ≤ jt J → zGo m7_farthest 4 [.ref 54, .int (zfr J i), .int (nI i), y] [] zX (zRR w v0 e1 e2) h I (fun v X1 R1 h1 I1 => X1 = zX ∧ v = some (.int (zfr J (jt J))) ∧ R1 = (zRR w v0 e1 e2) ∧ h1 = h ∧ I1 = I) := by
  intro d
  induction d with
  | zero => intro i y hd0; exact absurd hd0 (Nat.not_lt_zero _)
  | succ d ih =>
    intro i y hd0 hd1
    refine g_il2 r7_farthest_4 ?_
    refine g_al0 r7_farthest_5 ?_
    refine g_gfi r7_farthest_6 xx_54 rfl ?_
    refine g_eqv (y := nI (jt J)) ((hl.1.f 13 (by decide)).trans W.t) ?_
    refine g_icgeN r7_farthest_9 (by omega) (by omega) (fun h9 => ?_) (fun h9 => ?_)
    · refine g_il1 r7_farthest_60 ?_
      exact g_iret r7_farthest_61 rfl ⟨rfl, ⟨zrt (by rw [show i = jt J by omega]), rfl, rfl, rfl⟩⟩
    · refine g_k r7_farthest_12 ?_
      refine g_is3 r7_farthest_13 rfl ?_
      refine lp7_farthest_e hl W ht30 h9 (fun y1 => ?_) (i + 1) 0 (by omega) (by omega)
      refine g_iiN2 r7_farthest_54 rfl ?_
      refine g_goto r7_farthest_57 ?_
      exact ih (i + 1) _ (by omega) (by omega)
theorem el7_farthest {w v0 e1 e2 : Nat} {h : Int64} {J I : zMI} (hl : zLkd J I) (W : zWF J)  : zEr m7_farthest (zRR w v0 e1 e2) h I [.ref 54] (some (.int (zfr J (jt J)))) (zRR w v0 e1 e2) h I := by
  refine zEp_of [.ref 54, .null, .null, .null] pl7_farthest (by decide +kernel) (fun _ _ => rfl) (fun _ _ => Nat.le_of_ble_eq_true rfl) ?_
  refine g_k r7_farthest_0 ?_
  refine g_is1 r7_farthest_1 rfl ?_
  refine g_k r7_farthest_2 ?_
  refine g_is2 r7_farthest_3 rfl ?_
  exact lp7_farthest hl W W.t30 (jt J + 1) 0 _ (by omega) (by omega)
noncomputable def zsN (J : zMI) (k : Nat) (x : Int32) : Int32 := if x = 0 then J 63 k else if x = 1 then (if J 63 k = -1 then -1 else J 58 (J 63 k).toNatClampNeg) else if x = 2 then (if J 63 k = -1 then zfF (J 64 k ||| J 65 k) else -1) else if x = 3 then J 66 k else if x = 4 then zlk J k else if x = 5 then zhg J k else if x = 6 then zTa J (zth J k) else if x = 7 then (if zdu J (nI k) (zal J) = 0 then 0 else 1) else J 67 k
theorem zgt {J : zMI} (W : zWF J) {k : Nat} (hk : k < jt J) (h : J 63 k = -1) : ∃ f, f < 8 ∧ J 64 k ||| J 65 k = nI (2 ^ f) := by
  rcases (W.S k hk).2 with ⟨-, f, hf, ⟨h1, h2⟩ | ⟨h1, h2⟩⟩ | ⟨a, ha, h1, -⟩
  · exact ⟨f, hf, by rw [h1, h2]; exact Int32.or_zero⟩
  · exact ⟨f, hf, by rw [h1, h2]; exact Int32.zero_or⟩
  · rw [h1] at h; exact absurd h (znI_m1 (by have := W.m10; omega))

theorem el7_stepNow {w v0 e1 e2 : Nat} {h : Int64} {J I : zMI} (hl : zLkd J I) (W : zWF J) {k : Nat} (hk : k < jt J) {x : Int32} : zEr m7_stepNow (zRR w v0 e1 e2) h I [.ref 54, .int (nI k), .int x] (some (.int (zsN J k x))) (zRR w v0 e1 e2) h I := by
  have ht30 := W.t30
  refine zEp_of [.ref 54, .int (nI k), .int x] pl7_stepNow (by decide +kernel) (fun _ _ => rfl) (fun _ _ => Nat.le_of_ble_eq_true rfl) ?_
  refine g_il2 r7_stepNow_0 ?_
  refine g_sw r7_stepNow_1 ⟨fun h1 => ?_, fun h1 => ?_, fun h1 => ?_, fun h1 => ?_, fun h1 => ?_, fun h1 => ?_, fun h1 => ?_, fun h1 => ?_, trivial⟩ (fun h1 => ?_)
  · refine g_al0 r7_stepNow_48 ?_
    refine g_gfr r7_stepNow_49 xx_54 rfl rr_54_14 ?_
    refine g_il1 r7_stepNow_52 ?_
    refine g_ialdN r7_stepNow_53 xx_63 (by omega) (by decide) ?_
    refine g_eqv (y := J 63 k) (congrFun (hl.1.o 63 (by decide) (by decide)) k) ?_
    exact g_iret r7_stepNow_54 rfl ⟨rfl, ⟨zrt (by subst h1; simp [zsN]), rfl, rfl, rfl⟩⟩
  · refine g_al0 r7_stepNow_55 ?_
    refine g_gfr r7_stepNow_56 xx_54 rfl rr_54_14 ?_
    refine g_il1 r7_stepNow_59 ?_
    refine g_ialdN r7_stepNow_60 xx_63 (by omega) (by decide) ?_
    refine g_eqv (y := J 63 k) (congrFun (hl.1.o 63 (by decide) (by decide)) k) ?_
    refine g_k r7_stepNow_61 ?_
    refine g_icne r7_stepNow_62 (fun h62 => ?_) (fun h62 => ?_)
    · refine g_al0 r7_stepNow_69 ?_
      refine g_gfr r7_stepNow_70 xx_54 rfl rr_54_6 ?_
      refine g_al0 r7_stepNow_73 ?_
      refine g_gfr r7_stepNow_74 xx_54 rfl rr_54_14 ?_
      refine g_il1 r7_stepNow_77 ?_
      obtain ⟨a, ha, ea⟩ := (W.sa k hk).resolve_left h62
      have hm10 := W.m10
      refine g_ialdN r7_stepNow_78 xx_63 (by omega) (by decide) ?_
      refine g_eqv (y := nI a) ((congrFun (hl.1.o 63 (by decide) (by decide)) k).trans ea) ?_
      refine g_ialdN r7_stepNow_79 xx_58 (by omega) (by decide) ?_
      refine g_eqv (y := J 58 a) (congrFun (hl.1.o 58 (by decide) (by decide)) a) ?_
      exact g_iret r7_stepNow_80 rfl ⟨rfl, ⟨zrt (by subst h1; simp [zsN]; rw [if_neg h62, ea, nI_clamp (show a < 2 ^ 31 by omega)]), rfl, rfl, rfl⟩⟩
    · refine g_k r7_stepNow_65 ?_
      refine g_goto r7_stepNow_66 ?_
      exact g_iret r7_stepNow_80 rfl ⟨rfl, ⟨zrt (by subst h1; simp [zsN, h62]), rfl, rfl, rfl⟩⟩
  · refine g_al0 r7_stepNow_81 ?_
    refine g_gfr r7_stepNow_82 xx_54 rfl rr_54_14 ?_
    refine g_il1 r7_stepNow_85 ?_
    refine g_ialdN r7_stepNow_86 xx_63 (by omega) (by decide) ?_
    refine g_eqv (y := J 63 k) (congrFun (hl.1.o 63 (by decide) (by decide)) k) ?_
    refine g_k r7_stepNow_87 ?_
    refine g_icne r7_stepNow_88 (fun h88 => ?_) (fun h88 => ?_)
    · refine g_k r7_stepNow_110 ?_
      exact g_iret r7_stepNow_111 rfl ⟨rfl, ⟨zrt (by subst h1; simp [zsN, h88]), rfl, rfl, rfl⟩⟩
    · refine g_al0 r7_stepNow_91 ?_
      refine g_gfr r7_stepNow_92 xx_54 rfl rr_54_15 ?_
      refine g_il1 r7_stepNow_95 ?_
      refine g_ialdN r7_stepNow_96 xx_64 (by omega) (by decide) ?_
      refine g_eqv (y := J 64 k) (congrFun (hl.1.o 64 (by decide) (by decide)) k) ?_
      refine g_al0 r7_stepNow_97 ?_
      refine g_gfr r7_stepNow_98 xx_54 rfl rr_54_16 ?_
      refine g_il1 r7_stepNow_101 ?_
      refine g_ialdN r7_stepNow_102 xx_65 (by omega) (by decide) ?_
      refine g_eqv (y := J 65 k) (congrFun (hl.1.o 65 (by decide) (by decide)) k) ?_
      refine g_ior r7_stepNow_103 ?_
      obtain ⟨f, hf, ef⟩ : ∃ f, f < 8 ∧ J 64 k ||| J 65 k = nI (2 ^ f) := zgt W hk h88
      refine g_eqv (y := nI (2 ^ f)) ef ?_
      refine g_eS1 r7_stepNow_104 ok7_factOf pl7_stepNow pl7_factOf (Nat.le_of_ble_eq_true rfl) (ev7_factOf hf) ?_
      refine g_goto r7_stepNow_107 ?_
      exact g_iret r7_stepNow_111 rfl ⟨rfl, ⟨zrt (by subst h1; simp [zsN, h88, ef, zfF_eq hf]), rfl, rfl, rfl⟩⟩
  · refine g_al0 r7_stepNow_112 ?_
    refine g_gfr r7_stepNow_113 xx_54 rfl rr_54_17 ?_
    refine g_il1 r7_stepNow_116 ?_
    refine g_ialdN r7_stepNow_117 xx_66 (by omega) (by decide) ?_
    refine g_eqv (y := J 66 k) (congrFun (hl.1.o 66 (by decide) (by decide)) k) ?_
    exact g_iret r7_stepNow_118 rfl ⟨rfl, ⟨zrt (by subst h1; simp [zsN]), rfl, rfl, rfl⟩⟩
  · refine g_al0 r7_stepNow_119 ?_
    refine g_gfr r7_stepNow_120 xx_54 rfl rr_54_39 ?_
    refine g_il1 r7_stepNow_123 ?_
    refine g_ialdN r7_stepNow_124 xx_79 (by omega) (by decide) ?_
    refine g_eqv (y := zlk J k) (hl.2.1 k hk).1 ?_
    exact g_iret r7_stepNow_125 rfl ⟨rfl, ⟨zrt (by subst h1; simp [zsN]), rfl, rfl, rfl⟩⟩
  · refine g_al0 r7_stepNow_126 ?_
    refine g_gfr r7_stepNow_127 xx_54 rfl rr_54_40 ?_
    refine g_il1 r7_stepNow_130 ?_
    refine g_ialdN r7_stepNow_131 xx_80 (by omega) (by decide) ?_
    refine g_eqv (y := zhg J k) (hl.2.1 k hk).2.1 ?_
    exact g_iret r7_stepNow_132 rfl ⟨rfl, ⟨zrt (by subst h1; simp [zsN]), rfl, rfl, rfl⟩⟩
  · refine g_al0 r7_stepNow_133 ?_
    refine g_al0 r7_stepNow_134 ?_
    refine g_gfr r7_stepNow_135 xx_54 rfl rr_54_41 ?_
    refine g_il1 r7_stepNow_138 ?_
    refine g_ialdN r7_stepNow_139 xx_81 (by omega) (by decide) ?_
    refine g_eqv (y := nI (zth J k)) (hl.2.1 k hk).2.2 ?_
    refine g_eV1 r7_stepNow_140 ok7_threadsAhead pl7_stepNow pl7_threadsAhead xx_54 (Nat.le_of_ble_eq_true rfl) (el7_threadsAhead hl W (Nat.le_trans (hl.2.2.1 k hk).1 (by omega))) ?_
    exact g_iret r7_stepNow_143 rfl ⟨rfl, ⟨zrt (by subst h1; simp [zsN]), rfl, rfl, rfl⟩⟩
  · refine g_al0 r7_stepNow_144 ?_
    refine g_il1 r7_stepNow_145 ?_
    refine g_al0 r7_stepNow_146 ?_
    refine g_eV0 r7_stepNow_147 ok7_allSteps pl7_stepNow pl7_allSteps xx_54 (Nat.le_of_ble_eq_true rfl) (el7_allSteps hl.1) ?_
    refine g_eV2 r7_stepNow_150 ok7_isDull pl7_stepNow pl7_isDull xx_54 (Nat.le_of_ble_eq_true rfl) (el7_isDull hl.1 W) ?_
    refine g_ifeq r7_stepNow_153 (fun h153 => ?_) (fun h153 => ?_)
    · refine g_k r7_stepNow_160 ?_
      exact g_iret r7_stepNow_161 rfl ⟨rfl, ⟨zrt (by subst h1; simp [zsN, h153]), rfl, rfl, rfl⟩⟩
    · refine g_k r7_stepNow_156 ?_
      refine g_goto r7_stepNow_157 ?_
      exact g_iret r7_stepNow_161 rfl ⟨rfl, ⟨zrt (by subst h1; simp [zsN, h153]), rfl, rfl, rfl⟩⟩
  · refine g_al0 r7_stepNow_162 ?_
    refine g_gfr r7_stepNow_163 xx_54 rfl rr_54_18 ?_
    refine g_il1 r7_stepNow_166 ?_
    refine g_ialdN r7_stepNow_167 xx_67 (by omega) (by decide) ?_
    refine g_eqv (y := J 67 k) (congrFun (hl.1.o 67 (by decide) (by decide)) k) ?_
    exact g_iret r7_stepNow_168 rfl ⟨rfl, ⟨zrt (by have h2 := h1; simp at h2; simp [zsN, h2]), rfl, rfl, rfl⟩⟩
theorem el7_stepTold {w v0 e1 e2 : Nat} {h : Int64} {J I : zMI} (hO : zOx J I) (W : zWF J) {k : Nat} (hk : k < jt J) {x : Int32} : zEp m7_stepTold (zRR w v0 e1 e2) h I [.ref 54, .int (nI k), .int x] (fun v R1 h1 I1 => v = (some (.int (zsN J k x))) ∧ R1 = (zRR w v0 e1 e2) ∧ h1 = h ∧ zOx (J) I1) := by
  refine zEp_of [.ref 54, .int (nI k), .int x] pl7_stepTold (by decide +kernel) (fun _ _ => rfl) (fun _ _ => Nat.le_of_ble_eq_true rfl) ?_
  refine g_al0 r7_stepTold_0 ?_
  refine g_cV0 r7_stepTold_1 ok7_layLinks pl7_stepTold pl7_layLinks xx_54 (Nat.le_of_ble_eq_true rfl) (el7_layLinks hO W) (fun v' R' h' I1 ⟨q1, q2, q3, hl⟩ => ?_)
  subst q1; subst q2; subst q3
  refine g_al0 r7_stepTold_4 ?_
  refine g_il1 r7_stepTold_5 ?_
  refine g_il2 r7_stepTold_6 ?_
  refine g_eV2 r7_stepTold_7 ok7_stepNow pl7_stepTold pl7_stepNow xx_54 (Nat.le_of_ble_eq_true rfl) (el7_stepNow hl W hk) ?_
  exact g_iret r7_stepTold_10 rfl ⟨rfl, ⟨zrt rfl, rfl, rfl, hl.1⟩⟩
noncomputable def zstR (J : zMI) (y x : Int32) : Int32 := if ¬ y < 0 ∧ ¬ (J 54 13 - 1) < y then (if ¬ x < 0 ∧ ¬ 8 < x then zsN J y.toNatClampNeg x else -102) else -101
theorem el7_step {w v0 e1 e2 : Nat} {h : Int64} {J I : zMI} (hO : zOx J I) (W : zWF J) {y x : Int32} : zEp m7_step (zRR w v0 e1 e2) h I [.ref 54, .int y, .int x] (fun v R1 h1 I1 => v = (some (.int (zstR J y x))) ∧ R1 = (zRR w v0 e1 e2) ∧ h1 = h ∧ zOx (J) I1) := by
  refine zEp_of [.ref 54, .int y, .int x] pl7_step (by decide +kernel) (fun _ _ => rfl) (fun _ _ => Nat.le_of_ble_eq_true rfl) ?_
  refine g_il1 r7_step_0 ?_
  refine g_k r7_step_1 ?_
  refine g_al0 r7_step_2 ?_
  refine g_gfi r7_step_3 xx_54 rfl ?_
  refine g_eqv (y := J 54 13) (hO.f 13 (by decide)) ?_
  refine g_k r7_step_6 ?_
  refine g_isub r7_step_7 ?_
  refine g_eS3 r7_step_8 ok7_within pl7_step pl7_within (Nat.le_of_ble_eq_true rfl) (ev7_within) ?_
  refine g_ifneB r7_step_11 (fun h11 => ?_) (fun h11 => ?_)
  · have ht30 := W.t30
    obtain ⟨k, hk, rfl⟩ := zidx (m := jt J) (by omega) (by rw [← W.t]; exact h11)
    refine g_il2 r7_step_19 ?_
    refine g_k r7_step_20 ?_
    refine g_k r7_step_21 ?_
    refine g_eS3 r7_step_23 ok7_within pl7_step pl7_within (Nat.le_of_ble_eq_true rfl) (ev7_within) ?_
    refine g_ifeqB r7_step_26 (fun h26 => ?_) (fun h26 => ?_)
    · refine g_k r7_step_38 ?_
      exact g_iret r7_step_40 rfl ⟨rfl, ⟨zrt (by unfold zstR; rw [if_pos h11, if_neg h26]), rfl, rfl, hO⟩⟩
    · refine g_al0 r7_step_29 ?_
      refine g_il1 r7_step_30 ?_
      refine g_il2 r7_step_31 ?_
      refine g_cV2 r7_step_32 ok7_stepTold pl7_step pl7_stepTold xx_54 (Nat.le_of_ble_eq_true rfl) (el7_stepTold hO W hk) (fun v' R' h' I1 ⟨q1, q2, q3, hO1⟩ => ?_)
      subst q1; subst q2; subst q3
      refine g_goto r7_step_35 ?_
      exact g_iret r7_step_40 rfl ⟨rfl, ⟨zrt (by unfold zstR; rw [if_pos h11, if_pos h26, nI_clamp (by omega)]), rfl, rfl, hO1⟩⟩
  · refine g_k r7_step_14 ?_
    refine g_goto r7_step_16 ?_
    exact g_iret r7_step_40 rfl ⟨rfl, ⟨zrt (by unfold zstR; rw [if_neg h11]), rfl, rfl, hO⟩⟩
noncomputable def zsyN (J : zMI) (x : Int32) : Int32 := if x = 0 then zTa J (jt J) else if x = 1 then zdm J (jt J) else if x = 2 then zbc (zcut J (jt J) (zal J)) 31 else if x = 3 then zcut J (jt J) (zal J) else if x = 4 then zwi J (J 54 11) (jn J) else if x = 5 then zlM J (jt J) else zfr J (jt J)
theorem el7_storyNow {w v0 e1 e2 : Nat} {h : Int64} {J I : zMI} (hO : zOx J I) (W : zWF J) {x : Int32} : zEp m7_storyNow (zRR w v0 e1 e2) h I [.ref 54, .int x] (fun v R1 h1 I1 => v = (some (.int (zsyN J x))) ∧ R1 = (zRR w v0 e1 e2) ∧ h1 = h ∧ zOx (J) I1) := by
  refine zEp_of [.ref 54, .int x] pl7_storyNow (by decide +kernel) (fun _ _ => rfl) (fun _ _ => Nat.le_of_ble_eq_true rfl) ?_
  refine g_al0 r7_storyNow_0 ?_
  refine g_cV0 r7_storyNow_1 ok7_layLinks pl7_storyNow pl7_layLinks xx_54 (Nat.le_of_ble_eq_true rfl) (el7_layLinks hO W) (fun v' R' h' I1 ⟨q1, q2, q3, hl⟩ => ?_)
  subst q1; subst q2; subst q3
  refine g_il1 r7_storyNow_4 ?_
  refine g_sw r7_storyNow_5 ⟨fun h5 => ?_, fun h5 => ?_, fun h5 => ?_, fun h5 => ?_, fun h5 => ?_, fun h5 => ?_, trivial⟩ (fun h5 => ?_)
  · refine g_al0 r7_storyNow_44 ?_
    refine g_al0 r7_storyNow_45 ?_
    refine g_gfi r7_storyNow_46 xx_54 rfl ?_
    refine g_eqv (y := nI (jt J)) ((hl.1.f 13 (by decide)).trans W.t) ?_
    refine g_eV1 r7_storyNow_49 ok7_threadsAhead pl7_storyNow pl7_threadsAhead xx_54 (Nat.le_of_ble_eq_true rfl) (el7_threadsAhead hl W (Nat.le_refl _)) ?_
    exact g_iret r7_storyNow_52 rfl ⟨rfl, ⟨zrt (by subst h5; simp [zsyN]), rfl, rfl, hl.1⟩⟩
  · refine g_al0 r7_storyNow_53 ?_
    refine g_eV0 r7_storyNow_54 ok7_dullMany pl7_storyNow pl7_dullMany xx_54 (Nat.le_of_ble_eq_true rfl) (el7_dullMany hl.1 W) ?_
    exact g_iret r7_storyNow_57 rfl ⟨rfl, ⟨zrt (by subst h5; simp [zsyN]), rfl, rfl, hl.1⟩⟩
  · refine g_al0 r7_storyNow_58 ?_
    refine g_eV0 r7_storyNow_59 ok7_cut pl7_storyNow pl7_cut xx_54 (Nat.le_of_ble_eq_true rfl) (el7_cut hl.1 W) ?_
    refine g_eS1 r7_storyNow_62 ok7_bits pl7_storyNow pl7_bits (Nat.le_of_ble_eq_true rfl) (ev7_bits) ?_
    exact g_iret r7_storyNow_65 rfl ⟨rfl, ⟨zrt (by subst h5; simp [zsyN]), rfl, rfl, hl.1⟩⟩
  · refine g_al0 r7_storyNow_66 ?_
    refine g_eV0 r7_storyNow_67 ok7_cut pl7_storyNow pl7_cut xx_54 (Nat.le_of_ble_eq_true rfl) (el7_cut hl.1 W) ?_
    exact g_iret r7_storyNow_70 rfl ⟨rfl, ⟨zrt (by subst h5; simp [zsyN]), rfl, rfl, hl.1⟩⟩
  · refine g_al0 r7_storyNow_71 ?_
    refine g_al0 r7_storyNow_72 ?_
    refine g_gfi r7_storyNow_73 xx_54 rfl ?_
    refine g_eqv (y := J 54 11) (hl.1.f 11 (by decide)) ?_
    refine g_eV1 r7_storyNow_76 ok7_wantsIn pl7_storyNow pl7_wantsIn xx_54 (Nat.le_of_ble_eq_true rfl) (el7_wantsIn hl.1 W) ?_
    exact g_iret r7_storyNow_79 rfl ⟨rfl, ⟨zrt (by subst h5; simp [zsyN]), rfl, rfl, hl.1⟩⟩
  · refine g_al0 r7_storyNow_80 ?_
    refine g_eV0 r7_storyNow_81 ok7_linksMany pl7_storyNow pl7_linksMany xx_54 (Nat.le_of_ble_eq_true rfl) (el7_linksMany hl W) ?_
    exact g_iret r7_storyNow_84 rfl ⟨rfl, ⟨zrt (by subst h5; simp [zsyN]), rfl, rfl, hl.1⟩⟩
  · refine g_al0 r7_storyNow_85 ?_
    refine g_eV0 r7_storyNow_86 ok7_farthest pl7_storyNow pl7_farthest xx_54 (Nat.le_of_ble_eq_true rfl) (el7_farthest hl W) ?_
    exact g_iret r7_storyNow_89 rfl ⟨rfl, ⟨zrt (by have h2 := h5; simp at h2; simp [zsyN, h2]), rfl, rfl, hl.1⟩⟩
noncomputable def zsyR (J : zMI) (x : Int32) : Int32 := if ¬ x < 0 ∧ ¬ 6 < x then (if 0 < J 54 5 then zsyN J x else -103) else -102
theorem el7_story {w v0 e1 e2 : Nat} {h : Int64} {J I : zMI} (hO : zOx J I) (W : zWF J) {x : Int32} : zEp m7_story (zRR w v0 e1 e2) h I [.ref 54, .int x] (fun v R1 h1 I1 => v = (some (.int (zsyR J x))) ∧ R1 = (zRR w v0 e1 e2) ∧ h1 = h ∧ zOx (J) I1) := by
  refine zEp_of [.ref 54, .int x] pl7_story (by decide +kernel) (fun _ _ => rfl) (fun _ _ => Nat.le_of_ble_eq_true rfl) ?_
  refine g_il1 r7_story_0 ?_
  refine g_k r7_story_1 ?_
  refine g_k r7_story_2 ?_
  refine g_eS3 r7_story_4 ok7_within pl7_story pl7_within (Nat.le_of_ble_eq_true rfl) (ev7_within) ?_
  refine g_ifneB r7_story_7 (fun h7 => ?_) (fun h7 => ?_)
  · refine g_al0 r7_story_13 ?_
    refine g_eV0 r7_story_14 ok7_isWorld pl7_story pl7_isWorld xx_54 (Nat.le_of_ble_eq_true rfl) (el7_isWorld hO) ?_
    refine g_ifeqB r7_story_17 (fun h17 => ?_) (fun h17 => ?_)
    · refine g_k r7_story_28 ?_
      exact g_iret r7_story_30 rfl ⟨rfl, ⟨zrt (by unfold zsyR; rw [if_pos h7, if_neg h17]), rfl, rfl, hO⟩⟩
    · refine g_al0 r7_story_20 ?_
      refine g_il1 r7_story_21 ?_
      refine g_cV1 r7_story_22 ok7_storyNow pl7_story pl7_storyNow xx_54 (Nat.le_of_ble_eq_true rfl) (el7_storyNow hO W) (fun v' R' h' I1 ⟨q1, q2, q3, hO1⟩ => ?_)
      subst q1; subst q2; subst q3
      refine g_goto r7_story_25 ?_
      exact g_iret r7_story_30 rfl ⟨rfl, ⟨zrt (by unfold zsyR; rw [if_pos h7, if_pos h17]), rfl, rfl, hO1⟩⟩
  · refine g_k r7_story_10 ?_
    exact g_iret r7_story_12 rfl ⟨rfl, ⟨zrt (by unfold zsyR; rw [if_neg h7]), rfl, rfl, hO⟩⟩
