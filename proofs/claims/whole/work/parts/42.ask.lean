/-- the class's cells stand for the model's -/
def zRep (w : Nat) (I J : zMI) (N : Nat) : Prop := zQr w I J N ∧ (I 0 8 = zb (0 < J 54 5) ∧ I 0 9 = J 54 21 ∧ I 0 10 = J 54 22 ∧ I 0 11 = J 54 23) ∧ (I 1 1 = J 54 19 ∧ ∀ k, k < jL J → I 2 k = J 68 k)
theorem zRep_fs {w : Nat} (hw : zW w) {I I1 J : zMI} {N M : Nat} (hf : zFs I I1) (hn : zNm I1 M) (h : zRep w I J N) : zRep w I1 J M := by
  refine ⟨zQr_fs hw hf hn h.1, ?_, ?_⟩
  · rw [hf 0 (by omega)]; exact h.2.1
  · rw [hf 1 (by omega), hf 2 (by omega)]; exact h.2.2
theorem zrg5 {x : Int32} (h : ¬ x < 0 ∧ ¬ 5 < x) : x = 0 ∨ x = 1 ∨ x = 2 ∨ x = 3 ∨ x = 4 ∨ x = 5 := by
  obtain ⟨j, hj, rfl⟩ := nI_of2 (M := 5) (n := 5) rfl h.1 (Int32.not_lt.mp h.2)
  have : j = 0 ∨ j = 1 ∨ j = 2 ∨ j = 3 ∨ j = 4 ∨ j = 5 := by omega
  rcases this with rfl | rfl | rfl | rfl | rfl | rfl <;> decide
theorem zrg6 {x : Int32} (h : ¬ x < 0 ∧ ¬ 6 < x) : x = 0 ∨ x = 1 ∨ x = 2 ∨ x = 3 ∨ x = 4 ∨ x = 5 ∨ x = 6 := by
  obtain ⟨j, hj, rfl⟩ := nI_of2 (M := 6) (n := 6) rfl h.1 (Int32.not_lt.mp h.2)
  have : j = 0 ∨ j = 1 ∨ j = 2 ∨ j = 3 ∨ j = 4 ∨ j = 5 ∨ j = 6 := by omega
  rcases this with rfl | rfl | rfl | rfl | rfl | rfl | rfl <;> decide
theorem zrg7 {x : Int32} (h : ¬ x < 0 ∧ ¬ 7 < x) : x = 0 ∨ x = 1 ∨ x = 2 ∨ x = 3 ∨ x = 4 ∨ x = 5 ∨ x = 6 ∨ x = 7 := by
  obtain ⟨j, hj, rfl⟩ := nI_of2 (M := 7) (n := 7) rfl h.1 (Int32.not_lt.mp h.2)
  have : j = 0 ∨ j = 1 ∨ j = 2 ∨ j = 3 ∨ j = 4 ∨ j = 5 ∨ j = 6 ∨ j = 7 := by omega
  rcases this with rfl | rfl | rfl | rfl | rfl | rfl | rfl | rfl <;> decide
theorem zrg8 {x : Int32} (h : ¬ x < 0 ∧ ¬ 8 < x) : x = 0 ∨ x = 1 ∨ x = 2 ∨ x = 3 ∨ x = 4 ∨ x = 5 ∨ x = 6 ∨ x = 7 ∨ x = 8 := by
  obtain ⟨j, hj, rfl⟩ := nI_of2 (M := 8) (n := 8) rfl h.1 (Int32.not_lt.mp h.2)
  have : j = 0 ∨ j = 1 ∨ j = 2 ∨ j = 3 ∨ j = 4 ∨ j = 5 ∨ j = 6 ∨ j = 7 ∨ j = 8 := by omega
  rcases this with rfl | rfl | rfl | rfl | rfl | rfl | rfl | rfl | rfl <;> decide
theorem ev6_about {w v0 e1 e2 : Nat} {h : Int64} {J I : zMI} (hw : zW w) (W : zWF J) {N : Nat} (hP : zRep w I J N) {x : Int32} : zEr m6_about (zRR w v0 e1 e2) h I [.ref 0, .int x] (some (.int (zabR J (jn J) x))) (zRR w v0 e1 e2) h I := by
  refine zEp_of [.ref 0, .int x] pl6_about (by decide +kernel) (fun _ _ => rfl) (fun _ _ => Nat.le_of_ble_eq_true rfl) ?_
  refine g_il1 r6_about_0 ?_
  refine g_iflt r6_about_1 (fun h1 => ?_) (fun h1 => ?_)
  · refine g_k r6_about_10 ?_
    exact g_iret r6_about_12 rfl ⟨rfl, ⟨zrt (by unfold zabR; rw [if_neg (fun q => q.1 h1)]), rfl, rfl, rfl⟩⟩
  · refine g_il1 r6_about_4 ?_
    refine g_k r6_about_5 ?_
    refine g_icleL r6_about_7 (fun h7 => ?_) (fun h7 => ?_)
    · refine g_al0 r6_about_13 ?_
      refine g_gfz r6_about_14 xx_0 rfl ?_
      refine g_eqv (y := zb (0 < J 54 5)) hP.2.1.1 ?_
      refine g_ifneB r6_about_17 (fun h17 => ?_) (fun h17 => ?_)
      · refine g_il1 r6_about_23 ?_
        refine g_sw r6_about_24 ⟨fun h24 => ?_, fun h24 => ?_, fun h24 => ?_, fun h24 => ?_, fun h24 => ?_, fun h24 => ?_, trivial⟩ (fun h24 => ?_)
        · refine g_al0 r6_about_64 ?_
          refine g_gfr r6_about_65 xx_0 rfl rr_0_6 ?_
          refine g_gfi r6_about_68 (xw hw) rfl ?_
          refine g_eqv (y := J 54 0) hP.1.1.1.1 ?_
          exact g_iret r6_about_71 rfl ⟨rfl, ⟨zrt (by unfold zabR; rw [if_pos ⟨h1, h7⟩, if_pos h17]; subst h24; simp [zabN]), rfl, rfl, rfl⟩⟩
        · refine g_al0 r6_about_72 ?_
          refine g_gfr r6_about_73 xx_0 rfl rr_0_6 ?_
          refine g_gfi r6_about_76 (xw hw) rfl ?_
          refine g_eqv (y := J 54 5) hP.1.1.1.2 ?_
          exact g_iret r6_about_79 rfl ⟨rfl, ⟨zrt (by unfold zabR; rw [if_pos ⟨h1, h7⟩, if_pos h17]; subst h24; simp [zabN]), rfl, rfl, rfl⟩⟩
        · refine g_al0 r6_about_80 ?_
          refine g_gfr r6_about_81 xx_0 rfl rr_0_2 ?_
          refine g_gfi r6_about_84 xx_4 rfl ?_
          refine g_eqv (y := J 54 13) hP.1.2.1.1.1 ?_
          exact g_iret r6_about_87 rfl ⟨rfl, ⟨zrt (by unfold zabR; rw [if_pos ⟨h1, h7⟩, if_pos h17]; subst h24; simp [zabN]), rfl, rfl, rfl⟩⟩
        · refine g_al0 r6_about_88 ?_
          refine g_gfr r6_about_89 xx_0 rfl rr_0_2 ?_
          refine g_gfi r6_about_92 xx_4 rfl ?_
          refine g_eqv (y := J 54 12) hP.1.2.1.1.2.1 ?_
          exact g_iret r6_about_95 rfl ⟨rfl, ⟨zrt (by unfold zabR; rw [if_pos ⟨h1, h7⟩, if_pos h17]; subst h24; simp [zabN]), rfl, rfl, rfl⟩⟩
        · refine g_al0 r6_about_96 ?_
          refine g_gfr r6_about_97 xx_0 rfl rr_0_2 ?_
          refine g_gfi r6_about_100 xx_4 rfl ?_
          refine g_eqv (y := J 54 11) hP.1.2.1.1.2.2.1 ?_
          exact g_iret r6_about_103 rfl ⟨rfl, ⟨zrt (by unfold zabR; rw [if_pos ⟨h1, h7⟩, if_pos h17]; subst h24; simp [zabN]), rfl, rfl, rfl⟩⟩
        · refine g_al0 r6_about_104 ?_
          refine g_gfr r6_about_105 xx_0 rfl rr_0_2 ?_
          refine g_gfi r6_about_108 xx_4 rfl ?_
          refine g_eqv (y := J 54 4) hP.1.2.1.1.2.2.2 ?_
          exact g_iret r6_about_111 rfl ⟨rfl, ⟨zrt (by unfold zabR; rw [if_pos ⟨h1, h7⟩, if_pos h17]; subst h24; simp [zabN]), rfl, rfl, rfl⟩⟩
        · refine g_al0 r6_about_112 ?_
          refine g_gfr r6_about_113 xx_0 rfl rr_0_6 ?_
          refine g_al0 r6_about_116 ?_
          refine g_gfr r6_about_117 xx_0 rfl rr_0_2 ?_
          refine g_gfi r6_about_120 xx_4 rfl ?_
          refine g_eqv (y := J 54 11) hP.1.2.1.1.2.2.1 ?_
          refine g_eV1 r6_about_123 ok5_satisfiedBy pl6_about pl5_satisfiedBy (xw hw) (Nat.le_of_ble_eq_true rfl) (ev5_satisfiedBy hw W hP.1.1) ?_
          exact g_iret r6_about_126 rfl ⟨rfl, ⟨zrt (by unfold zabR; rw [if_pos ⟨h1, h7⟩, if_pos h17]; have h2 := h24; simp at h2; simp [zabN, h2]), rfl, rfl, rfl⟩⟩
      · refine g_k r6_about_20 ?_
        exact g_iret r6_about_22 rfl ⟨rfl, ⟨zrt (by unfold zabR; rw [if_pos ⟨h1, h7⟩, if_neg h17]), rfl, rfl, rfl⟩⟩
    · refine g_k r6_about_10 ?_
      exact g_iret r6_about_12 rfl ⟨rfl, ⟨zrt (by unfold zabR; rw [if_neg (fun q => q.2 h7)]), rfl, rfl, rfl⟩⟩
theorem ev6_count {w v0 e1 e2 : Nat} {h : Int64} {J I : zMI} (hw : zW w) (W : zWF J) {N : Nat} (hP : zRep w I J N) {x : Int32} : zEr m6_count (zRR w v0 e1 e2) h I [.ref 0, .int x] (some (.int (zhmR J x))) (zRR w v0 e1 e2) h I := by
  refine zEp_of [.ref 0, .int x] pl6_count (by decide +kernel) (fun _ _ => rfl) (fun _ _ => Nat.le_of_ble_eq_true rfl) ?_
  refine g_il1 r6_count_0 ?_
  refine g_sw r6_count_1 ⟨fun h1 => ?_, fun h1 => ?_, fun h1 => ?_, fun h1 => ?_, fun h1 => ?_, fun h1 => ?_, trivial⟩ (fun h1 => ?_)
  · refine g_al0 r6_count_40 ?_
    refine g_gfr r6_count_41 xx_0 rfl rr_0_6 ?_
    refine g_gfi r6_count_44 (xw hw) rfl ?_
    refine g_eqv (y := J 54 5) hP.1.1.1.2 ?_
    exact g_iret r6_count_47 rfl ⟨rfl, ⟨zrt (by subst h1; simp [zhmR]), rfl, rfl, rfl⟩⟩
  · refine g_al0 r6_count_48 ?_
    refine g_gfr r6_count_49 xx_0 rfl rr_0_0 ?_
    refine g_gfi r6_count_52 xx_1 rfl ?_
    refine g_eqv (y := J 54 19) hP.2.2.1 ?_
    exact g_iret r6_count_55 rfl ⟨rfl, ⟨zrt (by subst h1; simp [zhmR]), rfl, rfl, rfl⟩⟩
  · refine g_al0 r6_count_56 ?_
    refine g_gfr r6_count_57 xx_0 rfl rr_0_2 ?_
    refine g_gfi r6_count_60 xx_4 rfl ?_
    refine g_eqv (y := J 54 13) hP.1.2.1.1.1 ?_
    exact g_iret r6_count_63 rfl ⟨rfl, ⟨zrt (by subst h1; simp [zhmR]), rfl, rfl, rfl⟩⟩
  · refine g_al0 r6_count_64 ?_
    refine g_gfi r6_count_65 xx_0 rfl ?_
    refine g_eqv (y := J 54 21) hP.2.1.2.1 ?_
    exact g_iret r6_count_68 rfl ⟨rfl, ⟨zrt (by subst h1; simp [zhmR]), rfl, rfl, rfl⟩⟩
  · refine g_al0 r6_count_69 ?_
    refine g_gfi r6_count_70 xx_0 rfl ?_
    refine g_eqv (y := J 54 22) hP.2.1.2.2.1 ?_
    exact g_iret r6_count_73 rfl ⟨rfl, ⟨zrt (by subst h1; simp [zhmR]), rfl, rfl, rfl⟩⟩
  · refine g_al0 r6_count_74 ?_
    refine g_gfi r6_count_75 xx_0 rfl ?_
    refine g_eqv (y := J 54 23) hP.2.1.2.2.2 ?_
    exact g_iret r6_count_78 rfl ⟨rfl, ⟨zrt (by subst h1; simp [zhmR]), rfl, rfl, rfl⟩⟩
  · refine g_k r6_count_79 ?_
    exact g_iret r6_count_81 rfl ⟨rfl, ⟨zrt (by have h2 := h1; simp at h2; simp [zhmR, h2]), rfl, rfl, rfl⟩⟩
theorem ev6_deed {w v0 e1 e2 : Nat} {h : Int64} {J I : zMI} (hw : zW w) (W : zWF J) {N : Nat} (hP : zRep w I J N) {y x : Int32} : zEr m6_deed (zRR w v0 e1 e2) h I [.ref 0, .int y, .int x] (some (.int (zdeR J (jt J) (jm J) y x))) (zRR w v0 e1 e2) h I := by
  have hm10 := W.m10
  refine zEp_of [.ref 0, .int y, .int x] pl6_deed (by decide +kernel) (fun _ _ => rfl) (fun _ _ => Nat.le_of_ble_eq_true rfl) ?_
  refine g_al0 r6_deed_0 ?_
  refine g_il1 r6_deed_1 ?_
  refine g_eV1 r6_deed_2 ok6_isAct pl6_deed pl6_isAct xx_0 (Nat.le_of_ble_eq_true rfl) (ev6_isAct hw W hP.1) ?_
  refine g_ifneB r6_deed_5 (fun h5 => ?_) (fun h5 => ?_)
  · obtain ⟨a, ha, rfl⟩ := (zlt_ix (by omega)).mp h5
    have ci : ¬ nI a < 0 ∧ ¬ (J 54 5 - 1) < nI a := by rw [W.m]; exact zidx' (by omega) ha
    refine g_il2 r6_deed_11 ?_
    refine g_sw r6_deed_12 ⟨fun h12 => ?_, fun h12 => ?_, fun h12 => ?_, fun h12 => ?_, fun h12 => ?_, fun h12 => ?_, fun h12 => ?_, trivial⟩ (fun h12 => ?_)
    · refine g_al0 r6_deed_56 ?_
      refine g_gfr r6_deed_57 xx_0 rfl rr_0_6 ?_
      refine g_gfr r6_deed_60 (xw hw) rfl (rw_4 hw) ?_
      refine g_il1 r6_deed_63 ?_
      refine g_ialdN r6_deed_64 (xwa_4 hw) (by omega) (by decide) ?_
      refine g_eqv (y := J 58 a) (hP.1.1.2.2 a ha).1 ?_
      exact g_iret r6_deed_65 rfl ⟨rfl, ⟨zrt (by unfold zdeR; subst h12; rw [if_pos ci, if_pos (by decide), nI_clamp (by omega)]; simp [zdeN]), rfl, rfl, rfl⟩⟩
    · refine g_al0 r6_deed_66 ?_
      refine g_gfr r6_deed_67 xx_0 rfl rr_0_6 ?_
      refine g_gfr r6_deed_70 (xw hw) rfl (rw_5 hw) ?_
      refine g_il1 r6_deed_73 ?_
      refine g_ialdN r6_deed_74 (xwa_5 hw) (by omega) (by decide) ?_
      refine g_eqv (y := J 59 a) (hP.1.1.2.2 a ha).2.1 ?_
      exact g_iret r6_deed_75 rfl ⟨rfl, ⟨zrt (by unfold zdeR; subst h12; rw [if_pos ci, if_pos (by decide), nI_clamp (by omega)]; simp [zdeN]), rfl, rfl, rfl⟩⟩
    · refine g_al0 r6_deed_76 ?_
      refine g_gfr r6_deed_77 xx_0 rfl rr_0_6 ?_
      refine g_gfr r6_deed_80 (xw hw) rfl (rw_6 hw) ?_
      refine g_il1 r6_deed_83 ?_
      refine g_ialdN r6_deed_84 (xwa_6 hw) (by omega) (by decide) ?_
      refine g_eqv (y := J 60 a) (hP.1.1.2.2 a ha).2.2.1 ?_
      exact g_iret r6_deed_85 rfl ⟨rfl, ⟨zrt (by unfold zdeR; subst h12; rw [if_pos ci, if_pos (by decide), nI_clamp (by omega)]; simp [zdeN]), rfl, rfl, rfl⟩⟩
    · refine g_al0 r6_deed_86 ?_
      refine g_gfr r6_deed_87 xx_0 rfl rr_0_6 ?_
      refine g_gfr r6_deed_90 (xw hw) rfl (rw_7 hw) ?_
      refine g_il1 r6_deed_93 ?_
      refine g_ialdN r6_deed_94 (xwa_7 hw) (by omega) (by decide) ?_
      refine g_eqv (y := J 61 a) (hP.1.1.2.2 a ha).2.2.2.1 ?_
      exact g_iret r6_deed_95 rfl ⟨rfl, ⟨zrt (by unfold zdeR; subst h12; rw [if_pos ci, if_pos (by decide), nI_clamp (by omega)]; simp [zdeN]), rfl, rfl, rfl⟩⟩
    · refine g_al0 r6_deed_96 ?_
      refine g_gfr r6_deed_97 xx_0 rfl rr_0_6 ?_
      refine g_gfr r6_deed_100 (xw hw) rfl (rw_8 hw) ?_
      refine g_il1 r6_deed_103 ?_
      refine g_ialdN r6_deed_104 (xwa_8 hw) (by omega) (by decide) ?_
      refine g_eqv (y := J 62 a) (hP.1.1.2.2 a ha).2.2.2.2 ?_
      exact g_iret r6_deed_105 rfl ⟨rfl, ⟨zrt (by unfold zdeR; subst h12; rw [if_pos ci, if_pos (by decide), nI_clamp (by omega)]; simp [zdeN]), rfl, rfl, rfl⟩⟩
    · refine g_al0 r6_deed_106 ?_
      refine g_il1 r6_deed_107 ?_
      refine g_eV1 r6_deed_108 ok6_canBeDone pl6_deed pl6_canBeDone xx_0 (Nat.le_of_ble_eq_true rfl) (ev6_canBeDone hw W hP.1 ha) ?_
      refine g_ifeqB r6_deed_111 (fun h111 => ?_) (fun h111 => ?_)
      · refine g_k r6_deed_118 ?_
        exact g_iret r6_deed_119 rfl ⟨rfl, ⟨zrt (by unfold zdeR; subst h12; rw [if_pos ci, if_pos (by decide), nI_clamp (by omega)]; simp only [zdeN]; exact (zb_f h111).symm), rfl, rfl, rfl⟩⟩
      · refine g_k r6_deed_114 ?_
        refine g_goto r6_deed_115 ?_
        exact g_iret r6_deed_119 rfl ⟨rfl, ⟨zrt (by unfold zdeR; subst h12; rw [if_pos ci, if_pos (by decide), nI_clamp (by omega)]; simp only [zdeN]; exact (zb_t h111).symm), rfl, rfl, rfl⟩⟩
    · refine g_al0 r6_deed_120 ?_
      refine g_gfr r6_deed_121 xx_0 rfl rr_0_2 ?_
      refine g_gfr r6_deed_124 xx_4 rfl rr_4_6 ?_
      refine g_il1 r6_deed_127 ?_
      refine g_ialdN r6_deed_128 xx_11 (by omega) (by decide) ?_
      refine g_eqv (y := ztd J (nI a) (jt J)) (hP.1.2.1.2.2.1 a (by omega)) ?_
      exact g_iret r6_deed_129 rfl ⟨rfl, ⟨zrt (by unfold zdeR; subst h12; rw [if_pos ci, if_pos (by decide), nI_clamp (by omega)]; simp [zdeN]), rfl, rfl, rfl⟩⟩
    · refine g_k r6_deed_130 ?_
      exact g_iret r6_deed_132 rfl ⟨rfl, ⟨zrt (by unfold zdeR; rw [if_pos ci, if_neg (fun q => by have h2 := h12; simp at h2; exact absurd (zrg6 q) (by simp [h2]))]), rfl, rfl, rfl⟩⟩
  · refine g_k r6_deed_8 ?_
    exact g_iret r6_deed_10 rfl ⟨rfl, ⟨zrt (by unfold zdeR; rw [if_neg (fun q => h5 ((zlt_ix (by omega)).mpr (zidx (by omega) (by rw [← W.m]; exact q))))]), rfl, rfl, rfl⟩⟩
