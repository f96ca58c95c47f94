/-- ahead of closeStep: the first steps are told, the new one's needs and effects are written down -/
def zPre (I J : zMI) (x g kk : Int32) : Prop := (I 4 12 = nI (jt J) ∧ I 4 13 = J 54 12 ∧ I 4 14 = J 54 11 ∧ I 4 15 = J 54 4) ∧
  (∀ k, k < jt J → zRow I J k ∧ (I 7 k = J 67 k ∧ I 8 k = J 66 k) ∧ I 9 k = zlk J k ∧ I 10 k = zhg J k ∧ I 16 k = nI (zth J k)) ∧ zRow I (zadN J (jt J) x g kk) (jt J) ∧ (∀ a, a < 10 → I 11 a = ztd (zadN J (jt J) x g kk) (nI a) (jt J + 1)) ∧ zTp J (zth J) ∧ zCm J (zth J)
theorem ev4_closeStep {w v0 e1 e2 : Nat} {h : Int64} {I J : zMI} (W : zWF J) (ht : jt J < 30) {x g kk : Int32} (hst : zStO J x g kk) (hgk : g &&& kk = 0) (hn8 : z8 (znT (zadN J (jt J) x g kk) (jt J)) ∧ z8 (znF (zadN J (jt J) x g kk) (jt J))) (hp : zPre I J x g kk) : zEp m4_closeStep (zRR w v0 e1 e2) h I [.ref 4] (fun v R1 h1 I1 => v = none ∧ R1 = (zRR w v0 e1 e2) ∧ h1 = h ∧ zRs I1 (zadN J (jt J) x g kk) ∧ ∀ c, c < 4 ∨ 16 < c → I1 c = I c) := by
  have e64 : (zadN J (jt J) x g kk) 64 (jt J) = g := by rw [zadN_64]; simp [upd_ap]
  have e65 : (zadN J (jt J) x g kk) 65 (jt J) = kk := by rw [zadN_65]; simp [upd_ap]
  have ejt : jt (zadN J (jt J) x g kk) = jt J + 1 := by show (zadN J (jt J) x g kk 54 13).toNatClampNeg = jt J + 1; rw [zadN_t, W.t, nI_1]; exact nI_clamp (by omega)
  refine zEp_of [.ref 4] pl4_closeStep (by decide +kernel) (fun _ _ => rfl) (fun _ _ => Nat.le_of_ble_eq_true rfl) ?_
  refine g_al0 r4_closeStep_0 ?_
  refine g_al0 r4_closeStep_1 ?_
  refine g_gfi r4_closeStep_2 xx_4 rfl ?_
  refine g_eqv (y := J 54 11) hp.1.2.2.1 ?_
  refine g_al0 r4_closeStep_5 ?_
  refine g_gfr r4_closeStep_6 xx_4 rfl rr_4_9 ?_
  refine g_al0 r4_closeStep_9 ?_
  refine g_gfi r4_closeStep_10 xx_4 rfl ?_
  refine g_eqv (y := nI (jt J)) (hp.1.1) ?_
  refine g_ialdN r4_closeStep_13 xx_14 (by omega) (by decide) ?_
  refine g_eqv (y := g) (hp.2.2.1.2.2.2.1.trans e64) ?_
  refine g_al0 r4_closeStep_14 ?_
  refine g_gfr r4_closeStep_15 xx_4 rfl rr_4_10 ?_
  refine g_al0 r4_closeStep_18 ?_
  refine g_gfi r4_closeStep_19 xx_4 rfl ?_
  refine g_eqv (y := nI (jt J)) (hp.1.1) ?_
  refine g_ialdN r4_closeStep_22 xx_15 (by omega) (by decide) ?_
  refine g_eqv (y := kk) (hp.2.2.1.2.2.2.2.trans e65) ?_
  refine g_eS3 r4_closeStep_23 ok6_changed pl4_closeStep pl6_changed (Nat.le_of_ble_eq_true rfl) (ev6_changed) ?_
  refine g_eqv (y := ((J 54 11 &&& (kk ^^^ (-1))) ||| g)) (zchg (W.s ▸ zn8 W.s8) (zStO_8 W hst).1 hgk) ?_
  refine g_pfi r4_closeStep_26 xx_4 rfl rfl ?_
  refine g_al0 r4_closeStep_29 ?_
  refine g_gfr r4_closeStep_30 xx_4 rfl rr_4_3 ?_
  refine g_al0 r4_closeStep_33 ?_
  refine g_gfi r4_closeStep_34 xx_4 rfl ?_
  refine g_eqv (y := nI (jt J)) (by simp [zs_ap, upd_ap, hp.1.1]) ?_
  refine g_al0 r4_closeStep_37 ?_
  refine g_gfi r4_closeStep_38 xx_4 rfl ?_
  refine g_eqv (y := ((J 54 11 &&& (kk ^^^ (-1))) ||| g)) (by simp [zs_ap, upd_ap]) ?_
  refine g_iastN r4_closeStep_41 xx_8 (by omega) (by decide) ?_
  refine g_al0 r4_closeStep_42 ?_
  refine g_gfr r4_closeStep_43 xx_4 rfl rr_4_2 ?_
  refine g_al0 r4_closeStep_46 ?_
  refine g_gfi r4_closeStep_47 xx_4 rfl ?_
  refine g_eqv (y := nI (jt J)) (by simp [zs_ap, upd_ap, hp.1.1]) ?_
  refine g_al0 r4_closeStep_50 ?_
  refine g_gfi r4_closeStep_51 xx_4 rfl ?_
  refine g_eqv (y := J 54 12) (by simp [zs_ap, upd_ap, hp.1.2.1]) ?_
  refine g_iastN r4_closeStep_54 xx_7 (by omega) (by decide) ?_
  obtain ⟨M, eM⟩ : ∃ M, M = (zs (zs (zs I 4 (upd (I 4) 14 ((J 54 11 &&& (kk ^^^ (-1))) ||| g))) 8 (upd ((zs I 4 (upd (I 4) 14 ((J 54 11 &&& (kk ^^^ (-1))) ||| g))) 8) (jt J) ((J 54 11 &&& (kk ^^^ (-1))) ||| g))) 7 (upd ((zs (zs I 4 (upd (I 4) 14 ((J 54 11 &&& (kk ^^^ (-1))) ||| g))) 8 (upd ((zs I 4 (upd (I 4) 14 ((J 54 11 &&& (kk ^^^ (-1))) ||| g))) 8) (jt J) ((J 54 11 &&& (kk ^^^ (-1))) ||| g))) 7) (jt J) (J 54 12))) := ⟨_, rfl⟩
  rw [← eM]
  have m4 : M 4 = upd (I 4) 14 ((J 54 11 &&& (kk ^^^ (-1))) ||| g) := by rw [eM]; simp [zs_ap]
  have m8 : M 8 = upd (I 8) (jt J) ((J 54 11 &&& (kk ^^^ (-1))) ||| g) := by rw [eM]; simp [zs_ap]
  have m7 : M 7 = upd (I 7) (jt J) (J 54 12) := by rw [eM]; simp [zs_ap]
  have mo : ∀ c, ¬ c = 4 → ¬ c = 7 → ¬ c = 8 → M c = I c := fun c c1 c2 c3 => by rw [eM]; simp [zs_ap, c1, c2, c3]
  refine g_al0 r4_closeStep_55 ?_
  refine g_al0 r4_closeStep_56 ?_
  refine g_gfi r4_closeStep_57 xx_4 rfl ?_
  refine g_eqv (y := nI (jt J)) (by rw [m4]; simp [upd_ap, hp.1.1]) ?_
  refine g_cV1 r4_closeStep_60 ok4_linkBack pl4_closeStep pl4_linkBack xx_4 (Nat.le_of_ble_eq_true rfl) (ev4_linkBack ht (by rw [mo 12 (by decide) (by decide) (by decide), hp.2.2.1.2.1]; exact hn8.1) (by rw [mo 13 (by decide) (by decide) (by decide), hp.2.2.1.2.2.1]; exact hn8.2)) (fun v' R' h' I1 ⟨q1, q2, q3, oT, oF, L, D, hL, h9, h10, ho⟩ => ?_)
  subst q1; subst q2; subst q3
  have lk := zlk_of (J := (zadN J (jt J) x g kk)) (I := M) (k := jt J) (by omega) ((congrFun (mo 12 (by decide) (by decide) (by decide)) _).trans hp.2.2.1.2.1) ((congrFun (mo 13 (by decide) (by decide) (by decide)) _).trans hp.2.2.1.2.2.1) (fun j hj => by rw [mo 14 (by decide) (by decide) (by decide), (hp.2.1 j hj).1.2.2.2.1, ((zPx_ad J x g kk).1 j hj).2.1]) (fun j hj => by rw [mo 15 (by decide) (by decide) (by decide), (hp.2.1 j hj).1.2.2.2.2, ((zPx_ad J x g kk).1 j hj).2.2]) (fun j hj => by rw [mo 10 (by decide) (by decide) (by decide), (hp.2.1 j hj).2.2.2.1, zhg_px (zPx_ad J x g kk) j hj]) hL
  obtain ⟨eL, eD⟩ := lk
  refine g_al0 r4_closeStep_63 ?_
  refine g_al0 r4_closeStep_64 ?_
  refine g_gfi r4_closeStep_65 xx_4 rfl ?_
  refine g_eqv (y := nI (jt J)) (by rw [ho 4 (by decide) (by decide), m4]; simp [upd_ap, hp.1.1]) ?_
  refine g_cV1 r4_closeStep_68 ok4_sortIntoThread pl4_closeStep pl4_sortIntoThread xx_4 (Nat.le_of_ble_eq_true rfl) (ev4_sortIntoThread (Ln := zLn (zadN J (jt J) x g kk)) (f := zth J) ht (fun e he => by unfold zLn; rw [h9, ← eL]; simp [upd_ap]) (zTt_c (fun k e hk => (zLn_px (zPx_ad J x g kk) hk e).symm) ⟨hp.2.2.2.2.1, hp.2.2.2.2.2⟩) (fun j hj => by rw [ho 16 (by decide) (by decide), mo 16 (by decide) (by decide) (by decide)]; exact (hp.2.1 j hj).2.2.2.2)) (fun v' R' h' I2 ⟨q1, q2, q3, ho2, f1, hT1, hM1⟩ => ?_)
  subst q1; subst q2; subst q3
  refine g_al0 r4_closeStep_71 ?_
  refine g_dup r4_closeStep_72 rfl ?_
  refine g_gfi r4_closeStep_73 xx_4 rfl ?_
  refine g_k r4_closeStep_76 ?_
  refine g_iadd r4_closeStep_77 ?_
  refine g_pfi r4_closeStep_78 xx_4 rfl rfl ?_
  have th := zth_tt (J := (zadN J (jt J) x g kk)) (f := f1) (by rw [ejt]; exact hT1)
  have r : ∀ c, ¬ c = 4 → ¬ c = 7 → ¬ c = 8 → ¬ c = 9 → ¬ c = 10 → ¬ c = 16 → I2 c = I c := fun c c1 c2 c3 c4 c5 c6 => by rw [ho2 c c6, ho c c4 c5, mo c c1 c2 c3]
  have r4 : I2 4 = upd (I 4) 14 ((J 54 11 &&& (kk ^^^ (-1))) ||| g) := by rw [ho2 4 (by decide), ho 4 (by decide) (by decide), m4]
  have r7 : I2 7 = upd (I 7) (jt J) (J 54 12) := by rw [ho2 7 (by decide), ho 7 (by decide) (by decide), m7]
  have r8 : I2 8 = upd (I 8) (jt J) ((J 54 11 &&& (kk ^^^ (-1))) ||| g) := by rw [ho2 8 (by decide), ho 8 (by decide) (by decide), m8]
  have r9 : I2 9 = upd (I 9) (jt J) L := by rw [ho2 9 (by decide), h9, mo 9 (by decide) (by decide) (by decide)]
  have r10 : I2 10 = upd (I 10) (jt J) D := by rw [ho2 10 (by decide), h10, mo 10 (by decide) (by decide) (by decide)]
  refine g_vret r4_closeStep_81 rfl ⟨rfl, rfl, rfl, rfl, ⟨⟨?_, ?_, ?_, ?_⟩, fun k hk => ?_, fun a ha => ?_, th.2⟩, fun c hc => ?_⟩
  · simp [zs_ap, upd_ap, r4, hp.1.1, zadN_t, W.t]
  · simp [zs_ap, upd_ap, r4, hp.1.2.1, zadN_f]
  · simp [zs_ap, upd_ap, r4, zadN_11]
  · simp [zs_ap, upd_ap, r4, hp.1.2.2.2, zadN_f]
  · rw [ejt] at hk
    have e16 : I2 16 k = nI (zth (zadN J (jt J) x g kk) k) := by rw [hM1 k (by omega), th.1 k (by rw [ejt]; exact hk)]
    have s : ∀ c, ¬ c = 4 → (zs I2 4 (upd (I2 4) 12 (I2 4 12 + 1))) c = I2 c := fun c hc => zs_o _ _ hc
    simp only [s 5 (by decide), s 6 (by decide), s 7 (by decide), s 8 (by decide), s 9 (by decide), s 10 (by decide), s 12 (by decide), s 13 (by decide), s 14 (by decide), s 15 (by decide), s 16 (by decide), r 5 (by decide) (by decide) (by decide) (by decide) (by decide) (by decide), r 6 (by decide) (by decide) (by decide) (by decide) (by decide) (by decide), r 12 (by decide) (by decide) (by decide) (by decide) (by decide) (by decide), r 13 (by decide) (by decide) (by decide) (by decide) (by decide) (by decide), r 14 (by decide) (by decide) (by decide) (by decide) (by decide) (by decide), r 15 (by decide) (by decide) (by decide) (by decide) (by decide) (by decide), r7, r8, r9, r10, e16, zadN_66, zadN_67, upd_ap]
    by_cases e : k = jt J
    · subst e
      simp only [if_true]
      obtain ⟨⟨b1, b2⟩, b3, b4, b5, b6⟩ := hp.2.2.1
      exact ⟨⟨b1, b2, trivial, trivial⟩, ⟨eL, eD, trivial⟩, b3, b4, b5, b6⟩
    · simp only [if_neg e]
      obtain ⟨⟨⟨b1, b2⟩, b3, b4, b5, b6⟩, ⟨b7, b8⟩, b9, b10, b11⟩ := hp.2.1 k (by omega)
      obtain ⟨p1, p2, p3⟩ := (zPx_ad J x g kk).1 k (show k < jt J by omega)
      rw [p1, p2, p3, zlk_px (zPx_ad J x g kk) (by omega), zhg_px (zPx_ad J x g kk) k (by omega), (zPx_ad J x g kk).2.1, (zPx_ad J x g kk).2.2]
      exact ⟨⟨b1, b2, b7, b8⟩, ⟨b9, b10, trivial⟩, b3, b4, b5, b6⟩
  · rw [ejt, zs_o _ _ (by decide), r 11 (by decide) (by decide) (by decide) (by decide) (by decide) (by decide)]; exact hp.2.2.2.1 a ha
  · rw [zs_o _ _ (by omega), r c (by omega) (by omega) (by omega) (by omega) (by omega) (by omega)]
