theorem zhc {s x y : Int32} : (s &&& x = x ∧ s &&& y = 0) ↔ (x &&& (s ^^^ (-1)) = 0 ∧ y &&& s = 0) := by
  have h2 : s &&& y = 0 ↔ y &&& s = 0 := by rw [Int32.and_comm]
  rw [h2]
  refine and_congr_left (fun _ => ⟨fun h => ?_, fun h => ?_⟩)
  · rw [zBt_and0]
    rintro i hi ⟨a, b⟩
    have e := zBt_and s x i
    rw [h, a] at e
    rw [zBt_not _ hi] at b
    rw [Bool.and_true] at e
    rw [← e] at b
    exact absurd b (by decide)
  · rw [zBt_and0] at h
    apply zBt_ext
    intro i hi
    rw [zBt_and]
    have := h i hi
    rw [zBt_not _ hi] at this
    cases a : zBt s i <;> cases b : zBt x i <;> simp_all
theorem zchg {s g k : Int32} (hs : z8 s) (hg : z8 g) (hgk : g &&& k = 0) : ((s ||| g) &&& (k ^^^ (-1))) &&& 255 = (s &&& (k ^^^ (-1))) ||| g := by
  apply zBt_ext
  intro i hi
  have h := (zBt_and0.mp hgk) i hi
  simp only [zBt_and, zBt_or, zBt_not _ hi, zBt_255 i hi]
  by_cases q : i < 8
  · cases a : zBt s i <;> cases b : zBt g i <;> cases c : zBt k i <;> simp_all
  · have a := z8_bt hs i (by omega)
    have b := z8_bt hg i (by omega)
    simp [a, b, q]
/-- world w of the class is the model's world -/
def zWl (w : Nat) (I J : zMI) : Prop := (I w 9 = J 54 0 ∧ I w 10 = J 54 5) ∧ (∀ k, k < jn J → I (w + 1) k = J 55 k ∧ I (w + 2) k = J 56 k ∧ I (w + 3) k = zWt (J 57 k) (J 56 k) ∧ I (w + 4) k = zWf (J 57 k) (J 56 k)) ∧ (∀ k, k < jm J → I (w + 5) k = J 58 k ∧ I (w + 6) k = J 59 k ∧ I (w + 7) k = J 60 k ∧ I (w + 8) k = J 61 k ∧ I (w + 9) k = J 62 k)
def zFq (q : Nat) (I I1 : zMI) : Prop := ∀ k, k < q ∨ q + 6 < k → I1 k = I k
theorem zFq.refl (q : Nat) (I : zMI) : zFq q I I := fun _ _ => rfl
theorem zFq.trans {q : Nat} {I I1 I2 : zMI} (h : zFq q I I1) (h' : zFq q I1 I2) : zFq q I I2 := fun k hk => (h' k hk).trans (h k hk)
theorem zFq_row (q : Nat) (I : zMI) (k : Nat) (F : Nat → Int32) (hk : q ≤ k) (hk' : k ≤ q + 6) : zFq q I (zs I k F) := fun j hj => zs_o I F (by omega)
theorem zWl_fq {q w : Nat} (hq : zQ q) (hw : zW w) {I I1 J : zMI} (hf : zFq q I I1) (h : zWl w I J) : zWl w I1 J := by
  have e : ∀ c, c ≤ 9 → I1 (w + c) = I (w + c) := fun c hc => hf (w + c) (by rcases hq with rfl | rfl <;> rcases hw with rfl | rfl <;> omega)
  unfold zWl
  simp only [show I1 w = I w from e 0 (by omega), e 1 (by omega), e 2 (by omega), e 3 (by omega), e 4 (by omega), e 5 (by omega), e 6 (by omega), e 7 (by omega), e 8 (by omega), e 9 (by omega)]
  exact h
/-- the cells of a search -/
def zSm (q : Nat) (I : zMI) (Q fr bY dp : Nat → Nat) (z c : Nat) : Prop := I q 1 = nI z ∧ (∀ i, i < z → I (q + 1) i = nI (Q i) ∧ I (q + 4) i = nI (dp i) ∧ (0 < i → I (q + 2) i = nI (fr i) ∧ I (q + 3) i = nI (bY i))) ∧ I q 8 = nI c ∧ ∀ s, s < 256 → ∃ r, r ≤ c ∧ I (q + 6) s = nI r ∧ (r = c ↔ ∃ i, i < z ∧ Q i = s)
/-- the numbers of a search -/
def zSn (q : Nat) (I : zMI) (c : Nat) : Prop := I q 8 = nI c ∧ ∀ s, s < 256 → ∃ r, r ≤ c ∧ I (q + 6) s = nI r
theorem zSm.n {q : Nat} {I : zMI} {Q fr bY dp : Nat → Nat} {z c : Nat} (h : zSm q I Q fr bY dp z c) : zSn q I c := ⟨h.2.2.1, fun s hs => by obtain ⟨r, h1, h2, -⟩ := h.2.2.2 s hs; exact ⟨r, h1, h2⟩⟩
theorem ev3_begin {w v0 e1 e2 : Nat} {h : Int64} {I : zMI} {q s c : Nat} (hq : zQ q) (hs : s < 256) (hc : c < 2 ^ 31) (hn : zSn q I c) : zEp m3_begin (zRR w v0 e1 e2) h I [.ref q, .int (nI s)] (fun v R1 h1 I1 => v = none ∧ R1 = zRR w v0 e1 e2 ∧ h1 = h ∧ zSm q I1 (fun _ => s) (fun _ => 0) (fun _ => 0) (fun _ => 0) 1 (c + 1) ∧ I1 q 2 = -1 ∧ zFq q I I1) := by
  refine zEp_of [.ref q, .int (nI s), .null] pl3_begin (by decide +kernel) (fun _ _ => rfl) (fun _ _ => Nat.le_of_ble_eq_true rfl) ?_
  refine g_il1 r3_begin_0 ?_
  refine g_k r3_begin_1 ?_
  refine g_iand r3_begin_4 ?_
  refine g_eqv (y := nI s) (by have := pk_andN (n := s) (by omega) (m := 255) 8 (by decide); rw [this]; congr 1; omega) ?_
  refine g_is2 r3_begin_5 rfl ?_
  refine g_al0 r3_begin_6 ?_
  refine g_dup r3_begin_7 rfl ?_
  refine g_gfi r3_begin_8 (xq hq) rfl ?_
  refine g_k r3_begin_11 ?_
  refine g_iadd r3_begin_12 ?_
  refine g_pfi r3_begin_13 (xq hq) rfl rfl ?_
  refine g_al0 r3_begin_16 ?_
  refine g_k r3_begin_17 ?_
  refine g_pfi r3_begin_18 (xq hq) rfl rfl ?_
  refine g_al0 r3_begin_21 ?_
  refine g_gfr r3_begin_22 (xq hq) rfl (rq_7 hq) ?_
  refine g_il2 r3_begin_25 ?_
  refine g_al0 r3_begin_26 ?_
  refine g_gfi r3_begin_27 (xq hq) rfl ?_
  refine g_iastN r3_begin_30 (xqa_7 hq) hs (by decide) ?_
  refine g_al0 r3_begin_31 ?_
  refine g_gfr r3_begin_32 (xq hq) rfl (rq_0 hq) ?_
  refine g_k r3_begin_35 ?_
  refine g_eqv (y := nI 0) rfl ?_
  refine g_il2 r3_begin_36 ?_
  refine g_iastN r3_begin_37 (xqa_0 hq) (by omega) (by decide) ?_
  refine g_al0 r3_begin_38 ?_
  refine g_gfr r3_begin_39 (xq hq) rfl (rq_5 hq) ?_
  refine g_k r3_begin_42 ?_
  refine g_eqv (y := nI 0) rfl ?_
  refine g_k r3_begin_43 ?_
  refine g_iastN r3_begin_44 (xqa_5 hq) (by omega) (by decide) ?_
  refine g_al0 r3_begin_45 ?_
  refine g_k r3_begin_46 ?_
  refine g_pfi r3_begin_47 (xq hq) rfl rfl ?_
  refine g_vret r3_begin_50 rfl ⟨rfl, ⟨rfl, rfl, rfl, ⟨by simp [zs_ap, upd_ap]; rfl, fun i hi => ?_, by simp [zs_ap, upd_ap, hn.1, nI_1], fun t ht => ?_⟩, by simp [zs_ap, upd_ap], fun k hk => ?_⟩⟩
  · obtain rfl : i = 0 := by omega
    refine ⟨by simp [zs_ap, upd_ap], by simp [zs_ap, upd_ap]; rfl, fun q => by omega⟩
  · obtain ⟨r, h1, h2⟩ := hn.2 t ht
    by_cases e : t = s
    · subst e
      exact ⟨c + 1, by omega, by simp [zs_ap, upd_ap, hn.1, nI_1], by simp⟩
    · refine ⟨r, by omega, by simp [zs_ap, upd_ap, e, h2], ⟨fun q => by omega, fun ⟨i, _, q⟩ => absurd q.symm e⟩⟩
  · simp [zs_ap, show ¬ k = q by omega, show ¬ k = q + 1 by omega, show ¬ k = q + 4 by omega, show ¬ k = q + 6 by omega]
theorem zcn {S : Int32} {a : Nat} (ha : a < 32) : (¬ (S >>> (nI a &&& 31)) &&& 1 = 0) ↔ S >>> (nI a &&& 31) &&& 1 = 1 := (zBt_ne ha).trans (zBt_1i ha).symm
theorem zbh {J : zMI} (W : zWF J) {a s : Nat} (ha : a < jm J) (hs : s < 256) : ((nI s ||| J 61 a) &&& (J 62 a ^^^ (-1))) &&& 255 = nI (zNx J a s) := (zchg (zn8 hs) (W.A a ha).1.2.2.1 (W.A a ha).2.1).trans (zNx_spec W.A8 ha hs).1
theorem zrch {r c : Nat} (h : r ≤ c) (hc : c < 2 ^ 31) : nI r = nI c ↔ r = c := nI_eq (by omega) hc
/-- a new state goes to the queue -/
theorem zSm_new {q : Nat} {I : zMI} {Q fr bY dp : Nat → Nat} {z c hd a t : Nat} (hz : z < 256) (h : zSm q I Q fr bY dp z c) (I1 : zMI)
    (e0 : ∀ j, ¬ j = 1 → I1 q j = I q j) (e1 : I1 q 1 = nI (z + 1)) (e2 : I1 (q + 1) = upd (I (q + 1)) z (nI t)) (e3 : I1 (q + 2) = upd (I (q + 2)) z (nI hd)) (e4 : I1 (q + 3) = upd (I (q + 3)) z (nI a)) (e5 : I1 (q + 4) = upd (I (q + 4)) z (nI (dp hd + 1))) (e6 : I1 (q + 6) = upd (I (q + 6)) t (nI c)) :
    zSm q I1 (fun i => if i = z then t else Q i) (fun i => if i = z then hd else fr i) (fun i => if i = z then a else bY i) (fun i => if i = z then dp hd + 1 else dp i) (z + 1) c := by
  obtain ⟨h1, h2, h3, h4⟩ := h
  refine ⟨e1, fun i hi => ?_, by rw [e0 8 (by decide)]; exact h3, fun s hs => ?_⟩
  · rw [e2, e3, e4, e5]
    simp only [upd_ap]
    by_cases e : i = z
    · simp only [if_pos e]; exact ⟨trivial, trivial, fun _ => ⟨trivial, trivial⟩⟩
    · simp only [if_neg e]; exact h2 i (by omega)
  · obtain ⟨r, g1, g2, g3⟩ := h4 s hs
    rw [e6]
    simp only [upd_ap]
    by_cases e : s = t
    · refine ⟨c, Nat.le_refl c, by rw [if_pos e], fun _ => ⟨z, by omega, by simp only [if_true]; exact e.symm⟩, fun _ => rfl⟩
    · refine ⟨r, g1, by rw [if_neg e]; exact g2, g3.trans ⟨fun ⟨i, i1, i2⟩ => ⟨i, by omega, by rw [if_neg (by omega)]; exact i2⟩, fun ⟨i, i1, i2⟩ => ?_⟩⟩
      by_cases e' : i = z
      · rw [if_pos e'] at i2; exact absurd i2.symm e
      · rw [if_neg e'] at i2; exact ⟨i, by omega, i2⟩
theorem lp3_spread {w v0 e1 e2 : Nat} {h : Int64} {P : zPost} {J : zMI} {q : Nat} (hq : zQ q) (hw : zW w) (W : zWF J) {S x2 : Int32} {s0 hd sH c : Nat} {Qs : Nat → Nat} {I0 : zMI} (hc : c < 2 ^ 31) (hm10 : jm J ≤ 10) (hs8 : sH < 256) (hh : hd < 256) (hend : ∀ Q fr bY dp z I (y y6 : Value), zBf (zEa J S) (zNx J) (jm J) s0 Q fr bY dp z hd (jm J) → zSm q I Q fr bY dp z c → zFq q I0 I → I q 2 = x2 → hd < z → (∀ j, j ≤ hd → Q j = Qs j) → zGo m3_spread 184 [.ref q, .ref w, .int S, .int (nI hd), .int (nI sH), y, y6] [] zX (zRR w v0 e1 e2) h I P) : ∀ d a Q fr bY dp z I (y6 : Value), jm J - a < d → a ≤ jm J → zWl w I J → zBf (zEa J S) (zNx J) (jm J) s0 Q fr bY dp z hd a → zSm q I Q fr bY dp z c → zFq q I0 I → I q 2 = x2 → Q hd = sH → hd < z → (∀ j, j ≤ hd → Q j = Qs j) → zGo m3_spread 23 [.ref q, .ref w, .int S, .int (nI hd), .int (nI sH), .int (nI a), y6] [] zX (zRR w v0 e1 e2) h I P := by
  intro d
  induction d with
  | zero => intro a Q fr bY dp z I y6 hd0; exact absurd hd0 (Nat.not_lt_zero _)
  | succ d ih =>
    intro a Q fr bY dp z I y6 hd0 hd1 hWl hB hS hF h2 hQ hz hK
    refine g_il5 r3_spread_23 ?_
    refine g_al1 r3_spread_25 ?_
    refine g_gfi r3_spread_26 (xw hw) rfl ?_
    refine g_eqv (y := nI (jm J)) (hWl.1.2.trans W.m) ?_
    refine g_icgeN r3_spread_29 (by omega) (by omega) (fun h29 => ?_) (fun h29 => ?_)
    · exact hend Q fr bY dp z I _ _ (by rw [show a = jm J by omega] at hB; exact hB) hS hF h2 hz hK
    · refine g_il2 r3_spread_32 ?_
      refine g_il5 r3_spread_33 ?_
      refine g_eS2 r3_spread_35 ok6_contains pl3_spread pl6_contains (Nat.le_of_ble_eq_true rfl) (ev6_contains) ?_
      refine g_ifeqB r3_spread_38 (fun h38 => ?_) (fun h38 => ?_)
      · refine g_iiN5 r3_spread_178 rfl ?_
        refine g_goto r3_spread_181 ?_
        refine ih (a + 1) Q fr bY dp z I _ (by omega) (by omega) hWl (zBf_skip hB (fun q => absurd ((zcn (by omega)).mpr q.1) h38)) hS hF h2 hQ hz hK
      · refine g_il4 r3_spread_41 ?_
        refine g_al1 r3_spread_43 ?_
        refine g_gfr r3_spread_44 (xw hw) rfl (rw_5 hw) ?_
        refine g_il5 r3_spread_47 ?_
        refine g_ialdN r3_spread_49 (xwa_5 hw) (by omega) (by decide) ?_
        refine g_eqv (y := J 59 a) (hWl.2.2 a (by omega)).2.1 ?_
        refine g_al1 r3_spread_50 ?_
        refine g_gfr r3_spread_51 (xw hw) rfl (rw_6 hw) ?_
        refine g_il5 r3_spread_54 ?_
        refine g_ialdN r3_spread_56 (xwa_6 hw) (by omega) (by decide) ?_
        refine g_eqv (y := J 60 a) (hWl.2.2 a (by omega)).2.2.1 ?_
        refine g_eS3 r3_spread_57 ok6_holds pl3_spread pl6_holds (Nat.le_of_ble_eq_true rfl) (ev6_holds) ?_
        refine g_ifeqB r3_spread_60 (fun h60 => ?_) (fun h60 => ?_)
        · refine g_iiN5 r3_spread_178 rfl ?_
          refine g_goto r3_spread_181 ?_
          refine ih (a + 1) Q fr bY dp z I _ (by omega) (by omega) hWl (zBf_skip hB (fun q => absurd (zhc.mpr (by rw [hQ] at q; exact q.2)) h60)) hS hF h2 hQ hz hK
        · refine g_il4 r3_spread_63 ?_
          refine g_al1 r3_spread_65 ?_
          refine g_gfr r3_spread_66 (xw hw) rfl (rw_7 hw) ?_
          refine g_il5 r3_spread_69 ?_
          refine g_ialdN r3_spread_71 (xwa_7 hw) (by omega) (by decide) ?_
          refine g_eqv (y := J 61 a) (hWl.2.2 a (by omega)).2.2.2.1 ?_
          refine g_al1 r3_spread_72 ?_
          refine g_gfr r3_spread_73 (xw hw) rfl (rw_8 hw) ?_
          refine g_il5 r3_spread_76 ?_
          refine g_ialdN r3_spread_78 (xwa_8 hw) (by omega) (by decide) ?_
          refine g_eqv (y := J 62 a) (hWl.2.2 a (by omega)).2.2.2.2 ?_
          refine g_eS3 r3_spread_79 ok6_changed pl3_spread pl6_changed (Nat.le_of_ble_eq_true rfl) (ev6_changed) ?_
          refine g_eqv (y := nI (zNx J a sH)) (zbh W (by omega) hs8) ?_
          have hE : zEa J S a (Q hd) := by rw [hQ]; exact ⟨(zcn (by omega)).mp h38, zhc.mp h60⟩
          have hN8 : zNx J a sH < 256 := W.N a sH (by omega) hs8
          obtain ⟨r, r1, r2, r3⟩ := hS.2.2.2 (zNx J a sH) hN8
          refine g_is6 r3_spread_82 rfl ?_
          refine g_al0 r3_spread_84 ?_
          refine g_gfr r3_spread_85 (xq hq) rfl (rq_7 hq) ?_
          refine g_il6 r3_spread_88 ?_
          refine g_ialdN r3_spread_90 (xqa_7 hq) hN8 (by decide) ?_
          refine g_eqv (y := nI r) r2 ?_
          refine g_al0 r3_spread_91 ?_
          refine g_gfi r3_spread_92 (xq hq) rfl ?_
          refine g_eqv (y := nI c) hS.2.2.1 ?_
          refine g_iceq r3_spread_95 (fun h95 => ?_) (fun h95 => ?_)
          · refine g_iiN5 r3_spread_178 rfl ?_
            refine g_goto r3_spread_181 ?_
            refine ih (a + 1) Q fr bY dp z I _ (by omega) (by omega) hWl (zBf_skip hB (fun _ => by rw [hQ]; exact r3.mp ((zrch r1 hc).mp h95))) hS hF h2 hQ hz hK
          · have hnew : ∀ i, i < z → Q i ≠ zNx J a (Q hd) := fun i hi e => h95 ((zrch r1 hc).mpr (r3.mpr ⟨i, hi, by rw [e, hQ]⟩))
            obtain ⟨hz256, hB1⟩ := zBf_new hB hz (by omega) hE (by rw [hQ]; exact hN8) hnew
            refine g_al0 r3_spread_98 ?_
            refine g_gfi r3_spread_99 (xq hq) rfl ?_
            refine g_eqv (y := nI z) hS.1 ?_
            refine g_k r3_spread_102 ?_
            refine g_eqv (y := nI 256) rfl ?_
            refine g_icgeN r3_spread_105 (by omega) (by omega) (fun hc => absurd hc (by omega)) (fun h105 => ?_)
            refine g_al0 r3_spread_108 ?_
            refine g_gfr r3_spread_109 (xq hq) rfl (rq_7 hq) ?_
            refine g_il6 r3_spread_112 ?_
            refine g_al0 r3_spread_114 ?_
            refine g_gfi r3_spread_115 (xq hq) rfl ?_
            refine g_eqv (y := nI c) hS.2.2.1 ?_
            refine g_iastN r3_spread_118 (xqa_7 hq) hN8 (by decide) ?_
            refine g_al0 r3_spread_119 ?_
            refine g_gfr r3_spread_120 (xq hq) rfl (rq_0 hq) ?_
            refine g_al0 r3_spread_123 ?_
            refine g_gfi r3_spread_124 (xq hq) rfl ?_
            refine g_eqv (y := nI z) (by simp [zs_ap, hS.1]) ?_
            refine g_il6 r3_spread_127 ?_
            refine g_iastN r3_spread_129 (xqa_0 hq) (by omega) (by decide) ?_
            refine g_al0 r3_spread_130 ?_
            refine g_gfr r3_spread_131 (xq hq) rfl (rq_3 hq) ?_
            refine g_al0 r3_spread_134 ?_
            refine g_gfi r3_spread_135 (xq hq) rfl ?_
            refine g_eqv (y := nI z) (by simp [zs_ap, hS.1]) ?_
            refine g_il3 r3_spread_138 ?_
            refine g_iastN r3_spread_139 (xqa_3 hq) (by omega) (by decide) ?_
            refine g_al0 r3_spread_140 ?_
            refine g_gfr r3_spread_141 (xq hq) rfl (rq_4 hq) ?_
            refine g_al0 r3_spread_144 ?_
            refine g_gfi r3_spread_145 (xq hq) rfl ?_
            refine g_eqv (y := nI z) (by simp [zs_ap, hS.1]) ?_
            refine g_il5 r3_spread_148 ?_
            refine g_iastN r3_spread_150 (xqa_4 hq) (by omega) (by decide) ?_
            refine g_al0 r3_spread_151 ?_
            refine g_gfr r3_spread_152 (xq hq) rfl (rq_5 hq) ?_
            refine g_al0 r3_spread_155 ?_
            refine g_gfi r3_spread_156 (xq hq) rfl ?_
            refine g_eqv (y := nI z) (by simp [zs_ap, hS.1]) ?_
            refine g_al0 r3_spread_159 ?_
            refine g_gfr r3_spread_160 (xq hq) rfl (rq_5 hq) ?_
            refine g_il3 r3_spread_163 ?_
            refine g_ialdN r3_spread_164 (xqa_5 hq) (by omega) (by decide) ?_
            refine g_eqv (y := nI (dp hd)) (by simp [zs_ap, (hS.2.1 hd hz).2.1]) ?_
            refine g_k r3_spread_165 ?_
            refine g_iadd r3_spread_166 ?_
            refine g_eqv (y := nI (dp hd + 1)) (nI_1 _) ?_
            refine g_iastN r3_spread_167 (xqa_5 hq) (by omega) (by decide) ?_
            refine g_al0 r3_spread_168 ?_
            refine g_dup r3_spread_169 rfl ?_
            refine g_gfi r3_spread_170 (xq hq) rfl ?_
            refine g_k r3_spread_173 ?_
            refine g_iadd r3_spread_174 ?_
            refine g_pfi r3_spread_175 (xq hq) rfl rfl ?_
            refine g_iiN5 r3_spread_178 rfl ?_
            refine g_goto r3_spread_181 ?_
            refine ih (a + 1) _ _ _ _ _ _ _ (by omega) (by omega) ?_ hB1 (zSm_new hz256 hS _ ?_ ?_ ?_ ?_ ?_ ?_ ?_) ?_ ?_ ?_ (by omega) (fun j hj => by simp only [if_neg (show ¬ j = z by omega)]; exact hK j hj)
            · refine zWl_fq hq hw (I := I) (fun k hk => ?_) hWl
              simp [zs_ap, show ¬ k = q by omega, show ¬ k = q + 1 by omega, show ¬ k = q + 2 by omega, show ¬ k = q + 3 by omega, show ¬ k = q + 4 by omega, show ¬ k = q + 6 by omega]
            · intro j hj; simp [zs_ap, upd_ap, hj]
            · simp [zs_ap, upd_ap, hS.1, nI_1]
            · simp [zs_ap, hQ]
            · simp [zs_ap]
            · simp [zs_ap]
            · simp [zs_ap]
            · simp [zs_ap, hQ]
            · refine hF.trans (fun k hk => ?_)
              simp [zs_ap, show ¬ k = q by omega, show ¬ k = q + 1 by omega, show ¬ k = q + 2 by omega, show ¬ k = q + 3 by omega, show ¬ k = q + 4 by omega, show ¬ k = q + 6 by omega]
            · simp [zs_ap, upd_ap, h2]
            · simp only [if_neg (show ¬ hd = z by omega)]; exact hQ
theorem ev3_spread {w v0 e1 e2 : Nat} {h : Int64} {J I : zMI} {q : Nat} (hq : zQ q) (hw : zW w) (W : zWF J) {S : Int32} {s0 hd c : Nat} {Q fr bY dp : Nat → Nat} {z : Nat} (hc : c < 2 ^ 31) (hWl : zWl w I J) (hB : zBf (zEa J S) (zNx J) (jm J) s0 Q fr bY dp z hd 0) (hS : zSm q I Q fr bY dp z c) (hz : hd < z) : zEp m3_spread (zRR w v0 e1 e2) h I [.ref q, .ref w, .int S, .int (nI hd)] (fun v R1 h1 I1 => v = none ∧ R1 = zRR w v0 e1 e2 ∧ h1 = h ∧ ∃ Q1 fr1 bY1 dp1 z1, zBf (zEa J S) (zNx J) (jm J) s0 Q1 fr1 bY1 dp1 z1 (hd + 1) 0 ∧ zSm q I1 Q1 fr1 bY1 dp1 z1 c ∧ zFq q I I1 ∧ I1 q 2 = I q 2 ∧ hd < z1 ∧ ∀ j, j ≤ hd → Q1 j = Q j) := by
  have hz256 := hB.1.2.1
  have hs8 := hB.2.1 hd hz
  refine zEp_of [.ref q, .ref w, .int S, .int (nI hd), .null, .null, .null] pl3_spread (by decide +kernel) (fun _ _ => rfl) (fun _ _ => Nat.le_of_ble_eq_true rfl) ?_
  refine g_il3 r3_spread_0 ?_
  refine g_iflt r3_spread_1 (fun hc => absurd hc (nI_pos (by omega))) (fun _ => ?_)
  refine g_il3 r3_spread_4 ?_
  refine g_k r3_spread_5 ?_
  refine g_eqv (y := nI 256) rfl ?_
  refine g_icltN r3_spread_8 (by omega) (by omega) (fun h8 => ?_) (fun hc => absurd hc (by omega))
  refine g_al0 r3_spread_12 ?_
  refine g_gfr r3_spread_13 (xq hq) rfl (rq_0 hq) ?_
  refine g_il3 r3_spread_16 ?_
  refine g_ialdN r3_spread_17 (xqa_0 hq) (by omega) (by decide) ?_
  refine g_eqv (y := nI (Q hd)) (hS.2.1 hd hz).1 ?_
  refine g_is4 r3_spread_18 rfl ?_
  refine g_k r3_spread_20 ?_
  refine g_is5 r3_spread_21 rfl ?_
  exact lp3_spread hq hw W hc W.m10 hs8 (by omega) (fun Q1 fr1 bY1 dp1 z1 I1 y y6 hB1 hS1 hF1 h21 hz1 hK1 => g_vret r3_spread_184 rfl ⟨rfl, rfl, rfl, rfl, Q1, fr1, bY1, dp1, z1, zBf_next hB1, hS1, hF1, h21, hz1, hK1⟩) (jm J + 1) 0 Q fr bY dp z I _ (by omega) (by omega) hWl hB hS (zFq.refl q I) rfl rfl hz (fun _ _ => rfl)
/-- the places on the way back -/
def zan (fr : Nat → Nat) (hd : Nat) : Nat → Nat
  | 0 => hd
  | j + 1 => fr (zan fr hd j)
section AN
variable {E : Nat → Nat → Prop} {nx : Nat → Nat → Nat} {m s0 : Nat} {Q fr bY dp : Nat → Nat} {z hd ac : Nat}
theorem zdp0 (B : zBf E nx m s0 Q fr bY dp z hd ac) {i : Nat} (hi : i < z) : (dp i = 0 ↔ i = 0) ∧ dp i ≤ i := by
  induction i using Nat.strongRecOn with
  | ind i ih =>
    by_cases e : i = 0
    · rw [e, B.1.2.2.2]; exact ⟨by simp, by omega⟩
    · have h := B.2.2.2.1 i (by omega) hi
      have := (ih (fr i) h.1 (by omega)).2
      rw [h.2.2.2.2]
      exact ⟨by omega, by omega⟩
theorem zan_dp (B : zBf E nx m s0 Q fr bY dp z hd ac) {g : Nat} (hg : g < z) : ∀ j, j ≤ dp g → zan fr g j ≤ g ∧ dp (zan fr g j) = dp g - j ∧ (j < dp g → 0 < zan fr g j)
  | 0, _ => ⟨Nat.le_refl g, rfl, fun q => by
      by_cases e : g = 0
      · subst e; rw [B.1.2.2.2] at q; omega
      · exact Nat.pos_of_ne_zero e⟩
  | j + 1, hj => by
    obtain ⟨h1, h2, h3⟩ := zan_dp B hg j (by omega)
    have h := B.2.2.2.1 _ (h3 (by omega)) (by omega)
    have e : zan fr g (j + 1) = fr (zan fr g j) := rfl
    rw [e]
    refine ⟨by omega, by omega, fun q => ?_⟩
    by_cases e0 : fr (zan fr g j) = 0
    · rw [e0, B.1.2.2.2] at h; omega
    · exact Nat.pos_of_ne_zero e0
theorem zan_way (B : zBf E nx m s0 Q fr bY dp z hd ac) (hg : hd < z) : zan fr hd (dp hd - dp hd) = hd ∧ zan fr hd (dp hd - 0) = 0 ∧ ∀ t, t < dp hd → 0 < zan fr hd (dp hd - (t + 1)) ∧ zan fr hd (dp hd - (t + 1)) ≤ hd ∧ fr (zan fr hd (dp hd - (t + 1))) = zan fr hd (dp hd - t) := by
  refine ⟨by rw [Nat.sub_self]; rfl, ?_, fun t ht => ?_⟩
  · rw [Nat.sub_zero]
    obtain ⟨h1, h2, -⟩ := zan_dp B hg (dp hd) (Nat.le_refl _)
    rw [Nat.sub_self] at h2
    exact ((zdp0 B (by omega)).1).mp h2
  · obtain ⟨h1, h2, h3⟩ := zan_dp B hg (dp hd - (t + 1)) (by omega)
    refine ⟨h3 (by omega), h1, ?_⟩
    rw [show dp hd - t = (dp hd - (t + 1)) + 1 by omega]; rfl
end AN
theorem lp3_end {w v0 e1 e2 : Nat} {h : Int64} {P : zPost} {q : Nat} (hq : zQ q) {E : Nat → Nat → Prop} {nx : Nat → Nat → Nat} {m s0 : Nat} {Q fr bY dp : Nat → Nat} {z hd ac c : Nat} {B : zMI} (hB : zBf E nx m s0 Q fr bY dp z hd ac) (hS : zSm q B Q fr bY dp z c) (hz : hd < z) (hh : hd < 256) (hend : ∀ I (x y : Value), (∀ k, ¬ k = q + 5 → I k = B k) → (∀ t, t < dp hd → I (q + 5) t = nI (bY (zan fr hd (dp hd - (t + 1))))) → zGo m3_end 67 [.ref q, .int (nI hd), x, y] [] zX (zRR w v0 e1 e2) h I P) : ∀ r j I, r + j = dp hd → (∀ k, ¬ k = q + 5 → I k = B k) → (∀ t, r ≤ t → t < dp hd → I (q + 5) t = nI (bY (zan fr hd (dp hd - (t + 1))))) → zGo m3_end 31 [.ref q, .int (nI hd), .int (nI (zan fr hd j)), .int (nI r - 1)] [] zX (zRR w v0 e1 e2) h I P := by
  intro r
  induction r with
  | zero =>
    intro j I hj hk hp
    have a0 := (zdp0 hB hz).2
    have a1 := (zan_dp hB hz j (by omega)).1
    refine g_il3 r3_end_31 ?_
    refine g_iflt r3_end_32 (fun h32 => ?_) (fun hc => absurd hc (by decide +kernel))
    exact hend I _ _ hk (fun t ht => hp t (by omega) ht)
  | succ r ih =>
    intro j I hj hk hp
    have a0 := (zdp0 hB hz).2
    obtain ⟨a1, a2, a3⟩ := zan_dp hB hz j (by omega)
    rw [nI_pred]
    refine g_il3 r3_end_31 ?_
    refine g_iflt r3_end_32 (fun hc => absurd hc (nI_pos (by omega))) (fun _ => ?_)
    refine g_il3 r3_end_35 ?_
    refine g_k r3_end_36 ?_
    refine g_eqv (y := nI 256) rfl ?_
    refine g_icgeN r3_end_39 (by omega) (by omega) (fun hc => absurd hc (by omega)) (fun h39 => ?_)
    refine g_al0 r3_end_42 ?_
    refine g_gfr r3_end_43 (xq hq) rfl (rq_6 hq) ?_
    refine g_il3 r3_end_46 ?_
    refine g_al0 r3_end_47 ?_
    refine g_gfr r3_end_48 (xq hq) rfl (rq_4 hq) ?_
    refine g_il2 r3_end_51 ?_
    refine g_ialdN r3_end_52 (xqa_4 hq) (by omega) (by decide) ?_
    refine g_eqv (y := nI (bY (zan fr hd j))) (by rw [hk _ (by omega)]; exact ((hS.2.1 _ (by omega)).2.2 (a3 (by omega))).2) ?_
    refine g_iastN r3_end_53 (xqa_6 hq) (by omega) (by decide) ?_
    refine g_al0 r3_end_54 ?_
    refine g_gfr r3_end_55 (xq hq) rfl (rq_3 hq) ?_
    refine g_il2 r3_end_58 ?_
    refine g_ialdN r3_end_59 (xqa_3 hq) (by omega) (by decide) ?_
    refine g_eqv (y := nI (zan fr hd (j + 1))) (by simp only [zs_ap, if_neg (show ¬ q + 2 = q + 5 by omega)]; rw [hk _ (by omega)]; exact ((hS.2.1 _ (by omega)).2.2 (a3 (by omega))).1) ?_
    refine g_is2 r3_end_60 rfl ?_
    refine g_ii3 r3_end_61 rfl ?_
    refine g_goto r3_end_64 ?_
    rw [zm1]
    refine ih (j + 1) _ (by omega) (fun k hk1 => by rw [zs_o _ _ hk1]; exact hk k hk1) (fun t h1 h2 => ?_)
    rw [zs_eq]; simp only [upd_ap]
    by_cases e : t = r
    · rw [if_pos e, show dp hd - (t + 1) = j by omega]
    · rw [if_neg e]; exact hp t (by omega) h2
theorem ev3_end {w v0 e1 e2 : Nat} {h : Int64} {I : zMI} {q : Nat} (hq : zQ q) {E : Nat → Nat → Prop} {nx : Nat → Nat → Nat} {m s0 : Nat} {Q fr bY dp : Nat → Nat} {z hd ac c : Nat} (hB : zBf E nx m s0 Q fr bY dp z hd ac) (hS : zSm q I Q fr bY dp z c) (hz : hd < z) : zEp m3_end (zRR w v0 e1 e2) h I [.ref q, .int (nI hd)] (fun v R1 h1 I1 => v = none ∧ R1 = zRR w v0 e1 e2 ∧ h1 = h ∧ I1 q 2 = nI (dp hd) ∧ (∀ t, t < dp hd → I1 (q + 5) t = nI (bY (zan fr hd (dp hd - (t + 1))))) ∧ zFq q I I1 ∧ zSn q I1 c) := by
  have hz256 := hB.1.2.1
  have a0 := (zdp0 hB hz).2
  refine zEp_of [.ref q, .int (nI hd), .null, .null] pl3_end (by decide +kernel) (fun _ _ => rfl) (fun _ _ => Nat.le_of_ble_eq_true rfl) ?_
  refine g_il1 r3_end_0 ?_
  refine g_iflt r3_end_1 (fun hc => absurd hc (nI_pos (by omega))) (fun _ => ?_)
  refine g_il1 r3_end_4 ?_
  refine g_k r3_end_5 ?_
  refine g_eqv (y := nI 256) rfl ?_
  refine g_icltN r3_end_8 (by omega) (by omega) (fun h8 => ?_) (fun hc => absurd hc (by omega))
  refine g_al0 r3_end_12 ?_
  refine g_al0 r3_end_13 ?_
  refine g_gfr r3_end_14 (xq hq) rfl (rq_5 hq) ?_
  refine g_il1 r3_end_17 ?_
  refine g_ialdN r3_end_18 (xqa_5 hq) (by omega) (by decide) ?_
  refine g_eqv (y := nI (dp hd)) (hS.2.1 hd hz).2.1 ?_
  refine g_pfi r3_end_19 (xq hq) rfl rfl ?_
  refine g_il1 r3_end_22 ?_
  refine g_is2 r3_end_23 rfl ?_
  refine g_al0 r3_end_24 ?_
  refine g_gfi r3_end_25 (xq hq) rfl ?_
  refine g_eqv (y := nI (dp hd)) (by simp [zs_ap, upd_ap]) ?_
  refine g_k r3_end_28 ?_
  refine g_isub r3_end_29 ?_
  refine g_is3 r3_end_30 rfl ?_
  have hS1 : zSm q (zs I q (upd (I q) 2 (nI (dp hd)))) Q fr bY dp z c := by
    obtain ⟨s1, s2, s3, s4⟩ := hS
    refine ⟨by simp [zs_ap, upd_ap, s1], fun i hi => ?_, by simp [zs_ap, upd_ap, s3], fun s hs => ?_⟩
    · have := s2 i hi; simpa [zs_ap] using this
    · have := s4 s hs; simpa [zs_ap] using this
  refine lp3_end hq hB hS1 hz (by omega) (fun I1 x y k1 k2 => g_vret r3_end_67 rfl ⟨rfl, rfl, rfl, rfl, ?_, k2, fun k hk => ?_, ?_, fun s hs => ?_⟩) (dp hd) 0 _ (by omega) (fun k _ => rfl) (fun t h1 h2 => by omega)
  · rw [k1 q (by omega), zs_eq]; simp [upd_ap]
  · rw [k1 k (by omega), zs_o _ _ (by omega)]
  · rw [k1 q (by omega)]; exact hS1.n.1
  · rw [k1 (q + 6) (by omega)]; exact hS1.n.2 s hs
/-- what a search has found -/
def zFnd (q : Nat) (I : zMI) (E : Nat → Nat → Prop) (nx : Nat → Nat → Nat) (G : Nat → Prop) (m s : Nat) : Prop := (I q 2 = -1 ∧ ∀ k, ¬ zRk E nx G m k s) ∨ ∃ d st p, d ≤ 255 ∧ zDi E nx G m d s ∧ zGs E nx G m d st p ∧ st 0 = s ∧ I q 2 = nI d ∧ ∀ t, t < d → I (q + 5) t = nI (p t)
theorem zFnd_end {q : Nat} {I1 : zMI} {E : Nat → Nat → Prop} {nx : Nat → Nat → Nat} {G : Nat → Prop} {m s : Nat} {Q fr bY dp : Nat → Nat} {z hd : Nat} (B : zBf E nx m s Q fr bY dp z hd 0) (hz : hd < z) (hn : ∀ j, j < hd → ¬ G (Q j)) (hg : G (Q hd)) (h2 : I1 q 2 = nI (dp hd)) (hp : ∀ t, t < dp hd → I1 (q + 5) t = nI (bY (zan fr hd (dp hd - (t + 1))))) : zFnd q I1 E nx G m s := by
  obtain ⟨a1, a2, a3⟩ := zan_way B hz
  obtain ⟨h1, h3⟩ := zBf_way B hz hn hg (an := fun t => zan fr hd (dp hd - t)) a1 a2 a3
  have a0 := (zdp0 B hz).2
  have b0 := B.1.2.1
  refine Or.inr ⟨dp hd, _, _, by omega, h1, h3, ?_, h2, hp⟩
  show Q (zan fr hd (dp hd - 0)) = s
  rw [a2]; exact B.1.2.2.1
theorem lp3_seek {w v0 e1 e2 : Nat} {h : Int64} {J : zMI} {q : Nat} (hq : zQ q) (hw : zW w) (W : zWF J) {S yes no : Int32} {s c : Nat} {G : Nat → Prop} {I0 : zMI} (hc : c < 2 ^ 31) (hWl : zWl w I0 J) (hG : ∀ t, t < 256 → ((nI t &&& yes = yes ∧ nI t &&& no = 0) ↔ G t)) : ∀ d hd Q fr bY dp z I, 256 - hd < d → hd ≤ z → zBf (zEa J S) (zNx J) (jm J) s Q fr bY dp z hd 0 → zSm q I Q fr bY dp z c → zFq q I0 I → I q 2 = -1 → (∀ j, j < hd → ¬ G (Q j)) → zGo m3_seek 8 [.ref q, .ref w, .int S, .int (nI s), .int yes, .int no, .int (nI hd)] [] zX (zRR w v0 e1 e2) h I (fun v X1 R1 h1 I1 => X1 = zX ∧ (fun v R1 h1 I1 => v = none ∧ R1 = zRR w v0 e1 e2 ∧ h1 = h ∧ zFnd q I1 (zEa J S) (zNx J) G (jm J) s ∧ zFq q I0 I1 ∧ zSn q I1 c) v R1 h1 I1) := by
  intro d
  induction d with
  | zero => intro hd Q fr bY dp z I hd0; exact absurd hd0 (Nat.not_lt_zero _)
  | succ d ih =>
    intro hd Q fr bY dp z I hd0 hd1 hB hS hF h2 hn
    have hzz := hB.1.2.1
    refine g_il6 r3_seek_8 ?_
    refine g_k r3_seek_10 ?_
    refine g_eqv (y := nI 256) rfl ?_
    refine g_icgeN r3_seek_13 (by omega) (by omega) (fun h13 => ?_) (fun h13 => ?_)
    · have hz256 := hB.1.2.1
      exact g_vret r3_seek_63 rfl ⟨rfl, rfl, rfl, rfl, Or.inl ⟨h2, zBf_no (by rw [show hd = z by omega] at hB; exact hB) (fun j hj => hn j (by omega))⟩, hF, hS.n⟩
    · refine g_il6 r3_seek_16 ?_
      refine g_al0 r3_seek_18 ?_
      refine g_gfi r3_seek_19 (xq hq) rfl ?_
      refine g_eqv (y := nI z) hS.1 ?_
      refine g_icgeN r3_seek_22 (by omega) (by omega) (fun h22 => ?_) (fun h22 => ?_)
      · have hz256 := hB.1.2.1
        exact g_vret r3_seek_63 rfl ⟨rfl, rfl, rfl, rfl, Or.inl ⟨h2, zBf_no (by rw [show hd = z by omega] at hB; exact hB) (fun j hj => hn j (by omega))⟩, hF, hS.n⟩
      · refine g_al0 r3_seek_25 ?_
        refine g_gfr r3_seek_26 (xq hq) rfl (rq_0 hq) ?_
        refine g_il6 r3_seek_29 ?_
        have hz256 := hB.1.2.1
        refine g_ialdN r3_seek_31 (xqa_0 hq) (by omega) (by decide) ?_
        refine g_eqv (y := nI (Q hd)) (hS.2.1 hd h22).1 ?_
        have hgi := hG (Q hd) (hB.2.1 hd h22)
        refine g_il4 r3_seek_32 ?_
        refine g_il5 r3_seek_34 ?_
        refine g_eS3 r3_seek_36 ok6_holds pl3_seek pl6_holds (Nat.le_of_ble_eq_true rfl) (ev6_holds) ?_
        refine g_ifeqB r3_seek_39 (fun h39 => ?_) (fun h39 => ?_)
        · refine g_al0 r3_seek_49 ?_
          refine g_al1 r3_seek_50 ?_
          refine g_il2 r3_seek_51 ?_
          refine g_il6 r3_seek_52 ?_
          refine g_cV3 r3_seek_54 ok3_spread pl3_seek pl3_spread (xq hq) (Nat.le_of_ble_eq_true rfl) (ev3_spread hq hw W hc (zWl_fq hq hw hF hWl) hB hS h22) (fun v' R' h' I1 ⟨q1, q2, q3, Q1, fr1, bY1, dp1, z1, hB1, hS1, hF1, h21, hz1, hK1⟩ => ?_)
          subst q1; subst q2; subst q3
          refine g_iiN6 r3_seek_57 rfl ?_
          refine g_goto r3_seek_60 ?_
          refine ih (hd + 1) Q1 fr1 bY1 dp1 z1 I1 (by omega) (by omega) hB1 hS1 (hF.trans hF1) (h21.trans h2) (fun j hj => ?_)
          rw [hK1 j (by omega)]
          by_cases e : j = hd
          · rw [e]; exact fun q => h39 (hgi.mpr q)
          · exact hn j (by omega)
        · refine g_al0 r3_seek_42 ?_
          refine g_il6 r3_seek_43 ?_
          refine g_cV1 r3_seek_45 ok3_end pl3_seek pl3_end (xq hq) (Nat.le_of_ble_eq_true rfl) (ev3_end hq hB hS h22) (fun v' R' h' I1 ⟨q1, q2, q3, h21, hp1, hF1, hn1⟩ => ?_)
          subst q1; subst q2; subst q3
          exact g_vret r3_seek_48 rfl ⟨rfl, ⟨rfl, rfl, rfl, zFnd_end hB h22 hn (hgi.mp h39) h21 hp1, hF.trans hF1, hn1⟩⟩
theorem ev3_seek {w v0 e1 e2 : Nat} {h : Int64} {J I : zMI} {q : Nat} (hq : zQ q) (hw : zW w) (W : zWF J) {S yes no : Int32} {s c : Nat} {G : Nat → Prop} (hc : c + 1 < 2 ^ 31) (hWl : zWl w I J) (hs : s < 256) (hn : zSn q I c) (hG : ∀ t, t < 256 → ((nI t &&& yes = yes ∧ nI t &&& no = 0) ↔ G t)) : zEp m3_seek (zRR w v0 e1 e2) h I [.ref q, .ref w, .int S, .int (nI s), .int yes, .int no] (fun v R1 h1 I1 => v = none ∧ R1 = zRR w v0 e1 e2 ∧ h1 = h ∧ zFnd q I1 (zEa J S) (zNx J) G (jm J) s ∧ zFq q I I1 ∧ zSn q I1 (c + 1)) := by
  refine zEp_of [.ref q, .ref w, .int S, .int (nI s), .int yes, .int no, .null] pl3_seek (by decide +kernel) (fun _ _ => rfl) (fun _ _ => Nat.le_of_ble_eq_true rfl) ?_
  refine g_al0 r3_seek_0 ?_
  refine g_il3 r3_seek_1 ?_
  refine g_cV1 r3_seek_2 ok3_begin pl3_seek pl3_begin (xq hq) (Nat.le_of_ble_eq_true rfl) (ev3_begin hq hs (by omega) hn) (fun v' R' h' I1 ⟨q1, q2, q3, hS1, h21, hF1⟩ => ?_)
  subst q1; subst q2; subst q3
  refine g_k r3_seek_5 ?_
  refine g_is6 r3_seek_6 rfl ?_
  refine g_post (lp3_seek hq hw W hc (zWl_fq hq hw hF1 hWl) hG 257 0 _ _ _ _ 1 I1 (by omega) (by omega) (zBf_0 hs rfl rfl) hS1 (zFq.refl q I1) h21 (fun j hj => absurd hj (Nat.not_lt_zero j))) (fun v X1 R1 h1 I2 hp => ?_)
  obtain ⟨a0, a1, a2, a3, a4, a5, a6⟩ := hp
  exact ⟨a0, a1, a2, a3, a4, hF1.trans a5, a6⟩
section FND
variable {q : Nat} {I : zMI} {E : Nat → Nat → Prop} {nx : Nat → Nat → Nat} {G : Nat → Prop} {m s : Nat}
theorem zFnd_m (h : zFnd q I E nx G m s) : I q 2 = zlm E nx G m s := by
  rcases h with ⟨h1, h2⟩ | ⟨d, st, p, h1, h2, h3, h4, h5, h6⟩
  · rw [h1]; exact zlm_eq (Or.inl ⟨h2, rfl⟩)
  · rw [h5]; exact zlm_eq (Or.inr ⟨d, h1, h2, rfl⟩)
theorem zFnd_a (h : zFnd q I E nx G m s) {j d : Nat} (hl : I q 2 = nI d) (hd : d ≤ 255) (hj : j < d) : I (q + 5) j = zld E nx G m s (nI j) := by
  rcases h with ⟨h1, h2⟩ | ⟨d', st, p, h1, h2, h3, h4, h5, h6⟩
  · rw [h1] at hl; exact absurd hl.symm (znI_m1 (by omega))
  · obtain rfl : d' = d := by rw [h5] at hl; exact (nI_eq (by omega) (by omega)).mp hl
    rw [h6 j hj]
    exact zld_eq (Or.inr ⟨d', st, p, h1, h2, h3, h4, Or.inl ⟨j, hj, rfl, rfl⟩⟩)
theorem zFnd_n (h : zFnd q I E nx G m s) {x : Int32} (hx : ∀ j d, d ≤ 255 → I q 2 = nI d → j < d → x ≠ nI j) : zld E nx G m s x = -1 := by
  rcases h with ⟨h1, h2⟩ | ⟨d, st, p, h1, h2, h3, h4, h5, h6⟩
  · exact (zld_eq (Or.inl ⟨h2, rfl⟩)).symm
  · exact (zld_eq (Or.inr ⟨d, st, p, h1, h2, h3, h4, Or.inr ⟨fun j hj => hx j d h1 h5 hj, rfl⟩⟩)).symm
theorem zFnd_c (h : zFnd q I E nx G m s) : I q 2 = -1 ∨ ∃ d, d ≤ 255 ∧ I q 2 = nI d := h.imp (fun q => q.1) (fun ⟨d, _, _, h1, _, _, _, h5, _⟩ => ⟨d, h1, h5⟩)
theorem zFnd_y (h : zFnd q I E nx G m s) {j d : Nat} (hl : I q 2 = nI d) (hd : d ≤ 255) (hj : j < d) (hm : m ≤ 10) : ¬ zld E nx G m s (nI j) = -1 := by
  rcases h with ⟨h1, h2⟩ | ⟨d', st, p, h1, h2, h3, h4, h5, h6⟩
  · rw [h1] at hl; exact absurd hl.symm (znI_m1 (by omega))
  · obtain rfl : d' = d := by rw [h5] at hl; exact (nI_eq (by omega) (by omega)).mp hl
    rw [← zld_eq (Or.inr ⟨d', st, p, h1, h2, h3, h4, Or.inl ⟨j, hj, rfl, rfl⟩⟩)]
    exact znI_m1 (by have := (h3 j hj).1; omega)
end FND
theorem ev3_firstAct {w v0 e1 e2 : Nat} {h : Int64} {I : zMI} {q : Nat} (hq : zQ q) {E : Nat → Nat → Prop} {nx : Nat → Nat → Nat} {G : Nat → Prop} {m s : Nat} (hf : zFnd q I E nx G m s) : zEr m3_firstAct (zRR w v0 e1 e2) h I [.ref q] (some (.int (zld E nx G m s 0))) (zRR w v0 e1 e2) h I := by
  refine zEp_of [.ref q] pl3_firstAct (by decide +kernel) (fun _ _ => rfl) (fun _ _ => Nat.le_of_ble_eq_true rfl) ?_
  refine g_al0 r3_firstAct_0 ?_
  refine g_gfi r3_firstAct_1 (xq hq) rfl ?_
  refine g_k r3_firstAct_4 ?_
  refine g_iclt r3_firstAct_5 (fun h5 => ?_) (fun h5 => ?_)
  · refine g_k r3_firstAct_17 ?_
    exact g_iret r3_firstAct_18 rfl ⟨rfl, ⟨zrt (zFnd_n hf (fun j d h1 h2 h3 q => by rw [h2] at h5; have := (nI_ltI (b := 1) (by omega) (by omega)).mp h5; omega)).symm, rfl, rfl, rfl⟩⟩
  · obtain ⟨d, hd, e⟩ := (zFnd_c hf).resolve_left (fun q => h5 (by rw [q]; decide))
    have hd0 : 0 < d := by rw [e] at h5; exact Nat.pos_of_ne_zero (fun q => h5 (by rw [q]; decide))
    refine g_al0 r3_firstAct_8 ?_
    refine g_gfr r3_firstAct_9 (xq hq) rfl (rq_6 hq) ?_
    refine g_k r3_firstAct_12 ?_
    refine g_eqv (y := nI 0) rfl ?_
    refine g_ialdN r3_firstAct_13 (xqa_6 hq) (by omega) (by decide) ?_
    refine g_goto r3_firstAct_14 ?_
    exact g_iret r3_firstAct_18 rfl ⟨rfl, ⟨zrt (zFnd_a hf e hd hd0), rfl, rfl, rfl⟩⟩
def zAt (r : Int32) : Int32 := if r = -1 then -101 else r
theorem ev3_actAt {w v0 e1 e2 : Nat} {h : Int64} {I : zMI} {q : Nat} (hq : zQ q) {E : Nat → Nat → Prop} {nx : Nat → Nat → Nat} {G : Nat → Prop} {m s : Nat} (hf : zFnd q I E nx G m s) {x : Int32} (hm : m ≤ 10) : zEr m3_actAt (zRR w v0 e1 e2) h I [.ref q, .int x] (some (.int (zAt (zld E nx G m s x)))) (zRR w v0 e1 e2) h I := by
  refine zEp_of [.ref q, .int x] pl3_actAt (by decide +kernel) (fun _ _ => rfl) (fun _ _ => Nat.le_of_ble_eq_true rfl) ?_
  refine g_il1 r3_actAt_0 ?_
  refine g_iflt r3_actAt_1 (fun h1 => ?_) (fun h1 => ?_)
  · refine g_k r3_actAt_28 ?_
    exact g_iret r3_actAt_30 rfl ⟨rfl, ⟨zrt (by unfold zAt; rw [zFnd_n hf (fun j d g1 g2 g3 q => absurd h1 (by rw [q]; exact nI_pos (by omega)))]; rfl), rfl, rfl, rfl⟩⟩
  · obtain ⟨j, hj, rfl⟩ := nI_of h1
    refine g_il1 r3_actAt_4 ?_
    refine g_al0 r3_actAt_5 ?_
    refine g_gfi r3_actAt_6 (xq hq) rfl ?_
    refine g_icgeL r3_actAt_9 (fun h9 => ?_) (fun h9 => ?_)
    · refine g_k r3_actAt_28 ?_
      exact g_iret r3_actAt_30 rfl ⟨rfl, ⟨zrt (by unfold zAt; rw [zFnd_n hf (fun j d g1 g2 g3 q => h9 (by rw [g2, q]; exact nI_lt g3 (by omega)))]; rfl), rfl, rfl, rfl⟩⟩
    · obtain ⟨d, hd, e⟩ := (zFnd_c hf).resolve_left (fun q => by rw [q] at h9; exact absurd h9 (Int32.not_lt.mpr (Int32.le_trans (by decide) (nI_pos' hj))))
      have hjd : j < d := by rw [e] at h9; exact (nI_ltI hj (by omega)).mp h9
      refine g_il1 r3_actAt_12 ?_
      refine g_k r3_actAt_13 ?_
      refine g_eqv (y := nI 256) rfl ?_
      refine g_icgeN r3_actAt_16 (by omega) (by omega) (fun hc => absurd hc (by omega)) (fun h16 => ?_)
      refine g_al0 r3_actAt_19 ?_
      refine g_gfr r3_actAt_20 (xq hq) rfl (rq_6 hq) ?_
      refine g_il1 r3_actAt_23 ?_
      refine g_ialdN r3_actAt_24 (xqa_6 hq) (by omega) (by decide) ?_
      refine g_goto r3_actAt_25 ?_
      exact g_iret r3_actAt_30 rfl ⟨rfl, ⟨zrt (by unfold zAt; rw [if_neg (zFnd_y hf e hd hjd hm)]; exact zFnd_a hf e hd hjd), rfl, rfl, rfl⟩⟩
