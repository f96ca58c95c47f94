theorem zhc {s x y : Int32} : (s &&& x = x ∧ s &&& y = 0) ↔ (x &&& (s ^^^ (-1)) = 0 ∧ y &&& s = 0) := by
  have h2 : s &&& y = 0 ↔ y &&& s = 0 := by rw [Int32.and_comm]
  rw [h2]
  refine and_congr_left (fun _ => ⟨fun h => ?_, fun h => ?_⟩)
  · rw [zBt_and0]
    rintro i hi ⟨a, b⟩
    have e := zBt_and s x i
    rw [h, a] at e
    rw [zBt_not _ hi] at b
    rw [Bool.and_true] at e
    rw [← e] at b
    exact absurd b (by decide)
  · rw [zBt_and0] at h
    apply zBt_ext
    intro i hi
    rw [zBt_and]
    have := h i hi
    rw [zBt_not _ hi] at this
    cases a : zBt s i <;> cases b : zBt x i <;> simp_all
theorem zchg {s g k : Int32} (hs : z8 s) (hg : z8 g) (hgk : g &&& k = 0) : ((s ||| g) &&& (k ^^^ (-1))) &&& 255 = (s &&& (k ^^^ (-1))) ||| g := by
  apply zBt_ext
  intro i hi
  have h := (zBt_and0.mp hgk) i hi
  simp only [zBt_and, zBt_or, zBt_not _ hi, zBt_255 i hi]
  by_cases q : i < 8
  · cases a : zBt s i <;> cases b : zBt g i <;> cases c : zBt k i <;> simp_all
  · have a := z8_bt hs i (by omega)
    have b := z8_bt hg i (by omega)
    simp [a, b, q]
/-- world w of the class is the model's world -/
def zWl (w : Nat) (I J : zMI) : Prop := (I w 9 = J 54 0 ∧ I w 10 = J 54 5) ∧ (∀ k, k < jn J → I (w + 1) k = J 55 k ∧ I (w + 2) k = J 56 k ∧ I (w + 3) k = zWt (J 57 k) (J 56 k) ∧ I (w + 4) k = zWf (J 57 k) (J 56 k)) ∧ (∀ k, k < jm J → I (w + 5) k = J 58 k ∧ I (w + 6) k = J 59 k ∧ I (w + 7) k = J 60 k ∧ I (w + 8) k = J 61 k ∧ I (w + 9) k = J 62 k)
def zFq (q : Nat) (I I1 : zMI) : Prop := ∀ k, k < q ∨ q + 6 < k → I1 k = I k
theorem zFq.refl (q : Nat) (I : zMI) : zFq q I I := fun _ _ => rfl
theorem zFq.trans {q : Nat} {I I1 I2 : zMI} (h : zFq q I I1) (h' : zFq q I1 I2) : zFq q I I2 := fun k hk => (h' k hk).trans (h k hk)
theorem zFq_row (q : Nat) (I : zMI) (k : Nat) (F : Nat → Int32) (hk : q ≤ k) (hk' : k ≤ q + 6) : zFq q I (zs I k F) := fun j hj => zs_o I F (by omega)
theorem zWl_fq {q w : Nat} (hq : zQ q) (hw : zW w) {I I1 J : zMI} (hf : zFq q I I1) (h : zWl w I J) : zWl w I1 J := by
  have e : ∀ c, c ≤ 9 → I1 (w + c) = I (w + c) := fun c hc => hf (w + c) (by rcases hq with rfl | rfl <;> rcases hw with rfl | rfl <;> omega)
  unfold zWl
  simp only [show I1 w = I w from e 0 (by omega), e 1 (by omega), e 2 (by omega), e 3 (by omega), e 4 (by omega), e 5 (by omega), e 6 (by omega), e 7 (by omega), e 8 (by omega), e 9 (by omega)]
  exact h
/-- the cells of a search -/
def zSm (q : Nat) (I : zMI) (Q fr bY dp : Nat → Nat) (z c : Nat) : Prop := I q 1 = nI z ∧ (∀ i, i < z → I (q + 1) i = nI (Q i) ∧ I (q + 4) i = nI (dp i) ∧ (0 < i → I (q + 2) i = nI (fr i) ∧ I (q + 3) i = nI (bY i))) ∧ I q 8 = nI c ∧ ∀ s, s < 256 → ∃ r, r ≤ c ∧ I (q + 6) s = nI r ∧ (r = c ↔ ∃ i, i < z ∧ Q i = s)
/-- the numbers of a search -/
def zSn (q : Nat) (I : zMI) (c : Nat) : Prop := I q 8 = nI c ∧ ∀ s, s < 256 → ∃ r, r ≤ c ∧ I (q + 6) s = nI r
theorem zSm.n {q : Nat} {I : zMI} {Q fr bY dp : Nat → Nat} {z c : Nat} (h : zSm q I Q fr bY dp z c) : zSn q I c := ⟨h.2.2.1, fun s hs => by obtain ⟨r, h1, h2, -⟩ := h.2.2.2 s hs; exact ⟨r, h1, h2⟩⟩
theorem ev3_begin {w v0 e1 e2 : Nat} {h : Int64} {I : zMI} {q s c : Nat} (hq : zQ q) (hs : s < 256) (hc : c < 2 ^ 31) (hn : zSn q I c) : zEp m3_begin (zRR w v0 e1 e2) h I [.ref q, .int (nI s)] (fun v R1 h1 I1 => v = none ∧ R1 = zRR w v0 e1 e2 ∧ h1 = h ∧ zSm q I1 (fun _ => s) (fun _ => 0) (fun _ => 0) (fun _ => 0) 1 (c + 1) ∧ I1 q 2 = -1 ∧ zFq q I I1) := by
  refine zEp_of [.ref q, .int (nI s), .null] pl3_begin (by decide +kernel) (fun _ _ => rfl) (fun _ _ => Nat.le_of_ble_eq_true rfl) ?_
  refine g_il1 r3_begin_0 ?_
  refine g_k r3_begin_1 ?_
  refine g_iand r3_begin_4 ?_
  refine g_eqv (y := nI s) (by have := pk_andN (n := s) (by omega) (m := 255) 8 (by decide); rw [this]; congr 1; omega) ?_
  refine g_is2 r3_begin_5 rfl ?_
  refine g_al0 r3_begin_6 ?_
  refine g_dup r3_begin_7 rfl ?_
  refine g_gfi r3_begin_8 (xq hq) rfl ?_
  refine g_k r3_begin_11 ?_
  refine g_iadd r3_begin_12 ?_
  refine g_pfi r3_begin_13 (xq hq) rfl rfl ?_
  refine g_al0 r3_begin_16 ?_
  refine g_k r3_begin_17 ?_
  refine g_pfi r3_begin_18 (xq hq) rfl rfl ?_
  refine g_al0 r3_begin_21 ?_
  refine g_gfr r3_begin_22 (xq hq) rfl (rq_7 hq) ?_
  refine g_il2 r3_begin_25 ?_
  refine g_al0 r3_begin_26 ?_
  refine g_gfi r3_begin_27 (xq hq) rfl ?_
  refine g_iastN r3_begin_30 (xqa_7 hq) hs (by decide) ?_
  refine g_al0 r3_begin_31 ?_
  refine g_gfr r3_begin_32 (xq hq) rfl (rq_0 hq) ?_
  refine g_k r3_begin_35 ?_
  refine g_eqv (y := nI 0) rfl ?_
  refine g_il2 r3_begin_36 ?_
  refine g_iastN r3_begin_37 (xqa_0 hq) (by omega) (by decide) ?_
  refine g_al0 r3_begin_38 ?_
  refine g_gfr r3_begin_39 (xq hq) rfl (rq_5 hq) ?_
  refine g_k r3_begin_42 ?_
  refine g_eqv (y := nI 0) rfl ?_
  refine g_k r3_begin_43 ?_
  refine g_iastN r3_begin_44 (xqa_5 hq) (by omega) (by decide) ?_
  refine g_al0 r3_begin_45 ?_
  refine g_k r3_begin_46 ?_
  refine g_pfi r3_begin_47 (xq hq) rfl rfl ?_
  refine g_vret r3_begin_50 rfl ⟨rfl, ⟨rfl, rfl, rfl, ⟨by simp [zs_ap, upd_ap]; rfl, fun i hi => ?_, by simp [zs_ap, upd_ap, hn.1, nI_1], fun t ht => ?_⟩, by simp [zs_ap, upd_ap], fun k hk => ?_⟩⟩
  · obtain rfl : i = 0 := by omega
    refine ⟨by simp [zs_ap, upd_ap], by simp [zs_ap, upd_ap]; rfl, fun q => by omega⟩
  · obtain ⟨r, h1, h2⟩ := hn.2 t ht
    by_cases e : t = s
    · subst e
      exact ⟨c + 1, by omega, by simp [zs_ap, upd_ap, hn.1, nI_1], by simp⟩
    · refine ⟨r, by omega, by simp [zs_ap, upd_ap, e, h2], ⟨fun q => by omega, fun ⟨i, _, q⟩ => absurd q.symm e⟩⟩
  · simp [zs_ap, show ¬ k = q by omega, show ¬ k = q + 1 by omega, show ¬ k = q + 4 by omega, show ¬ k = q + 6 by omega]
theorem zcn {S : Int32} {a : Nat} (ha : a < 32) : (¬ (S >>> (nI a &&& 31)) &&& 1 = 0) ↔ S >>> (nI a &&& 31) &&& 1 = 1 := (zBt_ne ha).trans (zBt_1i ha).symm
theorem zbh {J : zMI} (W : zWF J) {a s : Nat} (ha : a < jm J) (hs : s < 256) : ((nI s ||| J 61 a) &&& (J 62 a ^^^ (-1))) &&& 255 = nI (zNx J a s) := (zchg (zn8 hs) (W.A a ha).1.2.2.1 (W.A a ha).2.1).trans (zNx_spec W.A8 ha hs).1
theorem zrch {r c : Nat} (h : r ≤ c) (hc : c < 2 ^ 31) : nI r = nI c ↔ r = c := nI_eq (by omega) hc
/-- a new state goes to the queue -/
theorem zSm_new {q : Nat} {I : zMI} {Q fr bY dp : Nat → Nat} {z c hd a t : Nat} (hz : z < 256) (h : zSm q I Q fr bY dp z c) (I1 : zMI)
    (e0 : ∀ j, ¬ j = 1 → I1 q j = I q j) (e1 : I1 q 1 = nI (z + 1)) (e2 : I1 (q + 1) = upd (I (q + 1)) z (nI t)) (e3 : I1 (q + 2) = upd (I (q + 2)) z (nI hd)) (e4 : I1 (q + 3) = upd (I (q + 3)) z (nI a)) (e5 : I1 (q + 4) = upd (I (q + 4)) z (nI (dp hd + 1))) (e6 : I1 (q + 6) = upd (I (q + 6)) t (nI c)) :
    zSm q I1 (fun i => if i = z then t else Q i) (fun i => if i = z then hd else fr i) (fun i => if i = z then a else bY i) (fun i => if i = z then dp hd + 1 else dp i) (z + 1) c := by
  obtain ⟨h1, h2, h3, h4⟩ := h
  refine ⟨e1, fun i hi => ?_, by rw [e0 8 (by decide)]; exact h3, fun s hs => ?_⟩
  · rw [e2, e3, e4, e5]
    simp only [upd_ap]
    by_cases e : i = z
    · simp only [if_pos e]; exact ⟨trivial, trivial, fun _ => ⟨trivial, trivial⟩⟩
    · simp only [if_neg e]; exact h2 i (by omega)
  · obtain ⟨r, g1, g2, g3⟩ := h4 s hs
    rw [e6]
    simp only [upd_ap]
    by_cases e : s = t
    · refine ⟨c, Nat.le_refl c, by rw [if_pos e], fun _ => ⟨z, by omega, by simp only [if_true]; exact e.symm⟩, fun _ => rfl⟩
    · refine ⟨r, g1, by rw [if_neg e]; exact g2, g3.trans ⟨fun ⟨i, i1, i2⟩ => ⟨i, by omega, by rw [if_neg (by omega)]; exact i2⟩, fun ⟨i, i1, i2⟩ => ?_⟩⟩
      by_cases e' : i = z
      · rw [if_pos e'] at i2; exact absurd i2.symm e
      · rw [if_neg e'] at i2; exact ⟨i, by omega, i2⟩
theorem lp3_spread {w v0 e1 e2 : Nat} {h : Int64} {P : zPost} {J : zMI} {q : Nat} (hq : zQ q) (hw : zW w) (W : zWF J) {S x2 : Int32} {s0 hd sH c : Nat} {I0 : zMI} (hc : c < 2 ^ 31) (hm10 : jm J ≤ 10) (hs8 : sH < 256) (hh : hd < 256) (hend : ∀ Q fr bY dp z I (y y6 : Value), zBf (zEa J S) (zNx J) (jm J) s0 Q fr bY dp z hd (jm J) → zSm q I Q fr bY dp z c → zFq q I0 I → I q 2 = x2 → zGo m3_spread 184 [.ref q, .ref w, .int S, .int (nI hd), .int (nI sH), y, y6] [] zX (zRR w v0 e1 e2) h I P) : ∀ d a Q fr bY dp z I (y6 : Value), jm J - a < d → a ≤ jm J → zWl w I J → zBf (zEa J S) (zNx J) (jm J) s0 Q fr bY dp z hd a → zSm q I Q fr bY dp z c → zFq q I0 I → I q 2 = x2 → Q hd = sH → hd < z → zGo m3_spread 23 [.ref q, .ref w, .int S, .int (nI hd), .int (nI sH), .int (nI a), y6] [] zX (zRR w v0 e1 e2) h I P := by
  intro d
  induction d with
  | zero => intro a Q fr bY dp z I y6 hd0; exact absurd hd0 (Nat.not_lt_zero _)
  | succ d ih =>
    intro a Q fr bY dp z I y6 hd0 hd1 hWl hB hS hF h2 hQ hz
    refine g_il5 r3_spread_23 ?_
    refine g_al1 r3_spread_25 ?_
    refine g_gfi r3_spread_26 (xw hw) rfl ?_
    refine g_eqv (y := nI (jm J)) (hWl.1.2.trans W.m) ?_
    refine g_icgeN r3_spread_29 (by omega) (by omega) (fun h29 => ?_) (fun h29 => ?_)
    · exact hend Q fr bY dp z I _ _ (by rw [show a = jm J by omega] at hB; exact hB) hS hF h2
    · refine g_il2 r3_spread_32 ?_
      refine g_il5 r3_spread_33 ?_
      refine g_eS2 r3_spread_35 ok6_contains pl3_spread pl6_contains (Nat.le_of_ble_eq_true rfl) (ev6_contains) ?_
      refine g_ifeqB r3_spread_38 (fun h38 => ?_) (fun h38 => ?_)
      · refine g_iiN5 r3_spread_178 rfl ?_
        refine g_goto r3_spread_181 ?_
        refine ih (a + 1) Q fr bY dp z I _ (by omega) (by omega) hWl (zBf_skip hB (fun q => absurd ((zcn (by omega)).mpr q.1) h38)) hS hF h2 hQ hz
      · refine g_il4 r3_spread_41 ?_
        refine g_al1 r3_spread_43 ?_
        refine g_gfr r3_spread_44 (xw hw) rfl (rw_5 hw) ?_
        refine g_il5 r3_spread_47 ?_
        refine g_ialdN r3_spread_49 (xwa_5 hw) (by omega) (by decide) ?_
        refine g_eqv (y := J 59 a) (hWl.2.2 a (by omega)).2.1 ?_
        refine g_al1 r3_spread_50 ?_
        refine g_gfr r3_spread_51 (xw hw) rfl (rw_6 hw) ?_
        refine g_il5 r3_spread_54 ?_
        refine g_ialdN r3_spread_56 (xwa_6 hw) (by omega) (by decide) ?_
        refine g_eqv (y := J 60 a) (hWl.2.2 a (by omega)).2.2.1 ?_
        refine g_eS3 r3_spread_57 ok6_holds pl3_spread pl6_holds (Nat.le_of_ble_eq_true rfl) (ev6_holds) ?_
        refine g_ifeqB r3_spread_60 (fun h60 => ?_) (fun h60 => ?_)
        · refine g_iiN5 r3_spread_178 rfl ?_
          refine g_goto r3_spread_181 ?_
          refine ih (a + 1) Q fr bY dp z I _ (by omega) (by omega) hWl (zBf_skip hB (fun q => absurd (zhc.mpr (by rw [hQ] at q; exact q.2)) h60)) hS hF h2 hQ hz
        · refine g_il4 r3_spread_63 ?_
          refine g_al1 r3_spread_65 ?_
          refine g_gfr r3_spread_66 (xw hw) rfl (rw_7 hw) ?_
          refine g_il5 r3_spread_69 ?_
          refine g_ialdN r3_spread_71 (xwa_7 hw) (by omega) (by decide) ?_
          refine g_eqv (y := J 61 a) (hWl.2.2 a (by omega)).2.2.2.1 ?_
          refine g_al1 r3_spread_72 ?_
          refine g_gfr r3_spread_73 (xw hw) rfl (rw_8 hw) ?_
          refine g_il5 r3_spread_76 ?_
          refine g_ialdN r3_spread_78 (xwa_8 hw) (by omega) (by decide) ?_
          refine g_eqv (y := J 62 a) (hWl.2.2 a (by omega)).2.2.2.2 ?_
          refine g_eS3 r3_spread_79 ok6_changed pl3_spread pl6_changed (Nat.le_of_ble_eq_true rfl) (ev6_changed) ?_
          refine g_eqv (y := nI (zNx J a sH)) (zbh W (by omega) hs8) ?_
          have hE : zEa J S a (Q hd) := by rw [hQ]; exact ⟨(zcn (by omega)).mp h38, zhc.mp h60⟩
          have hN8 : zNx J a sH < 256 := W.N a sH (by omega) hs8
          obtain ⟨r, r1, r2, r3⟩ := hS.2.2.2 (zNx J a sH) hN8
          refine g_is6 r3_spread_82 rfl ?_
          refine g_al0 r3_spread_84 ?_
          refine g_gfr r3_spread_85 (xq hq) rfl (rq_7 hq) ?_
          refine g_il6 r3_spread_88 ?_
          refine g_ialdN r3_spread_90 (xqa_7 hq) hN8 (by decide) ?_
          refine g_eqv (y := nI r) r2 ?_
          refine g_al0 r3_spread_91 ?_
          refine g_gfi r3_spread_92 (xq hq) rfl ?_
          refine g_eqv (y := nI c) hS.2.2.1 ?_
          refine g_iceq r3_spread_95 (fun h95 => ?_) (fun h95 => ?_)
          · refine g_iiN5 r3_spread_178 rfl ?_
            refine g_goto r3_spread_181 ?_
            refine ih (a + 1) Q fr bY dp z I _ (by omega) (by omega) hWl (zBf_skip hB (fun _ => by rw [hQ]; exact r3.mp ((zrch r1 hc).mp h95))) hS hF h2 hQ hz
          · have hnew : ∀ i, i < z → Q i ≠ zNx J a (Q hd) := fun i hi e => h95 ((zrch r1 hc).mpr (r3.mpr ⟨i, hi, by rw [e, hQ]⟩))
            obtain ⟨hz256, hB1⟩ := zBf_new hB hz (by omega) hE (by rw [hQ]; exact hN8) hnew
            refine g_al0 r3_spread_98 ?_
            refine g_gfi r3_spread_99 (xq hq) rfl ?_
            refine g_eqv (y := nI z) hS.1 ?_
            refine g_k r3_spread_102 ?_
            refine g_eqv (y := nI 256) rfl ?_
            refine g_icgeN r3_spread_105 (by omega) (by omega) (fun hc => absurd hc (by omega)) (fun h105 => ?_)
            refine g_al0 r3_spread_108 ?_
            refine g_gfr r3_spread_109 (xq hq) rfl (rq_7 hq) ?_
            refine g_il6 r3_spread_112 ?_
            refine g_al0 r3_spread_114 ?_
            refine g_gfi r3_spread_115 (xq hq) rfl ?_
            refine g_eqv (y := nI c) hS.2.2.1 ?_
            refine g_iastN r3_spread_118 (xqa_7 hq) hN8 (by decide) ?_
            refine g_al0 r3_spread_119 ?_
            refine g_gfr r3_spread_120 (xq hq) rfl (rq_0 hq) ?_
            refine g_al0 r3_spread_123 ?_
            refine g_gfi r3_spread_124 (xq hq) rfl ?_
            refine g_eqv (y := nI z) (by simp [zs_ap, hS.1]) ?_
            refine g_il6 r3_spread_127 ?_
            refine g_iastN r3_spread_129 (xqa_0 hq) (by omega) (by decide) ?_
            refine g_al0 r3_spread_130 ?_
            refine g_gfr r3_spread_131 (xq hq) rfl (rq_3 hq) ?_
            refine g_al0 r3_spread_134 ?_
            refine g_gfi r3_spread_135 (xq hq) rfl ?_
            refine g_eqv (y := nI z) (by simp [zs_ap, hS.1]) ?_
            refine g_il3 r3_spread_138 ?_
            refine g_iastN r3_spread_139 (xqa_3 hq) (by omega) (by decide) ?_
            refine g_al0 r3_spread_140 ?_
            refine g_gfr r3_spread_141 (xq hq) rfl (rq_4 hq) ?_
            refine g_al0 r3_spread_144 ?_
            refine g_gfi r3_spread_145 (xq hq) rfl ?_
            refine g_eqv (y := nI z) (by simp [zs_ap, hS.1]) ?_
            refine g_il5 r3_spread_148 ?_
            refine g_iastN r3_spread_150 (xqa_4 hq) (by omega) (by decide) ?_
            refine g_al0 r3_spread_151 ?_
            refine g_gfr r3_spread_152 (xq hq) rfl (rq_5 hq) ?_
            refine g_al0 r3_spread_155 ?_
            refine g_gfi r3_spread_156 (xq hq) rfl ?_
            refine g_eqv (y := nI z) (by simp [zs_ap, hS.1]) ?_
            refine g_al0 r3_spread_159 ?_
            refine g_gfr r3_spread_160 (xq hq) rfl (rq_5 hq) ?_
            refine g_il3 r3_spread_163 ?_
            refine g_ialdN r3_spread_164 (xqa_5 hq) (by omega) (by decide) ?_
            refine g_eqv (y := nI (dp hd)) (by simp [zs_ap, (hS.2.1 hd hz).2.1]) ?_
            refine g_k r3_spread_165 ?_
            refine g_iadd r3_spread_166 ?_
            refine g_eqv (y := nI (dp hd + 1)) (nI_1 _) ?_
            refine g_iastN r3_spread_167 (xqa_5 hq) (by omega) (by decide) ?_
            refine g_al0 r3_spread_168 ?_
            refine g_dup r3_spread_169 rfl ?_
            refine g_gfi r3_spread_170 (xq hq) rfl ?_
            refine g_k r3_spread_173 ?_
            refine g_iadd r3_spread_174 ?_
            refine g_pfi r3_spread_175 (xq hq) rfl rfl ?_
            refine g_iiN5 r3_spread_178 rfl ?_
            refine g_goto r3_spread_181 ?_
            refine ih (a + 1) _ _ _ _ _ _ _ (by omega) (by omega) ?_ hB1 (zSm_new hz256 hS _ ?_ ?_ ?_ ?_ ?_ ?_ ?_) ?_ ?_ ?_ (by omega)
            · refine zWl_fq hq hw (I := I) (fun k hk => ?_) hWl
              simp [zs_ap, show ¬ k = q by omega, show ¬ k = q + 1 by omega, show ¬ k = q + 2 by omega, show ¬ k = q + 3 by omega, show ¬ k = q + 4 by omega, show ¬ k = q + 6 by omega]
            · intro j hj; simp [zs_ap, upd_ap, hj]
            · simp [zs_ap, upd_ap, hS.1, nI_1]
            · simp [zs_ap, hQ]
            · simp [zs_ap]
            · simp [zs_ap]
            · simp [zs_ap]
            · simp [zs_ap, hQ]
            · refine hF.trans (fun k hk => ?_)
              simp [zs_ap, show ¬ k = q by omega, show ¬ k = q + 1 by omega, show ¬ k = q + 2 by omega, show ¬ k = q + 3 by omega, show ¬ k = q + 4 by omega, show ¬ k = q + 6 by omega]
            · simp [zs_ap, upd_ap, h2]
            · simp only [if_neg (show ¬ hd = z by omega)]; exact hQ
