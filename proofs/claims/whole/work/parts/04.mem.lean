section GR
variable {M : zM} {pc nx tgt : Nat} {lv rest : List Value} {X : List zSh} {R : zMR} {h : Int64} {I : zMI} {P : zPost}
theorem g_ifeq {x : Int32} (hd : dJ M pc (.ifCond .eq) nx tgt) (kt : x = 0 → zGo M tgt lv rest X R h I P) (kf : ¬ x = 0 → zGo M nx lv rest X R h I P) : zGo M pc lv (.int x :: rest) X R h I P := by
  intro p l e Rm s m args below meth cd D cI cZ N b Q C K H locs ls hR hl
  obtain ⟨off, hd, ht, rfl⟩ := hd
  exact lv_if_eq C.1 C.2.1 hd ht (fun z => kt z p l e Rm s m args below meth cd D cI cZ N b Q C K H locs ls hR hl) (fun z => kf z p l e Rm s m args below meth cd D cI cZ N b Q C K H locs ls hR hl)
theorem g_iceq {x y : Int32} (hd : dJ M pc (.if_icmp .eq) nx tgt) (kt : x = y → zGo M tgt lv rest X R h I P) (kf : ¬ x = y → zGo M nx lv rest X R h I P) : zGo M pc lv (.int y :: .int x :: rest) X R h I P := by
  intro p l e Rm s m args below meth cd D cI cZ N b Q C K H locs ls hR hl
  obtain ⟨off, hd, ht, rfl⟩ := hd
  exact lv_icmp_eq C.1 C.2.1 hd ht (fun z => kt z p l e Rm s m args below meth cd D cI cZ N b Q C K H locs ls hR hl) (fun z => kf z p l e Rm s m args below meth cd D cI cZ N b Q C K H locs ls hR hl)
theorem g_ifne {x : Int32} (hd : dJ M pc (.ifCond .ne) nx tgt) (kt : ¬ x = 0 → zGo M tgt lv rest X R h I P) (kf : x = 0 → zGo M nx lv rest X R h I P) : zGo M pc lv (.int x :: rest) X R h I P := by
  intro p l e Rm s m args below meth cd D cI cZ N b Q C K H locs ls hR hl
  obtain ⟨off, hd, ht, rfl⟩ := hd
  exact lv_if_ne C.1 C.2.1 hd ht (fun z => kt z p l e Rm s m args below meth cd D cI cZ N b Q C K H locs ls hR hl) (fun z => kf z p l e Rm s m args below meth cd D cI cZ N b Q C K H locs ls hR hl)
theorem g_icne {x y : Int32} (hd : dJ M pc (.if_icmp .ne) nx tgt) (kt : ¬ x = y → zGo M tgt lv rest X R h I P) (kf : x = y → zGo M nx lv rest X R h I P) : zGo M pc lv (.int y :: .int x :: rest) X R h I P := by
  intro p l e Rm s m args below meth cd D cI cZ N b Q C K H locs ls hR hl
  obtain ⟨off, hd, ht, rfl⟩ := hd
  exact lv_icmp_ne C.1 C.2.1 hd ht (fun z => kt z p l e Rm s m args below meth cd D cI cZ N b Q C K H locs ls hR hl) (fun z => kf z p l e Rm s m args below meth cd D cI cZ N b Q C K H locs ls hR hl)
theorem g_iflt {x : Int32} (hd : dJ M pc (.ifCond .lt) nx tgt) (kt : x < 0 → zGo M tgt lv rest X R h I P) (kf : ¬ x < 0 → zGo M nx lv rest X R h I P) : zGo M pc lv (.int x :: rest) X R h I P := by
  intro p l e Rm s m args below meth cd D cI cZ N b Q C K H locs ls hR hl
  obtain ⟨off, hd, ht, rfl⟩ := hd
  exact lv_if_lt C.1 C.2.1 hd ht (fun z => kt z p l e Rm s m args below meth cd D cI cZ N b Q C K H locs ls hR hl) (fun z => kf z p l e Rm s m args below meth cd D cI cZ N b Q C K H locs ls hR hl)
theorem g_iclt {x y : Int32} (hd : dJ M pc (.if_icmp .lt) nx tgt) (kt : x < y → zGo M tgt lv rest X R h I P) (kf : ¬ x < y → zGo M nx lv rest X R h I P) : zGo M pc lv (.int y :: .int x :: rest) X R h I P := by
  intro p l e Rm s m args below meth cd D cI cZ N b Q C K H locs ls hR hl
  obtain ⟨off, hd, ht, rfl⟩ := hd
  exact lv_icmp_lt C.1 C.2.1 hd ht (fun z => kt z p l e Rm s m args below meth cd D cI cZ N b Q C K H locs ls hR hl) (fun z => kf z p l e Rm s m args below meth cd D cI cZ N b Q C K H locs ls hR hl)
theorem g_ifge {x : Int32} (hd : dJ M pc (.ifCond .ge) nx tgt) (kt : 0 ≤ x → zGo M tgt lv rest X R h I P) (kf : ¬ 0 ≤ x → zGo M nx lv rest X R h I P) : zGo M pc lv (.int x :: rest) X R h I P := by
  intro p l e Rm s m args below meth cd D cI cZ N b Q C K H locs ls hR hl
  obtain ⟨off, hd, ht, rfl⟩ := hd
  exact lv_if_ge C.1 C.2.1 hd ht (fun z => kt z p l e Rm s m args below meth cd D cI cZ N b Q C K H locs ls hR hl) (fun z => kf z p l e Rm s m args below meth cd D cI cZ N b Q C K H locs ls hR hl)
theorem g_icge {x y : Int32} (hd : dJ M pc (.if_icmp .ge) nx tgt) (kt : y ≤ x → zGo M tgt lv rest X R h I P) (kf : ¬ y ≤ x → zGo M nx lv rest X R h I P) : zGo M pc lv (.int y :: .int x :: rest) X R h I P := by
  intro p l e Rm s m args below meth cd D cI cZ N b Q C K H locs ls hR hl
  obtain ⟨off, hd, ht, rfl⟩ := hd
  exact lv_icmp_ge C.1 C.2.1 hd ht (fun z => kt z p l e Rm s m args below meth cd D cI cZ N b Q C K H locs ls hR hl) (fun z => kf z p l e Rm s m args below meth cd D cI cZ N b Q C K H locs ls hR hl)
theorem g_ifgt {x : Int32} (hd : dJ M pc (.ifCond .gt) nx tgt) (kt : 0 < x → zGo M tgt lv rest X R h I P) (kf : ¬ 0 < x → zGo M nx lv rest X R h I P) : zGo M pc lv (.int x :: rest) X R h I P := by
  intro p l e Rm s m args below meth cd D cI cZ N b Q C K H locs ls hR hl
  obtain ⟨off, hd, ht, rfl⟩ := hd
  exact lv_if_gt C.1 C.2.1 hd ht (fun z => kt z p l e Rm s m args below meth cd D cI cZ N b Q C K H locs ls hR hl) (fun z => kf z p l e Rm s m args below meth cd D cI cZ N b Q C K H locs ls hR hl)
theorem g_icgt {x y : Int32} (hd : dJ M pc (.if_icmp .gt) nx tgt) (kt : y < x → zGo M tgt lv rest X R h I P) (kf : ¬ y < x → zGo M nx lv rest X R h I P) : zGo M pc lv (.int y :: .int x :: rest) X R h I P := by
  intro p l e Rm s m args below meth cd D cI cZ N b Q C K H locs ls hR hl
  obtain ⟨off, hd, ht, rfl⟩ := hd
  exact lv_icmp_gt C.1 C.2.1 hd ht (fun z => kt z p l e Rm s m args below meth cd D cI cZ N b Q C K H locs ls hR hl) (fun z => kf z p l e Rm s m args below meth cd D cI cZ N b Q C K H locs ls hR hl)
theorem g_ifle {x : Int32} (hd : dJ M pc (.ifCond .le) nx tgt) (kt : x ≤ 0 → zGo M tgt lv rest X R h I P) (kf : ¬ x ≤ 0 → zGo M nx lv rest X R h I P) : zGo M pc lv (.int x :: rest) X R h I P := by
  intro p l e Rm s m args below meth cd D cI cZ N b Q C K H locs ls hR hl
  obtain ⟨off, hd, ht, rfl⟩ := hd
  exact lv_if_le C.1 C.2.1 hd ht (fun z => kt z p l e Rm s m args below meth cd D cI cZ N b Q C K H locs ls hR hl) (fun z => kf z p l e Rm s m args below meth cd D cI cZ N b Q C K H locs ls hR hl)
theorem g_icle {x y : Int32} (hd : dJ M pc (.if_icmp .le) nx tgt) (kt : x ≤ y → zGo M tgt lv rest X R h I P) (kf : ¬ x ≤ y → zGo M nx lv rest X R h I P) : zGo M pc lv (.int y :: .int x :: rest) X R h I P := by
  intro p l e Rm s m args below meth cd D cI cZ N b Q C K H locs ls hR hl
  obtain ⟨off, hd, ht, rfl⟩ := hd
  exact lv_icmp_le C.1 C.2.1 hd ht (fun z => kt z p l e Rm s m args below meth cd D cI cZ N b Q C K H locs ls hR hl) (fun z => kf z p l e Rm s m args below meth cd D cI cZ N b Q C K H locs ls hR hl)
theorem g_icgeN {i n : Nat} (hd : dJ M pc (.if_icmp .ge) nx tgt) (hi : i < 2 ^ 31) (hn : n < 2 ^ 31) (kt : n ≤ i → zGo M tgt lv rest X R h I P) (kf : i < n → zGo M nx lv rest X R h I P) : zGo M pc lv (.int (nI n) :: .int (nI i) :: rest) X R h I P :=
  g_icge hd (fun z => kt ((nI_leI hn hi).mp z)) (fun z => kf (Nat.lt_of_not_le fun q => z ((nI_leI hn hi).mpr q)))
theorem g_icgtN {i n : Nat} (hd : dJ M pc (.if_icmp .gt) nx tgt) (hi : i < 2 ^ 31) (hn : n < 2 ^ 31) (kt : n < i → zGo M tgt lv rest X R h I P) (kf : i ≤ n → zGo M nx lv rest X R h I P) : zGo M pc lv (.int (nI n) :: .int (nI i) :: rest) X R h I P :=
  g_icgt hd (fun z => kt ((nI_ltI hn hi).mp z)) (fun z => kf (Nat.le_of_not_lt fun q => z ((nI_ltI hn hi).mpr q)))
theorem g_iincN {i j : Nat} (hd : dII M pc j 1 nx) (hx : lv[j]? = some (.int (nI i))) (ho : zok lv j = true) (k : zGo M nx (lv.set j (.int (nI (i + 1)))) rest X R h I P) : zGo M pc lv rest X R h I P :=
  g_iinc hd hx ho (by rw [nI_1]; exact k)
def zcs (x : Int32) (G : Nat → Prop) : List (Int32 × Nat) → Prop
  | [] => True
  | q :: r => (x = q.1 → G q.2) ∧ zcs x G r
theorem zcs_get {x : Int32} {G : Nat → Prop} : ∀ {l : List (Int32 × Nat)} {i : Nat} {q : Int32 × Nat}, zcs x G l → l[i]? = some q → x = q.1 → G q.2
  | [], i, q, _, h, _ => by simp at h
  | a :: r, 0, q, hz, h, e => by simp at h; subst h; exact hz.1 e
  | a :: r, i + 1, q, hz, h, e => by simp at h; exact zcs_get hz.2 h e
def dSW (M : zM) (pc : Nat) (l : List (Int32 × Nat)) (dflt : Nat) : Prop := ∃ (d : Int) (lo : Nat) (hi : Int) (offs : Array Int) (len : Nat), decode (z_cc M) pc = .ok (.tableswitch d lo hi offs, len) ∧ (pc : Int) + d = (dflt : Int) ∧ l.length = offs.size ∧ hi + 1 = (lo : Int) + offs.size ∧ (List.range offs.size).all (fun i => decide (l[i]? = some (nI (lo + i), ((pc : Int) + offs.getD i 0).toNat)) && decide (0 ≤ (pc : Int) + offs.getD i 0)) = true ∧ lo + offs.size < 2 ^ 31
theorem g_sw {x : Int32} {l : List (Int32 × Nat)} (hd : dSW M pc l tgt) (kin : zcs x (fun t => zGo M t lv rest X R h I P) l) (kout : (∀ q ∈ l, ¬ x = q.1) → zGo M tgt lv rest X R h I P) : zGo M pc lv (.int x :: rest) X R h I P := by
  intro p l e Rm s m args below meth cd D cI cZ N b Q C K H locs ls hR hl
  obtain ⟨d, lo, hi, offs, len, hd, ht, hlen, hhi, hall, hsm⟩ := hd
  have hall := fun i (hi : i < offs.size) => List.all_eq_true.mp hall i (List.mem_range.mpr hi)
  simp only [Bool.and_eq_true, decide_eq_true_eq] at hall
  by_cases ho : x.toInt < lo ∨ hi < x.toInt
  · refine lv_tableOut C.1 C.2.1 hd ho ht (kout (fun q hq e => ?_) p l e Rm s m args below meth cd D cI cZ N b Q C K H locs ls hR hl)
    obtain ⟨i, hi2⟩ := List.getElem?_of_mem hq
    have hil : i < offs.size := by rw [← hlen]; exact (List.getElem?_eq_some_iff.mp hi2).1
    have h1 := (hall i hil).1
    rw [hi2] at h1
    have h2 : q.1 = nI (lo + i) := by rw [Option.some.inj h1]
    rw [e, h2, nI_toInt (by omega)] at ho
    omega
  · have h1 : ¬ x.toInt < lo := fun z => ho (Or.inl z)
    have h2 : ¬ hi < x.toInt := fun z => ho (Or.inr z)
    have hil : (x.toInt - lo).toNat < offs.size := by omega
    have h3 := hall _ hil
    refine lv_tableIn (off := offs.getD (x.toInt - lo).toNat 0) C.1 C.2.1 hd h1 h2 ?_ (Int.toNat_of_nonneg h3.2).symm ((zcs_get kin h3.1 ?_) p l e Rm s m args below meth cd D cI cZ N b Q C K H locs ls hR hl)
    · rw [Array.getD_eq_getD_getElem?, Array.getElem?_eq_getElem hil]; rfl
    · apply Int32.toInt_inj.mp
      show x.toInt = (nI _).toInt
      rw [nI_toInt (by omega)]
      omega
theorem zce_obj {N : Nat} {cI cZ : ClassId} {k c n : Nat} : zce N cI cZ R h I k (c + 2, n) = .inr (c, (List.range n).map (fun j => zfv N (zt c j) (I k j) (R k j) h)) := rfl
theorem g_getf {k c j : Nat} {v : Value} (hd : dGF M pc c j nx) (hs : X[k]? = some (c + 2, zF c)) (hv : ∀ N b : Nat, zfv N (zt c j) (I k j) (R k j) h = zcv N b v) (kk : zGo M nx lv (v :: rest) X R h I P) : zGo M pc lv (.ref k :: rest) X R h I P := by
  intro p l e Rm s m args below meth cd D cI cZ N b Q C K H locs ls hR hl
  obtain ⟨idx, hd, hw, ⟨hc, hj⟩, rfl⟩ := hd
  refine va_get (D := D) (cl := zcl) (ci := c) (ref := (zT c j).1) (v := zcv N b v) C.1 C.2.1 C.2.2.2.2.2.1 (zin_ok c hc) C.2.2.2.2.1 C.2.2.2.2.2.2.2.2.1 hR.1 k (zw_at hs) (zcl_at c hc) j hj (C.2.2.2.2.2.1 _ hw) (fun _ z => z) ?_ hd (kk p l e Rm s m args below meth cd D cI cZ N b Q C K H locs ls hR hl)
  simp [hj, hv N b]
theorem g_gfi {k c j : Nat} (hd : dGF M pc c j nx) (hs : X[k]? = some (c + 2, zF c)) (ht : zt c j = .int) (kk : zGo M nx lv (.int (I k j) :: rest) X R h I P) : zGo M pc lv (.ref k :: rest) X R h I P := g_getf hd hs (fun N b => by rw [ht]; rfl) kk
theorem g_gfz {k c j : Nat} (hd : dGF M pc c j nx) (hs : X[k]? = some (c + 2, zF c)) (ht : zt c j = .boolean) (kk : zGo M nx lv (.int (I k j) :: rest) X R h I P) : zGo M pc lv (.ref k :: rest) X R h I P := g_getf hd hs (fun N b => by rw [ht]; rfl) kk
theorem g_gfl {k c j : Nat} (hd : dGF M pc c j nx) (hs : X[k]? = some (c + 2, zF c)) (ht : zt c j = .long) (kk : zGo M nx lv (.long h :: rest) X R h I P) : zGo M pc lv (.ref k :: rest) X R h I P := g_getf hd hs (fun N b => by rw [ht]; rfl) kk
def zisR : FieldType → Bool
  | .object _ => true
  | .array _ => true
  | _ => false
theorem g_gfr {k c j t : Nat} (hd : dGF M pc c j nx) (hs : X[k]? = some (c + 2, zF c)) (ht : zisR (zt c j) = true) (hr : R k j = some t) (kk : zGo M nx lv (.ref t :: rest) X R h I P) : zGo M pc lv (.ref k :: rest) X R h I P := g_getf hd hs (fun N b => by
  rw [hr]
  cases hz : zt c j with
  | object _ => rfl
  | array _ => rfl
  | _ => rw [hz] at ht; simp [zisR] at ht) kk
theorem g_putf {k c j : Nat} {v : Value} {R' : zMR} {h' : Int64} {I' : zMI} (hd : dPF M pc c j nx) (hs : X[k]? = some (c + 2, zF c)) (hf : (zT c j).2.2.2 = false ∨ ((zT c j).1 = (z_y M).cls ∧ (z_y M).name = "<init>"))
    (hv : ∀ N b : Nat, narrow (zt c j) (zcv N b v) = zcv N b v ∧ fits (zt c j) (zcv N b v) = true) (he : ∀ N b : Nat, zfv N (zt c j) (I' k j) (R' k j) h' = zcv N b v) (ho : ∀ N i, i < zF c → i ≠ j → zfv N (zt c i) (I' k i) (R' k i) h' = zfv N (zt c i) (I k i) (R k i) h)
    (ho2 : ∀ N cI cZ a sh, a ≠ k → X[a]? = some sh → zce N cI cZ R' h' I' a sh = zce N cI cZ R h I a sh) (kk : zGo M nx lv rest X R' h' I' P) : zGo M pc lv (v :: .ref k :: rest) X R h I P := by
  intro p l e Rm s m args below meth cd D cI cZ N b Q C K H locs ls hR hl
  obtain ⟨idx, hd, hw, ⟨hc, hj⟩, rfl⟩ := hd
  have hP := hR.1
  have hset : (zw N cI cZ X R h I).set k (N + k, .inr (c, ((List.range (zF c)).map (fun i => zfv N (zt c i) (I k i) (R k i) h)).set j (zcv N b v))) = zw N cI cZ X R' h' I' := by
    rw [zmap_set _ (fun i => zfv N (zt c i) (I' k i) (R' k i) h') _ (he N b) (ho N)]
    exact zw_set hs (ho2 N cI cZ)
  have hap := va_apart (own := (z_y M).cls) C.2.2.2.2.2.1 (zin_ok c hc) (zt c) (zty_ok c hc) (znm_ok c hc) C.2.2.2.2.2.2.2.2.1 (zcl_at c hc)
  obtain ⟨r, h1, cell, q1, q2, q3, q4⟩ := hP k _ (zw_at hs)
  have hr : r = (zR c, zT c, zF c) := Option.some.inj (h1.symm.trans (zcl_at c hc))
  subst hr
  obtain ⟨hS, hfc, kC, hkC, hkind⟩ := C.2.2.2.2.2.2.2.2.1.1 c _ (zcl_at c hc)
  obtain ⟨cf, kf, fi, f, hi, hsl⟩ := hS j hj
  have hlay := C.2.2.2.2.2.1 _ (zin_ok c hc _ (u_in_lay hj))
  have hst := (u_facts hfc hkC (u_lays C.2.2.2.2.2.1 (zin_ok c hc) hj) hi).1
  have fin : ∀ H' : Heap, H'[N + k]? = some (cell.setSlot f.slot (zcv N b v)) → H'.size = H.size → (∀ q, q ≠ N + k → H'[q]? = H[q]?) → W p l e Rm s m args below meth cd H' (locs ++ [⟨N + k, f.slot⟩]) (X.length - z_x0 M) (zsl X - z_s0 M) Q (F0 m (pc + 3) ls (rest.map (zcv N b))) := by
    intro H' e1 e2 e3
    rw [hsl] at e1
    refine kk p l e Rm s m args below meth cd D cI cZ N b Q C K H' _ ls ⟨?_, hR.2.1.put e2 e3 (Nat.le_add_right N k), e2.trans hR.2.2⟩ hl
    rw [← hset]
    exact hP.set (zw_D N cI cZ X R h I) (zw_at hs) ⟨_, zcl_at c hc, t_OB.to (V := updV (vp_V ((List.range (zF c)).map (fun i => zfv N (zt c i) (I k i) (R k i) h))) j (zcv N b v)) ⟨_, e1, q2, q3, t_set q4 hap hj _⟩ (fun i _ => vp_updV_set (by simpa using hj) _ i)⟩ e3
  unfold u_lay at hlay
  by_cases hfin : (zT c j).2.2.2 = false
  · rw [if_neg (by rw [hfin]; decide)] at hlay
    have h6 := u_store hfc hkC hkind hlay hi (zty_ok c hc j hj) (hv N b).1 (hv N b).2
    exact W.putK C.1 C.2.1 (f := f) ⟨C.2.2.2.2.1, C.2.2.2.2.2.1 _ hw, ⟨_, _, _, hi⟩, hst⟩ (by rw [q2]; exact h6) q1 q3 (by rw [hsl]; exact k2_hasslot (q4 j hj)) rfl rfl hd fin
  · have hfin2 : (zT c j).2.2.2 = true := by simpa using hfin
    obtain ⟨hdecl, hini⟩ := hf.resolve_left hfin
    rw [if_pos hfin2] at hlay
    have hcf : m.cls = cf := by
      obtain ⟨_, _, c', _, _, _, -, -, hf', -, -, -, hown2, -⟩ := Cond.laysFinal_spec hlay
      have e1 : c' = cf := by have := hi.symm.trans hf'; simp at this; exact this.1.symm
      rw [hdecl] at hown2
      rw [← e1]; exact Option.some.inj (C.2.2.2.2.1.symm.trans hown2)
    have h6 := u_fits hfc hkC hkind (Or.inr hlay) hi (zty_ok c hc j hj) (hv N b).1 (hv N b).2
    exact W.putFinK C.1 C.2.1 C.2.2.2.2.1 (C.2.2.2.2.2.1 _ hw) hi hst hcf (C.2.2.2.2.2.2.2.1 hini) (by rw [q2]; exact h6) q1 q3 (by rw [hsl]; exact k2_hasslot (q4 j hj)) rfl rfl hd fin
theorem g_pfi {k c j : Nat} {x : Int32} (hd : dPF M pc c j nx) (hs : X[k]? = some (c + 2, zF c)) (hf : (zT c j).2.2.2 = false) (ht : zt c j = .int) (kk : zGo M nx lv rest X R h (zs I k (upd (I k) j x)) P) : zGo M pc lv (.int x :: .ref k :: rest) X R h I P := by
  refine g_putf hd hs (Or.inl hf) (fun N b => by rw [ht]; exact ⟨rfl, rfl⟩) (fun N b => by rw [ht, zs_eq]; simp [upd, zfv, zcv]) (fun N i _ hi => by rw [zs_eq]; simp [upd, hi]) (fun N cI cZ a sh ha _ => zce_row N cI cZ R h I _ sh ha) kk
theorem g_pfz {k c j : Nat} {x : Int32} (hd : dPF M pc c j nx) (hs : X[k]? = some (c + 2, zF c)) (hf : (zT c j).2.2.2 = false) (ht : zt c j = .boolean) (hx : x = 0 ∨ x = 1) (kk : zGo M nx lv rest X R h (zs I k (upd (I k) j x)) P) : zGo M pc lv (.int x :: .ref k :: rest) X R h I P := by
  refine g_putf hd hs (Or.inl hf) (fun N b => by rw [ht]; rcases hx with rfl | rfl <;> exact ⟨rfl, rfl⟩) (fun N b => by rw [ht, zs_eq]; simp [upd, zfv, zcv]) (fun N i _ hi => by rw [zs_eq]; simp [upd, hi]) (fun N cI cZ a sh ha _ => zce_row N cI cZ R h I _ sh ha) kk
theorem g_pfr {k c j t : Nat} (hd : dPF M pc c j nx) (hs : X[k]? = some (c + 2, zF c)) (hf : (zT c j).2.2.2 = false ∨ ((zT c j).1 = (z_y M).cls ∧ (z_y M).name = "<init>")) (ht : zisR (zt c j) = true) (kk : zGo M nx lv rest X (zrs R k j (some t)) h I P) : zGo M pc lv (.ref t :: .ref k :: rest) X R h I P := by
  refine g_putf hd hs hf (fun N b => ?_) (fun N b => ?_) (fun N i _ hi => by simp [zrs, hi]) (fun N cI cZ a sh ha _ => by simp only [zce, zrs, ha, false_and, if_false]) kk
  · cases hz : zt c j with
    | object _ => exact ⟨rfl, rfl⟩
    | array _ => exact ⟨rfl, rfl⟩
    | _ => rw [hz] at ht; simp [zisR] at ht
  · cases hz : zt c j with
    | object _ => simp [zrs, zfv, zcv, va_rf]
    | array _ => simp [zrs, zfv, zcv, va_rf]
    | _ => rw [hz] at ht; simp [zisR] at ht
theorem zt_long : ∀ c j, zt c j = .long → c = 7 := by
  intro c j hz
  match c with
  | 0 | 1 | 2 | 3 | 4 | 5 | 6 => exfalso; revert hz; simp only [zt]; first | (unfold tyX0; split <;> simp) | (unfold tyX1; split <;> simp) | (unfold tyX2; split <;> simp) | (unfold tyX3; split <;> simp) | (unfold tyX4; split <;> simp) | (unfold tyX5; split <;> simp) | (unfold tyX6; split <;> simp)
  | 7 => rfl
  | n + 8 => simp [zt] at hz
theorem zt_long7 : ∀ j, j < 45 → j ≠ 44 → zt 7 j ≠ .long := by decide +kernel
theorem g_pfl {k : Nat} {x : Int64} (hd : dPF M pc 7 44 nx) (hs : X[k]? = some (7 + 2, zF 7)) (hu : ∀ a sh, a ≠ k → X[a]? = some sh → sh.1 ≠ 9) (kk : zGo M nx lv rest X R x I P) : zGo M pc lv (.long x :: .ref k :: rest) X R h I P := by
  have hfv : ∀ (N : Nat) (t : FieldType) (i : Int32) (r : Option Nat), t ≠ .long → zfv N t i r x = zfv N t i r h := fun N t i r ht => by cases t <;> first | rfl | exact absurd rfl ht
  refine g_putf hd hs (Or.inl rfl) (fun N b => ⟨rfl, rfl⟩) (fun N b => rfl) (fun N i h1 h2 => hfv N _ _ _ (zt_long7 i h1 h2)) (fun N cI cZ a sh ha hx => ?_) kk
  obtain ⟨q, n⟩ := sh
  have h9 := hu a _ ha hx
  match q, h9 with
  | 0, _ => rfl
  | 1, _ => rfl
  | c + 2, h9 =>
    show Sum.inr _ = Sum.inr _
    congr 2
    apply List.map_congr_left
    intro j _
    exact hfv N _ _ _ (fun z => h9 (by rw [zt_long c j z]))
theorem zr_n {n : Nat} {i : Int32} (hi : vp_in i n) : i.toNatClampNeg < n := Nat.not_le.mp fun q => hi (Or.inr q)
theorem g_iald {k n : Nat} {i : Int32} (hd : dO M pc .iaload nx) (hs : X[k]? = some (0, n)) (hi : vp_in i n) (kk : zGo M nx lv (.int (I k i.toNatClampNeg) :: rest) X R h I P) : zGo M pc lv (.int i :: .ref k :: rest) X R h I P := by
  intro p l e Rm s m args below meth cd D cI cZ N b Q C K H locs ls hR hl
  obtain ⟨hd, rfl⟩ := hd
  exact va_iald C.1 C.2.1 C.2.2.2.2.2.2.2.2.1 hR.1 k 0 (zw_at hs) rfl hi hd (kk p l e Rm s m args below meth cd D cI cZ N b Q C K H locs ls hR hl)
theorem g_zald {k n : Nat} {i : Int32} (hd : dO M pc .baload nx) (hs : X[k]? = some (1, n)) (hi : vp_in i n) (kk : zGo M nx lv (.int (I k i.toNatClampNeg) :: rest) X R h I P) : zGo M pc lv (.int i :: .ref k :: rest) X R h I P := by
  intro p l e Rm s m args below meth cd D cI cZ N b Q C K H locs ls hR hl
  obtain ⟨hd, rfl⟩ := hd
  exact va_zald C.1 C.2.1 C.2.2.2.2.2.2.2.2.1 hR.1 k 1 (zw_at hs) rfl hi hd (kk p l e Rm s m args below meth cd D cI cZ N b Q C K H locs ls hR hl)
theorem g_ialdN {k n i : Nat} (hd : dO M pc .iaload nx) (hs : X[k]? = some (0, n)) (hi : i < n) (hn : n < 2 ^ 31) (kk : zGo M nx lv (.int (I k i) :: rest) X R h I P) : zGo M pc lv (.int (nI i) :: .ref k :: rest) X R h I P :=
  g_iald hd hs (vp_in_nI hi hn) (by rw [nI_clamp (Nat.lt_trans hi hn)]; exact kk)
theorem g_zaldN {k n i : Nat} (hd : dO M pc .baload nx) (hs : X[k]? = some (1, n)) (hi : i < n) (hn : n < 2 ^ 31) (kk : zGo M nx lv (.int (I k i) :: rest) X R h I P) : zGo M pc lv (.int (nI i) :: .ref k :: rest) X R h I P :=
  g_zald hd hs (vp_in_nI hi hn) (by rw [nI_clamp (Nat.lt_trans hi hn)]; exact kk)
theorem g_iast {k n : Nat} {i x : Int32} (hd : dO M pc .iastore nx) (hs : X[k]? = some (0, n)) (hi : vp_in i n) (kk : zGo M nx lv rest X R h (zs I k (upd (I k) i.toNatClampNeg x)) P) : zGo M pc lv (.int x :: .int i :: .ref k :: rest) X R h I P := by
  intro p l e Rm s m args below meth cd D cI cZ N b Q C K H locs ls hR hl
  obtain ⟨hd, rfl⟩ := hd
  have hP := hR.1
  have ha := zw_at (N := N) (cI := cI) (cZ := cZ) (R := R) (h := h) (I := I) hs
  refine W.iast C.1 C.2.1 (hP k _ ha) ((C.2.2.2.2.2.2.2.2.1.2 0 _ rfl).1 n (fun j => .int (I k j))) (fun q => by cases q) (by show ¬ (i < 0 ∨ (arrV _ _ _).slots.size ≤ _); rw [arrV_size]; exact hi) rfl rfl hd fun H1 e1 z oq => ?_
  refine kk p l e Rm s m args below meth cd D cI cZ N b Q C K H1 _ ls ⟨?_, hR.2.1.put z oq (Nat.le_add_right N k), z.trans hR.2.2⟩ hl
  rw [← zw_set (R := R) (h := h) (I := I) hs (fun a sh' ha _ => zce_row N cI cZ R h I _ sh' ha)]
  refine hP.set (zw_D ..) ha ?_ oq
  show H1[N + k]? = some (vp_cell cI (n, .inl (zs I k (upd (I k) i.toNatClampNeg x) k)))
  rw [e1, zs_eq]
  show some ((vp_cell cI (n, .inl (I k))).setSlot _ _) = _
  rw [vp_cell_i, vp_cell_i, arrV_store]
  congr 2
  funext q
  by_cases hq : q = i.toNatClampNeg
  · subst hq
    simp [updV, upd]
  · simp [updV, upd, hq]
theorem g_zast {k n : Nat} {i x : Int32} (hd : dO M pc .bastore nx) (hs : X[k]? = some (1, n)) (hi : vp_in i n) (hx : x = 0 ∨ x = 1) (kk : zGo M nx lv rest X R h (zs I k (upd (I k) i.toNatClampNeg x)) P) : zGo M pc lv (.int x :: .int i :: .ref k :: rest) X R h I P := by
  intro p l e Rm s m args below meth cd D cI cZ N b Q C K H locs ls hR hl
  obtain ⟨hd, rfl⟩ := hd
  have hP := hR.1
  have ha := zw_at (N := N) (cI := cI) (cZ := cZ) (R := R) (h := h) (I := I) hs
  have hnar : narrow .boolean (.int x) = .int x := by rcases hx with rfl | rfl <;> rfl
  refine W.zast C.1 C.2.1 (hP k _ ha) ((C.2.2.2.2.2.2.2.2.1.2 1 _ rfl).1 n (fun j => .int (I k j))) (fun q => by cases q) (by show ¬ (i < 0 ∨ (arrV _ _ _).slots.size ≤ _); rw [arrV_size]; exact hi) rfl rfl hd fun H1 e1 z oq => ?_
  refine kk p l e Rm s m args below meth cd D cI cZ N b Q C K H1 _ ls ⟨?_, hR.2.1.put z oq (Nat.le_add_right N k), z.trans hR.2.2⟩ hl
  rw [← zw_set (R := R) (h := h) (I := I) hs (fun a sh' ha _ => zce_row N cI cZ R h I _ sh' ha)]
  refine hP.set (zw_D ..) ha ?_ oq
  show H1[N + k]? = some (vp_cell cZ (n, .inl (zs I k (upd (I k) i.toNatClampNeg x) k)))
  rw [e1, zs_eq, hnar]
  show some ((vp_cell cZ (n, .inl (I k))).setSlot _ _) = _
  rw [vp_cell_i, vp_cell_i, arrV_store]
  congr 2
  funext q
  by_cases hq : q = i.toNatClampNeg
  · subst hq
    simp [updV, upd]
  · simp [updV, upd, hq]
theorem g_iastN {k n i : Nat} {x : Int32} (hd : dO M pc .iastore nx) (hs : X[k]? = some (0, n)) (hi : i < n) (hn : n < 2 ^ 31) (kk : zGo M nx lv rest X R h (zs I k (upd (I k) i x)) P) : zGo M pc lv (.int x :: .int (nI i) :: .ref k :: rest) X R h I P :=
  g_iast hd hs (vp_in_nI hi hn) (by rw [nI_clamp (Nat.lt_trans hi hn)]; exact kk)
theorem g_zastN {k n i : Nat} {x : Int32} (hd : dO M pc .bastore nx) (hs : X[k]? = some (1, n)) (hi : i < n) (hn : n < 2 ^ 31) (hx : x = 0 ∨ x = 1) (kk : zGo M nx lv rest X R h (zs I k (upd (I k) i x)) P) : zGo M pc lv (.int x :: .int (nI i) :: .ref k :: rest) X R h I P :=
  g_zast hd hs (vp_in_nI hi hn) hx (by rw [nI_clamp (Nat.lt_trans hi hn)]; exact kk)
theorem g_alen {k n : Nat} (hd : dO M pc .arraylength nx) (hs : X[k]? = some (0, n)) (kk : zGo M nx lv (.int (nI n) :: rest) X R h I P) : zGo M pc lv (.ref k :: rest) X R h I P := by
  intro p l e Rm s m args below meth cd D cI cZ N b Q C K H locs ls hR hl
  obtain ⟨hd, rfl⟩ := hd
  exact va_alen (ty := .int) C.1 C.2.1 C.2.2.2.2.2.2.2.2.1 hR.1 k 0 (zw_at hs) rfl rfl hd (kk p l e Rm s m args below meth cd D cI cZ N b Q C K H locs ls hR hl)
theorem g_iret {x : Int32} (hd : dO M pc .ireturn nx) (ht : z_ret M = some .int) (hp : P (some (.int x)) X R h I) : zGo M pc lv [.int x] X R h I P := by
  intro p l e Rm s m args below meth cd D cI cZ N b Q C K H locs ls hR hl
  exact K (some (.int x)) X R h I H locs ls pc hp hR ⟨hd.1, Or.inl ht⟩
theorem g_zret {x : Int32} (hd : dO M pc .ireturn nx) (ht : z_ret M = some .boolean) (hx : x = 0 ∨ x = 1) (hp : P (some (.int x)) X R h I) : zGo M pc lv [.int x] X R h I P := by
  intro p l e Rm s m args below meth cd D cI cZ N b Q C K H locs ls hR hl
  exact K (some (.int x)) X R h I H locs ls pc hp hR ⟨hd.1, Or.inr ⟨ht, hx⟩⟩
theorem g_lret {x : Int64} (hd : dO M pc .lreturn nx) (ht : z_ret M = some .long) (hp : P (some (.long x)) X R h I) : zGo M pc lv [.long x] X R h I P := by
  intro p l e Rm s m args below meth cd D cI cZ N b Q C K H locs ls hR hl
  exact K (some (.long x)) X R h I H locs ls pc hp hR ⟨hd.1, ht⟩
theorem g_vret (hd : dO M pc .return_ nx) (ht : z_ret M = none) (hp : P none X R h I) : zGo M pc lv [] X R h I P := by
  intro p l e Rm s m args below meth cd D cI cZ N b Q C K H locs ls hR hl
  exact K none X R h I H locs ls pc hp hR ⟨hd.1, ht⟩
theorem g_post {P' : zPost} {st : List Value} (k : zGo M pc lv st X R h I P') (hp : ∀ v X' R' h' I', P' v X' R' h' I' → P v X' R' h' I') : zGo M pc lv st X R h I P := by
  intro p l e Rm s m args below meth cd D cI cZ N b Q C K H locs ls hR hl
  exact k p l e Rm s m args below meth cd D cI cZ N b Q C (fun v X' R' h' I' H' locs' ls' pc' hq => K v X' R' h' I' H' locs' ls' pc' (hp _ _ _ _ _ hq)) H locs ls hR hl
end GR
