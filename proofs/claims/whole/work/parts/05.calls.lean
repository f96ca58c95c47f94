section GC
variable {M : zM} {pc nx tgt : Nat} {lv rest : List Value} {X : List zSh} {R : zMR} {h : Int64} {I : zMI} {P : zPost}
theorem zEv_of {av lv0 : List Value} (hy : plainName (z_y M).cls = true) (hsc : z_sc M = none) (hx : X.length = z_x0 M) (hs : zsl X = z_s0 M) (hlv : ∀ N b, zlva N b 0 lv0 = lv_args 0 (av.map (zcv N b))) (hlen : ∀ N b, (lg_sl (av.map (zcv N b))).length ≤ z_nL M)
    (hP : ∀ v X' R' h' I', P v X' R' h' I' → X'.length = X.length + z_mc M ∧ zsl X' = zsl X + z_ms M) (k : zGo M 0 lv0 [] X R h I P) : zEv M X R h I av P := by
  intro l D cI cZ N b
  refine Met.ofW (cc := z_cc M) (maxL := z_nL M) (ret := z_ret M) hy rfl ?_
  intro p e s m args below meth cd s₁ B hml hv
  obtain ⟨rfl, hsz, hP0, hK, hNe⟩ := hv
  have hts := atoms_spec (ws := Cond.code (z_y M) (z_cc M) (z_nL M) (z_ret M) :: zG) B.pre
  have hC : zCx M p (headSpec (Cond.code (z_y M) (z_cc M) (z_nL M) (z_ret M) :: zG) (zRm M)).room s m (av.map (zcv N b)).toArray meth cd D cI cZ N b :=
    ⟨B.exec, B.bytes, hml, B.returns, findClass_of_methodNamed B.named, fun w hw => hts w (List.mem_cons_of_mem _ hw), B.notSynchronized, fun z => ((name_of_methodNamed B.named B.method).1).trans z, hK, hNe, ⟨Nat.le_refl _, Nat.le_refl _, Nat.le_refl _, Nat.le_refl _⟩, by rw [hsz]; exact Nat.le_add_right _ _, by rw [hsc]; trivial⟩
  have hlocks := B.notSynchronized
  rw [lg_entry_eq]
  have hl := lv_entry (av.map (zcv N b)) (n := z_nL M) (hlen N b)
  rw [← hlv N b] at hl
  have hW := k p l e _ s m _ below meth cd D cI cZ N b (MQ below (fun _ st oc t => (∃ (v : Option Value) (X' : List zSh) (R' : zMR) (h' : Int64) (I' : zMI), oc = .returned (v.map (zcv N b)) ∧ P v X' R' h' I' ∧ va_P D zcl (zw N cI cZ X' R' h' I') t.heap ∧ t.heap.size = N + X'.length ∧ X'.length = X.length + z_mc M ∧ zsl X' = zsl X + z_ms M) ∧ va_F (fun q : Nat => N ≤ q) st t) (av.map (zcv N b)).toArray s (z_mc M) (z_ms M) (fun q : Nat => N ≤ q)) hC ?_ s.heap [] _ ⟨hP0, va_S.rf, hsz⟩ hl
  · rw [show X.length - z_x0 M = 0 by omega, show zsl X - z_s0 M = 0 by omega] at hW
    exact hW
  · intro v X' R' h' I' H' locs' ls' pc' hp hR hret
    obtain ⟨e1, e2⟩ := hP v X' R' h' I' hp
    have c1 : X'.length - z_x0 M = z_mc M := by omega
    have c2 : zsl X' - z_s0 M = z_ms M := by omega
    rw [c1, c2]
    match v, hret, hp with
    | none, ⟨hd, ht⟩, hp =>
      exact W.vret B.exec B.bytes (B.returns.trans ht) (fun t hth _ => ⟨⟨none, X', R', h', I', rfl, hp, by rw [hth]; exact hR.1, by rw [hth]; exact hR.2.2, e1, e2⟩, hR.2.1.F hth⟩) hR.2.1.2.2 hd
    | some (.int x), ⟨hd, ht⟩, hp =>
      rcases ht with ht | ⟨ht, hx1⟩
      · exact W.iret B.exec B.bytes (B.returns.trans ht) (fun t hth _ => ⟨⟨some (.int x), X', R', h', I', rfl, hp, by rw [hth]; exact hR.1, by rw [hth]; exact hR.2.2, e1, e2⟩, hR.2.1.F hth⟩) hR.2.1.2.2 hd
      · exact W.zret B.exec B.bytes (B.returns.trans ht) (by rcases hx1 with rfl | rfl <;> rfl) (fun t hth _ => ⟨⟨some (.int x), X', R', h', I', rfl, hp, by rw [hth]; exact hR.1, by rw [hth]; exact hR.2.2, e1, e2⟩, hR.2.1.F hth⟩) hR.2.1.2.2 hd
    | some (.long x), ⟨hd, ht⟩, hp =>
      exact W.lret B.exec B.bytes (B.returns.trans ht) (fun t hth _ => ⟨⟨some (.long x), X', R', h', I', rfl, hp, by rw [hth]; exact hR.1, by rw [hth]; exact hR.2.2, e1, e2⟩, hR.2.1.F hth⟩) hR.2.1.2.2 hd
    | some (.null), hret, _ => exact hret.elim
    | some (.ref _), hret, _ => exact hret.elim
    | some (.float _), hret, _ => exact hret.elim
    | some (.double _), hret, _ => exact hret.elim
    | some (.retAddr _), hret, _ => exact hret.elim
/-- behind a call -/
theorem zback {M' : zM} {P' : zPost} {st0 : List Value} {p : Program} {l : Launch} {e : Env} {Rm : Room} {s : State} {m : MethodId} {args : Array Value} {below : List Frame} {meth : Method} {cd : Code} {D : va_G} {cI cZ : ClassId} {N b : Nat} {Q : State → Prop} {H : Heap} {locs : List Loc} {ls : Array Slot}
    (C : zCx M p Rm s m args meth cd D cI cZ N b)
    (K : ∀ (v : Option Value) (X' : List zSh) (R' : zMR) (h' : Int64) (I' : zMI) (H' : Heap) (locs' : List Loc) (ls' : Array Slot) (pc' : Nat), P v X' R' h' I' → zRp D cI cZ N X' R' h' I' s H' locs' → zRet M pc' v →
      W p l e Rm s m args below meth cd H' locs' (X'.length - z_x0 M) (zsl X' - z_s0 M) Q (F0 m pc' ls' (v.toList.map (zcv N b))))
    (hR : zRp D cI cZ N X R h I s H locs) (hl : lv_has ls (z_nL M) (zlva N b 0 lv)) (hc : z_x0 M ≤ X.length ∧ z_s0 M ≤ zsl X)
    (kk : ∀ v X' R' h' I', P' v X' R' h' I' → zGo M (pc + 3) lv (v.toList ++ rest) X' R' h' I' P)
    (hr : va_Run p l e Rm s m args below meth cd H locs (X.length - z_x0 M) (zsl X - z_s0 M) (z_mc M') (z_ms M') (F0 m pc ls st0) (rest.map (zcv N b)) (fun st oc t => (∃ (v : Option Value) (X' : List zSh) (R' : zMR) (h' : Int64) (I' : zMI), oc = .returned (v.map (zcv N b)) ∧ P' v X' R' h' I' ∧ va_P D zcl (zw N cI cZ X' R' h' I') t.heap ∧ t.heap.size = N + X'.length ∧ X'.length = X.length + z_mc M' ∧ zsl X' = zsl X + z_ms M') ∧ va_F (fun q : Nat => N ≤ q) st t) (fun q : Nat => N ≤ q)) :
    W p l e Rm s m args below meth cd H locs (X.length - z_x0 M) (zsl X - z_s0 M) Q (F0 m pc ls st0) := by
  intro T hT XX
  obtain ⟨v, st₀, t, T', L, h0, X', hL, e1, e2, ⟨⟨v', X1, R1, h1, I1, hv, hp, hP1, hz, hl1, hl2⟩, hF⟩, st⟩ := hr T hT XX
  have hv2 : v = v'.map (zcv N b) := by cases hv; rfl
  subst hv2
  have hz1 : s.heap.size ≤ T'.heap.size := by rw [e1, hz, hl1]; have := hR.2.1.1; have := hR.2.2; omega
  have key := kk v' X1 R1 h1 I1 hp p l e Rm s m args below meth cd D cI cZ N b Q C K T'.heap (locs ++ L) ls ⟨by rw [e1]; exact hP1, ⟨hz1, fun q h1 h2 => by rw [e1, hF.2 q (by rw [h0]; exact Nat.lt_of_lt_of_le h1 hR.2.1.1) h2, h0]; exact hR.2.1.2.1 q h1 h2, fun q hq => by
      rcases List.mem_append.mp hq with z | z
      · exact hR.2.1.2.2 q z
      · exact hL q z⟩, by rw [e1]; exact hz⟩ hl
  have c1 : X.length - z_x0 M + z_mc M' = X1.length - z_x0 M := by omega
  have c2 : zsl X - z_s0 M + z_ms M' = zsl X1 - z_s0 M := by omega
  rw [c1, c2] at X'
  obtain ⟨t2, a1, b1⟩ := key T' rfl X'
  refine ⟨t2, st t2 ?_, b1⟩
  have hst : (v'.map (zcv N b)).toList ++ rest.map (zcv N b) = (v'.toList ++ rest).map (zcv N b) := by cases v' <;> rfl
  show Steps p.tables e below (T'.setTop { method := m, pc := pc + 3, locals := ls, stack := (v'.map (zcv N b)).toList ++ rest.map (zcv N b), locked := none }) t2
  rw [hst]
  exact a1
/-- what a call needs of a method itself -/
def zOkB (M' : zM) (n : Nat) : Prop := Cond.code (z_y M') (z_cc M') (z_nL M') (z_ret M') ∈ zG ∧ Cond.initialized (z_y M').cls ∈ zG ∧ ((z_y M').cls ≠ "java/lang/invoke/MethodHandle" ∧ (z_y M').cls ≠ "java/lang/invoke/VarHandle" ∧ (parseMethodDescriptor (z_y M').desc).map (fun d => d.parameters.length) = some n) ∧ z_nL M' ≤ 17
def zOkV (M' : zM) (c n : Nat) : Prop := zOkB M' n ∧ Cond.instanceMethod (z_y M') ∈ zG ∧ Cond.selects (z_y M').cls (z_y M') (z_y M') ∈ zG ∧ (z_y M').cls = zR c ∧ c < 8
def zOkS (M' : zM) (n : Nat) : Prop := zOkB M' n ∧ Cond.static (z_y M') ∈ zG
def zOkI (M' : zM) (n : Nat) : Prop := zOkB M' n ∧ Cond.instanceMethod (z_y M') ∈ zG ∧ (z_y M').name = "<init>" ∧ z_ret M' = none
/-- a call's own: levels; a place where nothing is made -/
def zCal (M M' : zM) : Prop := z_lv M' < z_lv M ∧ z_x0 M = 84 ∧ z_s0 M = 5746 ∧ z_mc M' = 0 ∧ z_ms M' = 0
def dCV (M : zM) (pc : Nat) (M' : zM) (nx : Nat) : Prop := ∃ idx : Nat, decode (z_cc M) pc = .ok (.invokevirtual idx, 3) ∧ Cond.methodLink (z_y M).cls idx (z_y M') ∈ zG ∧ z_lv M' < z_lv M ∧ pc + 3 = nx
def dCS (M : zM) (pc : Nat) (M' : zM) (nx : Nat) : Prop := (∃ idx : Nat, decode (z_cc M) pc = .ok (.invokestatic idx, 3) ∧ Cond.methodLink (z_y M).cls idx (z_y M') ∈ zG ∧ z_lv M' < z_lv M ∧ pc + 3 = nx) ∨ (∃ (idx : Nat) (host : String), decode (z_cc M) pc = .ok (.invokestatic idx, 3) ∧ Cond.methodLinkNest (z_y M).cls idx (z_y M') host ∈ zNl ∧ z_lv M' < z_lv M ∧ pc + 3 = nx)
def dCI (M : zM) (pc : Nat) (M' : zM) (nx : Nat) : Prop := (∃ idx : Nat, decode (z_cc M) pc = .ok (.invokespecial idx, 3) ∧ Cond.methodLink (z_y M).cls idx (z_y M') ∈ zG ∧ z_lv M' < z_lv M ∧ pc + 3 = nx) ∨ (∃ (idx : Nat) (host : String), decode (z_cc M) pc = .ok (.invokespecial idx, 3) ∧ Cond.methodLinkNest (z_y M).cls idx (z_y M') host ∈ zNl ∧ z_lv M' < z_lv M ∧ pc + 3 = nx)
theorem zblind {l : List Value} {N k : Nat} {D : va_G} {cI cZ : ClassId} {ws : va_W} : FrameBlind (va_Pc l (fun U => U.heap.size = N + k ∧ va_P D zcl ws U.heap ∧ va_K D zcl (zty cI cZ) U ∧ zNe U)) := fun a U g mk q => by
  obtain ⟨q0, q1, qP, qK, qN⟩ := q
  exact ⟨q0, q1, qP, va_K.moved (u := U) (U := U.calling g mk a) (Vm.Alike.refl U.vm) qK, zNe.same (s := U) (U := U.calling g mk a) rfl qN⟩
theorem zroomR {M M' : zM} {Rm : Room} (h1 : z_lv M' < z_lv M) (h2 : z_lv M ≤ Rm.frames ∧ 36 * z_lv M ≤ Rm.locals ∧ z_mc M ≤ Rm.cells ∧ z_ms M ≤ Rm.slots) (h3 : z_nL M' ≤ 17) : (zRm M').frames + 1 ≤ Rm.frames ∧ 8 + (z_nL M' + 11) + (zRm M').locals ≤ Rm.locals := by
  simp only [zRm]
  omega
theorem zstr {N b : Nat} {rest : List Value} (h : (rest.map fun v => v.category).sum ≤ 8) : ((rest.map (zcv N b)).map fun v => v.category).sum ≤ 8 := by
  have e : (rest.map (zcv N b)).map (fun v => v.category) = rest.map (fun v => v.category) := by
    rw [List.map_map]
    apply List.map_congr_left
    intro v _
    exact zcv_cat N b v
  rw [e]; exact h
theorem g_callV {M' : zM} {n c k : Nat} {av st : List Value} {P' : zPost} (hd : dCV M pc M' nx) (hok : zOkV M' c n) (hs : X[k]? = some (c + 2, zF c)) (hn : av.length = n) (hc : (z_x0 M ≤ X.length ∧ z_s0 M ≤ zsl X) ∧ X.length - z_x0 M + z_mc M' ≤ z_mc M ∧ zsl X - z_s0 M + z_ms M' ≤ z_ms M) (hr : (rest.map fun v => v.category).sum ≤ 8) (hst : st = av.reverse ++ .ref k :: rest) (hE : zEv M' X R h I (.ref k :: av) P')
    (kk : ∀ v X' R' h' I', P' v X' R' h' I' → zGo M nx lv (v.toList ++ rest) X' R' h' I' P) : zGo M pc lv st X R h I P := by
  intro p l e Rm s m args below meth cd D cI cZ N b Q C K H locs ls hR hl
  subst hst
  obtain ⟨idx, hd, hlk, hlv, rfl⟩ := hd
  obtain ⟨⟨w1, w2, w3, w4⟩, w5, w6, w7, w8⟩ := hok
  have hts := C.2.2.2.2.2.1
  refine zback (M' := M') (P' := P') C K hR hl hc.1 kk ?_
  refine va_runV (C := zR c) (As := av.map (zcv N b)) (b := N + k) (n := n) (rest := rest.map (zcv N b)) (index := idx) (Ts := zG) (own := (z_y M).cls) (nL := z_nL M) (cc := z_cc M) (bytes := z_cc M') (maxL := z_nL M') (ret := z_ret M') (rm := zRm M') ⟨C.1, C.2.1, C.2.2.1, C.2.2.2.2.1, hts⟩ (hE l D cI cZ N b)
    ⟨callB_of n hts (zgood_tbl w1) rfl rfl rfl (hts _ w2) (hts _ hlk) w3 (zroomR hlv C.2.2.2.2.2.2.2.2.2.2.1 w4), hts _ w5, by rw [← w7]; exact hts _ w6⟩
    ⟨zblind, va_recv C.2.2.2.2.2.2.2.2.1 hR.1 (zcl_at c w8) (zw_at hs), fun U hU hW => ⟨rfl, by rw [hU]; exact hR.2.2, by rw [hU]; exact hR.1, va_K.moved hW.alike C.2.2.2.2.2.2.2.2.1, zNe.warm hW C.2.2.2.2.2.2.2.2.2.1⟩⟩ rfl (by simpa using hn) hl.1 ?_ (lv_room (zstr hr)) hd ⟨Nat.le_trans hc.2.1 C.2.2.2.2.2.2.2.2.2.2.1.2.2.1, Nat.le_trans hc.2.2 C.2.2.2.2.2.2.2.2.2.2.1.2.2.2⟩
  simp [zcv]
theorem g_callS {M' : zM} {n : Nat} {av st : List Value} {P' : zPost} (hd : dCS M pc M' nx) (hok : zOkS M' n) (hn : av.length = n) (hc : (z_x0 M ≤ X.length ∧ z_s0 M ≤ zsl X) ∧ X.length - z_x0 M + z_mc M' ≤ z_mc M ∧ zsl X - z_s0 M + z_ms M' ≤ z_ms M) (hr : (rest.map fun v => v.category).sum ≤ 8) (hst : st = av.reverse ++ rest) (hE : zEv M' X R h I av P')
    (kk : ∀ v X' R' h' I', P' v X' R' h' I' → zGo M nx lv (v.toList ++ rest) X' R' h' I' P) : zGo M pc lv st X R h I P := by
  intro p l e Rm s m args below meth cd D cI cZ N b Q C K H locs ls hR hl
  subst hst
  obtain ⟨⟨w1, w2, w3, w4⟩, w5⟩ := hok
  have hts := C.2.2.2.2.2.1
  have hpre : PreS s H (va_Pc (av.map (zcv N b)) (fun U => U.heap.size = N + X.length ∧ va_P D zcl (zw N cI cZ X R h I) U.heap ∧ va_K D zcl (zty cI cZ) U ∧ zNe U)) (av.map (zcv N b)) := ⟨zblind, fun U hU hW => ⟨rfl, by rw [hU]; exact hR.2.2, by rw [hU]; exact hR.1, va_K.moved hW.alike C.2.2.2.2.2.2.2.2.1, zNe.warm hW C.2.2.2.2.2.2.2.2.2.1⟩⟩
  have hfit : X.length - z_x0 M + z_mc M' ≤ Rm.cells ∧ zsl X - z_s0 M + z_ms M' ≤ Rm.slots := ⟨Nat.le_trans hc.2.1 C.2.2.2.2.2.2.2.2.2.2.1.2.2.1, Nat.le_trans hc.2.2 C.2.2.2.2.2.2.2.2.2.2.1.2.2.2⟩
  rcases hd with ⟨idx, hd, hlk, hlv, rfl⟩ | ⟨idx, host, hd, hlk, hlv, rfl⟩
  · refine zback (M' := M') (P' := P') C K hR hl hc.1 kk ?_
    refine va_runS (As := av.map (zcv N b)) (n := n) (rest := rest.map (zcv N b)) (index := idx) (Ts := zG) (own := (z_y M).cls) (nL := z_nL M) (cc := z_cc M) (bytes := z_cc M') (maxL := z_nL M') (ret := z_ret M') (rm := zRm M') ⟨C.1, C.2.1, C.2.2.1, C.2.2.2.2.1, hts⟩ (hE l D cI cZ N b)
      ⟨callB_of n hts (zgood_tbl w1) rfl rfl rfl (hts _ w2) (hts _ hlk) w3 (zroomR hlv C.2.2.2.2.2.2.2.2.2.2.1 w4), hts _ w5⟩ hpre rfl (by simpa using hn) hl.1 ?_ (lv_room (zstr hr)) hd hfit
    simp
  · refine zback (M' := M') (P' := P') C K hR hl hc.1 kk ?_
    refine va_runSN (As := av.map (zcv N b)) (n := n) (rest := rest.map (zcv N b)) (index := idx) (host := host) (Ts := zG) (own := (z_y M).cls) (nL := z_nL M) (cc := z_cc M) (bytes := z_cc M') (maxL := z_nL M') (ret := z_ret M') (rm := zRm M') ⟨C.1, C.2.1, C.2.2.1, C.2.2.2.2.1, hts⟩ (hE l D cI cZ N b)
      ⟨va_cnB n hts (zgood_tbl w1) rfl rfl rfl (C.2.2.2.2.2.2.2.2.2.1 _ hlk) (hts _ w2) w3 (zroomR hlv C.2.2.2.2.2.2.2.2.2.2.1 w4), hts _ w5, trivial⟩ hpre rfl (by simpa using hn) hl.1 ?_ (lv_room (zstr hr)) hd hfit
    simp
theorem g_callI {M' : zM} {n k : Nat} {av st : List Value} {P' : zPost} (hd : dCI M pc M' nx) (hok : zOkI M' n) (hn : av.length = n) (hc : (z_x0 M ≤ X.length ∧ z_s0 M ≤ zsl X) ∧ X.length - z_x0 M + z_mc M' ≤ z_mc M ∧ zsl X - z_s0 M + z_ms M' ≤ z_ms M) (hr : (rest.map fun v => v.category).sum ≤ 8) (hst : st = av.reverse ++ .ref k :: rest) (hE : zEv M' X R h I (.ref k :: av) P')
    (kk : ∀ v X' R' h' I', P' v X' R' h' I' → zGo M nx lv (v.toList ++ rest) X' R' h' I' P) : zGo M pc lv st X R h I P := by
  intro p l e Rm s m args below meth cd D cI cZ N b Q C K H locs ls hR hl
  subst hst
  obtain ⟨⟨w1, w2, w3, w4⟩, w5, w6, w7⟩ := hok
  have hts := C.2.2.2.2.2.1
  have hpre : PreS s H (va_Pc ((Value.ref k :: av).map (zcv N b)) (fun U => U.heap.size = N + X.length ∧ va_P D zcl (zw N cI cZ X R h I) U.heap ∧ va_K D zcl (zty cI cZ) U ∧ zNe U)) (.ref (N + k) :: av.map (zcv N b)) := ⟨zblind, fun U hU hW => ⟨rfl, by rw [hU]; exact hR.2.2, by rw [hU]; exact hR.1, va_K.moved hW.alike C.2.2.2.2.2.2.2.2.1, zNe.warm hW C.2.2.2.2.2.2.2.2.2.1⟩⟩
  have hfit : X.length - z_x0 M + z_mc M' ≤ Rm.cells ∧ zsl X - z_s0 M + z_ms M' ≤ Rm.slots := ⟨Nat.le_trans hc.2.1 C.2.2.2.2.2.2.2.2.2.2.1.2.2.1, Nat.le_trans hc.2.2 C.2.2.2.2.2.2.2.2.2.2.1.2.2.2⟩
  have w1n : Cond.code (z_y M') (z_cc M') (z_nL M') none ∈ zG := by rw [← w7]; exact w1
  have hE2 := hE l D cI cZ N b
  rw [w7] at hE2
  rcases hd with ⟨idx, hd, hlk, hlv, rfl⟩ | ⟨idx, host, hd, hlk, hlv, rfl⟩
  · refine zback (M' := M') (P' := P') C K hR hl hc.1 kk ?_
    refine va_runI (As := av.map (zcv N b)) (b := N + k) (n := n) (rest := rest.map (zcv N b)) (index := idx) (Ts := zG) (own := (z_y M).cls) (nL := z_nL M) (cc := z_cc M) (bytes := z_cc M') (maxL := z_nL M') (rm := zRm M') ⟨C.1, C.2.1, C.2.2.1, C.2.2.2.2.1, hts⟩ hE2
      ⟨callB_of n hts (zgood_tbl w1n) rfl rfl rfl (hts _ w2) (hts _ hlk) w3 (zroomR hlv C.2.2.2.2.2.2.2.2.2.2.1 w4), w6, hts _ w5⟩ hpre rfl (by simpa using hn) hl.1 ?_ (lv_room (zstr hr)) hd hfit
    simp [zcv]
  · refine zback (M' := M') (P' := P') C K hR hl hc.1 kk ?_
    refine va_runIN (As := av.map (zcv N b)) (b := N + k) (n := n) (rest := rest.map (zcv N b)) (index := idx) (host := host) (Ts := zG) (own := (z_y M).cls) (nL := z_nL M) (cc := z_cc M) (bytes := z_cc M') (maxL := z_nL M') (rm := zRm M') ⟨C.1, C.2.1, C.2.2.1, C.2.2.2.2.1, hts⟩ hE2
      ⟨va_cnB n hts (zgood_tbl w1n) rfl rfl rfl (C.2.2.2.2.2.2.2.2.2.1 _ hlk) (hts _ w2) w3 (zroomR hlv C.2.2.2.2.2.2.2.2.2.2.1 w4), w6, hts _ w5⟩ hpre rfl (by simpa using hn) hl.1 ?_ (lv_room (zstr hr)) hd hfit
    simp [zcv]
end GC
