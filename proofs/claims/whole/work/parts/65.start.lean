theorem lw_go0 {L : Nat} {xs : Nat → Int32} (hL : L ≤ 2048) : zGo (mL_law L xs) 0 [.float 0, .null, .null, .null] [] (zX.take 0) (fun _ _ => none) 0 zI0 (fun v X1 _ _ _ => X1 = zX ∧ v = some (.int 1)) := by
  have hR0 : zRi 1 0 (fun _ _ => none) := ⟨fun a a0 a1 => by omega, fun _ _ _ _ => rfl, fun j => by simp⟩
  refine g_nw (k := 0) (c := 6) (rL_law_0 L xs) (by decide) rfl ⟨Nat.zero_le _, Nat.zero_le _⟩ (show (0 : Nat) - 0 + 1 ≤ 84 ∧ zsl (zX.take 0) - 0 + zF 6 ≤ 5746 by decide +kernel) (zI0_0 0 0 (Nat.le_refl _)) (fun _ => rfl) rfl ?_
  refine g_dup (rL_law_3 L xs) rfl ?_
  refine g_cI (M' := m6_init 1 12) (k := 1) (rL_law_4 L xs 1 12) (ok6_init _ _) (by decide) ⟨Nat.zero_le _, Nat.zero_le _⟩ (show (1 : Nat) - 0 + 53 ≤ 84 ∧ zsl (zX.take 1) - 0 + 4211 ≤ 5746 by decide +kernel) (Nat.le_of_ble_eq_true rfl) (in_0 hR0) (fun v1 X1 R1 h1 I1 ⟨q1, q2, hR1, q4, q5⟩ => ?_)
  subst q1; subst q2; subst q4; subst q5
  refine g_as1 (rL_law_7 L xs) rfl ?_
  refine g_nw (k := 54) (c := 7) (rL_law_8 L xs) (by decide) rfl ⟨Nat.zero_le _, Nat.zero_le _⟩ (show (54 : Nat) - 0 + 1 ≤ 84 ∧ zsl (zX.take 54) - 0 + zF 7 ≤ 5746 by decide +kernel) (zI24_0 (u := 54) (by decide) 54 (Nat.le_refl _)) (hR1.2.1 54 (by decide) (Nat.le_refl _)) rfl ?_
  refine g_dup (rL_law_11 L xs) rfl ?_
  refine g_cI (M' := m7_init 55 4268) (k := 55) (rL_law_12 L xs 55 4268) (ok7_init _ _) (by decide) ⟨Nat.zero_le _, Nat.zero_le _⟩ (show (55 : Nat) - 0 + 29 ≤ 84 ∧ zsl (zX.take 55) - 0 + 1478 ≤ 5746 by decide +kernel) (Nat.le_of_ble_eq_true rfl) (in_54 hR1 (zI24_0 (u := 54) (by decide))) (fun v2 X2 R2 h2 I2 ⟨p1, p2, hR2, p4, p5⟩ => ?_)
  subst p1; subst p2; subst p4; subst p5
  refine g_as2 (rL_law_15 L xs) rfl ?_
  refine g_k (rL_law_16 L xs) ?_
  refine g_is3 (rL_law_17 L xs) rfl ?_
  rw [zRi_all hR2]
  exact lw_loop hL 514 0 34 44 32 33 0 zI24 (by omega) (by omega) zI24_ls (Or.inl rfl) (Or.inr rfl) (by decide)
theorem zinst : ∀ c, c < 8 → Cond.instantiable (zR c) (zF c) ∈ lw_tbl
  | 0, _ => by decide +kernel
  | 1, _ => by decide +kernel
  | 2, _ => by decide +kernel
  | 3, _ => by decide +kernel
  | 4, _ => by decide +kernel
  | 5, _ => by decide +kernel
  | 6, _ => by decide +kernel
  | 7, _ => by decide +kernel
  | n + 8, h => absurd h (by omega)
theorem zkn {s : State} {args : Array Value} (hts : ∀ w ∈ lw_tbl, w.before args s = true) : ∃ D : va_G, ∀ (c : Nat) (q : vw_C), zcl[c]? = some q → u_Kn s q.1 q.2.1 q.2.2 (D.1 c) (D.2 c) := by
  have hz : ∀ w ∈ zG, w.before args s = true := fun w hw => hts w (zG_tbl hw)
  have h8 : ∀ c, c < 8 → ∃ q : ClassId × (Nat → Nat), u_Kn s (zR c) (zT c) (zF c) q.1 q.2 := fun c hc => by
    obtain ⟨a, b, h⟩ := u_known (n := zF c) hz (zin_ok c hc) (hts _ (zinst c hc))
    exact ⟨(a, b), h⟩
  have h : ∀ c : Nat, ∃ q : ClassId × (Nat → Nat), c < 8 → u_Kn s (zR c) (zT c) (zF c) q.1 q.2 := fun c => by
    by_cases hc : c < 8
    · obtain ⟨q, hq⟩ := h8 c hc
      exact ⟨q, fun _ => hq⟩
    · obtain ⟨q, -⟩ := h8 0 (by decide)
      exact ⟨q, fun z => absurd z hc⟩
  obtain ⟨f, hf⟩ : ∃ f : Nat → ClassId × (Nat → Nat), ∀ c, c < 8 → u_Kn s (zR c) (zT c) (zF c) (f c).1 (f c).2 := ⟨fun c => Classical.choose (h c), fun c => Classical.choose_spec (h c)⟩
  refine ⟨(fun c => (f c).1, fun c => (f c).2), fun c q hq => ?_⟩
  have hc : c < 8 := (List.getElem?_eq_some_iff.mp hq).1
  rw [zcl_at c hc] at hq
  cases hq
  exact hf c hc
theorem zne {s : State} {args : Array Value} (hts : ∀ w ∈ lw_tbl, w.before args s = true) : zNe s := fun w hw => by
  have k := List.all_eq_true.mp zNl_kind w hw
  have z := hts w (zNl_tbl w hw)
  cases w with
  | methodLinkNest a i x q => exact va_Nw.of rfl z
  | _ => simp at k
theorem zar {s : State} {args : Array Value} (hts : ∀ w ∈ lw_tbl, w.before args s = true) : ∃ cI cZ : ClassId, (ArrOfT s cI .int ∧ va_RA s cI .int) ∧ (ArrOfT s cZ .boolean ∧ va_RA s cZ .boolean) := by
  obtain ⟨cI, kA, comp, hfind, hk, hkind⟩ := Cond.arrayClass_spec (hts _ (zG_tbl t_139))
  obtain ⟨cZ, kB, comp2, hfind2, hk2, hkind2⟩ := Cond.arrayClass_spec (hts _ (zG_tbl t_939))
  exact ⟨cI, cZ, ⟨fun n z => ⟨fun k h => (by cases h), kA, hk, comp, hkind⟩, hfind⟩, ⟨fun n z => ⟨fun k h => (by cases h), kB, hk2, comp2, hkind2⟩, hfind2⟩⟩
/-! THE CLAIM OUT OF ONE WALK OF THE LAW'S BODY. Your part is whole_start (and what it stands on); all else here is the same for every law, but numbers. -/
def R_law : String := "WantPlotsLaw"
def lw_P (b : Addr) (xs : List Int32) (args : Array Value) (s : State) : Prop := args = #[.ref b] ∧ s.IntsAt b xs ∧ xs.length ≤ 2048 ∧ (Jvm.Cond.and given_1 narrow_1).before args s = true
def lw_Q (_ : Array Value) (s : State) (o : Outcome) (t : State) : Prop := o = .returned (some (.int 1)) ∧ Framed s o t [] 84 5746
def lw_Z (below : List Frame) (a : Array Value) (s : State) : State → Prop := fun t => ∃ o, t.status = .running ∧ Ended t below o ∧ lw_Q a s o t
/-- the law's own end, with 1 on the stack, nothing written that was there before, its room as the claim has it -/
theorem lw_ret {p : Program} {l : Launch} {e : Env} {s : State} {m : MethodId} {below : List Frame} {meth : Method} {c : Code} {b : Nat} (hx : p.tables.exec = Jvm.exec) (hb : c.code = code) (hr : meth.sig.returnType = ret) (hlocks : meth.locks = false) {pc : Nat} {H : Heap} {ls : Array Slot} (hdg : decode code pc = .ok (.ireturn, 1)) : W p l e room_1 s m #[Value.ref b] below meth c H [] 84 5746 (lw_Z below #[Value.ref b] s) (F0 m pc ls [.int 1]) := by
  intro T hT X
  obtain ⟨fs, hret, hrun, hended, hW, hframe⟩ := X.leave (v := some (.int 1)) (hlocks := hlocks) (fun h => by rw [hr] at h; cases h)
  have hmeth' : T.vm.method? m = some meth := X.method'
  refine ⟨T.setFrames fs, ?_, .returned (some (.int 1)), hrun, hended, rfl, ⟨_, rfl⟩, hW, hframe⟩
  jvm_step X.here [X.here.top, hx, hb, hdg, hmeth', hr, ret, narrow_b1]
  (try refine ⟨rfl, ?_⟩); (try refine ⟨rfl, ?_⟩)
  first | (intro acts; rw [hret _ acts rfl rfl rfl]) | rw [hret _ _ rfl rfl rfl]
  exact Steps.refl _
/-- what holds at the law's entry: the machine, the code, the tables' words (any of lw_tbl by 'hts w (by decide +kernel)'), the script of L ints xs at the cell b, what the Statement gives of the start (any of its parts by flat_of_before) -/
def lw_At (p : Program) (s : State) (m : MethodId) (meth : Method) (c : Code) (b L : Nat) (xs : Nat → Int32) : Prop :=
  p.tables.exec = Jvm.exec ∧ c.code = code ∧ meth.sig.returnType = ret ∧ c.maxLocals = 4 ∧ s.vm.findClass R_law = some m.cls ∧ (∀ w ∈ lw_tbl, w.before #[Value.ref b] s = true) ∧ va_X b L xs s s.heap ∧ b < s.heap.size ∧ meth.locks = false ∧ (Jvm.Cond.and given_1 narrow_1).before #[Value.ref b] s = true
theorem whole_start {p : Program} {e : Env} {s : State} {m : MethodId} {below : List Frame} {meth : Method} {c : Code} (l : Launch) (hflags : l.flags = flags0) {b L : Nat} {xs : Nat → Int32} (hL : L ≤ 2048) (C0 : lw_At p s m meth c b L xs) : W p l e room_1 s m #[Value.ref b] below meth c s.heap [] 0 0 (lw_Z below #[Value.ref b] s) (entryFrame m ([Value.ref b] : List Value).toArray 4) := by
  obtain ⟨hx, hb, hr, hml, hown, hts, hX, hbl, hlocks, hgv⟩ := C0
  obtain ⟨D, hD⟩ := zkn hts
  obtain ⟨cI, cZ, hA1, hA2⟩ := zar hts
  have hK : va_K D zcl (zty cI cZ) s := ⟨hD, fun k q hq => by
    match k, hq with
    | 0, hq => cases hq; exact hA1
    | 1, hq => cases hq; exact hA2
    | k + 2, hq => simp [zty] at hq⟩
  have hC : zCx (mL_law L xs) p room_1 s m #[Value.ref b] meth c D cI cZ s.heap.size b :=
    ⟨hx, hb, hml, hr, hown, fun w hw => hts w (zG_tbl hw), hlocks, fun h => absurd (show "law" = "<init>" from h) (by decide), hK, zne hts, ⟨Nat.le_of_ble_eq_true rfl, Nat.le_of_ble_eq_true rfl, Nat.le_of_ble_eq_true rfl, Nat.le_of_ble_eq_true rfl⟩, Nat.le_refl _, ⟨hX, hbl, hbl⟩⟩
  have hl := lv_entry ([.ref b]) (n := 4) (Nat.le_of_ble_eq_true rfl)
  rw [lg_entry_eq]
  generalize (lg_sl ([.ref b]) ++ List.replicate (4 - (lg_sl ([.ref b])).length) Slot.unset).toArray = ls at hl ⊢
  have hl : lv_has ls 4 [(0, .ref b)] := hl
  refine lw_go0 hL p l e room_1 s m #[Value.ref b] below meth c D cI cZ s.heap.size b (lw_Z below #[Value.ref b] s) hC ?_ s.heap [] ls ⟨fun k q hq => by simp [zw] at hq, va_S.rf, rfl⟩ hl
  intro v X' R' h' I' H' locs' ls' pc' hp hR hret
  obtain ⟨rfl, rfl⟩ := hp
  refine va_forget (fun q hq => hR.2.1.2.2 q hq) ?_
  refine W.widen (k := 84) (n := 5746) (Nat.le_refl _) (by rw [zX_sl]; exact Nat.le_refl _) ?_
  exact lw_ret hx hb hr hlocks hret.1
set_option maxHeartbeats 4000000 in
theorem lw_walk (l : Launch) (hflags : l.flags = flags0) (b : Addr) (xs : List Int32) : MetFree l x (headSpec (Jvm.Cond.code x code maxLocals ret :: tables_1) room_1) (lw_P b xs) (fun _ _ _ _ _ => True) lw_Q := by
  refine MetFree.of_bodyS (code := code) (maxLocals := maxLocals) (ret := ret) (by decide) ?_ ?_
  · intro args s m h hn
    obtain ⟨meth, c, h1, h2, h3, h4, h5, h6, -, -⟩ := Cond.code_spec hn (atoms_spec (ws := Jvm.Cond.code x code maxLocals ret :: tables_1) h _ List.mem_cons_self)
    exact ⟨meth, c, h1, h2, h3, h4, h5, h6⟩
  · intro p e s m args below meth c s₁ B hml0 hP _
    obtain ⟨rfl, hx, hbd, hgv⟩ := hP
    obtain ⟨scr, harrAt, hlist, hof, hsmall⟩ := hx
    obtain ⟨hcb, hkn, -, -⟩ := State.arrayAt?_spec harrAt
    have hown : s.vm.findClass R_law = some m.cls := findClass_of_methodNamed B.named
    have hts0 : ∀ c ∈ (Jvm.Cond.code x code maxLocals ret :: tables_1), c.before #[Value.ref b] s = true := atoms_spec (ws := Jvm.Cond.code x code maxLocals ret :: tables_1) B.pre
    have hts : ∀ w ∈ lw_tbl, w.before #[Value.ref b] s = true := k2_hts_sels lw_privs (fun w hw => hts0 w (List.mem_cons_of_mem _ hw)) lw_privs_ok
    have hml : c.maxLocals = 4 := B.maxLocals_eq (hts0 _ List.mem_cons_self)
    have X₀ : Stand p l e room_1 s m #[Value.ref b] below meth c s₁ [] 0 0 := Stand.of_body B
    have hh0 : s₁.heap = s.heap := by rw [B.state]; rfl
    have hsz : scr.slots.size = xs.length := by rw [← Array.length_toList, hlist, List.length_map]
    have hval : ∀ j : Nat, j < xs.length → scr.slots[j]? = some (.int (xs.getD j 0)) := fun j hj => by
      rw [← Array.getElem?_toList, hlist]
      simp [hj]
    have hbl : b < s.heap.size := (Array.getElem?_eq_some_iff.mp hcb).1
    have hX : va_X b xs.length (fun j => xs.getD j 0) s s.heap := ⟨scr, hcb, hof, hkn, hsz, hval⟩
    have K : W p l e room_1 s m #[Value.ref b] below meth c s₁.heap [] 0 0 (lw_Z below #[Value.ref b] s) (entryFrame m ([Value.ref b] : List Value).toArray 4) := by
      rw [hh0]
      exact whole_start l hflags hbd ⟨B.exec, B.bytes, B.returns, hml, hown, hts, hX, hbl, B.notSynchronized, hgv⟩
    obtain ⟨t, a1, o, b1, b2, b3⟩ := K s₁ rfl X₀
    exact ⟨t, o, a1, b1, b2, b3⟩
theorem lw_pre_spec {args : Array Value} {s : State} (h : (Jvm.Cond.and given_1 narrow_1).before args s = true) (hr : rest_1_c.before args s = true) : ∃ (b : Addr) (xs : List Int32), lw_P b xs args s := by
  have hs := flat_of_before _ h
  have hq := flat_of_before _ hr
  have hc : (Cond.count 1).before args s = true := hs _ (by decide +kernel)
  have harr : (Cond.arrayOf (.arg 0) .int).before args s = true := hs _ (by decide +kernel)
  have hle : (Cond.le (.length (.arg 0)) (.int 2048)).before args s = true := hs _ (by decide +kernel)
  have hlen : (Cond.isInt (.length (.arg 0))).before args s = true := hq _ (by decide +kernel)
  have hall : (Cond.all (.arg 0) (.isInt (.elem (.arg 0) (.index 0)))).before args s = true := hq _ (by decide +kernel)
  obtain ⟨b, xs, hb, hx⟩ := State.ints_of_pre rfl harr hlen hall
  have hsm : xs.length < 2 ^ 31 := hx.choose_spec.2.2.2
  have hev : (Term.length (.arg 0)).eval args s none [] s = some (.int xs.length.toInt32) := hx.length_eval hb
  have hv := Cond.le_ints hev (show (Term.int 2048).eval args s none [] s = some (.int 2048) from rfl)
  have hd : xs.length.toInt32 ≤ 2048 := by
    simpa [Cond.before, Cond.holds, hv] using hle
  have hN : xs.length ≤ 2048 := (Int32.ofNat_le_ofNat hsm (by decide)).mp (show Int32.ofNat xs.length ≤ Int32.ofNat 2048 from hd)
  exact ⟨b, xs, Cond.one_arg hc (show args[0]? = some (.ref b) from hb), hx, hN, h⟩
theorem lw_comes (l : Launch) (hflags : l.flags = flags0) : Comes l x (Jvm.Cond.code x code maxLocals ret :: tables_1) room_1 (fun tb e args s => Calls_1 tb e args s ∧ rest_1 tb e args s ∧ Pre_1 tb e args s)
    (fun _ _ args s o t => lw_Q args s o t) := by
  intro p e ha hc hk s m args below hf hfit hheap happ hpre
  obtain ⟨b, xs, hP⟩ := lw_pre_spec hpre.2.2 hpre.2.1
  obtain ⟨k, o, h1, h2, h3, hQ⟩ := lw_walk l hflags b xs p e ha hc hk s m args below hf ((Spec.applies_iff_loose hf).mp happ).1 hP trivial
  exact ⟨k, o, h1, h2, h3, hQ⟩
theorem lw_frame {s t : State} {o : Outcome} {args : Array Value} (h : Framed s o t [] 84 5746) :
    Framed s o t (fieldLocs frame_1_writes args s ++ arrayLocs frame_1_arrays args s ++ staticLocs frame_1_statics s) 84 5746 := h
theorem lw_limb (L : Cond) (hL : ∀ (args : Array Value) (s t : State), L.after args s (.returned (some (.int 1))) t = true) :
    ArmFor flags0 classFile x code maxLocals ret World_1 tables_1 room_1 Calls_1 rest_1 Pre_1
      (fun tb e a s o t => postC L tb e a s o t ∧ Framed s o t (fieldLocs frame_1_writes a s ++ arrayLocs frame_1_arrays a s ++ staticLocs frame_1_statics s) 84 5746) := by
  intro l hflags _ _ p e ha hc hk s m args below hf hfit hheap happ hpre
  obtain ⟨k, o, h1, h2, h3, rfl, hF⟩ := lw_comes l hflags p e ha hc hk s m args below hf hfit hheap happ hpre
  exact ⟨k, _, h1, h2, h3, hL args s _, lw_frame hF⟩
theorem i_vc : Claimed_1_1 ∧ Claimed_1_2 := ⟨lw_limb limb_1_1 (fun args s t => by simp [limb_1_1, Cond.after, Cond.holds, Cond.value]), lw_limb limb_1_2 (fun args s t => Cond.after_iff.mpr (by
  first | (rw [show limb_1_2 = Cond.eq .result (.int 1) from rfl, Cond.eq_ints (x := 1) (y := 1) rfl rfl]; simp; done) | (simp [limb_1_2, Cond.value, Term.eval]; done)))⟩
