section GA
variable {M : zM} {pc nx tgt : Nat} {lv rest : List Value} {X : List zSh} {R : zMR} {h : Int64} {I : zMI} {P : zPost}
theorem zw_push {N : Nat} {cI cZ : ClassId} (sh : zSh) : zw N cI cZ (X ++ [sh]) R h I = zw N cI cZ X R h I ++ [(N + X.length, zce N cI cZ R h I X.length sh)] := by
  simp [zw, List.mapIdx_append]
theorem zsl_push (sh : zSh) : zsl (X ++ [sh]) = zsl X + sh.2 := by simp [zsl]
def dNW (M : zM) (pc c nx : Nat) : Prop := ∃ idx : Nat, decode (z_cc M) pc = .ok (.new idx, 3) ∧ Cond.classLink (z_y M).cls idx (zR c) ∈ zG ∧ Cond.instantiable (zR c) (zF c) ∈ zG ∧ Cond.initialized (zR c) ∈ zG ∧ c < 8 ∧ pc + 3 = nx
def dNA (M : zM) (pc : Nat) (at_ : ArrayType) (nx : Nat) : Prop := decode (z_cc M) pc = .ok (.newarray at_, 2) ∧ Cond.arrayClass (newarray.typeOf at_) ∈ zG ∧ pc + 2 = nx
def dOI (M : zM) (pc nx : Nat) : Prop := ∃ idx : Nat, decode (z_cc M) pc = .ok (.invokespecial idx, 3) ∧ Cond.methodLink (z_y M).cls idx objectInit ∈ zG ∧ 1 ≤ z_lv M ∧ pc + 3 = nx
def dMX (M : zM) (pc : Nat) (y : MethodName) (nx : Nat) : Prop := ∃ idx : Nat, decode (z_cc M) pc = .ok (.invokestatic idx, 3) ∧ Cond.methodLink (z_y M).cls idx y ∈ zG ∧ 1 ≤ z_lv M ∧ pc + 3 = nx
theorem zoi_1 : Cond.instanceMethod objectInit ∈ zG := zG_of (by decide +kernel) rfl
theorem zoi_2 : Cond.code objectInit ⟨#[0xb1]⟩ 1 none ∈ zG := zG_of (by decide +kernel) rfl
theorem zmx_1 : Cond.static Lib.Math.max.name ∈ zG := zG_of (by decide +kernel) rfl
theorem zmx_2 : Cond.code Lib.Math.max.name Lib.Math.max.code 2 (some .int) ∈ zG := zG_of (by decide +kernel) rfl
theorem zmx_3 : Cond.static Lib.Math.min.name ∈ zG := zG_of (by decide +kernel) rfl
theorem zmx_4 : Cond.code Lib.Math.min.name Lib.Math.min.code 2 (some .int) ∈ zG := zG_of (by decide +kernel) rfl
theorem zmx_5 : Cond.initialized "java/lang/Math" ∈ zG := zG_of (by decide +kernel) rfl
theorem g_oi {k : Nat} (hd : dOI M pc nx) (hr : (rest.map fun v => v.category).sum ≤ 8) (kk : zGo M nx lv rest X R h I P) : zGo M pc lv (.ref k :: rest) X R h I P := by
  intro p l e Rm s m args below meth cd D cI cZ N b Q C K H locs ls hR hl
  obtain ⟨idx, hd, hlk, hlv, rfl⟩ := hd
  have hts := C.2.2.2.2.2.1
  have hrm := C.2.2.2.2.2.2.2.2.2.2.1
  exact W.objInit C.1 C.2.1 C.2.2.2.2.1 (hts _ hlk) (hts _ zoi_1) (hts _ zoi_2) rfl (hl.1.trans C.2.2.1.symm) rfl hd (Nat.le_trans hlv hrm.1) (by have := zstr (N := N) (b := b) hr; show 2 * 0 + _ + 12 ≤ _; omega) (kk p l e Rm s m args below meth cd D cI cZ N b Q C K H locs ls hR hl)
theorem g_mmax {x y : Int32} (hd : dMX M pc Lib.Math.max.name nx) (hr : (rest.map fun v => v.category).sum ≤ 8) (hc : X.length - z_x0 M ≤ z_mc M ∧ zsl X - z_s0 M ≤ z_ms M) (kk : zGo M nx lv (.int (if x < y then y else x) :: rest) X R h I P) : zGo M pc lv (.int y :: .int x :: rest) X R h I P := by
  intro p l e Rm s m args below meth cd D cI cZ N b Q C K H locs ls hR hl
  obtain ⟨idx, hd, hlk, hlv, rfl⟩ := hd
  have hts := C.2.2.2.2.2.1
  have hrm := C.2.2.2.2.2.2.2.2.2.2.1
  exact va_mmax C.1 C.2.1 (C.2.2.1.trans hl.1.symm) C.2.2.2.2.1 (hts _ hlk) (hts _ zmx_1) (hts _ zmx_5) (hts _ zmx_2) (Nat.le_trans hlv hrm.1) (by have := zstr (N := N) (b := b) hr; omega) (Nat.le_trans hc.1 hrm.2.2.1) (Nat.le_trans hc.2 hrm.2.2.2) hd (kk p l e Rm s m args below meth cd D cI cZ N b Q C K H locs ls hR hl)
theorem g_mmin {x y : Int32} (hd : dMX M pc Lib.Math.min.name nx) (hr : (rest.map fun v => v.category).sum ≤ 8) (hc : X.length - z_x0 M ≤ z_mc M ∧ zsl X - z_s0 M ≤ z_ms M) (kk : zGo M nx lv (.int (if y < x then y else x) :: rest) X R h I P) : zGo M pc lv (.int y :: .int x :: rest) X R h I P := by
  intro p l e Rm s m args below meth cd D cI cZ N b Q C K H locs ls hR hl
  obtain ⟨idx, hd, hlk, hlv, rfl⟩ := hd
  have hts := C.2.2.2.2.2.1
  have hrm := C.2.2.2.2.2.2.2.2.2.2.1
  exact va_mmin C.1 C.2.1 (C.2.2.1.trans hl.1.symm) C.2.2.2.2.1 (hts _ hlk) (hts _ zmx_3) (hts _ zmx_5) (hts _ zmx_4) (Nat.le_trans hlv hrm.1) (by have := zstr (N := N) (b := b) hr; omega) (Nat.le_trans hc.1 hrm.2.2.1) (Nat.le_trans hc.2 hrm.2.2.2) hd (kk p l e Rm s m args below meth cd D cI cZ N b Q C K H locs ls hR hl)
theorem g_sld {L : Nat} {xs : Nat → Int32} {x : UInt32} {i : Int32} (hd : dO M pc .iaload nx) (hsc : z_sc M = some (L, xs)) (hi : vp_in i L) (kk : zGo M nx lv (.int (xs i.toNatClampNeg) :: rest) X R h I P) : zGo M pc lv (.int i :: .float x :: rest) X R h I P := by
  intro p l e Rm s m args below meth cd D cI cZ N b Q C K H locs ls hR hl
  obtain ⟨hd, rfl⟩ := hd
  have hS := C.2.2.2.2.2.2.2.2.2.2.2.2
  rw [hsc] at hS
  obtain ⟨h1, h2, h3⟩ := hS
  exact va_sld (A := fun q : Nat => N ≤ q) C.1 C.2.1 h1 h2 (Nat.not_le.mpr h3) hR.2.1 hi hd (kk p l e Rm s m args below meth cd D cI cZ N b Q C K H locs ls hR hl)
theorem g_slen {L : Nat} {xs : Nat → Int32} {x : UInt32} (hd : dO M pc .arraylength nx) (hsc : z_sc M = some (L, xs)) (kk : zGo M nx lv (.int (nI L) :: rest) X R h I P) : zGo M pc lv (.float x :: rest) X R h I P := by
  intro p l e Rm s m args below meth cd D cI cZ N b Q C K H locs ls hR hl
  obtain ⟨hd, rfl⟩ := hd
  have hS := C.2.2.2.2.2.2.2.2.2.2.2.2
  rw [hsc] at hS
  obtain ⟨h1, h2, h3⟩ := hS
  exact va_slen (A := fun q : Nat => N ≤ q) C.1 C.2.1 h1 h2 (Nat.not_le.mpr h3) hR.2.1 hd (kk p l e Rm s m args below meth cd D cI cZ N b Q C K H locs ls hR hl)
theorem zpushS {D : va_G} {cI cZ : ClassId} {N : Nat} {s : State} {H H1 : Heap} {locs : List Loc} {sh : zSh} (hR : zRp D cI cZ N X R h I s H locs) (z1 : H1.size = N + X.length + 1) (o1 : ∀ q, q < N + X.length → H1[q]? = H[q]?) (hat : va_at D zcl (N + X.length, zce N cI cZ R h I X.length sh) H1) : zRp D cI cZ N (X ++ [sh]) R h I s H1 locs := by
  have hk : ∀ (k : Nat) (x : Nat × va_E), (zw N cI cZ X R h I)[k]? = some x → H1[x.1]? = H[x.1]? := fun k x hx => o1 x.1 (by rw [← hR.2.2]; exact (hR.1 k x hx).lt)
  refine ⟨?_, ⟨by rw [z1]; have := hR.2.1.1; have := hR.2.2; omega, fun x h1 h2 => (o1 x (by have := hR.2.1.1; have := hR.2.2; omega)).trans (hR.2.1.2.1 x h1 h2), hR.2.1.2.2⟩, by rw [z1]; simp; omega⟩
  rw [zw_push]
  refine (hR.1.kept hk).app (fun k x hx => ?_)
  have hz : k < 1 := (List.getElem?_eq_some_iff.mp hx).1
  rw [show k = 0 by omega] at hx
  cases hx
  exact hat
def zkind : FieldType → Bool
  | .int => true
  | .boolean => true
  | .long => true
  | .object _ => true
  | .array _ => true
  | _ => false
theorem zt_kind : ∀ c, c < 8 → ∀ j, j < zF c → zkind (zt c j) = true := by decide +kernel
theorem zt_def (N : Nat) (t : FieldType) (h : zkind t = true) : defaultValue t = zfv N t 0 none 0 := by
  cases t <;> first | rfl | (simp [zkind] at h)
theorem g_new {c : Nat} (hd : dNW M pc c nx) (hx : z_x0 M ≤ X.length ∧ z_s0 M ≤ zsl X) (hc : X.length - z_x0 M + 1 ≤ z_mc M ∧ zsl X - z_s0 M + zF c ≤ z_ms M) (hI : ∀ j, I X.length j = 0) (hRn : ∀ j, R X.length j = none) (hh : h = 0) (kk : zGo M nx lv (.ref X.length :: rest) (X ++ [(c + 2, zF c)]) R h I P) : zGo M pc lv rest X R h I P := by
  intro p l e Rm s m args below meth cd D cI cZ N b Q C K H locs ls hR hl
  obtain ⟨idx, hd, hw1, hw2, hw3, hc8, rfl⟩ := hd
  have hts := C.2.2.2.2.2.1
  have hrm := C.2.2.2.2.2.2.2.2.2.2.1
  have hK := C.2.2.2.2.2.2.2.2.1
  have hKn := hK.1 c _ (zcl_at c hc8)
  refine W.newcK C.1 C.2.1 C.2.2.2.2.1 (hts _ hw1) (hts _ hw2) (hts _ hw3) rfl hd (Nat.le_trans hc.1 hrm.2.2.1) (Nat.le_trans hc.2 hrm.2.2.2) hKn.2.1 hR.2.2 fun H1 kC hkC e1 z1 o1 => ?_
  have hat : va_at D zcl (N + X.length, zce N cI cZ R h I X.length (c + 2, zF c)) H1 := by
    refine ⟨_, zcl_at c hc8, (u_born (zt c) hts (zin_ok c hc8) hKn hkC e1 (zty_ok c hc8)).to (fun j hj => ?_)⟩
    show defaultValue (zt c j) = vp_V _ j
    have hj2 : j < zF c := hj
    simp only [vp_V, List.getD_eq_getElem?_getD, hI, hRn, hh]
    rw [List.getElem?_map, List.getElem?_range hj2]
    exact zt_def N _ (zt_kind c hc8 j hj)
  have hR2 := zpushS hR z1 o1 hat
  have hz1 : (X ++ [(c + 2, zF c)]).length - z_x0 M = X.length - z_x0 M + 1 := by simp; omega
  have hz2 : zsl (X ++ [(c + 2, zF c)]) - z_s0 M = zsl X - z_s0 M + zF c := by rw [zsl_push]; omega
  have key := kk p l e Rm s m args below meth cd D cI cZ N b Q C K H1 locs ls hR2 hl
  rw [hz1, hz2] at key
  exact key
theorem zarr {D : va_G} {cI cZ : ClassId} {s : State} (hK : va_K D zcl (zty cI cZ) s) : s.vm.findClass ("[" ++ (FieldType.int).toString) = some cI ∧ s.vm.findClass ("[" ++ (FieldType.boolean).toString) = some cZ := ⟨(hK.2 0 _ rfl).2, (hK.2 1 _ rfl).2⟩
theorem g_newi {n : Nat} (hd : dNA M pc .int nx) (hx : z_x0 M ≤ X.length ∧ z_s0 M ≤ zsl X) (hn : n ≤ 1000) (hc : X.length - z_x0 M + 1 ≤ z_mc M ∧ zsl X - z_s0 M + n ≤ z_ms M) (hI : ∀ j, I X.length j = 0) (kk : zGo M nx lv (.ref X.length :: rest) (X ++ [(0, n)]) R h I P) : zGo M pc lv (.int (nI n) :: rest) X R h I P := by
  intro p l e Rm s m args below meth cd D cI cZ N b Q C K H locs ls hR hl
  obtain ⟨hd, hw, rfl⟩ := hd
  have hts := C.2.2.2.2.2.1
  have hrm := C.2.2.2.2.2.2.2.2.2.2.1
  refine va_newaK (N := n) C.1 C.2.1 (hts _ hw) rfl hd rfl (nI_pos (by omega)) (nI_clamp (by omega)) (by show n * 4 ≤ _; omega) (Nat.le_trans hc.1 hrm.2.2.1) (Nat.le_trans hc.2 hrm.2.2.2) hR.2.2 fun H1 cA e1 z1 o1 _ hfc => ?_
  have hcA : cA = cI := Option.some.inj (hfc.symm.trans (zarr C.2.2.2.2.2.2.2.2.1).1)
  subst hcA
  have hat : va_at D zcl (N + X.length, zce N cA cZ R h I X.length (0, n)) H1 := by
    show H1[N + X.length]? = some (vp_cell cA (n, .inl (I X.length)))
    rw [vp_cell_i, e1]
    congr 2
    funext j
    rw [hI]; rfl
  have hR2 := zpushS hR z1 o1 hat
  have hz1 : (X ++ [(0, n)]).length - z_x0 M = X.length - z_x0 M + 1 := by simp; omega
  have hz2 : zsl (X ++ [(0, n)]) - z_s0 M = zsl X - z_s0 M + n := by rw [zsl_push]; omega
  have key := kk p l e Rm s m args below meth cd D cA cZ N b Q C K H1 locs ls hR2 hl
  rw [hz1, hz2] at key
  exact key
theorem g_newz {n : Nat} (hd : dNA M pc .boolean nx) (hx : z_x0 M ≤ X.length ∧ z_s0 M ≤ zsl X) (hn : n ≤ 1000) (hc : X.length - z_x0 M + 1 ≤ z_mc M ∧ zsl X - z_s0 M + n ≤ z_ms M) (hI : ∀ j, I X.length j = 0) (kk : zGo M nx lv (.ref X.length :: rest) (X ++ [(1, n)]) R h I P) : zGo M pc lv (.int (nI n) :: rest) X R h I P := by
  intro p l e Rm s m args below meth cd D cI cZ N b Q C K H locs ls hR hl
  obtain ⟨hd, hw, rfl⟩ := hd
  have hts := C.2.2.2.2.2.1
  have hrm := C.2.2.2.2.2.2.2.2.2.2.1
  refine va_newaK (N := n) C.1 C.2.1 (hts _ hw) rfl hd rfl (nI_pos (by omega)) (nI_clamp (by omega)) (by show n * 1 ≤ _; omega) (Nat.le_trans hc.1 hrm.2.2.1) (Nat.le_trans hc.2 hrm.2.2.2) hR.2.2 fun H1 cA e1 z1 o1 _ hfc => ?_
  have hcA : cA = cZ := Option.some.inj (hfc.symm.trans (zarr C.2.2.2.2.2.2.2.2.1).2)
  subst hcA
  have hat : va_at D zcl (N + X.length, zce N cI cA R h I X.length (1, n)) H1 := by
    show H1[N + X.length]? = some (vp_cell cA (n, .inl (I X.length)))
    rw [vp_cell_i, e1]
    congr 2
    funext j
    rw [hI]; rfl
  have hR2 := zpushS hR z1 o1 hat
  have hz1 : (X ++ [(1, n)]).length - z_x0 M = X.length - z_x0 M + 1 := by simp; omega
  have hz2 : zsl (X ++ [(1, n)]) - z_s0 M = zsl X - z_s0 M + n := by rw [zsl_push]; omega
  have key := kk p l e Rm s m args below meth cd D cI cA N b Q C K H1 locs ls hR2 hl
  rw [hz1, hz2] at key
  exact key
end GA
