/-! A PURE MEMORY: cells by number; a cell is an array of ints (shape (0, n)), of booleans (1, n), or an object of class c (c + 2, its fields) -/
abbrev zSh : Type := Nat × Nat
abbrev zMI : Type := Nat → Nat → Int32
abbrev zMR : Type := Nat → Nat → Option Nat
/-- values: a reference is the number of a cell; a float stands for the script -/
def zcv (N b : Nat) : Value → Value
  | .ref k => .ref (N + k)
  | .float _ => .ref b
  | .int x => .int x
  | .long x => .long x
  | .double x => .double x
  | .null => .null
  | .retAddr x => .retAddr x
theorem zcv_cat (N b : Nat) (v : Value) : (zcv N b v).category = v.category := by cases v <;> rfl
def zfv (N : Nat) (t : FieldType) (i : Int32) (r : Option Nat) (h : Int64) : Value := match t with
  | .int => .int i
  | .boolean => .int i
  | .long => .long h
  | _ => va_rf (r.map (fun k => N + k))
def zce (N : Nat) (cI cZ : ClassId) (R : zMR) (h : Int64) (I : zMI) (k : Nat) (sh : zSh) : va_E := match sh.1 with
  | 0 => .inl (cI, sh.2, .inl (I k))
  | 1 => .inl (cZ, sh.2, .inl (I k))
  | c + 2 => .inr (c, (List.range sh.2).map (fun j => zfv N (zt c j) (I k j) (R k j) h))
def zw (N : Nat) (cI cZ : ClassId) (X : List zSh) (R : zMR) (h : Int64) (I : zMI) : va_W := X.mapIdx (fun k sh => (N + k, zce N cI cZ R h I k sh))
def zs (I : zMI) (k : Nat) (f : Nat → Int32) : zMI := fun a => if a = k then f else I a
def zrs (R : zMR) (k j : Nat) (r : Option Nat) : zMR := fun a b => if a = k ∧ b = j then r else R a b
theorem zs_eq (I : zMI) (k : Nat) (f : Nat → Int32) : zs I k f k = f := if_pos rfl
theorem zs_ne (I : zMI) {a k : Nat} (f : Nat → Int32) (h : a ≠ k) : zs I k f a = I a := if_neg h
theorem zw_at {N : Nat} {cI cZ : ClassId} {X : List zSh} {R : zMR} {h : Int64} {I : zMI} {k : Nat} {sh : zSh} (hk : X[k]? = some sh) : (zw N cI cZ X R h I)[k]? = some (N + k, zce N cI cZ R h I k sh) := by
  simp [zw, List.getElem?_mapIdx, hk]
theorem zw_inv {N : Nat} {cI cZ : ClassId} {X : List zSh} {R : zMR} {h : Int64} {I : zMI} {k : Nat} {q : Nat × va_E} (hk : (zw N cI cZ X R h I)[k]? = some q) : ∃ sh, X[k]? = some sh ∧ q = (N + k, zce N cI cZ R h I k sh) := by
  simp only [zw, List.getElem?_mapIdx, Option.map_eq_some_iff] at hk
  obtain ⟨sh, h1, h2⟩ := hk
  exact ⟨sh, h1, h2.symm⟩
theorem zw_D (N : Nat) (cI cZ : ClassId) (X : List zSh) (R : zMR) (h : Int64) (I : zMI) : va_D (fun q : Nat => N ≤ q) (zw N cI cZ X R h I) := by
  refine ⟨fun i j p q hi hj e => ?_, fun k q hk => ?_⟩
  · obtain ⟨_, _, rfl⟩ := zw_inv hi
    obtain ⟨_, _, rfl⟩ := zw_inv hj
    have : N + i = N + j := e
    omega
  · obtain ⟨_, _, rfl⟩ := zw_inv hk
    exact Nat.le_add_right N k
theorem zw_set {N : Nat} {cI cZ : ClassId} {X : List zSh} {R R' : zMR} {h h' : Int64} {I I' : zMI} {k : Nat} {sh : zSh} (hk : X[k]? = some sh) (ho : ∀ a sh', a ≠ k → X[a]? = some sh' → zce N cI cZ R' h' I' a sh' = zce N cI cZ R h I a sh') : (zw N cI cZ X R h I).set k (N + k, zce N cI cZ R' h' I' k sh) = zw N cI cZ X R' h' I' := by
  apply List.ext_getElem?
  intro a
  have hl : k < (zw N cI cZ X R h I).length := (List.getElem?_eq_some_iff.mp (zw_at hk)).1
  by_cases e : a = k
  · subst e
    rw [List.getElem?_set_self hl, zw_at hk]
  · rw [List.getElem?_set_ne (Ne.symm e)]
    cases hx : X[a]? with
    | none => simp [zw, List.getElem?_mapIdx, hx]
    | some sh' => rw [zw_at hx, zw_at hx, ho a sh' e hx]
theorem zce_row (N : Nat) (cI cZ : ClassId) (R : zMR) (h : Int64) (I : zMI) {a k : Nat} (f : Nat → Int32) (sh : zSh) (e : a ≠ k) : zce N cI cZ R h (zs I k f) a sh = zce N cI cZ R h I a sh := by
  simp only [zce, zs_ne I f e]
theorem zmap_set {n j : Nat} (g g' : Nat → Value) (v : Value) (hj : g' j = v) (ho : ∀ i, i < n → i ≠ j → g' i = g i) : ((List.range n).map g).set j v = (List.range n).map g' := by
  apply List.ext_getElem?
  intro a
  by_cases e : a = j
  · subst e
    by_cases hn : a < n
    · rw [List.getElem?_set_self (by simpa using hn)]
      simp [hn, hj]
    · rw [List.getElem?_eq_none (by simpa using hn), List.getElem?_eq_none (by simpa using hn)]
  · rw [List.getElem?_set_ne (Ne.symm e)]
    by_cases hn : a < n
    · simp [hn, ho a hn e]
    · rw [List.getElem?_eq_none (by simpa using hn), List.getElem?_eq_none (by simpa using hn)]
def zsl (X : List zSh) : Nat := (X.map (fun q => q.2)).sum
/-- the heap holds the memory -/
def zRp (D : va_G) (cI cZ : ClassId) (N : Nat) (X : List zSh) (R : zMR) (h : Int64) (I : zMI) (s : State) (H : Heap) (locs : List Loc) : Prop :=
  va_P D zcl (zw N cI cZ X R h I) H ∧ va_S (fun q : Nat => N ≤ q) s.heap H locs ∧ H.size = N + X.length
/-- a method: its name, code, locals, answer's type, level, (cells and slots at its start, that it makes), the script -/
abbrev zM : Type := MethodName × ByteArray × Nat × Option FieldType × Nat × (Nat × Nat × Nat × Nat) × Option (Nat × (Nat → Int32))
abbrev z_y (M : zM) : MethodName := M.1
abbrev z_cc (M : zM) : ByteArray := M.2.1
abbrev z_nL (M : zM) : Nat := M.2.2.1
abbrev z_ret (M : zM) : Option FieldType := M.2.2.2.1
abbrev z_lv (M : zM) : Nat := M.2.2.2.2.1
abbrev z_x0 (M : zM) : Nat := M.2.2.2.2.2.1.1
abbrev z_s0 (M : zM) : Nat := M.2.2.2.2.2.1.2.1
abbrev z_mc (M : zM) : Nat := M.2.2.2.2.2.1.2.2.1
abbrev z_ms (M : zM) : Nat := M.2.2.2.2.2.1.2.2.2
abbrev z_sc (M : zM) : Option (Nat × (Nat → Int32)) := M.2.2.2.2.2.2
def dc (M : zM) (pc : Nat) := decode (z_cc M) pc
def zSC (sc : Option (Nat × (Nat → Int32))) (b N : Nat) (s : State) : Prop := match sc with
  | none => True
  | some q => va_X b q.1 q.2 s s.heap ∧ b < s.heap.size ∧ b < N
abbrev zty (cI cZ : ClassId) : List (ClassId × FieldType) := [(cI, .int), (cZ, .boolean)]
def zCx (M : zM) (p : Program) (R : Room) (s : State) (m : MethodId) (args : Array Value) (meth : Method) (c : Code) (D : va_G) (cI cZ : ClassId) (N b : Nat) : Prop :=
  p.tables.exec = Jvm.exec ∧ c.code = z_cc M ∧ c.maxLocals = z_nL M ∧ meth.sig.returnType = z_ret M ∧ s.vm.findClass (z_y M).cls = some m.cls ∧ (∀ w ∈ zG, w.before args s = true) ∧ meth.locks = false ∧ ((z_y M).name = "<init>" → meth.name = "<init>") ∧ va_K D zcl (zty cI cZ) s ∧ zNe s ∧ (z_lv M ≤ R.frames ∧ 36 * z_lv M ≤ R.locals ∧ z_mc M ≤ R.cells ∧ z_ms M ≤ R.slots) ∧ N ≤ s.heap.size ∧ zSC (z_sc M) b N s
abbrev zPost : Type := Option Value → List zSh → zMR → Int64 → zMI → Prop
def zRet (M : zM) (pc : Nat) (v : Option Value) : Prop := match v with
  | none => dc M pc = .ok (.return_, 1) ∧ z_ret M = none
  | some (.int x) => dc M pc = .ok (.ireturn, 1) ∧ ((z_ret M = some .int) ∨ (z_ret M = some .boolean ∧ (x = 0 ∨ x = 1)))
  | some (.long _) => dc M pc = .ok (.lreturn, 1) ∧ z_ret M = some .long
  | _ => False
def zlva (N b : Nat) : Nat → List Value → List (Nat × Value)
  | _, [] => []
  | i, v :: r => match v with
    | .null => zlva N b (i + 1) r
    | v => (i, zcv N b v) :: zlva N b (i + 1) r
/-- the method goes from here to an end with P -/
def zGo (M : zM) (pc : Nat) (lv st : List Value) (X : List zSh) (R : zMR) (h : Int64) (I : zMI) (P : zPost) : Prop :=
  ∀ (p : Program) (l : Launch) (e : Env) (Rm : Room) (s : State) (m : MethodId) (args : Array Value) (below : List Frame) (meth : Method) (c : Code) (D : va_G) (cI cZ : ClassId) (N b : Nat) (Q : State → Prop),
    zCx M p Rm s m args meth c D cI cZ N b →
    (∀ (v : Option Value) (X' : List zSh) (R' : zMR) (h' : Int64) (I' : zMI) (H' : Heap) (locs' : List Loc) (ls' : Array Slot) (pc' : Nat), P v X' R' h' I' → zRp D cI cZ N X' R' h' I' s H' locs' → zRet M pc' v →
      W p l e Rm s m args below meth c H' locs' (X'.length - z_x0 M) (zsl X' - z_s0 M) Q (F0 m pc' ls' (v.toList.map (zcv N b)))) →
    ∀ (H : Heap) (locs : List Loc) (ls : Array Slot), zRp D cI cZ N X R h I s H locs → lv_has ls (z_nL M) (zlva N b 0 lv) →
      W p l e Rm s m args below meth c H locs (X.length - z_x0 M) (zsl X - z_s0 M) Q (F0 m pc ls (st.map (zcv N b)))
def zRm (M : zM) : Room := { frames := z_lv M, cells := z_mc M, slots := z_ms M, locals := 36 * z_lv M }
/-- a method's contract -/
def zEv (M : zM) (X : List zSh) (R : zMR) (h : Int64) (I : zMI) (av : List Value) (P : zPost) : Prop :=
  ∀ (l : Launch) (D : va_G) (cI cZ : ClassId) (N b : Nat), Met l (z_y M) (Cond.code (z_y M) (z_cc M) (z_nL M) (z_ret M) :: zG) (zRm M)
    (va_Pc (av.map (zcv N b)) (fun U => U.heap.size = N + X.length ∧ va_P D zcl (zw N cI cZ X R h I) U.heap ∧ va_K D zcl (zty cI cZ) U ∧ zNe U))
    (fun _ st oc t => (∃ (v : Option Value) (X' : List zSh) (R' : zMR) (h' : Int64) (I' : zMI), oc = .returned (v.map (zcv N b)) ∧ P v X' R' h' I' ∧ va_P D zcl (zw N cI cZ X' R' h' I') t.heap ∧ t.heap.size = N + X'.length ∧ X'.length = X.length + z_mc M ∧ zsl X' = zsl X + z_ms M) ∧ va_F (fun q : Nat => N ≤ q) st t)
    (z_mc M) (z_ms M) (fun q : Nat => N ≤ q)
theorem zlva_mem {N b : Nat} : ∀ {lv : List Value} {i : Nat} {q : Nat × Value}, q ∈ zlva N b i lv ↔ ∃ j v, lv[j]? = some v ∧ v ≠ .null ∧ q = (i + j, zcv N b v) := by
  intro lv
  induction lv with
  | nil => intro i q; simp [zlva]
  | cons w r ih =>
    intro i q
    have key : (∃ j v, (w :: r)[j]? = some v ∧ v ≠ .null ∧ q = (i + j, zcv N b v)) ↔ (w ≠ .null ∧ q = (i, zcv N b w)) ∨ ∃ j v, r[j]? = some v ∧ v ≠ .null ∧ q = (i + 1 + j, zcv N b v) := by
      constructor
      · rintro ⟨j, v, h1, h2, h3⟩
        cases j with
        | zero => simp at h1; subst h1; exact Or.inl ⟨h2, h3⟩
        | succ j => simp at h1; exact Or.inr ⟨j, v, h1, h2, by rw [h3]; congr 1; omega⟩
      · rintro (⟨h1, h2⟩ | ⟨j, v, h1, h2, h3⟩)
        · exact ⟨0, w, rfl, h1, h2⟩
        · exact ⟨j + 1, v, by simpa using h1, h2, by rw [h3]; congr 1; omega⟩
    rw [key]
    cases w <;> simp [zlva, ih]
/-- fewer or equal -/
theorem zlva_has {ls : Array Slot} {n N b : Nat} {lv : List Value} {l : List (Nat × Value)} (h : lv_has ls n l) (hs : ∀ q ∈ zlva N b 0 lv, q ∈ l) : lv_has ls n (zlva N b 0 lv) := ⟨h.1, h.2.1, fun q hq => h.2.2 q (hs q hq)⟩
theorem zlva_get {ls : Array Slot} {n N b i : Nat} {lv : List Value} {v : Value} (h : lv_has ls n (zlva N b 0 lv)) (hv : lv[i]? = some v) (hn : v ≠ .null) : ls[i]? = some (.val (zcv N b v)) := by
  have := h.2.2 (0 + i, zcv N b v) (zlva_mem.mpr ⟨i, v, hv, hn, rfl⟩)
  rwa [Nat.zero_add] at this
/-- is the place ahead of i no long? -/
def zok (lv : List Value) (i : Nat) : Bool := match i with
  | 0 => true
  | i + 1 => match lv[i]? with
    | some v => v.category == 1
    | none => true
theorem zlva_set1 {N b i : Nat} {lv : List Value} {v : Value} (ho : zok lv i = true) : ∀ q ∈ zlva N b 0 (lv.set i v), q ∈ (i, zcv N b v) :: (zlva N b 0 lv).filter (fun q => !(q.1 == i) && !(q.1 + 1 == i && q.2.category == 2)) := by
  intro q hq
  obtain ⟨j, w, h1, h2, h3⟩ := zlva_mem.mp hq
  by_cases e : j = i
  · subst e
    have hl : j < lv.length := by
      have := (List.getElem?_eq_some_iff.mp h1).1
      simpa using this
    rw [List.getElem?_set_self hl] at h1
    cases h1
    rw [h3, Nat.zero_add]
    exact List.mem_cons_self
  · rw [List.getElem?_set_ne (Ne.symm e)] at h1
    refine List.mem_cons_of_mem _ (List.mem_filter.mpr ⟨zlva_mem.mpr ⟨j, w, h1, h2, h3⟩, ?_⟩)
    subst h3
    simp only [Nat.zero_add, zcv_cat, Bool.and_eq_true, Bool.not_eq_true', beq_eq_false_iff_ne, ne_eq, Bool.and_eq_false_iff]
    refine ⟨e, ?_⟩
    by_cases e2 : j + 1 = i
    · subst e2
      right
      simp only [zok, h1, beq_iff_eq] at ho
      omega
    · exact Or.inl e2
theorem zlva_set2 {N b i : Nat} {lv : List Value} {v : Value} (ho : zok lv i = true) : ∀ q ∈ zlva N b 0 ((lv.set i v).set (i + 1) .null), q ∈ (i, zcv N b v) :: (zlva N b 0 lv).filter (fun q => !(q.1 == i) && (!(q.1 == i + 1) && !(q.1 + 1 == i && q.2.category == 2))) := by
  intro q hq
  obtain ⟨j, w, h1, h2, h3⟩ := zlva_mem.mp hq
  by_cases e1 : j = i + 1
  · subst e1
    have hl : i + 1 < (lv.set i v).length := by
      have := (List.getElem?_eq_some_iff.mp h1).1
      simpa using this
    rw [List.getElem?_set_self hl] at h1
    cases h1
    exact absurd rfl h2
  rw [List.getElem?_set_ne (Ne.symm e1)] at h1
  by_cases e : j = i
  · subst e
    have hl : j < lv.length := by
      have := (List.getElem?_eq_some_iff.mp h1).1
      simpa using this
    rw [List.getElem?_set_self hl] at h1
    cases h1
    rw [h3, Nat.zero_add]
    exact List.mem_cons_self
  · rw [List.getElem?_set_ne (Ne.symm e)] at h1
    refine List.mem_cons_of_mem _ (List.mem_filter.mpr ⟨zlva_mem.mpr ⟨j, w, h1, h2, h3⟩, ?_⟩)
    subst h3
    simp only [Nat.zero_add, zcv_cat, Bool.and_eq_true, Bool.not_eq_true', beq_eq_false_iff_ne, ne_eq, Bool.and_eq_false_iff]
    refine ⟨e, e1, ?_⟩
    by_cases e2 : j + 1 = i
    · subst e2
      right
      simp only [zok, h1, beq_iff_eq] at ho
      omega
    · exact Or.inl e2
