/-! what stands at a place of a method's code -/
def dO (M : zM) (pc : Nat) (ins : Instr) (nx : Nat) : Prop := decode (z_cc M) pc = .ok (ins, 1) ∧ pc + 1 = nx
def dJ (M : zM) (pc : Nat) (ins : Int → Instr) (nx tgt : Nat) : Prop := ∃ off : Int, decode (z_cc M) pc = .ok (ins off, 3) ∧ (pc : Int) + off = (tgt : Int) ∧ pc + 3 = nx
def dKI (M : zM) (pc : Nat) (v : Int32) (nx : Nat) : Prop := (∃ n : Int, decode (z_cc M) pc = .ok (.iconst n, 1) ∧ Int32.ofInt n = v ∧ pc + 1 = nx) ∨ (∃ n : Int, decode (z_cc M) pc = .ok (.bipush n, 2) ∧ (Int8.ofInt n).toInt32 = v ∧ pc + 2 = nx) ∨ (∃ n : Int, decode (z_cc M) pc = .ok (.sipush n, 3) ∧ (Int16.ofInt n).toInt32 = v ∧ pc + 3 = nx) ∨ (∃ i : Nat, decode (z_cc M) pc = .ok (.ldc i, 2) ∧ Cond.constant (z_y M).cls i v ∈ zG ∧ pc + 2 = nx) ∨ (∃ i : Nat, decode (z_cc M) pc = .ok (.ldc_w i, 3) ∧ Cond.constant (z_y M).cls i v ∈ zG ∧ pc + 3 = nx)
def dKL (M : zM) (pc : Nat) (v : Int64) (nx : Nat) : Prop := ∃ i : Nat, decode (z_cc M) pc = .ok (.ldc2_w i, 3) ∧ Cond.constantLong (z_y M).cls i v ∈ zG ∧ pc + 3 = nx
def dII (M : zM) (pc i : Nat) (v : Int32) (nx : Nat) : Prop := ∃ n : Int, decode (z_cc M) pc = .ok (.iinc i n, 3) ∧ Int32.ofInt n = v ∧ pc + 3 = nx ∧ i < z_nL M
def dGF (M : zM) (pc c j nx : Nat) : Prop := ∃ idx : Nat, decode (z_cc M) pc = .ok (.getfield idx, 3) ∧ Cond.fieldLink (z_y M).cls idx (zT c j).1 (zT c j).2.1 (zT c j).2.2.1 ∈ zG ∧ (c < 8 ∧ j < zF c) ∧ pc + 3 = nx
def dPF (M : zM) (pc c j nx : Nat) : Prop := ∃ idx : Nat, decode (z_cc M) pc = .ok (.putfield idx, 3) ∧ Cond.fieldLink (z_y M).cls idx (zT c j).1 (zT c j).2.1 (zT c j).2.2.1 ∈ zG ∧ (c < 8 ∧ j < zF c) ∧ pc + 3 = nx
def dIL (M : zM) (pc i nx : Nat) : Prop := ((∃ k : Fin 4, decode (z_cc M) pc = .ok (.iload_n k, 1) ∧ (k : Nat) = i ∧ pc + 1 = nx) ∨ (decode (z_cc M) pc = .ok (.iload i, 2) ∧ pc + 2 = nx))
def dAL (M : zM) (pc i nx : Nat) : Prop := ((∃ k : Fin 4, decode (z_cc M) pc = .ok (.aload_n k, 1) ∧ (k : Nat) = i ∧ pc + 1 = nx) ∨ (decode (z_cc M) pc = .ok (.aload i, 2) ∧ pc + 2 = nx))
def dLL (M : zM) (pc i nx : Nat) : Prop := ((∃ k : Fin 4, decode (z_cc M) pc = .ok (.lload_n k, 1) ∧ (k : Nat) = i ∧ pc + 1 = nx) ∨ (decode (z_cc M) pc = .ok (.lload i, 2) ∧ pc + 2 = nx))
def dIS (M : zM) (pc i nx : Nat) : Prop := ((∃ k : Fin 4, decode (z_cc M) pc = .ok (.istore_n k, 1) ∧ (k : Nat) = i ∧ pc + 1 = nx) ∨ (decode (z_cc M) pc = .ok (.istore i, 2) ∧ pc + 2 = nx)) ∧ i < z_nL M
def dAS (M : zM) (pc i nx : Nat) : Prop := ((∃ k : Fin 4, decode (z_cc M) pc = .ok (.astore_n k, 1) ∧ (k : Nat) = i ∧ pc + 1 = nx) ∨ (decode (z_cc M) pc = .ok (.astore i, 2) ∧ pc + 2 = nx)) ∧ i < z_nL M
def dLS (M : zM) (pc i nx : Nat) : Prop := ((∃ k : Fin 4, decode (z_cc M) pc = .ok (.lstore_n k, 1) ∧ (k : Nat) = i ∧ pc + 1 = nx) ∨ (decode (z_cc M) pc = .ok (.lstore i, 2) ∧ pc + 2 = nx)) ∧ i + 1 < z_nL M
section GR
variable {M : zM} {pc nx tgt : Nat} {lv rest : List Value} {X : List zSh} {R : zMR} {h : Int64} {I : zMI} {P : zPost}
theorem g_iadd {x y : Int32} (hd : dO M pc .iadd nx) (k : zGo M nx lv (.int (x + y) :: rest) X R h I P) : zGo M pc lv (.int y :: .int x :: rest) X R h I P := by
  obtain ⟨hd, rfl⟩ := hd
  intro p l e Rm s m args below meth c D cI cZ N b Q C K H locs ls hR hl
  exact lv_iadd C.1 C.2.1 hd (k p l e Rm s m args below meth c D cI cZ N b Q C K H locs ls hR hl)
theorem g_isub {x y : Int32} (hd : dO M pc .isub nx) (k : zGo M nx lv (.int (x - y) :: rest) X R h I P) : zGo M pc lv (.int y :: .int x :: rest) X R h I P := by
  obtain ⟨hd, rfl⟩ := hd
  intro p l e Rm s m args below meth c D cI cZ N b Q C K H locs ls hR hl
  exact lv_isub C.1 C.2.1 hd (k p l e Rm s m args below meth c D cI cZ N b Q C K H locs ls hR hl)
theorem g_imul {x y : Int32} (hd : dO M pc .imul nx) (k : zGo M nx lv (.int (x * y) :: rest) X R h I P) : zGo M pc lv (.int y :: .int x :: rest) X R h I P := by
  obtain ⟨hd, rfl⟩ := hd
  intro p l e Rm s m args below meth c D cI cZ N b Q C K H locs ls hR hl
  exact lv_imul C.1 C.2.1 hd (k p l e Rm s m args below meth c D cI cZ N b Q C K H locs ls hR hl)
theorem g_iand {x y : Int32} (hd : dO M pc .iand nx) (k : zGo M nx lv (.int (x &&& y) :: rest) X R h I P) : zGo M pc lv (.int y :: .int x :: rest) X R h I P := by
  obtain ⟨hd, rfl⟩ := hd
  intro p l e Rm s m args below meth c D cI cZ N b Q C K H locs ls hR hl
  exact lv_iand C.1 C.2.1 hd (k p l e Rm s m args below meth c D cI cZ N b Q C K H locs ls hR hl)
theorem g_ior {x y : Int32} (hd : dO M pc .ior nx) (k : zGo M nx lv (.int (x ||| y) :: rest) X R h I P) : zGo M pc lv (.int y :: .int x :: rest) X R h I P := by
  obtain ⟨hd, rfl⟩ := hd
  intro p l e Rm s m args below meth c D cI cZ N b Q C K H locs ls hR hl
  exact lv_ior C.1 C.2.1 hd (k p l e Rm s m args below meth c D cI cZ N b Q C K H locs ls hR hl)
theorem g_ixor {x y : Int32} (hd : dO M pc .ixor nx) (k : zGo M nx lv (.int (x ^^^ y) :: rest) X R h I P) : zGo M pc lv (.int y :: .int x :: rest) X R h I P := by
  obtain ⟨hd, rfl⟩ := hd
  intro p l e Rm s m args below meth c D cI cZ N b Q C K H locs ls hR hl
  exact lv_ixor C.1 C.2.1 hd (k p l e Rm s m args below meth c D cI cZ N b Q C K H locs ls hR hl)
theorem g_ishl {x y : Int32} (hd : dO M pc .ishl nx) (k : zGo M nx lv (.int (x <<< (y &&& 31)) :: rest) X R h I P) : zGo M pc lv (.int y :: .int x :: rest) X R h I P := by
  obtain ⟨hd, rfl⟩ := hd
  intro p l e Rm s m args below meth c D cI cZ N b Q C K H locs ls hR hl
  exact lv_ishl C.1 C.2.1 hd (k p l e Rm s m args below meth c D cI cZ N b Q C K H locs ls hR hl)
theorem g_ishr {x y : Int32} (hd : dO M pc .ishr nx) (k : zGo M nx lv (.int (x >>> (y &&& 31)) :: rest) X R h I P) : zGo M pc lv (.int y :: .int x :: rest) X R h I P := by
  obtain ⟨hd, rfl⟩ := hd
  intro p l e Rm s m args below meth c D cI cZ N b Q C K H locs ls hR hl
  exact lv_ishr C.1 C.2.1 hd (k p l e Rm s m args below meth c D cI cZ N b Q C K H locs ls hR hl)
theorem g_ladd {x y : Int64} (hd : dO M pc .ladd nx) (k : zGo M nx lv (.long (x + y) :: rest) X R h I P) : zGo M pc lv (.long y :: .long x :: rest) X R h I P := by
  obtain ⟨hd, rfl⟩ := hd
  intro p l e Rm s m args below meth c D cI cZ N b Q C K H locs ls hR hl
  exact lv_ladd C.1 C.2.1 hd (k p l e Rm s m args below meth c D cI cZ N b Q C K H locs ls hR hl)
theorem g_lmul {x y : Int64} (hd : dO M pc .lmul nx) (k : zGo M nx lv (.long (x * y) :: rest) X R h I P) : zGo M pc lv (.long y :: .long x :: rest) X R h I P := by
  obtain ⟨hd, rfl⟩ := hd
  intro p l e Rm s m args below meth c D cI cZ N b Q C K H locs ls hR hl
  exact lv_lmul C.1 C.2.1 hd (k p l e Rm s m args below meth c D cI cZ N b Q C K H locs ls hR hl)
theorem g_idiv {x y : Int32} (hd : dO M pc .idiv nx) (hne : ¬ y = 0) (k : zGo M nx lv (.int (x / y) :: rest) X R h I P) : zGo M pc lv (.int y :: .int x :: rest) X R h I P := by
  obtain ⟨hd, rfl⟩ := hd
  intro p l e Rm s m args below meth c D cI cZ N b Q C K H locs ls hR hl
  exact lv_idiv C.1 C.2.1 hd hne (k p l e Rm s m args below meth c D cI cZ N b Q C K H locs ls hR hl)
theorem g_irem {x y : Int32} (hd : dO M pc .irem nx) (hne : ¬ y = 0) (k : zGo M nx lv (.int (x - x / y * y) :: rest) X R h I P) : zGo M pc lv (.int y :: .int x :: rest) X R h I P := by
  obtain ⟨hd, rfl⟩ := hd
  intro p l e Rm s m args below meth c D cI cZ N b Q C K H locs ls hR hl
  exact lv_irem C.1 C.2.1 hd hne (k p l e Rm s m args below meth c D cI cZ N b Q C K H locs ls hR hl)
theorem g_iushr {x y : Int32} (hd : dO M pc .iushr nx) (k : zGo M nx lv (.int ((x.toUInt32 >>> (y.toUInt32 &&& Int32.toUInt32 31)).toInt32) :: rest) X R h I P) : zGo M pc lv (.int y :: .int x :: rest) X R h I P := by
  obtain ⟨hd, rfl⟩ := hd
  intro p l e Rm s m args below meth c D cI cZ N b Q C K H locs ls hR hl
  exact lv_iushr C.1 C.2.1 hd rfl (k p l e Rm s m args below meth c D cI cZ N b Q C K H locs ls hR hl)
theorem g_i2l {x : Int32} (hd : dO M pc .i2l nx) (k : zGo M nx lv (.long x.toInt64 :: rest) X R h I P) : zGo M pc lv (.int x :: rest) X R h I P := by
  obtain ⟨hd, rfl⟩ := hd
  intro p l e Rm s m args below meth c D cI cZ N b Q C K H locs ls hR hl
  exact lv_i2l C.1 C.2.1 hd rfl (k p l e Rm s m args below meth c D cI cZ N b Q C K H locs ls hR hl)
theorem g_lcmp {x y : Int64} (hd : dO M pc .lcmp nx) (k : zGo M nx lv (.int (lg_cmp x y) :: rest) X R h I P) : zGo M pc lv (.long y :: .long x :: rest) X R h I P := by
  obtain ⟨hd, rfl⟩ := hd
  intro p l e Rm s m args below meth c D cI cZ N b Q C K H locs ls hR hl
  exact W.lcmp C.1 C.2.1 hd (k p l e Rm s m args below meth c D cI cZ N b Q C K H locs ls hR hl)
theorem g_dup {v : Value} (hd : dO M pc .dup nx) (hc : v.category = 1) (k : zGo M nx lv (v :: v :: rest) X R h I P) : zGo M pc lv (v :: rest) X R h I P := by
  obtain ⟨hd, rfl⟩ := hd
  intro p l e Rm s m args below meth c D cI cZ N b Q C K H locs ls hR hl
  exact lv_dup C.1 C.2.1 hd ((zcv_cat N b v).trans hc) (k p l e Rm s m args below meth c D cI cZ N b Q C K H locs ls hR hl)
theorem g_pop {v : Value} (hd : dO M pc .pop nx) (hc : v.category = 1) (k : zGo M nx lv rest X R h I P) : zGo M pc lv (v :: rest) X R h I P := by
  obtain ⟨hd, rfl⟩ := hd
  intro p l e Rm s m args below meth c D cI cZ N b Q C K H locs ls hR hl
  exact lv_pop C.1 C.2.1 hd ((zcv_cat N b v).trans hc) (k p l e Rm s m args below meth c D cI cZ N b Q C K H locs ls hR hl)
theorem g_dup2 {v w : Value} (hd : dO M pc .dup2 nx) (hc : v.category = 1) (hc2 : w.category = 1) (k : zGo M nx lv (v :: w :: v :: w :: rest) X R h I P) : zGo M pc lv (v :: w :: rest) X R h I P := by
  obtain ⟨hd, rfl⟩ := hd
  intro p l e Rm s m args below meth c D cI cZ N b Q C K H locs ls hR hl
  exact lv_dup2_11 C.1 C.2.1 hd ((zcv_cat N b v).trans hc) ((zcv_cat N b w).trans hc2) (k p l e Rm s m args below meth c D cI cZ N b Q C K H locs ls hR hl)
theorem g_k {v : Int32} (hd : dKI M pc v nx) (k : zGo M nx lv (.int v :: rest) X R h I P) : zGo M pc lv rest X R h I P := by
  intro p l e Rm s m args below meth c D cI cZ N b Q C K H locs ls hR hl
  rcases hd with ⟨n, hd, hv, rfl⟩ | ⟨n, hd, hv, rfl⟩ | ⟨n, hd, hv, rfl⟩ | ⟨i, hd, hv, rfl⟩ | ⟨i, hd, hv, rfl⟩
  · exact lv_iconst C.1 C.2.1 hd hv (k p l e Rm s m args below meth c D cI cZ N b Q C K H locs ls hR hl)
  · exact lv_bipush C.1 C.2.1 hd hv (k p l e Rm s m args below meth c D cI cZ N b Q C K H locs ls hR hl)
  · exact lv_sipush C.1 C.2.1 hd hv (k p l e Rm s m args below meth c D cI cZ N b Q C K H locs ls hR hl)
  · exact lv_ldc C.1 C.2.1 C.2.2.2.2.1 (C.2.2.2.2.2.1 _ hv) hd (k p l e Rm s m args below meth c D cI cZ N b Q C K H locs ls hR hl)
  · exact lv_ldcw C.1 C.2.1 C.2.2.2.2.1 (C.2.2.2.2.2.1 _ hv) hd (k p l e Rm s m args below meth c D cI cZ N b Q C K H locs ls hR hl)
theorem g_kl {v : Int64} (hd : dKL M pc v nx) (k : zGo M nx lv (.long v :: rest) X R h I P) : zGo M pc lv rest X R h I P := by
  intro p l e Rm s m args below meth c D cI cZ N b Q C K H locs ls hR hl
  obtain ⟨i, hd, hv, rfl⟩ := hd
  exact lv_ldc2 C.1 C.2.1 C.2.2.2.2.1 (C.2.2.2.2.2.1 _ hv) hd (k p l e Rm s m args below meth c D cI cZ N b Q C K H locs ls hR hl)
theorem g_iload {i : Nat} {x : Int32} (hd : dIL M pc i nx) (hx : lv[i]? = some (.int x)) (k : zGo M nx lv (.int x :: rest) X R h I P) : zGo M pc lv rest X R h I P := by
  intro p l e Rm s m args below meth c D cI cZ N b Q C K H locs ls hR hl
  have hg := zlva_get hl hx (by simp)
  rcases hd with ⟨n, hd, rfl, rfl⟩ | ⟨hd, rfl⟩
  · exact lv_iload_n C.1 C.2.1 hd rfl hg (k p l e Rm s m args below meth c D cI cZ N b Q C K H locs ls hR hl)
  · exact lv_iload C.1 C.2.1 hd hg (k p l e Rm s m args below meth c D cI cZ N b Q C K H locs ls hR hl)
theorem g_aload {i : Nat} {x : Nat} (hd : dAL M pc i nx) (hx : lv[i]? = some (.ref x)) (k : zGo M nx lv (.ref x :: rest) X R h I P) : zGo M pc lv rest X R h I P := by
  intro p l e Rm s m args below meth c D cI cZ N b Q C K H locs ls hR hl
  have hg := zlva_get hl hx (by simp)
  rcases hd with ⟨n, hd, rfl, rfl⟩ | ⟨hd, rfl⟩
  · exact lv_aload_n C.1 C.2.1 hd rfl hg (k p l e Rm s m args below meth c D cI cZ N b Q C K H locs ls hR hl)
  · exact lv_aload C.1 C.2.1 hd hg (k p l e Rm s m args below meth c D cI cZ N b Q C K H locs ls hR hl)
theorem g_lload {i : Nat} {x : Int64} (hd : dLL M pc i nx) (hx : lv[i]? = some (.long x)) (k : zGo M nx lv (.long x :: rest) X R h I P) : zGo M pc lv rest X R h I P := by
  intro p l e Rm s m args below meth c D cI cZ N b Q C K H locs ls hR hl
  have hg := zlva_get hl hx (by simp)
  rcases hd with ⟨n, hd, rfl, rfl⟩ | ⟨hd, rfl⟩
  · exact lv_lload_n C.1 C.2.1 hd rfl hg (k p l e Rm s m args below meth c D cI cZ N b Q C K H locs ls hR hl)
  · exact lv_lload C.1 C.2.1 hd hg (k p l e Rm s m args below meth c D cI cZ N b Q C K H locs ls hR hl)
theorem g_aloadS {i : Nat} {x : UInt32} (hd : dAL M pc i nx) (hx : lv[i]? = some (.float x)) (k : zGo M nx lv (.float x :: rest) X R h I P) : zGo M pc lv rest X R h I P := by
  intro p l e Rm s m args below meth c D cI cZ N b Q C K H locs ls hR hl
  have hg := zlva_get hl hx (by simp)
  rcases hd with ⟨n, hd, rfl, rfl⟩ | ⟨hd, rfl⟩
  · exact lv_aload_n C.1 C.2.1 hd rfl hg (k p l e Rm s m args below meth c D cI cZ N b Q C K H locs ls hR hl)
  · exact lv_aload C.1 C.2.1 hd hg (k p l e Rm s m args below meth c D cI cZ N b Q C K H locs ls hR hl)
theorem g_istore {i : Nat} {x : Int32} (hd : dIS M pc i nx) (ho : zok lv i = true) (k : zGo M nx (lv.set i (.int x)) rest X R h I P) : zGo M pc lv (.int x :: rest) X R h I P := by
  intro p l e Rm s m args below meth c D cI cZ N b Q C K H locs ls hR hl
  obtain ⟨hd, hn⟩ := hd
  rcases hd with ⟨n, hd, rfl, rfl⟩ | ⟨hd, rfl⟩
  · exact lv_istore_n C.1 C.2.1 hd rfl hl hn rfl (fun ls2 h2 => k p l e Rm s m args below meth c D cI cZ N b Q C K H locs ls2 hR (zlva_has h2 (zlva_set1 ho)))
  · exact lv_istore C.1 C.2.1 hd hl hn rfl (fun ls2 h2 => k p l e Rm s m args below meth c D cI cZ N b Q C K H locs ls2 hR (zlva_has h2 (zlva_set1 ho)))
theorem g_astore {i : Nat} {x : Nat} (hd : dAS M pc i nx) (ho : zok lv i = true) (k : zGo M nx (lv.set i (.ref x)) rest X R h I P) : zGo M pc lv (.ref x :: rest) X R h I P := by
  intro p l e Rm s m args below meth c D cI cZ N b Q C K H locs ls hR hl
  obtain ⟨hd, hn⟩ := hd
  rcases hd with ⟨n, hd, rfl, rfl⟩ | ⟨hd, rfl⟩
  · exact lv_astore_n C.1 C.2.1 hd rfl hl hn rfl (fun ls2 h2 => k p l e Rm s m args below meth c D cI cZ N b Q C K H locs ls2 hR (zlva_has h2 (zlva_set1 ho)))
  · exact lv_astore C.1 C.2.1 hd hl hn rfl (fun ls2 h2 => k p l e Rm s m args below meth c D cI cZ N b Q C K H locs ls2 hR (zlva_has h2 (zlva_set1 ho)))
theorem g_lstore {i : Nat} {x : Int64} (hd : dLS M pc i nx) (ho : zok lv i = true) (k : zGo M nx ((lv.set i (.long x)).set (i + 1) .null) rest X R h I P) : zGo M pc lv (.long x :: rest) X R h I P := by
  intro p l e Rm s m args below meth c D cI cZ N b Q C K H locs ls hR hl
  obtain ⟨hd, hn⟩ := hd
  rcases hd with ⟨n, hd, rfl, rfl⟩ | ⟨hd, rfl⟩
  · exact lv_lstore_n C.1 C.2.1 hd rfl hl hn rfl (fun ls2 h2 => k p l e Rm s m args below meth c D cI cZ N b Q C K H locs ls2 hR (zlva_has h2 (zlva_set2 ho)))
  · exact lv_lstore C.1 C.2.1 hd hl hn rfl (fun ls2 h2 => k p l e Rm s m args below meth c D cI cZ N b Q C K H locs ls2 hR (zlva_has h2 (zlva_set2 ho)))
theorem g_iinc {i : Nat} {x v : Int32} (hd : dII M pc i v nx) (hx : lv[i]? = some (.int x)) (ho : zok lv i = true) (k : zGo M nx (lv.set i (.int (x + v))) rest X R h I P) : zGo M pc lv rest X R h I P := by
  intro p l e Rm s m args below meth c D cI cZ N b Q C K H locs ls hR hl
  obtain ⟨n, hd, rfl, rfl, hn⟩ := hd
  have hm : (0 + i, zcv N b (.int x)) ∈ zlva N b 0 lv := zlva_mem.mpr ⟨i, _, hx, by simp, rfl⟩
  rw [Nat.zero_add] at hm
  obtain ⟨kk, hk⟩ := List.getElem?_of_mem hm
  exact lv_iinc C.1 C.2.1 hd hl hk rfl hn rfl (fun ls2 h2 => k p l e Rm s m args below meth c D cI cZ N b Q C K H locs ls2 hR (zlva_has h2 (zlva_set1 (v := .int (x + Int32.ofInt n)) ho)))
-- eq
-- ne
-- lt
-- ge
-- gt
-- le
theorem g_goto (hd : dJ M pc .goto nx tgt) (k : zGo M tgt lv rest X R h I P) : zGo M pc lv rest X R h I P := by
  intro p l e Rm s m args below meth c D cI cZ N b Q C K H locs ls hR hl
  obtain ⟨off, hd, ht, rfl⟩ := hd
  exact lv_goto C.1 C.2.1 hd ht (k p l e Rm s m args below meth c D cI cZ N b Q C K H locs ls hR hl)
end GR
