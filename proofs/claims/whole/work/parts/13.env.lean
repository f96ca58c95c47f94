def zX : List zSh := [(8, 12), (3, 2), (0, 90), (4, 3), (6, 16), (0, 30), (0, 30), (0, 30), (0, 30), (0, 30), (0, 30), (0, 10), (0, 30), (0, 30), (0, 30), (0, 30), (0, 30), (5, 9), (0, 256), (0, 256), (0, 256), (0, 256), (0, 256), (0, 256), (5, 9), (0, 256), (0, 256), (0, 256), (0, 256), (0, 256), (0, 256), (2, 2), (0, 256), (0, 256), (7, 12), (0, 4), (0, 4), (0, 4), (0, 4), (0, 10), (0, 10), (0, 10), (0, 10), (0, 10), (7, 12), (0, 4), (0, 4), (0, 4), (0, 4), (0, 10), (0, 10), (0, 10), (0, 10), (0, 10), (9, 45), (0, 4), (0, 4), (1, 4), (0, 10), (0, 10), (0, 10), (0, 10), (0, 10), (0, 30), (0, 30), (0, 30), (0, 30), (0, 30), (0, 90), (0, 4), (0, 4), (1, 4), (0, 10), (0, 10), (0, 10), (0, 10), (0, 10), (1, 256), (0, 256), (0, 30), (0, 30), (0, 30), (0, 256), (0, 256)]
theorem zX_len : zX.length = 84 := rfl
theorem zX_sl : zsl zX = 5746 := by decide +kernel
theorem xx_0 : zX[0]? = some (6 + 2, zF 6) := rfl
theorem xx_1 : zX[1]? = some (1 + 2, zF 1) := rfl
theorem xx_2 : zX[2]? = some (0, 90) := rfl
theorem xx_3 : zX[3]? = some (2 + 2, zF 2) := rfl
theorem xx_4 : zX[4]? = some (4 + 2, zF 4) := rfl
theorem xx_5 : zX[5]? = some (0, 30) := rfl
theorem xx_6 : zX[6]? = some (0, 30) := rfl
theorem xx_7 : zX[7]? = some (0, 30) := rfl
theorem xx_8 : zX[8]? = some (0, 30) := rfl
theorem xx_9 : zX[9]? = some (0, 30) := rfl
theorem xx_10 : zX[10]? = some (0, 30) := rfl
theorem xx_11 : zX[11]? = some (0, 10) := rfl
theorem xx_12 : zX[12]? = some (0, 30) := rfl
theorem xx_13 : zX[13]? = some (0, 30) := rfl
theorem xx_14 : zX[14]? = some (0, 30) := rfl
theorem xx_15 : zX[15]? = some (0, 30) := rfl
theorem xx_16 : zX[16]? = some (0, 30) := rfl
theorem xx_17 : zX[17]? = some (3 + 2, zF 3) := rfl
theorem xx_18 : zX[18]? = some (0, 256) := rfl
theorem xx_19 : zX[19]? = some (0, 256) := rfl
theorem xx_20 : zX[20]? = some (0, 256) := rfl
theorem xx_21 : zX[21]? = some (0, 256) := rfl
theorem xx_22 : zX[22]? = some (0, 256) := rfl
theorem xx_23 : zX[23]? = some (0, 256) := rfl
theorem xx_24 : zX[24]? = some (3 + 2, zF 3) := rfl
theorem xx_25 : zX[25]? = some (0, 256) := rfl
theorem xx_26 : zX[26]? = some (0, 256) := rfl
theorem xx_27 : zX[27]? = some (0, 256) := rfl
theorem xx_28 : zX[28]? = some (0, 256) := rfl
theorem xx_29 : zX[29]? = some (0, 256) := rfl
theorem xx_30 : zX[30]? = some (0, 256) := rfl
theorem xx_31 : zX[31]? = some (0 + 2, zF 0) := rfl
theorem xx_32 : zX[32]? = some (0, 256) := rfl
theorem xx_33 : zX[33]? = some (0, 256) := rfl
theorem xx_34 : zX[34]? = some (5 + 2, zF 5) := rfl
theorem xx_35 : zX[35]? = some (0, 4) := rfl
theorem xx_36 : zX[36]? = some (0, 4) := rfl
theorem xx_37 : zX[37]? = some (0, 4) := rfl
theorem xx_38 : zX[38]? = some (0, 4) := rfl
theorem xx_39 : zX[39]? = some (0, 10) := rfl
theorem xx_40 : zX[40]? = some (0, 10) := rfl
theorem xx_41 : zX[41]? = some (0, 10) := rfl
theorem xx_42 : zX[42]? = some (0, 10) := rfl
theorem xx_43 : zX[43]? = some (0, 10) := rfl
theorem xx_44 : zX[44]? = some (5 + 2, zF 5) := rfl
theorem xx_45 : zX[45]? = some (0, 4) := rfl
theorem xx_46 : zX[46]? = some (0, 4) := rfl
theorem xx_47 : zX[47]? = some (0, 4) := rfl
theorem xx_48 : zX[48]? = some (0, 4) := rfl
theorem xx_49 : zX[49]? = some (0, 10) := rfl
theorem xx_50 : zX[50]? = some (0, 10) := rfl
theorem xx_51 : zX[51]? = some (0, 10) := rfl
theorem xx_52 : zX[52]? = some (0, 10) := rfl
theorem xx_53 : zX[53]? = some (0, 10) := rfl
theorem xx_54 : zX[54]? = some (7 + 2, zF 7) := rfl
theorem xx_55 : zX[55]? = some (0, 4) := rfl
theorem xx_56 : zX[56]? = some (0, 4) := rfl
theorem xx_57 : zX[57]? = some (1, 4) := rfl
theorem xx_58 : zX[58]? = some (0, 10) := rfl
theorem xx_59 : zX[59]? = some (0, 10) := rfl
theorem xx_60 : zX[60]? = some (0, 10) := rfl
theorem xx_61 : zX[61]? = some (0, 10) := rfl
theorem xx_62 : zX[62]? = some (0, 10) := rfl
theorem xx_63 : zX[63]? = some (0, 30) := rfl
theorem xx_64 : zX[64]? = some (0, 30) := rfl
theorem xx_65 : zX[65]? = some (0, 30) := rfl
theorem xx_66 : zX[66]? = some (0, 30) := rfl
theorem xx_67 : zX[67]? = some (0, 30) := rfl
theorem xx_68 : zX[68]? = some (0, 90) := rfl
theorem xx_69 : zX[69]? = some (0, 4) := rfl
theorem xx_70 : zX[70]? = some (0, 4) := rfl
theorem xx_71 : zX[71]? = some (1, 4) := rfl
theorem xx_72 : zX[72]? = some (0, 10) := rfl
theorem xx_73 : zX[73]? = some (0, 10) := rfl
theorem xx_74 : zX[74]? = some (0, 10) := rfl
theorem xx_75 : zX[75]? = some (0, 10) := rfl
theorem xx_76 : zX[76]? = some (0, 10) := rfl
theorem xx_77 : zX[77]? = some (1, 256) := rfl
theorem xx_78 : zX[78]? = some (0, 256) := rfl
theorem xx_79 : zX[79]? = some (0, 30) := rfl
theorem xx_80 : zX[80]? = some (0, 30) := rfl
theorem xx_81 : zX[81]? = some (0, 30) := rfl
theorem xx_82 : zX[82]? = some (0, 256) := rfl
theorem xx_83 : zX[83]? = some (0, 256) := rfl
def zRq (q : Nat) : Nat → Option Nat
  | 0 => some (q + 1)
  | 3 => some (q + 2)
  | 4 => some (q + 3)
  | 5 => some (q + 4)
  | 6 => some (q + 5)
  | 7 => some (q + 6)
  | _ => none
def zRw (w : Nat) (j : Nat) : Option Nat := if j < 9 then some (w + 1 + j) else none
def zRm7 : Nat → Option Nat
  | 1 => some 55
  | 2 => some 56
  | 3 => some 57
  | 6 => some 58
  | 7 => some 59
  | 8 => some 60
  | 9 => some 61
  | 10 => some 62
  | 14 => some 63
  | 15 => some 64
  | 16 => some 65
  | 17 => some 66
  | 18 => some 67
  | 20 => some 68
  | 26 => some 69
  | 27 => some 70
  | 28 => some 71
  | 31 => some 72
  | 32 => some 73
  | 33 => some 74
  | 34 => some 75
  | 35 => some 76
  | 36 => some 77
  | 37 => some 78
  | 39 => some 79
  | 40 => some 80
  | 41 => some 81
  | 42 => some 82
  | 43 => some 83
  | _ => none
def zR0 (w v : Nat) : Nat → Option Nat
  | 0 => some 1
  | 1 => some 3
  | 2 => some 4
  | 3 => some 17
  | 4 => some 24
  | 5 => some 31
  | 6 => some w
  | 7 => some v
  | _ => none
def zRR (w v e1 e2 : Nat) : zMR
  | 0 => zR0 w v
  | 1 => fun j => if j = 0 then some 2 else none
  | 4 => fun j => if j < 12 then some (5 + j) else none
  | 17 => zRq 17
  | 24 => zRq 24
  | 31 => fun j => if j = 0 then some e1 else if j = 1 then some e2 else none
  | 34 => zRw 34
  | 44 => zRw 44
  | 54 => zRm7
  | _ => fun _ => none
section RRS
variable {w v e1 e2 q u : Nat}
theorem rr_0_0 : zRR w v e1 e2 0 0 = some 1 := rfl
theorem rr_0_1 : zRR w v e1 e2 0 1 = some 3 := rfl
theorem rr_0_2 : zRR w v e1 e2 0 2 = some 4 := rfl
theorem rr_0_3 : zRR w v e1 e2 0 3 = some 17 := rfl
theorem rr_0_4 : zRR w v e1 e2 0 4 = some 24 := rfl
theorem rr_0_5 : zRR w v e1 e2 0 5 = some 31 := rfl
theorem rr_0_6 : zRR w v e1 e2 0 6 = some w := rfl
theorem rr_0_7 : zRR w v e1 e2 0 7 = some v := rfl
theorem rr_1_0 : zRR w v e1 e2 1 0 = some 2 := rfl
theorem rr_4_0 : zRR w v e1 e2 4 0 = some 5 := rfl
theorem rr_4_1 : zRR w v e1 e2 4 1 = some 6 := rfl
theorem rr_4_2 : zRR w v e1 e2 4 2 = some 7 := rfl
theorem rr_4_3 : zRR w v e1 e2 4 3 = some 8 := rfl
theorem rr_4_4 : zRR w v e1 e2 4 4 = some 9 := rfl
theorem rr_4_5 : zRR w v e1 e2 4 5 = some 10 := rfl
theorem rr_4_6 : zRR w v e1 e2 4 6 = some 11 := rfl
theorem rr_4_7 : zRR w v e1 e2 4 7 = some 12 := rfl
theorem rr_4_8 : zRR w v e1 e2 4 8 = some 13 := rfl
theorem rr_4_9 : zRR w v e1 e2 4 9 = some 14 := rfl
theorem rr_4_10 : zRR w v e1 e2 4 10 = some 15 := rfl
theorem rr_4_11 : zRR w v e1 e2 4 11 = some 16 := rfl
theorem rr_17_0 : zRR w v e1 e2 17 0 = some 18 := rfl
theorem rr_17_3 : zRR w v e1 e2 17 3 = some 19 := rfl
theorem rr_17_4 : zRR w v e1 e2 17 4 = some 20 := rfl
theorem rr_17_5 : zRR w v e1 e2 17 5 = some 21 := rfl
theorem rr_17_6 : zRR w v e1 e2 17 6 = some 22 := rfl
theorem rr_17_7 : zRR w v e1 e2 17 7 = some 23 := rfl
theorem rr_24_0 : zRR w v e1 e2 24 0 = some 25 := rfl
theorem rr_24_3 : zRR w v e1 e2 24 3 = some 26 := rfl
theorem rr_24_4 : zRR w v e1 e2 24 4 = some 27 := rfl
theorem rr_24_5 : zRR w v e1 e2 24 5 = some 28 := rfl
theorem rr_24_6 : zRR w v e1 e2 24 6 = some 29 := rfl
theorem rr_24_7 : zRR w v e1 e2 24 7 = some 30 := rfl
theorem rr_31_0 : zRR w v e1 e2 31 0 = some e1 := rfl
theorem rr_31_1 : zRR w v e1 e2 31 1 = some e2 := rfl
theorem rr_54_1 : zRR w v e1 e2 54 1 = some 55 := rfl
theorem rr_54_2 : zRR w v e1 e2 54 2 = some 56 := rfl
theorem rr_54_3 : zRR w v e1 e2 54 3 = some 57 := rfl
theorem rr_54_6 : zRR w v e1 e2 54 6 = some 58 := rfl
theorem rr_54_7 : zRR w v e1 e2 54 7 = some 59 := rfl
theorem rr_54_8 : zRR w v e1 e2 54 8 = some 60 := rfl
theorem rr_54_9 : zRR w v e1 e2 54 9 = some 61 := rfl
theorem rr_54_10 : zRR w v e1 e2 54 10 = some 62 := rfl
theorem rr_54_14 : zRR w v e1 e2 54 14 = some 63 := rfl
theorem rr_54_15 : zRR w v e1 e2 54 15 = some 64 := rfl
theorem rr_54_16 : zRR w v e1 e2 54 16 = some 65 := rfl
theorem rr_54_17 : zRR w v e1 e2 54 17 = some 66 := rfl
theorem rr_54_18 : zRR w v e1 e2 54 18 = some 67 := rfl
theorem rr_54_20 : zRR w v e1 e2 54 20 = some 68 := rfl
theorem rr_54_26 : zRR w v e1 e2 54 26 = some 69 := rfl
theorem rr_54_27 : zRR w v e1 e2 54 27 = some 70 := rfl
theorem rr_54_28 : zRR w v e1 e2 54 28 = some 71 := rfl
theorem rr_54_31 : zRR w v e1 e2 54 31 = some 72 := rfl
theorem rr_54_32 : zRR w v e1 e2 54 32 = some 73 := rfl
theorem rr_54_33 : zRR w v e1 e2 54 33 = some 74 := rfl
theorem rr_54_34 : zRR w v e1 e2 54 34 = some 75 := rfl
theorem rr_54_35 : zRR w v e1 e2 54 35 = some 76 := rfl
theorem rr_54_36 : zRR w v e1 e2 54 36 = some 77 := rfl
theorem rr_54_37 : zRR w v e1 e2 54 37 = some 78 := rfl
theorem rr_54_39 : zRR w v e1 e2 54 39 = some 79 := rfl
theorem rr_54_40 : zRR w v e1 e2 54 40 = some 80 := rfl
theorem rr_54_41 : zRR w v e1 e2 54 41 = some 81 := rfl
theorem rr_54_42 : zRR w v e1 e2 54 42 = some 82 := rfl
theorem rr_54_43 : zRR w v e1 e2 54 43 = some 83 := rfl
def zW (u : Nat) : Prop := u = 34 ∨ u = 44
def zQ (q : Nat) : Prop := q = 17 ∨ q = 24
def zE (q : Nat) : Prop := q = 32 ∨ q = 33
theorem rw_0 (hu : zW u) : zRR w v e1 e2 u 0 = some (u + 1) := by rcases hu with rfl | rfl <;> rfl
theorem xwa_0 (hu : zW u) : zX[u + 1]? = some (0, 4) := by rcases hu with rfl | rfl <;> rfl
theorem rw_1 (hu : zW u) : zRR w v e1 e2 u 1 = some (u + 2) := by rcases hu with rfl | rfl <;> rfl
theorem xwa_1 (hu : zW u) : zX[u + 2]? = some (0, 4) := by rcases hu with rfl | rfl <;> rfl
theorem rw_2 (hu : zW u) : zRR w v e1 e2 u 2 = some (u + 3) := by rcases hu with rfl | rfl <;> rfl
theorem xwa_2 (hu : zW u) : zX[u + 3]? = some (0, 4) := by rcases hu with rfl | rfl <;> rfl
theorem rw_3 (hu : zW u) : zRR w v e1 e2 u 3 = some (u + 4) := by rcases hu with rfl | rfl <;> rfl
theorem xwa_3 (hu : zW u) : zX[u + 4]? = some (0, 4) := by rcases hu with rfl | rfl <;> rfl
theorem rw_4 (hu : zW u) : zRR w v e1 e2 u 4 = some (u + 5) := by rcases hu with rfl | rfl <;> rfl
theorem xwa_4 (hu : zW u) : zX[u + 5]? = some (0, 10) := by rcases hu with rfl | rfl <;> rfl
theorem rw_5 (hu : zW u) : zRR w v e1 e2 u 5 = some (u + 6) := by rcases hu with rfl | rfl <;> rfl
theorem xwa_5 (hu : zW u) : zX[u + 6]? = some (0, 10) := by rcases hu with rfl | rfl <;> rfl
theorem rw_6 (hu : zW u) : zRR w v e1 e2 u 6 = some (u + 7) := by rcases hu with rfl | rfl <;> rfl
theorem xwa_6 (hu : zW u) : zX[u + 7]? = some (0, 10) := by rcases hu with rfl | rfl <;> rfl
theorem rw_7 (hu : zW u) : zRR w v e1 e2 u 7 = some (u + 8) := by rcases hu with rfl | rfl <;> rfl
theorem xwa_7 (hu : zW u) : zX[u + 8]? = some (0, 10) := by rcases hu with rfl | rfl <;> rfl
theorem rw_8 (hu : zW u) : zRR w v e1 e2 u 8 = some (u + 9) := by rcases hu with rfl | rfl <;> rfl
theorem xwa_8 (hu : zW u) : zX[u + 9]? = some (0, 10) := by rcases hu with rfl | rfl <;> rfl
theorem xw (hu : zW u) : zX[u]? = some (5 + 2, zF 5) := by rcases hu with rfl | rfl <;> rfl
theorem rq_0 (hq : zQ q) : zRR w v e1 e2 q 0 = some (q + 1) := by rcases hq with rfl | rfl <;> rfl
theorem xqa_0 (hq : zQ q) : zX[q + 1]? = some (0, 256) := by rcases hq with rfl | rfl <;> rfl
theorem rq_3 (hq : zQ q) : zRR w v e1 e2 q 3 = some (q + 2) := by rcases hq with rfl | rfl <;> rfl
theorem xqa_3 (hq : zQ q) : zX[q + 2]? = some (0, 256) := by rcases hq with rfl | rfl <;> rfl
theorem rq_4 (hq : zQ q) : zRR w v e1 e2 q 4 = some (q + 3) := by rcases hq with rfl | rfl <;> rfl
theorem xqa_4 (hq : zQ q) : zX[q + 3]? = some (0, 256) := by rcases hq with rfl | rfl <;> rfl
theorem rq_5 (hq : zQ q) : zRR w v e1 e2 q 5 = some (q + 4) := by rcases hq with rfl | rfl <;> rfl
theorem xqa_5 (hq : zQ q) : zX[q + 4]? = some (0, 256) := by rcases hq with rfl | rfl <;> rfl
theorem rq_6 (hq : zQ q) : zRR w v e1 e2 q 6 = some (q + 5) := by rcases hq with rfl | rfl <;> rfl
theorem xqa_6 (hq : zQ q) : zX[q + 5]? = some (0, 256) := by rcases hq with rfl | rfl <;> rfl
theorem rq_7 (hq : zQ q) : zRR w v e1 e2 q 7 = some (q + 6) := by rcases hq with rfl | rfl <;> rfl
theorem xqa_7 (hq : zQ q) : zX[q + 6]? = some (0, 256) := by rcases hq with rfl | rfl <;> rfl
theorem xq (hq : zQ q) : zX[q]? = some (3 + 2, zF 3) := by rcases hq with rfl | rfl <;> rfl
theorem xe (hq : zE q) : zX[q]? = some (0, 256) := by rcases hq with rfl | rfl <;> rfl
theorem zX_9 : ∀ a sh, a ≠ 54 → zX[a]? = some sh → sh.1 ≠ 9 := by
  intro a sh ha hx hz
  have hl : a < 84 := (List.getElem?_eq_some_iff.mp hx).1
  have key : (List.range 84).all (fun a => decide (a = 54) || !(zX.getD a (0, 0)).1 == 9) = true := by decide +kernel
  have h1 := List.all_eq_true.mp key a (List.mem_range.mpr hl)
  simp only [List.getD_eq_getElem?_getD, hx, Option.getD_some, hz] at h1
  simp [ha] at h1
end RRS
section GP
variable {M : zM} {pc nx tgt : Nat} {lv rest : List Value} {X : List zSh} {R : zMR} {h : Int64} {I : zMI} {P : zPost}
theorem g_il0 {x : Int32} {r : List Value} (hd : dIL M pc 0 nx) (k : zGo M nx (.int x :: r) (.int x :: rest) X R h I P) : zGo M pc (.int x :: r) rest X R h I P := g_iload hd rfl k
theorem g_al0 {x : Nat} {r : List Value} (hd : dAL M pc 0 nx) (k : zGo M nx (.ref x :: r) (.ref x :: rest) X R h I P) : zGo M pc (.ref x :: r) rest X R h I P := g_aload hd rfl k
theorem g_ll0 {x : Int64} {r : List Value} (hd : dLL M pc 0 nx) (k : zGo M nx (.long x :: r) (.long x :: rest) X R h I P) : zGo M pc (.long x :: r) rest X R h I P := g_lload hd rfl k
theorem g_sl0 {x : UInt32} {r : List Value} (hd : dAL M pc 0 nx) (k : zGo M nx (.float x :: r) (.float x :: rest) X R h I P) : zGo M pc (.float x :: r) rest X R h I P := g_aloadS hd rfl k
theorem g_is0 {y : Value} {x : Int32} {r : List Value} (hd : dIS M pc 0 nx) (k : zGo M nx (.int x :: r) rest X R h I P) : zGo M pc (y :: r) (.int x :: rest) X R h I P := g_istore hd rfl k
theorem g_as0 {y : Value} {x : Nat} {r : List Value} (hd : dAS M pc 0 nx) (k : zGo M nx (.ref x :: r) rest X R h I P) : zGo M pc (y :: r) (.ref x :: rest) X R h I P := g_astore hd rfl k
theorem g_ls0 {y z : Value} {x : Int64} {r : List Value} (hd : dLS M pc 0 nx) (k : zGo M nx (.long x :: .null :: r) rest X R h I P) : zGo M pc (y :: z :: r) (.long x :: rest) X R h I P := g_lstore hd rfl k
theorem g_ii0 {x v : Int32} {r : List Value} (hd : dII M pc 0 v nx) (k : zGo M nx (.int (x + v) :: r) rest X R h I P) : zGo M pc (.int x :: r) rest X R h I P := g_iinc hd rfl rfl k
theorem g_iiN0 {x : Nat} {r : List Value} (hd : dII M pc 0 1 nx) (k : zGo M nx (.int (nI (x + 1)) :: r) rest X R h I P) : zGo M pc (.int (nI x) :: r) rest X R h I P := g_iincN hd rfl rfl k
theorem g_il1 {a0 : Value} {x : Int32} {r : List Value} (hd : dIL M pc 1 nx) (k : zGo M nx (a0 :: .int x :: r) (.int x :: rest) X R h I P) : zGo M pc (a0 :: .int x :: r) rest X R h I P := g_iload hd rfl k
theorem g_al1 {a0 : Value} {x : Nat} {r : List Value} (hd : dAL M pc 1 nx) (k : zGo M nx (a0 :: .ref x :: r) (.ref x :: rest) X R h I P) : zGo M pc (a0 :: .ref x :: r) rest X R h I P := g_aload hd rfl k
theorem g_ll1 {a0 : Value} {x : Int64} {r : List Value} (hd : dLL M pc 1 nx) (k : zGo M nx (a0 :: .long x :: r) (.long x :: rest) X R h I P) : zGo M pc (a0 :: .long x :: r) rest X R h I P := g_lload hd rfl k
theorem g_sl1 {a0 : Value} {x : UInt32} {r : List Value} (hd : dAL M pc 1 nx) (k : zGo M nx (a0 :: .float x :: r) (.float x :: rest) X R h I P) : zGo M pc (a0 :: .float x :: r) rest X R h I P := g_aloadS hd rfl k
theorem g_is1 {a0 : Value} {y : Value} {x : Int32} {r : List Value} (hd : dIS M pc 1 nx) (ho : a0.category = 1) (k : zGo M nx (a0 :: .int x :: r) rest X R h I P) : zGo M pc (a0 :: y :: r) (.int x :: rest) X R h I P := g_istore hd (by simp [zok, ho]) k
theorem g_as1 {a0 : Value} {y : Value} {x : Nat} {r : List Value} (hd : dAS M pc 1 nx) (ho : a0.category = 1) (k : zGo M nx (a0 :: .ref x :: r) rest X R h I P) : zGo M pc (a0 :: y :: r) (.ref x :: rest) X R h I P := g_astore hd (by simp [zok, ho]) k
theorem g_ls1 {a0 : Value} {y z : Value} {x : Int64} {r : List Value} (hd : dLS M pc 1 nx) (ho : a0.category = 1) (k : zGo M nx (a0 :: .long x :: .null :: r) rest X R h I P) : zGo M pc (a0 :: y :: z :: r) (.long x :: rest) X R h I P := g_lstore hd (by simp [zok, ho]) k
theorem g_ii1 {a0 : Value} {x v : Int32} {r : List Value} (hd : dII M pc 1 v nx) (ho : a0.category = 1) (k : zGo M nx (a0 :: .int (x + v) :: r) rest X R h I P) : zGo M pc (a0 :: .int x :: r) rest X R h I P := g_iinc hd rfl (by simp [zok, ho]) k
theorem g_iiN1 {a0 : Value} {x : Nat} {r : List Value} (hd : dII M pc 1 1 nx) (ho : a0.category = 1) (k : zGo M nx (a0 :: .int (nI (x + 1)) :: r) rest X R h I P) : zGo M pc (a0 :: .int (nI x) :: r) rest X R h I P := g_iincN hd rfl (by simp [zok, ho]) k
theorem g_il2 {a0 a1 : Value} {x : Int32} {r : List Value} (hd : dIL M pc 2 nx) (k : zGo M nx (a0 :: a1 :: .int x :: r) (.int x :: rest) X R h I P) : zGo M pc (a0 :: a1 :: .int x :: r) rest X R h I P := g_iload hd rfl k
theorem g_al2 {a0 a1 : Value} {x : Nat} {r : List Value} (hd : dAL M pc 2 nx) (k : zGo M nx (a0 :: a1 :: .ref x :: r) (.ref x :: rest) X R h I P) : zGo M pc (a0 :: a1 :: .ref x :: r) rest X R h I P := g_aload hd rfl k
theorem g_ll2 {a0 a1 : Value} {x : Int64} {r : List Value} (hd : dLL M pc 2 nx) (k : zGo M nx (a0 :: a1 :: .long x :: r) (.long x :: rest) X R h I P) : zGo M pc (a0 :: a1 :: .long x :: r) rest X R h I P := g_lload hd rfl k
theorem g_sl2 {a0 a1 : Value} {x : UInt32} {r : List Value} (hd : dAL M pc 2 nx) (k : zGo M nx (a0 :: a1 :: .float x :: r) (.float x :: rest) X R h I P) : zGo M pc (a0 :: a1 :: .float x :: r) rest X R h I P := g_aloadS hd rfl k
theorem g_is2 {a0 a1 : Value} {y : Value} {x : Int32} {r : List Value} (hd : dIS M pc 2 nx) (ho : a1.category = 1) (k : zGo M nx (a0 :: a1 :: .int x :: r) rest X R h I P) : zGo M pc (a0 :: a1 :: y :: r) (.int x :: rest) X R h I P := g_istore hd (by simp [zok, ho]) k
theorem g_as2 {a0 a1 : Value} {y : Value} {x : Nat} {r : List Value} (hd : dAS M pc 2 nx) (ho : a1.category = 1) (k : zGo M nx (a0 :: a1 :: .ref x :: r) rest X R h I P) : zGo M pc (a0 :: a1 :: y :: r) (.ref x :: rest) X R h I P := g_astore hd (by simp [zok, ho]) k
theorem g_ls2 {a0 a1 : Value} {y z : Value} {x : Int64} {r : List Value} (hd : dLS M pc 2 nx) (ho : a1.category = 1) (k : zGo M nx (a0 :: a1 :: .long x :: .null :: r) rest X R h I P) : zGo M pc (a0 :: a1 :: y :: z :: r) (.long x :: rest) X R h I P := g_lstore hd (by simp [zok, ho]) k
theorem g_ii2 {a0 a1 : Value} {x v : Int32} {r : List Value} (hd : dII M pc 2 v nx) (ho : a1.category = 1) (k : zGo M nx (a0 :: a1 :: .int (x + v) :: r) rest X R h I P) : zGo M pc (a0 :: a1 :: .int x :: r) rest X R h I P := g_iinc hd rfl (by simp [zok, ho]) k
theorem g_iiN2 {a0 a1 : Value} {x : Nat} {r : List Value} (hd : dII M pc 2 1 nx) (ho : a1.category = 1) (k : zGo M nx (a0 :: a1 :: .int (nI (x + 1)) :: r) rest X R h I P) : zGo M pc (a0 :: a1 :: .int (nI x) :: r) rest X R h I P := g_iincN hd rfl (by simp [zok, ho]) k
theorem g_il3 {a0 a1 a2 : Value} {x : Int32} {r : List Value} (hd : dIL M pc 3 nx) (k : zGo M nx (a0 :: a1 :: a2 :: .int x :: r) (.int x :: rest) X R h I P) : zGo M pc (a0 :: a1 :: a2 :: .int x :: r) rest X R h I P := g_iload hd rfl k
theorem g_al3 {a0 a1 a2 : Value} {x : Nat} {r : List Value} (hd : dAL M pc 3 nx) (k : zGo M nx (a0 :: a1 :: a2 :: .ref x :: r) (.ref x :: rest) X R h I P) : zGo M pc (a0 :: a1 :: a2 :: .ref x :: r) rest X R h I P := g_aload hd rfl k
theorem g_ll3 {a0 a1 a2 : Value} {x : Int64} {r : List Value} (hd : dLL M pc 3 nx) (k : zGo M nx (a0 :: a1 :: a2 :: .long x :: r) (.long x :: rest) X R h I P) : zGo M pc (a0 :: a1 :: a2 :: .long x :: r) rest X R h I P := g_lload hd rfl k
theorem g_sl3 {a0 a1 a2 : Value} {x : UInt32} {r : List Value} (hd : dAL M pc 3 nx) (k : zGo M nx (a0 :: a1 :: a2 :: .float x :: r) (.float x :: rest) X R h I P) : zGo M pc (a0 :: a1 :: a2 :: .float x :: r) rest X R h I P := g_aloadS hd rfl k
theorem g_is3 {a0 a1 a2 : Value} {y : Value} {x : Int32} {r : List Value} (hd : dIS M pc 3 nx) (ho : a2.category = 1) (k : zGo M nx (a0 :: a1 :: a2 :: .int x :: r) rest X R h I P) : zGo M pc (a0 :: a1 :: a2 :: y :: r) (.int x :: rest) X R h I P := g_istore hd (by simp [zok, ho]) k
theorem g_as3 {a0 a1 a2 : Value} {y : Value} {x : Nat} {r : List Value} (hd : dAS M pc 3 nx) (ho : a2.category = 1) (k : zGo M nx (a0 :: a1 :: a2 :: .ref x :: r) rest X R h I P) : zGo M pc (a0 :: a1 :: a2 :: y :: r) (.ref x :: rest) X R h I P := g_astore hd (by simp [zok, ho]) k
theorem g_ls3 {a0 a1 a2 : Value} {y z : Value} {x : Int64} {r : List Value} (hd : dLS M pc 3 nx) (ho : a2.category = 1) (k : zGo M nx (a0 :: a1 :: a2 :: .long x :: .null :: r) rest X R h I P) : zGo M pc (a0 :: a1 :: a2 :: y :: z :: r) (.long x :: rest) X R h I P := g_lstore hd (by simp [zok, ho]) k
theorem g_ii3 {a0 a1 a2 : Value} {x v : Int32} {r : List Value} (hd : dII M pc 3 v nx) (ho : a2.category = 1) (k : zGo M nx (a0 :: a1 :: a2 :: .int (x + v) :: r) rest X R h I P) : zGo M pc (a0 :: a1 :: a2 :: .int x :: r) rest X R h I P := g_iinc hd rfl (by simp [zok, ho]) k
theorem g_iiN3 {a0 a1 a2 : Value} {x : Nat} {r : List Value} (hd : dII M pc 3 1 nx) (ho : a2.category = 1) (k : zGo M nx (a0 :: a1 :: a2 :: .int (nI (x + 1)) :: r) rest X R h I P) : zGo M pc (a0 :: a1 :: a2 :: .int (nI x) :: r) rest X R h I P := g_iincN hd rfl (by simp [zok, ho]) k
theorem g_il4 {a0 a1 a2 a3 : Value} {x : Int32} {r : List Value} (hd : dIL M pc 4 nx) (k : zGo M nx (a0 :: a1 :: a2 :: a3 :: .int x :: r) (.int x :: rest) X R h I P) : zGo M pc (a0 :: a1 :: a2 :: a3 :: .int x :: r) rest X R h I P := g_iload hd rfl k
theorem g_al4 {a0 a1 a2 a3 : Value} {x : Nat} {r : List Value} (hd : dAL M pc 4 nx) (k : zGo M nx (a0 :: a1 :: a2 :: a3 :: .ref x :: r) (.ref x :: rest) X R h I P) : zGo M pc (a0 :: a1 :: a2 :: a3 :: .ref x :: r) rest X R h I P := g_aload hd rfl k
theorem g_ll4 {a0 a1 a2 a3 : Value} {x : Int64} {r : List Value} (hd : dLL M pc 4 nx) (k : zGo M nx (a0 :: a1 :: a2 :: a3 :: .long x :: r) (.long x :: rest) X R h I P) : zGo M pc (a0 :: a1 :: a2 :: a3 :: .long x :: r) rest X R h I P := g_lload hd rfl k
theorem g_sl4 {a0 a1 a2 a3 : Value} {x : UInt32} {r : List Value} (hd : dAL M pc 4 nx) (k : zGo M nx (a0 :: a1 :: a2 :: a3 :: .float x :: r) (.float x :: rest) X R h I P) : zGo M pc (a0 :: a1 :: a2 :: a3 :: .float x :: r) rest X R h I P := g_aloadS hd rfl k
theorem g_is4 {a0 a1 a2 a3 : Value} {y : Value} {x : Int32} {r : List Value} (hd : dIS M pc 4 nx) (ho : a3.category = 1) (k : zGo M nx (a0 :: a1 :: a2 :: a3 :: .int x :: r) rest X R h I P) : zGo M pc (a0 :: a1 :: a2 :: a3 :: y :: r) (.int x :: rest) X R h I P := g_istore hd (by simp [zok, ho]) k
theorem g_as4 {a0 a1 a2 a3 : Value} {y : Value} {x : Nat} {r : List Value} (hd : dAS M pc 4 nx) (ho : a3.category = 1) (k : zGo M nx (a0 :: a1 :: a2 :: a3 :: .ref x :: r) rest X R h I P) : zGo M pc (a0 :: a1 :: a2 :: a3 :: y :: r) (.ref x :: rest) X R h I P := g_astore hd (by simp [zok, ho]) k
theorem g_ls4 {a0 a1 a2 a3 : Value} {y z : Value} {x : Int64} {r : List Value} (hd : dLS M pc 4 nx) (ho : a3.category = 1) (k : zGo M nx (a0 :: a1 :: a2 :: a3 :: .long x :: .null :: r) rest X R h I P) : zGo M pc (a0 :: a1 :: a2 :: a3 :: y :: z :: r) (.long x :: rest) X R h I P := g_lstore hd (by simp [zok, ho]) k
theorem g_ii4 {a0 a1 a2 a3 : Value} {x v : Int32} {r : List Value} (hd : dII M pc 4 v nx) (ho : a3.category = 1) (k : zGo M nx (a0 :: a1 :: a2 :: a3 :: .int (x + v) :: r) rest X R h I P) : zGo M pc (a0 :: a1 :: a2 :: a3 :: .int x :: r) rest X R h I P := g_iinc hd rfl (by simp [zok, ho]) k
theorem g_iiN4 {a0 a1 a2 a3 : Value} {x : Nat} {r : List Value} (hd : dII M pc 4 1 nx) (ho : a3.category = 1) (k : zGo M nx (a0 :: a1 :: a2 :: a3 :: .int (nI (x + 1)) :: r) rest X R h I P) : zGo M pc (a0 :: a1 :: a2 :: a3 :: .int (nI x) :: r) rest X R h I P := g_iincN hd rfl (by simp [zok, ho]) k
theorem g_il5 {a0 a1 a2 a3 a4 : Value} {x : Int32} {r : List Value} (hd : dIL M pc 5 nx) (k : zGo M nx (a0 :: a1 :: a2 :: a3 :: a4 :: .int x :: r) (.int x :: rest) X R h I P) : zGo M pc (a0 :: a1 :: a2 :: a3 :: a4 :: .int x :: r) rest X R h I P := g_iload hd rfl k
theorem g_al5 {a0 a1 a2 a3 a4 : Value} {x : Nat} {r : List Value} (hd : dAL M pc 5 nx) (k : zGo M nx (a0 :: a1 :: a2 :: a3 :: a4 :: .ref x :: r) (.ref x :: rest) X R h I P) : zGo M pc (a0 :: a1 :: a2 :: a3 :: a4 :: .ref x :: r) rest X R h I P := g_aload hd rfl k
theorem g_ll5 {a0 a1 a2 a3 a4 : Value} {x : Int64} {r : List Value} (hd : dLL M pc 5 nx) (k : zGo M nx (a0 :: a1 :: a2 :: a3 :: a4 :: .long x :: r) (.long x :: rest) X R h I P) : zGo M pc (a0 :: a1 :: a2 :: a3 :: a4 :: .long x :: r) rest X R h I P := g_lload hd rfl k
theorem g_sl5 {a0 a1 a2 a3 a4 : Value} {x : UInt32} {r : List Value} (hd : dAL M pc 5 nx) (k : zGo M nx (a0 :: a1 :: a2 :: a3 :: a4 :: .float x :: r) (.float x :: rest) X R h I P) : zGo M pc (a0 :: a1 :: a2 :: a3 :: a4 :: .float x :: r) rest X R h I P := g_aloadS hd rfl k
theorem g_is5 {a0 a1 a2 a3 a4 : Value} {y : Value} {x : Int32} {r : List Value} (hd : dIS M pc 5 nx) (ho : a4.category = 1) (k : zGo M nx (a0 :: a1 :: a2 :: a3 :: a4 :: .int x :: r) rest X R h I P) : zGo M pc (a0 :: a1 :: a2 :: a3 :: a4 :: y :: r) (.int x :: rest) X R h I P := g_istore hd (by simp [zok, ho]) k
theorem g_as5 {a0 a1 a2 a3 a4 : Value} {y : Value} {x : Nat} {r : List Value} (hd : dAS M pc 5 nx) (ho : a4.category = 1) (k : zGo M nx (a0 :: a1 :: a2 :: a3 :: a4 :: .ref x :: r) rest X R h I P) : zGo M pc (a0 :: a1 :: a2 :: a3 :: a4 :: y :: r) (.ref x :: rest) X R h I P := g_astore hd (by simp [zok, ho]) k
theorem g_ls5 {a0 a1 a2 a3 a4 : Value} {y z : Value} {x : Int64} {r : List Value} (hd : dLS M pc 5 nx) (ho : a4.category = 1) (k : zGo M nx (a0 :: a1 :: a2 :: a3 :: a4 :: .long x :: .null :: r) rest X R h I P) : zGo M pc (a0 :: a1 :: a2 :: a3 :: a4 :: y :: z :: r) (.long x :: rest) X R h I P := g_lstore hd (by simp [zok, ho]) k
theorem g_ii5 {a0 a1 a2 a3 a4 : Value} {x v : Int32} {r : List Value} (hd : dII M pc 5 v nx) (ho : a4.category = 1) (k : zGo M nx (a0 :: a1 :: a2 :: a3 :: a4 :: .int (x + v) :: r) rest X R h I P) : zGo M pc (a0 :: a1 :: a2 :: a3 :: a4 :: .int x :: r) rest X R h I P := g_iinc hd rfl (by simp [zok, ho]) k
theorem g_iiN5 {a0 a1 a2 a3 a4 : Value} {x : Nat} {r : List Value} (hd : dII M pc 5 1 nx) (ho : a4.category = 1) (k : zGo M nx (a0 :: a1 :: a2 :: a3 :: a4 :: .int (nI (x + 1)) :: r) rest X R h I P) : zGo M pc (a0 :: a1 :: a2 :: a3 :: a4 :: .int (nI x) :: r) rest X R h I P := g_iincN hd rfl (by simp [zok, ho]) k
theorem g_il6 {a0 a1 a2 a3 a4 a5 : Value} {x : Int32} {r : List Value} (hd : dIL M pc 6 nx) (k : zGo M nx (a0 :: a1 :: a2 :: a3 :: a4 :: a5 :: .int x :: r) (.int x :: rest) X R h I P) : zGo M pc (a0 :: a1 :: a2 :: a3 :: a4 :: a5 :: .int x :: r) rest X R h I P := g_iload hd rfl k
theorem g_al6 {a0 a1 a2 a3 a4 a5 : Value} {x : Nat} {r : List Value} (hd : dAL M pc 6 nx) (k : zGo M nx (a0 :: a1 :: a2 :: a3 :: a4 :: a5 :: .ref x :: r) (.ref x :: rest) X R h I P) : zGo M pc (a0 :: a1 :: a2 :: a3 :: a4 :: a5 :: .ref x :: r) rest X R h I P := g_aload hd rfl k
theorem g_ll6 {a0 a1 a2 a3 a4 a5 : Value} {x : Int64} {r : List Value} (hd : dLL M pc 6 nx) (k : zGo M nx (a0 :: a1 :: a2 :: a3 :: a4 :: a5 :: .long x :: r) (.long x :: rest) X R h I P) : zGo M pc (a0 :: a1 :: a2 :: a3 :: a4 :: a5 :: .long x :: r) rest X R h I P := g_lload hd rfl k
theorem g_sl6 {a0 a1 a2 a3 a4 a5 : Value} {x : UInt32} {r : List Value} (hd : dAL M pc 6 nx) (k : zGo M nx (a0 :: a1 :: a2 :: a3 :: a4 :: a5 :: .float x :: r) (.float x :: rest) X R h I P) : zGo M pc (a0 :: a1 :: a2 :: a3 :: a4 :: a5 :: .float x :: r) rest X R h I P := g_aloadS hd rfl k
theorem g_is6 {a0 a1 a2 a3 a4 a5 : Value} {y : Value} {x : Int32} {r : List Value} (hd : dIS M pc 6 nx) (ho : a5.category = 1) (k : zGo M nx (a0 :: a1 :: a2 :: a3 :: a4 :: a5 :: .int x :: r) rest X R h I P) : zGo M pc (a0 :: a1 :: a2 :: a3 :: a4 :: a5 :: y :: r) (.int x :: rest) X R h I P := g_istore hd (by simp [zok, ho]) k
theorem g_as6 {a0 a1 a2 a3 a4 a5 : Value} {y : Value} {x : Nat} {r : List Value} (hd : dAS M pc 6 nx) (ho : a5.category = 1) (k : zGo M nx (a0 :: a1 :: a2 :: a3 :: a4 :: a5 :: .ref x :: r) rest X R h I P) : zGo M pc (a0 :: a1 :: a2 :: a3 :: a4 :: a5 :: y :: r) (.ref x :: rest) X R h I P := g_astore hd (by simp [zok, ho]) k
theorem g_ls6 {a0 a1 a2 a3 a4 a5 : Value} {y z : Value} {x : Int64} {r : List Value} (hd : dLS M pc 6 nx) (ho : a5.category = 1) (k : zGo M nx (a0 :: a1 :: a2 :: a3 :: a4 :: a5 :: .long x :: .null :: r) rest X R h I P) : zGo M pc (a0 :: a1 :: a2 :: a3 :: a4 :: a5 :: y :: z :: r) (.long x :: rest) X R h I P := g_lstore hd (by simp [zok, ho]) k
theorem g_ii6 {a0 a1 a2 a3 a4 a5 : Value} {x v : Int32} {r : List Value} (hd : dII M pc 6 v nx) (ho : a5.category = 1) (k : zGo M nx (a0 :: a1 :: a2 :: a3 :: a4 :: a5 :: .int (x + v) :: r) rest X R h I P) : zGo M pc (a0 :: a1 :: a2 :: a3 :: a4 :: a5 :: .int x :: r) rest X R h I P := g_iinc hd rfl (by simp [zok, ho]) k
theorem g_iiN6 {a0 a1 a2 a3 a4 a5 : Value} {x : Nat} {r : List Value} (hd : dII M pc 6 1 nx) (ho : a5.category = 1) (k : zGo M nx (a0 :: a1 :: a2 :: a3 :: a4 :: a5 :: .int (nI (x + 1)) :: r) rest X R h I P) : zGo M pc (a0 :: a1 :: a2 :: a3 :: a4 :: a5 :: .int (nI x) :: r) rest X R h I P := g_iincN hd rfl (by simp [zok, ho]) k
theorem g_il7 {a0 a1 a2 a3 a4 a5 a6 : Value} {x : Int32} {r : List Value} (hd : dIL M pc 7 nx) (k : zGo M nx (a0 :: a1 :: a2 :: a3 :: a4 :: a5 :: a6 :: .int x :: r) (.int x :: rest) X R h I P) : zGo M pc (a0 :: a1 :: a2 :: a3 :: a4 :: a5 :: a6 :: .int x :: r) rest X R h I P := g_iload hd rfl k
theorem g_al7 {a0 a1 a2 a3 a4 a5 a6 : Value} {x : Nat} {r : List Value} (hd : dAL M pc 7 nx) (k : zGo M nx (a0 :: a1 :: a2 :: a3 :: a4 :: a5 :: a6 :: .ref x :: r) (.ref x :: rest) X R h I P) : zGo M pc (a0 :: a1 :: a2 :: a3 :: a4 :: a5 :: a6 :: .ref x :: r) rest X R h I P := g_aload hd rfl k
theorem g_ll7 {a0 a1 a2 a3 a4 a5 a6 : Value} {x : Int64} {r : List Value} (hd : dLL M pc 7 nx) (k : zGo M nx (a0 :: a1 :: a2 :: a3 :: a4 :: a5 :: a6 :: .long x :: r) (.long x :: rest) X R h I P) : zGo M pc (a0 :: a1 :: a2 :: a3 :: a4 :: a5 :: a6 :: .long x :: r) rest X R h I P := g_lload hd rfl k
theorem g_sl7 {a0 a1 a2 a3 a4 a5 a6 : Value} {x : UInt32} {r : List Value} (hd : dAL M pc 7 nx) (k : zGo M nx (a0 :: a1 :: a2 :: a3 :: a4 :: a5 :: a6 :: .float x :: r) (.float x :: rest) X R h I P) : zGo M pc (a0 :: a1 :: a2 :: a3 :: a4 :: a5 :: a6 :: .float x :: r) rest X R h I P := g_aloadS hd rfl k
theorem g_is7 {a0 a1 a2 a3 a4 a5 a6 : Value} {y : Value} {x : Int32} {r : List Value} (hd : dIS M pc 7 nx) (ho : a6.category = 1) (k : zGo M nx (a0 :: a1 :: a2 :: a3 :: a4 :: a5 :: a6 :: .int x :: r) rest X R h I P) : zGo M pc (a0 :: a1 :: a2 :: a3 :: a4 :: a5 :: a6 :: y :: r) (.int x :: rest) X R h I P := g_istore hd (by simp [zok, ho]) k
theorem g_as7 {a0 a1 a2 a3 a4 a5 a6 : Value} {y : Value} {x : Nat} {r : List Value} (hd : dAS M pc 7 nx) (ho : a6.category = 1) (k : zGo M nx (a0 :: a1 :: a2 :: a3 :: a4 :: a5 :: a6 :: .ref x :: r) rest X R h I P) : zGo M pc (a0 :: a1 :: a2 :: a3 :: a4 :: a5 :: a6 :: y :: r) (.ref x :: rest) X R h I P := g_astore hd (by simp [zok, ho]) k
theorem g_ls7 {a0 a1 a2 a3 a4 a5 a6 : Value} {y z : Value} {x : Int64} {r : List Value} (hd : dLS M pc 7 nx) (ho : a6.category = 1) (k : zGo M nx (a0 :: a1 :: a2 :: a3 :: a4 :: a5 :: a6 :: .long x :: .null :: r) rest X R h I P) : zGo M pc (a0 :: a1 :: a2 :: a3 :: a4 :: a5 :: a6 :: y :: z :: r) (.long x :: rest) X R h I P := g_lstore hd (by simp [zok, ho]) k
theorem g_ii7 {a0 a1 a2 a3 a4 a5 a6 : Value} {x v : Int32} {r : List Value} (hd : dII M pc 7 v nx) (ho : a6.category = 1) (k : zGo M nx (a0 :: a1 :: a2 :: a3 :: a4 :: a5 :: a6 :: .int (x + v) :: r) rest X R h I P) : zGo M pc (a0 :: a1 :: a2 :: a3 :: a4 :: a5 :: a6 :: .int x :: r) rest X R h I P := g_iinc hd rfl (by simp [zok, ho]) k
theorem g_iiN7 {a0 a1 a2 a3 a4 a5 a6 : Value} {x : Nat} {r : List Value} (hd : dII M pc 7 1 nx) (ho : a6.category = 1) (k : zGo M nx (a0 :: a1 :: a2 :: a3 :: a4 :: a5 :: a6 :: .int (nI (x + 1)) :: r) rest X R h I P) : zGo M pc (a0 :: a1 :: a2 :: a3 :: a4 :: a5 :: a6 :: .int (nI x) :: r) rest X R h I P := g_iincN hd rfl (by simp [zok, ho]) k
theorem g_il8 {a0 a1 a2 a3 a4 a5 a6 a7 : Value} {x : Int32} {r : List Value} (hd : dIL M pc 8 nx) (k : zGo M nx (a0 :: a1 :: a2 :: a3 :: a4 :: a5 :: a6 :: a7 :: .int x :: r) (.int x :: rest) X R h I P) : zGo M pc (a0 :: a1 :: a2 :: a3 :: a4 :: a5 :: a6 :: a7 :: .int x :: r) rest X R h I P := g_iload hd rfl k
theorem g_al8 {a0 a1 a2 a3 a4 a5 a6 a7 : Value} {x : Nat} {r : List Value} (hd : dAL M pc 8 nx) (k : zGo M nx (a0 :: a1 :: a2 :: a3 :: a4 :: a5 :: a6 :: a7 :: .ref x :: r) (.ref x :: rest) X R h I P) : zGo M pc (a0 :: a1 :: a2 :: a3 :: a4 :: a5 :: a6 :: a7 :: .ref x :: r) rest X R h I P := g_aload hd rfl k
theorem g_ll8 {a0 a1 a2 a3 a4 a5 a6 a7 : Value} {x : Int64} {r : List Value} (hd : dLL M pc 8 nx) (k : zGo M nx (a0 :: a1 :: a2 :: a3 :: a4 :: a5 :: a6 :: a7 :: .long x :: r) (.long x :: rest) X R h I P) : zGo M pc (a0 :: a1 :: a2 :: a3 :: a4 :: a5 :: a6 :: a7 :: .long x :: r) rest X R h I P := g_lload hd rfl k
theorem g_sl8 {a0 a1 a2 a3 a4 a5 a6 a7 : Value} {x : UInt32} {r : List Value} (hd : dAL M pc 8 nx) (k : zGo M nx (a0 :: a1 :: a2 :: a3 :: a4 :: a5 :: a6 :: a7 :: .float x :: r) (.float x :: rest) X R h I P) : zGo M pc (a0 :: a1 :: a2 :: a3 :: a4 :: a5 :: a6 :: a7 :: .float x :: r) rest X R h I P := g_aloadS hd rfl k
theorem g_is8 {a0 a1 a2 a3 a4 a5 a6 a7 : Value} {y : Value} {x : Int32} {r : List Value} (hd : dIS M pc 8 nx) (ho : a7.category = 1) (k : zGo M nx (a0 :: a1 :: a2 :: a3 :: a4 :: a5 :: a6 :: a7 :: .int x :: r) rest X R h I P) : zGo M pc (a0 :: a1 :: a2 :: a3 :: a4 :: a5 :: a6 :: a7 :: y :: r) (.int x :: rest) X R h I P := g_istore hd (by simp [zok, ho]) k
theorem g_as8 {a0 a1 a2 a3 a4 a5 a6 a7 : Value} {y : Value} {x : Nat} {r : List Value} (hd : dAS M pc 8 nx) (ho : a7.category = 1) (k : zGo M nx (a0 :: a1 :: a2 :: a3 :: a4 :: a5 :: a6 :: a7 :: .ref x :: r) rest X R h I P) : zGo M pc (a0 :: a1 :: a2 :: a3 :: a4 :: a5 :: a6 :: a7 :: y :: r) (.ref x :: rest) X R h I P := g_astore hd (by simp [zok, ho]) k
theorem g_ls8 {a0 a1 a2 a3 a4 a5 a6 a7 : Value} {y z : Value} {x : Int64} {r : List Value} (hd : dLS M pc 8 nx) (ho : a7.category = 1) (k : zGo M nx (a0 :: a1 :: a2 :: a3 :: a4 :: a5 :: a6 :: a7 :: .long x :: .null :: r) rest X R h I P) : zGo M pc (a0 :: a1 :: a2 :: a3 :: a4 :: a5 :: a6 :: a7 :: y :: z :: r) (.long x :: rest) X R h I P := g_lstore hd (by simp [zok, ho]) k
theorem g_ii8 {a0 a1 a2 a3 a4 a5 a6 a7 : Value} {x v : Int32} {r : List Value} (hd : dII M pc 8 v nx) (ho : a7.category = 1) (k : zGo M nx (a0 :: a1 :: a2 :: a3 :: a4 :: a5 :: a6 :: a7 :: .int (x + v) :: r) rest X R h I P) : zGo M pc (a0 :: a1 :: a2 :: a3 :: a4 :: a5 :: a6 :: a7 :: .int x :: r) rest X R h I P := g_iinc hd rfl (by simp [zok, ho]) k
theorem g_iiN8 {a0 a1 a2 a3 a4 a5 a6 a7 : Value} {x : Nat} {r : List Value} (hd : dII M pc 8 1 nx) (ho : a7.category = 1) (k : zGo M nx (a0 :: a1 :: a2 :: a3 :: a4 :: a5 :: a6 :: a7 :: .int (nI (x + 1)) :: r) rest X R h I P) : zGo M pc (a0 :: a1 :: a2 :: a3 :: a4 :: a5 :: a6 :: a7 :: .int (nI x) :: r) rest X R h I P := g_iincN hd rfl (by simp [zok, ho]) k
theorem zrt {x y : Int32} (h : x = y) : some (Value.int x) = some (Value.int y) := by rw [h]
def zb (p : Prop) [Decidable p] : Int32 := if p then 1 else 0
theorem zb_01 (p : Prop) [Decidable p] : zb p = 0 ∨ zb p = 1 := by unfold zb; split <;> simp
theorem zb_0 {p : Prop} [Decidable p] : zb p = 0 ↔ ¬ p := by unfold zb; split <;> simp_all
theorem zb_1 {p : Prop} [Decidable p] : zb p = 1 ↔ p := by unfold zb; split <;> simp_all
theorem zb_t {p : Prop} [Decidable p] (h : p) : zb p = 1 := if_pos h
theorem zb_f {p : Prop} [Decidable p] (h : ¬ p) : zb p = 0 := if_neg h
theorem zb_c {p q : Prop} [Decidable p] [Decidable q] (h : p ↔ q) : zb p = zb q := by unfold zb; by_cases hp : p <;> simp [hp, h.mp, ← h]
theorem g_ifeqB {p : Prop} [Decidable p] (hd : dJ M pc (.ifCond .eq) nx tgt) (kt : ¬ p → zGo M tgt lv rest X R h I P) (kf : p → zGo M nx lv rest X R h I P) : zGo M pc lv (.int (zb p) :: rest) X R h I P := g_ifeq hd (fun z => kt (zb_0.mp z)) (fun z => kf (Classical.byContradiction fun q => z (zb_0.mpr q)))
theorem g_ifneB {p : Prop} [Decidable p] (hd : dJ M pc (.ifCond .ne) nx tgt) (kt : p → zGo M tgt lv rest X R h I P) (kf : ¬ p → zGo M nx lv rest X R h I P) : zGo M pc lv (.int (zb p) :: rest) X R h I P := g_ifne hd (fun z => kt (Classical.byContradiction fun q => z (zb_0.mpr q))) (fun z => kf (zb_0.mp z))
theorem g_icgeL {x y : Int32} (hd : dJ M pc (.if_icmp .ge) nx tgt) (kt : ¬ x < y → zGo M tgt lv rest X R h I P) (kf : x < y → zGo M nx lv rest X R h I P) : zGo M pc lv (.int y :: .int x :: rest) X R h I P := g_icge hd (fun z => kt (Int32.not_lt.mpr z)) (fun z => kf (Int32.not_le.mp z))
theorem g_icleL {x y : Int32} (hd : dJ M pc (.if_icmp .le) nx tgt) (kt : ¬ y < x → zGo M tgt lv rest X R h I P) (kf : y < x → zGo M nx lv rest X R h I P) : zGo M pc lv (.int y :: .int x :: rest) X R h I P := g_icle hd (fun z => kt (Int32.not_lt.mpr z)) (fun z => kf (Int32.not_le.mp z))
theorem g_ifgeL {x : Int32} (hd : dJ M pc (.ifCond .ge) nx tgt) (kt : ¬ x < 0 → zGo M tgt lv rest X R h I P) (kf : x < 0 → zGo M nx lv rest X R h I P) : zGo M pc lv (.int x :: rest) X R h I P := g_ifge hd (fun z => kt (Int32.not_lt.mpr z)) (fun z => kf (Int32.not_le.mp z))
theorem g_ifleL {x : Int32} (hd : dJ M pc (.ifCond .le) nx tgt) (kt : ¬ 0 < x → zGo M tgt lv rest X R h I P) (kf : 0 < x → zGo M nx lv rest X R h I P) : zGo M pc lv (.int x :: rest) X R h I P := g_ifle hd (fun z => kt (Int32.not_lt.mpr z)) (fun z => kf (Int32.not_le.mp z))
theorem zs_ap (I : zMI) (k : Nat) (f : Nat → Int32) (a : Nat) : zs I k f a = if a = k then f else I a := rfl
theorem upd_ap (f : Nat → Int32) (k : Nat) (x : Int32) (j : Nat) : upd f k x j = if j = k then x else f j := rfl
theorem zs_zs (I : zMI) (k : Nat) (f g : Nat → Int32) : zs (zs I k f) k g = zs I k g := by funext a; simp only [zs_ap]; split <;> rfl
theorem upd_upd (f : Nat → Int32) (k : Nat) (x y : Int32) : upd (upd f k x) k y = upd f k y := by funext a; simp only [upd_ap]; split <;> rfl
theorem zs_comm (I : zMI) {k l : Nat} (hkl : k ≠ l) (f g : Nat → Int32) : zs (zs I k f) l g = zs (zs I l g) k f := by funext a; simp only [zs_ap]; by_cases h1 : a = k <;> by_cases h2 : a = l <;> simp_all
theorem g_join {pc' : Nat} {lv' st' st : List Value} (k1 : zGo M pc' lv' st' X R h I P → zGo M pc lv st X R h I P) (k2 : zGo M pc' lv' st' X R h I P) : zGo M pc lv st X R h I P := k1 k2
theorem g_joinM {pc' : Nat} {lv' st' st : List Value} {I' : zMI} (k1 : zGo M pc' lv' st' X R h I' P → zGo M pc lv st X R h I P) (k2 : zGo M pc' lv' st' X R h I' P) : zGo M pc lv st X R h I P := k1 k2
theorem g_eqv {x y : Int32} (e : x = y) (k : zGo M pc lv (.int y :: rest) X R h I P) : zGo M pc lv (.int x :: rest) X R h I P := by rw [e]; exact k
theorem g_eqv2 {x y : Int32} {a : Value} (e : x = y) (k : zGo M pc lv (a :: .int y :: rest) X R h I P) : zGo M pc lv (a :: .int x :: rest) X R h I P := by rw [e]; exact k
theorem g_eqm {st : List Value} {I' : zMI} (e : I = I') (k : zGo M pc lv st X R h I' P) : zGo M pc lv st X R h I P := by rw [e]; exact k
def zEp (M : zM) (R : zMR) (h : Int64) (I : zMI) (av : List Value) (P : Option Value → zMR → Int64 → zMI → Prop) : Prop := zEv M zX R h I av (fun v X1 R1 h1 I1 => X1 = zX ∧ P v R1 h1 I1)
abbrev zEr (M : zM) (R : zMR) (h : Int64) (I : zMI) (av : List Value) (r : Option Value) (R' : zMR) (h' : Int64) (I' : zMI) : Prop := zEp M R h I av (fun v R1 h1 I1 => v = r ∧ R1 = R' ∧ h1 = h' ∧ I1 = I')
def zPl (M : zM) : Prop := (z_x0 M = 84 ∧ z_s0 M = 5746 ∧ z_mc M = 0 ∧ z_ms M = 0) ∧ z_sc M = none
theorem zEp_of {av : List Value} (lv0 : List Value) {PP : Option Value → zMR → Int64 → zMI → Prop} (hM : zPl M) (hy : plainName (z_y M).cls = true) (hlv : ∀ N b, zlva N b 0 lv0 = lv_args 0 (av.map (zcv N b))) (hlen : ∀ N b, (lg_sl (av.map (zcv N b))).length ≤ z_nL M) (k : zGo M 0 lv0 [] zX R h I (fun v X1 R1 h1 I1 => X1 = zX ∧ PP v R1 h1 I1)) : zEp M R h I av PP :=
  zEv_of hy hM.2 (by rw [hM.1.1]; rfl) (by rw [hM.1.2.1, zX_sl]) hlv hlen (fun v X' R' h' I' hp => by rw [hp.1, hM.1.2.2.1, hM.1.2.2.2]; exact ⟨rfl, rfl⟩) k
theorem zEp_post {av : List Value} {P1 P2 : Option Value → zMR → Int64 → zMI → Prop} (h1 : zEp M R h I av P1) (h2 : ∀ v R1 h1 I1, P1 v R1 h1 I1 → P2 v R1 h1 I1) : zEp M R h I av P2 := by
  intro l D cI cZ N b p e ha hb hc s m args below hf happ hp hk
  obtain ⟨n, oc, g1, g2, g3, ⟨⟨v, X', R', h', I', q1, ⟨q2, q3⟩, q4⟩, q5⟩, q6⟩ := h1 l D cI cZ N b p e ha hb hc s m args below hf happ hp hk
  exact ⟨n, oc, g1, g2, g3, ⟨⟨v, X', R', h', I', q1, ⟨q2, h2 _ _ _ _ q3⟩, q4⟩, q5⟩, q6⟩
theorem zcc {M' : zM} (h1 : zPl M) (h2 : zPl M') : (z_x0 M ≤ zX.length ∧ z_s0 M ≤ zsl zX) ∧ zX.length - z_x0 M + z_mc M' ≤ z_mc M ∧ zsl zX - z_s0 M + z_ms M' ≤ z_ms M := by
  rw [zX_sl, zX_len]
  obtain ⟨⟨a1, a2, a3, a4⟩, -⟩ := h1
  obtain ⟨⟨b1, b2, b3, b4⟩, -⟩ := h2
  omega
theorem g_cV0 {M' : zM} {c kk : Nat} {PP : Option Value → zMR → Int64 → zMI → Prop} (hd : dCV M pc M' nx) (hok : zOkV M' c 0) (h1 : zPl M) (h2 : zPl M') (hs : zX[kk]? = some (c + 2, zF c)) (hr : (rest.map fun v => v.category).sum ≤ 8) (hE : zEp M' R h I (.ref kk :: []) PP) (k : ∀ v R' h' I', PP v R' h' I' → zGo M nx lv (v.toList ++ rest) zX R' h' I' P) : zGo M pc lv (.ref kk :: rest) zX R h I P := g_callV (av := []) hd hok hs rfl (zcc h1 h2) hr rfl hE (fun v X' R' h' I' hp => by obtain ⟨rfl, hp⟩ := hp; exact k v R' h' I' hp)
theorem g_eV0 {M' : zM} {c kk : Nat} {r : Option Value} {R' : zMR} {h' : Int64} {I' : zMI} (hd : dCV M pc M' nx) (hok : zOkV M' c 0) (h1 : zPl M) (h2 : zPl M') (hs : zX[kk]? = some (c + 2, zF c)) (hr : (rest.map fun v => v.category).sum ≤ 8) (hE : zEr M' R h I (.ref kk :: []) r R' h' I') (k : zGo M nx lv (r.toList ++ rest) zX R' h' I' P) : zGo M pc lv (.ref kk :: rest) zX R h I P := g_cV0 hd hok h1 h2 hs hr hE (fun v R1 h1 I1 hp => by obtain ⟨rfl, rfl, rfl, rfl⟩ := hp; exact k)
theorem g_cS0 {M' : zM} {PP : Option Value → zMR → Int64 → zMI → Prop} (hd : dCS M pc M' nx) (hok : zOkS M' 0) (h1 : zPl M) (h2 : zPl M') (hr : (rest.map fun v => v.category).sum ≤ 8) (hE : zEp M' R h I [] PP) (k : ∀ v R' h' I', PP v R' h' I' → zGo M nx lv (v.toList ++ rest) zX R' h' I' P) : zGo M pc lv (rest) zX R h I P := g_callS (av := []) hd hok rfl (zcc h1 h2) hr rfl hE (fun v X' R' h' I' hp => by obtain ⟨rfl, hp⟩ := hp; exact k v R' h' I' hp)
theorem g_eS0 {M' : zM} {r : Option Value} {R' : zMR} {h' : Int64} {I' : zMI} (hd : dCS M pc M' nx) (hok : zOkS M' 0) (h1 : zPl M) (h2 : zPl M') (hr : (rest.map fun v => v.category).sum ≤ 8) (hE : zEr M' R h I [] r R' h' I') (k : zGo M nx lv (r.toList ++ rest) zX R' h' I' P) : zGo M pc lv (rest) zX R h I P := g_cS0 hd hok h1 h2 hr hE (fun v R1 h1 I1 hp => by obtain ⟨rfl, rfl, rfl, rfl⟩ := hp; exact k)
theorem g_cV1 {M' : zM} {c kk : Nat} {a0 : Value} {PP : Option Value → zMR → Int64 → zMI → Prop} (hd : dCV M pc M' nx) (hok : zOkV M' c 1) (h1 : zPl M) (h2 : zPl M') (hs : zX[kk]? = some (c + 2, zF c)) (hr : (rest.map fun v => v.category).sum ≤ 8) (hE : zEp M' R h I (.ref kk :: [a0]) PP) (k : ∀ v R' h' I', PP v R' h' I' → zGo M nx lv (v.toList ++ rest) zX R' h' I' P) : zGo M pc lv (a0 :: .ref kk :: rest) zX R h I P := g_callV (av := [a0]) hd hok hs rfl (zcc h1 h2) hr rfl hE (fun v X' R' h' I' hp => by obtain ⟨rfl, hp⟩ := hp; exact k v R' h' I' hp)
theorem g_eV1 {M' : zM} {c kk : Nat} {a0 : Value} {r : Option Value} {R' : zMR} {h' : Int64} {I' : zMI} (hd : dCV M pc M' nx) (hok : zOkV M' c 1) (h1 : zPl M) (h2 : zPl M') (hs : zX[kk]? = some (c + 2, zF c)) (hr : (rest.map fun v => v.category).sum ≤ 8) (hE : zEr M' R h I (.ref kk :: [a0]) r R' h' I') (k : zGo M nx lv (r.toList ++ rest) zX R' h' I' P) : zGo M pc lv (a0 :: .ref kk :: rest) zX R h I P := g_cV1 hd hok h1 h2 hs hr hE (fun v R1 h1 I1 hp => by obtain ⟨rfl, rfl, rfl, rfl⟩ := hp; exact k)
theorem g_cS1 {M' : zM} {a0 : Value} {PP : Option Value → zMR → Int64 → zMI → Prop} (hd : dCS M pc M' nx) (hok : zOkS M' 1) (h1 : zPl M) (h2 : zPl M') (hr : (rest.map fun v => v.category).sum ≤ 8) (hE : zEp M' R h I [a0] PP) (k : ∀ v R' h' I', PP v R' h' I' → zGo M nx lv (v.toList ++ rest) zX R' h' I' P) : zGo M pc lv (a0 :: rest) zX R h I P := g_callS (av := [a0]) hd hok rfl (zcc h1 h2) hr rfl hE (fun v X' R' h' I' hp => by obtain ⟨rfl, hp⟩ := hp; exact k v R' h' I' hp)
theorem g_eS1 {M' : zM} {a0 : Value} {r : Option Value} {R' : zMR} {h' : Int64} {I' : zMI} (hd : dCS M pc M' nx) (hok : zOkS M' 1) (h1 : zPl M) (h2 : zPl M') (hr : (rest.map fun v => v.category).sum ≤ 8) (hE : zEr M' R h I [a0] r R' h' I') (k : zGo M nx lv (r.toList ++ rest) zX R' h' I' P) : zGo M pc lv (a0 :: rest) zX R h I P := g_cS1 hd hok h1 h2 hr hE (fun v R1 h1 I1 hp => by obtain ⟨rfl, rfl, rfl, rfl⟩ := hp; exact k)
theorem g_cV2 {M' : zM} {c kk : Nat} {a0 a1 : Value} {PP : Option Value → zMR → Int64 → zMI → Prop} (hd : dCV M pc M' nx) (hok : zOkV M' c 2) (h1 : zPl M) (h2 : zPl M') (hs : zX[kk]? = some (c + 2, zF c)) (hr : (rest.map fun v => v.category).sum ≤ 8) (hE : zEp M' R h I (.ref kk :: [a0, a1]) PP) (k : ∀ v R' h' I', PP v R' h' I' → zGo M nx lv (v.toList ++ rest) zX R' h' I' P) : zGo M pc lv (a1 :: a0 :: .ref kk :: rest) zX R h I P := g_callV (av := [a0, a1]) hd hok hs rfl (zcc h1 h2) hr rfl hE (fun v X' R' h' I' hp => by obtain ⟨rfl, hp⟩ := hp; exact k v R' h' I' hp)
theorem g_eV2 {M' : zM} {c kk : Nat} {a0 a1 : Value} {r : Option Value} {R' : zMR} {h' : Int64} {I' : zMI} (hd : dCV M pc M' nx) (hok : zOkV M' c 2) (h1 : zPl M) (h2 : zPl M') (hs : zX[kk]? = some (c + 2, zF c)) (hr : (rest.map fun v => v.category).sum ≤ 8) (hE : zEr M' R h I (.ref kk :: [a0, a1]) r R' h' I') (k : zGo M nx lv (r.toList ++ rest) zX R' h' I' P) : zGo M pc lv (a1 :: a0 :: .ref kk :: rest) zX R h I P := g_cV2 hd hok h1 h2 hs hr hE (fun v R1 h1 I1 hp => by obtain ⟨rfl, rfl, rfl, rfl⟩ := hp; exact k)
theorem g_cS2 {M' : zM} {a0 a1 : Value} {PP : Option Value → zMR → Int64 → zMI → Prop} (hd : dCS M pc M' nx) (hok : zOkS M' 2) (h1 : zPl M) (h2 : zPl M') (hr : (rest.map fun v => v.category).sum ≤ 8) (hE : zEp M' R h I [a0, a1] PP) (k : ∀ v R' h' I', PP v R' h' I' → zGo M nx lv (v.toList ++ rest) zX R' h' I' P) : zGo M pc lv (a1 :: a0 :: rest) zX R h I P := g_callS (av := [a0, a1]) hd hok rfl (zcc h1 h2) hr rfl hE (fun v X' R' h' I' hp => by obtain ⟨rfl, hp⟩ := hp; exact k v R' h' I' hp)
theorem g_eS2 {M' : zM} {a0 a1 : Value} {r : Option Value} {R' : zMR} {h' : Int64} {I' : zMI} (hd : dCS M pc M' nx) (hok : zOkS M' 2) (h1 : zPl M) (h2 : zPl M') (hr : (rest.map fun v => v.category).sum ≤ 8) (hE : zEr M' R h I [a0, a1] r R' h' I') (k : zGo M nx lv (r.toList ++ rest) zX R' h' I' P) : zGo M pc lv (a1 :: a0 :: rest) zX R h I P := g_cS2 hd hok h1 h2 hr hE (fun v R1 h1 I1 hp => by obtain ⟨rfl, rfl, rfl, rfl⟩ := hp; exact k)
theorem g_cV3 {M' : zM} {c kk : Nat} {a0 a1 a2 : Value} {PP : Option Value → zMR → Int64 → zMI → Prop} (hd : dCV M pc M' nx) (hok : zOkV M' c 3) (h1 : zPl M) (h2 : zPl M') (hs : zX[kk]? = some (c + 2, zF c)) (hr : (rest.map fun v => v.category).sum ≤ 8) (hE : zEp M' R h I (.ref kk :: [a0, a1, a2]) PP) (k : ∀ v R' h' I', PP v R' h' I' → zGo M nx lv (v.toList ++ rest) zX R' h' I' P) : zGo M pc lv (a2 :: a1 :: a0 :: .ref kk :: rest) zX R h I P := g_callV (av := [a0, a1, a2]) hd hok hs rfl (zcc h1 h2) hr rfl hE (fun v X' R' h' I' hp => by obtain ⟨rfl, hp⟩ := hp; exact k v R' h' I' hp)
theorem g_eV3 {M' : zM} {c kk : Nat} {a0 a1 a2 : Value} {r : Option Value} {R' : zMR} {h' : Int64} {I' : zMI} (hd : dCV M pc M' nx) (hok : zOkV M' c 3) (h1 : zPl M) (h2 : zPl M') (hs : zX[kk]? = some (c + 2, zF c)) (hr : (rest.map fun v => v.category).sum ≤ 8) (hE : zEr M' R h I (.ref kk :: [a0, a1, a2]) r R' h' I') (k : zGo M nx lv (r.toList ++ rest) zX R' h' I' P) : zGo M pc lv (a2 :: a1 :: a0 :: .ref kk :: rest) zX R h I P := g_cV3 hd hok h1 h2 hs hr hE (fun v R1 h1 I1 hp => by obtain ⟨rfl, rfl, rfl, rfl⟩ := hp; exact k)
theorem g_cS3 {M' : zM} {a0 a1 a2 : Value} {PP : Option Value → zMR → Int64 → zMI → Prop} (hd : dCS M pc M' nx) (hok : zOkS M' 3) (h1 : zPl M) (h2 : zPl M') (hr : (rest.map fun v => v.category).sum ≤ 8) (hE : zEp M' R h I [a0, a1, a2] PP) (k : ∀ v R' h' I', PP v R' h' I' → zGo M nx lv (v.toList ++ rest) zX R' h' I' P) : zGo M pc lv (a2 :: a1 :: a0 :: rest) zX R h I P := g_callS (av := [a0, a1, a2]) hd hok rfl (zcc h1 h2) hr rfl hE (fun v X' R' h' I' hp => by obtain ⟨rfl, hp⟩ := hp; exact k v R' h' I' hp)
theorem g_eS3 {M' : zM} {a0 a1 a2 : Value} {r : Option Value} {R' : zMR} {h' : Int64} {I' : zMI} (hd : dCS M pc M' nx) (hok : zOkS M' 3) (h1 : zPl M) (h2 : zPl M') (hr : (rest.map fun v => v.category).sum ≤ 8) (hE : zEr M' R h I [a0, a1, a2] r R' h' I') (k : zGo M nx lv (r.toList ++ rest) zX R' h' I' P) : zGo M pc lv (a2 :: a1 :: a0 :: rest) zX R h I P := g_cS3 hd hok h1 h2 hr hE (fun v R1 h1 I1 hp => by obtain ⟨rfl, rfl, rfl, rfl⟩ := hp; exact k)
theorem g_cV4 {M' : zM} {c kk : Nat} {a0 a1 a2 a3 : Value} {PP : Option Value → zMR → Int64 → zMI → Prop} (hd : dCV M pc M' nx) (hok : zOkV M' c 4) (h1 : zPl M) (h2 : zPl M') (hs : zX[kk]? = some (c + 2, zF c)) (hr : (rest.map fun v => v.category).sum ≤ 8) (hE : zEp M' R h I (.ref kk :: [a0, a1, a2, a3]) PP) (k : ∀ v R' h' I', PP v R' h' I' → zGo M nx lv (v.toList ++ rest) zX R' h' I' P) : zGo M pc lv (a3 :: a2 :: a1 :: a0 :: .ref kk :: rest) zX R h I P := g_callV (av := [a0, a1, a2, a3]) hd hok hs rfl (zcc h1 h2) hr rfl hE (fun v X' R' h' I' hp => by obtain ⟨rfl, hp⟩ := hp; exact k v R' h' I' hp)
theorem g_eV4 {M' : zM} {c kk : Nat} {a0 a1 a2 a3 : Value} {r : Option Value} {R' : zMR} {h' : Int64} {I' : zMI} (hd : dCV M pc M' nx) (hok : zOkV M' c 4) (h1 : zPl M) (h2 : zPl M') (hs : zX[kk]? = some (c + 2, zF c)) (hr : (rest.map fun v => v.category).sum ≤ 8) (hE : zEr M' R h I (.ref kk :: [a0, a1, a2, a3]) r R' h' I') (k : zGo M nx lv (r.toList ++ rest) zX R' h' I' P) : zGo M pc lv (a3 :: a2 :: a1 :: a0 :: .ref kk :: rest) zX R h I P := g_cV4 hd hok h1 h2 hs hr hE (fun v R1 h1 I1 hp => by obtain ⟨rfl, rfl, rfl, rfl⟩ := hp; exact k)
theorem g_cS4 {M' : zM} {a0 a1 a2 a3 : Value} {PP : Option Value → zMR → Int64 → zMI → Prop} (hd : dCS M pc M' nx) (hok : zOkS M' 4) (h1 : zPl M) (h2 : zPl M') (hr : (rest.map fun v => v.category).sum ≤ 8) (hE : zEp M' R h I [a0, a1, a2, a3] PP) (k : ∀ v R' h' I', PP v R' h' I' → zGo M nx lv (v.toList ++ rest) zX R' h' I' P) : zGo M pc lv (a3 :: a2 :: a1 :: a0 :: rest) zX R h I P := g_callS (av := [a0, a1, a2, a3]) hd hok rfl (zcc h1 h2) hr rfl hE (fun v X' R' h' I' hp => by obtain ⟨rfl, hp⟩ := hp; exact k v R' h' I' hp)
theorem g_eS4 {M' : zM} {a0 a1 a2 a3 : Value} {r : Option Value} {R' : zMR} {h' : Int64} {I' : zMI} (hd : dCS M pc M' nx) (hok : zOkS M' 4) (h1 : zPl M) (h2 : zPl M') (hr : (rest.map fun v => v.category).sum ≤ 8) (hE : zEr M' R h I [a0, a1, a2, a3] r R' h' I') (k : zGo M nx lv (r.toList ++ rest) zX R' h' I' P) : zGo M pc lv (a3 :: a2 :: a1 :: a0 :: rest) zX R h I P := g_cS4 hd hok h1 h2 hr hE (fun v R1 h1 I1 hp => by obtain ⟨rfl, rfl, rfl, rfl⟩ := hp; exact k)
theorem g_cV5 {M' : zM} {c kk : Nat} {a0 a1 a2 a3 a4 : Value} {PP : Option Value → zMR → Int64 → zMI → Prop} (hd : dCV M pc M' nx) (hok : zOkV M' c 5) (h1 : zPl M) (h2 : zPl M') (hs : zX[kk]? = some (c + 2, zF c)) (hr : (rest.map fun v => v.category).sum ≤ 8) (hE : zEp M' R h I (.ref kk :: [a0, a1, a2, a3, a4]) PP) (k : ∀ v R' h' I', PP v R' h' I' → zGo M nx lv (v.toList ++ rest) zX R' h' I' P) : zGo M pc lv (a4 :: a3 :: a2 :: a1 :: a0 :: .ref kk :: rest) zX R h I P := g_callV (av := [a0, a1, a2, a3, a4]) hd hok hs rfl (zcc h1 h2) hr rfl hE (fun v X' R' h' I' hp => by obtain ⟨rfl, hp⟩ := hp; exact k v R' h' I' hp)
theorem g_eV5 {M' : zM} {c kk : Nat} {a0 a1 a2 a3 a4 : Value} {r : Option Value} {R' : zMR} {h' : Int64} {I' : zMI} (hd : dCV M pc M' nx) (hok : zOkV M' c 5) (h1 : zPl M) (h2 : zPl M') (hs : zX[kk]? = some (c + 2, zF c)) (hr : (rest.map fun v => v.category).sum ≤ 8) (hE : zEr M' R h I (.ref kk :: [a0, a1, a2, a3, a4]) r R' h' I') (k : zGo M nx lv (r.toList ++ rest) zX R' h' I' P) : zGo M pc lv (a4 :: a3 :: a2 :: a1 :: a0 :: .ref kk :: rest) zX R h I P := g_cV5 hd hok h1 h2 hs hr hE (fun v R1 h1 I1 hp => by obtain ⟨rfl, rfl, rfl, rfl⟩ := hp; exact k)
theorem g_cS5 {M' : zM} {a0 a1 a2 a3 a4 : Value} {PP : Option Value → zMR → Int64 → zMI → Prop} (hd : dCS M pc M' nx) (hok : zOkS M' 5) (h1 : zPl M) (h2 : zPl M') (hr : (rest.map fun v => v.category).sum ≤ 8) (hE : zEp M' R h I [a0, a1, a2, a3, a4] PP) (k : ∀ v R' h' I', PP v R' h' I' → zGo M nx lv (v.toList ++ rest) zX R' h' I' P) : zGo M pc lv (a4 :: a3 :: a2 :: a1 :: a0 :: rest) zX R h I P := g_callS (av := [a0, a1, a2, a3, a4]) hd hok rfl (zcc h1 h2) hr rfl hE (fun v X' R' h' I' hp => by obtain ⟨rfl, hp⟩ := hp; exact k v R' h' I' hp)
theorem g_eS5 {M' : zM} {a0 a1 a2 a3 a4 : Value} {r : Option Value} {R' : zMR} {h' : Int64} {I' : zMI} (hd : dCS M pc M' nx) (hok : zOkS M' 5) (h1 : zPl M) (h2 : zPl M') (hr : (rest.map fun v => v.category).sum ≤ 8) (hE : zEr M' R h I [a0, a1, a2, a3, a4] r R' h' I') (k : zGo M nx lv (r.toList ++ rest) zX R' h' I' P) : zGo M pc lv (a4 :: a3 :: a2 :: a1 :: a0 :: rest) zX R h I P := g_cS5 hd hok h1 h2 hr hE (fun v R1 h1 I1 hp => by obtain ⟨rfl, rfl, rfl, rfl⟩ := hp; exact k)
end GP
