section G15
variable {M : zM} {pc nx tgt : Nat} {lv rest : List Value} {X : List zSh} {R : zMR} {h : Int64} {I : zMI} {P : zPost}
theorem g_icltN {i n : Nat} (hd : dJ M pc (.if_icmp .lt) nx tgt) (hi : i < 2 ^ 31) (hn : n < 2 ^ 31) (kt : i < n → zGo M tgt lv rest X R h I P) (kf : n ≤ i → zGo M nx lv rest X R h I P) : zGo M pc lv (.int (nI n) :: .int (nI i) :: rest) X R h I P :=
  g_iclt hd (fun z => kt ((nI_ltI hi hn).mp z)) (fun z => kf (Nat.le_of_not_lt fun q => z ((nI_ltI hi hn).mpr q)))
end G15
def zrMv (I : zMI) (n : Int32) : zMI := zs I 3 (upd (upd (I 3) 0 n) 1 (-1))
def zfo (c : Int32) : Int32 := if ¬ c < 97 ∧ c < 105 then c - 97 else -1
def znx (I : zMI) (f : Int32) : Int32 := zb (¬ f = -1 ∧ I 3 1 < f)
def zrTF (I : zMI) (t a : Nat) (f : Int32) : zMI := zs (zs I t (upd (I t) a (I t a ||| 1 <<< (f &&& 31)))) 3 (upd (I 3) 1 f)
def zrTFR (I : zMI) (x c : Int32) : Int32 := zb ((¬ zfo c = -1 ∧ I 3 1 < zfo c) ∧ x >>> (zfo c &&& 31) &&& 1 = 0)
theorem ev2_factOf {R : zMR} {h : Int64} {I : zMI} {c : Int32} : zEr m2_factOf R h I [.int c] (some (.int (zfo c))) R h I := by
  refine zEp_of [.int c] pl2_factOf (by decide +kernel) (fun _ _ => rfl) (fun _ _ => Nat.le_of_ble_eq_true rfl) ?_
  refine g_il0 r2_factOf_0 ?_
  refine g_k r2_factOf_1 ?_
  refine g_iclt r2_factOf_3 (fun h3 => ?_) (fun h3 => ?_)
  · refine g_k r2_factOf_19 ?_
    exact g_iret r2_factOf_20 rfl ⟨rfl, ⟨zrt (by first | rfl | (simp [zfo, zb, zs_ap, upd_ap, zs_zs, *]; done) | (simp_all [zfo, zb, zs_ap, upd_ap, zs_zs]; done) | (simp only [zfo, zb, zs_ap, upd_ap, zs_zs, Int32.le_iff_toInt_le, Int32.lt_iff_toInt_lt] at *; (repeat' split) <;> first | rfl | omega)), rfl, rfl, (by first | rfl | (simp [zfo, zb, zs_ap, upd_ap, zs_zs, *]; done) | (simp_all [zfo, zb, zs_ap, upd_ap, zs_zs]; done) | (simp only [zfo, zb, zs_ap, upd_ap, zs_zs, Int32.le_iff_toInt_le, Int32.lt_iff_toInt_lt] at *; (repeat' split) <;> first | rfl | omega))⟩⟩
  · refine g_il0 r2_factOf_6 ?_
    refine g_k r2_factOf_7 ?_
    refine g_icgeL r2_factOf_9 (fun h9 => ?_) (fun h9 => ?_)
    · refine g_k r2_factOf_19 ?_
      exact g_iret r2_factOf_20 rfl ⟨rfl, ⟨zrt (by first | rfl | (simp [zfo, zb, zs_ap, upd_ap, zs_zs, *]; done) | (simp_all [zfo, zb, zs_ap, upd_ap, zs_zs]; done) | (simp only [zfo, zb, zs_ap, upd_ap, zs_zs, Int32.le_iff_toInt_le, Int32.lt_iff_toInt_lt] at *; (repeat' split) <;> first | rfl | omega)), rfl, rfl, (by first | rfl | (simp [zfo, zb, zs_ap, upd_ap, zs_zs, *]; done) | (simp_all [zfo, zb, zs_ap, upd_ap, zs_zs]; done) | (simp only [zfo, zb, zs_ap, upd_ap, zs_zs, Int32.le_iff_toInt_le, Int32.lt_iff_toInt_lt] at *; (repeat' split) <;> first | rfl | omega))⟩⟩
    · refine g_il0 r2_factOf_12 ?_
      refine g_k r2_factOf_13 ?_
      refine g_isub r2_factOf_15 ?_
      refine g_goto r2_factOf_16 ?_
      exact g_iret r2_factOf_20 rfl ⟨rfl, ⟨zrt (by first | rfl | (simp [zfo, zb, zs_ap, upd_ap, zs_zs, *]; done) | (simp_all [zfo, zb, zs_ap, upd_ap, zs_zs]; done) | (simp only [zfo, zb, zs_ap, upd_ap, zs_zs, Int32.le_iff_toInt_le, Int32.lt_iff_toInt_lt] at *; (repeat' split) <;> first | rfl | omega)), rfl, rfl, (by first | rfl | (simp [zfo, zb, zs_ap, upd_ap, zs_zs, *]; done) | (simp_all [zfo, zb, zs_ap, upd_ap, zs_zs]; done) | (simp only [zfo, zb, zs_ap, upd_ap, zs_zs, Int32.le_iff_toInt_le, Int32.lt_iff_toInt_lt] at *; (repeat' split) <;> first | rfl | omega))⟩⟩
theorem ev2_moveTo {w v0 e1 e2 : Nat} {h : Int64} {I : zMI} {n : Int32} : zEr m2_moveTo (zRR w v0 e1 e2) h I [.ref 3, .int n] (some (.int (1))) (zRR w v0 e1 e2) h (zrMv I n) := by
  refine zEp_of [.ref 3, .int n] pl2_moveTo (by decide +kernel) (fun _ _ => rfl) (fun _ _ => Nat.le_of_ble_eq_true rfl) ?_
  refine g_al0 r2_moveTo_0 ?_
  refine g_il1 r2_moveTo_1 ?_
  refine g_pfi r2_moveTo_2 xx_3 rfl rfl ?_
  refine g_al0 r2_moveTo_5 ?_
  refine g_k r2_moveTo_6 ?_
  refine g_pfi r2_moveTo_7 xx_3 rfl rfl ?_
  refine g_k r2_moveTo_10 ?_
  exact g_zret r2_moveTo_11 rfl (Or.inr rfl) ⟨rfl, ⟨zrt (by first | rfl | (simp [zrMv, zb, zs_ap, upd_ap, zs_zs, *]; done) | (simp_all [zrMv, zb, zs_ap, upd_ap, zs_zs]; done) | (simp only [zrMv, zb, zs_ap, upd_ap, zs_zs, Int32.le_iff_toInt_le, Int32.lt_iff_toInt_lt] at *; (repeat' split) <;> first | rfl | omega)), rfl, rfl, (by first | rfl | (simp [zrMv, zb, zs_ap, upd_ap, zs_zs, *]; done) | (simp_all [zrMv, zb, zs_ap, upd_ap, zs_zs]; done) | (simp only [zrMv, zb, zs_ap, upd_ap, zs_zs, Int32.le_iff_toInt_le, Int32.lt_iff_toInt_lt] at *; (repeat' split) <;> first | rfl | omega))⟩⟩
theorem ev2_isNext {w v0 e1 e2 : Nat} {h : Int64} {I : zMI} {f : Int32} : zEr m2_isNext (zRR w v0 e1 e2) h I [.ref 3, .int f] (some (.int (znx I f))) (zRR w v0 e1 e2) h I := by
  refine zEp_of [.ref 3, .int f] pl2_isNext (by decide +kernel) (fun _ _ => rfl) (fun _ _ => Nat.le_of_ble_eq_true rfl) ?_
  refine g_il1 r2_isNext_0 ?_
  refine g_k r2_isNext_1 ?_
  refine g_iceq r2_isNext_2 (fun h2 => ?_) (fun h2 => ?_)
  · refine g_k r2_isNext_17 ?_
    exact g_zret r2_isNext_18 rfl (Or.inl rfl) ⟨rfl, ⟨zrt (by first | rfl | (simp [znx, zb, zs_ap, upd_ap, zs_zs, *]; done) | (simp_all [znx, zb, zs_ap, upd_ap, zs_zs]; done) | (simp only [znx, zb, zs_ap, upd_ap, zs_zs, Int32.le_iff_toInt_le, Int32.lt_iff_toInt_lt] at *; (repeat' split) <;> first | rfl | omega)), rfl, rfl, (by first | rfl | (simp [znx, zb, zs_ap, upd_ap, zs_zs, *]; done) | (simp_all [znx, zb, zs_ap, upd_ap, zs_zs]; done) | (simp only [znx, zb, zs_ap, upd_ap, zs_zs, Int32.le_iff_toInt_le, Int32.lt_iff_toInt_lt] at *; (repeat' split) <;> first | rfl | omega))⟩⟩
  · refine g_il1 r2_isNext_5 ?_
    refine g_al0 r2_isNext_6 ?_
    refine g_gfi r2_isNext_7 xx_3 rfl ?_
    refine g_icleL r2_isNext_10 (fun h10 => ?_) (fun h10 => ?_)
    · refine g_k r2_isNext_17 ?_
      exact g_zret r2_isNext_18 rfl (Or.inl rfl) ⟨rfl, ⟨zrt (by first | rfl | (simp [znx, zb, zs_ap, upd_ap, zs_zs, *]; done) | (simp_all [znx, zb, zs_ap, upd_ap, zs_zs]; done) | (simp only [znx, zb, zs_ap, upd_ap, zs_zs, Int32.le_iff_toInt_le, Int32.lt_iff_toInt_lt] at *; (repeat' split) <;> first | rfl | omega)), rfl, rfl, (by first | rfl | (simp [znx, zb, zs_ap, upd_ap, zs_zs, *]; done) | (simp_all [znx, zb, zs_ap, upd_ap, zs_zs]; done) | (simp only [znx, zb, zs_ap, upd_ap, zs_zs, Int32.le_iff_toInt_le, Int32.lt_iff_toInt_lt] at *; (repeat' split) <;> first | rfl | omega))⟩⟩
    · refine g_k r2_isNext_13 ?_
      refine g_goto r2_isNext_14 ?_
      exact g_zret r2_isNext_18 rfl (Or.inr rfl) ⟨rfl, ⟨zrt (by first | rfl | (simp [znx, zb, zs_ap, upd_ap, zs_zs, *]; done) | (simp_all [znx, zb, zs_ap, upd_ap, zs_zs]; done) | (simp only [znx, zb, zs_ap, upd_ap, zs_zs, Int32.le_iff_toInt_le, Int32.lt_iff_toInt_lt] at *; (repeat' split) <;> first | rfl | omega)), rfl, rfl, (by first | rfl | (simp [znx, zb, zs_ap, upd_ap, zs_zs, *]; done) | (simp_all [znx, zb, zs_ap, upd_ap, zs_zs]; done) | (simp only [znx, zb, zs_ap, upd_ap, zs_zs, Int32.le_iff_toInt_le, Int32.lt_iff_toInt_lt] at *; (repeat' split) <;> first | rfl | omega))⟩⟩
theorem ev2_takesFact {w v0 e1 e2 : Nat} {h : Int64} {I : zMI} {t a : Nat} {x c : Int32} (ht : zX[t]? = some (0, 10)) (ht3 : ¬ 3 = t) (ha : a < 10) : zEr m2_takesFact (zRR w v0 e1 e2) h I [.ref 3, .ref t, .int (nI a), .int x, .int c] (some (.int (zrTFR I x c))) (zRR w v0 e1 e2) h (if zrTFR I x c = 0 then I else zrTF I t a (zfo c)) := by
  refine zEp_of [.ref 3, .ref t, .int (nI a), .int x, .int c, .null] pl2_takesFact (by decide +kernel) (fun _ _ => rfl) (fun _ _ => Nat.le_of_ble_eq_true rfl) ?_
  refine g_il4 r2_takesFact_0 ?_
  refine g_eS1 r2_takesFact_2 ok2_factOf pl2_takesFact pl2_factOf (Nat.le_of_ble_eq_true rfl) (ev2_factOf) ?_
  refine g_is5 r2_takesFact_5 rfl ?_
  refine g_il2 r2_takesFact_7 ?_
  refine g_iflt r2_takesFact_8 (fun hc => absurd hc (nI_pos (by omega))) (fun _ => ?_)
  refine g_il2 r2_takesFact_11 ?_
  refine g_al1 r2_takesFact_12 ?_
  refine g_alen r2_takesFact_13 ht ?_
  refine g_icgeN r2_takesFact_14 (by omega) (by omega) (fun hc => absurd hc (by omega)) (fun h14 => ?_)
  refine g_al0 r2_takesFact_17 ?_
  refine g_il5 r2_takesFact_18 ?_
  refine g_eV1 r2_takesFact_20 ok2_isNext pl2_takesFact pl2_isNext xx_3 (Nat.le_of_ble_eq_true rfl) (ev2_isNext) ?_
  refine g_ifeqB r2_takesFact_23 (fun h23 => ?_) (fun h23 => ?_)
  · refine g_k r2_takesFact_35 ?_
    exact g_zret r2_takesFact_36 rfl (Or.inl rfl) ⟨rfl, ⟨zrt (by first | rfl | (simp [zrTFR, zrTF, znx, zb, zs_ap, upd_ap, zs_zs, *]; done) | (simp_all [zrTFR, zrTF, znx, zb, zs_ap, upd_ap, zs_zs]; done) | (simp only [zrTFR, zrTF, znx, zb, zs_ap, upd_ap, zs_zs, Int32.le_iff_toInt_le, Int32.lt_iff_toInt_lt] at *; (repeat' split) <;> first | rfl | omega)), rfl, rfl, (by first | rfl | (simp [zrTFR, zrTF, znx, zb, zs_ap, upd_ap, zs_zs, *]; done) | (simp_all [zrTFR, zrTF, znx, zb, zs_ap, upd_ap, zs_zs]; done) | (simp only [zrTFR, zrTF, znx, zb, zs_ap, upd_ap, zs_zs, Int32.le_iff_toInt_le, Int32.lt_iff_toInt_lt] at *; (repeat' split) <;> first | rfl | omega))⟩⟩
  · refine g_il3 r2_takesFact_26 ?_
    refine g_il5 r2_takesFact_27 ?_
    refine g_eS2 r2_takesFact_29 ok6_contains pl2_takesFact pl6_contains (Nat.le_of_ble_eq_true rfl) (ev6_contains) ?_
    refine g_ifeqB r2_takesFact_32 (fun h32 => ?_) (fun h32 => ?_)
    · refine g_al1 r2_takesFact_37 ?_
      refine g_il2 r2_takesFact_38 ?_
      refine g_dup2 r2_takesFact_39 rfl rfl ?_
      refine g_ialdN r2_takesFact_40 ht (by omega) (by decide) ?_
      refine g_k r2_takesFact_41 ?_
      refine g_il5 r2_takesFact_42 ?_
      refine g_ishl r2_takesFact_44 ?_
      refine g_ior r2_takesFact_45 ?_
      refine g_iastN r2_takesFact_46 ht (by omega) (by decide) ?_
      refine g_al0 r2_takesFact_47 ?_
      refine g_il5 r2_takesFact_48 ?_
      refine g_pfi r2_takesFact_50 xx_3 rfl rfl ?_
      refine g_k r2_takesFact_53 ?_
      exact g_zret r2_takesFact_54 rfl (Or.inr rfl) ⟨rfl, ⟨zrt (by first | rfl | (simp [zrTFR, zrTF, znx, zb, zs_ap, upd_ap, zs_zs, *]; done) | (simp_all [zrTFR, zrTF, znx, zb, zs_ap, upd_ap, zs_zs]; done) | (simp only [zrTFR, zrTF, znx, zb, zs_ap, upd_ap, zs_zs, Int32.le_iff_toInt_le, Int32.lt_iff_toInt_lt] at *; (repeat' split) <;> first | rfl | omega)), rfl, rfl, (by first | rfl | (simp [zrTFR, zrTF, znx, zb, zs_ap, upd_ap, zs_zs, *]; done) | (simp_all [zrTFR, zrTF, znx, zb, zs_ap, upd_ap, zs_zs]; done) | (simp only [zrTFR, zrTF, znx, zb, zs_ap, upd_ap, zs_zs, Int32.le_iff_toInt_le, Int32.lt_iff_toInt_lt] at *; (repeat' split) <;> first | rfl | omega))⟩⟩
    · refine g_k r2_takesFact_35 ?_
      exact g_zret r2_takesFact_36 rfl (Or.inl rfl) ⟨rfl, ⟨zrt (by first | rfl | (simp [zrTFR, zrTF, znx, zb, zs_ap, upd_ap, zs_zs, *]; done) | (simp_all [zrTFR, zrTF, znx, zb, zs_ap, upd_ap, zs_zs]; done) | (simp only [zrTFR, zrTF, znx, zb, zs_ap, upd_ap, zs_zs, Int32.le_iff_toInt_le, Int32.lt_iff_toInt_lt] at *; (repeat' split) <;> first | rfl | omega)), rfl, rfl, (by first | rfl | (simp [zrTFR, zrTF, znx, zb, zs_ap, upd_ap, zs_zs, *]; done) | (simp_all [zrTFR, zrTF, znx, zb, zs_ap, upd_ap, zs_zs]; done) | (simp only [zrTFR, zrTF, znx, zb, zs_ap, upd_ap, zs_zs, Int32.le_iff_toInt_le, Int32.lt_iff_toInt_lt] at *; (repeat' split) <;> first | rfl | omega))⟩⟩
def zrCl (I : zMI) (v : Nat) : zMI := zs I v (upd (upd (upd (I v) 9 0) 10 0) 11 0)
def zrAP (I : zMI) (v n : Nat) (k : Int32) : zMI := zs (zs I (v + 1) (upd (I (v + 1)) n k)) v (upd (I v) 9 (I v 9 + 1))
def zrAA (I : zMI) (v a : Nat) (k : Int32) : zMI := zs (zs (zs (zs (zs (zs I (v + 5) (upd (I (v + 5)) a k)) (v + 6) (upd (I (v + 6)) a 0)) (v + 7) (upd (I (v + 7)) a 0)) (v + 8) (upd (I (v + 8)) a 0)) (v + 9) (upd (I (v + 9)) a 0)) v (upd (I v) 10 (I v 10 + 1))
def zrKi (I : zMI) (v n : Nat) (c : Int32) : zMI := zrMv (zrAP I v n (zkd c)) 1
def zrSi (I : zMI) (c : Int32) : zMI := if c = 43 ∨ c = 45 then zrMv (zs I 3 (upd (I 3) 2 (zb (c = 43)))) 2 else zs I 3 (upd (I 3) 2 (zb (c = 43)))
def zrGo (I : zMI) (v n : Nat) (f : Int32) : zMI := zrMv (zs (zs (zs I (v + 2) (upd (I (v + 2)) n f)) (v + 3) (upd (I (v + 3)) n (if I 3 2 = 0 then 0 else 1 <<< (f &&& 31)))) (v + 4) (upd (I (v + 4)) n (if I 3 2 = 0 then 1 <<< (f &&& 31) else 0))) 3
def zrAG (I : zMI) (v : Nat) (c : Int32) : Int32 := zb (c = 44 ∧ I v 9 < 4 ∨ c = 59)
def zrAGm (I : zMI) (v : Nat) (c : Int32) : zMI := if zrAG I v c = 0 then I else if c = 44 then zrMv I 0 else zrMv I 4
def zrFFR (I : zMI) (c : Int32) : Int32 := if c = 58 then 1 else znx I (zfo c)
def zrFF (I : zMI) (v : Nat) (c : Int32) : zMI := if c = 58 then zrMv I 5 else if znx I (zfo c) = 0 then I else zs (zs I v (upd (I v) 11 (I v 11 ||| 1 <<< (zfo c &&& 31)))) 3 (upd (I 3) 1 (zfo c))
def zrOwR (I : zMI) (v : Nat) (c : Int32) : Int32 := zb (¬ c - 48 < 0 ∧ c - 48 < I v 9)
def zrOw (I : zMI) (v a : Nat) (c : Int32) : zMI := if zrOwR I v c = 0 then I else zrMv (zrAA I v a (c - 48)) 6
def zrCo (I : zMI) (v a : Nat) : Int32 := zb (I 3 0 = 8 ∧ ¬ I (v + 8) a = 0 ∨ I 3 0 = 9 ∧ ¬ I (v + 9) a = 0)
def zrNeR (I : zMI) (v a : Nat) (c : Int32) : Int32 := if c = 62 then zb (I 3 0 = 6 ∨ ¬ I (v + 7) a = 0) else if c = 45 then zb (I 3 0 = 6 ∧ ¬ I (v + 6) a = 255) else if I 3 0 = 6 then zrTFR I 0 c else zrTFR I (I (v + 6) a) c
def zrNe (I : zMI) (v a : Nat) (c : Int32) : zMI := if zrNeR I v a c = 0 then I else if c = 62 then zrMv I 8 else if c = 45 then zrMv I 7 else if I 3 0 = 6 then zrTF I (v + 6) a (zfo c) else zrTF I (v + 7) a (zfo c)
def zrMaR (I : zMI) (v a : Nat) (c : Int32) : Int32 := if c = 44 then zb ((I 3 0 = 8 ∧ ¬ I (v + 8) a = 0 ∨ I 3 0 = 9 ∧ ¬ I (v + 9) a = 0) ∧ I v 10 < 10) else if c = 45 then zb (I 3 0 = 8 ∧ ¬ I (v + 8) a = 255) else if I 3 0 = 8 then zrTFR I 0 c else zrTFR I (I (v + 8) a) c
def zrMa (I : zMI) (v a : Nat) (c : Int32) : zMI := if zrMaR I v a c = 0 then I else if c = 44 then zrMv I 5 else if c = 45 then zrMv I 9 else if I 3 0 = 8 then zrTF I (v + 8) a (zfo c) else zrTF I (v + 9) a (zfo c)
theorem ev2_clear_34 {w v0 e1 e2 : Nat} {h : Int64} {I : zMI}  : zEr m5_clear (zRR w v0 e1 e2) h I [.ref 34] none (zRR w v0 e1 e2) h (zrCl I 34) := by
  refine zEp_of [.ref 34] pl5_clear (by decide +kernel) (fun _ _ => rfl) (fun _ _ => Nat.le_of_ble_eq_true rfl) ?_
  refine g_al0 r5_clear_0 ?_
  refine g_k r5_clear_1 ?_
  refine g_pfi r5_clear_2 xx_34 rfl rfl ?_
  refine g_al0 r5_clear_5 ?_
  refine g_k r5_clear_6 ?_
  refine g_pfi r5_clear_7 xx_34 rfl rfl ?_
  refine g_al0 r5_clear_10 ?_
  refine g_k r5_clear_11 ?_
  refine g_pfi r5_clear_12 xx_34 rfl rfl ?_
  exact g_vret r5_clear_15 rfl ⟨rfl, ⟨rfl, rfl, rfl, (by first | rfl | (simp [zrCl, zb, zs_ap, upd_ap, zs_zs, *]; done) | (simp_all [zrCl, zb, zs_ap, upd_ap, zs_zs]; done) | (simp only [zrCl, zb, zs_ap, upd_ap, zs_zs, Int32.le_iff_toInt_le, Int32.lt_iff_toInt_lt] at *; (repeat' split) <;> first | rfl | omega))⟩⟩
theorem ev2_addPerson_34 {w v0 e1 e2 : Nat} {h : Int64} {I : zMI} {n : Nat} (hn : I 34 9 = nI n) (hn4 : n < 4) {k : Int32} : zEr m5_addPerson (zRR w v0 e1 e2) h I [.ref 34, .int k] none (zRR w v0 e1 e2) h (zrAP I 34 n k) := by
  refine zEp_of [.ref 34, .int k] pl5_addPerson (by decide +kernel) (fun _ _ => rfl) (fun _ _ => Nat.le_of_ble_eq_true rfl) ?_
  refine g_al0 r5_addPerson_0 ?_
  refine g_gfi r5_addPerson_1 xx_34 rfl ?_
  refine g_eqv (y := nI n) hn ?_
  refine g_k r5_addPerson_4 ?_
  refine g_eqv (y := nI 4) rfl ?_
  refine g_icgeN r5_addPerson_5 (by omega) (by omega) (fun hc => absurd hc (by omega)) (fun h5 => ?_)
  refine g_al0 r5_addPerson_8 ?_
  refine g_gfr r5_addPerson_9 xx_34 rfl (rfl : _ = some 35) ?_
  refine g_al0 r5_addPerson_12 ?_
  refine g_gfi r5_addPerson_13 xx_34 rfl ?_
  refine g_eqv (y := nI n) hn ?_
  refine g_il1 r5_addPerson_16 ?_
  refine g_iastN r5_addPerson_17 xx_35 (by omega) (by decide) ?_
  refine g_al0 r5_addPerson_18 ?_
  refine g_dup r5_addPerson_19 rfl ?_
  refine g_gfi r5_addPerson_20 xx_34 rfl ?_
  refine g_k r5_addPerson_23 ?_
  refine g_iadd r5_addPerson_24 ?_
  refine g_pfi r5_addPerson_25 xx_34 rfl rfl ?_
  exact g_vret r5_addPerson_28 rfl ⟨rfl, ⟨rfl, rfl, rfl, (by first | rfl | (simp [zrAP, zb, zs_ap, upd_ap, zs_zs, *]; done) | (simp_all [zrAP, zb, zs_ap, upd_ap, zs_zs]; done) | (simp only [zrAP, zb, zs_ap, upd_ap, zs_zs, Int32.le_iff_toInt_le, Int32.lt_iff_toInt_lt] at *; (repeat' split) <;> first | rfl | omega))⟩⟩
theorem ev2_addAct_34 {w v0 e1 e2 : Nat} {h : Int64} {I : zMI} {a : Nat} (ha : I 34 10 = nI a) (ha10 : a < 10) {k : Int32} : zEr m5_addAct (zRR w v0 e1 e2) h I [.ref 34, .int k] none (zRR w v0 e1 e2) h (zrAA I 34 a k) := by
  refine zEp_of [.ref 34, .int k] pl5_addAct (by decide +kernel) (fun _ _ => rfl) (fun _ _ => Nat.le_of_ble_eq_true rfl) ?_
  refine g_al0 r5_addAct_0 ?_
  refine g_gfi r5_addAct_1 xx_34 rfl ?_
  refine g_eqv (y := nI a) ha ?_
  refine g_k r5_addAct_4 ?_
  refine g_eqv (y := nI 10) rfl ?_
  refine g_icgeN r5_addAct_6 (by omega) (by omega) (fun hc => absurd hc (by omega)) (fun h6 => ?_)
  refine g_al0 r5_addAct_9 ?_
  refine g_gfr r5_addAct_10 xx_34 rfl (rfl : _ = some 39) ?_
  refine g_al0 r5_addAct_13 ?_
  refine g_gfi r5_addAct_14 xx_34 rfl ?_
  refine g_eqv (y := nI a) ha ?_
  refine g_il1 r5_addAct_17 ?_
  refine g_iastN r5_addAct_18 xx_39 (by omega) (by decide) ?_
  refine g_al0 r5_addAct_19 ?_
  refine g_gfr r5_addAct_20 xx_34 rfl (rfl : _ = some 40) ?_
  refine g_al0 r5_addAct_23 ?_
  refine g_gfi r5_addAct_24 xx_34 rfl ?_
  refine g_eqv (y := nI a) ha ?_
  refine g_k r5_addAct_27 ?_
  refine g_iastN r5_addAct_28 xx_40 (by omega) (by decide) ?_
  refine g_al0 r5_addAct_29 ?_
  refine g_gfr r5_addAct_30 xx_34 rfl (rfl : _ = some 41) ?_
  refine g_al0 r5_addAct_33 ?_
  refine g_gfi r5_addAct_34 xx_34 rfl ?_
  refine g_eqv (y := nI a) ha ?_
  refine g_k r5_addAct_37 ?_
  refine g_iastN r5_addAct_38 xx_41 (by omega) (by decide) ?_
  refine g_al0 r5_addAct_39 ?_
  refine g_gfr r5_addAct_40 xx_34 rfl (rfl : _ = some 42) ?_
  refine g_al0 r5_addAct_43 ?_
  refine g_gfi r5_addAct_44 xx_34 rfl ?_
  refine g_eqv (y := nI a) ha ?_
  refine g_k r5_addAct_47 ?_
  refine g_iastN r5_addAct_48 xx_42 (by omega) (by decide) ?_
  refine g_al0 r5_addAct_49 ?_
  refine g_gfr r5_addAct_50 xx_34 rfl (rfl : _ = some 43) ?_
  refine g_al0 r5_addAct_53 ?_
  refine g_gfi r5_addAct_54 xx_34 rfl ?_
  refine g_eqv (y := nI a) ha ?_
  refine g_k r5_addAct_57 ?_
  refine g_iastN r5_addAct_58 xx_43 (by omega) (by decide) ?_
  refine g_al0 r5_addAct_59 ?_
  refine g_dup r5_addAct_60 rfl ?_
  refine g_gfi r5_addAct_61 xx_34 rfl ?_
  refine g_k r5_addAct_64 ?_
  refine g_iadd r5_addAct_65 ?_
  refine g_pfi r5_addAct_66 xx_34 rfl rfl ?_
  exact g_vret r5_addAct_69 rfl ⟨rfl, ⟨rfl, rfl, rfl, (by first | rfl | (simp [zrAA, zb, zs_ap, upd_ap, zs_zs, *]; done) | (simp_all [zrAA, zb, zs_ap, upd_ap, zs_zs]; done) | (simp only [zrAA, zb, zs_ap, upd_ap, zs_zs, Int32.le_iff_toInt_le, Int32.lt_iff_toInt_lt] at *; (repeat' split) <;> first | rfl | omega))⟩⟩
theorem ev2_takesKind_34 {w v0 e1 e2 : Nat} {h : Int64} {I : zMI} {n : Nat} (hn : I 34 9 = nI n) (hn4 : n < 4) {c : Int32} : zEr m2_takesKind (zRR w v0 e1 e2) h I [.ref 3, .ref 34, .int c] (some (.int (zb (¬ zkd c = -1)))) (zRR w v0 e1 e2) h (if zkd c = -1 then I else zrKi I 34 n c) := by
  refine zEp_of [.ref 3, .ref 34, .int c, .null] pl2_takesKind (by decide +kernel) (fun _ _ => rfl) (fun _ _ => Nat.le_of_ble_eq_true rfl) ?_
  refine g_join (pc' := 41) (lv' := [.ref 3, .ref 34, .int c, .null]) (st' := [.int (zkd c)]) (fun j41 => ?_) ?_
  · refine g_il2 r2_takesKind_0 ?_
    refine g_k r2_takesKind_1 ?_
    refine g_icne r2_takesKind_3 (fun h3 => ?_) (fun h3 => ?_)
    · refine g_il2 r2_takesKind_10 ?_
      refine g_k r2_takesKind_11 ?_
      refine g_icne r2_takesKind_13 (fun h13 => ?_) (fun h13 => ?_)
      · refine g_il2 r2_takesKind_20 ?_
        refine g_k r2_takesKind_21 ?_
        refine g_icne r2_takesKind_23 (fun h23 => ?_) (fun h23 => ?_)
        · refine g_il2 r2_takesKind_30 ?_
          refine g_k r2_takesKind_31 ?_
          refine g_icne r2_takesKind_33 (fun h33 => ?_) (fun h33 => ?_)
          · refine g_k r2_takesKind_40 ?_
            exact g_eqv (by first | rfl | (simp [zkd, zb, *]; done) | (simp_all [zkd, zb]; done)) j41
          · refine g_k r2_takesKind_36 ?_
            refine g_goto r2_takesKind_37 ?_
            exact g_eqv (by first | rfl | (simp [zkd, zb, *]; done) | (simp_all [zkd, zb]; done)) j41
        · refine g_k r2_takesKind_26 ?_
          refine g_goto r2_takesKind_27 ?_
          exact g_eqv (by first | rfl | (simp [zkd, zb, *]; done) | (simp_all [zkd, zb]; done)) j41
      · refine g_k r2_takesKind_16 ?_
        refine g_goto r2_takesKind_17 ?_
        exact g_eqv (by first | rfl | (simp [zkd, zb, *]; done) | (simp_all [zkd, zb]; done)) j41
    · refine g_k r2_takesKind_6 ?_
      refine g_goto r2_takesKind_7 ?_
      exact g_eqv (by first | rfl | (simp [zkd, zb, *]; done) | (simp_all [zkd, zb]; done)) j41
  · refine g_is3 r2_takesKind_41 rfl ?_
    refine g_il3 r2_takesKind_42 ?_
    refine g_k r2_takesKind_43 ?_
    refine g_iceq r2_takesKind_44 (fun h44 => ?_) (fun h44 => ?_)
    · refine g_k r2_takesKind_55 ?_
      exact g_zret r2_takesKind_56 rfl (Or.inl rfl) ⟨rfl, ⟨zrt (by first | rfl | (simp [zrKi, zb, zs_ap, upd_ap, zs_zs, *]; done) | (simp_all [zrKi, zb, zs_ap, upd_ap, zs_zs]; done) | (simp only [zrKi, zb, zs_ap, upd_ap, zs_zs, Int32.le_iff_toInt_le, Int32.lt_iff_toInt_lt] at *; (repeat' split) <;> first | rfl | omega)), rfl, rfl, (by first | rfl | (simp [zrKi, zb, zs_ap, upd_ap, zs_zs, *]; done) | (simp_all [zrKi, zb, zs_ap, upd_ap, zs_zs]; done) | (simp only [zrKi, zb, zs_ap, upd_ap, zs_zs, Int32.le_iff_toInt_le, Int32.lt_iff_toInt_lt] at *; (repeat' split) <;> first | rfl | omega))⟩⟩
    · refine g_al1 r2_takesKind_47 ?_
      refine g_gfi r2_takesKind_48 xx_34 rfl ?_
      refine g_eqv (y := nI n) hn ?_
      refine g_k r2_takesKind_51 ?_
      refine g_eqv (y := nI 4) rfl ?_
      refine g_icltN r2_takesKind_52 (by omega) (by omega) (fun h52 => ?_) (fun hc => absurd hc (by omega))
      refine g_al1 r2_takesKind_57 ?_
      refine g_il3 r2_takesKind_58 ?_
      refine g_eV1 r2_takesKind_59 ok5_addPerson pl2_takesKind pl5_addPerson xx_34 (Nat.le_of_ble_eq_true rfl) (ev2_addPerson_34 hn hn4) ?_
      refine g_al0 r2_takesKind_62 ?_
      refine g_k r2_takesKind_63 ?_
      refine g_eV1 r2_takesKind_64 ok2_moveTo pl2_takesKind pl2_moveTo xx_3 (Nat.le_of_ble_eq_true rfl) (ev2_moveTo) ?_
      exact g_zret r2_takesKind_67 rfl (Or.inr rfl) ⟨rfl, ⟨zrt (by first | rfl | (simp [zrKi, zb, zs_ap, upd_ap, zs_zs, *]; done) | (simp_all [zrKi, zb, zs_ap, upd_ap, zs_zs]; done) | (simp only [zrKi, zb, zs_ap, upd_ap, zs_zs, Int32.le_iff_toInt_le, Int32.lt_iff_toInt_lt] at *; (repeat' split) <;> first | rfl | omega)), rfl, rfl, (by first | rfl | (simp [zrKi, zb, zs_ap, upd_ap, zs_zs, *]; done) | (simp_all [zrKi, zb, zs_ap, upd_ap, zs_zs]; done) | (simp only [zrKi, zb, zs_ap, upd_ap, zs_zs, Int32.le_iff_toInt_le, Int32.lt_iff_toInt_lt] at *; (repeat' split) <;> first | rfl | omega))⟩⟩
theorem ev2_takesSign {w v0 e1 e2 : Nat} {h : Int64} {I : zMI} {c : Int32} : zEr m2_takesSign (zRR w v0 e1 e2) h I [.ref 3, .int c] (some (.int (zb (c = 43 ∨ c = 45)))) (zRR w v0 e1 e2) h (zrSi I c) := by
  refine zEp_of [.ref 3, .int c] pl2_takesSign (by decide +kernel) (fun _ _ => rfl) (fun _ _ => Nat.le_of_ble_eq_true rfl) ?_
  refine g_al0 r2_takesSign_0 ?_
  refine g_il1 r2_takesSign_1 ?_
  refine g_k r2_takesSign_2 ?_
  refine g_icne r2_takesSign_4 (fun h4 => ?_) (fun h4 => ?_)
  · refine g_k r2_takesSign_11 ?_
    refine g_pfz r2_takesSign_12 xx_3 rfl rfl (Or.inl rfl) ?_
    refine g_il1 r2_takesSign_15 ?_
    refine g_k r2_takesSign_16 ?_
    refine g_iceq r2_takesSign_18 (fun h18 => ?_) (fun h18 => ?_)
    · refine g_al0 r2_takesSign_27 ?_
      refine g_k r2_takesSign_28 ?_
      refine g_eV1 r2_takesSign_29 ok2_moveTo pl2_takesSign pl2_moveTo xx_3 (Nat.le_of_ble_eq_true rfl) (ev2_moveTo) ?_
      refine g_ifeq r2_takesSign_32 (fun hc => absurd hc (by decide)) (fun _ => ?_)
      refine g_k r2_takesSign_35 ?_
      refine g_goto r2_takesSign_36 ?_
      exact g_zret r2_takesSign_40 rfl (Or.inr rfl) ⟨rfl, ⟨zrt (by first | rfl | (simp [zrSi, zb, zs_ap, upd_ap, zs_zs, *]; done) | (simp_all [zrSi, zb, zs_ap, upd_ap, zs_zs]; done) | (simp only [zrSi, zb, zs_ap, upd_ap, zs_zs, Int32.le_iff_toInt_le, Int32.lt_iff_toInt_lt] at *; (repeat' split) <;> first | rfl | omega)), rfl, rfl, (by first | rfl | (simp [zrSi, zb, zs_ap, upd_ap, zs_zs, *]; done) | (simp_all [zrSi, zb, zs_ap, upd_ap, zs_zs]; done) | (simp only [zrSi, zb, zs_ap, upd_ap, zs_zs, Int32.le_iff_toInt_le, Int32.lt_iff_toInt_lt] at *; (repeat' split) <;> first | rfl | omega))⟩⟩
    · refine g_il1 r2_takesSign_21 ?_
      refine g_k r2_takesSign_22 ?_
      refine g_icne r2_takesSign_24 (fun h24 => ?_) (fun h24 => ?_)
      · refine g_k r2_takesSign_39 ?_
        exact g_zret r2_takesSign_40 rfl (Or.inl rfl) ⟨rfl, ⟨zrt (by first | rfl | (simp [zrSi, zb, zs_ap, upd_ap, zs_zs, *]; done) | (simp_all [zrSi, zb, zs_ap, upd_ap, zs_zs]; done) | (simp only [zrSi, zb, zs_ap, upd_ap, zs_zs, Int32.le_iff_toInt_le, Int32.lt_iff_toInt_lt] at *; (repeat' split) <;> first | rfl | omega)), rfl, rfl, (by first | rfl | (simp [zrSi, zb, zs_ap, upd_ap, zs_zs, *]; done) | (simp_all [zrSi, zb, zs_ap, upd_ap, zs_zs]; done) | (simp only [zrSi, zb, zs_ap, upd_ap, zs_zs, Int32.le_iff_toInt_le, Int32.lt_iff_toInt_lt] at *; (repeat' split) <;> first | rfl | omega))⟩⟩
      · refine g_al0 r2_takesSign_27 ?_
        refine g_k r2_takesSign_28 ?_
        refine g_eV1 r2_takesSign_29 ok2_moveTo pl2_takesSign pl2_moveTo xx_3 (Nat.le_of_ble_eq_true rfl) (ev2_moveTo) ?_
        refine g_ifeq r2_takesSign_32 (fun hc => absurd hc (by decide)) (fun _ => ?_)
        refine g_k r2_takesSign_35 ?_
        refine g_goto r2_takesSign_36 ?_
        exact g_zret r2_takesSign_40 rfl (Or.inr rfl) ⟨rfl, ⟨zrt (by first | rfl | (simp [zrSi, zb, zs_ap, upd_ap, zs_zs, *]; done) | (simp_all [zrSi, zb, zs_ap, upd_ap, zs_zs]; done) | (simp only [zrSi, zb, zs_ap, upd_ap, zs_zs, Int32.le_iff_toInt_le, Int32.lt_iff_toInt_lt] at *; (repeat' split) <;> first | rfl | omega)), rfl, rfl, (by first | rfl | (simp [zrSi, zb, zs_ap, upd_ap, zs_zs, *]; done) | (simp_all [zrSi, zb, zs_ap, upd_ap, zs_zs]; done) | (simp only [zrSi, zb, zs_ap, upd_ap, zs_zs, Int32.le_iff_toInt_le, Int32.lt_iff_toInt_lt] at *; (repeat' split) <;> first | rfl | omega))⟩⟩
  · refine g_k r2_takesSign_7 ?_
    refine g_goto r2_takesSign_8 ?_
    refine g_pfz r2_takesSign_12 xx_3 rfl rfl (Or.inr rfl) ?_
    refine g_il1 r2_takesSign_15 ?_
    refine g_k r2_takesSign_16 ?_
    refine g_iceq r2_takesSign_18 (fun h18 => ?_) (fun h18 => ?_)
    · refine g_al0 r2_takesSign_27 ?_
      refine g_k r2_takesSign_28 ?_
      refine g_eV1 r2_takesSign_29 ok2_moveTo pl2_takesSign pl2_moveTo xx_3 (Nat.le_of_ble_eq_true rfl) (ev2_moveTo) ?_
      refine g_ifeq r2_takesSign_32 (fun hc => absurd hc (by decide)) (fun _ => ?_)
      refine g_k r2_takesSign_35 ?_
      refine g_goto r2_takesSign_36 ?_
      exact g_zret r2_takesSign_40 rfl (Or.inr rfl) ⟨rfl, ⟨zrt (by first | rfl | (simp [zrSi, zb, zs_ap, upd_ap, zs_zs, *]; done) | (simp_all [zrSi, zb, zs_ap, upd_ap, zs_zs]; done) | (simp only [zrSi, zb, zs_ap, upd_ap, zs_zs, Int32.le_iff_toInt_le, Int32.lt_iff_toInt_lt] at *; (repeat' split) <;> first | rfl | omega)), rfl, rfl, (by first | rfl | (simp [zrSi, zb, zs_ap, upd_ap, zs_zs, *]; done) | (simp_all [zrSi, zb, zs_ap, upd_ap, zs_zs]; done) | (simp only [zrSi, zb, zs_ap, upd_ap, zs_zs, Int32.le_iff_toInt_le, Int32.lt_iff_toInt_lt] at *; (repeat' split) <;> first | rfl | omega))⟩⟩
    · refine g_il1 r2_takesSign_21 ?_
      refine g_k r2_takesSign_22 ?_
      refine g_icne r2_takesSign_24 (fun h24 => ?_) (fun h24 => ?_)
      · refine g_k r2_takesSign_39 ?_
        exact g_zret r2_takesSign_40 rfl (Or.inl rfl) ⟨rfl, ⟨zrt (by first | rfl | (simp [zrSi, zb, zs_ap, upd_ap, zs_zs, *]; done) | (simp_all [zrSi, zb, zs_ap, upd_ap, zs_zs]; done) | (simp only [zrSi, zb, zs_ap, upd_ap, zs_zs, Int32.le_iff_toInt_le, Int32.lt_iff_toInt_lt] at *; (repeat' split) <;> first | rfl | omega)), rfl, rfl, (by first | rfl | (simp [zrSi, zb, zs_ap, upd_ap, zs_zs, *]; done) | (simp_all [zrSi, zb, zs_ap, upd_ap, zs_zs]; done) | (simp only [zrSi, zb, zs_ap, upd_ap, zs_zs, Int32.le_iff_toInt_le, Int32.lt_iff_toInt_lt] at *; (repeat' split) <;> first | rfl | omega))⟩⟩
      · refine g_al0 r2_takesSign_27 ?_
        refine g_k r2_takesSign_28 ?_
        refine g_eV1 r2_takesSign_29 ok2_moveTo pl2_takesSign pl2_moveTo xx_3 (Nat.le_of_ble_eq_true rfl) (ev2_moveTo) ?_
        refine g_ifeq r2_takesSign_32 (fun hc => absurd hc (by decide)) (fun _ => ?_)
        refine g_k r2_takesSign_35 ?_
        refine g_goto r2_takesSign_36 ?_
        exact g_zret r2_takesSign_40 rfl (Or.inr rfl) ⟨rfl, ⟨zrt (by first | rfl | (simp [zrSi, zb, zs_ap, upd_ap, zs_zs, *]; done) | (simp_all [zrSi, zb, zs_ap, upd_ap, zs_zs]; done) | (simp only [zrSi, zb, zs_ap, upd_ap, zs_zs, Int32.le_iff_toInt_le, Int32.lt_iff_toInt_lt] at *; (repeat' split) <;> first | rfl | omega)), rfl, rfl, (by first | rfl | (simp [zrSi, zb, zs_ap, upd_ap, zs_zs, *]; done) | (simp_all [zrSi, zb, zs_ap, upd_ap, zs_zs]; done) | (simp only [zrSi, zb, zs_ap, upd_ap, zs_zs, Int32.le_iff_toInt_le, Int32.lt_iff_toInt_lt] at *; (repeat' split) <;> first | rfl | omega))⟩⟩
theorem ev2_takesGoal_34 {w v0 e1 e2 : Nat} {h : Int64} {I : zMI} {n : Nat} (hn : I 34 9 = nI (n + 1)) (hn4 : n < 4) {c : Int32} : zEr m2_takesGoal (zRR w v0 e1 e2) h I [.ref 3, .ref 34, .int c] (some (.int (zb (¬ zfo c = -1)))) (zRR w v0 e1 e2) h (if zfo c = -1 then I else zrGo I 34 n (zfo c)) := by
  refine zEp_of [.ref 3, .ref 34, .int c, .null, .null] pl2_takesGoal (by decide +kernel) (fun _ _ => rfl) (fun _ _ => Nat.le_of_ble_eq_true rfl) ?_
  refine g_al1 r2_takesGoal_0 ?_
  refine g_gfi r2_takesGoal_1 xx_34 rfl ?_
  refine g_k r2_takesGoal_4 ?_
  refine g_isub r2_takesGoal_5 ?_
  rw [hn, nI_pred]
  refine g_is3 r2_takesGoal_6 rfl ?_
  refine g_il2 r2_takesGoal_7 ?_
  refine g_eS1 r2_takesGoal_8 ok2_factOf pl2_takesGoal pl2_factOf (Nat.le_of_ble_eq_true rfl) (ev2_factOf) ?_
  refine g_is4 r2_takesGoal_11 rfl ?_
  refine g_il4 r2_takesGoal_13 ?_
  refine g_k r2_takesGoal_15 ?_
  refine g_iceq r2_takesGoal_16 (fun h16 => ?_) (fun h16 => ?_)
  · refine g_k r2_takesGoal_28 ?_
    exact g_zret r2_takesGoal_29 rfl (Or.inl rfl) ⟨rfl, ⟨zrt (by first | rfl | (simp [zrGo, zb, zs_ap, upd_ap, zs_zs, *]; done) | (simp_all [zrGo, zb, zs_ap, upd_ap, zs_zs]; done) | (simp only [zrGo, zb, zs_ap, upd_ap, zs_zs, Int32.le_iff_toInt_le, Int32.lt_iff_toInt_lt] at *; (repeat' split) <;> first | rfl | omega)), rfl, rfl, (by first | rfl | (simp [zrGo, zb, zs_ap, upd_ap, zs_zs, *]; done) | (simp_all [zrGo, zb, zs_ap, upd_ap, zs_zs]; done) | (simp only [zrGo, zb, zs_ap, upd_ap, zs_zs, Int32.le_iff_toInt_le, Int32.lt_iff_toInt_lt] at *; (repeat' split) <;> first | rfl | omega))⟩⟩
  · refine g_il3 r2_takesGoal_19 ?_
    refine g_iflt r2_takesGoal_20 (fun hc => absurd hc (nI_pos (by omega))) (fun _ => ?_)
    refine g_il3 r2_takesGoal_23 ?_
    refine g_k r2_takesGoal_24 ?_
    refine g_eqv (y := nI 4) rfl ?_
    refine g_icltN r2_takesGoal_25 (by omega) (by omega) (fun h25 => ?_) (fun hc => absurd hc (by omega))
    refine g_al1 r2_takesGoal_30 ?_
    refine g_gfr r2_takesGoal_31 xx_34 rfl (rfl : _ = some 36) ?_
    refine g_il3 r2_takesGoal_34 ?_
    refine g_il4 r2_takesGoal_35 ?_
    refine g_iastN r2_takesGoal_37 xx_36 (by omega) (by decide) ?_
    refine g_al1 r2_takesGoal_38 ?_
    refine g_gfr r2_takesGoal_39 xx_34 rfl (rfl : _ = some 37) ?_
    refine g_il3 r2_takesGoal_42 ?_
    refine g_join (pc' := 58) (lv' := [.ref 3, .ref 34, .int c, .int (nI n), .int (zfo c)]) (st' := [.int (if I 3 2 = 0 then 0 else 1 <<< (zfo c &&& 31)), .int (nI n), .ref 37]) (fun j58 => ?_) ?_
    · refine g_al0 r2_takesGoal_43 ?_
      refine g_gfz r2_takesGoal_44 xx_3 rfl ?_
      refine g_ifeq r2_takesGoal_47 (fun h47 => ?_) (fun h47 => ?_)
      · refine g_k r2_takesGoal_57 ?_
        exact g_eqv (by first | exact (if_pos h47).symm | exact (if_neg h47).symm) j58
      · refine g_k r2_takesGoal_50 ?_
        refine g_il4 r2_takesGoal_51 ?_
        refine g_ishl r2_takesGoal_53 ?_
        refine g_goto r2_takesGoal_54 ?_
        exact g_eqv (by first | exact (if_pos h47).symm | exact (if_neg h47).symm) j58
    · refine g_iastN r2_takesGoal_58 xx_37 (by omega) (by decide) ?_
      refine g_al1 r2_takesGoal_59 ?_
      refine g_gfr r2_takesGoal_60 xx_34 rfl (rfl : _ = some 38) ?_
      refine g_il3 r2_takesGoal_63 ?_
      refine g_join (pc' := 79) (lv' := [.ref 3, .ref 34, .int c, .int (nI n), .int (zfo c)]) (st' := [.int (if I 3 2 = 0 then 1 <<< (zfo c &&& 31) else 0), .int (nI n), .ref 38]) (fun j79 => ?_) ?_
      · refine g_al0 r2_takesGoal_64 ?_
        refine g_gfz r2_takesGoal_65 xx_3 rfl ?_
        refine g_ifeq r2_takesGoal_68 (fun h68 => ?_) (fun h68 => ?_)
        · refine g_k r2_takesGoal_75 ?_
          refine g_il4 r2_takesGoal_76 ?_
          refine g_ishl r2_takesGoal_78 ?_
          exact g_eqv (by first | exact (if_pos h68).symm | exact (if_neg h68).symm) j79
        · refine g_k r2_takesGoal_71 ?_
          refine g_goto r2_takesGoal_72 ?_
          exact g_eqv (by first | exact (if_pos h68).symm | exact (if_neg h68).symm) j79
      · refine g_iastN r2_takesGoal_79 xx_38 (by omega) (by decide) ?_
        refine g_al0 r2_takesGoal_80 ?_
        refine g_k r2_takesGoal_81 ?_
        refine g_eV1 r2_takesGoal_82 ok2_moveTo pl2_takesGoal pl2_moveTo xx_3 (Nat.le_of_ble_eq_true rfl) (ev2_moveTo) ?_
        exact g_zret r2_takesGoal_85 rfl (Or.inr rfl) ⟨rfl, ⟨zrt (by first | rfl | (simp [zrGo, zb, zs_ap, upd_ap, zs_zs, *]; done) | (simp_all [zrGo, zb, zs_ap, upd_ap, zs_zs]; done) | (simp only [zrGo, zb, zs_ap, upd_ap, zs_zs, Int32.le_iff_toInt_le, Int32.lt_iff_toInt_lt] at *; (repeat' split) <;> first | rfl | omega)), rfl, rfl, (by first | rfl | (simp [zrGo, zb, zs_ap, upd_ap, zs_zs, *]; done) | (simp_all [zrGo, zb, zs_ap, upd_ap, zs_zs]; done) | (simp only [zrGo, zb, zs_ap, upd_ap, zs_zs, Int32.le_iff_toInt_le, Int32.lt_iff_toInt_lt] at *; (repeat' split) <;> first | rfl | omega))⟩⟩
theorem ev2_takesAfterGoal_34 {w v0 e1 e2 : Nat} {h : Int64} {I : zMI} {c : Int32} : zEr m2_takesAfterGoal (zRR w v0 e1 e2) h I [.ref 3, .ref 34, .int c] (some (.int (zrAG I 34 c))) (zRR w v0 e1 e2) h (zrAGm I 34 c) := by
  refine zEp_of [.ref 3, .ref 34, .int c] pl2_takesAfterGoal (by decide +kernel) (fun _ _ => rfl) (fun _ _ => Nat.le_of_ble_eq_true rfl) ?_
  refine g_il2 r2_takesAfterGoal_0 ?_
  refine g_k r2_takesAfterGoal_1 ?_
  refine g_icne r2_takesAfterGoal_3 (fun h3 => ?_) (fun h3 => ?_)
  · refine g_il2 r2_takesAfterGoal_28 ?_
    refine g_k r2_takesAfterGoal_29 ?_
    refine g_icne r2_takesAfterGoal_31 (fun h31 => ?_) (fun h31 => ?_)
    · refine g_k r2_takesAfterGoal_46 ?_
      exact g_zret r2_takesAfterGoal_47 rfl (Or.inl rfl) ⟨rfl, ⟨zrt (by first | rfl | (simp [zrAG, zrAGm, zb, zs_ap, upd_ap, zs_zs, *]; done) | (simp_all [zrAG, zrAGm, zb, zs_ap, upd_ap, zs_zs]; done) | (simp only [zrAG, zrAGm, zb, zs_ap, upd_ap, zs_zs, Int32.le_iff_toInt_le, Int32.lt_iff_toInt_lt] at *; (repeat' split) <;> first | rfl | omega)), rfl, rfl, (by first | rfl | (simp [zrAG, zrAGm, zb, zs_ap, upd_ap, zs_zs, *]; done) | (simp_all [zrAG, zrAGm, zb, zs_ap, upd_ap, zs_zs]; done) | (simp only [zrAG, zrAGm, zb, zs_ap, upd_ap, zs_zs, Int32.le_iff_toInt_le, Int32.lt_iff_toInt_lt] at *; (repeat' split) <;> first | rfl | omega))⟩⟩
    · refine g_al0 r2_takesAfterGoal_34 ?_
      refine g_k r2_takesAfterGoal_35 ?_
      refine g_eV1 r2_takesAfterGoal_36 ok2_moveTo pl2_takesAfterGoal pl2_moveTo xx_3 (Nat.le_of_ble_eq_true rfl) (ev2_moveTo) ?_
      refine g_ifeq r2_takesAfterGoal_39 (fun hc => absurd hc (by decide)) (fun _ => ?_)
      refine g_k r2_takesAfterGoal_42 ?_
      refine g_goto r2_takesAfterGoal_43 ?_
      exact g_zret r2_takesAfterGoal_47 rfl (Or.inr rfl) ⟨rfl, ⟨zrt (by first | rfl | (simp [zrAG, zrAGm, zb, zs_ap, upd_ap, zs_zs, *]; done) | (simp_all [zrAG, zrAGm, zb, zs_ap, upd_ap, zs_zs]; done) | (simp only [zrAG, zrAGm, zb, zs_ap, upd_ap, zs_zs, Int32.le_iff_toInt_le, Int32.lt_iff_toInt_lt] at *; (repeat' split) <;> first | rfl | omega)), rfl, rfl, (by first | rfl | (simp [zrAG, zrAGm, zb, zs_ap, upd_ap, zs_zs, *]; done) | (simp_all [zrAG, zrAGm, zb, zs_ap, upd_ap, zs_zs]; done) | (simp only [zrAG, zrAGm, zb, zs_ap, upd_ap, zs_zs, Int32.le_iff_toInt_le, Int32.lt_iff_toInt_lt] at *; (repeat' split) <;> first | rfl | omega))⟩⟩
  · refine g_al1 r2_takesAfterGoal_6 ?_
    refine g_gfi r2_takesAfterGoal_7 xx_34 rfl ?_
    refine g_k r2_takesAfterGoal_10 ?_
    refine g_icgeL r2_takesAfterGoal_11 (fun h11 => ?_) (fun h11 => ?_)
    · refine g_k r2_takesAfterGoal_26 ?_
      exact g_zret r2_takesAfterGoal_27 rfl (Or.inl rfl) ⟨rfl, ⟨zrt (by first | rfl | (simp [zrAG, zrAGm, zb, zs_ap, upd_ap, zs_zs, *]; done) | (simp_all [zrAG, zrAGm, zb, zs_ap, upd_ap, zs_zs]; done) | (simp only [zrAG, zrAGm, zb, zs_ap, upd_ap, zs_zs, Int32.le_iff_toInt_le, Int32.lt_iff_toInt_lt] at *; (repeat' split) <;> first | rfl | omega)), rfl, rfl, (by first | rfl | (simp [zrAG, zrAGm, zb, zs_ap, upd_ap, zs_zs, *]; done) | (simp_all [zrAG, zrAGm, zb, zs_ap, upd_ap, zs_zs]; done) | (simp only [zrAG, zrAGm, zb, zs_ap, upd_ap, zs_zs, Int32.le_iff_toInt_le, Int32.lt_iff_toInt_lt] at *; (repeat' split) <;> first | rfl | omega))⟩⟩
    · refine g_al0 r2_takesAfterGoal_14 ?_
      refine g_k r2_takesAfterGoal_15 ?_
      refine g_eV1 r2_takesAfterGoal_16 ok2_moveTo pl2_takesAfterGoal pl2_moveTo xx_3 (Nat.le_of_ble_eq_true rfl) (ev2_moveTo) ?_
      refine g_ifeq r2_takesAfterGoal_19 (fun hc => absurd hc (by decide)) (fun _ => ?_)
      refine g_k r2_takesAfterGoal_22 ?_
      refine g_goto r2_takesAfterGoal_23 ?_
      exact g_zret r2_takesAfterGoal_27 rfl (Or.inr rfl) ⟨rfl, ⟨zrt (by first | rfl | (simp [zrAG, zrAGm, zb, zs_ap, upd_ap, zs_zs, *]; done) | (simp_all [zrAG, zrAGm, zb, zs_ap, upd_ap, zs_zs]; done) | (simp only [zrAG, zrAGm, zb, zs_ap, upd_ap, zs_zs, Int32.le_iff_toInt_le, Int32.lt_iff_toInt_lt] at *; (repeat' split) <;> first | rfl | omega)), rfl, rfl, (by first | rfl | (simp [zrAG, zrAGm, zb, zs_ap, upd_ap, zs_zs, *]; done) | (simp_all [zrAG, zrAGm, zb, zs_ap, upd_ap, zs_zs]; done) | (simp only [zrAG, zrAGm, zb, zs_ap, upd_ap, zs_zs, Int32.le_iff_toInt_le, Int32.lt_iff_toInt_lt] at *; (repeat' split) <;> first | rfl | omega))⟩⟩
theorem ev2_takesFirstFact_34 {w v0 e1 e2 : Nat} {h : Int64} {I : zMI} {c : Int32} : zEr m2_takesFirstFact (zRR w v0 e1 e2) h I [.ref 3, .ref 34, .int c] (some (.int (zrFFR I c))) (zRR w v0 e1 e2) h (zrFF I 34 c) := by
  refine zEp_of [.ref 3, .ref 34, .int c, .null] pl2_takesFirstFact (by decide +kernel) (fun _ _ => rfl) (fun _ _ => Nat.le_of_ble_eq_true rfl) ?_
  refine g_il2 r2_takesFirstFact_0 ?_
  refine g_k r2_takesFirstFact_1 ?_
  refine g_icne r2_takesFirstFact_3 (fun h3 => ?_) (fun h3 => ?_)
  · refine g_il2 r2_takesFirstFact_12 ?_
    refine g_eS1 r2_takesFirstFact_13 ok2_factOf pl2_takesFirstFact pl2_factOf (Nat.le_of_ble_eq_true rfl) (ev2_factOf) ?_
    refine g_is3 r2_takesFirstFact_16 rfl ?_
    refine g_al0 r2_takesFirstFact_17 ?_
    refine g_il3 r2_takesFirstFact_18 ?_
    refine g_eV1 r2_takesFirstFact_19 ok2_isNext pl2_takesFirstFact pl2_isNext xx_3 (Nat.le_of_ble_eq_true rfl) (ev2_isNext) ?_
    refine g_ifneB r2_takesFirstFact_22 (fun h22 => ?_) (fun h22 => ?_)
    · refine g_al1 r2_takesFirstFact_27 ?_
      refine g_dup r2_takesFirstFact_28 rfl ?_
      refine g_gfi r2_takesFirstFact_29 xx_34 rfl ?_
      refine g_k r2_takesFirstFact_32 ?_
      refine g_il3 r2_takesFirstFact_33 ?_
      refine g_ishl r2_takesFirstFact_34 ?_
      refine g_ior r2_takesFirstFact_35 ?_
      refine g_pfi r2_takesFirstFact_36 xx_34 rfl rfl ?_
      refine g_al0 r2_takesFirstFact_39 ?_
      refine g_il3 r2_takesFirstFact_40 ?_
      refine g_pfi r2_takesFirstFact_41 xx_3 rfl rfl ?_
      refine g_k r2_takesFirstFact_44 ?_
      exact g_zret r2_takesFirstFact_45 rfl (Or.inr rfl) ⟨rfl, ⟨zrt (by first | rfl | (simp [zrFFR, zrFF, znx, zb, zs_ap, upd_ap, zs_zs, *]; done) | (simp_all [zrFFR, zrFF, znx, zb, zs_ap, upd_ap, zs_zs]; done) | (simp only [zrFFR, zrFF, znx, zb, zs_ap, upd_ap, zs_zs, Int32.le_iff_toInt_le, Int32.lt_iff_toInt_lt] at *; (repeat' split) <;> first | rfl | omega)), rfl, rfl, (by first | rfl | (simp [zrFFR, zrFF, znx, zb, zs_ap, upd_ap, zs_zs, *]; done) | (simp_all [zrFFR, zrFF, znx, zb, zs_ap, upd_ap, zs_zs]; done) | (simp only [zrFFR, zrFF, znx, zb, zs_ap, upd_ap, zs_zs, Int32.le_iff_toInt_le, Int32.lt_iff_toInt_lt] at *; (repeat' split) <;> first | rfl | omega))⟩⟩
    · refine g_k r2_takesFirstFact_25 ?_
      exact g_zret r2_takesFirstFact_26 rfl (Or.inl rfl) ⟨rfl, ⟨zrt (by first | rfl | (simp [zrFFR, zrFF, znx, zb, zs_ap, upd_ap, zs_zs, *]; done) | (simp_all [zrFFR, zrFF, znx, zb, zs_ap, upd_ap, zs_zs]; done) | (simp only [zrFFR, zrFF, znx, zb, zs_ap, upd_ap, zs_zs, Int32.le_iff_toInt_le, Int32.lt_iff_toInt_lt] at *; (repeat' split) <;> first | rfl | omega)), rfl, rfl, (by first | rfl | (simp [zrFFR, zrFF, znx, zb, zs_ap, upd_ap, zs_zs, *]; done) | (simp_all [zrFFR, zrFF, znx, zb, zs_ap, upd_ap, zs_zs]; done) | (simp only [zrFFR, zrFF, znx, zb, zs_ap, upd_ap, zs_zs, Int32.le_iff_toInt_le, Int32.lt_iff_toInt_lt] at *; (repeat' split) <;> first | rfl | omega))⟩⟩
  · refine g_al0 r2_takesFirstFact_6 ?_
    refine g_k r2_takesFirstFact_7 ?_
    refine g_eV1 r2_takesFirstFact_8 ok2_moveTo pl2_takesFirstFact pl2_moveTo xx_3 (Nat.le_of_ble_eq_true rfl) (ev2_moveTo) ?_
    exact g_zret r2_takesFirstFact_11 rfl (Or.inr rfl) ⟨rfl, ⟨zrt (by first | rfl | (simp [zrFFR, zrFF, znx, zb, zs_ap, upd_ap, zs_zs, *]; done) | (simp_all [zrFFR, zrFF, znx, zb, zs_ap, upd_ap, zs_zs]; done) | (simp only [zrFFR, zrFF, znx, zb, zs_ap, upd_ap, zs_zs, Int32.le_iff_toInt_le, Int32.lt_iff_toInt_lt] at *; (repeat' split) <;> first | rfl | omega)), rfl, rfl, (by first | rfl | (simp [zrFFR, zrFF, znx, zb, zs_ap, upd_ap, zs_zs, *]; done) | (simp_all [zrFFR, zrFF, znx, zb, zs_ap, upd_ap, zs_zs]; done) | (simp only [zrFFR, zrFF, znx, zb, zs_ap, upd_ap, zs_zs, Int32.le_iff_toInt_le, Int32.lt_iff_toInt_lt] at *; (repeat' split) <;> first | rfl | omega))⟩⟩
theorem ev2_takesOwner_34 {w v0 e1 e2 : Nat} {h : Int64} {I : zMI} {a : Nat} (ha : I 34 10 = nI a) (ha10 : a < 10) {c : Int32} : zEr m2_takesOwner (zRR w v0 e1 e2) h I [.ref 3, .ref 34, .int c] (some (.int (zrOwR I 34 c))) (zRR w v0 e1 e2) h (zrOw I 34 a c) := by
  refine zEp_of [.ref 3, .ref 34, .int c, .null] pl2_takesOwner (by decide +kernel) (fun _ _ => rfl) (fun _ _ => Nat.le_of_ble_eq_true rfl) ?_
  refine g_il2 r2_takesOwner_0 ?_
  refine g_k r2_takesOwner_1 ?_
  refine g_isub r2_takesOwner_3 ?_
  refine g_is3 r2_takesOwner_4 rfl ?_
  refine g_il3 r2_takesOwner_5 ?_
  refine g_iflt r2_takesOwner_6 (fun h6 => ?_) (fun h6 => ?_)
  · refine g_k r2_takesOwner_26 ?_
    exact g_zret r2_takesOwner_27 rfl (Or.inl rfl) ⟨rfl, ⟨zrt (by first | rfl | (simp [zrOwR, zrOw, zb, zs_ap, upd_ap, zs_zs, *]; done) | (simp_all [zrOwR, zrOw, zb, zs_ap, upd_ap, zs_zs]; done) | (simp only [zrOwR, zrOw, zb, zs_ap, upd_ap, zs_zs, Int32.le_iff_toInt_le, Int32.lt_iff_toInt_lt] at *; (repeat' split) <;> first | rfl | omega)), rfl, rfl, (by first | rfl | (simp [zrOwR, zrOw, zb, zs_ap, upd_ap, zs_zs, *]; done) | (simp_all [zrOwR, zrOw, zb, zs_ap, upd_ap, zs_zs]; done) | (simp only [zrOwR, zrOw, zb, zs_ap, upd_ap, zs_zs, Int32.le_iff_toInt_le, Int32.lt_iff_toInt_lt] at *; (repeat' split) <;> first | rfl | omega))⟩⟩
  · refine g_il3 r2_takesOwner_9 ?_
    refine g_al1 r2_takesOwner_10 ?_
    refine g_gfi r2_takesOwner_11 xx_34 rfl ?_
    refine g_icgeL r2_takesOwner_14 (fun h14 => ?_) (fun h14 => ?_)
    · refine g_k r2_takesOwner_26 ?_
      exact g_zret r2_takesOwner_27 rfl (Or.inl rfl) ⟨rfl, ⟨zrt (by first | rfl | (simp [zrOwR, zrOw, zb, zs_ap, upd_ap, zs_zs, *]; done) | (simp_all [zrOwR, zrOw, zb, zs_ap, upd_ap, zs_zs]; done) | (simp only [zrOwR, zrOw, zb, zs_ap, upd_ap, zs_zs, Int32.le_iff_toInt_le, Int32.lt_iff_toInt_lt] at *; (repeat' split) <;> first | rfl | omega)), rfl, rfl, (by first | rfl | (simp [zrOwR, zrOw, zb, zs_ap, upd_ap, zs_zs, *]; done) | (simp_all [zrOwR, zrOw, zb, zs_ap, upd_ap, zs_zs]; done) | (simp only [zrOwR, zrOw, zb, zs_ap, upd_ap, zs_zs, Int32.le_iff_toInt_le, Int32.lt_iff_toInt_lt] at *; (repeat' split) <;> first | rfl | omega))⟩⟩
    · refine g_al1 r2_takesOwner_17 ?_
      refine g_gfi r2_takesOwner_18 xx_34 rfl ?_
      refine g_eqv (y := nI a) ha ?_
      refine g_k r2_takesOwner_21 ?_
      refine g_eqv (y := nI 10) rfl ?_
      refine g_icltN r2_takesOwner_23 (by omega) (by omega) (fun h23 => ?_) (fun hc => absurd hc (by omega))
      refine g_al1 r2_takesOwner_28 ?_
      refine g_il3 r2_takesOwner_29 ?_
      refine g_eV1 r2_takesOwner_30 ok5_addAct pl2_takesOwner pl5_addAct xx_34 (Nat.le_of_ble_eq_true rfl) (ev2_addAct_34 ha ha10) ?_
      refine g_al0 r2_takesOwner_33 ?_
      refine g_k r2_takesOwner_34 ?_
      refine g_eV1 r2_takesOwner_36 ok2_moveTo pl2_takesOwner pl2_moveTo xx_3 (Nat.le_of_ble_eq_true rfl) (ev2_moveTo) ?_
      exact g_zret r2_takesOwner_39 rfl (Or.inr rfl) ⟨rfl, ⟨zrt (by first | rfl | (simp [zrOwR, zrOw, zb, zs_ap, upd_ap, zs_zs, *]; done) | (simp_all [zrOwR, zrOw, zb, zs_ap, upd_ap, zs_zs]; done) | (simp only [zrOwR, zrOw, zb, zs_ap, upd_ap, zs_zs, Int32.le_iff_toInt_le, Int32.lt_iff_toInt_lt] at *; (repeat' split) <;> first | rfl | omega)), rfl, rfl, (by first | rfl | (simp [zrOwR, zrOw, zb, zs_ap, upd_ap, zs_zs, *]; done) | (simp_all [zrOwR, zrOw, zb, zs_ap, upd_ap, zs_zs]; done) | (simp only [zrOwR, zrOw, zb, zs_ap, upd_ap, zs_zs, Int32.le_iff_toInt_le, Int32.lt_iff_toInt_lt] at *; (repeat' split) <;> first | rfl | omega))⟩⟩
theorem ev2_isComplete_34 {w v0 e1 e2 : Nat} {h : Int64} {I : zMI} {a : Nat} (ha : I 34 10 = nI (a + 1)) (ha10 : a < 10)  : zEr m2_isComplete (zRR w v0 e1 e2) h I [.ref 3, .ref 34] (some (.int (zrCo I 34 a))) (zRR w v0 e1 e2) h I := by
  refine zEp_of [.ref 3, .ref 34, .null] pl2_isComplete (by decide +kernel) (fun _ _ => rfl) (fun _ _ => Nat.le_of_ble_eq_true rfl) ?_
  refine g_al1 r2_isComplete_0 ?_
  refine g_gfi r2_isComplete_1 xx_34 rfl ?_
  refine g_k r2_isComplete_4 ?_
  refine g_isub r2_isComplete_5 ?_
  rw [ha, nI_pred]
  refine g_is2 r2_isComplete_6 rfl ?_
  refine g_il2 r2_isComplete_7 ?_
  refine g_iflt r2_isComplete_8 (fun hc => absurd hc (nI_pos (by omega))) (fun _ => ?_)
  refine g_il2 r2_isComplete_11 ?_
  refine g_k r2_isComplete_12 ?_
  refine g_eqv (y := nI 10) rfl ?_
  refine g_icltN r2_isComplete_14 (by omega) (by omega) (fun h14 => ?_) (fun hc => absurd hc (by omega))
  refine g_al0 r2_isComplete_19 ?_
  refine g_gfi r2_isComplete_20 xx_3 rfl ?_
  refine g_k r2_isComplete_23 ?_
  refine g_icne r2_isComplete_25 (fun h25 => ?_) (fun h25 => ?_)
  · refine g_al0 r2_isComplete_37 ?_
    refine g_gfi r2_isComplete_38 xx_3 rfl ?_
    refine g_k r2_isComplete_41 ?_
    refine g_icne r2_isComplete_43 (fun h43 => ?_) (fun h43 => ?_)
    · refine g_k r2_isComplete_59 ?_
      exact g_zret r2_isComplete_60 rfl (Or.inl rfl) ⟨rfl, ⟨zrt (by first | rfl | (simp [zrCo, zb, zs_ap, upd_ap, zs_zs, *]; done) | (simp_all [zrCo, zb, zs_ap, upd_ap, zs_zs]; done) | (simp only [zrCo, zb, zs_ap, upd_ap, zs_zs, Int32.le_iff_toInt_le, Int32.lt_iff_toInt_lt] at *; (repeat' split) <;> first | rfl | omega)), rfl, rfl, (by first | rfl | (simp [zrCo, zb, zs_ap, upd_ap, zs_zs, *]; done) | (simp_all [zrCo, zb, zs_ap, upd_ap, zs_zs]; done) | (simp only [zrCo, zb, zs_ap, upd_ap, zs_zs, Int32.le_iff_toInt_le, Int32.lt_iff_toInt_lt] at *; (repeat' split) <;> first | rfl | omega))⟩⟩
    · refine g_al1 r2_isComplete_46 ?_
      refine g_gfr r2_isComplete_47 xx_34 rfl (rfl : _ = some 43) ?_
      refine g_il2 r2_isComplete_50 ?_
      refine g_ialdN r2_isComplete_51 xx_43 (by omega) (by decide) ?_
      refine g_ifeq r2_isComplete_52 (fun h52 => ?_) (fun h52 => ?_)
      · refine g_k r2_isComplete_59 ?_
        exact g_zret r2_isComplete_60 rfl (Or.inl rfl) ⟨rfl, ⟨zrt (by first | rfl | (simp [zrCo, zb, zs_ap, upd_ap, zs_zs, *]; done) | (simp_all [zrCo, zb, zs_ap, upd_ap, zs_zs]; done) | (simp only [zrCo, zb, zs_ap, upd_ap, zs_zs, Int32.le_iff_toInt_le, Int32.lt_iff_toInt_lt] at *; (repeat' split) <;> first | rfl | omega)), rfl, rfl, (by first | rfl | (simp [zrCo, zb, zs_ap, upd_ap, zs_zs, *]; done) | (simp_all [zrCo, zb, zs_ap, upd_ap, zs_zs]; done) | (simp only [zrCo, zb, zs_ap, upd_ap, zs_zs, Int32.le_iff_toInt_le, Int32.lt_iff_toInt_lt] at *; (repeat' split) <;> first | rfl | omega))⟩⟩
      · refine g_k r2_isComplete_55 ?_
        refine g_goto r2_isComplete_56 ?_
        exact g_zret r2_isComplete_60 rfl (Or.inr rfl) ⟨rfl, ⟨zrt (by first | rfl | (simp [zrCo, zb, zs_ap, upd_ap, zs_zs, *]; done) | (simp_all [zrCo, zb, zs_ap, upd_ap, zs_zs]; done) | (simp only [zrCo, zb, zs_ap, upd_ap, zs_zs, Int32.le_iff_toInt_le, Int32.lt_iff_toInt_lt] at *; (repeat' split) <;> first | rfl | omega)), rfl, rfl, (by first | rfl | (simp [zrCo, zb, zs_ap, upd_ap, zs_zs, *]; done) | (simp_all [zrCo, zb, zs_ap, upd_ap, zs_zs]; done) | (simp only [zrCo, zb, zs_ap, upd_ap, zs_zs, Int32.le_iff_toInt_le, Int32.lt_iff_toInt_lt] at *; (repeat' split) <;> first | rfl | omega))⟩⟩
  · refine g_al1 r2_isComplete_28 ?_
    refine g_gfr r2_isComplete_29 xx_34 rfl (rfl : _ = some 42) ?_
    refine g_il2 r2_isComplete_32 ?_
    refine g_ialdN r2_isComplete_33 xx_42 (by omega) (by decide) ?_
    refine g_ifne r2_isComplete_34 (fun h34 => ?_) (fun h34 => ?_)
    · refine g_k r2_isComplete_55 ?_
      refine g_goto r2_isComplete_56 ?_
      exact g_zret r2_isComplete_60 rfl (Or.inr rfl) ⟨rfl, ⟨zrt (by first | rfl | (simp [zrCo, zb, zs_ap, upd_ap, zs_zs, *]; done) | (simp_all [zrCo, zb, zs_ap, upd_ap, zs_zs]; done) | (simp only [zrCo, zb, zs_ap, upd_ap, zs_zs, Int32.le_iff_toInt_le, Int32.lt_iff_toInt_lt] at *; (repeat' split) <;> first | rfl | omega)), rfl, rfl, (by first | rfl | (simp [zrCo, zb, zs_ap, upd_ap, zs_zs, *]; done) | (simp_all [zrCo, zb, zs_ap, upd_ap, zs_zs]; done) | (simp only [zrCo, zb, zs_ap, upd_ap, zs_zs, Int32.le_iff_toInt_le, Int32.lt_iff_toInt_lt] at *; (repeat' split) <;> first | rfl | omega))⟩⟩
    · refine g_al0 r2_isComplete_37 ?_
      refine g_gfi r2_isComplete_38 xx_3 rfl ?_
      refine g_k r2_isComplete_41 ?_
      refine g_icne r2_isComplete_43 (fun h43 => ?_) (fun h43 => ?_)
      · refine g_k r2_isComplete_59 ?_
        exact g_zret r2_isComplete_60 rfl (Or.inl rfl) ⟨rfl, ⟨zrt (by first | rfl | (simp [zrCo, zb, zs_ap, upd_ap, zs_zs, *]; done) | (simp_all [zrCo, zb, zs_ap, upd_ap, zs_zs]; done) | (simp only [zrCo, zb, zs_ap, upd_ap, zs_zs, Int32.le_iff_toInt_le, Int32.lt_iff_toInt_lt] at *; (repeat' split) <;> first | rfl | omega)), rfl, rfl, (by first | rfl | (simp [zrCo, zb, zs_ap, upd_ap, zs_zs, *]; done) | (simp_all [zrCo, zb, zs_ap, upd_ap, zs_zs]; done) | (simp only [zrCo, zb, zs_ap, upd_ap, zs_zs, Int32.le_iff_toInt_le, Int32.lt_iff_toInt_lt] at *; (repeat' split) <;> first | rfl | omega))⟩⟩
      · refine g_al1 r2_isComplete_46 ?_
        refine g_gfr r2_isComplete_47 xx_34 rfl (rfl : _ = some 43) ?_
        refine g_il2 r2_isComplete_50 ?_
        refine g_ialdN r2_isComplete_51 xx_43 (by omega) (by decide) ?_
        refine g_ifeq r2_isComplete_52 (fun h52 => ?_) (fun h52 => ?_)
        · refine g_k r2_isComplete_59 ?_
          exact g_zret r2_isComplete_60 rfl (Or.inl rfl) ⟨rfl, ⟨zrt (by first | rfl | (simp [zrCo, zb, zs_ap, upd_ap, zs_zs, *]; done) | (simp_all [zrCo, zb, zs_ap, upd_ap, zs_zs]; done) | (simp only [zrCo, zb, zs_ap, upd_ap, zs_zs, Int32.le_iff_toInt_le, Int32.lt_iff_toInt_lt] at *; (repeat' split) <;> first | rfl | omega)), rfl, rfl, (by first | rfl | (simp [zrCo, zb, zs_ap, upd_ap, zs_zs, *]; done) | (simp_all [zrCo, zb, zs_ap, upd_ap, zs_zs]; done) | (simp only [zrCo, zb, zs_ap, upd_ap, zs_zs, Int32.le_iff_toInt_le, Int32.lt_iff_toInt_lt] at *; (repeat' split) <;> first | rfl | omega))⟩⟩
        · refine g_k r2_isComplete_55 ?_
          refine g_goto r2_isComplete_56 ?_
          exact g_zret r2_isComplete_60 rfl (Or.inr rfl) ⟨rfl, ⟨zrt (by first | rfl | (simp [zrCo, zb, zs_ap, upd_ap, zs_zs, *]; done) | (simp_all [zrCo, zb, zs_ap, upd_ap, zs_zs]; done) | (simp only [zrCo, zb, zs_ap, upd_ap, zs_zs, Int32.le_iff_toInt_le, Int32.lt_iff_toInt_lt] at *; (repeat' split) <;> first | rfl | omega)), rfl, rfl, (by first | rfl | (simp [zrCo, zb, zs_ap, upd_ap, zs_zs, *]; done) | (simp_all [zrCo, zb, zs_ap, upd_ap, zs_zs]; done) | (simp only [zrCo, zb, zs_ap, upd_ap, zs_zs, Int32.le_iff_toInt_le, Int32.lt_iff_toInt_lt] at *; (repeat' split) <;> first | rfl | omega))⟩⟩
theorem ev2_takesInNeeds_34 {w v0 e1 e2 : Nat} {h : Int64} {I : zMI} {a : Nat} (ha10 : a < 10) {c : Int32} : zEr m2_takesInNeeds (zRR w v0 e1 e2) h I [.ref 3, .ref 34, .int (nI a), .int c] (some (.int (zrNeR I 34 a c))) (zRR w v0 e1 e2) h (zrNe I 34 a c) := by
  refine zEp_of [.ref 3, .ref 34, .int (nI a), .int c, .null] pl2_takesInNeeds (by decide +kernel) (fun _ _ => rfl) (fun _ _ => Nat.le_of_ble_eq_true rfl) ?_
  refine g_al0 r2_takesInNeeds_0 ?_
  refine g_gfi r2_takesInNeeds_1 xx_3 rfl ?_
  refine g_k r2_takesInNeeds_4 ?_
  refine g_icne r2_takesInNeeds_6 (fun h6 => ?_) (fun h6 => ?_)
  · refine g_k r2_takesInNeeds_13 ?_
    refine g_is4 r2_takesInNeeds_14 rfl ?_
    refine g_il3 r2_takesInNeeds_16 ?_
    refine g_k r2_takesInNeeds_17 ?_
    refine g_icne r2_takesInNeeds_19 (fun h19 => ?_) (fun h19 => ?_)
    · refine g_il3 r2_takesInNeeds_51 ?_
      refine g_k r2_takesInNeeds_52 ?_
      refine g_icne r2_takesInNeeds_54 (fun h54 => ?_) (fun h54 => ?_)
      · refine g_il4 r2_takesInNeeds_89 ?_
        refine g_ifeq r2_takesInNeeds_91 (fun _ => ?_) (fun hc => absurd rfl hc)
        refine g_al0 r2_takesInNeeds_108 ?_
        refine g_al1 r2_takesInNeeds_109 ?_
        refine g_gfr r2_takesInNeeds_110 xx_34 rfl (rfl : _ = some 41) ?_
        refine g_il2 r2_takesInNeeds_113 ?_
        refine g_al1 r2_takesInNeeds_114 ?_
        refine g_gfr r2_takesInNeeds_115 xx_34 rfl (rfl : _ = some 40) ?_
        refine g_il2 r2_takesInNeeds_118 ?_
        refine g_ialdN r2_takesInNeeds_119 xx_40 (by omega) (by decide) ?_
        refine g_il3 r2_takesInNeeds_120 ?_
        refine g_eV4 r2_takesInNeeds_121 ok2_takesFact pl2_takesInNeeds pl2_takesFact xx_3 (Nat.le_of_ble_eq_true rfl) (ev2_takesFact xx_41 (by decide) ha10) ?_
        exact g_zret r2_takesInNeeds_124 rfl (zb_01 _) ⟨rfl, ⟨zrt (by first | rfl | (simp [zrNeR, zrNe, zb, zs_ap, upd_ap, zs_zs, *]; done) | (simp_all [zrNeR, zrNe, zb, zs_ap, upd_ap, zs_zs]; done) | (simp only [zrNeR, zrNe, zb, zs_ap, upd_ap, zs_zs, Int32.le_iff_toInt_le, Int32.lt_iff_toInt_lt] at *; (repeat' split) <;> first | rfl | omega)), rfl, rfl, (by first | rfl | (simp [zrNeR, zrNe, zb, zs_ap, upd_ap, zs_zs, *]; done) | (simp_all [zrNeR, zrNe, zb, zs_ap, upd_ap, zs_zs]; done) | (simp only [zrNeR, zrNe, zb, zs_ap, upd_ap, zs_zs, Int32.le_iff_toInt_le, Int32.lt_iff_toInt_lt] at *; (repeat' split) <;> first | rfl | omega))⟩⟩
      · refine g_il4 r2_takesInNeeds_57 ?_
        refine g_ifeq r2_takesInNeeds_59 (fun _ => ?_) (fun hc => absurd rfl hc)
        refine g_k r2_takesInNeeds_87 ?_
        exact g_zret r2_takesInNeeds_88 rfl (Or.inl rfl) ⟨rfl, ⟨zrt (by first | rfl | (simp [zrNeR, zrNe, zb, zs_ap, upd_ap, zs_zs, *]; done) | (simp_all [zrNeR, zrNe, zb, zs_ap, upd_ap, zs_zs]; done) | (simp only [zrNeR, zrNe, zb, zs_ap, upd_ap, zs_zs, Int32.le_iff_toInt_le, Int32.lt_iff_toInt_lt] at *; (repeat' split) <;> first | rfl | omega)), rfl, rfl, (by first | rfl | (simp [zrNeR, zrNe, zb, zs_ap, upd_ap, zs_zs, *]; done) | (simp_all [zrNeR, zrNe, zb, zs_ap, upd_ap, zs_zs]; done) | (simp only [zrNeR, zrNe, zb, zs_ap, upd_ap, zs_zs, Int32.le_iff_toInt_le, Int32.lt_iff_toInt_lt] at *; (repeat' split) <;> first | rfl | omega))⟩⟩
    · refine g_il4 r2_takesInNeeds_22 ?_
      refine g_ifne r2_takesInNeeds_24 (fun hc => absurd rfl hc) (fun _ => ?_)
      refine g_al1 r2_takesInNeeds_27 ?_
      refine g_gfr r2_takesInNeeds_28 xx_34 rfl (rfl : _ = some 41) ?_
      refine g_il2 r2_takesInNeeds_31 ?_
      refine g_ialdN r2_takesInNeeds_32 xx_41 (by omega) (by decide) ?_
      refine g_ifeq r2_takesInNeeds_33 (fun h33 => ?_) (fun h33 => ?_)
      · refine g_k r2_takesInNeeds_49 ?_
        exact g_zret r2_takesInNeeds_50 rfl (Or.inl rfl) ⟨rfl, ⟨zrt (by first | rfl | (simp [zrNeR, zrNe, zb, zs_ap, upd_ap, zs_zs, *]; done) | (simp_all [zrNeR, zrNe, zb, zs_ap, upd_ap, zs_zs]; done) | (simp only [zrNeR, zrNe, zb, zs_ap, upd_ap, zs_zs, Int32.le_iff_toInt_le, Int32.lt_iff_toInt_lt] at *; (repeat' split) <;> first | rfl | omega)), rfl, rfl, (by first | rfl | (simp [zrNeR, zrNe, zb, zs_ap, upd_ap, zs_zs, *]; done) | (simp_all [zrNeR, zrNe, zb, zs_ap, upd_ap, zs_zs]; done) | (simp only [zrNeR, zrNe, zb, zs_ap, upd_ap, zs_zs, Int32.le_iff_toInt_le, Int32.lt_iff_toInt_lt] at *; (repeat' split) <;> first | rfl | omega))⟩⟩
      · refine g_al0 r2_takesInNeeds_36 ?_
        refine g_k r2_takesInNeeds_37 ?_
        refine g_eV1 r2_takesInNeeds_39 ok2_moveTo pl2_takesInNeeds pl2_moveTo xx_3 (Nat.le_of_ble_eq_true rfl) (ev2_moveTo) ?_
        refine g_ifeq r2_takesInNeeds_42 (fun hc => absurd hc (by decide)) (fun _ => ?_)
        refine g_k r2_takesInNeeds_45 ?_
        refine g_goto r2_takesInNeeds_46 ?_
        exact g_zret r2_takesInNeeds_50 rfl (Or.inr rfl) ⟨rfl, ⟨zrt (by first | rfl | (simp [zrNeR, zrNe, zb, zs_ap, upd_ap, zs_zs, *]; done) | (simp_all [zrNeR, zrNe, zb, zs_ap, upd_ap, zs_zs]; done) | (simp only [zrNeR, zrNe, zb, zs_ap, upd_ap, zs_zs, Int32.le_iff_toInt_le, Int32.lt_iff_toInt_lt] at *; (repeat' split) <;> first | rfl | omega)), rfl, rfl, (by first | rfl | (simp [zrNeR, zrNe, zb, zs_ap, upd_ap, zs_zs, *]; done) | (simp_all [zrNeR, zrNe, zb, zs_ap, upd_ap, zs_zs]; done) | (simp only [zrNeR, zrNe, zb, zs_ap, upd_ap, zs_zs, Int32.le_iff_toInt_le, Int32.lt_iff_toInt_lt] at *; (repeat' split) <;> first | rfl | omega))⟩⟩
  · refine g_k r2_takesInNeeds_9 ?_
    refine g_goto r2_takesInNeeds_10 ?_
    refine g_is4 r2_takesInNeeds_14 rfl ?_
    refine g_il3 r2_takesInNeeds_16 ?_
    refine g_k r2_takesInNeeds_17 ?_
    refine g_icne r2_takesInNeeds_19 (fun h19 => ?_) (fun h19 => ?_)
    · refine g_il3 r2_takesInNeeds_51 ?_
      refine g_k r2_takesInNeeds_52 ?_
      refine g_icne r2_takesInNeeds_54 (fun h54 => ?_) (fun h54 => ?_)
      · refine g_il4 r2_takesInNeeds_89 ?_
        refine g_ifeq r2_takesInNeeds_91 (fun hc => absurd hc (by decide)) (fun _ => ?_)
        refine g_al0 r2_takesInNeeds_94 ?_
        refine g_al1 r2_takesInNeeds_95 ?_
        refine g_gfr r2_takesInNeeds_96 xx_34 rfl (rfl : _ = some 40) ?_
        refine g_il2 r2_takesInNeeds_99 ?_
        refine g_k r2_takesInNeeds_100 ?_
        refine g_il3 r2_takesInNeeds_101 ?_
        refine g_eV4 r2_takesInNeeds_102 ok2_takesFact pl2_takesInNeeds pl2_takesFact xx_3 (Nat.le_of_ble_eq_true rfl) (ev2_takesFact xx_40 (by decide) ha10) ?_
        refine g_goto r2_takesInNeeds_105 ?_
        exact g_zret r2_takesInNeeds_124 rfl (zb_01 _) ⟨rfl, ⟨zrt (by first | rfl | (simp [zrNeR, zrNe, zb, zs_ap, upd_ap, zs_zs, *]; done) | (simp_all [zrNeR, zrNe, zb, zs_ap, upd_ap, zs_zs]; done) | (simp only [zrNeR, zrNe, zb, zs_ap, upd_ap, zs_zs, Int32.le_iff_toInt_le, Int32.lt_iff_toInt_lt] at *; (repeat' split) <;> first | rfl | omega)), rfl, rfl, (by first | rfl | (simp [zrNeR, zrNe, zb, zs_ap, upd_ap, zs_zs, *]; done) | (simp_all [zrNeR, zrNe, zb, zs_ap, upd_ap, zs_zs]; done) | (simp only [zrNeR, zrNe, zb, zs_ap, upd_ap, zs_zs, Int32.le_iff_toInt_le, Int32.lt_iff_toInt_lt] at *; (repeat' split) <;> first | rfl | omega))⟩⟩
      · refine g_il4 r2_takesInNeeds_57 ?_
        refine g_ifeq r2_takesInNeeds_59 (fun hc => absurd hc (by decide)) (fun _ => ?_)
        refine g_al1 r2_takesInNeeds_62 ?_
        refine g_gfr r2_takesInNeeds_63 xx_34 rfl (rfl : _ = some 40) ?_
        refine g_il2 r2_takesInNeeds_66 ?_
        refine g_ialdN r2_takesInNeeds_67 xx_40 (by omega) (by decide) ?_
        refine g_k r2_takesInNeeds_68 ?_
        refine g_iceq r2_takesInNeeds_71 (fun h71 => ?_) (fun h71 => ?_)
        · refine g_k r2_takesInNeeds_87 ?_
          exact g_zret r2_takesInNeeds_88 rfl (Or.inl rfl) ⟨rfl, ⟨zrt (by first | rfl | (simp [zrNeR, zrNe, zb, zs_ap, upd_ap, zs_zs, *]; done) | (simp_all [zrNeR, zrNe, zb, zs_ap, upd_ap, zs_zs]; done) | (simp only [zrNeR, zrNe, zb, zs_ap, upd_ap, zs_zs, Int32.le_iff_toInt_le, Int32.lt_iff_toInt_lt] at *; (repeat' split) <;> first | rfl | omega)), rfl, rfl, (by first | rfl | (simp [zrNeR, zrNe, zb, zs_ap, upd_ap, zs_zs, *]; done) | (simp_all [zrNeR, zrNe, zb, zs_ap, upd_ap, zs_zs]; done) | (simp only [zrNeR, zrNe, zb, zs_ap, upd_ap, zs_zs, Int32.le_iff_toInt_le, Int32.lt_iff_toInt_lt] at *; (repeat' split) <;> first | rfl | omega))⟩⟩
        · refine g_al0 r2_takesInNeeds_74 ?_
          refine g_k r2_takesInNeeds_75 ?_
          refine g_eV1 r2_takesInNeeds_77 ok2_moveTo pl2_takesInNeeds pl2_moveTo xx_3 (Nat.le_of_ble_eq_true rfl) (ev2_moveTo) ?_
          refine g_ifeq r2_takesInNeeds_80 (fun hc => absurd hc (by decide)) (fun _ => ?_)
          refine g_k r2_takesInNeeds_83 ?_
          refine g_goto r2_takesInNeeds_84 ?_
          exact g_zret r2_takesInNeeds_88 rfl (Or.inr rfl) ⟨rfl, ⟨zrt (by first | rfl | (simp [zrNeR, zrNe, zb, zs_ap, upd_ap, zs_zs, *]; done) | (simp_all [zrNeR, zrNe, zb, zs_ap, upd_ap, zs_zs]; done) | (simp only [zrNeR, zrNe, zb, zs_ap, upd_ap, zs_zs, Int32.le_iff_toInt_le, Int32.lt_iff_toInt_lt] at *; (repeat' split) <;> first | rfl | omega)), rfl, rfl, (by first | rfl | (simp [zrNeR, zrNe, zb, zs_ap, upd_ap, zs_zs, *]; done) | (simp_all [zrNeR, zrNe, zb, zs_ap, upd_ap, zs_zs]; done) | (simp only [zrNeR, zrNe, zb, zs_ap, upd_ap, zs_zs, Int32.le_iff_toInt_le, Int32.lt_iff_toInt_lt] at *; (repeat' split) <;> first | rfl | omega))⟩⟩
    · refine g_il4 r2_takesInNeeds_22 ?_
      refine g_ifne r2_takesInNeeds_24 (fun _ => ?_) (fun hc => absurd hc (by decide))
      refine g_al0 r2_takesInNeeds_36 ?_
      refine g_k r2_takesInNeeds_37 ?_
      refine g_eV1 r2_takesInNeeds_39 ok2_moveTo pl2_takesInNeeds pl2_moveTo xx_3 (Nat.le_of_ble_eq_true rfl) (ev2_moveTo) ?_
      refine g_ifeq r2_takesInNeeds_42 (fun hc => absurd hc (by decide)) (fun _ => ?_)
      refine g_k r2_takesInNeeds_45 ?_
      refine g_goto r2_takesInNeeds_46 ?_
      exact g_zret r2_takesInNeeds_50 rfl (Or.inr rfl) ⟨rfl, ⟨zrt (by first | rfl | (simp [zrNeR, zrNe, zb, zs_ap, upd_ap, zs_zs, *]; done) | (simp_all [zrNeR, zrNe, zb, zs_ap, upd_ap, zs_zs]; done) | (simp only [zrNeR, zrNe, zb, zs_ap, upd_ap, zs_zs, Int32.le_iff_toInt_le, Int32.lt_iff_toInt_lt] at *; (repeat' split) <;> first | rfl | omega)), rfl, rfl, (by first | rfl | (simp [zrNeR, zrNe, zb, zs_ap, upd_ap, zs_zs, *]; done) | (simp_all [zrNeR, zrNe, zb, zs_ap, upd_ap, zs_zs]; done) | (simp only [zrNeR, zrNe, zb, zs_ap, upd_ap, zs_zs, Int32.le_iff_toInt_le, Int32.lt_iff_toInt_lt] at *; (repeat' split) <;> first | rfl | omega))⟩⟩
theorem ev2_takesInMakes_34 {w v0 e1 e2 : Nat} {h : Int64} {I : zMI} {a : Nat} (ha : I 34 10 = nI (a + 1)) (ha10 : a < 10) {c : Int32} : zEr m2_takesInMakes (zRR w v0 e1 e2) h I [.ref 3, .ref 34, .int (nI a), .int c] (some (.int (zrMaR I 34 a c))) (zRR w v0 e1 e2) h (zrMa I 34 a c) := by
  refine zEp_of [.ref 3, .ref 34, .int (nI a), .int c, .null] pl2_takesInMakes (by decide +kernel) (fun _ _ => rfl) (fun _ _ => Nat.le_of_ble_eq_true rfl) ?_
  refine g_al0 r2_takesInMakes_0 ?_
  refine g_gfi r2_takesInMakes_1 xx_3 rfl ?_
  refine g_k r2_takesInMakes_4 ?_
  refine g_icne r2_takesInMakes_6 (fun h6 => ?_) (fun h6 => ?_)
  · refine g_k r2_takesInMakes_13 ?_
    refine g_is4 r2_takesInMakes_14 rfl ?_
    refine g_il3 r2_takesInMakes_16 ?_
    refine g_k r2_takesInMakes_17 ?_
    refine g_icne r2_takesInMakes_19 (fun h19 => ?_) (fun h19 => ?_)
    · refine g_il3 r2_takesInMakes_53 ?_
      refine g_k r2_takesInMakes_54 ?_
      refine g_icne r2_takesInMakes_56 (fun h56 => ?_) (fun h56 => ?_)
      · refine g_il4 r2_takesInMakes_91 ?_
        refine g_ifeq r2_takesInMakes_93 (fun _ => ?_) (fun hc => absurd rfl hc)
        refine g_al0 r2_takesInMakes_110 ?_
        refine g_al1 r2_takesInMakes_111 ?_
        refine g_gfr r2_takesInMakes_112 xx_34 rfl (rfl : _ = some 43) ?_
        refine g_il2 r2_takesInMakes_115 ?_
        refine g_al1 r2_takesInMakes_116 ?_
        refine g_gfr r2_takesInMakes_117 xx_34 rfl (rfl : _ = some 42) ?_
        refine g_il2 r2_takesInMakes_120 ?_
        refine g_ialdN r2_takesInMakes_121 xx_42 (by omega) (by decide) ?_
        refine g_il3 r2_takesInMakes_122 ?_
        refine g_eV4 r2_takesInMakes_123 ok2_takesFact pl2_takesInMakes pl2_takesFact xx_3 (Nat.le_of_ble_eq_true rfl) (ev2_takesFact xx_43 (by decide) ha10) ?_
        exact g_zret r2_takesInMakes_126 rfl (zb_01 _) ⟨rfl, ⟨zrt (by first | rfl | (simp [zrMaR, zrMa, zrCo, zb, zs_ap, upd_ap, zs_zs, *]; done) | (simp_all [zrMaR, zrMa, zrCo, zb, zs_ap, upd_ap, zs_zs]; done) | (simp only [zrMaR, zrMa, zrCo, zb, zs_ap, upd_ap, zs_zs, Int32.le_iff_toInt_le, Int32.lt_iff_toInt_lt] at *; (repeat' split) <;> first | rfl | omega)), rfl, rfl, (by first | rfl | (simp [zrMaR, zrMa, zrCo, zb, zs_ap, upd_ap, zs_zs, *]; done) | (simp_all [zrMaR, zrMa, zrCo, zb, zs_ap, upd_ap, zs_zs]; done) | (simp only [zrMaR, zrMa, zrCo, zb, zs_ap, upd_ap, zs_zs, Int32.le_iff_toInt_le, Int32.lt_iff_toInt_lt] at *; (repeat' split) <;> first | rfl | omega))⟩⟩
      · refine g_il4 r2_takesInMakes_59 ?_
        refine g_ifeq r2_takesInMakes_61 (fun _ => ?_) (fun hc => absurd rfl hc)
        refine g_k r2_takesInMakes_89 ?_
        exact g_zret r2_takesInMakes_90 rfl (Or.inl rfl) ⟨rfl, ⟨zrt (by first | rfl | (simp [zrMaR, zrMa, zrCo, zb, zs_ap, upd_ap, zs_zs, *]; done) | (simp_all [zrMaR, zrMa, zrCo, zb, zs_ap, upd_ap, zs_zs]; done) | (simp only [zrMaR, zrMa, zrCo, zb, zs_ap, upd_ap, zs_zs, Int32.le_iff_toInt_le, Int32.lt_iff_toInt_lt] at *; (repeat' split) <;> first | rfl | omega)), rfl, rfl, (by first | rfl | (simp [zrMaR, zrMa, zrCo, zb, zs_ap, upd_ap, zs_zs, *]; done) | (simp_all [zrMaR, zrMa, zrCo, zb, zs_ap, upd_ap, zs_zs]; done) | (simp only [zrMaR, zrMa, zrCo, zb, zs_ap, upd_ap, zs_zs, Int32.le_iff_toInt_le, Int32.lt_iff_toInt_lt] at *; (repeat' split) <;> first | rfl | omega))⟩⟩
    · refine g_al0 r2_takesInMakes_22 ?_
      refine g_al1 r2_takesInMakes_23 ?_
      refine g_eV1 r2_takesInMakes_24 ok2_isComplete pl2_takesInMakes pl2_isComplete xx_3 (Nat.le_of_ble_eq_true rfl) (ev2_isComplete_34 ha ha10) ?_
      refine g_ifeqB r2_takesInMakes_27 (fun h27 => ?_) (fun h27 => ?_)
      · refine g_k r2_takesInMakes_51 ?_
        exact g_zret r2_takesInMakes_52 rfl (Or.inl rfl) ⟨rfl, ⟨zrt (by first | rfl | (simp [zrMaR, zrMa, zrCo, zb, zs_ap, upd_ap, zs_zs, *]; done) | (simp_all [zrMaR, zrMa, zrCo, zb, zs_ap, upd_ap, zs_zs]; done) | (simp only [zrMaR, zrMa, zrCo, zb, zs_ap, upd_ap, zs_zs, Int32.le_iff_toInt_le, Int32.lt_iff_toInt_lt] at *; (repeat' split) <;> first | rfl | omega)), rfl, rfl, (by first | rfl | (simp [zrMaR, zrMa, zrCo, zb, zs_ap, upd_ap, zs_zs, *]; done) | (simp_all [zrMaR, zrMa, zrCo, zb, zs_ap, upd_ap, zs_zs]; done) | (simp only [zrMaR, zrMa, zrCo, zb, zs_ap, upd_ap, zs_zs, Int32.le_iff_toInt_le, Int32.lt_iff_toInt_lt] at *; (repeat' split) <;> first | rfl | omega))⟩⟩
      · refine g_al1 r2_takesInMakes_30 ?_
        refine g_gfi r2_takesInMakes_31 xx_34 rfl ?_
        refine g_k r2_takesInMakes_34 ?_
        refine g_icgeL r2_takesInMakes_36 (fun h36 => ?_) (fun h36 => ?_)
        · refine g_k r2_takesInMakes_51 ?_
          exact g_zret r2_takesInMakes_52 rfl (Or.inl rfl) ⟨rfl, ⟨zrt (by first | rfl | (simp [zrMaR, zrMa, zrCo, zb, zs_ap, upd_ap, zs_zs, *]; done) | (simp_all [zrMaR, zrMa, zrCo, zb, zs_ap, upd_ap, zs_zs]; done) | (simp only [zrMaR, zrMa, zrCo, zb, zs_ap, upd_ap, zs_zs, Int32.le_iff_toInt_le, Int32.lt_iff_toInt_lt] at *; (repeat' split) <;> first | rfl | omega)), rfl, rfl, (by first | rfl | (simp [zrMaR, zrMa, zrCo, zb, zs_ap, upd_ap, zs_zs, *]; done) | (simp_all [zrMaR, zrMa, zrCo, zb, zs_ap, upd_ap, zs_zs]; done) | (simp only [zrMaR, zrMa, zrCo, zb, zs_ap, upd_ap, zs_zs, Int32.le_iff_toInt_le, Int32.lt_iff_toInt_lt] at *; (repeat' split) <;> first | rfl | omega))⟩⟩
        · refine g_al0 r2_takesInMakes_39 ?_
          refine g_k r2_takesInMakes_40 ?_
          refine g_eV1 r2_takesInMakes_41 ok2_moveTo pl2_takesInMakes pl2_moveTo xx_3 (Nat.le_of_ble_eq_true rfl) (ev2_moveTo) ?_
          refine g_ifeq r2_takesInMakes_44 (fun hc => absurd hc (by decide)) (fun _ => ?_)
          refine g_k r2_takesInMakes_47 ?_
          refine g_goto r2_takesInMakes_48 ?_
          exact g_zret r2_takesInMakes_52 rfl (Or.inr rfl) ⟨rfl, ⟨zrt (by first | rfl | (simp [zrMaR, zrMa, zrCo, zb, zs_ap, upd_ap, zs_zs, *]; done) | (simp_all [zrMaR, zrMa, zrCo, zb, zs_ap, upd_ap, zs_zs]; done) | (simp only [zrMaR, zrMa, zrCo, zb, zs_ap, upd_ap, zs_zs, Int32.le_iff_toInt_le, Int32.lt_iff_toInt_lt] at *; (repeat' split) <;> first | rfl | omega)), rfl, rfl, (by first | rfl | (simp [zrMaR, zrMa, zrCo, zb, zs_ap, upd_ap, zs_zs, *]; done) | (simp_all [zrMaR, zrMa, zrCo, zb, zs_ap, upd_ap, zs_zs]; done) | (simp only [zrMaR, zrMa, zrCo, zb, zs_ap, upd_ap, zs_zs, Int32.le_iff_toInt_le, Int32.lt_iff_toInt_lt] at *; (repeat' split) <;> first | rfl | omega))⟩⟩
  · refine g_k r2_takesInMakes_9 ?_
    refine g_goto r2_takesInMakes_10 ?_
    refine g_is4 r2_takesInMakes_14 rfl ?_
    refine g_il3 r2_takesInMakes_16 ?_
    refine g_k r2_takesInMakes_17 ?_
    refine g_icne r2_takesInMakes_19 (fun h19 => ?_) (fun h19 => ?_)
    · refine g_il3 r2_takesInMakes_53 ?_
      refine g_k r2_takesInMakes_54 ?_
      refine g_icne r2_takesInMakes_56 (fun h56 => ?_) (fun h56 => ?_)
      · refine g_il4 r2_takesInMakes_91 ?_
        refine g_ifeq r2_takesInMakes_93 (fun hc => absurd hc (by decide)) (fun _ => ?_)
        refine g_al0 r2_takesInMakes_96 ?_
        refine g_al1 r2_takesInMakes_97 ?_
        refine g_gfr r2_takesInMakes_98 xx_34 rfl (rfl : _ = some 42) ?_
        refine g_il2 r2_takesInMakes_101 ?_
        refine g_k r2_takesInMakes_102 ?_
        refine g_il3 r2_takesInMakes_103 ?_
        refine g_eV4 r2_takesInMakes_104 ok2_takesFact pl2_takesInMakes pl2_takesFact xx_3 (Nat.le_of_ble_eq_true rfl) (ev2_takesFact xx_42 (by decide) ha10) ?_
        refine g_goto r2_takesInMakes_107 ?_
        exact g_zret r2_takesInMakes_126 rfl (zb_01 _) ⟨rfl, ⟨zrt (by first | rfl | (simp [zrMaR, zrMa, zrCo, zb, zs_ap, upd_ap, zs_zs, *]; done) | (simp_all [zrMaR, zrMa, zrCo, zb, zs_ap, upd_ap, zs_zs]; done) | (simp only [zrMaR, zrMa, zrCo, zb, zs_ap, upd_ap, zs_zs, Int32.le_iff_toInt_le, Int32.lt_iff_toInt_lt] at *; (repeat' split) <;> first | rfl | omega)), rfl, rfl, (by first | rfl | (simp [zrMaR, zrMa, zrCo, zb, zs_ap, upd_ap, zs_zs, *]; done) | (simp_all [zrMaR, zrMa, zrCo, zb, zs_ap, upd_ap, zs_zs]; done) | (simp only [zrMaR, zrMa, zrCo, zb, zs_ap, upd_ap, zs_zs, Int32.le_iff_toInt_le, Int32.lt_iff_toInt_lt] at *; (repeat' split) <;> first | rfl | omega))⟩⟩
      · refine g_il4 r2_takesInMakes_59 ?_
        refine g_ifeq r2_takesInMakes_61 (fun hc => absurd hc (by decide)) (fun _ => ?_)
        refine g_al1 r2_takesInMakes_64 ?_
        refine g_gfr r2_takesInMakes_65 xx_34 rfl (rfl : _ = some 42) ?_
        refine g_il2 r2_takesInMakes_68 ?_
        refine g_ialdN r2_takesInMakes_69 xx_42 (by omega) (by decide) ?_
        refine g_k r2_takesInMakes_70 ?_
        refine g_iceq r2_takesInMakes_73 (fun h73 => ?_) (fun h73 => ?_)
        · refine g_k r2_takesInMakes_89 ?_
          exact g_zret r2_takesInMakes_90 rfl (Or.inl rfl) ⟨rfl, ⟨zrt (by first | rfl | (simp [zrMaR, zrMa, zrCo, zb, zs_ap, upd_ap, zs_zs, *]; done) | (simp_all [zrMaR, zrMa, zrCo, zb, zs_ap, upd_ap, zs_zs]; done) | (simp only [zrMaR, zrMa, zrCo, zb, zs_ap, upd_ap, zs_zs, Int32.le_iff_toInt_le, Int32.lt_iff_toInt_lt] at *; (repeat' split) <;> first | rfl | omega)), rfl, rfl, (by first | rfl | (simp [zrMaR, zrMa, zrCo, zb, zs_ap, upd_ap, zs_zs, *]; done) | (simp_all [zrMaR, zrMa, zrCo, zb, zs_ap, upd_ap, zs_zs]; done) | (simp only [zrMaR, zrMa, zrCo, zb, zs_ap, upd_ap, zs_zs, Int32.le_iff_toInt_le, Int32.lt_iff_toInt_lt] at *; (repeat' split) <;> first | rfl | omega))⟩⟩
        · refine g_al0 r2_takesInMakes_76 ?_
          refine g_k r2_takesInMakes_77 ?_
          refine g_eV1 r2_takesInMakes_79 ok2_moveTo pl2_takesInMakes pl2_moveTo xx_3 (Nat.le_of_ble_eq_true rfl) (ev2_moveTo) ?_
          refine g_ifeq r2_takesInMakes_82 (fun hc => absurd hc (by decide)) (fun _ => ?_)
          refine g_k r2_takesInMakes_85 ?_
          refine g_goto r2_takesInMakes_86 ?_
          exact g_zret r2_takesInMakes_90 rfl (Or.inr rfl) ⟨rfl, ⟨zrt (by first | rfl | (simp [zrMaR, zrMa, zrCo, zb, zs_ap, upd_ap, zs_zs, *]; done) | (simp_all [zrMaR, zrMa, zrCo, zb, zs_ap, upd_ap, zs_zs]; done) | (simp only [zrMaR, zrMa, zrCo, zb, zs_ap, upd_ap, zs_zs, Int32.le_iff_toInt_le, Int32.lt_iff_toInt_lt] at *; (repeat' split) <;> first | rfl | omega)), rfl, rfl, (by first | rfl | (simp [zrMaR, zrMa, zrCo, zb, zs_ap, upd_ap, zs_zs, *]; done) | (simp_all [zrMaR, zrMa, zrCo, zb, zs_ap, upd_ap, zs_zs]; done) | (simp only [zrMaR, zrMa, zrCo, zb, zs_ap, upd_ap, zs_zs, Int32.le_iff_toInt_le, Int32.lt_iff_toInt_lt] at *; (repeat' split) <;> first | rfl | omega))⟩⟩
    · refine g_al0 r2_takesInMakes_22 ?_
      refine g_al1 r2_takesInMakes_23 ?_
      refine g_eV1 r2_takesInMakes_24 ok2_isComplete pl2_takesInMakes pl2_isComplete xx_3 (Nat.le_of_ble_eq_true rfl) (ev2_isComplete_34 ha ha10) ?_
      refine g_ifeqB r2_takesInMakes_27 (fun h27 => ?_) (fun h27 => ?_)
      · refine g_k r2_takesInMakes_51 ?_
        exact g_zret r2_takesInMakes_52 rfl (Or.inl rfl) ⟨rfl, ⟨zrt (by first | rfl | (simp [zrMaR, zrMa, zrCo, zb, zs_ap, upd_ap, zs_zs, *]; done) | (simp_all [zrMaR, zrMa, zrCo, zb, zs_ap, upd_ap, zs_zs]; done) | (simp only [zrMaR, zrMa, zrCo, zb, zs_ap, upd_ap, zs_zs, Int32.le_iff_toInt_le, Int32.lt_iff_toInt_lt] at *; (repeat' split) <;> first | rfl | omega)), rfl, rfl, (by first | rfl | (simp [zrMaR, zrMa, zrCo, zb, zs_ap, upd_ap, zs_zs, *]; done) | (simp_all [zrMaR, zrMa, zrCo, zb, zs_ap, upd_ap, zs_zs]; done) | (simp only [zrMaR, zrMa, zrCo, zb, zs_ap, upd_ap, zs_zs, Int32.le_iff_toInt_le, Int32.lt_iff_toInt_lt] at *; (repeat' split) <;> first | rfl | omega))⟩⟩
      · refine g_al1 r2_takesInMakes_30 ?_
        refine g_gfi r2_takesInMakes_31 xx_34 rfl ?_
        refine g_k r2_takesInMakes_34 ?_
        refine g_icgeL r2_takesInMakes_36 (fun h36 => ?_) (fun h36 => ?_)
        · refine g_k r2_takesInMakes_51 ?_
          exact g_zret r2_takesInMakes_52 rfl (Or.inl rfl) ⟨rfl, ⟨zrt (by first | rfl | (simp [zrMaR, zrMa, zrCo, zb, zs_ap, upd_ap, zs_zs, *]; done) | (simp_all [zrMaR, zrMa, zrCo, zb, zs_ap, upd_ap, zs_zs]; done) | (simp only [zrMaR, zrMa, zrCo, zb, zs_ap, upd_ap, zs_zs, Int32.le_iff_toInt_le, Int32.lt_iff_toInt_lt] at *; (repeat' split) <;> first | rfl | omega)), rfl, rfl, (by first | rfl | (simp [zrMaR, zrMa, zrCo, zb, zs_ap, upd_ap, zs_zs, *]; done) | (simp_all [zrMaR, zrMa, zrCo, zb, zs_ap, upd_ap, zs_zs]; done) | (simp only [zrMaR, zrMa, zrCo, zb, zs_ap, upd_ap, zs_zs, Int32.le_iff_toInt_le, Int32.lt_iff_toInt_lt] at *; (repeat' split) <;> first | rfl | omega))⟩⟩
        · refine g_al0 r2_takesInMakes_39 ?_
          refine g_k r2_takesInMakes_40 ?_
          refine g_eV1 r2_takesInMakes_41 ok2_moveTo pl2_takesInMakes pl2_moveTo xx_3 (Nat.le_of_ble_eq_true rfl) (ev2_moveTo) ?_
          refine g_ifeq r2_takesInMakes_44 (fun hc => absurd hc (by decide)) (fun _ => ?_)
          refine g_k r2_takesInMakes_47 ?_
          refine g_goto r2_takesInMakes_48 ?_
          exact g_zret r2_takesInMakes_52 rfl (Or.inr rfl) ⟨rfl, ⟨zrt (by first | rfl | (simp [zrMaR, zrMa, zrCo, zb, zs_ap, upd_ap, zs_zs, *]; done) | (simp_all [zrMaR, zrMa, zrCo, zb, zs_ap, upd_ap, zs_zs]; done) | (simp only [zrMaR, zrMa, zrCo, zb, zs_ap, upd_ap, zs_zs, Int32.le_iff_toInt_le, Int32.lt_iff_toInt_lt] at *; (repeat' split) <;> first | rfl | omega)), rfl, rfl, (by first | rfl | (simp [zrMaR, zrMa, zrCo, zb, zs_ap, upd_ap, zs_zs, *]; done) | (simp_all [zrMaR, zrMa, zrCo, zb, zs_ap, upd_ap, zs_zs]; done) | (simp only [zrMaR, zrMa, zrCo, zb, zs_ap, upd_ap, zs_zs, Int32.le_iff_toInt_le, Int32.lt_iff_toInt_lt] at *; (repeat' split) <;> first | rfl | omega))⟩⟩
theorem ev2_clear_44 {w v0 e1 e2 : Nat} {h : Int64} {I : zMI}  : zEr m5_clear (zRR w v0 e1 e2) h I [.ref 44] none (zRR w v0 e1 e2) h (zrCl I 44) := by
  refine zEp_of [.ref 44] pl5_clear (by decide +kernel) (fun _ _ => rfl) (fun _ _ => Nat.le_of_ble_eq_true rfl) ?_
  refine g_al0 r5_clear_0 ?_
  refine g_k r5_clear_1 ?_
  refine g_pfi r5_clear_2 xx_44 rfl rfl ?_
  refine g_al0 r5_clear_5 ?_
  refine g_k r5_clear_6 ?_
  refine g_pfi r5_clear_7 xx_44 rfl rfl ?_
  refine g_al0 r5_clear_10 ?_
  refine g_k r5_clear_11 ?_
  refine g_pfi r5_clear_12 xx_44 rfl rfl ?_
  exact g_vret r5_clear_15 rfl ⟨rfl, ⟨rfl, rfl, rfl, (by first | rfl | (simp [zrCl, zb, zs_ap, upd_ap, zs_zs, *]; done) | (simp_all [zrCl, zb, zs_ap, upd_ap, zs_zs]; done) | (simp only [zrCl, zb, zs_ap, upd_ap, zs_zs, Int32.le_iff_toInt_le, Int32.lt_iff_toInt_lt] at *; (repeat' split) <;> first | rfl | omega))⟩⟩
theorem ev2_addPerson_44 {w v0 e1 e2 : Nat} {h : Int64} {I : zMI} {n : Nat} (hn : I 44 9 = nI n) (hn4 : n < 4) {k : Int32} : zEr m5_addPerson (zRR w v0 e1 e2) h I [.ref 44, .int k] none (zRR w v0 e1 e2) h (zrAP I 44 n k) := by
  refine zEp_of [.ref 44, .int k] pl5_addPerson (by decide +kernel) (fun _ _ => rfl) (fun _ _ => Nat.le_of_ble_eq_true rfl) ?_
  refine g_al0 r5_addPerson_0 ?_
  refine g_gfi r5_addPerson_1 xx_44 rfl ?_
  refine g_eqv (y := nI n) hn ?_
  refine g_k r5_addPerson_4 ?_
  refine g_eqv (y := nI 4) rfl ?_
  refine g_icgeN r5_addPerson_5 (by omega) (by omega) (fun hc => absurd hc (by omega)) (fun h5 => ?_)
  refine g_al0 r5_addPerson_8 ?_
  refine g_gfr r5_addPerson_9 xx_44 rfl (rfl : _ = some 45) ?_
  refine g_al0 r5_addPerson_12 ?_
  refine g_gfi r5_addPerson_13 xx_44 rfl ?_
  refine g_eqv (y := nI n) hn ?_
  refine g_il1 r5_addPerson_16 ?_
  refine g_iastN r5_addPerson_17 xx_45 (by omega) (by decide) ?_
  refine g_al0 r5_addPerson_18 ?_
  refine g_dup r5_addPerson_19 rfl ?_
  refine g_gfi r5_addPerson_20 xx_44 rfl ?_
  refine g_k r5_addPerson_23 ?_
  refine g_iadd r5_addPerson_24 ?_
  refine g_pfi r5_addPerson_25 xx_44 rfl rfl ?_
  exact g_vret r5_addPerson_28 rfl ⟨rfl, ⟨rfl, rfl, rfl, (by first | rfl | (simp [zrAP, zb, zs_ap, upd_ap, zs_zs, *]; done) | (simp_all [zrAP, zb, zs_ap, upd_ap, zs_zs]; done) | (simp only [zrAP, zb, zs_ap, upd_ap, zs_zs, Int32.le_iff_toInt_le, Int32.lt_iff_toInt_lt] at *; (repeat' split) <;> first | rfl | omega))⟩⟩
theorem ev2_addAct_44 {w v0 e1 e2 : Nat} {h : Int64} {I : zMI} {a : Nat} (ha : I 44 10 = nI a) (ha10 : a < 10) {k : Int32} : zEr m5_addAct (zRR w v0 e1 e2) h I [.ref 44, .int k] none (zRR w v0 e1 e2) h (zrAA I 44 a k) := by
  refine zEp_of [.ref 44, .int k] pl5_addAct (by decide +kernel) (fun _ _ => rfl) (fun _ _ => Nat.le_of_ble_eq_true rfl) ?_
  refine g_al0 r5_addAct_0 ?_
  refine g_gfi r5_addAct_1 xx_44 rfl ?_
  refine g_eqv (y := nI a) ha ?_
  refine g_k r5_addAct_4 ?_
  refine g_eqv (y := nI 10) rfl ?_
  refine g_icgeN r5_addAct_6 (by omega) (by omega) (fun hc => absurd hc (by omega)) (fun h6 => ?_)
  refine g_al0 r5_addAct_9 ?_
  refine g_gfr r5_addAct_10 xx_44 rfl (rfl : _ = some 49) ?_
  refine g_al0 r5_addAct_13 ?_
  refine g_gfi r5_addAct_14 xx_44 rfl ?_
  refine g_eqv (y := nI a) ha ?_
  refine g_il1 r5_addAct_17 ?_
  refine g_iastN r5_addAct_18 xx_49 (by omega) (by decide) ?_
  refine g_al0 r5_addAct_19 ?_
  refine g_gfr r5_addAct_20 xx_44 rfl (rfl : _ = some 50) ?_
  refine g_al0 r5_addAct_23 ?_
  refine g_gfi r5_addAct_24 xx_44 rfl ?_
  refine g_eqv (y := nI a) ha ?_
  refine g_k r5_addAct_27 ?_
  refine g_iastN r5_addAct_28 xx_50 (by omega) (by decide) ?_
  refine g_al0 r5_addAct_29 ?_
  refine g_gfr r5_addAct_30 xx_44 rfl (rfl : _ = some 51) ?_
  refine g_al0 r5_addAct_33 ?_
  refine g_gfi r5_addAct_34 xx_44 rfl ?_
  refine g_eqv (y := nI a) ha ?_
  refine g_k r5_addAct_37 ?_
  refine g_iastN r5_addAct_38 xx_51 (by omega) (by decide) ?_
  refine g_al0 r5_addAct_39 ?_
  refine g_gfr r5_addAct_40 xx_44 rfl (rfl : _ = some 52) ?_
  refine g_al0 r5_addAct_43 ?_
  refine g_gfi r5_addAct_44 xx_44 rfl ?_
  refine g_eqv (y := nI a) ha ?_
  refine g_k r5_addAct_47 ?_
  refine g_iastN r5_addAct_48 xx_52 (by omega) (by decide) ?_
  refine g_al0 r5_addAct_49 ?_
  refine g_gfr r5_addAct_50 xx_44 rfl (rfl : _ = some 53) ?_
  refine g_al0 r5_addAct_53 ?_
  refine g_gfi r5_addAct_54 xx_44 rfl ?_
  refine g_eqv (y := nI a) ha ?_
  refine g_k r5_addAct_57 ?_
  refine g_iastN r5_addAct_58 xx_53 (by omega) (by decide) ?_
  refine g_al0 r5_addAct_59 ?_
  refine g_dup r5_addAct_60 rfl ?_
  refine g_gfi r5_addAct_61 xx_44 rfl ?_
  refine g_k r5_addAct_64 ?_
  refine g_iadd r5_addAct_65 ?_
  refine g_pfi r5_addAct_66 xx_44 rfl rfl ?_
  exact g_vret r5_addAct_69 rfl ⟨rfl, ⟨rfl, rfl, rfl, (by first | rfl | (simp [zrAA, zb, zs_ap, upd_ap, zs_zs, *]; done) | (simp_all [zrAA, zb, zs_ap, upd_ap, zs_zs]; done) | (simp only [zrAA, zb, zs_ap, upd_ap, zs_zs, Int32.le_iff_toInt_le, Int32.lt_iff_toInt_lt] at *; (repeat' split) <;> first | rfl | omega))⟩⟩
theorem ev2_takesKind_44 {w v0 e1 e2 : Nat} {h : Int64} {I : zMI} {n : Nat} (hn : I 44 9 = nI n) (hn4 : n < 4) {c : Int32} : zEr m2_takesKind (zRR w v0 e1 e2) h I [.ref 3, .ref 44, .int c] (some (.int (zb (¬ zkd c = -1)))) (zRR w v0 e1 e2) h (if zkd c = -1 then I else zrKi I 44 n c) := by
  refine zEp_of [.ref 3, .ref 44, .int c, .null] pl2_takesKind (by decide +kernel) (fun _ _ => rfl) (fun _ _ => Nat.le_of_ble_eq_true rfl) ?_
  refine g_join (pc' := 41) (lv' := [.ref 3, .ref 44, .int c, .null]) (st' := [.int (zkd c)]) (fun j41 => ?_) ?_
  · refine g_il2 r2_takesKind_0 ?_
    refine g_k r2_takesKind_1 ?_
    refine g_icne r2_takesKind_3 (fun h3 => ?_) (fun h3 => ?_)
    · refine g_il2 r2_takesKind_10 ?_
      refine g_k r2_takesKind_11 ?_
      refine g_icne r2_takesKind_13 (fun h13 => ?_) (fun h13 => ?_)
      · refine g_il2 r2_takesKind_20 ?_
        refine g_k r2_takesKind_21 ?_
        refine g_icne r2_takesKind_23 (fun h23 => ?_) (fun h23 => ?_)
        · refine g_il2 r2_takesKind_30 ?_
          refine g_k r2_takesKind_31 ?_
          refine g_icne r2_takesKind_33 (fun h33 => ?_) (fun h33 => ?_)
          · refine g_k r2_takesKind_40 ?_
            exact g_eqv (by first | rfl | (simp [zkd, zb, *]; done) | (simp_all [zkd, zb]; done)) j41
          · refine g_k r2_takesKind_36 ?_
            refine g_goto r2_takesKind_37 ?_
            exact g_eqv (by first | rfl | (simp [zkd, zb, *]; done) | (simp_all [zkd, zb]; done)) j41
        · refine g_k r2_takesKind_26 ?_
          refine g_goto r2_takesKind_27 ?_
          exact g_eqv (by first | rfl | (simp [zkd, zb, *]; done) | (simp_all [zkd, zb]; done)) j41
      · refine g_k r2_takesKind_16 ?_
        refine g_goto r2_takesKind_17 ?_
        exact g_eqv (by first | rfl | (simp [zkd, zb, *]; done) | (simp_all [zkd, zb]; done)) j41
    · refine g_k r2_takesKind_6 ?_
      refine g_goto r2_takesKind_7 ?_
      exact g_eqv (by first | rfl | (simp [zkd, zb, *]; done) | (simp_all [zkd, zb]; done)) j41
  · refine g_is3 r2_takesKind_41 rfl ?_
    refine g_il3 r2_takesKind_42 ?_
    refine g_k r2_takesKind_43 ?_
    refine g_iceq r2_takesKind_44 (fun h44 => ?_) (fun h44 => ?_)
    · refine g_k r2_takesKind_55 ?_
      exact g_zret r2_takesKind_56 rfl (Or.inl rfl) ⟨rfl, ⟨zrt (by first | rfl | (simp [zrKi, zb, zs_ap, upd_ap, zs_zs, *]; done) | (simp_all [zrKi, zb, zs_ap, upd_ap, zs_zs]; done) | (simp only [zrKi, zb, zs_ap, upd_ap, zs_zs, Int32.le_iff_toInt_le, Int32.lt_iff_toInt_lt] at *; (repeat' split) <;> first | rfl | omega)), rfl, rfl, (by first | rfl | (simp [zrKi, zb, zs_ap, upd_ap, zs_zs, *]; done) | (simp_all [zrKi, zb, zs_ap, upd_ap, zs_zs]; done) | (simp only [zrKi, zb, zs_ap, upd_ap, zs_zs, Int32.le_iff_toInt_le, Int32.lt_iff_toInt_lt] at *; (repeat' split) <;> first | rfl | omega))⟩⟩
    · refine g_al1 r2_takesKind_47 ?_
      refine g_gfi r2_takesKind_48 xx_44 rfl ?_
      refine g_eqv (y := nI n) hn ?_
      refine g_k r2_takesKind_51 ?_
      refine g_eqv (y := nI 4) rfl ?_
      refine g_icltN r2_takesKind_52 (by omega) (by omega) (fun h52 => ?_) (fun hc => absurd hc (by omega))
      refine g_al1 r2_takesKind_57 ?_
      refine g_il3 r2_takesKind_58 ?_
      refine g_eV1 r2_takesKind_59 ok5_addPerson pl2_takesKind pl5_addPerson xx_44 (Nat.le_of_ble_eq_true rfl) (ev2_addPerson_44 hn hn4) ?_
      refine g_al0 r2_takesKind_62 ?_
      refine g_k r2_takesKind_63 ?_
      refine g_eV1 r2_takesKind_64 ok2_moveTo pl2_takesKind pl2_moveTo xx_3 (Nat.le_of_ble_eq_true rfl) (ev2_moveTo) ?_
      exact g_zret r2_takesKind_67 rfl (Or.inr rfl) ⟨rfl, ⟨zrt (by first | rfl | (simp [zrKi, zb, zs_ap, upd_ap, zs_zs, *]; done) | (simp_all [zrKi, zb, zs_ap, upd_ap, zs_zs]; done) | (simp only [zrKi, zb, zs_ap, upd_ap, zs_zs, Int32.le_iff_toInt_le, Int32.lt_iff_toInt_lt] at *; (repeat' split) <;> first | rfl | omega)), rfl, rfl, (by first | rfl | (simp [zrKi, zb, zs_ap, upd_ap, zs_zs, *]; done) | (simp_all [zrKi, zb, zs_ap, upd_ap, zs_zs]; done) | (simp only [zrKi, zb, zs_ap, upd_ap, zs_zs, Int32.le_iff_toInt_le, Int32.lt_iff_toInt_lt] at *; (repeat' split) <;> first | rfl | omega))⟩⟩
theorem ev2_takesGoal_44 {w v0 e1 e2 : Nat} {h : Int64} {I : zMI} {n : Nat} (hn : I 44 9 = nI (n + 1)) (hn4 : n < 4) {c : Int32} : zEr m2_takesGoal (zRR w v0 e1 e2) h I [.ref 3, .ref 44, .int c] (some (.int (zb (¬ zfo c = -1)))) (zRR w v0 e1 e2) h (if zfo c = -1 then I else zrGo I 44 n (zfo c)) := by
  refine zEp_of [.ref 3, .ref 44, .int c, .null, .null] pl2_takesGoal (by decide +kernel) (fun _ _ => rfl) (fun _ _ => Nat.le_of_ble_eq_true rfl) ?_
  refine g_al1 r2_takesGoal_0 ?_
  refine g_gfi r2_takesGoal_1 xx_44 rfl ?_
  refine g_k r2_takesGoal_4 ?_
  refine g_isub r2_takesGoal_5 ?_
  rw [hn, nI_pred]
  refine g_is3 r2_takesGoal_6 rfl ?_
  refine g_il2 r2_takesGoal_7 ?_
  refine g_eS1 r2_takesGoal_8 ok2_factOf pl2_takesGoal pl2_factOf (Nat.le_of_ble_eq_true rfl) (ev2_factOf) ?_
  refine g_is4 r2_takesGoal_11 rfl ?_
  refine g_il4 r2_takesGoal_13 ?_
  refine g_k r2_takesGoal_15 ?_
  refine g_iceq r2_takesGoal_16 (fun h16 => ?_) (fun h16 => ?_)
  · refine g_k r2_takesGoal_28 ?_
    exact g_zret r2_takesGoal_29 rfl (Or.inl rfl) ⟨rfl, ⟨zrt (by first | rfl | (simp [zrGo, zb, zs_ap, upd_ap, zs_zs, *]; done) | (simp_all [zrGo, zb, zs_ap, upd_ap, zs_zs]; done) | (simp only [zrGo, zb, zs_ap, upd_ap, zs_zs, Int32.le_iff_toInt_le, Int32.lt_iff_toInt_lt] at *; (repeat' split) <;> first | rfl | omega)), rfl, rfl, (by first | rfl | (simp [zrGo, zb, zs_ap, upd_ap, zs_zs, *]; done) | (simp_all [zrGo, zb, zs_ap, upd_ap, zs_zs]; done) | (simp only [zrGo, zb, zs_ap, upd_ap, zs_zs, Int32.le_iff_toInt_le, Int32.lt_iff_toInt_lt] at *; (repeat' split) <;> first | rfl | omega))⟩⟩
  · refine g_il3 r2_takesGoal_19 ?_
    refine g_iflt r2_takesGoal_20 (fun hc => absurd hc (nI_pos (by omega))) (fun _ => ?_)
    refine g_il3 r2_takesGoal_23 ?_
    refine g_k r2_takesGoal_24 ?_
    refine g_eqv (y := nI 4) rfl ?_
    refine g_icltN r2_takesGoal_25 (by omega) (by omega) (fun h25 => ?_) (fun hc => absurd hc (by omega))
    refine g_al1 r2_takesGoal_30 ?_
    refine g_gfr r2_takesGoal_31 xx_44 rfl (rfl : _ = some 46) ?_
    refine g_il3 r2_takesGoal_34 ?_
    refine g_il4 r2_takesGoal_35 ?_
    refine g_iastN r2_takesGoal_37 xx_46 (by omega) (by decide) ?_
    refine g_al1 r2_takesGoal_38 ?_
    refine g_gfr r2_takesGoal_39 xx_44 rfl (rfl : _ = some 47) ?_
    refine g_il3 r2_takesGoal_42 ?_
    refine g_join (pc' := 58) (lv' := [.ref 3, .ref 44, .int c, .int (nI n), .int (zfo c)]) (st' := [.int (if I 3 2 = 0 then 0 else 1 <<< (zfo c &&& 31)), .int (nI n), .ref 47]) (fun j58 => ?_) ?_
    · refine g_al0 r2_takesGoal_43 ?_
      refine g_gfz r2_takesGoal_44 xx_3 rfl ?_
      refine g_ifeq r2_takesGoal_47 (fun h47 => ?_) (fun h47 => ?_)
      · refine g_k r2_takesGoal_57 ?_
        exact g_eqv (by first | exact (if_pos h47).symm | exact (if_neg h47).symm) j58
      · refine g_k r2_takesGoal_50 ?_
        refine g_il4 r2_takesGoal_51 ?_
        refine g_ishl r2_takesGoal_53 ?_
        refine g_goto r2_takesGoal_54 ?_
        exact g_eqv (by first | exact (if_pos h47).symm | exact (if_neg h47).symm) j58
    · refine g_iastN r2_takesGoal_58 xx_47 (by omega) (by decide) ?_
      refine g_al1 r2_takesGoal_59 ?_
      refine g_gfr r2_takesGoal_60 xx_44 rfl (rfl : _ = some 48) ?_
      refine g_il3 r2_takesGoal_63 ?_
      refine g_join (pc' := 79) (lv' := [.ref 3, .ref 44, .int c, .int (nI n), .int (zfo c)]) (st' := [.int (if I 3 2 = 0 then 1 <<< (zfo c &&& 31) else 0), .int (nI n), .ref 48]) (fun j79 => ?_) ?_
      · refine g_al0 r2_takesGoal_64 ?_
        refine g_gfz r2_takesGoal_65 xx_3 rfl ?_
        refine g_ifeq r2_takesGoal_68 (fun h68 => ?_) (fun h68 => ?_)
        · refine g_k r2_takesGoal_75 ?_
          refine g_il4 r2_takesGoal_76 ?_
          refine g_ishl r2_takesGoal_78 ?_
          exact g_eqv (by first | exact (if_pos h68).symm | exact (if_neg h68).symm) j79
        · refine g_k r2_takesGoal_71 ?_
          refine g_goto r2_takesGoal_72 ?_
          exact g_eqv (by first | exact (if_pos h68).symm | exact (if_neg h68).symm) j79
      · refine g_iastN r2_takesGoal_79 xx_48 (by omega) (by decide) ?_
        refine g_al0 r2_takesGoal_80 ?_
        refine g_k r2_takesGoal_81 ?_
        refine g_eV1 r2_takesGoal_82 ok2_moveTo pl2_takesGoal pl2_moveTo xx_3 (Nat.le_of_ble_eq_true rfl) (ev2_moveTo) ?_
        exact g_zret r2_takesGoal_85 rfl (Or.inr rfl) ⟨rfl, ⟨zrt (by first | rfl | (simp [zrGo, zb, zs_ap, upd_ap, zs_zs, *]; done) | (simp_all [zrGo, zb, zs_ap, upd_ap, zs_zs]; done) | (simp only [zrGo, zb, zs_ap, upd_ap, zs_zs, Int32.le_iff_toInt_le, Int32.lt_iff_toInt_lt] at *; (repeat' split) <;> first | rfl | omega)), rfl, rfl, (by first | rfl | (simp [zrGo, zb, zs_ap, upd_ap, zs_zs, *]; done) | (simp_all [zrGo, zb, zs_ap, upd_ap, zs_zs]; done) | (simp only [zrGo, zb, zs_ap, upd_ap, zs_zs, Int32.le_iff_toInt_le, Int32.lt_iff_toInt_lt] at *; (repeat' split) <;> first | rfl | omega))⟩⟩
theorem ev2_takesAfterGoal_44 {w v0 e1 e2 : Nat} {h : Int64} {I : zMI} {c : Int32} : zEr m2_takesAfterGoal (zRR w v0 e1 e2) h I [.ref 3, .ref 44, .int c] (some (.int (zrAG I 44 c))) (zRR w v0 e1 e2) h (zrAGm I 44 c) := by
  refine zEp_of [.ref 3, .ref 44, .int c] pl2_takesAfterGoal (by decide +kernel) (fun _ _ => rfl) (fun _ _ => Nat.le_of_ble_eq_true rfl) ?_
  refine g_il2 r2_takesAfterGoal_0 ?_
  refine g_k r2_takesAfterGoal_1 ?_
  refine g_icne r2_takesAfterGoal_3 (fun h3 => ?_) (fun h3 => ?_)
  · refine g_il2 r2_takesAfterGoal_28 ?_
    refine g_k r2_takesAfterGoal_29 ?_
    refine g_icne r2_takesAfterGoal_31 (fun h31 => ?_) (fun h31 => ?_)
    · refine g_k r2_takesAfterGoal_46 ?_
      exact g_zret r2_takesAfterGoal_47 rfl (Or.inl rfl) ⟨rfl, ⟨zrt (by first | rfl | (simp [zrAG, zrAGm, zb, zs_ap, upd_ap, zs_zs, *]; done) | (simp_all [zrAG, zrAGm, zb, zs_ap, upd_ap, zs_zs]; done) | (simp only [zrAG, zrAGm, zb, zs_ap, upd_ap, zs_zs, Int32.le_iff_toInt_le, Int32.lt_iff_toInt_lt] at *; (repeat' split) <;> first | rfl | omega)), rfl, rfl, (by first | rfl | (simp [zrAG, zrAGm, zb, zs_ap, upd_ap, zs_zs, *]; done) | (simp_all [zrAG, zrAGm, zb, zs_ap, upd_ap, zs_zs]; done) | (simp only [zrAG, zrAGm, zb, zs_ap, upd_ap, zs_zs, Int32.le_iff_toInt_le, Int32.lt_iff_toInt_lt] at *; (repeat' split) <;> first | rfl | omega))⟩⟩
    · refine g_al0 r2_takesAfterGoal_34 ?_
      refine g_k r2_takesAfterGoal_35 ?_
      refine g_eV1 r2_takesAfterGoal_36 ok2_moveTo pl2_takesAfterGoal pl2_moveTo xx_3 (Nat.le_of_ble_eq_true rfl) (ev2_moveTo) ?_
      refine g_ifeq r2_takesAfterGoal_39 (fun hc => absurd hc (by decide)) (fun _ => ?_)
      refine g_k r2_takesAfterGoal_42 ?_
      refine g_goto r2_takesAfterGoal_43 ?_
      exact g_zret r2_takesAfterGoal_47 rfl (Or.inr rfl) ⟨rfl, ⟨zrt (by first | rfl | (simp [zrAG, zrAGm, zb, zs_ap, upd_ap, zs_zs, *]; done) | (simp_all [zrAG, zrAGm, zb, zs_ap, upd_ap, zs_zs]; done) | (simp only [zrAG, zrAGm, zb, zs_ap, upd_ap, zs_zs, Int32.le_iff_toInt_le, Int32.lt_iff_toInt_lt] at *; (repeat' split) <;> first | rfl | omega)), rfl, rfl, (by first | rfl | (simp [zrAG, zrAGm, zb, zs_ap, upd_ap, zs_zs, *]; done) | (simp_all [zrAG, zrAGm, zb, zs_ap, upd_ap, zs_zs]; done) | (simp only [zrAG, zrAGm, zb, zs_ap, upd_ap, zs_zs, Int32.le_iff_toInt_le, Int32.lt_iff_toInt_lt] at *; (repeat' split) <;> first | rfl | omega))⟩⟩
  · refine g_al1 r2_takesAfterGoal_6 ?_
    refine g_gfi r2_takesAfterGoal_7 xx_44 rfl ?_
    refine g_k r2_takesAfterGoal_10 ?_
    refine g_icgeL r2_takesAfterGoal_11 (fun h11 => ?_) (fun h11 => ?_)
    · refine g_k r2_takesAfterGoal_26 ?_
      exact g_zret r2_takesAfterGoal_27 rfl (Or.inl rfl) ⟨rfl, ⟨zrt (by first | rfl | (simp [zrAG, zrAGm, zb, zs_ap, upd_ap, zs_zs, *]; done) | (simp_all [zrAG, zrAGm, zb, zs_ap, upd_ap, zs_zs]; done) | (simp only [zrAG, zrAGm, zb, zs_ap, upd_ap, zs_zs, Int32.le_iff_toInt_le, Int32.lt_iff_toInt_lt] at *; (repeat' split) <;> first | rfl | omega)), rfl, rfl, (by first | rfl | (simp [zrAG, zrAGm, zb, zs_ap, upd_ap, zs_zs, *]; done) | (simp_all [zrAG, zrAGm, zb, zs_ap, upd_ap, zs_zs]; done) | (simp only [zrAG, zrAGm, zb, zs_ap, upd_ap, zs_zs, Int32.le_iff_toInt_le, Int32.lt_iff_toInt_lt] at *; (repeat' split) <;> first | rfl | omega))⟩⟩
    · refine g_al0 r2_takesAfterGoal_14 ?_
      refine g_k r2_takesAfterGoal_15 ?_
      refine g_eV1 r2_takesAfterGoal_16 ok2_moveTo pl2_takesAfterGoal pl2_moveTo xx_3 (Nat.le_of_ble_eq_true rfl) (ev2_moveTo) ?_
      refine g_ifeq r2_takesAfterGoal_19 (fun hc => absurd hc (by decide)) (fun _ => ?_)
      refine g_k r2_takesAfterGoal_22 ?_
      refine g_goto r2_takesAfterGoal_23 ?_
      exact g_zret r2_takesAfterGoal_27 rfl (Or.inr rfl) ⟨rfl, ⟨zrt (by first | rfl | (simp [zrAG, zrAGm, zb, zs_ap, upd_ap, zs_zs, *]; done) | (simp_all [zrAG, zrAGm, zb, zs_ap, upd_ap, zs_zs]; done) | (simp only [zrAG, zrAGm, zb, zs_ap, upd_ap, zs_zs, Int32.le_iff_toInt_le, Int32.lt_iff_toInt_lt] at *; (repeat' split) <;> first | rfl | omega)), rfl, rfl, (by first | rfl | (simp [zrAG, zrAGm, zb, zs_ap, upd_ap, zs_zs, *]; done) | (simp_all [zrAG, zrAGm, zb, zs_ap, upd_ap, zs_zs]; done) | (simp only [zrAG, zrAGm, zb, zs_ap, upd_ap, zs_zs, Int32.le_iff_toInt_le, Int32.lt_iff_toInt_lt] at *; (repeat' split) <;> first | rfl | omega))⟩⟩
theorem ev2_takesFirstFact_44 {w v0 e1 e2 : Nat} {h : Int64} {I : zMI} {c : Int32} : zEr m2_takesFirstFact (zRR w v0 e1 e2) h I [.ref 3, .ref 44, .int c] (some (.int (zrFFR I c))) (zRR w v0 e1 e2) h (zrFF I 44 c) := by
  refine zEp_of [.ref 3, .ref 44, .int c, .null] pl2_takesFirstFact (by decide +kernel) (fun _ _ => rfl) (fun _ _ => Nat.le_of_ble_eq_true rfl) ?_
  refine g_il2 r2_takesFirstFact_0 ?_
  refine g_k r2_takesFirstFact_1 ?_
  refine g_icne r2_takesFirstFact_3 (fun h3 => ?_) (fun h3 => ?_)
  · refine g_il2 r2_takesFirstFact_12 ?_
    refine g_eS1 r2_takesFirstFact_13 ok2_factOf pl2_takesFirstFact pl2_factOf (Nat.le_of_ble_eq_true rfl) (ev2_factOf) ?_
    refine g_is3 r2_takesFirstFact_16 rfl ?_
    refine g_al0 r2_takesFirstFact_17 ?_
    refine g_il3 r2_takesFirstFact_18 ?_
    refine g_eV1 r2_takesFirstFact_19 ok2_isNext pl2_takesFirstFact pl2_isNext xx_3 (Nat.le_of_ble_eq_true rfl) (ev2_isNext) ?_
    refine g_ifneB r2_takesFirstFact_22 (fun h22 => ?_) (fun h22 => ?_)
    · refine g_al1 r2_takesFirstFact_27 ?_
      refine g_dup r2_takesFirstFact_28 rfl ?_
      refine g_gfi r2_takesFirstFact_29 xx_44 rfl ?_
      refine g_k r2_takesFirstFact_32 ?_
      refine g_il3 r2_takesFirstFact_33 ?_
      refine g_ishl r2_takesFirstFact_34 ?_
      refine g_ior r2_takesFirstFact_35 ?_
      refine g_pfi r2_takesFirstFact_36 xx_44 rfl rfl ?_
      refine g_al0 r2_takesFirstFact_39 ?_
      refine g_il3 r2_takesFirstFact_40 ?_
      refine g_pfi r2_takesFirstFact_41 xx_3 rfl rfl ?_
      refine g_k r2_takesFirstFact_44 ?_
      exact g_zret r2_takesFirstFact_45 rfl (Or.inr rfl) ⟨rfl, ⟨zrt (by first | rfl | (simp [zrFFR, zrFF, znx, zb, zs_ap, upd_ap, zs_zs, *]; done) | (simp_all [zrFFR, zrFF, znx, zb, zs_ap, upd_ap, zs_zs]; done) | (simp only [zrFFR, zrFF, znx, zb, zs_ap, upd_ap, zs_zs, Int32.le_iff_toInt_le, Int32.lt_iff_toInt_lt] at *; (repeat' split) <;> first | rfl | omega)), rfl, rfl, (by first | rfl | (simp [zrFFR, zrFF, znx, zb, zs_ap, upd_ap, zs_zs, *]; done) | (simp_all [zrFFR, zrFF, znx, zb, zs_ap, upd_ap, zs_zs]; done) | (simp only [zrFFR, zrFF, znx, zb, zs_ap, upd_ap, zs_zs, Int32.le_iff_toInt_le, Int32.lt_iff_toInt_lt] at *; (repeat' split) <;> first | rfl | omega))⟩⟩
    · refine g_k r2_takesFirstFact_25 ?_
      exact g_zret r2_takesFirstFact_26 rfl (Or.inl rfl) ⟨rfl, ⟨zrt (by first | rfl | (simp [zrFFR, zrFF, znx, zb, zs_ap, upd_ap, zs_zs, *]; done) | (simp_all [zrFFR, zrFF, znx, zb, zs_ap, upd_ap, zs_zs]; done) | (simp only [zrFFR, zrFF, znx, zb, zs_ap, upd_ap, zs_zs, Int32.le_iff_toInt_le, Int32.lt_iff_toInt_lt] at *; (repeat' split) <;> first | rfl | omega)), rfl, rfl, (by first | rfl | (simp [zrFFR, zrFF, znx, zb, zs_ap, upd_ap, zs_zs, *]; done) | (simp_all [zrFFR, zrFF, znx, zb, zs_ap, upd_ap, zs_zs]; done) | (simp only [zrFFR, zrFF, znx, zb, zs_ap, upd_ap, zs_zs, Int32.le_iff_toInt_le, Int32.lt_iff_toInt_lt] at *; (repeat' split) <;> first | rfl | omega))⟩⟩
  · refine g_al0 r2_takesFirstFact_6 ?_
    refine g_k r2_takesFirstFact_7 ?_
    refine g_eV1 r2_takesFirstFact_8 ok2_moveTo pl2_takesFirstFact pl2_moveTo xx_3 (Nat.le_of_ble_eq_true rfl) (ev2_moveTo) ?_
    exact g_zret r2_takesFirstFact_11 rfl (Or.inr rfl) ⟨rfl, ⟨zrt (by first | rfl | (simp [zrFFR, zrFF, znx, zb, zs_ap, upd_ap, zs_zs, *]; done) | (simp_all [zrFFR, zrFF, znx, zb, zs_ap, upd_ap, zs_zs]; done) | (simp only [zrFFR, zrFF, znx, zb, zs_ap, upd_ap, zs_zs, Int32.le_iff_toInt_le, Int32.lt_iff_toInt_lt] at *; (repeat' split) <;> first | rfl | omega)), rfl, rfl, (by first | rfl | (simp [zrFFR, zrFF, znx, zb, zs_ap, upd_ap, zs_zs, *]; done) | (simp_all [zrFFR, zrFF, znx, zb, zs_ap, upd_ap, zs_zs]; done) | (simp only [zrFFR, zrFF, znx, zb, zs_ap, upd_ap, zs_zs, Int32.le_iff_toInt_le, Int32.lt_iff_toInt_lt] at *; (repeat' split) <;> first | rfl | omega))⟩⟩
theorem ev2_takesOwner_44 {w v0 e1 e2 : Nat} {h : Int64} {I : zMI} {a : Nat} (ha : I 44 10 = nI a) (ha10 : a < 10) {c : Int32} : zEr m2_takesOwner (zRR w v0 e1 e2) h I [.ref 3, .ref 44, .int c] (some (.int (zrOwR I 44 c))) (zRR w v0 e1 e2) h (zrOw I 44 a c) := by
  refine zEp_of [.ref 3, .ref 44, .int c, .null] pl2_takesOwner (by decide +kernel) (fun _ _ => rfl) (fun _ _ => Nat.le_of_ble_eq_true rfl) ?_
  refine g_il2 r2_takesOwner_0 ?_
  refine g_k r2_takesOwner_1 ?_
  refine g_isub r2_takesOwner_3 ?_
  refine g_is3 r2_takesOwner_4 rfl ?_
  refine g_il3 r2_takesOwner_5 ?_
  refine g_iflt r2_takesOwner_6 (fun h6 => ?_) (fun h6 => ?_)
  · refine g_k r2_takesOwner_26 ?_
    exact g_zret r2_takesOwner_27 rfl (Or.inl rfl) ⟨rfl, ⟨zrt (by first | rfl | (simp [zrOwR, zrOw, zb, zs_ap, upd_ap, zs_zs, *]; done) | (simp_all [zrOwR, zrOw, zb, zs_ap, upd_ap, zs_zs]; done) | (simp only [zrOwR, zrOw, zb, zs_ap, upd_ap, zs_zs, Int32.le_iff_toInt_le, Int32.lt_iff_toInt_lt] at *; (repeat' split) <;> first | rfl | omega)), rfl, rfl, (by first | rfl | (simp [zrOwR, zrOw, zb, zs_ap, upd_ap, zs_zs, *]; done) | (simp_all [zrOwR, zrOw, zb, zs_ap, upd_ap, zs_zs]; done) | (simp only [zrOwR, zrOw, zb, zs_ap, upd_ap, zs_zs, Int32.le_iff_toInt_le, Int32.lt_iff_toInt_lt] at *; (repeat' split) <;> first | rfl | omega))⟩⟩
  · refine g_il3 r2_takesOwner_9 ?_
    refine g_al1 r2_takesOwner_10 ?_
    refine g_gfi r2_takesOwner_11 xx_44 rfl ?_
    refine g_icgeL r2_takesOwner_14 (fun h14 => ?_) (fun h14 => ?_)
    · refine g_k r2_takesOwner_26 ?_
      exact g_zret r2_takesOwner_27 rfl (Or.inl rfl) ⟨rfl, ⟨zrt (by first | rfl | (simp [zrOwR, zrOw, zb, zs_ap, upd_ap, zs_zs, *]; done) | (simp_all [zrOwR, zrOw, zb, zs_ap, upd_ap, zs_zs]; done) | (simp only [zrOwR, zrOw, zb, zs_ap, upd_ap, zs_zs, Int32.le_iff_toInt_le, Int32.lt_iff_toInt_lt] at *; (repeat' split) <;> first | rfl | omega)), rfl, rfl, (by first | rfl | (simp [zrOwR, zrOw, zb, zs_ap, upd_ap, zs_zs, *]; done) | (simp_all [zrOwR, zrOw, zb, zs_ap, upd_ap, zs_zs]; done) | (simp only [zrOwR, zrOw, zb, zs_ap, upd_ap, zs_zs, Int32.le_iff_toInt_le, Int32.lt_iff_toInt_lt] at *; (repeat' split) <;> first | rfl | omega))⟩⟩
    · refine g_al1 r2_takesOwner_17 ?_
      refine g_gfi r2_takesOwner_18 xx_44 rfl ?_
      refine g_eqv (y := nI a) ha ?_
      refine g_k r2_takesOwner_21 ?_
      refine g_eqv (y := nI 10) rfl ?_
      refine g_icltN r2_takesOwner_23 (by omega) (by omega) (fun h23 => ?_) (fun hc => absurd hc (by omega))
      refine g_al1 r2_takesOwner_28 ?_
      refine g_il3 r2_takesOwner_29 ?_
      refine g_eV1 r2_takesOwner_30 ok5_addAct pl2_takesOwner pl5_addAct xx_44 (Nat.le_of_ble_eq_true rfl) (ev2_addAct_44 ha ha10) ?_
      refine g_al0 r2_takesOwner_33 ?_
      refine g_k r2_takesOwner_34 ?_
      refine g_eV1 r2_takesOwner_36 ok2_moveTo pl2_takesOwner pl2_moveTo xx_3 (Nat.le_of_ble_eq_true rfl) (ev2_moveTo) ?_
      exact g_zret r2_takesOwner_39 rfl (Or.inr rfl) ⟨rfl, ⟨zrt (by first | rfl | (simp [zrOwR, zrOw, zb, zs_ap, upd_ap, zs_zs, *]; done) | (simp_all [zrOwR, zrOw, zb, zs_ap, upd_ap, zs_zs]; done) | (simp only [zrOwR, zrOw, zb, zs_ap, upd_ap, zs_zs, Int32.le_iff_toInt_le, Int32.lt_iff_toInt_lt] at *; (repeat' split) <;> first | rfl | omega)), rfl, rfl, (by first | rfl | (simp [zrOwR, zrOw, zb, zs_ap, upd_ap, zs_zs, *]; done) | (simp_all [zrOwR, zrOw, zb, zs_ap, upd_ap, zs_zs]; done) | (simp only [zrOwR, zrOw, zb, zs_ap, upd_ap, zs_zs, Int32.le_iff_toInt_le, Int32.lt_iff_toInt_lt] at *; (repeat' split) <;> first | rfl | omega))⟩⟩
theorem ev2_isComplete_44 {w v0 e1 e2 : Nat} {h : Int64} {I : zMI} {a : Nat} (ha : I 44 10 = nI (a + 1)) (ha10 : a < 10)  : zEr m2_isComplete (zRR w v0 e1 e2) h I [.ref 3, .ref 44] (some (.int (zrCo I 44 a))) (zRR w v0 e1 e2) h I := by
  refine zEp_of [.ref 3, .ref 44, .null] pl2_isComplete (by decide +kernel) (fun _ _ => rfl) (fun _ _ => Nat.le_of_ble_eq_true rfl) ?_
  refine g_al1 r2_isComplete_0 ?_
  refine g_gfi r2_isComplete_1 xx_44 rfl ?_
  refine g_k r2_isComplete_4 ?_
  refine g_isub r2_isComplete_5 ?_
  rw [ha, nI_pred]
  refine g_is2 r2_isComplete_6 rfl ?_
  refine g_il2 r2_isComplete_7 ?_
  refine g_iflt r2_isComplete_8 (fun hc => absurd hc (nI_pos (by omega))) (fun _ => ?_)
  refine g_il2 r2_isComplete_11 ?_
  refine g_k r2_isComplete_12 ?_
  refine g_eqv (y := nI 10) rfl ?_
  refine g_icltN r2_isComplete_14 (by omega) (by omega) (fun h14 => ?_) (fun hc => absurd hc (by omega))
  refine g_al0 r2_isComplete_19 ?_
  refine g_gfi r2_isComplete_20 xx_3 rfl ?_
  refine g_k r2_isComplete_23 ?_
  refine g_icne r2_isComplete_25 (fun h25 => ?_) (fun h25 => ?_)
  · refine g_al0 r2_isComplete_37 ?_
    refine g_gfi r2_isComplete_38 xx_3 rfl ?_
    refine g_k r2_isComplete_41 ?_
    refine g_icne r2_isComplete_43 (fun h43 => ?_) (fun h43 => ?_)
    · refine g_k r2_isComplete_59 ?_
      exact g_zret r2_isComplete_60 rfl (Or.inl rfl) ⟨rfl, ⟨zrt (by first | rfl | (simp [zrCo, zb, zs_ap, upd_ap, zs_zs, *]; done) | (simp_all [zrCo, zb, zs_ap, upd_ap, zs_zs]; done) | (simp only [zrCo, zb, zs_ap, upd_ap, zs_zs, Int32.le_iff_toInt_le, Int32.lt_iff_toInt_lt] at *; (repeat' split) <;> first | rfl | omega)), rfl, rfl, (by first | rfl | (simp [zrCo, zb, zs_ap, upd_ap, zs_zs, *]; done) | (simp_all [zrCo, zb, zs_ap, upd_ap, zs_zs]; done) | (simp only [zrCo, zb, zs_ap, upd_ap, zs_zs, Int32.le_iff_toInt_le, Int32.lt_iff_toInt_lt] at *; (repeat' split) <;> first | rfl | omega))⟩⟩
    · refine g_al1 r2_isComplete_46 ?_
      refine g_gfr r2_isComplete_47 xx_44 rfl (rfl : _ = some 53) ?_
      refine g_il2 r2_isComplete_50 ?_
      refine g_ialdN r2_isComplete_51 xx_53 (by omega) (by decide) ?_
      refine g_ifeq r2_isComplete_52 (fun h52 => ?_) (fun h52 => ?_)
      · refine g_k r2_isComplete_59 ?_
        exact g_zret r2_isComplete_60 rfl (Or.inl rfl) ⟨rfl, ⟨zrt (by first | rfl | (simp [zrCo, zb, zs_ap, upd_ap, zs_zs, *]; done) | (simp_all [zrCo, zb, zs_ap, upd_ap, zs_zs]; done) | (simp only [zrCo, zb, zs_ap, upd_ap, zs_zs, Int32.le_iff_toInt_le, Int32.lt_iff_toInt_lt] at *; (repeat' split) <;> first | rfl | omega)), rfl, rfl, (by first | rfl | (simp [zrCo, zb, zs_ap, upd_ap, zs_zs, *]; done) | (simp_all [zrCo, zb, zs_ap, upd_ap, zs_zs]; done) | (simp only [zrCo, zb, zs_ap, upd_ap, zs_zs, Int32.le_iff_toInt_le, Int32.lt_iff_toInt_lt] at *; (repeat' split) <;> first | rfl | omega))⟩⟩
      · refine g_k r2_isComplete_55 ?_
        refine g_goto r2_isComplete_56 ?_
        exact g_zret r2_isComplete_60 rfl (Or.inr rfl) ⟨rfl, ⟨zrt (by first | rfl | (simp [zrCo, zb, zs_ap, upd_ap, zs_zs, *]; done) | (simp_all [zrCo, zb, zs_ap, upd_ap, zs_zs]; done) | (simp only [zrCo, zb, zs_ap, upd_ap, zs_zs, Int32.le_iff_toInt_le, Int32.lt_iff_toInt_lt] at *; (repeat' split) <;> first | rfl | omega)), rfl, rfl, (by first | rfl | (simp [zrCo, zb, zs_ap, upd_ap, zs_zs, *]; done) | (simp_all [zrCo, zb, zs_ap, upd_ap, zs_zs]; done) | (simp only [zrCo, zb, zs_ap, upd_ap, zs_zs, Int32.le_iff_toInt_le, Int32.lt_iff_toInt_lt] at *; (repeat' split) <;> first | rfl | omega))⟩⟩
  · refine g_al1 r2_isComplete_28 ?_
    refine g_gfr r2_isComplete_29 xx_44 rfl (rfl : _ = some 52) ?_
    refine g_il2 r2_isComplete_32 ?_
    refine g_ialdN r2_isComplete_33 xx_52 (by omega) (by decide) ?_
    refine g_ifne r2_isComplete_34 (fun h34 => ?_) (fun h34 => ?_)
    · refine g_k r2_isComplete_55 ?_
      refine g_goto r2_isComplete_56 ?_
      exact g_zret r2_isComplete_60 rfl (Or.inr rfl) ⟨rfl, ⟨zrt (by first | rfl | (simp [zrCo, zb, zs_ap, upd_ap, zs_zs, *]; done) | (simp_all [zrCo, zb, zs_ap, upd_ap, zs_zs]; done) | (simp only [zrCo, zb, zs_ap, upd_ap, zs_zs, Int32.le_iff_toInt_le, Int32.lt_iff_toInt_lt] at *; (repeat' split) <;> first | rfl | omega)), rfl, rfl, (by first | rfl | (simp [zrCo, zb, zs_ap, upd_ap, zs_zs, *]; done) | (simp_all [zrCo, zb, zs_ap, upd_ap, zs_zs]; done) | (simp only [zrCo, zb, zs_ap, upd_ap, zs_zs, Int32.le_iff_toInt_le, Int32.lt_iff_toInt_lt] at *; (repeat' split) <;> first | rfl | omega))⟩⟩
    · refine g_al0 r2_isComplete_37 ?_
      refine g_gfi r2_isComplete_38 xx_3 rfl ?_
      refine g_k r2_isComplete_41 ?_
      refine g_icne r2_isComplete_43 (fun h43 => ?_) (fun h43 => ?_)
      · refine g_k r2_isComplete_59 ?_
        exact g_zret r2_isComplete_60 rfl (Or.inl rfl) ⟨rfl, ⟨zrt (by first | rfl | (simp [zrCo, zb, zs_ap, upd_ap, zs_zs, *]; done) | (simp_all [zrCo, zb, zs_ap, upd_ap, zs_zs]; done) | (simp only [zrCo, zb, zs_ap, upd_ap, zs_zs, Int32.le_iff_toInt_le, Int32.lt_iff_toInt_lt] at *; (repeat' split) <;> first | rfl | omega)), rfl, rfl, (by first | rfl | (simp [zrCo, zb, zs_ap, upd_ap, zs_zs, *]; done) | (simp_all [zrCo, zb, zs_ap, upd_ap, zs_zs]; done) | (simp only [zrCo, zb, zs_ap, upd_ap, zs_zs, Int32.le_iff_toInt_le, Int32.lt_iff_toInt_lt] at *; (repeat' split) <;> first | rfl | omega))⟩⟩
      · refine g_al1 r2_isComplete_46 ?_
        refine g_gfr r2_isComplete_47 xx_44 rfl (rfl : _ = some 53) ?_
        refine g_il2 r2_isComplete_50 ?_
        refine g_ialdN r2_isComplete_51 xx_53 (by omega) (by decide) ?_
        refine g_ifeq r2_isComplete_52 (fun h52 => ?_) (fun h52 => ?_)
        · refine g_k r2_isComplete_59 ?_
          exact g_zret r2_isComplete_60 rfl (Or.inl rfl) ⟨rfl, ⟨zrt (by first | rfl | (simp [zrCo, zb, zs_ap, upd_ap, zs_zs, *]; done) | (simp_all [zrCo, zb, zs_ap, upd_ap, zs_zs]; done) | (simp only [zrCo, zb, zs_ap, upd_ap, zs_zs, Int32.le_iff_toInt_le, Int32.lt_iff_toInt_lt] at *; (repeat' split) <;> first | rfl | omega)), rfl, rfl, (by first | rfl | (simp [zrCo, zb, zs_ap, upd_ap, zs_zs, *]; done) | (simp_all [zrCo, zb, zs_ap, upd_ap, zs_zs]; done) | (simp only [zrCo, zb, zs_ap, upd_ap, zs_zs, Int32.le_iff_toInt_le, Int32.lt_iff_toInt_lt] at *; (repeat' split) <;> first | rfl | omega))⟩⟩
        · refine g_k r2_isComplete_55 ?_
          refine g_goto r2_isComplete_56 ?_
          exact g_zret r2_isComplete_60 rfl (Or.inr rfl) ⟨rfl, ⟨zrt (by first | rfl | (simp [zrCo, zb, zs_ap, upd_ap, zs_zs, *]; done) | (simp_all [zrCo, zb, zs_ap, upd_ap, zs_zs]; done) | (simp only [zrCo, zb, zs_ap, upd_ap, zs_zs, Int32.le_iff_toInt_le, Int32.lt_iff_toInt_lt] at *; (repeat' split) <;> first | rfl | omega)), rfl, rfl, (by first | rfl | (simp [zrCo, zb, zs_ap, upd_ap, zs_zs, *]; done) | (simp_all [zrCo, zb, zs_ap, upd_ap, zs_zs]; done) | (simp only [zrCo, zb, zs_ap, upd_ap, zs_zs, Int32.le_iff_toInt_le, Int32.lt_iff_toInt_lt] at *; (repeat' split) <;> first | rfl | omega))⟩⟩
theorem ev2_takesInNeeds_44 {w v0 e1 e2 : Nat} {h : Int64} {I : zMI} {a : Nat} (ha10 : a < 10) {c : Int32} : zEr m2_takesInNeeds (zRR w v0 e1 e2) h I [.ref 3, .ref 44, .int (nI a), .int c] (some (.int (zrNeR I 44 a c))) (zRR w v0 e1 e2) h (zrNe I 44 a c) := by
  refine zEp_of [.ref 3, .ref 44, .int (nI a), .int c, .null] pl2_takesInNeeds (by decide +kernel) (fun _ _ => rfl) (fun _ _ => Nat.le_of_ble_eq_true rfl) ?_
  refine g_al0 r2_takesInNeeds_0 ?_
  refine g_gfi r2_takesInNeeds_1 xx_3 rfl ?_
  refine g_k r2_takesInNeeds_4 ?_
  refine g_icne r2_takesInNeeds_6 (fun h6 => ?_) (fun h6 => ?_)
  · refine g_k r2_takesInNeeds_13 ?_
    refine g_is4 r2_takesInNeeds_14 rfl ?_
    refine g_il3 r2_takesInNeeds_16 ?_
    refine g_k r2_takesInNeeds_17 ?_
    refine g_icne r2_takesInNeeds_19 (fun h19 => ?_) (fun h19 => ?_)
    · refine g_il3 r2_takesInNeeds_51 ?_
      refine g_k r2_takesInNeeds_52 ?_
      refine g_icne r2_takesInNeeds_54 (fun h54 => ?_) (fun h54 => ?_)
      · refine g_il4 r2_takesInNeeds_89 ?_
        refine g_ifeq r2_takesInNeeds_91 (fun _ => ?_) (fun hc => absurd rfl hc)
        refine g_al0 r2_takesInNeeds_108 ?_
        refine g_al1 r2_takesInNeeds_109 ?_
        refine g_gfr r2_takesInNeeds_110 xx_44 rfl (rfl : _ = some 51) ?_
        refine g_il2 r2_takesInNeeds_113 ?_
        refine g_al1 r2_takesInNeeds_114 ?_
        refine g_gfr r2_takesInNeeds_115 xx_44 rfl (rfl : _ = some 50) ?_
        refine g_il2 r2_takesInNeeds_118 ?_
        refine g_ialdN r2_takesInNeeds_119 xx_50 (by omega) (by decide) ?_
        refine g_il3 r2_takesInNeeds_120 ?_
        refine g_eV4 r2_takesInNeeds_121 ok2_takesFact pl2_takesInNeeds pl2_takesFact xx_3 (Nat.le_of_ble_eq_true rfl) (ev2_takesFact xx_51 (by decide) ha10) ?_
        exact g_zret r2_takesInNeeds_124 rfl (zb_01 _) ⟨rfl, ⟨zrt (by first | rfl | (simp [zrNeR, zrNe, zb, zs_ap, upd_ap, zs_zs, *]; done) | (simp_all [zrNeR, zrNe, zb, zs_ap, upd_ap, zs_zs]; done) | (simp only [zrNeR, zrNe, zb, zs_ap, upd_ap, zs_zs, Int32.le_iff_toInt_le, Int32.lt_iff_toInt_lt] at *; (repeat' split) <;> first | rfl | omega)), rfl, rfl, (by first | rfl | (simp [zrNeR, zrNe, zb, zs_ap, upd_ap, zs_zs, *]; done) | (simp_all [zrNeR, zrNe, zb, zs_ap, upd_ap, zs_zs]; done) | (simp only [zrNeR, zrNe, zb, zs_ap, upd_ap, zs_zs, Int32.le_iff_toInt_le, Int32.lt_iff_toInt_lt] at *; (repeat' split) <;> first | rfl | omega))⟩⟩
      · refine g_il4 r2_takesInNeeds_57 ?_
        refine g_ifeq r2_takesInNeeds_59 (fun _ => ?_) (fun hc => absurd rfl hc)
        refine g_k r2_takesInNeeds_87 ?_
        exact g_zret r2_takesInNeeds_88 rfl (Or.inl rfl) ⟨rfl, ⟨zrt (by first | rfl | (simp [zrNeR, zrNe, zb, zs_ap, upd_ap, zs_zs, *]; done) | (simp_all [zrNeR, zrNe, zb, zs_ap, upd_ap, zs_zs]; done) | (simp only [zrNeR, zrNe, zb, zs_ap, upd_ap, zs_zs, Int32.le_iff_toInt_le, Int32.lt_iff_toInt_lt] at *; (repeat' split) <;> first | rfl | omega)), rfl, rfl, (by first | rfl | (simp [zrNeR, zrNe, zb, zs_ap, upd_ap, zs_zs, *]; done) | (simp_all [zrNeR, zrNe, zb, zs_ap, upd_ap, zs_zs]; done) | (simp only [zrNeR, zrNe, zb, zs_ap, upd_ap, zs_zs, Int32.le_iff_toInt_le, Int32.lt_iff_toInt_lt] at *; (repeat' split) <;> first | rfl | omega))⟩⟩
    · refine g_il4 r2_takesInNeeds_22 ?_
      refine g_ifne r2_takesInNeeds_24 (fun hc => absurd rfl hc) (fun _ => ?_)
      refine g_al1 r2_takesInNeeds_27 ?_
      refine g_gfr r2_takesInNeeds_28 xx_44 rfl (rfl : _ = some 51) ?_
      refine g_il2 r2_takesInNeeds_31 ?_
      refine g_ialdN r2_takesInNeeds_32 xx_51 (by omega) (by decide) ?_
      refine g_ifeq r2_takesInNeeds_33 (fun h33 => ?_) (fun h33 => ?_)
      · refine g_k r2_takesInNeeds_49 ?_
        exact g_zret r2_takesInNeeds_50 rfl (Or.inl rfl) ⟨rfl, ⟨zrt (by first | rfl | (simp [zrNeR, zrNe, zb, zs_ap, upd_ap, zs_zs, *]; done) | (simp_all [zrNeR, zrNe, zb, zs_ap, upd_ap, zs_zs]; done) | (simp only [zrNeR, zrNe, zb, zs_ap, upd_ap, zs_zs, Int32.le_iff_toInt_le, Int32.lt_iff_toInt_lt] at *; (repeat' split) <;> first | rfl | omega)), rfl, rfl, (by first | rfl | (simp [zrNeR, zrNe, zb, zs_ap, upd_ap, zs_zs, *]; done) | (simp_all [zrNeR, zrNe, zb, zs_ap, upd_ap, zs_zs]; done) | (simp only [zrNeR, zrNe, zb, zs_ap, upd_ap, zs_zs, Int32.le_iff_toInt_le, Int32.lt_iff_toInt_lt] at *; (repeat' split) <;> first | rfl | omega))⟩⟩
      · refine g_al0 r2_takesInNeeds_36 ?_
        refine g_k r2_takesInNeeds_37 ?_
        refine g_eV1 r2_takesInNeeds_39 ok2_moveTo pl2_takesInNeeds pl2_moveTo xx_3 (Nat.le_of_ble_eq_true rfl) (ev2_moveTo) ?_
        refine g_ifeq r2_takesInNeeds_42 (fun hc => absurd hc (by decide)) (fun _ => ?_)
        refine g_k r2_takesInNeeds_45 ?_
        refine g_goto r2_takesInNeeds_46 ?_
        exact g_zret r2_takesInNeeds_50 rfl (Or.inr rfl) ⟨rfl, ⟨zrt (by first | rfl | (simp [zrNeR, zrNe, zb, zs_ap, upd_ap, zs_zs, *]; done) | (simp_all [zrNeR, zrNe, zb, zs_ap, upd_ap, zs_zs]; done) | (simp only [zrNeR, zrNe, zb, zs_ap, upd_ap, zs_zs, Int32.le_iff_toInt_le, Int32.lt_iff_toInt_lt] at *; (repeat' split) <;> first | rfl | omega)), rfl, rfl, (by first | rfl | (simp [zrNeR, zrNe, zb, zs_ap, upd_ap, zs_zs, *]; done) | (simp_all [zrNeR, zrNe, zb, zs_ap, upd_ap, zs_zs]; done) | (simp only [zrNeR, zrNe, zb, zs_ap, upd_ap, zs_zs, Int32.le_iff_toInt_le, Int32.lt_iff_toInt_lt] at *; (repeat' split) <;> first | rfl | omega))⟩⟩
  · refine g_k r2_takesInNeeds_9 ?_
    refine g_goto r2_takesInNeeds_10 ?_
    refine g_is4 r2_takesInNeeds_14 rfl ?_
    refine g_il3 r2_takesInNeeds_16 ?_
    refine g_k r2_takesInNeeds_17 ?_
    refine g_icne r2_takesInNeeds_19 (fun h19 => ?_) (fun h19 => ?_)
    · refine g_il3 r2_takesInNeeds_51 ?_
      refine g_k r2_takesInNeeds_52 ?_
      refine g_icne r2_takesInNeeds_54 (fun h54 => ?_) (fun h54 => ?_)
      · refine g_il4 r2_takesInNeeds_89 ?_
        refine g_ifeq r2_takesInNeeds_91 (fun hc => absurd hc (by decide)) (fun _ => ?_)
        refine g_al0 r2_takesInNeeds_94 ?_
        refine g_al1 r2_takesInNeeds_95 ?_
        refine g_gfr r2_takesInNeeds_96 xx_44 rfl (rfl : _ = some 50) ?_
        refine g_il2 r2_takesInNeeds_99 ?_
        refine g_k r2_takesInNeeds_100 ?_
        refine g_il3 r2_takesInNeeds_101 ?_
        refine g_eV4 r2_takesInNeeds_102 ok2_takesFact pl2_takesInNeeds pl2_takesFact xx_3 (Nat.le_of_ble_eq_true rfl) (ev2_takesFact xx_50 (by decide) ha10) ?_
        refine g_goto r2_takesInNeeds_105 ?_
        exact g_zret r2_takesInNeeds_124 rfl (zb_01 _) ⟨rfl, ⟨zrt (by first | rfl | (simp [zrNeR, zrNe, zb, zs_ap, upd_ap, zs_zs, *]; done) | (simp_all [zrNeR, zrNe, zb, zs_ap, upd_ap, zs_zs]; done) | (simp only [zrNeR, zrNe, zb, zs_ap, upd_ap, zs_zs, Int32.le_iff_toInt_le, Int32.lt_iff_toInt_lt] at *; (repeat' split) <;> first | rfl | omega)), rfl, rfl, (by first | rfl | (simp [zrNeR, zrNe, zb, zs_ap, upd_ap, zs_zs, *]; done) | (simp_all [zrNeR, zrNe, zb, zs_ap, upd_ap, zs_zs]; done) | (simp only [zrNeR, zrNe, zb, zs_ap, upd_ap, zs_zs, Int32.le_iff_toInt_le, Int32.lt_iff_toInt_lt] at *; (repeat' split) <;> first | rfl | omega))⟩⟩
      · refine g_il4 r2_takesInNeeds_57 ?_
        refine g_ifeq r2_takesInNeeds_59 (fun hc => absurd hc (by decide)) (fun _ => ?_)
        refine g_al1 r2_takesInNeeds_62 ?_
        refine g_gfr r2_takesInNeeds_63 xx_44 rfl (rfl : _ = some 50) ?_
        refine g_il2 r2_takesInNeeds_66 ?_
        refine g_ialdN r2_takesInNeeds_67 xx_50 (by omega) (by decide) ?_
        refine g_k r2_takesInNeeds_68 ?_
        refine g_iceq r2_takesInNeeds_71 (fun h71 => ?_) (fun h71 => ?_)
        · refine g_k r2_takesInNeeds_87 ?_
          exact g_zret r2_takesInNeeds_88 rfl (Or.inl rfl) ⟨rfl, ⟨zrt (by first | rfl | (simp [zrNeR, zrNe, zb, zs_ap, upd_ap, zs_zs, *]; done) | (simp_all [zrNeR, zrNe, zb, zs_ap, upd_ap, zs_zs]; done) | (simp only [zrNeR, zrNe, zb, zs_ap, upd_ap, zs_zs, Int32.le_iff_toInt_le, Int32.lt_iff_toInt_lt] at *; (repeat' split) <;> first | rfl | omega)), rfl, rfl, (by first | rfl | (simp [zrNeR, zrNe, zb, zs_ap, upd_ap, zs_zs, *]; done) | (simp_all [zrNeR, zrNe, zb, zs_ap, upd_ap, zs_zs]; done) | (simp only [zrNeR, zrNe, zb, zs_ap, upd_ap, zs_zs, Int32.le_iff_toInt_le, Int32.lt_iff_toInt_lt] at *; (repeat' split) <;> first | rfl | omega))⟩⟩
        · refine g_al0 r2_takesInNeeds_74 ?_
          refine g_k r2_takesInNeeds_75 ?_
          refine g_eV1 r2_takesInNeeds_77 ok2_moveTo pl2_takesInNeeds pl2_moveTo xx_3 (Nat.le_of_ble_eq_true rfl) (ev2_moveTo) ?_
          refine g_ifeq r2_takesInNeeds_80 (fun hc => absurd hc (by decide)) (fun _ => ?_)
          refine g_k r2_takesInNeeds_83 ?_
          refine g_goto r2_takesInNeeds_84 ?_
          exact g_zret r2_takesInNeeds_88 rfl (Or.inr rfl) ⟨rfl, ⟨zrt (by first | rfl | (simp [zrNeR, zrNe, zb, zs_ap, upd_ap, zs_zs, *]; done) | (simp_all [zrNeR, zrNe, zb, zs_ap, upd_ap, zs_zs]; done) | (simp only [zrNeR, zrNe, zb, zs_ap, upd_ap, zs_zs, Int32.le_iff_toInt_le, Int32.lt_iff_toInt_lt] at *; (repeat' split) <;> first | rfl | omega)), rfl, rfl, (by first | rfl | (simp [zrNeR, zrNe, zb, zs_ap, upd_ap, zs_zs, *]; done) | (simp_all [zrNeR, zrNe, zb, zs_ap, upd_ap, zs_zs]; done) | (simp only [zrNeR, zrNe, zb, zs_ap, upd_ap, zs_zs, Int32.le_iff_toInt_le, Int32.lt_iff_toInt_lt] at *; (repeat' split) <;> first | rfl | omega))⟩⟩
    · refine g_il4 r2_takesInNeeds_22 ?_
      refine g_ifne r2_takesInNeeds_24 (fun _ => ?_) (fun hc => absurd hc (by decide))
      refine g_al0 r2_takesInNeeds_36 ?_
      refine g_k r2_takesInNeeds_37 ?_
      refine g_eV1 r2_takesInNeeds_39 ok2_moveTo pl2_takesInNeeds pl2_moveTo xx_3 (Nat.le_of_ble_eq_true rfl) (ev2_moveTo) ?_
      refine g_ifeq r2_takesInNeeds_42 (fun hc => absurd hc (by decide)) (fun _ => ?_)
      refine g_k r2_takesInNeeds_45 ?_
      refine g_goto r2_takesInNeeds_46 ?_
      exact g_zret r2_takesInNeeds_50 rfl (Or.inr rfl) ⟨rfl, ⟨zrt (by first | rfl | (simp [zrNeR, zrNe, zb, zs_ap, upd_ap, zs_zs, *]; done) | (simp_all [zrNeR, zrNe, zb, zs_ap, upd_ap, zs_zs]; done) | (simp only [zrNeR, zrNe, zb, zs_ap, upd_ap, zs_zs, Int32.le_iff_toInt_le, Int32.lt_iff_toInt_lt] at *; (repeat' split) <;> first | rfl | omega)), rfl, rfl, (by first | rfl | (simp [zrNeR, zrNe, zb, zs_ap, upd_ap, zs_zs, *]; done) | (simp_all [zrNeR, zrNe, zb, zs_ap, upd_ap, zs_zs]; done) | (simp only [zrNeR, zrNe, zb, zs_ap, upd_ap, zs_zs, Int32.le_iff_toInt_le, Int32.lt_iff_toInt_lt] at *; (repeat' split) <;> first | rfl | omega))⟩⟩
theorem ev2_takesInMakes_44 {w v0 e1 e2 : Nat} {h : Int64} {I : zMI} {a : Nat} (ha : I 44 10 = nI (a + 1)) (ha10 : a < 10) {c : Int32} : zEr m2_takesInMakes (zRR w v0 e1 e2) h I [.ref 3, .ref 44, .int (nI a), .int c] (some (.int (zrMaR I 44 a c))) (zRR w v0 e1 e2) h (zrMa I 44 a c) := by
  refine zEp_of [.ref 3, .ref 44, .int (nI a), .int c, .null] pl2_takesInMakes (by decide +kernel) (fun _ _ => rfl) (fun _ _ => Nat.le_of_ble_eq_true rfl) ?_
  refine g_al0 r2_takesInMakes_0 ?_
  refine g_gfi r2_takesInMakes_1 xx_3 rfl ?_
  refine g_k r2_takesInMakes_4 ?_
  refine g_icne r2_takesInMakes_6 (fun h6 => ?_) (fun h6 => ?_)
  · refine g_k r2_takesInMakes_13 ?_
    refine g_is4 r2_takesInMakes_14 rfl ?_
    refine g_il3 r2_takesInMakes_16 ?_
    refine g_k r2_takesInMakes_17 ?_
    refine g_icne r2_takesInMakes_19 (fun h19 => ?_) (fun h19 => ?_)
    · refine g_il3 r2_takesInMakes_53 ?_
      refine g_k r2_takesInMakes_54 ?_
      refine g_icne r2_takesInMakes_56 (fun h56 => ?_) (fun h56 => ?_)
      · refine g_il4 r2_takesInMakes_91 ?_
        refine g_ifeq r2_takesInMakes_93 (fun _ => ?_) (fun hc => absurd rfl hc)
        refine g_al0 r2_takesInMakes_110 ?_
        refine g_al1 r2_takesInMakes_111 ?_
        refine g_gfr r2_takesInMakes_112 xx_44 rfl (rfl : _ = some 53) ?_
        refine g_il2 r2_takesInMakes_115 ?_
        refine g_al1 r2_takesInMakes_116 ?_
        refine g_gfr r2_takesInMakes_117 xx_44 rfl (rfl : _ = some 52) ?_
        refine g_il2 r2_takesInMakes_120 ?_
        refine g_ialdN r2_takesInMakes_121 xx_52 (by omega) (by decide) ?_
        refine g_il3 r2_takesInMakes_122 ?_
        refine g_eV4 r2_takesInMakes_123 ok2_takesFact pl2_takesInMakes pl2_takesFact xx_3 (Nat.le_of_ble_eq_true rfl) (ev2_takesFact xx_53 (by decide) ha10) ?_
        exact g_zret r2_takesInMakes_126 rfl (zb_01 _) ⟨rfl, ⟨zrt (by first | rfl | (simp [zrMaR, zrMa, zrCo, zb, zs_ap, upd_ap, zs_zs, *]; done) | (simp_all [zrMaR, zrMa, zrCo, zb, zs_ap, upd_ap, zs_zs]; done) | (simp only [zrMaR, zrMa, zrCo, zb, zs_ap, upd_ap, zs_zs, Int32.le_iff_toInt_le, Int32.lt_iff_toInt_lt] at *; (repeat' split) <;> first | rfl | omega)), rfl, rfl, (by first | rfl | (simp [zrMaR, zrMa, zrCo, zb, zs_ap, upd_ap, zs_zs, *]; done) | (simp_all [zrMaR, zrMa, zrCo, zb, zs_ap, upd_ap, zs_zs]; done) | (simp only [zrMaR, zrMa, zrCo, zb, zs_ap, upd_ap, zs_zs, Int32.le_iff_toInt_le, Int32.lt_iff_toInt_lt] at *; (repeat' split) <;> first | rfl | omega))⟩⟩
      · refine g_il4 r2_takesInMakes_59 ?_
        refine g_ifeq r2_takesInMakes_61 (fun _ => ?_) (fun hc => absurd rfl hc)
        refine g_k r2_takesInMakes_89 ?_
        exact g_zret r2_takesInMakes_90 rfl (Or.inl rfl) ⟨rfl, ⟨zrt (by first | rfl | (simp [zrMaR, zrMa, zrCo, zb, zs_ap, upd_ap, zs_zs, *]; done) | (simp_all [zrMaR, zrMa, zrCo, zb, zs_ap, upd_ap, zs_zs]; done) | (simp only [zrMaR, zrMa, zrCo, zb, zs_ap, upd_ap, zs_zs, Int32.le_iff_toInt_le, Int32.lt_iff_toInt_lt] at *; (repeat' split) <;> first | rfl | omega)), rfl, rfl, (by first | rfl | (simp [zrMaR, zrMa, zrCo, zb, zs_ap, upd_ap, zs_zs, *]; done) | (simp_all [zrMaR, zrMa, zrCo, zb, zs_ap, upd_ap, zs_zs]; done) | (simp only [zrMaR, zrMa, zrCo, zb, zs_ap, upd_ap, zs_zs, Int32.le_iff_toInt_le, Int32.lt_iff_toInt_lt] at *; (repeat' split) <;> first | rfl | omega))⟩⟩
    · refine g_al0 r2_takesInMakes_22 ?_
      refine g_al1 r2_takesInMakes_23 ?_
      refine g_eV1 r2_takesInMakes_24 ok2_isComplete pl2_takesInMakes pl2_isComplete xx_3 (Nat.le_of_ble_eq_true rfl) (ev2_isComplete_44 ha ha10) ?_
      refine g_ifeqB r2_takesInMakes_27 (fun h27 => ?_) (fun h27 => ?_)
      · refine g_k r2_takesInMakes_51 ?_
        exact g_zret r2_takesInMakes_52 rfl (Or.inl rfl) ⟨rfl, ⟨zrt (by first | rfl | (simp [zrMaR, zrMa, zrCo, zb, zs_ap, upd_ap, zs_zs, *]; done) | (simp_all [zrMaR, zrMa, zrCo, zb, zs_ap, upd_ap, zs_zs]; done) | (simp only [zrMaR, zrMa, zrCo, zb, zs_ap, upd_ap, zs_zs, Int32.le_iff_toInt_le, Int32.lt_iff_toInt_lt] at *; (repeat' split) <;> first | rfl | omega)), rfl, rfl, (by first | rfl | (simp [zrMaR, zrMa, zrCo, zb, zs_ap, upd_ap, zs_zs, *]; done) | (simp_all [zrMaR, zrMa, zrCo, zb, zs_ap, upd_ap, zs_zs]; done) | (simp only [zrMaR, zrMa, zrCo, zb, zs_ap, upd_ap, zs_zs, Int32.le_iff_toInt_le, Int32.lt_iff_toInt_lt] at *; (repeat' split) <;> first | rfl | omega))⟩⟩
      · refine g_al1 r2_takesInMakes_30 ?_
        refine g_gfi r2_takesInMakes_31 xx_44 rfl ?_
        refine g_k r2_takesInMakes_34 ?_
        refine g_icgeL r2_takesInMakes_36 (fun h36 => ?_) (fun h36 => ?_)
        · refine g_k r2_takesInMakes_51 ?_
          exact g_zret r2_takesInMakes_52 rfl (Or.inl rfl) ⟨rfl, ⟨zrt (by first | rfl | (simp [zrMaR, zrMa, zrCo, zb, zs_ap, upd_ap, zs_zs, *]; done) | (simp_all [zrMaR, zrMa, zrCo, zb, zs_ap, upd_ap, zs_zs]; done) | (simp only [zrMaR, zrMa, zrCo, zb, zs_ap, upd_ap, zs_zs, Int32.le_iff_toInt_le, Int32.lt_iff_toInt_lt] at *; (repeat' split) <;> first | rfl | omega)), rfl, rfl, (by first | rfl | (simp [zrMaR, zrMa, zrCo, zb, zs_ap, upd_ap, zs_zs, *]; done) | (simp_all [zrMaR, zrMa, zrCo, zb, zs_ap, upd_ap, zs_zs]; done) | (simp only [zrMaR, zrMa, zrCo, zb, zs_ap, upd_ap, zs_zs, Int32.le_iff_toInt_le, Int32.lt_iff_toInt_lt] at *; (repeat' split) <;> first | rfl | omega))⟩⟩
        · refine g_al0 r2_takesInMakes_39 ?_
          refine g_k r2_takesInMakes_40 ?_
          refine g_eV1 r2_takesInMakes_41 ok2_moveTo pl2_takesInMakes pl2_moveTo xx_3 (Nat.le_of_ble_eq_true rfl) (ev2_moveTo) ?_
          refine g_ifeq r2_takesInMakes_44 (fun hc => absurd hc (by decide)) (fun _ => ?_)
          refine g_k r2_takesInMakes_47 ?_
          refine g_goto r2_takesInMakes_48 ?_
          exact g_zret r2_takesInMakes_52 rfl (Or.inr rfl) ⟨rfl, ⟨zrt (by first | rfl | (simp [zrMaR, zrMa, zrCo, zb, zs_ap, upd_ap, zs_zs, *]; done) | (simp_all [zrMaR, zrMa, zrCo, zb, zs_ap, upd_ap, zs_zs]; done) | (simp only [zrMaR, zrMa, zrCo, zb, zs_ap, upd_ap, zs_zs, Int32.le_iff_toInt_le, Int32.lt_iff_toInt_lt] at *; (repeat' split) <;> first | rfl | omega)), rfl, rfl, (by first | rfl | (simp [zrMaR, zrMa, zrCo, zb, zs_ap, upd_ap, zs_zs, *]; done) | (simp_all [zrMaR, zrMa, zrCo, zb, zs_ap, upd_ap, zs_zs]; done) | (simp only [zrMaR, zrMa, zrCo, zb, zs_ap, upd_ap, zs_zs, Int32.le_iff_toInt_le, Int32.lt_iff_toInt_lt] at *; (repeat' split) <;> first | rfl | omega))⟩⟩
  · refine g_k r2_takesInMakes_9 ?_
    refine g_goto r2_takesInMakes_10 ?_
    refine g_is4 r2_takesInMakes_14 rfl ?_
    refine g_il3 r2_takesInMakes_16 ?_
    refine g_k r2_takesInMakes_17 ?_
    refine g_icne r2_takesInMakes_19 (fun h19 => ?_) (fun h19 => ?_)
    · refine g_il3 r2_takesInMakes_53 ?_
      refine g_k r2_takesInMakes_54 ?_
      refine g_icne r2_takesInMakes_56 (fun h56 => ?_) (fun h56 => ?_)
      · refine g_il4 r2_takesInMakes_91 ?_
        refine g_ifeq r2_takesInMakes_93 (fun hc => absurd hc (by decide)) (fun _ => ?_)
        refine g_al0 r2_takesInMakes_96 ?_
        refine g_al1 r2_takesInMakes_97 ?_
        refine g_gfr r2_takesInMakes_98 xx_44 rfl (rfl : _ = some 52) ?_
        refine g_il2 r2_takesInMakes_101 ?_
        refine g_k r2_takesInMakes_102 ?_
        refine g_il3 r2_takesInMakes_103 ?_
        refine g_eV4 r2_takesInMakes_104 ok2_takesFact pl2_takesInMakes pl2_takesFact xx_3 (Nat.le_of_ble_eq_true rfl) (ev2_takesFact xx_52 (by decide) ha10) ?_
        refine g_goto r2_takesInMakes_107 ?_
        exact g_zret r2_takesInMakes_126 rfl (zb_01 _) ⟨rfl, ⟨zrt (by first | rfl | (simp [zrMaR, zrMa, zrCo, zb, zs_ap, upd_ap, zs_zs, *]; done) | (simp_all [zrMaR, zrMa, zrCo, zb, zs_ap, upd_ap, zs_zs]; done) | (simp only [zrMaR, zrMa, zrCo, zb, zs_ap, upd_ap, zs_zs, Int32.le_iff_toInt_le, Int32.lt_iff_toInt_lt] at *; (repeat' split) <;> first | rfl | omega)), rfl, rfl, (by first | rfl | (simp [zrMaR, zrMa, zrCo, zb, zs_ap, upd_ap, zs_zs, *]; done) | (simp_all [zrMaR, zrMa, zrCo, zb, zs_ap, upd_ap, zs_zs]; done) | (simp only [zrMaR, zrMa, zrCo, zb, zs_ap, upd_ap, zs_zs, Int32.le_iff_toInt_le, Int32.lt_iff_toInt_lt] at *; (repeat' split) <;> first | rfl | omega))⟩⟩
      · refine g_il4 r2_takesInMakes_59 ?_
        refine g_ifeq r2_takesInMakes_61 (fun hc => absurd hc (by decide)) (fun _ => ?_)
        refine g_al1 r2_takesInMakes_64 ?_
        refine g_gfr r2_takesInMakes_65 xx_44 rfl (rfl : _ = some 52) ?_
        refine g_il2 r2_takesInMakes_68 ?_
        refine g_ialdN r2_takesInMakes_69 xx_52 (by omega) (by decide) ?_
        refine g_k r2_takesInMakes_70 ?_
        refine g_iceq r2_takesInMakes_73 (fun h73 => ?_) (fun h73 => ?_)
        · refine g_k r2_takesInMakes_89 ?_
          exact g_zret r2_takesInMakes_90 rfl (Or.inl rfl) ⟨rfl, ⟨zrt (by first | rfl | (simp [zrMaR, zrMa, zrCo, zb, zs_ap, upd_ap, zs_zs, *]; done) | (simp_all [zrMaR, zrMa, zrCo, zb, zs_ap, upd_ap, zs_zs]; done) | (simp only [zrMaR, zrMa, zrCo, zb, zs_ap, upd_ap, zs_zs, Int32.le_iff_toInt_le, Int32.lt_iff_toInt_lt] at *; (repeat' split) <;> first | rfl | omega)), rfl, rfl, (by first | rfl | (simp [zrMaR, zrMa, zrCo, zb, zs_ap, upd_ap, zs_zs, *]; done) | (simp_all [zrMaR, zrMa, zrCo, zb, zs_ap, upd_ap, zs_zs]; done) | (simp only [zrMaR, zrMa, zrCo, zb, zs_ap, upd_ap, zs_zs, Int32.le_iff_toInt_le, Int32.lt_iff_toInt_lt] at *; (repeat' split) <;> first | rfl | omega))⟩⟩
        · refine g_al0 r2_takesInMakes_76 ?_
          refine g_k r2_takesInMakes_77 ?_
          refine g_eV1 r2_takesInMakes_79 ok2_moveTo pl2_takesInMakes pl2_moveTo xx_3 (Nat.le_of_ble_eq_true rfl) (ev2_moveTo) ?_
          refine g_ifeq r2_takesInMakes_82 (fun hc => absurd hc (by decide)) (fun _ => ?_)
          refine g_k r2_takesInMakes_85 ?_
          refine g_goto r2_takesInMakes_86 ?_
          exact g_zret r2_takesInMakes_90 rfl (Or.inr rfl) ⟨rfl, ⟨zrt (by first | rfl | (simp [zrMaR, zrMa, zrCo, zb, zs_ap, upd_ap, zs_zs, *]; done) | (simp_all [zrMaR, zrMa, zrCo, zb, zs_ap, upd_ap, zs_zs]; done) | (simp only [zrMaR, zrMa, zrCo, zb, zs_ap, upd_ap, zs_zs, Int32.le_iff_toInt_le, Int32.lt_iff_toInt_lt] at *; (repeat' split) <;> first | rfl | omega)), rfl, rfl, (by first | rfl | (simp [zrMaR, zrMa, zrCo, zb, zs_ap, upd_ap, zs_zs, *]; done) | (simp_all [zrMaR, zrMa, zrCo, zb, zs_ap, upd_ap, zs_zs]; done) | (simp only [zrMaR, zrMa, zrCo, zb, zs_ap, upd_ap, zs_zs, Int32.le_iff_toInt_le, Int32.lt_iff_toInt_lt] at *; (repeat' split) <;> first | rfl | omega))⟩⟩
    · refine g_al0 r2_takesInMakes_22 ?_
      refine g_al1 r2_takesInMakes_23 ?_
      refine g_eV1 r2_takesInMakes_24 ok2_isComplete pl2_takesInMakes pl2_isComplete xx_3 (Nat.le_of_ble_eq_true rfl) (ev2_isComplete_44 ha ha10) ?_
      refine g_ifeqB r2_takesInMakes_27 (fun h27 => ?_) (fun h27 => ?_)
      · refine g_k r2_takesInMakes_51 ?_
        exact g_zret r2_takesInMakes_52 rfl (Or.inl rfl) ⟨rfl, ⟨zrt (by first | rfl | (simp [zrMaR, zrMa, zrCo, zb, zs_ap, upd_ap, zs_zs, *]; done) | (simp_all [zrMaR, zrMa, zrCo, zb, zs_ap, upd_ap, zs_zs]; done) | (simp only [zrMaR, zrMa, zrCo, zb, zs_ap, upd_ap, zs_zs, Int32.le_iff_toInt_le, Int32.lt_iff_toInt_lt] at *; (repeat' split) <;> first | rfl | omega)), rfl, rfl, (by first | rfl | (simp [zrMaR, zrMa, zrCo, zb, zs_ap, upd_ap, zs_zs, *]; done) | (simp_all [zrMaR, zrMa, zrCo, zb, zs_ap, upd_ap, zs_zs]; done) | (simp only [zrMaR, zrMa, zrCo, zb, zs_ap, upd_ap, zs_zs, Int32.le_iff_toInt_le, Int32.lt_iff_toInt_lt] at *; (repeat' split) <;> first | rfl | omega))⟩⟩
      · refine g_al1 r2_takesInMakes_30 ?_
        refine g_gfi r2_takesInMakes_31 xx_44 rfl ?_
        refine g_k r2_takesInMakes_34 ?_
        refine g_icgeL r2_takesInMakes_36 (fun h36 => ?_) (fun h36 => ?_)
        · refine g_k r2_takesInMakes_51 ?_
          exact g_zret r2_takesInMakes_52 rfl (Or.inl rfl) ⟨rfl, ⟨zrt (by first | rfl | (simp [zrMaR, zrMa, zrCo, zb, zs_ap, upd_ap, zs_zs, *]; done) | (simp_all [zrMaR, zrMa, zrCo, zb, zs_ap, upd_ap, zs_zs]; done) | (simp only [zrMaR, zrMa, zrCo, zb, zs_ap, upd_ap, zs_zs, Int32.le_iff_toInt_le, Int32.lt_iff_toInt_lt] at *; (repeat' split) <;> first | rfl | omega)), rfl, rfl, (by first | rfl | (simp [zrMaR, zrMa, zrCo, zb, zs_ap, upd_ap, zs_zs, *]; done) | (simp_all [zrMaR, zrMa, zrCo, zb, zs_ap, upd_ap, zs_zs]; done) | (simp only [zrMaR, zrMa, zrCo, zb, zs_ap, upd_ap, zs_zs, Int32.le_iff_toInt_le, Int32.lt_iff_toInt_lt] at *; (repeat' split) <;> first | rfl | omega))⟩⟩
        · refine g_al0 r2_takesInMakes_39 ?_
          refine g_k r2_takesInMakes_40 ?_
          refine g_eV1 r2_takesInMakes_41 ok2_moveTo pl2_takesInMakes pl2_moveTo xx_3 (Nat.le_of_ble_eq_true rfl) (ev2_moveTo) ?_
          refine g_ifeq r2_takesInMakes_44 (fun hc => absurd hc (by decide)) (fun _ => ?_)
          refine g_k r2_takesInMakes_47 ?_
          refine g_goto r2_takesInMakes_48 ?_
          exact g_zret r2_takesInMakes_52 rfl (Or.inr rfl) ⟨rfl, ⟨zrt (by first | rfl | (simp [zrMaR, zrMa, zrCo, zb, zs_ap, upd_ap, zs_zs, *]; done) | (simp_all [zrMaR, zrMa, zrCo, zb, zs_ap, upd_ap, zs_zs]; done) | (simp only [zrMaR, zrMa, zrCo, zb, zs_ap, upd_ap, zs_zs, Int32.le_iff_toInt_le, Int32.lt_iff_toInt_lt] at *; (repeat' split) <;> first | rfl | omega)), rfl, rfl, (by first | rfl | (simp [zrMaR, zrMa, zrCo, zb, zs_ap, upd_ap, zs_zs, *]; done) | (simp_all [zrMaR, zrMa, zrCo, zb, zs_ap, upd_ap, zs_zs]; done) | (simp only [zrMaR, zrMa, zrCo, zb, zs_ap, upd_ap, zs_zs, Int32.le_iff_toInt_le, Int32.lt_iff_toInt_lt] at *; (repeat' split) <;> first | rfl | omega))⟩⟩
