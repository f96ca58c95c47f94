theorem zX_tl {k : Nat} (hk : k ≤ 84) : (zX.take k).length = k := by rw [List.length_take, zX_len]; omega
theorem zX_tp {k : Nat} {sh : zSh} (h : zX[k]? = some sh) : zX.take k ++ [sh] = zX.take (k + 1) := by rw [List.take_add_one, h]; rfl
section GI
variable {M : zM} {pc nx : Nat} {lv rest : List Value} {R : zMR} {h : Int64} {I : zMI} {P : zPost}
theorem g_ni {k n : Nat} (hd : dNA M pc .int nx) (hk : k ≤ 84) (hsh : zX[k]? = some (0, n)) (hn : n ≤ 1000) (hx : z_x0 M ≤ k ∧ z_s0 M ≤ zsl (zX.take k)) (hc : k - z_x0 M + 1 ≤ z_mc M ∧ zsl (zX.take k) - z_s0 M + n ≤ z_ms M) (hI : ∀ j, I k j = 0) (kk : zGo M nx lv (.ref k :: rest) (zX.take (k + 1)) R h I P) : zGo M pc lv (.int (nI n) :: rest) (zX.take k) R h I P := by
  refine g_newi hd (by rw [zX_tl hk]; exact hx) hn (by rw [zX_tl hk]; exact hc) (by rw [zX_tl hk]; exact hI) ?_
  rw [zX_tl hk, zX_tp hsh]; exact kk
theorem g_nz {k n : Nat} (hd : dNA M pc .boolean nx) (hk : k ≤ 84) (hsh : zX[k]? = some (1, n)) (hn : n ≤ 1000) (hx : z_x0 M ≤ k ∧ z_s0 M ≤ zsl (zX.take k)) (hc : k - z_x0 M + 1 ≤ z_mc M ∧ zsl (zX.take k) - z_s0 M + n ≤ z_ms M) (hI : ∀ j, I k j = 0) (kk : zGo M nx lv (.ref k :: rest) (zX.take (k + 1)) R h I P) : zGo M pc lv (.int (nI n) :: rest) (zX.take k) R h I P := by
  refine g_newz hd (by rw [zX_tl hk]; exact hx) hn (by rw [zX_tl hk]; exact hc) (by rw [zX_tl hk]; exact hI) ?_
  rw [zX_tl hk, zX_tp hsh]; exact kk
theorem g_nw {k c : Nat} (hd : dNW M pc c nx) (hk : k ≤ 84) (hsh : zX[k]? = some (c + 2, zF c)) (hx : z_x0 M ≤ k ∧ z_s0 M ≤ zsl (zX.take k)) (hc : k - z_x0 M + 1 ≤ z_mc M ∧ zsl (zX.take k) - z_s0 M + zF c ≤ z_ms M) (hI : ∀ j, I k j = 0) (hR : ∀ j, R k j = none) (hh : h = 0) (kk : zGo M nx lv (.ref k :: rest) (zX.take (k + 1)) R h I P) : zGo M pc lv rest (zX.take k) R h I P := by
  refine g_new hd (by rw [zX_tl hk]; exact hx) (by rw [zX_tl hk]; exact hc) (by rw [zX_tl hk]; exact hI) (by rw [zX_tl hk]; exact hR) hh ?_
  rw [zX_tl hk, zX_tp hsh]; exact kk
/-- a constructor's call -/
theorem g_cI {M' : zM} {k u : Nat} {P' : zPost} (hd : dCI M pc M' nx) (hok : zOkI M' 0) (hk : k ≤ 84) (hx : z_x0 M ≤ k ∧ z_s0 M ≤ zsl (zX.take k)) (hc : k - z_x0 M + z_mc M' ≤ z_mc M ∧ zsl (zX.take k) - z_s0 M + z_ms M' ≤ z_ms M) (hr : (rest.map fun v => v.category).sum ≤ 8) (hE : zEv M' (zX.take k) R h I [.ref u] P')
    (kk : ∀ v X' R' h' I', P' v X' R' h' I' → zGo M nx lv (v.toList ++ rest) X' R' h' I' P) : zGo M pc lv (.ref u :: rest) (zX.take k) R h I P :=
  g_callI (av := []) hd hok rfl (by rw [zX_tl hk]; exact ⟨hx, hc⟩) hr rfl hE kk
end GI
/-- the references, when the cells below k and the first f fields of the first object are made -/
def zRi (k f : Nat) (R : zMR) : Prop := (∀ a, 0 < a → a < k → R a = zRR 34 44 32 33 a) ∧ (∀ a, 0 < a → k ≤ a → ∀ j, R a j = none) ∧ ∀ j, R 0 j = if j < f then zR0 34 44 j else none
theorem zRR_no {a : Nat} (h : ¬ a = 0 ∧ ¬ a = 1 ∧ ¬ a = 4 ∧ ¬ a = 17 ∧ ¬ a = 24 ∧ ¬ a = 31 ∧ ¬ a = 34 ∧ ¬ a = 44 ∧ ¬ a = 54) : zRR 34 44 32 33 a = fun _ => none := by
  obtain ⟨h0, h1, h2, h3, h4, h5, h6, h7, h8⟩ := h
  unfold zRR; split <;> first | rfl | contradiction
/-- an object u and its rows up to k are made: the rest is as before -/
theorem zRi_mk {u k f : Nat} {R R1 : zMR} (h : zRi u f R) (hu : 0 < u) (huk : u < k) (ho : ∀ a, ¬ a = u → R1 a = R a) (hj : ∀ j, R1 u j = zRR 34 44 32 33 u j) (hno : ∀ a, u < a → a < k → ¬ a = 0 ∧ ¬ a = 1 ∧ ¬ a = 4 ∧ ¬ a = 17 ∧ ¬ a = 24 ∧ ¬ a = 31 ∧ ¬ a = 34 ∧ ¬ a = 44 ∧ ¬ a = 54) : zRi k f R1 := by
  refine ⟨fun a a0 ak => ?_, fun a a0 ak j => ?_, fun j => ?_⟩
  · rcases Nat.lt_trichotomy a u with q | q | q
    · rw [ho a (by omega)]; exact h.1 a a0 q
    · subst q; funext j; exact hj j
    · rw [ho a (by omega), zRR_no (hno a q ak)]; funext j; exact h.2.1 a a0 (by omega) j
  · rw [ho a (by omega)]; exact h.2.1 a a0 (by omega) j
  · rw [ho 0 (by omega)]; exact h.2.2 j
theorem zRi_all {R : zMR} (h : zRi 84 8 R) : R = zRR 34 44 32 33 := by
  funext a
  rcases Nat.eq_zero_or_pos a with e | e
  · subst e; funext j
    rw [h.2.2 j]
    show _ = zR0 34 44 j
    by_cases c : j < 8
    · rw [if_pos c]
    · rw [if_neg c]; unfold zR0; split <;> first | omega | rfl
  · by_cases c : a < 84
    · exact h.1 a e c
    · rw [zRR_no (by omega)]; funext j; exact h.2.1 a e (by omega) j
theorem in_1 {R : zMR} {I : zMI} {f : Nat} (hR : zRi 1 f R) (hI : ∀ a, 1 ≤ a → ∀ j, I a j = 0) : zEv (m1_init 2 14) (zX.take 2) R 0 I [.ref 1] (fun v X1 R1 h1 I1 => v = none ∧ X1 = zX.take 3 ∧ zRi 3 f R1 ∧ h1 = 0 ∧ I1 = I) := by
  refine zEv_of (lv0 := [.ref 1]) (by decide +kernel) rfl rfl (by decide +kernel) (fun _ _ => rfl) (fun _ _ => Nat.le_of_ble_eq_true rfl) (fun v X1 R1 h1 I1 q => ?_) ?_
  · rw [q.2.1]; exact ⟨rfl, by decide +kernel⟩
  refine g_al0 (r1_init_0 2 14) ?_
  refine g_oi (r1_init_1 2 14) (Nat.le_of_ble_eq_true rfl) ?_
  refine g_al0 (r1_init_4 2 14) ?_
  refine g_k (r1_init_5 2 14) ?_
  refine g_eqv (y := nI 90) rfl ?_
  refine g_ni (k := 2) (n := 90) (r1_init_7 2 14) (by decide) rfl (by decide) (by decide +kernel) (by decide +kernel) (hI 2 (by decide)) ?_
  refine g_pfr (r1_init_9 2 14) (rfl : (zX.take 3)[1]? = some (1 + 2, zF 1)) (Or.inr ⟨rfl, rfl⟩) rfl ?_
  refine g_vret (r1_init_12 2 14) rfl ⟨rfl, rfl, zRi_mk hR (by decide) (by decide) (fun a ha => ?_) (fun j => ?_) (fun a a1 a2 => by omega), rfl, rfl⟩
  · funext j; simp [zrs, ha]
  · match j with
    | 0 => rfl
    | 1 => exact hR.2.1 1 (by decide) (by decide) 1
    | n + 2 => exact (by simp [zrs] : _ = R 1 (n + 2)).trans (hR.2.1 1 (by decide) (by decide) (n + 2))
theorem in_3 {R : zMR} {I : zMI} {f : Nat} (hR : zRi 3 f R) (hI : ∀ a, 3 ≤ a → ∀ j, I a j = 0) : zEv (m2_init 4 107) (zX.take 4) R 0 I [.ref 3] (fun v X1 R1 h1 I1 => v = none ∧ X1 = zX.take 4 ∧ zRi 4 f R1 ∧ h1 = 0 ∧ I1 = I) := by
  refine zEv_of (lv0 := [.ref 3]) (by decide +kernel) rfl rfl (by decide +kernel) (fun _ _ => rfl) (fun _ _ => Nat.le_of_ble_eq_true rfl) (fun v X1 R1 h1 I1 q => ?_) ?_
  · rw [q.2.1]; exact ⟨rfl, by decide +kernel⟩
  refine g_al0 (r2_init_0 4 107) ?_
  refine g_oi (r2_init_1 4 107) (Nat.le_of_ble_eq_true rfl) ?_
  refine g_vret (r2_init_4 4 107) rfl ⟨rfl, rfl, zRi_mk hR (by decide) (by decide) (fun a ha => ?_) (fun j => ?_) (fun a a1 a2 => by omega), rfl, rfl⟩
  · rfl
  · exact hR.2.1 3 (by decide) (by decide) j
theorem in_4 {R : zMR} {I : zMI} {f : Nat} (hR : zRi 4 f R) (hI : ∀ a, 4 ≤ a → ∀ j, I a j = 0) : zEv (m4_init 5 123) (zX.take 5) R 0 I [.ref 4] (fun v X1 R1 h1 I1 => v = none ∧ X1 = zX.take 17 ∧ zRi 17 f R1 ∧ h1 = 0 ∧ I1 = I) := by
  refine zEv_of (lv0 := [.ref 4]) (by decide +kernel) rfl rfl (by decide +kernel) (fun _ _ => rfl) (fun _ _ => Nat.le_of_ble_eq_true rfl) (fun v X1 R1 h1 I1 q => ?_) ?_
  · rw [q.2.1]; exact ⟨rfl, by decide +kernel⟩
  refine g_al0 (r4_init_0 5 123) ?_
  refine g_oi (r4_init_1 5 123) (Nat.le_of_ble_eq_true rfl) ?_
  refine g_al0 (r4_init_4 5 123) ?_
  refine g_k (r4_init_5 5 123) ?_
  refine g_eqv (y := nI 30) rfl ?_
  refine g_ni (k := 5) (n := 30) (r4_init_7 5 123) (by decide) rfl (by decide) (by decide +kernel) (by decide +kernel) (hI 5 (by decide)) ?_
  refine g_pfr (r4_init_9 5 123) (rfl : (zX.take 6)[4]? = some (4 + 2, zF 4)) (Or.inr ⟨rfl, rfl⟩) rfl ?_
  refine g_al0 (r4_init_12 5 123) ?_
  refine g_k (r4_init_13 5 123) ?_
  refine g_eqv (y := nI 30) rfl ?_
  refine g_ni (k := 6) (n := 30) (r4_init_15 5 123) (by decide) rfl (by decide) (by decide +kernel) (by decide +kernel) (hI 6 (by decide)) ?_
  refine g_pfr (r4_init_17 5 123) (rfl : (zX.take 7)[4]? = some (4 + 2, zF 4)) (Or.inr ⟨rfl, rfl⟩) rfl ?_
  refine g_al0 (r4_init_20 5 123) ?_
  refine g_k (r4_init_21 5 123) ?_
  refine g_eqv (y := nI 30) rfl ?_
  refine g_ni (k := 7) (n := 30) (r4_init_23 5 123) (by decide) rfl (by decide) (by decide +kernel) (by decide +kernel) (hI 7 (by decide)) ?_
  refine g_pfr (r4_init_25 5 123) (rfl : (zX.take 8)[4]? = some (4 + 2, zF 4)) (Or.inr ⟨rfl, rfl⟩) rfl ?_
  refine g_al0 (r4_init_28 5 123) ?_
  refine g_k (r4_init_29 5 123) ?_
  refine g_eqv (y := nI 30) rfl ?_
  refine g_ni (k := 8) (n := 30) (r4_init_31 5 123) (by decide) rfl (by decide) (by decide +kernel) (by decide +kernel) (hI 8 (by decide)) ?_
  refine g_pfr (r4_init_33 5 123) (rfl : (zX.take 9)[4]? = some (4 + 2, zF 4)) (Or.inr ⟨rfl, rfl⟩) rfl ?_
  refine g_al0 (r4_init_36 5 123) ?_
  refine g_k (r4_init_37 5 123) ?_
  refine g_eqv (y := nI 30) rfl ?_
  refine g_ni (k := 9) (n := 30) (r4_init_39 5 123) (by decide) rfl (by decide) (by decide +kernel) (by decide +kernel) (hI 9 (by decide)) ?_
  refine g_pfr (r4_init_41 5 123) (rfl : (zX.take 10)[4]? = some (4 + 2, zF 4)) (Or.inr ⟨rfl, rfl⟩) rfl ?_
  refine g_al0 (r4_init_44 5 123) ?_
  refine g_k (r4_init_45 5 123) ?_
  refine g_eqv (y := nI 30) rfl ?_
  refine g_ni (k := 10) (n := 30) (r4_init_47 5 123) (by decide) rfl (by decide) (by decide +kernel) (by decide +kernel) (hI 10 (by decide)) ?_
  refine g_pfr (r4_init_49 5 123) (rfl : (zX.take 11)[4]? = some (4 + 2, zF 4)) (Or.inr ⟨rfl, rfl⟩) rfl ?_
  refine g_al0 (r4_init_52 5 123) ?_
  refine g_k (r4_init_53 5 123) ?_
  refine g_eqv (y := nI 10) rfl ?_
  refine g_ni (k := 11) (n := 10) (r4_init_55 5 123) (by decide) rfl (by decide) (by decide +kernel) (by decide +kernel) (hI 11 (by decide)) ?_
  refine g_pfr (r4_init_57 5 123) (rfl : (zX.take 12)[4]? = some (4 + 2, zF 4)) (Or.inr ⟨rfl, rfl⟩) rfl ?_
  refine g_al0 (r4_init_60 5 123) ?_
  refine g_k (r4_init_61 5 123) ?_
  refine g_eqv (y := nI 30) rfl ?_
  refine g_ni (k := 12) (n := 30) (r4_init_63 5 123) (by decide) rfl (by decide) (by decide +kernel) (by decide +kernel) (hI 12 (by decide)) ?_
  refine g_pfr (r4_init_65 5 123) (rfl : (zX.take 13)[4]? = some (4 + 2, zF 4)) (Or.inr ⟨rfl, rfl⟩) rfl ?_
  refine g_al0 (r4_init_68 5 123) ?_
  refine g_k (r4_init_69 5 123) ?_
  refine g_eqv (y := nI 30) rfl ?_
  refine g_ni (k := 13) (n := 30) (r4_init_71 5 123) (by decide) rfl (by decide) (by decide +kernel) (by decide +kernel) (hI 13 (by decide)) ?_
  refine g_pfr (r4_init_73 5 123) (rfl : (zX.take 14)[4]? = some (4 + 2, zF 4)) (Or.inr ⟨rfl, rfl⟩) rfl ?_
  refine g_al0 (r4_init_76 5 123) ?_
  refine g_k (r4_init_77 5 123) ?_
  refine g_eqv (y := nI 30) rfl ?_
  refine g_ni (k := 14) (n := 30) (r4_init_79 5 123) (by decide) rfl (by decide) (by decide +kernel) (by decide +kernel) (hI 14 (by decide)) ?_
  refine g_pfr (r4_init_81 5 123) (rfl : (zX.take 15)[4]? = some (4 + 2, zF 4)) (Or.inr ⟨rfl, rfl⟩) rfl ?_
  refine g_al0 (r4_init_84 5 123) ?_
  refine g_k (r4_init_85 5 123) ?_
  refine g_eqv (y := nI 30) rfl ?_
  refine g_ni (k := 15) (n := 30) (r4_init_87 5 123) (by decide) rfl (by decide) (by decide +kernel) (by decide +kernel) (hI 15 (by decide)) ?_
  refine g_pfr (r4_init_89 5 123) (rfl : (zX.take 16)[4]? = some (4 + 2, zF 4)) (Or.inr ⟨rfl, rfl⟩) rfl ?_
  refine g_al0 (r4_init_92 5 123) ?_
  refine g_k (r4_init_93 5 123) ?_
  refine g_eqv (y := nI 30) rfl ?_
  refine g_ni (k := 16) (n := 30) (r4_init_95 5 123) (by decide) rfl (by decide) (by decide +kernel) (by decide +kernel) (hI 16 (by decide)) ?_
  refine g_pfr (r4_init_97 5 123) (rfl : (zX.take 17)[4]? = some (4 + 2, zF 4)) (Or.inr ⟨rfl, rfl⟩) rfl ?_
  refine g_vret (r4_init_100 5 123) rfl ⟨rfl, rfl, zRi_mk hR (by decide) (by decide) (fun a ha => ?_) (fun j => ?_) (fun a a1 a2 => by omega), rfl, rfl⟩
  · funext j; simp [zrs, ha]
  · match j with
    | 0 => rfl
    | 1 => rfl
    | 2 => rfl
    | 3 => rfl
    | 4 => rfl
    | 5 => rfl
    | 6 => rfl
    | 7 => rfl
    | 8 => rfl
    | 9 => rfl
    | 10 => rfl
    | 11 => rfl
    | 12 => exact hR.2.1 4 (by decide) (by decide) 12
    | 13 => exact hR.2.1 4 (by decide) (by decide) 13
    | 14 => exact hR.2.1 4 (by decide) (by decide) 14
    | 15 => exact hR.2.1 4 (by decide) (by decide) 15
    | n + 16 => exact (by simp [zrs] : _ = R 4 (n + 16)).trans (hR.2.1 4 (by decide) (by decide) (n + 16))
theorem in_17 {R : zMR} {I : zMI} {f : Nat} (hR : zRi 17 f R) (hI : ∀ a, 17 ≤ a → ∀ j, I a j = 0) : zEv (m3_init 18 472) (zX.take 18) R 0 I [.ref 17] (fun v X1 R1 h1 I1 => v = none ∧ X1 = zX.take 24 ∧ zRi 24 f R1 ∧ h1 = 0 ∧ I1 = (zs I 17 (upd (I 17) 2 (-1)))) := by
  refine zEv_of (lv0 := [.ref 17]) (by decide +kernel) rfl rfl (by decide +kernel) (fun _ _ => rfl) (fun _ _ => Nat.le_of_ble_eq_true rfl) (fun v X1 R1 h1 I1 q => ?_) ?_
  · rw [q.2.1]; exact ⟨rfl, by decide +kernel⟩
  refine g_al0 (r3_init_0 18 472) ?_
  refine g_oi (r3_init_1 18 472) (Nat.le_of_ble_eq_true rfl) ?_
  refine g_al0 (r3_init_4 18 472) ?_
  refine g_k (r3_init_5 18 472) ?_
  refine g_eqv (y := nI 256) rfl ?_
  refine g_ni (k := 18) (n := 256) (r3_init_8 18 472) (by decide) rfl (by decide) (by decide +kernel) (by decide +kernel) (hI 18 (by decide)) ?_
  refine g_pfr (r3_init_10 18 472) (rfl : (zX.take 19)[17]? = some (3 + 2, zF 3)) (Or.inr ⟨rfl, rfl⟩) rfl ?_
  refine g_al0 (r3_init_13 18 472) ?_
  refine g_k (r3_init_14 18 472) ?_
  refine g_pfi (r3_init_15 18 472) (rfl : (zX.take 19)[17]? = some (3 + 2, zF 3)) rfl rfl ?_
  refine g_al0 (r3_init_18 18 472) ?_
  refine g_k (r3_init_19 18 472) ?_
  refine g_eqv (y := nI 256) rfl ?_
  refine g_ni (k := 19) (n := 256) (r3_init_22 18 472) (by decide) rfl (by decide) (by decide +kernel) (by decide +kernel) (hI 19 (by decide)) ?_
  refine g_pfr (r3_init_24 18 472) (rfl : (zX.take 20)[17]? = some (3 + 2, zF 3)) (Or.inr ⟨rfl, rfl⟩) rfl ?_
  refine g_al0 (r3_init_27 18 472) ?_
  refine g_k (r3_init_28 18 472) ?_
  refine g_eqv (y := nI 256) rfl ?_
  refine g_ni (k := 20) (n := 256) (r3_init_31 18 472) (by decide) rfl (by decide) (by decide +kernel) (by decide +kernel) (hI 20 (by decide)) ?_
  refine g_pfr (r3_init_33 18 472) (rfl : (zX.take 21)[17]? = some (3 + 2, zF 3)) (Or.inr ⟨rfl, rfl⟩) rfl ?_
  refine g_al0 (r3_init_36 18 472) ?_
  refine g_k (r3_init_37 18 472) ?_
  refine g_eqv (y := nI 256) rfl ?_
  refine g_ni (k := 21) (n := 256) (r3_init_40 18 472) (by decide) rfl (by decide) (by decide +kernel) (by decide +kernel) (hI 21 (by decide)) ?_
  refine g_pfr (r3_init_42 18 472) (rfl : (zX.take 22)[17]? = some (3 + 2, zF 3)) (Or.inr ⟨rfl, rfl⟩) rfl ?_
  refine g_al0 (r3_init_45 18 472) ?_
  refine g_k (r3_init_46 18 472) ?_
  refine g_eqv (y := nI 256) rfl ?_
  refine g_ni (k := 22) (n := 256) (r3_init_49 18 472) (by decide) rfl (by decide) (by decide +kernel) (by decide +kernel) (hI 22 (by decide)) ?_
  refine g_pfr (r3_init_51 18 472) (rfl : (zX.take 23)[17]? = some (3 + 2, zF 3)) (Or.inr ⟨rfl, rfl⟩) rfl ?_
  refine g_al0 (r3_init_54 18 472) ?_
  refine g_k (r3_init_55 18 472) ?_
  refine g_eqv (y := nI 256) rfl ?_
  refine g_ni (k := 23) (n := 256) (r3_init_58 18 472) (by decide) rfl (by decide) (by decide +kernel) (by decide +kernel) (hI 23 (by decide)) ?_
  refine g_pfr (r3_init_60 18 472) (rfl : (zX.take 24)[17]? = some (3 + 2, zF 3)) (Or.inr ⟨rfl, rfl⟩) rfl ?_
  refine g_vret (r3_init_63 18 472) rfl ⟨rfl, rfl, zRi_mk hR (by decide) (by decide) (fun a ha => ?_) (fun j => ?_) (fun a a1 a2 => by omega), rfl, rfl⟩
  · funext j; simp [zrs, ha]
  · match j with
    | 0 => rfl
    | 1 => exact hR.2.1 17 (by decide) (by decide) 1
    | 2 => exact hR.2.1 17 (by decide) (by decide) 2
    | 3 => rfl
    | 4 => rfl
    | 5 => rfl
    | 6 => rfl
    | 7 => rfl
    | 8 => exact hR.2.1 17 (by decide) (by decide) 8
    | n + 9 => exact (by simp [zrs] : _ = R 17 (n + 9)).trans (hR.2.1 17 (by decide) (by decide) (n + 9))
theorem in_24 {R : zMR} {I : zMI} {f : Nat} (hR : zRi 24 f R) (hI : ∀ a, 24 ≤ a → ∀ j, I a j = 0) : zEv (m3_init 25 2017) (zX.take 25) R 0 I [.ref 24] (fun v X1 R1 h1 I1 => v = none ∧ X1 = zX.take 31 ∧ zRi 31 f R1 ∧ h1 = 0 ∧ I1 = (zs I 24 (upd (I 24) 2 (-1)))) := by
  refine zEv_of (lv0 := [.ref 24]) (by decide +kernel) rfl rfl (by decide +kernel) (fun _ _ => rfl) (fun _ _ => Nat.le_of_ble_eq_true rfl) (fun v X1 R1 h1 I1 q => ?_) ?_
  · rw [q.2.1]; exact ⟨rfl, by decide +kernel⟩
  refine g_al0 (r3_init_0 25 2017) ?_
  refine g_oi (r3_init_1 25 2017) (Nat.le_of_ble_eq_true rfl) ?_
  refine g_al0 (r3_init_4 25 2017) ?_
  refine g_k (r3_init_5 25 2017) ?_
  refine g_eqv (y := nI 256) rfl ?_
  refine g_ni (k := 25) (n := 256) (r3_init_8 25 2017) (by decide) rfl (by decide) (by decide +kernel) (by decide +kernel) (hI 25 (by decide)) ?_
  refine g_pfr (r3_init_10 25 2017) (rfl : (zX.take 26)[24]? = some (3 + 2, zF 3)) (Or.inr ⟨rfl, rfl⟩) rfl ?_
  refine g_al0 (r3_init_13 25 2017) ?_
  refine g_k (r3_init_14 25 2017) ?_
  refine g_pfi (r3_init_15 25 2017) (rfl : (zX.take 26)[24]? = some (3 + 2, zF 3)) rfl rfl ?_
  refine g_al0 (r3_init_18 25 2017) ?_
  refine g_k (r3_init_19 25 2017) ?_
  refine g_eqv (y := nI 256) rfl ?_
  refine g_ni (k := 26) (n := 256) (r3_init_22 25 2017) (by decide) rfl (by decide) (by decide +kernel) (by decide +kernel) (hI 26 (by decide)) ?_
  refine g_pfr (r3_init_24 25 2017) (rfl : (zX.take 27)[24]? = some (3 + 2, zF 3)) (Or.inr ⟨rfl, rfl⟩) rfl ?_
  refine g_al0 (r3_init_27 25 2017) ?_
  refine g_k (r3_init_28 25 2017) ?_
  refine g_eqv (y := nI 256) rfl ?_
  refine g_ni (k := 27) (n := 256) (r3_init_31 25 2017) (by decide) rfl (by decide) (by decide +kernel) (by decide +kernel) (hI 27 (by decide)) ?_
  refine g_pfr (r3_init_33 25 2017) (rfl : (zX.take 28)[24]? = some (3 + 2, zF 3)) (Or.inr ⟨rfl, rfl⟩) rfl ?_
  refine g_al0 (r3_init_36 25 2017) ?_
  refine g_k (r3_init_37 25 2017) ?_
  refine g_eqv (y := nI 256) rfl ?_
  refine g_ni (k := 28) (n := 256) (r3_init_40 25 2017) (by decide) rfl (by decide) (by decide +kernel) (by decide +kernel) (hI 28 (by decide)) ?_
  refine g_pfr (r3_init_42 25 2017) (rfl : (zX.take 29)[24]? = some (3 + 2, zF 3)) (Or.inr ⟨rfl, rfl⟩) rfl ?_
  refine g_al0 (r3_init_45 25 2017) ?_
  refine g_k (r3_init_46 25 2017) ?_
  refine g_eqv (y := nI 256) rfl ?_
  refine g_ni (k := 29) (n := 256) (r3_init_49 25 2017) (by decide) rfl (by decide) (by decide +kernel) (by decide +kernel) (hI 29 (by decide)) ?_
  refine g_pfr (r3_init_51 25 2017) (rfl : (zX.take 30)[24]? = some (3 + 2, zF 3)) (Or.inr ⟨rfl, rfl⟩) rfl ?_
  refine g_al0 (r3_init_54 25 2017) ?_
  refine g_k (r3_init_55 25 2017) ?_
  refine g_eqv (y := nI 256) rfl ?_
  refine g_ni (k := 30) (n := 256) (r3_init_58 25 2017) (by decide) rfl (by decide) (by decide +kernel) (by decide +kernel) (hI 30 (by decide)) ?_
  refine g_pfr (r3_init_60 25 2017) (rfl : (zX.take 31)[24]? = some (3 + 2, zF 3)) (Or.inr ⟨rfl, rfl⟩) rfl ?_
  refine g_vret (r3_init_63 25 2017) rfl ⟨rfl, rfl, zRi_mk hR (by decide) (by decide) (fun a ha => ?_) (fun j => ?_) (fun a a1 a2 => by omega), rfl, rfl⟩
  · funext j; simp [zrs, ha]
  · match j with
    | 0 => rfl
    | 1 => exact hR.2.1 24 (by decide) (by decide) 1
    | 2 => exact hR.2.1 24 (by decide) (by decide) 2
    | 3 => rfl
    | 4 => rfl
    | 5 => rfl
    | 6 => rfl
    | 7 => rfl
    | 8 => exact hR.2.1 24 (by decide) (by decide) 8
    | n + 9 => exact (by simp [zrs] : _ = R 24 (n + 9)).trans (hR.2.1 24 (by decide) (by decide) (n + 9))
theorem in_31 {R : zMR} {I : zMI} {f : Nat} (hR : zRi 31 f R) (hI : ∀ a, 31 ≤ a → ∀ j, I a j = 0) : zEv (m0_init 32 3555) (zX.take 32) R 0 I [.ref 31] (fun v X1 R1 h1 I1 => v = none ∧ X1 = zX.take 34 ∧ zRi 34 f R1 ∧ h1 = 0 ∧ I1 = I) := by
  refine zEv_of (lv0 := [.ref 31]) (by decide +kernel) rfl rfl (by decide +kernel) (fun _ _ => rfl) (fun _ _ => Nat.le_of_ble_eq_true rfl) (fun v X1 R1 h1 I1 q => ?_) ?_
  · rw [q.2.1]; exact ⟨rfl, by decide +kernel⟩
  refine g_al0 (r0_init_0 32 3555) ?_
  refine g_oi (r0_init_1 32 3555) (Nat.le_of_ble_eq_true rfl) ?_
  refine g_al0 (r0_init_4 32 3555) ?_
  refine g_k (r0_init_5 32 3555) ?_
  refine g_eqv (y := nI 256) rfl ?_
  refine g_ni (k := 32) (n := 256) (r0_init_8 32 3555) (by decide) rfl (by decide) (by decide +kernel) (by decide +kernel) (hI 32 (by decide)) ?_
  refine g_pfr (r0_init_10 32 3555) (rfl : (zX.take 33)[31]? = some (0 + 2, zF 0)) (Or.inl rfl) rfl ?_
  refine g_al0 (r0_init_13 32 3555) ?_
  refine g_k (r0_init_14 32 3555) ?_
  refine g_eqv (y := nI 256) rfl ?_
  refine g_ni (k := 33) (n := 256) (r0_init_17 32 3555) (by decide) rfl (by decide) (by decide +kernel) (by decide +kernel) (hI 33 (by decide)) ?_
  refine g_pfr (r0_init_19 32 3555) (rfl : (zX.take 34)[31]? = some (0 + 2, zF 0)) (Or.inl rfl) rfl ?_
  refine g_vret (r0_init_22 32 3555) rfl ⟨rfl, rfl, zRi_mk hR (by decide) (by decide) (fun a ha => ?_) (fun j => ?_) (fun a a1 a2 => by omega), rfl, rfl⟩
  · funext j; simp [zrs, ha]
  · match j with
    | 0 => rfl
    | 1 => rfl
    | n + 2 => exact (by simp [zrs] : _ = R 31 (n + 2)).trans (hR.2.1 31 (by decide) (by decide) (n + 2))
theorem in_34 {R : zMR} {I : zMI} {f : Nat} (hR : zRi 34 f R) (hI : ∀ a, 34 ≤ a → ∀ j, I a j = 0) : zEv (m5_init 35 4079) (zX.take 35) R 0 I [.ref 34] (fun v X1 R1 h1 I1 => v = none ∧ X1 = zX.take 44 ∧ zRi 44 f R1 ∧ h1 = 0 ∧ I1 = I) := by
  refine zEv_of (lv0 := [.ref 34]) (by decide +kernel) rfl rfl (by decide +kernel) (fun _ _ => rfl) (fun _ _ => Nat.le_of_ble_eq_true rfl) (fun v X1 R1 h1 I1 q => ?_) ?_
  · rw [q.2.1]; exact ⟨rfl, by decide +kernel⟩
  refine g_al0 (r5_init_0 35 4079) ?_
  refine g_oi (r5_init_1 35 4079) (Nat.le_of_ble_eq_true rfl) ?_
  refine g_al0 (r5_init_4 35 4079) ?_
  refine g_k (r5_init_5 35 4079) ?_
  refine g_eqv (y := nI 4) rfl ?_
  refine g_ni (k := 35) (n := 4) (r5_init_6 35 4079) (by decide) rfl (by decide) (by decide +kernel) (by decide +kernel) (hI 35 (by decide)) ?_
  refine g_pfr (r5_init_8 35 4079) (rfl : (zX.take 36)[34]? = some (5 + 2, zF 5)) (Or.inr ⟨rfl, rfl⟩) rfl ?_
  refine g_al0 (r5_init_11 35 4079) ?_
  refine g_k (r5_init_12 35 4079) ?_
  refine g_eqv (y := nI 4) rfl ?_
  refine g_ni (k := 36) (n := 4) (r5_init_13 35 4079) (by decide) rfl (by decide) (by decide +kernel) (by decide +kernel) (hI 36 (by decide)) ?_
  refine g_pfr (r5_init_15 35 4079) (rfl : (zX.take 37)[34]? = some (5 + 2, zF 5)) (Or.inr ⟨rfl, rfl⟩) rfl ?_
  refine g_al0 (r5_init_18 35 4079) ?_
  refine g_k (r5_init_19 35 4079) ?_
  refine g_eqv (y := nI 4) rfl ?_
  refine g_ni (k := 37) (n := 4) (r5_init_20 35 4079) (by decide) rfl (by decide) (by decide +kernel) (by decide +kernel) (hI 37 (by decide)) ?_
  refine g_pfr (r5_init_22 35 4079) (rfl : (zX.take 38)[34]? = some (5 + 2, zF 5)) (Or.inr ⟨rfl, rfl⟩) rfl ?_
  refine g_al0 (r5_init_25 35 4079) ?_
  refine g_k (r5_init_26 35 4079) ?_
  refine g_eqv (y := nI 4) rfl ?_
  refine g_ni (k := 38) (n := 4) (r5_init_27 35 4079) (by decide) rfl (by decide) (by decide +kernel) (by decide +kernel) (hI 38 (by decide)) ?_
  refine g_pfr (r5_init_29 35 4079) (rfl : (zX.take 39)[34]? = some (5 + 2, zF 5)) (Or.inr ⟨rfl, rfl⟩) rfl ?_
  refine g_al0 (r5_init_32 35 4079) ?_
  refine g_k (r5_init_33 35 4079) ?_
  refine g_eqv (y := nI 10) rfl ?_
  refine g_ni (k := 39) (n := 10) (r5_init_35 35 4079) (by decide) rfl (by decide) (by decide +kernel) (by decide +kernel) (hI 39 (by decide)) ?_
  refine g_pfr (r5_init_37 35 4079) (rfl : (zX.take 40)[34]? = some (5 + 2, zF 5)) (Or.inr ⟨rfl, rfl⟩) rfl ?_
  refine g_al0 (r5_init_40 35 4079) ?_
  refine g_k (r5_init_41 35 4079) ?_
  refine g_eqv (y := nI 10) rfl ?_
  refine g_ni (k := 40) (n := 10) (r5_init_43 35 4079) (by decide) rfl (by decide) (by decide +kernel) (by decide +kernel) (hI 40 (by decide)) ?_
  refine g_pfr (r5_init_45 35 4079) (rfl : (zX.take 41)[34]? = some (5 + 2, zF 5)) (Or.inr ⟨rfl, rfl⟩) rfl ?_
  refine g_al0 (r5_init_48 35 4079) ?_
  refine g_k (r5_init_49 35 4079) ?_
  refine g_eqv (y := nI 10) rfl ?_
  refine g_ni (k := 41) (n := 10) (r5_init_51 35 4079) (by decide) rfl (by decide) (by decide +kernel) (by decide +kernel) (hI 41 (by decide)) ?_
  refine g_pfr (r5_init_53 35 4079) (rfl : (zX.take 42)[34]? = some (5 + 2, zF 5)) (Or.inr ⟨rfl, rfl⟩) rfl ?_
  refine g_al0 (r5_init_56 35 4079) ?_
  refine g_k (r5_init_57 35 4079) ?_
  refine g_eqv (y := nI 10) rfl ?_
  refine g_ni (k := 42) (n := 10) (r5_init_59 35 4079) (by decide) rfl (by decide) (by decide +kernel) (by decide +kernel) (hI 42 (by decide)) ?_
  refine g_pfr (r5_init_61 35 4079) (rfl : (zX.take 43)[34]? = some (5 + 2, zF 5)) (Or.inr ⟨rfl, rfl⟩) rfl ?_
  refine g_al0 (r5_init_64 35 4079) ?_
  refine g_k (r5_init_65 35 4079) ?_
  refine g_eqv (y := nI 10) rfl ?_
  refine g_ni (k := 43) (n := 10) (r5_init_67 35 4079) (by decide) rfl (by decide) (by decide +kernel) (by decide +kernel) (hI 43 (by decide)) ?_
  refine g_pfr (r5_init_69 35 4079) (rfl : (zX.take 44)[34]? = some (5 + 2, zF 5)) (Or.inr ⟨rfl, rfl⟩) rfl ?_
  refine g_vret (r5_init_72 35 4079) rfl ⟨rfl, rfl, zRi_mk hR (by decide) (by decide) (fun a ha => ?_) (fun j => ?_) (fun a a1 a2 => by omega), rfl, rfl⟩
  · funext j; simp [zrs, ha]
  · match j with
    | 0 => rfl
    | 1 => rfl
    | 2 => rfl
    | 3 => rfl
    | 4 => rfl
    | 5 => rfl
    | 6 => rfl
    | 7 => rfl
    | 8 => rfl
    | 9 => exact hR.2.1 34 (by decide) (by decide) 9
    | 10 => exact hR.2.1 34 (by decide) (by decide) 10
    | 11 => exact hR.2.1 34 (by decide) (by decide) 11
    | n + 12 => exact (by simp [zrs] : _ = R 34 (n + 12)).trans (hR.2.1 34 (by decide) (by decide) (n + 12))
theorem in_44 {R : zMR} {I : zMI} {f : Nat} (hR : zRi 44 f R) (hI : ∀ a, 44 ≤ a → ∀ j, I a j = 0) : zEv (m5_init 45 4157) (zX.take 45) R 0 I [.ref 44] (fun v X1 R1 h1 I1 => v = none ∧ X1 = zX.take 54 ∧ zRi 54 f R1 ∧ h1 = 0 ∧ I1 = I) := by
  refine zEv_of (lv0 := [.ref 44]) (by decide +kernel) rfl rfl (by decide +kernel) (fun _ _ => rfl) (fun _ _ => Nat.le_of_ble_eq_true rfl) (fun v X1 R1 h1 I1 q => ?_) ?_
  · rw [q.2.1]; exact ⟨rfl, by decide +kernel⟩
  refine g_al0 (r5_init_0 45 4157) ?_
  refine g_oi (r5_init_1 45 4157) (Nat.le_of_ble_eq_true rfl) ?_
  refine g_al0 (r5_init_4 45 4157) ?_
  refine g_k (r5_init_5 45 4157) ?_
  refine g_eqv (y := nI 4) rfl ?_
  refine g_ni (k := 45) (n := 4) (r5_init_6 45 4157) (by decide) rfl (by decide) (by decide +kernel) (by decide +kernel) (hI 45 (by decide)) ?_
  refine g_pfr (r5_init_8 45 4157) (rfl : (zX.take 46)[44]? = some (5 + 2, zF 5)) (Or.inr ⟨rfl, rfl⟩) rfl ?_
  refine g_al0 (r5_init_11 45 4157) ?_
  refine g_k (r5_init_12 45 4157) ?_
  refine g_eqv (y := nI 4) rfl ?_
  refine g_ni (k := 46) (n := 4) (r5_init_13 45 4157) (by decide) rfl (by decide) (by decide +kernel) (by decide +kernel) (hI 46 (by decide)) ?_
  refine g_pfr (r5_init_15 45 4157) (rfl : (zX.take 47)[44]? = some (5 + 2, zF 5)) (Or.inr ⟨rfl, rfl⟩) rfl ?_
  refine g_al0 (r5_init_18 45 4157) ?_
  refine g_k (r5_init_19 45 4157) ?_
  refine g_eqv (y := nI 4) rfl ?_
  refine g_ni (k := 47) (n := 4) (r5_init_20 45 4157) (by decide) rfl (by decide) (by decide +kernel) (by decide +kernel) (hI 47 (by decide)) ?_
  refine g_pfr (r5_init_22 45 4157) (rfl : (zX.take 48)[44]? = some (5 + 2, zF 5)) (Or.inr ⟨rfl, rfl⟩) rfl ?_
  refine g_al0 (r5_init_25 45 4157) ?_
  refine g_k (r5_init_26 45 4157) ?_
  refine g_eqv (y := nI 4) rfl ?_
  refine g_ni (k := 48) (n := 4) (r5_init_27 45 4157) (by decide) rfl (by decide) (by decide +kernel) (by decide +kernel) (hI 48 (by decide)) ?_
  refine g_pfr (r5_init_29 45 4157) (rfl : (zX.take 49)[44]? = some (5 + 2, zF 5)) (Or.inr ⟨rfl, rfl⟩) rfl ?_
  refine g_al0 (r5_init_32 45 4157) ?_
  refine g_k (r5_init_33 45 4157) ?_
  refine g_eqv (y := nI 10) rfl ?_
  refine g_ni (k := 49) (n := 10) (r5_init_35 45 4157) (by decide) rfl (by decide) (by decide +kernel) (by decide +kernel) (hI 49 (by decide)) ?_
  refine g_pfr (r5_init_37 45 4157) (rfl : (zX.take 50)[44]? = some (5 + 2, zF 5)) (Or.inr ⟨rfl, rfl⟩) rfl ?_
  refine g_al0 (r5_init_40 45 4157) ?_
  refine g_k (r5_init_41 45 4157) ?_
  refine g_eqv (y := nI 10) rfl ?_
  refine g_ni (k := 50) (n := 10) (r5_init_43 45 4157) (by decide) rfl (by decide) (by decide +kernel) (by decide +kernel) (hI 50 (by decide)) ?_
  refine g_pfr (r5_init_45 45 4157) (rfl : (zX.take 51)[44]? = some (5 + 2, zF 5)) (Or.inr ⟨rfl, rfl⟩) rfl ?_
  refine g_al0 (r5_init_48 45 4157) ?_
  refine g_k (r5_init_49 45 4157) ?_
  refine g_eqv (y := nI 10) rfl ?_
  refine g_ni (k := 51) (n := 10) (r5_init_51 45 4157) (by decide) rfl (by decide) (by decide +kernel) (by decide +kernel) (hI 51 (by decide)) ?_
  refine g_pfr (r5_init_53 45 4157) (rfl : (zX.take 52)[44]? = some (5 + 2, zF 5)) (Or.inr ⟨rfl, rfl⟩) rfl ?_
  refine g_al0 (r5_init_56 45 4157) ?_
  refine g_k (r5_init_57 45 4157) ?_
  refine g_eqv (y := nI 10) rfl ?_
  refine g_ni (k := 52) (n := 10) (r5_init_59 45 4157) (by decide) rfl (by decide) (by decide +kernel) (by decide +kernel) (hI 52 (by decide)) ?_
  refine g_pfr (r5_init_61 45 4157) (rfl : (zX.take 53)[44]? = some (5 + 2, zF 5)) (Or.inr ⟨rfl, rfl⟩) rfl ?_
  refine g_al0 (r5_init_64 45 4157) ?_
  refine g_k (r5_init_65 45 4157) ?_
  refine g_eqv (y := nI 10) rfl ?_
  refine g_ni (k := 53) (n := 10) (r5_init_67 45 4157) (by decide) rfl (by decide) (by decide +kernel) (by decide +kernel) (hI 53 (by decide)) ?_
  refine g_pfr (r5_init_69 45 4157) (rfl : (zX.take 54)[44]? = some (5 + 2, zF 5)) (Or.inr ⟨rfl, rfl⟩) rfl ?_
  refine g_vret (r5_init_72 45 4157) rfl ⟨rfl, rfl, zRi_mk hR (by decide) (by decide) (fun a ha => ?_) (fun j => ?_) (fun a a1 a2 => by omega), rfl, rfl⟩
  · funext j; simp [zrs, ha]
  · match j with
    | 0 => rfl
    | 1 => rfl
    | 2 => rfl
    | 3 => rfl
    | 4 => rfl
    | 5 => rfl
    | 6 => rfl
    | 7 => rfl
    | 8 => rfl
    | 9 => exact hR.2.1 44 (by decide) (by decide) 9
    | 10 => exact hR.2.1 44 (by decide) (by decide) 10
    | 11 => exact hR.2.1 44 (by decide) (by decide) 11
    | n + 12 => exact (by simp [zrs] : _ = R 44 (n + 12)).trans (hR.2.1 44 (by decide) (by decide) (n + 12))
theorem in_54 {R : zMR} {I : zMI} {f : Nat} (hR : zRi 54 f R) (hI : ∀ a, 54 ≤ a → ∀ j, I a j = 0) : zEv (m7_init 55 4268) (zX.take 55) R 0 I [.ref 54] (fun v X1 R1 h1 I1 => v = none ∧ X1 = zX.take 84 ∧ zRi 84 f R1 ∧ h1 = 0 ∧ I1 = I) := by
  refine zEv_of (lv0 := [.ref 54]) (by decide +kernel) rfl rfl (by decide +kernel) (fun _ _ => rfl) (fun _ _ => Nat.le_of_ble_eq_true rfl) (fun v X1 R1 h1 I1 q => ?_) ?_
  · rw [q.2.1]; exact ⟨rfl, by decide +kernel⟩
  refine g_al0 (r7_init_0 55 4268) ?_
  refine g_oi (r7_init_1 55 4268) (Nat.le_of_ble_eq_true rfl) ?_
  refine g_al0 (r7_init_4 55 4268) ?_
  refine g_k (r7_init_5 55 4268) ?_
  refine g_eqv (y := nI 4) rfl ?_
  refine g_ni (k := 55) (n := 4) (r7_init_6 55 4268) (by decide) rfl (by decide) (by decide +kernel) (by decide +kernel) (hI 55 (by decide)) ?_
  refine g_pfr (r7_init_8 55 4268) (rfl : (zX.take 56)[54]? = some (7 + 2, zF 7)) (Or.inr ⟨rfl, rfl⟩) rfl ?_
  refine g_al0 (r7_init_11 55 4268) ?_
  refine g_k (r7_init_12 55 4268) ?_
  refine g_eqv (y := nI 4) rfl ?_
  refine g_ni (k := 56) (n := 4) (r7_init_13 55 4268) (by decide) rfl (by decide) (by decide +kernel) (by decide +kernel) (hI 56 (by decide)) ?_
  refine g_pfr (r7_init_15 55 4268) (rfl : (zX.take 57)[54]? = some (7 + 2, zF 7)) (Or.inr ⟨rfl, rfl⟩) rfl ?_
  refine g_al0 (r7_init_18 55 4268) ?_
  refine g_k (r7_init_19 55 4268) ?_
  refine g_eqv (y := nI 4) rfl ?_
  refine g_nz (k := 57) (n := 4) (r7_init_20 55 4268) (by decide) rfl (by decide) (by decide +kernel) (by decide +kernel) (hI 57 (by decide)) ?_
  refine g_pfr (r7_init_22 55 4268) (rfl : (zX.take 58)[54]? = some (7 + 2, zF 7)) (Or.inr ⟨rfl, rfl⟩) rfl ?_
  refine g_al0 (r7_init_25 55 4268) ?_
  refine g_k (r7_init_26 55 4268) ?_
  refine g_eqv (y := nI 10) rfl ?_
  refine g_ni (k := 58) (n := 10) (r7_init_28 55 4268) (by decide) rfl (by decide) (by decide +kernel) (by decide +kernel) (hI 58 (by decide)) ?_
  refine g_pfr (r7_init_30 55 4268) (rfl : (zX.take 59)[54]? = some (7 + 2, zF 7)) (Or.inr ⟨rfl, rfl⟩) rfl ?_
  refine g_al0 (r7_init_33 55 4268) ?_
  refine g_k (r7_init_34 55 4268) ?_
  refine g_eqv (y := nI 10) rfl ?_
  refine g_ni (k := 59) (n := 10) (r7_init_36 55 4268) (by decide) rfl (by decide) (by decide +kernel) (by decide +kernel) (hI 59 (by decide)) ?_
  refine g_pfr (r7_init_38 55 4268) (rfl : (zX.take 60)[54]? = some (7 + 2, zF 7)) (Or.inr ⟨rfl, rfl⟩) rfl ?_
  refine g_al0 (r7_init_41 55 4268) ?_
  refine g_k (r7_init_42 55 4268) ?_
  refine g_eqv (y := nI 10) rfl ?_
  refine g_ni (k := 60) (n := 10) (r7_init_44 55 4268) (by decide) rfl (by decide) (by decide +kernel) (by decide +kernel) (hI 60 (by decide)) ?_
  refine g_pfr (r7_init_46 55 4268) (rfl : (zX.take 61)[54]? = some (7 + 2, zF 7)) (Or.inr ⟨rfl, rfl⟩) rfl ?_
  refine g_al0 (r7_init_49 55 4268) ?_
  refine g_k (r7_init_50 55 4268) ?_
  refine g_eqv (y := nI 10) rfl ?_
  refine g_ni (k := 61) (n := 10) (r7_init_52 55 4268) (by decide) rfl (by decide) (by decide +kernel) (by decide +kernel) (hI 61 (by decide)) ?_
  refine g_pfr (r7_init_54 55 4268) (rfl : (zX.take 62)[54]? = some (7 + 2, zF 7)) (Or.inr ⟨rfl, rfl⟩) rfl ?_
  refine g_al0 (r7_init_57 55 4268) ?_
  refine g_k (r7_init_58 55 4268) ?_
  refine g_eqv (y := nI 10) rfl ?_
  refine g_ni (k := 62) (n := 10) (r7_init_60 55 4268) (by decide) rfl (by decide) (by decide +kernel) (by decide +kernel) (hI 62 (by decide)) ?_
  refine g_pfr (r7_init_62 55 4268) (rfl : (zX.take 63)[54]? = some (7 + 2, zF 7)) (Or.inr ⟨rfl, rfl⟩) rfl ?_
  refine g_al0 (r7_init_65 55 4268) ?_
  refine g_k (r7_init_66 55 4268) ?_
  refine g_eqv (y := nI 30) rfl ?_
  refine g_ni (k := 63) (n := 30) (r7_init_68 55 4268) (by decide) rfl (by decide) (by decide +kernel) (by decide +kernel) (hI 63 (by decide)) ?_
  refine g_pfr (r7_init_70 55 4268) (rfl : (zX.take 64)[54]? = some (7 + 2, zF 7)) (Or.inr ⟨rfl, rfl⟩) rfl ?_
  refine g_al0 (r7_init_73 55 4268) ?_
  refine g_k (r7_init_74 55 4268) ?_
  refine g_eqv (y := nI 30) rfl ?_
  refine g_ni (k := 64) (n := 30) (r7_init_76 55 4268) (by decide) rfl (by decide) (by decide +kernel) (by decide +kernel) (hI 64 (by decide)) ?_
  refine g_pfr (r7_init_78 55 4268) (rfl : (zX.take 65)[54]? = some (7 + 2, zF 7)) (Or.inr ⟨rfl, rfl⟩) rfl ?_
  refine g_al0 (r7_init_81 55 4268) ?_
  refine g_k (r7_init_82 55 4268) ?_
  refine g_eqv (y := nI 30) rfl ?_
  refine g_ni (k := 65) (n := 30) (r7_init_84 55 4268) (by decide) rfl (by decide) (by decide +kernel) (by decide +kernel) (hI 65 (by decide)) ?_
  refine g_pfr (r7_init_86 55 4268) (rfl : (zX.take 66)[54]? = some (7 + 2, zF 7)) (Or.inr ⟨rfl, rfl⟩) rfl ?_
  refine g_al0 (r7_init_89 55 4268) ?_
  refine g_k (r7_init_90 55 4268) ?_
  refine g_eqv (y := nI 30) rfl ?_
  refine g_ni (k := 66) (n := 30) (r7_init_92 55 4268) (by decide) rfl (by decide) (by decide +kernel) (by decide +kernel) (hI 66 (by decide)) ?_
  refine g_pfr (r7_init_94 55 4268) (rfl : (zX.take 67)[54]? = some (7 + 2, zF 7)) (Or.inr ⟨rfl, rfl⟩) rfl ?_
  refine g_al0 (r7_init_97 55 4268) ?_
  refine g_k (r7_init_98 55 4268) ?_
  refine g_eqv (y := nI 30) rfl ?_
  refine g_ni (k := 67) (n := 30) (r7_init_100 55 4268) (by decide) rfl (by decide) (by decide +kernel) (by decide +kernel) (hI 67 (by decide)) ?_
  refine g_pfr (r7_init_102 55 4268) (rfl : (zX.take 68)[54]? = some (7 + 2, zF 7)) (Or.inr ⟨rfl, rfl⟩) rfl ?_
  refine g_al0 (r7_init_105 55 4268) ?_
  refine g_k (r7_init_106 55 4268) ?_
  refine g_eqv (y := nI 90) rfl ?_
  refine g_ni (k := 68) (n := 90) (r7_init_108 55 4268) (by decide) rfl (by decide) (by decide +kernel) (by decide +kernel) (hI 68 (by decide)) ?_
  refine g_pfr (r7_init_110 55 4268) (rfl : (zX.take 69)[54]? = some (7 + 2, zF 7)) (Or.inr ⟨rfl, rfl⟩) rfl ?_
  refine g_al0 (r7_init_113 55 4268) ?_
  refine g_k (r7_init_114 55 4268) ?_
  refine g_eqv (y := nI 4) rfl ?_
  refine g_ni (k := 69) (n := 4) (r7_init_115 55 4268) (by decide) rfl (by decide) (by decide +kernel) (by decide +kernel) (hI 69 (by decide)) ?_
  refine g_pfr (r7_init_117 55 4268) (rfl : (zX.take 70)[54]? = some (7 + 2, zF 7)) (Or.inr ⟨rfl, rfl⟩) rfl ?_
  refine g_al0 (r7_init_120 55 4268) ?_
  refine g_k (r7_init_121 55 4268) ?_
  refine g_eqv (y := nI 4) rfl ?_
  refine g_ni (k := 70) (n := 4) (r7_init_122 55 4268) (by decide) rfl (by decide) (by decide +kernel) (by decide +kernel) (hI 70 (by decide)) ?_
  refine g_pfr (r7_init_124 55 4268) (rfl : (zX.take 71)[54]? = some (7 + 2, zF 7)) (Or.inr ⟨rfl, rfl⟩) rfl ?_
  refine g_al0 (r7_init_127 55 4268) ?_
  refine g_k (r7_init_128 55 4268) ?_
  refine g_eqv (y := nI 4) rfl ?_
  refine g_nz (k := 71) (n := 4) (r7_init_129 55 4268) (by decide) rfl (by decide) (by decide +kernel) (by decide +kernel) (hI 71 (by decide)) ?_
  refine g_pfr (r7_init_131 55 4268) (rfl : (zX.take 72)[54]? = some (7 + 2, zF 7)) (Or.inr ⟨rfl, rfl⟩) rfl ?_
  refine g_al0 (r7_init_134 55 4268) ?_
  refine g_k (r7_init_135 55 4268) ?_
  refine g_eqv (y := nI 10) rfl ?_
  refine g_ni (k := 72) (n := 10) (r7_init_137 55 4268) (by decide) rfl (by decide) (by decide +kernel) (by decide +kernel) (hI 72 (by decide)) ?_
  refine g_pfr (r7_init_139 55 4268) (rfl : (zX.take 73)[54]? = some (7 + 2, zF 7)) (Or.inr ⟨rfl, rfl⟩) rfl ?_
  refine g_al0 (r7_init_142 55 4268) ?_
  refine g_k (r7_init_143 55 4268) ?_
  refine g_eqv (y := nI 10) rfl ?_
  refine g_ni (k := 73) (n := 10) (r7_init_145 55 4268) (by decide) rfl (by decide) (by decide +kernel) (by decide +kernel) (hI 73 (by decide)) ?_
  refine g_pfr (r7_init_147 55 4268) (rfl : (zX.take 74)[54]? = some (7 + 2, zF 7)) (Or.inr ⟨rfl, rfl⟩) rfl ?_
  refine g_al0 (r7_init_150 55 4268) ?_
  refine g_k (r7_init_151 55 4268) ?_
  refine g_eqv (y := nI 10) rfl ?_
  refine g_ni (k := 74) (n := 10) (r7_init_153 55 4268) (by decide) rfl (by decide) (by decide +kernel) (by decide +kernel) (hI 74 (by decide)) ?_
  refine g_pfr (r7_init_155 55 4268) (rfl : (zX.take 75)[54]? = some (7 + 2, zF 7)) (Or.inr ⟨rfl, rfl⟩) rfl ?_
  refine g_al0 (r7_init_158 55 4268) ?_
  refine g_k (r7_init_159 55 4268) ?_
  refine g_eqv (y := nI 10) rfl ?_
  refine g_ni (k := 75) (n := 10) (r7_init_161 55 4268) (by decide) rfl (by decide) (by decide +kernel) (by decide +kernel) (hI 75 (by decide)) ?_
  refine g_pfr (r7_init_163 55 4268) (rfl : (zX.take 76)[54]? = some (7 + 2, zF 7)) (Or.inr ⟨rfl, rfl⟩) rfl ?_
  refine g_al0 (r7_init_166 55 4268) ?_
  refine g_k (r7_init_167 55 4268) ?_
  refine g_eqv (y := nI 10) rfl ?_
  refine g_ni (k := 76) (n := 10) (r7_init_169 55 4268) (by decide) rfl (by decide) (by decide +kernel) (by decide +kernel) (hI 76 (by decide)) ?_
  refine g_pfr (r7_init_171 55 4268) (rfl : (zX.take 77)[54]? = some (7 + 2, zF 7)) (Or.inr ⟨rfl, rfl⟩) rfl ?_
  refine g_al0 (r7_init_174 55 4268) ?_
  refine g_k (r7_init_175 55 4268) ?_
  refine g_eqv (y := nI 256) rfl ?_
  refine g_nz (k := 77) (n := 256) (r7_init_178 55 4268) (by decide) rfl (by decide) (by decide +kernel) (by decide +kernel) (hI 77 (by decide)) ?_
  refine g_pfr (r7_init_180 55 4268) (rfl : (zX.take 78)[54]? = some (7 + 2, zF 7)) (Or.inr ⟨rfl, rfl⟩) rfl ?_
  refine g_al0 (r7_init_183 55 4268) ?_
  refine g_k (r7_init_184 55 4268) ?_
  refine g_eqv (y := nI 256) rfl ?_
  refine g_ni (k := 78) (n := 256) (r7_init_187 55 4268) (by decide) rfl (by decide) (by decide +kernel) (by decide +kernel) (hI 78 (by decide)) ?_
  refine g_pfr (r7_init_189 55 4268) (rfl : (zX.take 79)[54]? = some (7 + 2, zF 7)) (Or.inr ⟨rfl, rfl⟩) rfl ?_
  refine g_al0 (r7_init_192 55 4268) ?_
  refine g_k (r7_init_193 55 4268) ?_
  refine g_eqv (y := nI 30) rfl ?_
  refine g_ni (k := 79) (n := 30) (r7_init_195 55 4268) (by decide) rfl (by decide) (by decide +kernel) (by decide +kernel) (hI 79 (by decide)) ?_
  refine g_pfr (r7_init_197 55 4268) (rfl : (zX.take 80)[54]? = some (7 + 2, zF 7)) (Or.inr ⟨rfl, rfl⟩) rfl ?_
  refine g_al0 (r7_init_200 55 4268) ?_
  refine g_k (r7_init_201 55 4268) ?_
  refine g_eqv (y := nI 30) rfl ?_
  refine g_ni (k := 80) (n := 30) (r7_init_203 55 4268) (by decide) rfl (by decide) (by decide +kernel) (by decide +kernel) (hI 80 (by decide)) ?_
  refine g_pfr (r7_init_205 55 4268) (rfl : (zX.take 81)[54]? = some (7 + 2, zF 7)) (Or.inr ⟨rfl, rfl⟩) rfl ?_
  refine g_al0 (r7_init_208 55 4268) ?_
  refine g_k (r7_init_209 55 4268) ?_
  refine g_eqv (y := nI 30) rfl ?_
  refine g_ni (k := 81) (n := 30) (r7_init_211 55 4268) (by decide) rfl (by decide) (by decide +kernel) (by decide +kernel) (hI 81 (by decide)) ?_
  refine g_pfr (r7_init_213 55 4268) (rfl : (zX.take 82)[54]? = some (7 + 2, zF 7)) (Or.inr ⟨rfl, rfl⟩) rfl ?_
  refine g_al0 (r7_init_216 55 4268) ?_
  refine g_k (r7_init_217 55 4268) ?_
  refine g_eqv (y := nI 256) rfl ?_
  refine g_ni (k := 82) (n := 256) (r7_init_220 55 4268) (by decide) rfl (by decide) (by decide +kernel) (by decide +kernel) (hI 82 (by decide)) ?_
  refine g_pfr (r7_init_222 55 4268) (rfl : (zX.take 83)[54]? = some (7 + 2, zF 7)) (Or.inr ⟨rfl, rfl⟩) rfl ?_
  refine g_al0 (r7_init_225 55 4268) ?_
  refine g_k (r7_init_226 55 4268) ?_
  refine g_eqv (y := nI 256) rfl ?_
  refine g_ni (k := 83) (n := 256) (r7_init_229 55 4268) (by decide) rfl (by decide) (by decide +kernel) (by decide +kernel) (hI 83 (by decide)) ?_
  refine g_pfr (r7_init_231 55 4268) (rfl : (zX.take 84)[54]? = some (7 + 2, zF 7)) (Or.inr ⟨rfl, rfl⟩) rfl ?_
  refine g_vret (r7_init_234 55 4268) rfl ⟨rfl, rfl, zRi_mk hR (by decide) (by decide) (fun a ha => ?_) (fun j => ?_) (fun a a1 a2 => by omega), rfl, rfl⟩
  · funext j; simp [zrs, ha]
  · match j with
    | 0 => exact hR.2.1 54 (by decide) (by decide) 0
    | 1 => rfl
    | 2 => rfl
    | 3 => rfl
    | 4 => exact hR.2.1 54 (by decide) (by decide) 4
    | 5 => exact hR.2.1 54 (by decide) (by decide) 5
    | 6 => rfl
    | 7 => rfl
    | 8 => rfl
    | 9 => rfl
    | 10 => rfl
    | 11 => exact hR.2.1 54 (by decide) (by decide) 11
    | 12 => exact hR.2.1 54 (by decide) (by decide) 12
    | 13 => exact hR.2.1 54 (by decide) (by decide) 13
    | 14 => rfl
    | 15 => rfl
    | 16 => rfl
    | 17 => rfl
    | 18 => rfl
    | 19 => exact hR.2.1 54 (by decide) (by decide) 19
    | 20 => rfl
    | 21 => exact hR.2.1 54 (by decide) (by decide) 21
    | 22 => exact hR.2.1 54 (by decide) (by decide) 22
    | 23 => exact hR.2.1 54 (by decide) (by decide) 23
    | 24 => exact hR.2.1 54 (by decide) (by decide) 24
    | 25 => exact hR.2.1 54 (by decide) (by decide) 25
    | 26 => rfl
    | 27 => rfl
    | 28 => rfl
    | 29 => exact hR.2.1 54 (by decide) (by decide) 29
    | 30 => exact hR.2.1 54 (by decide) (by decide) 30
    | 31 => rfl
    | 32 => rfl
    | 33 => rfl
    | 34 => rfl
    | 35 => rfl
    | 36 => rfl
    | 37 => rfl
    | 38 => exact hR.2.1 54 (by decide) (by decide) 38
    | 39 => rfl
    | 40 => rfl
    | 41 => rfl
    | 42 => rfl
    | 43 => rfl
    | 44 => exact hR.2.1 54 (by decide) (by decide) 44
    | n + 45 => exact (by simp [zrs] : _ = R 54 (n + 45)).trans (hR.2.1 54 (by decide) (by decide) (n + 45))
