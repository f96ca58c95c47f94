/-- the first t steps are the same -/
def zPx (J J' : zMI) (t : Nat) : Prop := (∀ k, k < t → J' 63 k = J 63 k ∧ J' 64 k = J 64 k ∧ J' 65 k = J 65 k) ∧ J' 59 = J 59 ∧ J' 60 = J 60
theorem zPx_ox {J J' : zMI} (h : zOm J J') (t : Nat) : zPx J J' t := ⟨fun k _ => ⟨congrFun (h.o 63 (by decide) (by decide)) k, congrFun (h.o 64 (by decide) (by decide)) k, congrFun (h.o 65 (by decide) (by decide)) k⟩, h.o 59 (by decide) (by decide), h.o 60 (by decide) (by decide)⟩
theorem zPx_ad (J : zMI) (x g k : Int32) : zPx J (zadN J (jt J) x g k) (jt J) := by
  refine ⟨fun i hi => ?_, zadN_o _ _ _ _ _ (by decide) (by decide), zadN_o _ _ _ _ _ (by decide) (by decide)⟩
  rw [zadN_63, zadN_64, zadN_65]
  simp only [upd_ap, if_neg (show ¬ i = jt J by omega)]
  exact ⟨trivial, trivial, trivial⟩
theorem zPx_le {J J' : zMI} {t s : Nat} (h : zPx J J' t) (hs : s ≤ t) : zPx J J' s := ⟨fun k hk => h.1 k (by omega), h.2⟩
theorem zla_px {J J' : zMI} {c : Nat} {bit : Int32} : ∀ {k : Nat}, (∀ j, j < k → J' c j = J c j) → zla J' bit c k = zla J bit c k
  | 0, _ => rfl
  | k + 1, h => by simp only [zla]; rw [zla_px (fun j hj => h j (by omega)), h k (by omega)]
theorem zlkF_px {J J' : zMI} {t k : Nat} (h : zPx J J' t) (hk : k ≤ t) (a : Nat) : ∀ n, zlkF J' a k n = zlkF J a k n
  | 0 => rfl
  | n + 1 => by
    simp only [zlkF]
    rw [zlkF_px h hk a n, h.2.1, h.2.2, zla_px (c := 64) (fun j hj => (h.1 j (by omega)).2.1), zla_px (c := 65) (fun j hj => (h.1 j (by omega)).2.2)]
theorem zlk_px {J J' : zMI} {t k : Nat} (h : zPx J J' t) (hk : k < t) : zlk J' k = zlk J k := by
  unfold zlk; rw [(h.1 k hk).1, zlkF_px h (by omega)]
theorem zhg_px {J J' : zMI} {t : Nat} (h : zPx J J' t) : ∀ k, k < t → zhg J' k = zhg J k := by
  intro k
  induction k using Nat.strongRecOn with
  | ind k ih =>
    intro hk
    rw [zhg_eq, zhg_eq, zlk_px h hk]
    exact zhf_c (fun e he => ih e he (by omega))
theorem ztd_px {J J' : zMI} {t : Nat} (h : zPx J J' t) (x : Int32) : ∀ k, k ≤ t → ztd J' x k = ztd J x k
  | 0, _ => rfl
  | k + 1, hk => by simp only [ztd]; rw [ztd_px h x k (by omega), (h.1 k (by omega)).1]
theorem zLn_px {J J' : zMI} {t k : Nat} (h : zPx J J' t) (hk : k < t) (e : Nat) : zLn J' k e ↔ zLn J k e := by unfold zLn; rw [zlk_px h hk]
theorem zCt_c {Ln Ln' : Nat → Nat → Prop} {t : Nat} (h : ∀ k e, k < t → (Ln k e ↔ Ln' k e)) {g : Nat → Nat} : zCt Ln t g ↔ zCt Ln' t g :=
  ⟨fun q k e a b c => q k e a b ((h k e b).mpr c), fun q k e a b c => q k e a b ((h k e b).mp c)⟩
theorem zTt_c {Ln Ln' : Nat → Nat → Prop} {t : Nat} (h : ∀ k e, k < t → (Ln k e ↔ Ln' k e)) {f : Nat → Nat} (q : zTt Ln t f) : zTt Ln' t f :=
  ⟨fun k hk => ⟨(q.1 k hk).1, fun g hg => (q.1 k hk).2 g ((zCt_c h).mpr hg)⟩, (zCt_c h).mp q.2⟩
/-- threads of the same steps are the same -/
theorem zth_tt {J : zMI} {f : Nat → Nat} (q : zTt (zLn J) (jt J) f) : (∀ k, k < jt J → f k = zth J k) ∧ zTp J (zth J) ∧ zCm J (zth J) := ⟨zth_of q.1 q.2, zth_sp q.1 q.2⟩
/-- depends, as the class has it -/
theorem zhf_b (L : Int32) (H : Nat → Int32) {i : Nat} : ∀ n, n ≤ 31 → (zBt (zhf L H n) i = true ↔ zBt L i = true ∨ ∃ e, e < n ∧ zBt L e = true ∧ zBt (H e) i = true)
  | 0, _ => by simp [zhf]
  | n + 1, hn => by
    have ih := zhf_b L H (i := i) n (by omega)
    simp only [zhf, zBt_or, Bool.or_eq_true]
    rw [ih]
    have c : zBt (if L >>> (nI n &&& 31) &&& 1 = 1 then H n else 0) i = true ↔ zBt L n = true ∧ zBt (H n) i = true := by
      simp only [zBt_1i (x := L) (show n < 32 by omega)]
      cases zBt L n <;> simp [zBt_0]
    rw [c]
    constructor
    · rintro ((q | ⟨e, a, b⟩) | q)
      · exact Or.inl q
      · exact Or.inr ⟨e, by omega, b⟩
      · exact Or.inr ⟨n, by omega, q⟩
    · rintro (q | ⟨e, a, b⟩)
      · exact Or.inl (Or.inl q)
      · by_cases r : e = n
        · rw [r] at b; exact Or.inr b
        · exact Or.inl (Or.inr ⟨e, by omega, b⟩)
