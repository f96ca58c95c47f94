theorem ztd_ad {J : zMI} {x g k : Int32} (y : Int32) : ztd (zadN J (jt J) x g k) y (jt J + 1) = ztd J y (jt J) + (if x = y then 1 else 0) := by
  simp only [ztd]
  rw [ztd_px (zPx_ad J x g k) y (jt J) (Nat.le_refl _), zadN_63]
  simp [upd_ap]
