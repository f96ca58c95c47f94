section OM
variable {J J' J'' : zMI}
theorem zOm.refl (J : zMI) : zOm J J := ⟨fun _ _ _ => rfl, fun _ _ => rfl⟩
theorem zOm.trans (h : zOm J J') (h' : zOm J' J'') : zOm J J'' := ⟨fun k h1 h2 => (h'.o k h1 h2).trans (h.o k h1 h2), fun j h1 => (h'.f j h1).trans (h.f j h1)⟩
theorem zOm.symm (h : zOm J J') : zOm J' J := ⟨fun k h1 h2 => (h.o k h1 h2).symm, fun j h1 => (h.f j h1).symm⟩
theorem zlk_om (h : zOm J J') : zlk J' = zlk J := by funext k; exact zlk_px (zPx_ox h (k + 1)) (by omega)
theorem zhg_om (h : zOm J J') : zhg J' = zhg J := by funext k; exact zhg_px (zPx_ox h (k + 1)) k (by omega)
theorem zCm_om (h : zOm J J') : zCm J' = zCm J := by funext g; unfold zCm zLn; rw [zlk_om h, jt_ox h]
theorem zTp_om (h : zOm J J') : zTp J' = zTp J := by funext g; unfold zTp; rw [zCm_om h, jt_ox h]
theorem zth_om (h : zOm J J') : zth J' = zth J := by unfold zth; rw [zCm_om h, zTp_om h]
theorem zTa_om (h : zOm J J') (x : Nat) : zTa J' x = zTa J x := by unfold zTa; rw [zth_om h]
theorem zdS_om (h : zOm J J') (x ss : Int32) : ∀ k, zdS J' x ss k = zdS J x ss k
  | 0 => by simp only [zdS, h.f 0 (by decide), h.f 4 (by decide), h.f 5 (by decide), h.f 11 (by decide), h.f 12 (by decide), h.f 13 (by decide), h.f 19 (by decide), h.f 21 (by decide), h.f 22 (by decide), h.f 23 (by decide), h.o 55 (by decide) (by decide), h.o 56 (by decide) (by decide), h.o 57 (by decide) (by decide), h.o 58 (by decide) (by decide), h.o 59 (by decide) (by decide), h.o 60 (by decide) (by decide), h.o 61 (by decide) (by decide), h.o 62 (by decide) (by decide), h.o 63 (by decide) (by decide), h.o 64 (by decide) (by decide), h.o 65 (by decide) (by decide), h.o 66 (by decide) (by decide), h.o 67 (by decide) (by decide), h.o 68 (by decide) (by decide)]
  | k + 1 => by simp only [zdS, zdS_om h x ss k, h.f 0 (by decide), h.f 4 (by decide), h.f 5 (by decide), h.f 11 (by decide), h.f 12 (by decide), h.f 13 (by decide), h.f 19 (by decide), h.f 21 (by decide), h.f 22 (by decide), h.f 23 (by decide), h.o 55 (by decide) (by decide), h.o 56 (by decide) (by decide), h.o 57 (by decide) (by decide), h.o 58 (by decide) (by decide), h.o 59 (by decide) (by decide), h.o 60 (by decide) (by decide), h.o 61 (by decide) (by decide), h.o 62 (by decide) (by decide), h.o 63 (by decide) (by decide), h.o 64 (by decide) (by decide), h.o 65 (by decide) (by decide), h.o 66 (by decide) (by decide), h.o 67 (by decide) (by decide), h.o 68 (by decide) (by decide)]
theorem zdI_om (h : zOm J J') (x ss : Int32) : ∀ k, zdI J' x ss k = zdI J x ss k
  | 0 => by simp only [zdI, h.f 0 (by decide), h.f 4 (by decide), h.f 5 (by decide), h.f 11 (by decide), h.f 12 (by decide), h.f 13 (by decide), h.f 19 (by decide), h.f 21 (by decide), h.f 22 (by decide), h.f 23 (by decide), h.o 55 (by decide) (by decide), h.o 56 (by decide) (by decide), h.o 57 (by decide) (by decide), h.o 58 (by decide) (by decide), h.o 59 (by decide) (by decide), h.o 60 (by decide) (by decide), h.o 61 (by decide) (by decide), h.o 62 (by decide) (by decide), h.o 63 (by decide) (by decide), h.o 64 (by decide) (by decide), h.o 65 (by decide) (by decide), h.o 66 (by decide) (by decide), h.o 67 (by decide) (by decide), h.o 68 (by decide) (by decide)]
  | k + 1 => by simp only [zdI, zdI_om h x ss k, h.f 0 (by decide), h.f 4 (by decide), h.f 5 (by decide), h.f 11 (by decide), h.f 12 (by decide), h.f 13 (by decide), h.f 19 (by decide), h.f 21 (by decide), h.f 22 (by decide), h.f 23 (by decide), h.o 55 (by decide) (by decide), h.o 56 (by decide) (by decide), h.o 57 (by decide) (by decide), h.o 58 (by decide) (by decide), h.o 59 (by decide) (by decide), h.o 60 (by decide) (by decide), h.o 61 (by decide) (by decide), h.o 62 (by decide) (by decide), h.o 63 (by decide) (by decide), h.o 64 (by decide) (by decide), h.o 65 (by decide) (by decide), h.o 66 (by decide) (by decide), h.o 67 (by decide) (by decide), h.o 68 (by decide) (by decide), zdS_om h]
theorem zdu_om (h : zOm J J') (x ss : Int32) : zdu J' x ss = zdu J x ss := by simp only [zdu, zdI_om h, zdS_om h, zwi_ox h, jn_ox h, jm_ox h, jt_ox h, js_ox h, ju_ox h, jL_ox h, h.f 0 (by decide), h.f 4 (by decide), h.f 5 (by decide), h.f 11 (by decide), h.f 12 (by decide), h.f 13 (by decide), h.f 19 (by decide), h.f 21 (by decide), h.f 22 (by decide), h.f 23 (by decide), h.o 55 (by decide) (by decide), h.o 56 (by decide) (by decide), h.o 57 (by decide) (by decide), h.o 58 (by decide) (by decide), h.o 59 (by decide) (by decide), h.o 60 (by decide) (by decide), h.o 61 (by decide) (by decide), h.o 62 (by decide) (by decide), h.o 63 (by decide) (by decide), h.o 64 (by decide) (by decide), h.o 65 (by decide) (by decide), h.o 66 (by decide) (by decide), h.o 67 (by decide) (by decide), h.o 68 (by decide) (by decide)]
theorem zal_om (h : zOm J J')  : zal J' = zal J := by simp only [zal, h.f 0 (by decide), h.f 4 (by decide), h.f 5 (by decide), h.f 11 (by decide), h.f 12 (by decide), h.f 13 (by decide), h.f 19 (by decide), h.f 21 (by decide), h.f 22 (by decide), h.f 23 (by decide), h.o 55 (by decide) (by decide), h.o 56 (by decide) (by decide), h.o 57 (by decide) (by decide), h.o 58 (by decide) (by decide), h.o 59 (by decide) (by decide), h.o 60 (by decide) (by decide), h.o 61 (by decide) (by decide), h.o 62 (by decide) (by decide), h.o 63 (by decide) (by decide), h.o 64 (by decide) (by decide), h.o 65 (by decide) (by decide), h.o 66 (by decide) (by decide), h.o 67 (by decide) (by decide), h.o 68 (by decide) (by decide)]
theorem zdm_om (h : zOm J J')  : ∀ k, zdm J' k = zdm J k
  | 0 => by simp only [zdm, h.f 0 (by decide), h.f 4 (by decide), h.f 5 (by decide), h.f 11 (by decide), h.f 12 (by decide), h.f 13 (by decide), h.f 19 (by decide), h.f 21 (by decide), h.f 22 (by decide), h.f 23 (by decide), h.o 55 (by decide) (by decide), h.o 56 (by decide) (by decide), h.o 57 (by decide) (by decide), h.o 58 (by decide) (by decide), h.o 59 (by decide) (by decide), h.o 60 (by decide) (by decide), h.o 61 (by decide) (by decide), h.o 62 (by decide) (by decide), h.o 63 (by decide) (by decide), h.o 64 (by decide) (by decide), h.o 65 (by decide) (by decide), h.o 66 (by decide) (by decide), h.o 67 (by decide) (by decide), h.o 68 (by decide) (by decide)]
  | k + 1 => by simp only [zdm, zdm_om h  k, h.f 0 (by decide), h.f 4 (by decide), h.f 5 (by decide), h.f 11 (by decide), h.f 12 (by decide), h.f 13 (by decide), h.f 19 (by decide), h.f 21 (by decide), h.f 22 (by decide), h.f 23 (by decide), h.o 55 (by decide) (by decide), h.o 56 (by decide) (by decide), h.o 57 (by decide) (by decide), h.o 58 (by decide) (by decide), h.o 59 (by decide) (by decide), h.o 60 (by decide) (by decide), h.o 61 (by decide) (by decide), h.o 62 (by decide) (by decide), h.o 63 (by decide) (by decide), h.o 64 (by decide) (by decide), h.o 65 (by decide) (by decide), h.o 66 (by decide) (by decide), h.o 67 (by decide) (by decide), h.o 68 (by decide) (by decide), zdu_om h, zal_om h]
theorem zfd_om (h : zOm J J') (s : Int32) : zfd J' s = zfd J s := by simp only [zfd, zdu_om h, jt_ox h]
theorem zcut_om (h : zOm J J') : ∀ f s, zcut J' f s = zcut J f s
  | 0, s => rfl
  | f + 1, s => by simp only [zcut, zfd_om h, zcut_om h f]
theorem zlM_om (h : zOm J J')  : ∀ k, zlM J' k = zlM J k
  | 0 => by simp only [zlM, h.f 0 (by decide), h.f 4 (by decide), h.f 5 (by decide), h.f 11 (by decide), h.f 12 (by decide), h.f 13 (by decide), h.f 19 (by decide), h.f 21 (by decide), h.f 22 (by decide), h.f 23 (by decide), h.o 55 (by decide) (by decide), h.o 56 (by decide) (by decide), h.o 57 (by decide) (by decide), h.o 58 (by decide) (by decide), h.o 59 (by decide) (by decide), h.o 60 (by decide) (by decide), h.o 61 (by decide) (by decide), h.o 62 (by decide) (by decide), h.o 63 (by decide) (by decide), h.o 64 (by decide) (by decide), h.o 65 (by decide) (by decide), h.o 66 (by decide) (by decide), h.o 67 (by decide) (by decide), h.o 68 (by decide) (by decide)]
  | k + 1 => by simp only [zlM, zlM_om h  k, h.f 0 (by decide), h.f 4 (by decide), h.f 5 (by decide), h.f 11 (by decide), h.f 12 (by decide), h.f 13 (by decide), h.f 19 (by decide), h.f 21 (by decide), h.f 22 (by decide), h.f 23 (by decide), h.o 55 (by decide) (by decide), h.o 56 (by decide) (by decide), h.o 57 (by decide) (by decide), h.o 58 (by decide) (by decide), h.o 59 (by decide) (by decide), h.o 60 (by decide) (by decide), h.o 61 (by decide) (by decide), h.o 62 (by decide) (by decide), h.o 63 (by decide) (by decide), h.o 64 (by decide) (by decide), h.o 65 (by decide) (by decide), h.o 66 (by decide) (by decide), h.o 67 (by decide) (by decide), h.o 68 (by decide) (by decide), zlk_om h]
theorem zfr_om (h : zOm J J')  : ∀ k, zfr J' k = zfr J k
  | 0 => by simp only [zfr, h.f 0 (by decide), h.f 4 (by decide), h.f 5 (by decide), h.f 11 (by decide), h.f 12 (by decide), h.f 13 (by decide), h.f 19 (by decide), h.f 21 (by decide), h.f 22 (by decide), h.f 23 (by decide), h.o 55 (by decide) (by decide), h.o 56 (by decide) (by decide), h.o 57 (by decide) (by decide), h.o 58 (by decide) (by decide), h.o 59 (by decide) (by decide), h.o 60 (by decide) (by decide), h.o 61 (by decide) (by decide), h.o 62 (by decide) (by decide), h.o 63 (by decide) (by decide), h.o 64 (by decide) (by decide), h.o 65 (by decide) (by decide), h.o 66 (by decide) (by decide), h.o 67 (by decide) (by decide), h.o 68 (by decide) (by decide)]
  | k + 1 => by simp only [zfr, zfr_om h  k, h.f 0 (by decide), h.f 4 (by decide), h.f 5 (by decide), h.f 11 (by decide), h.f 12 (by decide), h.f 13 (by decide), h.f 19 (by decide), h.f 21 (by decide), h.f 22 (by decide), h.f 23 (by decide), h.o 55 (by decide) (by decide), h.o 56 (by decide) (by decide), h.o 57 (by decide) (by decide), h.o 58 (by decide) (by decide), h.o 59 (by decide) (by decide), h.o 60 (by decide) (by decide), h.o 61 (by decide) (by decide), h.o 62 (by decide) (by decide), h.o 63 (by decide) (by decide), h.o 64 (by decide) (by decide), h.o 65 (by decide) (by decide), h.o 66 (by decide) (by decide), h.o 67 (by decide) (by decide), h.o 68 (by decide) (by decide), zlk_om h]
theorem zsN_om (h : zOm J J') (k : Nat) (x : Int32) : zsN J' k x = zsN J k x := by simp only [zsN, zlk_om h, zhg_om h, zth_om h, zTa_om h, zdu_om h, zal_om h, h.f 0 (by decide), h.f 4 (by decide), h.f 5 (by decide), h.f 11 (by decide), h.f 12 (by decide), h.f 13 (by decide), h.f 19 (by decide), h.f 21 (by decide), h.f 22 (by decide), h.f 23 (by decide), h.o 55 (by decide) (by decide), h.o 56 (by decide) (by decide), h.o 57 (by decide) (by decide), h.o 58 (by decide) (by decide), h.o 59 (by decide) (by decide), h.o 60 (by decide) (by decide), h.o 61 (by decide) (by decide), h.o 62 (by decide) (by decide), h.o 63 (by decide) (by decide), h.o 64 (by decide) (by decide), h.o 65 (by decide) (by decide), h.o 66 (by decide) (by decide), h.o 67 (by decide) (by decide), h.o 68 (by decide) (by decide)]
theorem zsyN_om (h : zOm J J') (x : Int32) : zsyN J' x = zsyN J x := by simp only [zsyN, zTa_om h, zdm_om h, zcut_om h, zal_om h, zwi_ox h, zlM_om h, zfr_om h, jn_ox h, jm_ox h, jt_ox h, js_ox h, ju_ox h, jL_ox h, h.f 0 (by decide), h.f 4 (by decide), h.f 5 (by decide), h.f 11 (by decide), h.f 12 (by decide), h.f 13 (by decide), h.f 19 (by decide), h.f 21 (by decide), h.f 22 (by decide), h.f 23 (by decide), h.o 55 (by decide) (by decide), h.o 56 (by decide) (by decide), h.o 57 (by decide) (by decide), h.o 58 (by decide) (by decide), h.o 59 (by decide) (by decide), h.o 60 (by decide) (by decide), h.o 61 (by decide) (by decide), h.o 62 (by decide) (by decide), h.o 63 (by decide) (by decide), h.o 64 (by decide) (by decide), h.o 65 (by decide) (by decide), h.o 66 (by decide) (by decide), h.o 67 (by decide) (by decide), h.o 68 (by decide) (by decide)]
theorem zwsm_om (h : zOm J J') (F : Nat → Nat) (s : Nat) : ∀ a, zwsm J' F s a = zwsm J F s a
  | 0 => rfl
  | a + 1 => by simp only [zwsm, zwsm_om h F s a, zNx_ox h, h.f 0 (by decide), h.f 4 (by decide), h.f 5 (by decide), h.f 11 (by decide), h.f 12 (by decide), h.f 13 (by decide), h.f 19 (by decide), h.f 21 (by decide), h.f 22 (by decide), h.f 23 (by decide), h.o 55 (by decide) (by decide), h.o 56 (by decide) (by decide), h.o 57 (by decide) (by decide), h.o 58 (by decide) (by decide), h.o 59 (by decide) (by decide), h.o 60 (by decide) (by decide), h.o 61 (by decide) (by decide), h.o 62 (by decide) (by decide), h.o 63 (by decide) (by decide), h.o 64 (by decide) (by decide), h.o 65 (by decide) (by decide), h.o 66 (by decide) (by decide), h.o 67 (by decide) (by decide), h.o 68 (by decide) (by decide)]
theorem zwF_om (h : zOm J J') : ∀ k, zwF J' k = zwF J k
  | 0 => by funext s; simp only [zwF, zwi_ox h, jn_ox h]
  | k + 1 => by funext s; simp only [zwF, zwst, zwF_om h k, zwsm_om h, jm_ox h]
theorem zoN_om (h : zOm J J') (q : Nat) (x : Int32) : zoN J' q x = zoN J q x := by simp only [zoN, zao_ox h, zsb_ox h, zPm_ox h, zPd_ox h, zwd_ox h, jn_ox h, jm_ox h, jt_ox h, js_ox h, ju_ox h, jL_ox h, h.f 0 (by decide), h.f 4 (by decide), h.f 5 (by decide), h.f 11 (by decide), h.f 12 (by decide), h.f 13 (by decide), h.f 19 (by decide), h.f 21 (by decide), h.f 22 (by decide), h.f 23 (by decide), h.o 55 (by decide) (by decide), h.o 56 (by decide) (by decide), h.o 57 (by decide) (by decide), h.o 58 (by decide) (by decide), h.o 59 (by decide) (by decide), h.o 60 (by decide) (by decide), h.o 61 (by decide) (by decide), h.o 62 (by decide) (by decide), h.o 63 (by decide) (by decide), h.o 64 (by decide) (by decide), h.o 65 (by decide) (by decide), h.o 66 (by decide) (by decide), h.o 67 (by decide) (by decide), h.o 68 (by decide) (by decide)]
theorem zPn_om (h : zOm J J') (q : Nat) (x : Int32) : zPn J' q x = zPn J q x := by simp only [zPn, zPm_ox h, zPd_ox h]
theorem ztoN_om (h : zOm J J') (x : Int32) : ztoN J' x = ztoN J x := by simp only [ztoN, zTm_ox h, zTd_ox h]
theorem zabR_om (h : zOm J J') (x : Int32) : zabR J' (jn J') x = zabR J (jn J) x := by simp only [zabR, zabN_ox h, jn_ox h, h.f 0 (by decide), h.f 4 (by decide), h.f 5 (by decide), h.f 11 (by decide), h.f 12 (by decide), h.f 13 (by decide), h.f 19 (by decide), h.f 21 (by decide), h.f 22 (by decide), h.f 23 (by decide), h.o 55 (by decide) (by decide), h.o 56 (by decide) (by decide), h.o 57 (by decide) (by decide), h.o 58 (by decide) (by decide), h.o 59 (by decide) (by decide), h.o 60 (by decide) (by decide), h.o 61 (by decide) (by decide), h.o 62 (by decide) (by decide), h.o 63 (by decide) (by decide), h.o 64 (by decide) (by decide), h.o 65 (by decide) (by decide), h.o 66 (by decide) (by decide), h.o 67 (by decide) (by decide), h.o 68 (by decide) (by decide)]
theorem zonR_om (h : zOm J J') (y x : Int32) : zonR J' y x = zonR J y x := by simp only [zonR, zoN_om h, h.f 0 (by decide), h.f 4 (by decide), h.f 5 (by decide), h.f 11 (by decide), h.f 12 (by decide), h.f 13 (by decide), h.f 19 (by decide), h.f 21 (by decide), h.f 22 (by decide), h.f 23 (by decide), h.o 55 (by decide) (by decide), h.o 56 (by decide) (by decide), h.o 57 (by decide) (by decide), h.o 58 (by decide) (by decide), h.o 59 (by decide) (by decide), h.o 60 (by decide) (by decide), h.o 61 (by decide) (by decide), h.o 62 (by decide) (by decide), h.o 63 (by decide) (by decide), h.o 64 (by decide) (by decide), h.o 65 (by decide) (by decide), h.o 66 (by decide) (by decide), h.o 67 (by decide) (by decide), h.o 68 (by decide) (by decide)]
theorem zplR_om (h : zOm J J') (y x : Int32) : zplR J' y x = zplR J y x := by simp only [zplR, zPn_om h, h.f 0 (by decide), h.f 4 (by decide), h.f 5 (by decide), h.f 11 (by decide), h.f 12 (by decide), h.f 13 (by decide), h.f 19 (by decide), h.f 21 (by decide), h.f 22 (by decide), h.f 23 (by decide), h.o 55 (by decide) (by decide), h.o 56 (by decide) (by decide), h.o 57 (by decide) (by decide), h.o 58 (by decide) (by decide), h.o 59 (by decide) (by decide), h.o 60 (by decide) (by decide), h.o 61 (by decide) (by decide), h.o 62 (by decide) (by decide), h.o 63 (by decide) (by decide), h.o 64 (by decide) (by decide), h.o 65 (by decide) (by decide), h.o 66 (by decide) (by decide), h.o 67 (by decide) (by decide), h.o 68 (by decide) (by decide)]
theorem zfoR_om (h : zOm J J') (y z x : Int32) : zfoR J' y z x = zfoR J y z x := by simp only [zfoR, zFd_ox h, h.f 0 (by decide), h.f 4 (by decide), h.f 5 (by decide), h.f 11 (by decide), h.f 12 (by decide), h.f 13 (by decide), h.f 19 (by decide), h.f 21 (by decide), h.f 22 (by decide), h.f 23 (by decide), h.o 55 (by decide) (by decide), h.o 56 (by decide) (by decide), h.o 57 (by decide) (by decide), h.o 58 (by decide) (by decide), h.o 59 (by decide) (by decide), h.o 60 (by decide) (by decide), h.o 61 (by decide) (by decide), h.o 62 (by decide) (by decide), h.o 63 (by decide) (by decide), h.o 64 (by decide) (by decide), h.o 65 (by decide) (by decide), h.o 66 (by decide) (by decide), h.o 67 (by decide) (by decide), h.o 68 (by decide) (by decide)]
theorem zdeR_om (h : zOm J J') (y x : Int32) : zdeR J' (jt J') (jm J') y x = zdeR J (jt J) (jm J) y x := by simp only [zdeR, zdeN_ox h, jt_ox h, jm_ox h, h.f 0 (by decide), h.f 4 (by decide), h.f 5 (by decide), h.f 11 (by decide), h.f 12 (by decide), h.f 13 (by decide), h.f 19 (by decide), h.f 21 (by decide), h.f 22 (by decide), h.f 23 (by decide), h.o 55 (by decide) (by decide), h.o 56 (by decide) (by decide), h.o 57 (by decide) (by decide), h.o 58 (by decide) (by decide), h.o 59 (by decide) (by decide), h.o 60 (by decide) (by decide), h.o 61 (by decide) (by decide), h.o 62 (by decide) (by decide), h.o 63 (by decide) (by decide), h.o 64 (by decide) (by decide), h.o 65 (by decide) (by decide), h.o 66 (by decide) (by decide), h.o 67 (by decide) (by decide), h.o 68 (by decide) (by decide)]
theorem zstR_om (h : zOm J J') (y x : Int32) : zstR J' y x = zstR J y x := by simp only [zstR, zsN_om h, h.f 0 (by decide), h.f 4 (by decide), h.f 5 (by decide), h.f 11 (by decide), h.f 12 (by decide), h.f 13 (by decide), h.f 19 (by decide), h.f 21 (by decide), h.f 22 (by decide), h.f 23 (by decide), h.o 55 (by decide) (by decide), h.o 56 (by decide) (by decide), h.o 57 (by decide) (by decide), h.o 58 (by decide) (by decide), h.o 59 (by decide) (by decide), h.o 60 (by decide) (by decide), h.o 61 (by decide) (by decide), h.o 62 (by decide) (by decide), h.o 63 (by decide) (by decide), h.o 64 (by decide) (by decide), h.o 65 (by decide) (by decide), h.o 66 (by decide) (by decide), h.o 67 (by decide) (by decide), h.o 68 (by decide) (by decide)]
theorem zsyR_om (h : zOm J J') (x : Int32) : zsyR J' x = zsyR J x := by simp only [zsyR, zsyN_om h, h.f 0 (by decide), h.f 4 (by decide), h.f 5 (by decide), h.f 11 (by decide), h.f 12 (by decide), h.f 13 (by decide), h.f 19 (by decide), h.f 21 (by decide), h.f 22 (by decide), h.f 23 (by decide), h.o 55 (by decide) (by decide), h.o 56 (by decide) (by decide), h.o 57 (by decide) (by decide), h.o 58 (by decide) (by decide), h.o 59 (by decide) (by decide), h.o 60 (by decide) (by decide), h.o 61 (by decide) (by decide), h.o 62 (by decide) (by decide), h.o 63 (by decide) (by decide), h.o 64 (by decide) (by decide), h.o 65 (by decide) (by decide), h.o 66 (by decide) (by decide), h.o 67 (by decide) (by decide), h.o 68 (by decide) (by decide)]
theorem ztoR_om (h : zOm J J') (x : Int32) : ztoR J' x = ztoR J x := by simp only [ztoR, ztoN_om h, h.f 0 (by decide), h.f 4 (by decide), h.f 5 (by decide), h.f 11 (by decide), h.f 12 (by decide), h.f 13 (by decide), h.f 19 (by decide), h.f 21 (by decide), h.f 22 (by decide), h.f 23 (by decide), h.o 55 (by decide) (by decide), h.o 56 (by decide) (by decide), h.o 57 (by decide) (by decide), h.o 58 (by decide) (by decide), h.o 59 (by decide) (by decide), h.o 60 (by decide) (by decide), h.o 61 (by decide) (by decide), h.o 62 (by decide) (by decide), h.o 63 (by decide) (by decide), h.o 64 (by decide) (by decide), h.o 65 (by decide) (by decide), h.o 66 (by decide) (by decide), h.o 67 (by decide) (by decide), h.o 68 (by decide) (by decide)]
theorem zwyR_om (h : zOm J J') (x : Int32) : zwyR J' x = zwyR J x := by simp only [zwyR, zwF_om h, js_ox h, h.f 0 (by decide), h.f 4 (by decide), h.f 5 (by decide), h.f 11 (by decide), h.f 12 (by decide), h.f 13 (by decide), h.f 19 (by decide), h.f 21 (by decide), h.f 22 (by decide), h.f 23 (by decide), h.o 55 (by decide) (by decide), h.o 56 (by decide) (by decide), h.o 57 (by decide) (by decide), h.o 58 (by decide) (by decide), h.o 59 (by decide) (by decide), h.o 60 (by decide) (by decide), h.o 61 (by decide) (by decide), h.o 62 (by decide) (by decide), h.o 63 (by decide) (by decide), h.o 64 (by decide) (by decide), h.o 65 (by decide) (by decide), h.o 66 (by decide) (by decide), h.o 67 (by decide) (by decide), h.o 68 (by decide) (by decide)]
theorem zfaR_om (h : zOm J J') (x : Int32) : zfaR J' x = zfaR J x := by simp only [zfaR, h.f 0 (by decide), h.f 4 (by decide), h.f 5 (by decide), h.f 11 (by decide), h.f 12 (by decide), h.f 13 (by decide), h.f 19 (by decide), h.f 21 (by decide), h.f 22 (by decide), h.f 23 (by decide), h.o 55 (by decide) (by decide), h.o 56 (by decide) (by decide), h.o 57 (by decide) (by decide), h.o 58 (by decide) (by decide), h.o 59 (by decide) (by decide), h.o 60 (by decide) (by decide), h.o 61 (by decide) (by decide), h.o 62 (by decide) (by decide), h.o 63 (by decide) (by decide), h.o 64 (by decide) (by decide), h.o 65 (by decide) (by decide), h.o 66 (by decide) (by decide), h.o 67 (by decide) (by decide), h.o 68 (by decide) (by decide)]
theorem zacR_om (h : zOm J J') (x : Int32) : zacR J' x = zacR J x := by simp only [zacR, h.f 0 (by decide), h.f 4 (by decide), h.f 5 (by decide), h.f 11 (by decide), h.f 12 (by decide), h.f 13 (by decide), h.f 19 (by decide), h.f 21 (by decide), h.f 22 (by decide), h.f 23 (by decide), h.o 55 (by decide) (by decide), h.o 56 (by decide) (by decide), h.o 57 (by decide) (by decide), h.o 58 (by decide) (by decide), h.o 59 (by decide) (by decide), h.o 60 (by decide) (by decide), h.o 61 (by decide) (by decide), h.o 62 (by decide) (by decide), h.o 63 (by decide) (by decide), h.o 64 (by decide) (by decide), h.o 65 (by decide) (by decide), h.o 66 (by decide) (by decide), h.o 67 (by decide) (by decide), h.o 68 (by decide) (by decide)]
theorem zunR_om (h : zOm J J')  : zunR J' = zunR J := by simp only [zunR, h.f 0 (by decide), h.f 4 (by decide), h.f 5 (by decide), h.f 11 (by decide), h.f 12 (by decide), h.f 13 (by decide), h.f 19 (by decide), h.f 21 (by decide), h.f 22 (by decide), h.f 23 (by decide), h.o 55 (by decide) (by decide), h.o 56 (by decide) (by decide), h.o 57 (by decide) (by decide), h.o 58 (by decide) (by decide), h.o 59 (by decide) (by decide), h.o 60 (by decide) (by decide), h.o 61 (by decide) (by decide), h.o 62 (by decide) (by decide), h.o 63 (by decide) (by decide), h.o 64 (by decide) (by decide), h.o 65 (by decide) (by decide), h.o 66 (by decide) (by decide), h.o 67 (by decide) (by decide), h.o 68 (by decide) (by decide)]
theorem zletR_om (h : zOm J J') (x : Int32) : zletR J' x = zletR J x := by simp only [zletR, h.f 0 (by decide), h.f 4 (by decide), h.f 5 (by decide), h.f 11 (by decide), h.f 12 (by decide), h.f 13 (by decide), h.f 19 (by decide), h.f 21 (by decide), h.f 22 (by decide), h.f 23 (by decide), h.o 55 (by decide) (by decide), h.o 56 (by decide) (by decide), h.o 57 (by decide) (by decide), h.o 58 (by decide) (by decide), h.o 59 (by decide) (by decide), h.o 60 (by decide) (by decide), h.o 61 (by decide) (by decide), h.o 62 (by decide) (by decide), h.o 63 (by decide) (by decide), h.o 64 (by decide) (by decide), h.o 65 (by decide) (by decide), h.o 66 (by decide) (by decide), h.o 67 (by decide) (by decide), h.o 68 (by decide) (by decide)]
theorem zdP_om (h : zOm J J') : ∀ k x, zdP J' k x = zdP J k x
  | 0, x => rfl
  | k + 1, x => by simp only [zdP, zdP_om h k, zPd_ox h, zPm_ox h, zoN_om h]
theorem zdA_om (h : zOm J J') : ∀ k x, zdA J' k x = zdA J k x
  | 0, x => rfl
  | k + 1, x => by simp only [zdA, zdA_om h k, zdeN_ox h, jt_ox h]
theorem zdS2_om (h : zOm J J') : ∀ k x, zdS2 J' k x = zdS2 J k x
  | 0, x => rfl
  | k + 1, x => by simp only [zdS2, zdS2_om h k, zsN_om h]
theorem zdM_om (h : zOm J J') (x : Int64) : zdM J' x = zdM J x := by simp only [zdM, zdA_om h, zdP_om h, zabN_ox h, jn_ox h, jm_ox h, jt_ox h, js_ox h, ju_ox h, jL_ox h]
theorem zdN_om (h : zOm J J') (x : Int64) : zdN J' x = zdN J x := by simp only [zdN, zwF_om h, zTd_ox h, zTm_ox h, zsyN_om h, zdS2_om h, jn_ox h, jm_ox h, jt_ox h, js_ox h, ju_ox h, jL_ox h]
theorem zdg_om (h : zOm J J') : zdg J' = zdg J := by simp only [zdg, zdN_om h, zdM_om h, zhmR_ox h, jn_ox h, jm_ox h, jt_ox h, js_ox h, ju_ox h, jL_ox h, h.f 0 (by decide), h.f 4 (by decide), h.f 5 (by decide), h.f 11 (by decide), h.f 12 (by decide), h.f 13 (by decide), h.f 19 (by decide), h.f 21 (by decide), h.f 22 (by decide), h.f 23 (by decide), h.o 55 (by decide) (by decide), h.o 56 (by decide) (by decide), h.o 57 (by decide) (by decide), h.o 58 (by decide) (by decide), h.o 59 (by decide) (by decide), h.o 60 (by decide) (by decide), h.o 61 (by decide) (by decide), h.o 62 (by decide) (by decide), h.o 63 (by decide) (by decide), h.o 64 (by decide) (by decide), h.o 65 (by decide) (by decide), h.o 66 (by decide) (by decide), h.o 67 (by decide) (by decide), h.o 68 (by decide) (by decide)]
theorem zpt_om (h : zOm J J') (W : zWF J) {i : Nat} (hi : i ≤ jL J) : zpt J' (J' 68) i ↔ zpt J (J 68) i := by
  have e := h.o 68 (by decide) (by decide)
  have a := (zrun (I := J) (J := J') (v := 34) (g := J 68) (f := J' 68) (Or.inl rfl) (L := jL J) (fun j hj => ⟨by rw [e], by rw [e]; exact W.Gc j hj⟩) i hi).1
  have b := (zrun (I := J) (J := J) (v := 34) (g := J 68) (f := J 68) (Or.inl rfl) (L := jL J) (fun j hj => ⟨rfl, W.Gc j hj⟩) i hi).1
  exact a.symm.trans b
theorem zfk_om (h : zOm J J') (W : zWF J) : zfk J' = zfk J := by
  have e : zFk J' = zFk J := by
    funext k
    unfold zFk
    rw [jL_ox h]
    apply propext
    constructor
    · rintro ⟨a, b, c⟩
      exact ⟨a, (zpt_om h W a).mp b, c.imp id (fun ⟨p, q⟩ => ⟨p, fun z => q ((zpt_om h W p).mpr z)⟩)⟩
    · rintro ⟨a, b, c⟩
      exact ⟨a, (zpt_om h W a).mpr b, c.imp id (fun ⟨p, q⟩ => ⟨p, fun z => q ((zpt_om h W p).mp z)⟩)⟩
  unfold zfk; rw [e]
theorem zadN_om (h : zOm J J') (t : Nat) (x g k : Int32) : zOm (zadN J t x g k) (zadN J' t x g k) := by
  refine ⟨fun c h1 h2 => ?_, fun j h1 => ?_⟩
  · simp only [zadN, zs_ap, if_neg h1, h.o 63 (by decide) (by decide), h.o 64 (by decide) (by decide), h.o 65 (by decide) (by decide), h.o 66 (by decide) (by decide), h.o 67 (by decide) (by decide), h.f 11 (by decide), h.f 12 (by decide), h.o c h1 h2]
  · simp only [zadN, zs_ap, upd_ap, if_true, h.f j h1, h.f 11 (by decide), h.f 13 (by decide)]
theorem ztk_om (h : zOm J J') : zOm (ztk J) (ztk J') := by
  refine ⟨fun k h1 h2 => ?_, fun j h1 => ?_⟩
  · simp only [ztk, zs_ap, if_neg h1]; exact h.o k h1 h2
  · simp only [ztk, zs_ap, upd_ap, if_true, h.f j h1, h.f 12 (by decide), h.f 22 (by decide)]
theorem zpN1_om (h : zOm J J') (x : Int32) : zOm (zpN1 J x) (zpN1 J' x) := by
  unfold zpN1
  split
  · exact h
  · rw [jt_ox h, h.o 61 (by decide) (by decide), h.o 62 (by decide) (by decide)]; exact zadN_om h _ _ _ _
theorem zpN_om (h : zOm J J') : zOm (zpN J) (zpN J') := by
  unfold zpN
  rw [zwd_ox h, ju_ox h, jn_ox h]
  exact ztk_om (zpN1_om h _)
theorem zgN_om : ∀ n {J J' : zMI}, zOm J J' → zOm (zgN J n) (zgN J' n)
  | 0, _, _, h => h
  | n + 1, J, J', h => by
    simp only [zgN]
    rw [jt_ox h]
    split
    · exact zgN_om n (zpN_om h)
    · exact h
theorem zgoR_om (h : zOm J J') (x : Int32) : zgoR J' x = zgoR J x := by
  unfold zgoR; rw [h.f 5 (by decide), h.f 13 (by decide), (zgN_om _ h).f 13 (by decide)]
theorem zgoN_om (h : zOm J J') (x : Int32) : zOm (zgoN J x) (zgoN J' x) := by
  unfold zgoN; rw [h.f 5 (by decide)]
  split
  · split
    · exact zgN_om _ h
    · exact h
  · exact h
theorem zfaN_om (h : zOm J J') (t : Nat) (x : Int32) : zOm (zfaN J t x) (zfaN J' t x) := by
  unfold zfaN zfaB; rw [h.f 5 (by decide), h.f 13 (by decide), h.f 11 (by decide)]
  split
  · split
    · split
      · exact h
      · exact zadN_om h _ _ _ _
    · exact h
  · exact h
theorem zacN_om (h : zOm J J') (t : Nat) (x : Int32) : zOm (zacN J t x) (zacN J' t x) := by
  unfold zacN; rw [h.f 5 (by decide), h.f 13 (by decide), h.f 11 (by decide), h.o 59 (by decide) (by decide), h.o 60 (by decide) (by decide), h.o 61 (by decide) (by decide), h.o 62 (by decide) (by decide)]
  split
  · split
    · split
      · split
        · exact h
        · exact zadN_om h _ _ _ _
      · exact h
    · exact h
  · exact h
theorem zunN_om (h : zOm J J') (t : Nat) : zOm (zunN J t) (zunN J' t) := by
  unfold zunN
  split
  · exact h
  · refine ⟨fun k h1 h2 => ?_, fun j h1 => ?_⟩
    · rw [zs_o _ _ h1, zs_o _ _ h1]; exact h.o k h1 h2
    · simp only [zs_eq, upd_ap, h.f j h1, h.f 13 (by decide), h.f 4 (by decide), h.f 23 (by decide), h.o 66 (by decide) (by decide)]
theorem zletN_om (h : zOm J J') (x : Int32) : zOm (zletN J x) (zletN J' x) := by
  unfold zletN; rw [h.f 19 (by decide)]
  split
  · refine ⟨fun k h1 h2 => ?_, fun j h1 => ?_⟩
    · simp only [zs_ap, if_neg h1, h.o k h1 h2, h.o 68 (by decide) (by decide)]
    · simp only [zs_eq, upd_ap, h.f j h1]
  · exact h
theorem zblN_om (h : zOm J J') : zOm (zs J 54 (upd (J 54) 19 0)) (zs J' 54 (upd (J' 54) 19 0)) := by
  refine ⟨fun k h1 h2 => ?_, fun j h1 => ?_⟩
  · rw [zs_o _ _ h1, zs_o _ _ h1]; exact h.o k h1 h2
  · simp only [zs_eq, upd_ap, h.f j h1]
end OM
/-- the class's cells, and the model's, may be told by others that are the same -/
theorem zRep_om {w : Nat} (hw : zW w) {I I' J J' : zMI} {N : Nat} (h : zRep w I J N) (hJ : zOm J J') (hI : ∀ c, c < 54 → I' c = I c) : zRep w I' J' N := by
  refine ⟨⟨zWl_sj ⟨hJ.f 0 (by decide), hJ.f 5 (by decide), fun c c1 c2 => hJ.o c (by omega) (by omega)⟩ (zWl_c hw (fun c c1 c2 => hI c c2) h.1.1), zRs_px (I := I) (zPx_ox hJ _) (jt_ox hJ) (fun k _ => ⟨by rw [hJ.o 66 (by decide) (by decide)], by rw [hJ.o 67 (by decide) (by decide)]⟩) (fun c c1 c2 => hI c (by omega)) ?_ h.1.2.1, zNm_c (fun c c1 c2 => hI c (by omega)) h.1.2.2⟩, ?_, ?_⟩
  · rw [hI 4 (by decide), hJ.f 13 (by decide), hJ.f 12 (by decide), hJ.f 11 (by decide), hJ.f 4 (by decide)]; exact h.1.2.1.1
  · rw [hI 0 (by decide), hJ.f 5 (by decide), hJ.f 21 (by decide), hJ.f 22 (by decide), hJ.f 23 (by decide)]; exact h.2.1
  · rw [hI 1 (by decide), hI 2 (by decide), jL_ox hJ, hJ.f 19 (by decide), hJ.o 68 (by decide) (by decide)]; exact h.2.2
