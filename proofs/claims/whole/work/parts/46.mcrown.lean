-- taken, crown, lost of the model, by program (wip/gen/p46.py)
/-- what is lost in the first p provinces; sp: the sources -/
def mLo (h : zH) (sp : Nat → Nat) : Nat → Int64
  | 0 => 0
  | p + 1 => mLo h sp p + mRest h p * (zI h 21 0 p - zI h 21 0 (sp p)).toInt64
theorem qX14_taken_n (l : Launch) (h : zH) (p : Int32) (nP : Nat) (hP : zI h 1 0 4 = nI nP) (hP2 : nP ≤ 10) (Hp : ¬ (0 ≤ p ∧ p < nI nP)) : Cx l 2 mX14_taken [Vq (some (1, 0)), Vi p] h (Rv (Vj (-1))) (zsI h 1 0 0 0) := by
  refine Ct.in 0 kX14_taken (plainFor_of_name rfl) (Nat.le_of_ble_eq_true rfl) ?_
  refine w_aload_n (zat TX14_taken 0 rfl) rfl ?_
  refine w_iconst (v := 0) (zat TX14_taken 1 rfl) (by decide) ?_
  refine w_putI (zat TX14_taken 2 rfl) gX14_taken_100 s1 (by decide) (by decide) rfl ⟨rfl, rfl⟩ ?_
  refine w_aload_n (zat TX14_taken 3 rfl) rfl ?_
  refine w_iload_n (zat TX14_taken 4 rfl) rfl ?_
  refine x_callv2 (qX14_isProvince l _ _ nP hP) (by decide) kX14_isProvince (rdy_V (zat TX14_taken 5 rfl) kX14_isProvince pX14_isProvince zw1200 zw1202 zw33 (zrc (by decide) (by decide) rfl)) (Nat.le_of_ble_eq_true rfl) rfl rfl ?_
  refine w_if_ne 17 (zat TX14_taken 6 rfl) (by decide) (fun Hc10 => ?_) (fun Hc10 => ?_)
  · simp only [zb_0, Decidable.not_not, ne_eq] at Hc10
    exact absurd Hc10 Hp
  · refine w_ldc2 (v := -1) (zat TX14_taken 7 rfl) zw1386 ?_
    refine w_lreturn (zat TX14_taken 8 rfl) rfl ?_
    exact ⟨rfl, rfl⟩
theorem qX14_taken_s (l : Launch) (h : zH) (nP nB nE Y : Nat) (pg : Nat → List (Bool × List (Nat × Int32))) (on ot c mo nd : Nat → Nat) (hM : MkQ h nP nB nE Y pg on ot c mo nd) (a : Nat) (ha : a < nP) : Ct l 8 mX14_taken [Vq (some (1, 0)), Vi (nI a)] h (fun o h' => o = Rv (Vj (mTk h' a nP)) ∧ MNow (zsI h 1 0 0 0) h' nP nB nE Y pg on ot c) := by
  obtain ⟨hWM, hP, hP2, hB, hB2, hYr, hY, hE, hE2, hE3, hMR, hBR, hmn⟩ := id hM
  refine Ct.in 0 kX14_taken (plainFor_of_name rfl) (Nat.le_of_ble_eq_true rfl) ?_
  refine w_aload_n (zat TX14_taken 0 rfl) rfl ?_
  refine w_iconst (v := 0) (zat TX14_taken 1 rfl) (by decide) ?_
  refine w_putI (zat TX14_taken 2 rfl) gX14_taken_100 s1 (by decide) (by decide) rfl ⟨rfl, rfl⟩ ?_
  refine w_aload_n (zat TX14_taken 3 rfl) rfl ?_
  refine w_iload_n (zat TX14_taken 4 rfl) rfl ?_
  refine x_callv2 (qX14_isProvince l _ _ nP hP) (by decide) kX14_isProvince (rdy_V (zat TX14_taken 5 rfl) kX14_isProvince pX14_isProvince zw1200 zw1202 zw33 (zrc (by decide) (by decide) rfl)) (Nat.le_of_ble_eq_true rfl) rfl rfl ?_
  refine w_if_ne 17 (zat TX14_taken 6 rfl) (by decide) (fun Hc10 => ?_) (fun Hc10 => ?_)
  · refine w_aload_n (zat TX14_taken 9 rfl) rfl ?_
    refine x_call1 (qX14_now l (zsI h 1 0 0 0) nP nB nE Y pg on ot c mo nd hM) (by decide) kX14_now (rdy_V (zat TX14_taken 10 rfl) kX14_now pX14_now zw1357 zw1359 zw52 (zrc (by decide) (by decide) rfl)) (Nat.le_of_ble_eq_true rfl) rfl rfl (fun v h2 hq => ?_) (fun r h2 hq => by cases hq.1)
    obtain ⟨hq1, hN⟩ := hq
    cases hq1
    obtain ⟨hF, hpd, hT, hS⟩ := id hN
    have hWM2 := Wm.same (congrArg Prod.snd hF.1) hWM
    have hP4 : zI h2 1 0 4 = nI nP := by rw [hF.2 1 (by decide) (by decide) (by decide) (by decide) (by decide)]; exact hP
    refine w_aload_n (zat TX14_taken 11 rfl) rfl ?_
    refine w_iload_n (zat TX14_taken 12 rfl) rfl ?_
    refine x_callv2 (qX14_takenOf l h2 hWM2 a (by omega) nP hP4 hP2) (by decide) kX14_takenOf (rdy_V (zat TX14_taken 13 rfl) kX14_takenOf pX14_takenOf zw1387 zw1389 zw56 (zrc (by decide) (by decide) rfl)) (Nat.le_of_ble_eq_true rfl) rfl rfl ?_
    refine w_lreturn (zat TX14_taken 14 rfl) rfl ?_
    exact ⟨rfl, hN⟩
  · simp only [zb_0, Decidable.not_not] at Hc10
    exact absurd (ixI (j := a) (n := nP) (by omega) (by omega)) Hc10
theorem qX14_crown (l : Launch) (h : zH) (nP nB nE Y : Nat) (pg : Nat → List (Bool × List (Nat × Int32))) (on ot c mo nd : Nat → Nat) (hM : MkQ h nP nB nE Y pg on ot c mo nd) : Ct l 8 mX14_crown [Vq (some (1, 0))] h (fun o h' => o = Rv (Vj (mCr h' nP nP)) ∧ MNow (zsI h 1 0 0 0) h' nP nB nE Y pg on ot c) := by
  obtain ⟨hWM, hP, hP2, hB, hB2, hYr, hY, hE, hE2, hE3, hMR, hBR, hmn⟩ := id hM
  refine Ct.in 0 kX14_crown (plainFor_of_name rfl) (Nat.le_of_ble_eq_true rfl) ?_
  refine w_aload_n (zat TX14_crown 0 rfl) rfl ?_
  refine w_iconst (v := 0) (zat TX14_crown 1 rfl) (by decide) ?_
  refine w_putI (zat TX14_crown 2 rfl) gX14_crown_100 s1 (by decide) (by decide) rfl ⟨rfl, rfl⟩ ?_
  refine w_aload_n (zat TX14_crown 3 rfl) rfl ?_
  refine x_call1 (qX14_now l (zsI h 1 0 0 0) nP nB nE Y pg on ot c mo nd hM) (by decide) kX14_now (rdy_V (zat TX14_crown 4 rfl) kX14_now pX14_now zw1357 zw1359 zw52 (zrc (by decide) (by decide) rfl)) (Nat.le_of_ble_eq_true rfl) rfl rfl (fun v h2 hq => ?_) (fun r h2 hq => by cases hq.1)
  obtain ⟨hq1, hN⟩ := hq
  cases hq1
  obtain ⟨hF, hpd, hT, hS⟩ := id hN
  have hWM2 := Wm.same (congrArg Prod.snd hF.1) hWM
  have hP4 : zI h2 1 0 4 = nI nP := by rw [hF.2 1 (by decide) (by decide) (by decide) (by decide) (by decide)]; exact hP
  refine w_aload_n (zat TX14_crown 5 rfl) rfl ?_
  refine x_callv1 (qX14_crownOf l h2 hWM2 nP hP4 hP2) (by decide) kX14_crownOf (rdy_V (zat TX14_crown 6 rfl) kX14_crownOf pX14_crownOf zw1399 zw1401 zw58 (zrc (by decide) (by decide) rfl)) (Nat.le_of_ble_eq_true rfl) rfl rfl ?_
  refine w_lreturn (zat TX14_crown 7 rfl) rfl ?_
  exact ⟨rfl, hN⟩
theorem lX14_lost (l : Launch) (h : zH) (hWM : Wm h) (nP : Nat) (hP : zI h 1 0 4 = nI nP) (hP2 : nP ≤ 10) (sp : Nat → Nat) (hsp : ∀ p, p < nP → zI h 24 0 p = nI (sp p) ∧ sp p < nP) : ∀ kk s : Nat, s + kk = nP → Wp l mX14_lost 8 13 [some (Vq (some (1, 0))), some (Vj (mLo h sp s)), none, some (Vi (nI s))] [] h (fun o h' => o = Rv (Vj (mLo h sp nP)) ∧ h' = h) := by
  intro kk
  induction kk with
  | zero =>
    intro s hs
    refine w_iload_n (zat TX14_lost 9 rfl) rfl ?_
    refine w_aload_n (zat TX14_lost 10 rfl) rfl ?_
    refine y_getI (v := nI nP) (zat TX14_lost 11 rfl) fX14_106 s1 (by decide) (by decide) rfl hP ?_
    refine w_icmp_ge 55 (zat TX14_lost 12 rfl) (by decide) (fun Hc18 => ?_) (fun Hc18 => ?_)
    · refine w_lload_n (zat TX14_lost 35 rfl) rfl ?_
      refine w_lreturn (zat TX14_lost 36 rfl) rfl ?_
      have e : s = nP := by omega
      subst e
      exact ⟨rfl, rfl⟩
    · exact absurd (nI_le (by omega) (by omega)) Hc18
  | succ kk ih =>
    intro s hs
    obtain ⟨i1, i2⟩ := hsp s (by omega)
    refine w_iload_n (zat TX14_lost 9 rfl) rfl ?_
    refine w_aload_n (zat TX14_lost 10 rfl) rfl ?_
    refine y_getI (v := nI nP) (zat TX14_lost 11 rfl) fX14_106 s1 (by decide) (by decide) rfl hP ?_
    refine w_icmp_ge 55 (zat TX14_lost 12 rfl) (by decide) (fun Hc18 => ?_) (fun Hc18 => ?_)
    · exact absurd Hc18 (nI_ge (by omega) (by omega))
    · refine w_lload_n (zat TX14_lost 13 rfl) rfl ?_
      refine w_aload_n (zat TX14_lost 14 rfl) rfl ?_
      refine w_iload_n (zat TX14_lost 15 rfl) rfl ?_
      refine x_callv2 (qX14_restOf l h hWM s (by omega)) (by decide) kX14_restOf (rdy_V (zat TX14_lost 16 rfl) kX14_restOf pX14_restOf zw1391 zw1393 zw57 (zrc (by decide) (by decide) rfl)) (Nat.le_of_ble_eq_true rfl) rfl rfl ?_
      refine w_aload_n (zat TX14_lost 17 rfl) rfl ?_
      refine w_getR (zat TX14_lost 18 rfl) fX14_60 s1 (by decide) (by decide) rfl (wmr hWM 10 rfl) ?_
      refine w_iload_n (zat TX14_lost 19 rfl) rfl ?_
      refine x_iaload _ _ (zat TX14_lost 20 rfl) s21 (by decide) (wmn hWM 9 rfl) (by decide) rfl (by omega) ?_
      refine w_aload_n (zat TX14_lost 21 rfl) rfl ?_
      refine w_getR (zat TX14_lost 22 rfl) fX14_60 s1 (by decide) (by decide) rfl (wmr hWM 10 rfl) ?_
      refine w_aload_n (zat TX14_lost 23 rfl) rfl ?_
      refine w_getR (zat TX14_lost 24 rfl) fX14_69 s1 (by decide) (by decide) rfl (wmr hWM 13 rfl) ?_
      refine w_iload_n (zat TX14_lost 25 rfl) rfl ?_
      refine y_iaload _ _ (v := nI (sp s)) (zat TX14_lost 26 rfl) s24 (by decide) (wmn hWM 12 rfl) (by decide) rfl (by omega) i1 ?_
      refine x_iaload _ _ (zat TX14_lost 27 rfl) s21 (by decide) (wmn hWM 9 rfl) (by decide) rfl (by omega) ?_
      refine w_isub (zat TX14_lost 28 rfl) ?_
      refine w_i2l (zat TX14_lost 29 rfl) ?_
      refine w_lmul (zat TX14_lost 30 rfl) ?_
      refine w_ladd (zat TX14_lost 31 rfl) ?_
      refine x_lstore_n (ls2 := [_, _, _, _]) (zat TX14_lost 32 rfl) (by decide) rfl ?_
      refine x_iinc (v := nI (s + 1)) (ls2 := [_, _, _, _]) (zat TX14_lost 33 rfl) rfl (nI_inc s) rfl ?_
      refine w_goto 13 (zat TX14_lost 34 rfl) (by decide) ?_
      exact ih (s + 1) (by omega)
theorem qX14_lost (l : Launch) (h : zH) (nP nB nE Y : Nat) (pg : Nat → List (Bool × List (Nat × Int32))) (on ot c mo nd : Nat → Nat) (hM : MkQ h nP nB nE Y pg on ot c mo nd) : Ct l 8 mX14_lost [Vq (some (1, 0))] h (fun o h' => o = Rv (Vj (mLo h' (fun p => sr (prN h nE pg Y) (dW on ot c nB nP) p nP) nP)) ∧ MNow (zsI h 1 0 0 0) h' nP nB nE Y pg on ot c) := by
  obtain ⟨hWM, hP, hP2, hB, hB2, hYr, hY, hE, hE2, hE3, hMR, hBR, hmn⟩ := id hM
  refine Ct.in 3 kX14_lost (plainFor_of_name rfl) (Nat.le_of_ble_eq_true rfl) ?_
  refine w_aload_n (zat TX14_lost 0 rfl) rfl ?_
  refine w_iconst (v := 0) (zat TX14_lost 1 rfl) (by decide) ?_
  refine w_putI (zat TX14_lost 2 rfl) gX14_lost_100 s1 (by decide) (by decide) rfl ⟨rfl, rfl⟩ ?_
  refine w_aload_n (zat TX14_lost 3 rfl) rfl ?_
  refine x_call1 (qX14_now l (zsI h 1 0 0 0) nP nB nE Y pg on ot c mo nd hM) (by decide) kX14_now (rdy_V (zat TX14_lost 4 rfl) kX14_now pX14_now zw1357 zw1359 zw52 (zrc (by decide) (by decide) rfl)) (Nat.le_of_ble_eq_true rfl) rfl rfl (fun v h2 hq => ?_) (fun r h2 hq => by cases hq.1)
  obtain ⟨hq1, hN⟩ := hq
  cases hq1
  obtain ⟨hF, hpd, hT, hS⟩ := id hN
  have hWM2 := Wm.same (congrArg Prod.snd hF.1) hWM
  have hP4 : zI h2 1 0 4 = nI nP := by rw [hF.2 1 (by decide) (by decide) (by decide) (by decide) (by decide)]; exact hP
  refine w_lconst (v := 0) (zat TX14_lost 5 rfl) (by decide) ?_
  refine x_lstore_n (ls2 := [_, _, _, _]) (zat TX14_lost 6 rfl) (by decide) rfl ?_
  refine w_iconst (v := 0) (zat TX14_lost 7 rfl) (by decide) ?_
  refine x_istore_n (ls2 := [_, _, _, _]) (zat TX14_lost 8 rfl) (by decide) rfl ?_
  exact (lX14_lost l h2 hWM2 nP hP4 hP2 (fun p => sr (prN h nE pg Y) (dW on ot c nB nP) p nP) (fun p hp => ⟨hS p hp, sr_lt _ _ hp nP (by omega)⟩) nP 0 (by omega)).imp (fun o h3 hq => by
    rw [hq.2]
    exact ⟨hq.1, hN⟩)
