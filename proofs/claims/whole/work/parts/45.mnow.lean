-- now and the market's public methods of the model, by program (wip/gen/p45.py)
theorem bnd_nI (v : Int64) (lim : Int32) (n : Nat) (hl : lim = nI n) (hn : n < 2 ^ 31) : ∃ j : Nat, j ≤ n ∧ bnd v 0 lim = nI j := by
  have z0 : (0 : Int32).toInt = 0 := by decide
  have hM : lim.toInt = n := by rw [hl, nI_toInt hn]
  have hb := bnd_toInt v 0 lim (by rw [z0, hM]; omega)
  rw [z0, hM] at hb
  refine nI_of2 hM ?_ ?_
  · rw [Int32.lt_iff_toInt_lt, hb, z0]; omega
  · rw [Int32.le_iff_toInt_le, hb, hM]; omega
/-- the price and the duty as numbers -/
def prN (h : zH) (nE : Nat) (pg : Nat → List (Bool × List (Nat × Int32))) (Y j : Nat) : Nat := (mPV h nE pg false Y j).toNatClampNeg
def duN (h : zH) (nE : Nat) (pg : Nat → List (Bool × List (Nat × Int32))) (Y j : Nat) : Nat := (mPV h nE pg true Y j).toNatClampNeg
theorem prN_eq (h : zH) (nE : Nat) (pg : Nat → List (Bool × List (Nat × Int32))) (Y j : Nat) : mPV h nE pg false Y j = nI (prN h nE pg Y j) ∧ prN h nE pg Y j ≤ 1000 := by
  have key : ∃ v : Nat, v ≤ 1000 ∧ mPV h nE pg false Y j = nI v := by
    unfold mPV
    rw [prV_old]
    cases pfC (eP h) (eY h) nE pg j Y with
    | none => exact ⟨0, by omega, rfl⟩
    | some p => exact bnd_nI _ 1000 1000 rfl (by omega)
  obtain ⟨v, h1, h2⟩ := key
  unfold prN
  rw [h2, nI_clamp (by omega)]
  exact ⟨rfl, h1⟩
theorem duN_eq (h : zH) (nE : Nat) (pg : Nat → List (Bool × List (Nat × Int32))) (Y j n : Nat) (hn : zI h 11 0 j = nI n) (hn2 : n ≤ 50) : mPV h nE pg true Y j = nI (duN h nE pg Y j) ∧ duN h nE pg Y j ≤ n := by
  have key : ∃ v : Nat, v ≤ n ∧ mPV h nE pg true Y j = nI v := by
    unfold mPV
    rw [prV_old]
    cases pfC (eP h) (eY h) nE pg j Y with
    | none => exact ⟨0, by omega, rfl⟩
    | some p => exact bnd_nI _ _ n hn (by omega)
  obtain ⟨v, h1, h2⟩ := key
  unfold duN
  rw [h2, nI_clamp (by omega)]
  exact ⟨rfl, h1⟩
/-- all that the market of the model rests on -/
def MkQ (h : zH) (nP nB nE Y : Nat) (pg : Nat → List (Bool × List (Nat × Int32))) (on ot c mo nd : Nat → Nat) : Prop := Wm h ∧ zI h 1 0 4 = nI nP ∧ nP ≤ 10 ∧ zI h 1 0 5 = nI nB ∧ nB ≤ 16 ∧ zI h 1 0 6 = nI Y ∧ Y < 100 ∧ zI h 1 0 14 = nI nE ∧ nE ≤ 30 ∧ zC h 17 = nE + 1 ∧ (∀ e, e < nE → MR h e (pg e)) ∧ BR h 15 nP nB on ot c ∧ ∀ j, j < nP → zI h 10 0 j = nI (mo j) ∧ mo j ≤ 100000 ∧ zI h 11 0 j = nI (nd j) ∧ nd j ≤ 50
def FrN (h h' : zH) : Prop := h'.2 = h.2 ∧ ∀ k, k ≠ 20 → k ≠ 21 → k ≠ 22 → k ≠ 23 → k ≠ 24 → zI h' k = zI h k
/-- the market of the model, reckoned -/
def MNow (h h' : zH) (nP nB nE Y : Nat) (pg : Nat → List (Bool × List (Nat × Int32))) (on ot c : Nat → Nat) : Prop := FrN h h' ∧ (∀ j, j < nP → zI h' 21 0 j = nI (prN h nE pg Y j) ∧ zI h' 22 0 j = nI (duN h nE pg Y j)) ∧ TD h' nP (dW on ot c nB nP) ∧ ∀ p, p < nP → zI h' 24 0 p = nI (sr (prN h nE pg Y) (dW on ot c nB nP) p nP)
theorem dW_le (on ot c : Nat → Nat) (nB nP a b : Nat) : dW on ot c nB nP a b ≤ 100000000 := dF_le (dEs_le on ot c nB) nP a b
theorem qX14_now (l : Launch) (h : zH) (nP nB nE Y : Nat) (pg : Nat → List (Bool × List (Nat × Int32))) (on ot c mo nd : Nat → Nat) (hM : MkQ h nP nB nE Y pg on ot c mo nd) : Ct l 7 mX14_now [Vq (some (1, 0))] h (fun o h' => o = R0 ∧ MNow h h' nP nB nE Y pg on ot c) := by
  obtain ⟨hWM, hP, hP2, hB, hB2, hYr, hY, hE, hE2, hE3, hMR, hBR, hmn⟩ := hM
  refine Ct.in 0 kX14_now (plainFor_of_name rfl) (Nat.le_of_ble_eq_true rfl) ?_
  refine w_aload_n (zat TX14_now 0 rfl) rfl ?_
  refine x_call1 (qX14_prices l h hWM pg Y nP hY hP hP2 hYr nE hE hE2 hE3 hMR (fun j hj => by rw [(hmn j hj).1]; exact nI_pos' (by have := (hmn j hj).2.1; omega)) (fun j hj => by rw [(hmn j hj).2.2.1]; exact nI_pos' (by have := (hmn j hj).2.2.2; omega))) (by decide) kX14_prices (rdy_V (zat TX14_now 1 rfl) kX14_prices pX14_prices zw1361 zw1363 zw53 (zrc (by decide) (by decide) rfl)) (Nat.le_of_ble_eq_true rfl) rfl rfl (fun v h2 hq => ?_) (fun r h2 hq => by cases hq.1)
  obtain ⟨hq1, hF, hpd⟩ := hq
  cases hq1
  have hg : h2.2.2 = h.2.2 := congrArg Prod.snd hF.1
  have hWM2 := Wm.same hg hWM
  have hf : ∀ k, k ≠ 20 → k ≠ 21 → k ≠ 22 → zI h2 k = zI h k := hF.2
  have hBR2 : BR h2 15 nP nB on ot c := by
    unfold BR
    rw [hf 12 (by decide) (by decide) (by decide), hf 13 (by decide) (by decide) (by decide), hf 14 (by decide) (by decide) (by decide), hf 15 (by decide) (by decide) (by decide), hf 1 (by decide) (by decide) (by decide)]
    exact hBR
  refine w_aload_n (zat TX14_now 2 rfl) rfl ?_
  refine w_aload_n (zat TX14_now 3 rfl) rfl ?_
  refine w_getR (zat TX14_now 4 rfl) fX14_32 s1 (by decide) (by decide) rfl (wmr hWM2 5 rfl) ?_
  refine x_call2 (qX14_ways l h2 hWM2 nP (by rw [hf 1 (by decide) (by decide) (by decide)]; exact hP) hP2 nB (by rw [hf 1 (by decide) (by decide) (by decide)]; exact hB) hB2 15 s15 (by decide) (wmn hWM2 5 rfl) (by decide) (by decide) on ot c hBR2 (prN h nE pg Y) (fun p hp => ⟨(hpd p hp).1.trans (prN_eq h nE pg Y p).1, (prN_eq h nE pg Y p).2⟩)) (by decide) kX14_ways (rdy_V (zat TX14_now 5 rfl) kX14_ways pX14_ways zw1365 zw1367 zw54 (zrc (by decide) (by decide) rfl)) (Nat.le_of_ble_eq_true rfl) rfl rfl (fun v h3 hq => ?_) (fun r h3 hq => by cases hq.1)
  obtain ⟨hq1, hF2, hT, hS⟩ := hq
  cases hq1
  refine w_return (zat TX14_now 6 rfl) rfl ?_
  refine ⟨rfl, ⟨hF2.1.trans hF.1, fun k k0 k1 k2 k3 k4 => (hF2.2 k k3 k4).trans (hf k k0 k1 k2)⟩, fun j hj => ?_, hT, hS⟩
  rw [hF2.2 21 (by decide) (by decide), hF2.2 22 (by decide) (by decide), (hpd j hj).1, (hpd j hj).2]
  exact ⟨(prN_eq h nE pg Y j).1, (duN_eq h nE pg Y j (nd j) (hmn j hj).2.2.1 (hmn j hj).2.2.2).1⟩
theorem qX14_brought_n (l : Launch) (h : zH) (p q : Int32) (nP : Nat) (hP : zI h 1 0 4 = nI nP) (hP2 : nP ≤ 10) (Hp : ¬ ((0 ≤ p ∧ p < nI nP) ∧ (0 ≤ q ∧ q < nI nP))) : Cx l 2 mX14_brought [Vq (some (1, 0)), Vi p, Vi q] h (Rv (Vi (-1))) (zsI h 1 0 0 0) := by
  refine Ct.in 1 kX14_brought (plainFor_of_name rfl) (Nat.le_of_ble_eq_true rfl) ?_
  refine w_aload_n (zat TX14_brought 0 rfl) rfl ?_
  refine w_iconst (v := 0) (zat TX14_brought 1 rfl) (by decide) ?_
  refine w_putI (zat TX14_brought 2 rfl) gX14_brought_100 s1 (by decide) (by decide) rfl ⟨rfl, rfl⟩ ?_
  refine w_aload_n (zat TX14_brought 3 rfl) rfl ?_
  refine w_iload_n (zat TX14_brought 4 rfl) rfl ?_
  refine x_callv2 (qX14_isProvince l _ _ nP hP) (by decide) kX14_isProvince (rdy_V (zat TX14_brought 5 rfl) kX14_isProvince pX14_isProvince zw1200 zw1202 zw33 (zrc (by decide) (by decide) rfl)) (Nat.le_of_ble_eq_true rfl) rfl rfl ?_
  refine w_if_eq 21 (zat TX14_brought 6 rfl) (by decide) (fun Hc10 => ?_) (fun Hc10 => ?_)
  · refine w_iconst (v := -1) (zat TX14_brought 11 rfl) (by decide) ?_
    refine w_ireturn (zat TX14_brought 12 rfl) rfl rfl ?_
    exact ⟨rfl, rfl⟩
  · refine w_aload_n (zat TX14_brought 7 rfl) rfl ?_
    refine w_iload_n (zat TX14_brought 8 rfl) rfl ?_
    refine x_callv2 (qX14_isProvince l _ _ nP hP) (by decide) kX14_isProvince (rdy_V (zat TX14_brought 9 rfl) kX14_isProvince pX14_isProvince zw1200 zw1202 zw33 (zrc (by decide) (by decide) rfl)) (Nat.le_of_ble_eq_true rfl) rfl rfl ?_
    refine w_if_ne 23 (zat TX14_brought 10 rfl) (by decide) (fun Hc18 => ?_) (fun Hc18 => ?_)
    · simp only [zb_0, Decidable.not_not, ne_eq] at Hc10 Hc18
      exact absurd ⟨Hc10, Hc18⟩ Hp
    · refine w_iconst (v := -1) (zat TX14_brought 11 rfl) (by decide) ?_
      refine w_ireturn (zat TX14_brought 12 rfl) rfl rfl ?_
      exact ⟨rfl, rfl⟩
theorem qX14_brought_s (l : Launch) (h : zH) (nP nB nE Y : Nat) (pg : Nat → List (Bool × List (Nat × Int32))) (on ot c mo nd : Nat → Nat) (hM : MkQ h nP nB nE Y pg on ot c mo nd) (a b : Nat) (ha : a < nP) (hb : b < nP) : Ct l 8 mX14_brought [Vq (some (1, 0)), Vi (nI a), Vi (nI b)] h (fun o h' => o = Rv (Vi (if 100000000 ≤ dW on ot c nB nP a b then -2 else nI (prN h nE pg Y a + dW on ot c nB nP a b))) ∧ MNow (zsI h 1 0 0 0) h' nP nB nE Y pg on ot c) := by
  obtain ⟨hWM, hP, hP2, hB, hB2, hYr, hY, hE, hE2, hE3, hMR, hBR, hmn⟩ := id hM
  refine Ct.in 1 kX14_brought (plainFor_of_name rfl) (Nat.le_of_ble_eq_true rfl) ?_
  refine w_aload_n (zat TX14_brought 0 rfl) rfl ?_
  refine w_iconst (v := 0) (zat TX14_brought 1 rfl) (by decide) ?_
  refine w_putI (zat TX14_brought 2 rfl) gX14_brought_100 s1 (by decide) (by decide) rfl ⟨rfl, rfl⟩ ?_
  refine w_aload_n (zat TX14_brought 3 rfl) rfl ?_
  refine w_iload_n (zat TX14_brought 4 rfl) rfl ?_
  refine x_callv2 (qX14_isProvince l _ _ nP hP) (by decide) kX14_isProvince (rdy_V (zat TX14_brought 5 rfl) kX14_isProvince pX14_isProvince zw1200 zw1202 zw33 (zrc (by decide) (by decide) rfl)) (Nat.le_of_ble_eq_true rfl) rfl rfl ?_
  refine w_if_eq 21 (zat TX14_brought 6 rfl) (by decide) (fun Hc10 => ?_) (fun Hc10 => ?_)
  · simp only [zb_0, Decidable.not_not] at Hc10
    exact absurd (ixI (j := a) (n := nP) (by omega) (by omega)) Hc10
  · refine w_aload_n (zat TX14_brought 7 rfl) rfl ?_
    refine w_iload_n (zat TX14_brought 8 rfl) rfl ?_
    refine x_callv2 (qX14_isProvince l _ _ nP hP) (by decide) kX14_isProvince (rdy_V (zat TX14_brought 9 rfl) kX14_isProvince pX14_isProvince zw1200 zw1202 zw33 (zrc (by decide) (by decide) rfl)) (Nat.le_of_ble_eq_true rfl) rfl rfl ?_
    refine w_if_ne 23 (zat TX14_brought 10 rfl) (by decide) (fun Hc18 => ?_) (fun Hc18 => ?_)
    · refine w_aload_n (zat TX14_brought 13 rfl) rfl ?_
      refine x_call1 (qX14_now l (zsI h 1 0 0 0) nP nB nE Y pg on ot c mo nd hM) (by decide) kX14_now (rdy_V (zat TX14_brought 14 rfl) kX14_now pX14_now zw1357 zw1359 zw52 (zrc (by decide) (by decide) rfl)) (Nat.le_of_ble_eq_true rfl) rfl rfl (fun v h2 hq => ?_) (fun r h2 hq => by cases hq.1)
      obtain ⟨hq1, hN⟩ := hq
      cases hq1
      obtain ⟨hF, hpd, hT, hS⟩ := id hN
      have hWM2 := Wm.same (congrArg Prod.snd hF.1) hWM
      refine w_aload_n (zat TX14_brought 15 rfl) rfl ?_
      refine w_getR (zat TX14_brought 16 rfl) fX14_66 s1 (by decide) (by decide) rfl (wmr hWM2 12 rfl) ?_
      refine w_bipush (v := 10) (zat TX14_brought 17 rfl) (by decide) ?_
      refine w_iload_n (zat TX14_brought 18 rfl) rfl ?_
      refine w_imul (zat TX14_brought 19 rfl) ?_
      refine w_iload_n (zat TX14_brought 20 rfl) rfl ?_
      refine w_iadd (zat TX14_brought 21 rfl) ?_
      refine y_iaload (10 * a + b) _ (v := nI (dW on ot c nB nP a b)) (zat TX14_brought 22 rfl) s23 (by decide) (wmn hWM2 11 rfl) (by decide) (nI_t10 a b) (by omega) (hT a b ha hb) ?_
      refine x_istore_n (ls2 := [_, _, _, _]) (zat TX14_brought 23 rfl) (by decide) rfl ?_
      refine w_iload_n (zat TX14_brought 24 rfl) rfl ?_
      refine w_ldcw (v := 100000000) (zat TX14_brought 25 rfl) zw1369 ?_
      refine w_icmp_lt 51 (zat TX14_brought 26 rfl) (by decide) (fun Hc43 => ?_) (fun Hc43 => ?_)
      · have Hd := (nI_ltI (b := 100000000) (by have := dW_le on ot c nB nP a b; omega) (by omega)).mp Hc43
        refine w_aload_n (zat TX14_brought 29 rfl) rfl ?_
        refine w_getR (zat TX14_brought 30 rfl) fX14_60 s1 (by decide) (by decide) rfl (wmr hWM2 10 rfl) ?_
        refine w_iload_n (zat TX14_brought 31 rfl) rfl ?_
        refine y_iaload _ _ (v := nI (prN h nE pg Y a)) (zat TX14_brought 32 rfl) s21 (by decide) (wmn hWM2 9 rfl) (by decide) rfl (by omega) ((hpd a ha).1) ?_
        refine w_iload_n (zat TX14_brought 33 rfl) rfl ?_
        refine w_iadd (zat TX14_brought 34 rfl) ?_
        refine w_ireturn (zat TX14_brought 35 rfl) rfl rfl ?_
        first | exact ⟨by rw [if_pos (by omega)], hN⟩ | exact ⟨by rw [if_neg (by omega), nI_add], hN⟩
      · have Hd : ¬ dW on ot c nB nP a b < 100000000 := fun z => Hc43 ((nI_ltI (b := 100000000) (by omega) (by omega)).mpr z)
        refine w_bipush (v := -2) (zat TX14_brought 27 rfl) (by decide) ?_
        refine w_goto 59 (zat TX14_brought 28 rfl) (by decide) ?_
        refine w_ireturn (zat TX14_brought 35 rfl) rfl rfl ?_
        first | exact ⟨by rw [if_pos (by omega)], hN⟩ | exact ⟨by rw [if_neg (by omega), nI_add], hN⟩
    · simp only [zb_0, Decidable.not_not] at Hc18
      exact absurd (ixI (j := b) (n := nP) (by omega) (by omega)) Hc18
theorem qX14_cheap_n (l : Launch) (h : zH) (p : Int32) (nP : Nat) (hP : zI h 1 0 4 = nI nP) (hP2 : nP ≤ 10) (Hp : ¬ (0 ≤ p ∧ p < nI nP)) : Cx l 2 mX14_cheap [Vq (some (1, 0)), Vi p] h (Rv (Vi (-1))) (zsI h 1 0 0 0) := by
  refine Ct.in 0 kX14_cheap (plainFor_of_name rfl) (Nat.le_of_ble_eq_true rfl) ?_
  refine w_aload_n (zat TX14_cheap 0 rfl) rfl ?_
  refine w_iconst (v := 0) (zat TX14_cheap 1 rfl) (by decide) ?_
  refine w_putI (zat TX14_cheap 2 rfl) gX14_cheap_100 s1 (by decide) (by decide) rfl ⟨rfl, rfl⟩ ?_
  refine w_aload_n (zat TX14_cheap 3 rfl) rfl ?_
  refine w_iload_n (zat TX14_cheap 4 rfl) rfl ?_
  refine x_callv2 (qX14_isProvince l _ _ nP hP) (by decide) kX14_isProvince (rdy_V (zat TX14_cheap 5 rfl) kX14_isProvince pX14_isProvince zw1200 zw1202 zw33 (zrc (by decide) (by decide) rfl)) (Nat.le_of_ble_eq_true rfl) rfl rfl ?_
  refine w_if_ne 15 (zat TX14_cheap 6 rfl) (by decide) (fun Hc10 => ?_) (fun Hc10 => ?_)
  · simp only [zb_0, Decidable.not_not, ne_eq] at Hc10
    exact absurd Hc10 Hp
  · refine w_iconst (v := -1) (zat TX14_cheap 7 rfl) (by decide) ?_
    refine w_ireturn (zat TX14_cheap 8 rfl) rfl rfl ?_
    exact ⟨rfl, rfl⟩
theorem qX14_source_n (l : Launch) (h : zH) (p : Int32) (nP : Nat) (hP : zI h 1 0 4 = nI nP) (hP2 : nP ≤ 10) (Hp : ¬ (0 ≤ p ∧ p < nI nP)) : Cx l 2 mX14_source [Vq (some (1, 0)), Vi p] h (Rv (Vi (-1))) (zsI h 1 0 0 0) := by
  refine Ct.in 0 kX14_source (plainFor_of_name rfl) (Nat.le_of_ble_eq_true rfl) ?_
  refine w_aload_n (zat TX14_source 0 rfl) rfl ?_
  refine w_iconst (v := 0) (zat TX14_source 1 rfl) (by decide) ?_
  refine w_putI (zat TX14_source 2 rfl) gX14_source_100 s1 (by decide) (by decide) rfl ⟨rfl, rfl⟩ ?_
  refine w_aload_n (zat TX14_source 3 rfl) rfl ?_
  refine w_iload_n (zat TX14_source 4 rfl) rfl ?_
  refine x_callv2 (qX14_isProvince l _ _ nP hP) (by decide) kX14_isProvince (rdy_V (zat TX14_source 5 rfl) kX14_isProvince pX14_isProvince zw1200 zw1202 zw33 (zrc (by decide) (by decide) rfl)) (Nat.le_of_ble_eq_true rfl) rfl rfl ?_
  refine w_if_ne 15 (zat TX14_source 6 rfl) (by decide) (fun Hc10 => ?_) (fun Hc10 => ?_)
  · simp only [zb_0, Decidable.not_not, ne_eq] at Hc10
    exact absurd Hc10 Hp
  · refine w_iconst (v := -1) (zat TX14_source 7 rfl) (by decide) ?_
    refine w_ireturn (zat TX14_source 8 rfl) rfl rfl ?_
    exact ⟨rfl, rfl⟩
theorem qX14_source_s (l : Launch) (h : zH) (nP nB nE Y : Nat) (pg : Nat → List (Bool × List (Nat × Int32))) (on ot c mo nd : Nat → Nat) (hM : MkQ h nP nB nE Y pg on ot c mo nd) (a : Nat) (ha : a < nP) : Ct l 8 mX14_source [Vq (some (1, 0)), Vi (nI a)] h (fun o h' => o = Rv (Vi (nI (sr (prN h nE pg Y) (dW on ot c nB nP) a nP))) ∧ MNow (zsI h 1 0 0 0) h' nP nB nE Y pg on ot c) := by
  obtain ⟨hWM, hP, hP2, hB, hB2, hYr, hY, hE, hE2, hE3, hMR, hBR, hmn⟩ := id hM
  refine Ct.in 0 kX14_source (plainFor_of_name rfl) (Nat.le_of_ble_eq_true rfl) ?_
  refine w_aload_n (zat TX14_source 0 rfl) rfl ?_
  refine w_iconst (v := 0) (zat TX14_source 1 rfl) (by decide) ?_
  refine w_putI (zat TX14_source 2 rfl) gX14_source_100 s1 (by decide) (by decide) rfl ⟨rfl, rfl⟩ ?_
  refine w_aload_n (zat TX14_source 3 rfl) rfl ?_
  refine w_iload_n (zat TX14_source 4 rfl) rfl ?_
  refine x_callv2 (qX14_isProvince l _ _ nP hP) (by decide) kX14_isProvince (rdy_V (zat TX14_source 5 rfl) kX14_isProvince pX14_isProvince zw1200 zw1202 zw33 (zrc (by decide) (by decide) rfl)) (Nat.le_of_ble_eq_true rfl) rfl rfl ?_
  refine w_if_ne 15 (zat TX14_source 6 rfl) (by decide) (fun Hc10 => ?_) (fun Hc10 => ?_)
  · refine w_aload_n (zat TX14_source 9 rfl) rfl ?_
    refine x_call1 (qX14_now l (zsI h 1 0 0 0) nP nB nE Y pg on ot c mo nd hM) (by decide) kX14_now (rdy_V (zat TX14_source 10 rfl) kX14_now pX14_now zw1357 zw1359 zw52 (zrc (by decide) (by decide) rfl)) (Nat.le_of_ble_eq_true rfl) rfl rfl (fun v h2 hq => ?_) (fun r h2 hq => by cases hq.1)
    obtain ⟨hq1, hN⟩ := hq
    cases hq1
    obtain ⟨hF, hpd, hT, hS⟩ := id hN
    have hWM2 := Wm.same (congrArg Prod.snd hF.1) hWM
    refine w_aload_n (zat TX14_source 11 rfl) rfl ?_
    refine w_getR (zat TX14_source 12 rfl) fX14_69 s1 (by decide) (by decide) rfl (wmr hWM2 13 rfl) ?_
    refine w_iload_n (zat TX14_source 13 rfl) rfl ?_
    refine y_iaload _ _ (v := nI (sr (prN h nE pg Y) (dW on ot c nB nP) a nP)) (zat TX14_source 14 rfl) s24 (by decide) (wmn hWM2 12 rfl) (by decide) rfl (by omega) (hS a ha) ?_
    refine w_ireturn (zat TX14_source 15 rfl) rfl rfl ?_
    exact ⟨rfl, hN⟩
  · simp only [zb_0, Decidable.not_not] at Hc10
    exact absurd (ixI (j := a) (n := nP) (by omega) (by omega)) Hc10
theorem qX14_cheap_s (l : Launch) (h : zH) (nP nB nE Y : Nat) (pg : Nat → List (Bool × List (Nat × Int32))) (on ot c mo nd : Nat → Nat) (hM : MkQ h nP nB nE Y pg on ot c mo nd) (a : Nat) (ha : a < nP) : Ct l 8 mX14_cheap [Vq (some (1, 0)), Vi (nI a)] h (fun o h' => o = Rv (Vi (nI (prN h nE pg Y (sr (prN h nE pg Y) (dW on ot c nB nP) a nP) + dW on ot c nB nP (sr (prN h nE pg Y) (dW on ot c nB nP) a nP) a))) ∧ MNow (zsI h 1 0 0 0) h' nP nB nE Y pg on ot c) := by
  obtain ⟨hWM, hP, hP2, hB, hB2, hYr, hY, hE, hE2, hE3, hMR, hBR, hmn⟩ := id hM
  have hlt : (sr (prN h nE pg Y) (dW on ot c nB nP) a nP) < nP := sr_lt _ _ ha nP (by omega)
  refine Ct.in 0 kX14_cheap (plainFor_of_name rfl) (Nat.le_of_ble_eq_true rfl) ?_
  refine w_aload_n (zat TX14_cheap 0 rfl) rfl ?_
  refine w_iconst (v := 0) (zat TX14_cheap 1 rfl) (by decide) ?_
  refine w_putI (zat TX14_cheap 2 rfl) gX14_cheap_100 s1 (by decide) (by decide) rfl ⟨rfl, rfl⟩ ?_
  refine w_aload_n (zat TX14_cheap 3 rfl) rfl ?_
  refine w_iload_n (zat TX14_cheap 4 rfl) rfl ?_
  refine x_callv2 (qX14_isProvince l _ _ nP hP) (by decide) kX14_isProvince (rdy_V (zat TX14_cheap 5 rfl) kX14_isProvince pX14_isProvince zw1200 zw1202 zw33 (zrc (by decide) (by decide) rfl)) (Nat.le_of_ble_eq_true rfl) rfl rfl ?_
  refine w_if_ne 15 (zat TX14_cheap 6 rfl) (by decide) (fun Hc10 => ?_) (fun Hc10 => ?_)
  · refine w_aload_n (zat TX14_cheap 9 rfl) rfl ?_
    refine x_call1 (qX14_now l (zsI h 1 0 0 0) nP nB nE Y pg on ot c mo nd hM) (by decide) kX14_now (rdy_V (zat TX14_cheap 10 rfl) kX14_now pX14_now zw1357 zw1359 zw52 (zrc (by decide) (by decide) rfl)) (Nat.le_of_ble_eq_true rfl) rfl rfl (fun v h2 hq => ?_) (fun r h2 hq => by cases hq.1)
    obtain ⟨hq1, hN⟩ := hq
    cases hq1
    obtain ⟨hF, hpd, hT, hS⟩ := id hN
    have hWM2 := Wm.same (congrArg Prod.snd hF.1) hWM
    refine w_aload_n (zat TX14_cheap 11 rfl) rfl ?_
    refine w_getR (zat TX14_cheap 12 rfl) fX14_60 s1 (by decide) (by decide) rfl (wmr hWM2 10 rfl) ?_
    refine w_aload_n (zat TX14_cheap 13 rfl) rfl ?_
    refine w_getR (zat TX14_cheap 14 rfl) fX14_69 s1 (by decide) (by decide) rfl (wmr hWM2 13 rfl) ?_
    refine w_iload_n (zat TX14_cheap 15 rfl) rfl ?_
    refine y_iaload _ _ (v := nI (sr (prN h nE pg Y) (dW on ot c nB nP) a nP)) (zat TX14_cheap 16 rfl) s24 (by decide) (wmn hWM2 12 rfl) (by decide) rfl (by omega) (hS a ha) ?_
    refine y_iaload _ _ (v := nI (prN h nE pg Y (sr (prN h nE pg Y) (dW on ot c nB nP) a nP))) (zat TX14_cheap 17 rfl) s21 (by decide) (wmn hWM2 9 rfl) (by decide) rfl (by omega) ((hpd _ hlt).1) ?_
    refine w_aload_n (zat TX14_cheap 18 rfl) rfl ?_
    refine w_getR (zat TX14_cheap 19 rfl) fX14_66 s1 (by decide) (by decide) rfl (wmr hWM2 12 rfl) ?_
    refine w_bipush (v := 10) (zat TX14_cheap 20 rfl) (by decide) ?_
    refine w_aload_n (zat TX14_cheap 21 rfl) rfl ?_
    refine w_getR (zat TX14_cheap 22 rfl) fX14_69 s1 (by decide) (by decide) rfl (wmr hWM2 13 rfl) ?_
    refine w_iload_n (zat TX14_cheap 23 rfl) rfl ?_
    refine y_iaload _ _ (v := nI (sr (prN h nE pg Y) (dW on ot c nB nP) a nP)) (zat TX14_cheap 24 rfl) s24 (by decide) (wmn hWM2 12 rfl) (by decide) rfl (by omega) (hS a ha) ?_
    refine w_imul (zat TX14_cheap 25 rfl) ?_
    refine w_iload_n (zat TX14_cheap 26 rfl) rfl ?_
    refine w_iadd (zat TX14_cheap 27 rfl) ?_
    refine y_iaload (10 * (sr (prN h nE pg Y) (dW on ot c nB nP) a nP) + a) _ (v := nI (dW on ot c nB nP (sr (prN h nE pg Y) (dW on ot c nB nP) a nP) a)) (zat TX14_cheap 28 rfl) s23 (by decide) (wmn hWM2 11 rfl) (by decide) (nI_t10 (sr (prN h nE pg Y) (dW on ot c nB nP) a nP) a) (by omega) (hT _ a hlt ha) ?_
    refine w_iadd (zat TX14_cheap 29 rfl) ?_
    refine w_ireturn (zat TX14_cheap 30 rfl) rfl rfl ?_
    exact ⟨by rw [nI_add], hN⟩
  · simp only [zb_0, Decidable.not_not] at Hc10
    exact absurd (ixI (j := a) (n := nP) (by omega) (by omega)) Hc10
