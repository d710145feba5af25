-- prices of the model, by program (wip/gen/p39.py)
def FrP (h h' : zH) : Prop := h'.2 = h.2 ∧ ∀ k, k ≠ 20 → k ≠ 21 → k ≠ 22 → zI h' k = zI h k
theorem FrP.rf (h : zH) : FrP h h := ⟨rfl, fun _ _ _ _ => rfl⟩
theorem FrT.p {a b c : zH} (x : FrP a b) (y : FrT b c) : FrP a c := ⟨y.1.trans x.1, fun k h0 h1 h2 => (y.2 k h0).trans (x.2 k h0 h1 h2)⟩
theorem FrP.w1 {a b : zH} (x : FrP a b) (n : Nat) (v : Int32) : FrP a (zsI b 21 0 n v) := ⟨x.1, fun k h0 h1 h2 => by
  rw [← x.2 k h0 h1 h2]
  funext i j
  exact if_neg (fun z => h1 z.1)⟩
theorem FrP.w2 {a b : zH} (x : FrP a b) (n : Nat) (v : Int32) : FrP a (zsI b 22 0 n v) := ⟨x.1, fun k h0 h1 h2 => by
  rw [← x.2 k h0 h1 h2]
  funext i j
  exact if_neg (fun z => h2 z.1)⟩
/-- the price (false) or the duty (true) of a province in a year, the model's view -/
def mPV (h : zH) (nE : Nat) (pg : Nat → List (Bool × List (Nat × Int32))) (dy : Bool) (Y j : Nat) : Int32 := prV (pfC (eP h) (eY h) nE pg j) dy (zI h 10 0 j) (zI h 11 0 j) Y
theorem qX14_priceOf_0 (l : Launch) (h0 : zH) (hWM0 : Wm h0) (pg : Nat → List (Bool × List (Nat × Int32))) (Y nP : Nat) (hY : Y < 100) (hP0 : zI h0 1 0 4 = nI nP) (hP2 : nP ≤ 10) (hYr : zI h0 1 0 6 = nI Y) (nE : Nat) (hE : zI h0 1 0 14 = nI nE) (hE2 : nE ≤ 30) (hE3 : zC h0 17 = nE + 1) (hMR : ∀ e, e < nE → MR h0 e (pg e)) (hm : ∀ j, j < nP → 0 ≤ zI h0 10 0 j) (hn : ∀ j, j < nP → 0 ≤ zI h0 11 0 j) (h : zH) (hF : FrP h0 h) (j : Nat) (hj : j < nP) : Ct l 5 mX14_priceOf [Vq (some (1, 0)), Vi (nI j), Vi (nI Y), Vi 0] h (fun o h' => o = Rv (Vi (mPV h0 nE pg false Y j)) ∧ FrT h h') := by
  have hg : h.2.2 = h0.2.2 := congrArg Prod.snd hF.1
  have ecP : eP h = eP h0 := funext (fun e => by unfold eP; rw [hF.2 17 (by decide) (by decide) (by decide)])
  have ecY : eY h = eY h0 := funext (fun e => by unfold eY; rw [hF.2 17 (by decide) (by decide) (by decide)])
  have e10 := hF.2 10 (by decide) (by decide) (by decide)
  have e11 := hF.2 11 (by decide) (by decide) (by decide)
  have hMR2 : ∀ e, e < nE → MR h e (pg e) := fun e he => by
    have hc := hMR e he
    unfold MR at hc ⊢
    rw [hF.2 17 (by decide) (by decide) (by decide), hF.2 35 (by decide) (by decide) (by decide), hF.2 37 (by decide) (by decide) (by decide), hF.2 38 (by decide) (by decide) (by decide), hF.2 39 (by decide) (by decide) (by decide), hF.2 40 (by decide) (by decide) (by decide)]
    exact hc
  have Hc := qX14_priceOf l h (Wm.same hg hWM0) pg j Y false (by omega) hY nE (by rw [hF.2 1 (by decide) (by decide) (by decide)]; exact hE) hE2 (by unfold zC; rw [hg]; exact hE3) hMR2 (by rw [e10]; exact hm j hj) (by rw [e11]; exact hn j hj)
  rw [ecP, ecY, e10, e11] at Hc
  exact Hc
theorem qX14_priceOf_1 (l : Launch) (h0 : zH) (hWM0 : Wm h0) (pg : Nat → List (Bool × List (Nat × Int32))) (Y nP : Nat) (hY : Y < 100) (hP0 : zI h0 1 0 4 = nI nP) (hP2 : nP ≤ 10) (hYr : zI h0 1 0 6 = nI Y) (nE : Nat) (hE : zI h0 1 0 14 = nI nE) (hE2 : nE ≤ 30) (hE3 : zC h0 17 = nE + 1) (hMR : ∀ e, e < nE → MR h0 e (pg e)) (hm : ∀ j, j < nP → 0 ≤ zI h0 10 0 j) (hn : ∀ j, j < nP → 0 ≤ zI h0 11 0 j) (h : zH) (hF : FrP h0 h) (j : Nat) (hj : j < nP) : Ct l 5 mX14_priceOf [Vq (some (1, 0)), Vi (nI j), Vi (nI Y), Vi 1] h (fun o h' => o = Rv (Vi (mPV h0 nE pg true Y j)) ∧ FrT h h') := by
  have hg : h.2.2 = h0.2.2 := congrArg Prod.snd hF.1
  have ecP : eP h = eP h0 := funext (fun e => by unfold eP; rw [hF.2 17 (by decide) (by decide) (by decide)])
  have ecY : eY h = eY h0 := funext (fun e => by unfold eY; rw [hF.2 17 (by decide) (by decide) (by decide)])
  have e10 := hF.2 10 (by decide) (by decide) (by decide)
  have e11 := hF.2 11 (by decide) (by decide) (by decide)
  have hMR2 : ∀ e, e < nE → MR h e (pg e) := fun e he => by
    have hc := hMR e he
    unfold MR at hc ⊢
    rw [hF.2 17 (by decide) (by decide) (by decide), hF.2 35 (by decide) (by decide) (by decide), hF.2 37 (by decide) (by decide) (by decide), hF.2 38 (by decide) (by decide) (by decide), hF.2 39 (by decide) (by decide) (by decide), hF.2 40 (by decide) (by decide) (by decide)]
    exact hc
  have Hc := qX14_priceOf l h (Wm.same hg hWM0) pg j Y true (by omega) hY nE (by rw [hF.2 1 (by decide) (by decide) (by decide)]; exact hE) hE2 (by unfold zC; rw [hg]; exact hE3) hMR2 (by rw [e10]; exact hm j hj) (by rw [e11]; exact hn j hj)
  rw [ecP, ecY, e10, e11] at Hc
  exact Hc
theorem lX14_prices (l : Launch) (h0 : zH) (hWM0 : Wm h0) (pg : Nat → List (Bool × List (Nat × Int32))) (Y nP : Nat) (hY : Y < 100) (hP0 : zI h0 1 0 4 = nI nP) (hP2 : nP ≤ 10) (hYr : zI h0 1 0 6 = nI Y) (nE : Nat) (hE : zI h0 1 0 14 = nI nE) (hE2 : nE ≤ 30) (hE3 : zC h0 17 = nE + 1) (hMR : ∀ e, e < nE → MR h0 e (pg e)) (hm : ∀ j, j < nP → 0 ≤ zI h0 10 0 j) (hn : ∀ j, j < nP → 0 ≤ zI h0 11 0 j) : ∀ kk s : Nat, s + kk = nP → ∀ h, FrP h0 h → (∀ j, j < s → zI h 21 0 j = mPV h0 nE pg false Y j ∧ zI h 22 0 j = mPV h0 nE pg true Y j) → Wp l mX14_prices 6 2 [some (Vq (some (1, 0))), some (Vi (nI s))] [] h (fun o h' => o = R0 ∧ FrP h0 h' ∧ ∀ j, j < nP → zI h' 21 0 j = mPV h0 nE pg false Y j ∧ zI h' 22 0 j = mPV h0 nE pg true Y j) := by
  intro kk
  induction kk with
  | zero =>
    intro s hs h hF hI
    have hg : h.2.2 = h0.2.2 := congrArg Prod.snd hF.1
    have hWM := Wm.same hg hWM0
    have hP : zI h 1 0 4 = nI nP := by rw [hF.2 1 (by decide) (by decide) (by decide)]; exact hP0
    have hYh : zI h 1 0 6 = nI Y := by rw [hF.2 1 (by decide) (by decide) (by decide)]; exact hYr
    refine w_iload_n (zat TX14_prices 2 rfl) rfl ?_
    refine w_aload_n (zat TX14_prices 3 rfl) rfl ?_
    refine y_getI (v := nI nP) (zat TX14_prices 4 rfl) fX14_106 s1 (by decide) (by decide) rfl hP ?_
    refine w_icmp_ge 48 (zat TX14_prices 5 rfl) (by decide) (fun Hc7 => ?_) (fun Hc7 => ?_)
    · refine w_return (zat TX14_prices 28 rfl) rfl ?_
      exact ⟨rfl, hF, fun j hj => hI j (by omega)⟩
    · exact absurd (nI_le (by omega) (by omega)) Hc7
  | succ kk ih =>
    intro s hs h hF hI
    have hg : h.2.2 = h0.2.2 := congrArg Prod.snd hF.1
    have hWM := Wm.same hg hWM0
    have hP : zI h 1 0 4 = nI nP := by rw [hF.2 1 (by decide) (by decide) (by decide)]; exact hP0
    have hYh : zI h 1 0 6 = nI Y := by rw [hF.2 1 (by decide) (by decide) (by decide)]; exact hYr
    refine w_iload_n (zat TX14_prices 2 rfl) rfl ?_
    refine w_aload_n (zat TX14_prices 3 rfl) rfl ?_
    refine y_getI (v := nI nP) (zat TX14_prices 4 rfl) fX14_106 s1 (by decide) (by decide) rfl hP ?_
    refine w_icmp_ge 48 (zat TX14_prices 5 rfl) (by decide) (fun Hc7 => ?_) (fun Hc7 => ?_)
    · exact absurd Hc7 (nI_ge (by omega) (by omega))
    · refine w_aload_n (zat TX14_prices 6 rfl) rfl ?_
      refine w_getR (zat TX14_prices 7 rfl) fX14_60 s1 (by decide) (by decide) rfl (wmr hWM 10 rfl) ?_
      refine w_iload_n (zat TX14_prices 8 rfl) rfl ?_
      refine w_aload_n (zat TX14_prices 9 rfl) rfl ?_
      refine w_iload_n (zat TX14_prices 10 rfl) rfl ?_
      refine w_aload_n (zat TX14_prices 11 rfl) rfl ?_
      refine y_getI (v := nI Y) (zat TX14_prices 12 rfl) fX14_324 s1 (by decide) (by decide) rfl hYh ?_
      refine w_iconst (v := 0) (zat TX14_prices 13 rfl) (by decide) ?_
      refine x_call4 (qX14_priceOf_0 l h0 hWM0 pg Y nP hY hP0 hP2 hYr nE hE hE2 hE3 hMR hm hn h hF s (by omega)) (by decide) kX14_priceOf (rdy_V (zat TX14_prices 14 rfl) kX14_priceOf pX14_priceOf zw1329 zw1331 zw50 (zrc (by decide) (by decide) rfl)) (Nat.le_of_ble_eq_true rfl) rfl rfl (fun v h2 hq => ?_) (fun r h2 hq => by cases hq.1)
      obtain ⟨hq1, hF2⟩ := hq
      cases hq1
      have hF3 := (hF2.p hF).w1 s (mPV h0 nE pg false Y s)
      have hWM2 := Wm.same (congrArg Prod.snd hF3.1) hWM0
      have hYh2 : zI (zsI h2 21 0 s (mPV h0 nE pg false Y s)) 1 0 6 = nI Y := by rw [hF3.2 1 (by decide) (by decide) (by decide)]; exact hYr
      refine x_iastore s _ (zat TX14_prices 15 rfl) s21 (by decide) (wmn hWM2 9 rfl) (by decide) rfl (by omega) ?_
      refine w_aload_n (zat TX14_prices 16 rfl) rfl ?_
      refine w_getR (zat TX14_prices 17 rfl) fX14_63 s1 (by decide) (by decide) rfl (wmr hWM2 11 rfl) ?_
      refine w_iload_n (zat TX14_prices 18 rfl) rfl ?_
      refine w_aload_n (zat TX14_prices 19 rfl) rfl ?_
      refine w_iload_n (zat TX14_prices 20 rfl) rfl ?_
      refine w_aload_n (zat TX14_prices 21 rfl) rfl ?_
      refine y_getI (v := nI Y) (zat TX14_prices 22 rfl) fX14_324 s1 (by decide) (by decide) rfl hYh2 ?_
      refine w_iconst (v := 1) (zat TX14_prices 23 rfl) (by decide) ?_
      refine x_call4 (qX14_priceOf_1 l h0 hWM0 pg Y nP hY hP0 hP2 hYr nE hE hE2 hE3 hMR hm hn _ hF3 s (by omega)) (by decide) kX14_priceOf (rdy_V (zat TX14_prices 24 rfl) kX14_priceOf pX14_priceOf zw1329 zw1331 zw50 (zrc (by decide) (by decide) rfl)) (Nat.le_of_ble_eq_true rfl) rfl rfl (fun v h3 hq => ?_) (fun r h3 hq => by cases hq.1)
      obtain ⟨hq1, hF4⟩ := hq
      cases hq1
      have hF5 := (hF4.p hF3).w2 s (mPV h0 nE pg true Y s)
      have hWM3 := Wm.same (congrArg Prod.snd hF5.1) hWM0
      refine x_iastore s _ (zat TX14_prices 25 rfl) s22 (by decide) (wmn hWM3 10 rfl) (by decide) rfl (by omega) ?_
      refine x_iinc (v := nI (s + 1)) (ls2 := [_, _]) (zat TX14_prices 26 rfl) rfl (nI_inc s) rfl ?_
      refine w_goto 2 (zat TX14_prices 27 rfl) (by decide) ?_
      refine ih (s + 1) (by omega) _ hF5 (fun j hj => ?_)
      by_cases e : j = s
      · subst e
        refine ⟨?_, zI_same _ 22 0 _ _⟩
        show zI h3 21 0 j = _
        rw [hF4.2 21 (by decide)]
        exact zI_same _ 21 0 _ _
      · obtain ⟨i1, i2⟩ := hI j (by omega)
        refine ⟨?_, ?_⟩
        · show zI h3 21 0 j = _
          rw [hF4.2 21 (by decide), zI_oth _ 21 0 _ _ e, hF2.2 21 (by decide)]
          exact i1
        · rw [zI_oth _ 22 0 _ _ e, hF4.2 22 (by decide)]
          show zI h2 22 0 j = _
          rw [hF2.2 22 (by decide)]
          exact i2
theorem qX14_prices (l : Launch) (h0 : zH) (hWM0 : Wm h0) (pg : Nat → List (Bool × List (Nat × Int32))) (Y nP : Nat) (hY : Y < 100) (hP0 : zI h0 1 0 4 = nI nP) (hP2 : nP ≤ 10) (hYr : zI h0 1 0 6 = nI Y) (nE : Nat) (hE : zI h0 1 0 14 = nI nE) (hE2 : nE ≤ 30) (hE3 : zC h0 17 = nE + 1) (hMR : ∀ e, e < nE → MR h0 e (pg e)) (hm : ∀ j, j < nP → 0 ≤ zI h0 10 0 j) (hn : ∀ j, j < nP → 0 ≤ zI h0 11 0 j) : Ct l 6 mX14_prices [Vq (some (1, 0))] h0 (fun o h' => o = R0 ∧ FrP h0 h' ∧ ∀ j, j < nP → zI h' 21 0 j = mPV h0 nE pg false Y j ∧ zI h' 22 0 j = mPV h0 nE pg true Y j) := by
  refine Ct.in 1 kX14_prices (plainFor_of_name rfl) (Nat.le_of_ble_eq_true rfl) ?_
  refine w_iconst (v := 0) (zat TX14_prices 0 rfl) (by decide) ?_
  refine x_istore_n (ls2 := [_, _]) (zat TX14_prices 1 rfl) (by decide) rfl ?_
  exact lX14_prices l h0 hWM0 pg Y nP hY hP0 hP2 hYr nE hE hE2 hE3 hMR hm hn nP 0 (by omega) h0 (FrP.rf h0) (fun j hj => by omega)
