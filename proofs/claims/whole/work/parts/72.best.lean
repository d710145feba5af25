-- best of both sides, by program (wip/gen/p72.py)
theorem zI_ss (h : zH) (k i j : Nat) (v : Int32) {k' : Nat} (e : k' ≠ k) : zI (zsI h k i j v) k' = zI h k' := funext (fun a => funext (fun b => if_neg (fun z => e z.1)))
theorem zI_ot2 (h : zH) (k i j : Nat) (v : Int32) {j' : Nat} (e : j' ≠ j) (i' : Nat) : zI (zsI h k i j v) k i' j' = zI h k i' j' := if_neg (fun z => e z.2.2)
theorem qX14_tries_z (l : Launch) (h0 : zH) (hWM0 : Wm h0) (nP nB : Nat) (hP0 : zI h0 1 0 4 = nI nP) (hP2 : nP ≤ 10) (hB0 : zI h0 1 0 5 = nI nB) (hB2 : nB ≤ 16) (on ot rs : Nat → Nat) (hbr : ∀ k, k < nB → zI h0 12 0 k = nI (on k) ∧ zI h0 13 0 k = nI (ot k) ∧ zI h0 14 0 k = nI (rs k)) (hL : LB nP nB on ot rs) (hrs : ∀ k, k < nB → rs k ≤ 500) (wt : Nat) (hwt : wt ≤ 200) (hw0 : zI h0 1 0 7 = nI wt) (pr : Nat → Nat) (hpr : ∀ p, p < nP → zI h0 21 0 p = nI (pr p) ∧ pr p ≤ 1000) (hB1 : nB = 0) (G : Nat) (hG : G ≤ 3) (S : Int64 × (Nat → Int32)) (h : zH) (hI : TrI h0 h (fun _ => 0) nB S) : Ct l 4 mX14_tries [Vq (some (1, 0)), Vi (nI 0), Vi (nI G)] h (fun o h' => o = R0 ∧ TrI h0 h' (fun _ => 0) nB (bst (vaL (mDu h0) (mRest h0) (mPe h0) on ot rs pr wt nB nP) nB (fun _ => 0) S)) := by
  have hWM := Wm.same hI.1.1 hWM0
  have hB : zI h 1 0 5 = nI nB := by rw [hI.1.2.1 1 (by decide) (by decide) (by decide) (by decide)]; exact hB0
  refine Ct.in 3 kX14_tries (plainFor_of_name rfl) (Nat.le_of_ble_eq_true rfl) ?_
  refine w_iload_n (zat TX14_tries_0 0 rfl) rfl ?_
  refine w_aload_n (zat TX14_tries_0 1 rfl) rfl ?_
  refine y_getI (v := nI nB) (zat TX14_tries_0 2 rfl) fX14_109 s1 (by decide) (by decide) rfl hB ?_
  refine w_icmp_ne 81 (zat TX14_tries_0 3 rfl) (by decide) (fun Hc5 => ?_) (fun Hc5 => ?_)
  · exact absurd (by rw [hB1]) Hc5
  · refine w_iload_n (zat TX14_tries_0 4 rfl) rfl ?_
    refine w_if_le 20 (zat TX14_tries_0 5 rfl) (by decide) (fun Hc9 => ?_) (fun Hc9 => ?_)
    · exact (lX14_tries_20 l h0 hWM0 nP nB hP0 hP2 hB0 hB2 on ot rs hbr hL hrs wt hwt hw0 pr hpr 4 (by omega) _ _ (fun _ => 0) (fun k => by omega) S h hI)
    · refine w_aload_n (zat TX14_tries_0 6 rfl) rfl ?_
      refine y_getI (v := nI nB) (zat TX14_tries_0 7 rfl) fX14_109 s1 (by decide) (by decide) rfl hB ?_
      refine w_if_le 20 (zat TX14_tries_0 8 rfl) (by decide) (fun Hc16 => ?_) (fun Hc16 => ?_)
      · exact (lX14_tries_20 l h0 hWM0 nP nB hP0 hP2 hB0 hB2 on ot rs hbr hL hrs wt hwt hw0 pr hpr 4 (by omega) _ _ (fun _ => 0) (fun k => by omega) S h hI)
      · exact absurd ((nI_leI (b := 0) (by omega) (by omega)).mpr (by omega)) Hc16
def FrB (h h' : zH) : Prop := h'.2.2 = h.2.2 ∧ (∀ k, k ≠ 1 → k ≠ 20 → k ≠ 21 → k ≠ 22 → k ≠ 23 → k ≠ 24 → k ≠ 26 → k ≠ 27 → zI h' k = zI h k) ∧ (∀ i j, j ≠ 0 → j ≠ 1 → j ≠ 2 → j ≠ 39 → zI h' 1 i j = zI h 1 i j) ∧ ∀ k i j, ¬ (k = 1 ∧ i = 0 ∧ j = 38) → zL h' k i j = zL h k i j
/-- the prices of the model, told -/
def MPr (h h' : zH) (nP nE Y : Nat) (pg : Nat → List (Bool × List (Nat × Int32))) : Prop := (∀ j, j < nP → zI h' 21 0 j = nI (prN h nE pg Y j) ∧ zI h' 22 0 j = nI (duN h nE pg Y j)) ∧ zI h' 10 = zI h 10 ∧ zI h' 11 = zI h 11
theorem qX14_best_n (l : Launch) (h : zH) (g : Int32) (Hg : ¬ (0 ≤ g ∧ g ≤ 3)) : Cx l 2 mX14_best [Vq (some (1, 0)), Vi g] h (Rv (Vj (-1))) (mRef (zsI h 1 0 0 0) 2) := by
  refine Ct.in 0 kX14_best (plainFor_of_name rfl) (Nat.le_of_ble_eq_true rfl) ?_
  refine w_aload_n (zat TX14_best 0 rfl) rfl ?_
  refine w_iconst (v := 0) (zat TX14_best 1 rfl) (by decide) ?_
  refine w_putI (zat TX14_best 2 rfl) gX14_best_100 s1 (by decide) (by decide) rfl ⟨rfl, rfl⟩ ?_
  refine w_iload_n (zat TX14_best 3 rfl) rfl ?_
  refine w_iconst (v := 0) (zat TX14_best 4 rfl) (by decide) ?_
  refine w_iconst (v := 3) (zat TX14_best 5 rfl) (by decide) ?_
  refine x_callv3 (qX14_in l _ _ _ _) (by decide) kX14_in (rdy_S (zat TX14_best 6 rfl) kX14_in pX14_in zw1185 zw1186) (Nat.le_of_ble_eq_true rfl) rfl rfl ?_
  refine w_if_ne 21 (zat TX14_best 7 rfl) (by decide) (fun Hc11 => ?_) (fun Hc11 => ?_)
  · simp only [zb_0, Decidable.not_not, ne_eq] at Hc11
    exact absurd Hc11 Hg
  · refine w_aload_n (zat TX14_best 8 rfl) rfl ?_
    refine w_iconst (v := 2) (zat TX14_best 9 rfl) (by decide) ?_
    refine x_callv2 (qX14_refused l _ _) (by decide) kX14_refused (rdy_V (zat TX14_best 10 rfl) kX14_refused pX14_refused zw1188 zw1190 zw31 (zrc (by decide) (by decide) rfl)) (Nat.le_of_ble_eq_true rfl) rfl rfl ?_
    refine w_i2l (zat TX14_best 11 rfl) ?_
    refine w_lreturn (zat TX14_best 12 rfl) rfl ?_
    exact ⟨rfl, rfl⟩
theorem qX14_best_s (l : Launch) (h : zH) (nP nB nE Y : Nat) (pg : Nat → List (Bool × List (Nat × Int32))) (on ot c mo nd : Nat → Nat) (hM : MkQ h nP nB nE Y pg on ot c mo nd) (rs : Nat → Nat) (hbr : ∀ k, k < nB → zI h 12 0 k = nI (on k) ∧ zI h 13 0 k = nI (ot k) ∧ zI h 14 0 k = nI (rs k)) (hL : LB nP nB on ot rs) (hrs : ∀ k, k < nB → rs k ≤ 500) (wt : Nat) (hwt : wt ≤ 200) (hw0 : zI h 1 0 7 = nI wt) (G : Nat) (hG : G ≤ 3) : Ct l 21 mX14_best [Vq (some (1, 0)), Vi (nI G)] h (fun o h' => ∃ hA, MPr h hA nP nE Y pg ∧ o = Rv (Vj (Xf (bst (vaL (mDu hA) (mRest hA) (mPe hA) on ot rs (prN h nE pg Y) wt nB nP) nB) nB (if nB = 0 then 0 else G) nB (fun _ => 0) (-1, zI h 27 0)).1) ∧ FrB h h' ∧ zI h' 1 0 39 = nI nB ∧ zI h' 1 0 1 = 0 ∧ zI h' 1 0 2 = -1 ∧ ∀ k, k < 16 → zI h' 27 0 k = (Xf (bst (vaL (mDu hA) (mRest hA) (mPe hA) on ot rs (prN h nE pg Y) wt nB nP) nB) nB (if nB = 0 then 0 else G) nB (fun _ => 0) (-1, zI h 27 0)).2 k) := by
  obtain ⟨hWM, hP, hP2, hB, hB2, hYr, hY, hE, hE2, hE3, hMR, hBR, hmn⟩ := id hM
  refine Ct.in 0 kX14_best (plainFor_of_name rfl) (Nat.le_of_ble_eq_true rfl) ?_
  refine w_aload_n (zat TX14_best 0 rfl) rfl ?_
  refine w_iconst (v := 0) (zat TX14_best 1 rfl) (by decide) ?_
  refine w_putI (zat TX14_best 2 rfl) gX14_best_100 s1 (by decide) (by decide) rfl ⟨rfl, rfl⟩ ?_
  refine w_iload_n (zat TX14_best 3 rfl) rfl ?_
  refine w_iconst (v := 0) (zat TX14_best 4 rfl) (by decide) ?_
  refine w_iconst (v := 3) (zat TX14_best 5 rfl) (by decide) ?_
  refine x_callv3 (qX14_in l _ _ _ _) (by decide) kX14_in (rdy_S (zat TX14_best 6 rfl) kX14_in pX14_in zw1185 zw1186) (Nat.le_of_ble_eq_true rfl) rfl rfl ?_
  refine w_if_ne 21 (zat TX14_best 7 rfl) (by decide) (fun Hc11 => ?_) (fun Hc11 => ?_)
  · refine w_aload_n (zat TX14_best 13 rfl) rfl ?_
    refine x_call1 (qX14_prices l (zsI h 1 0 0 0) hWM pg Y nP hY hP hP2 hYr nE hE hE2 hE3 hMR (fun j hj => by show 0 ≤ zI h 10 0 j; rw [(hmn j hj).1]; exact nI_pos' (by have := (hmn j hj).2.1; omega)) (fun j hj => by show 0 ≤ zI h 11 0 j; rw [(hmn j hj).2.2.1]; exact nI_pos' (by have := (hmn j hj).2.2.2; omega))) (by decide) kX14_prices (rdy_V (zat TX14_best 14 rfl) kX14_prices pX14_prices zw1361 zw1363 zw53 (zrc (by decide) (by decide) rfl)) (Nat.le_of_ble_eq_true rfl) rfl rfl (fun v h2 hq => ?_) (fun r h2 hq => by cases hq.1)
    obtain ⟨hq1, hF, hpd⟩ := hq
    cases hq1
    have hWM2 := Wm.same (congrArg Prod.snd hF.1) hWM
    have hf : ∀ k, k ≠ 1 → k ≠ 20 → k ≠ 21 → k ≠ 22 → zI h2 k = zI h k := fun k h1 h2 h3 h4 => (hF.2 k h2 h3 h4).trans (funext (fun i => funext (fun j => if_neg (fun z => h1 z.1))))
    have hf1 : ∀ i j, j ≠ 0 → zI h2 1 i j = zI h 1 i j := fun i j h1 => by
      rw [hF.2 1 (by decide) (by decide) (by decide)]
      exact if_neg (fun z => h1 z.2.2)
    obtain ⟨hA, hAe⟩ : ∃ hA, hA = zsL h2 1 0 38 (-1) := ⟨_, rfl⟩
    have hAi : zI hA = zI h2 := by rw [hAe]; rfl
    have hWA : Wm hA := by rw [hAe]; exact hWM2
    have hPr : MPr h hA nP nE Y pg := by
      refine ⟨fun j hj => ?_, ?_, ?_⟩
      · rw [hAi]
        exact ⟨(hpd j hj).1.trans (prN_eq h nE pg Y j).1, (hpd j hj).2.trans (duN_eq h nE pg Y j (nd j) (hmn j hj).2.2.1 (hmn j hj).2.2.2).1⟩
      · rw [hAi]; exact hf 10 (by decide) (by decide) (by decide) (by decide)
      · rw [hAi]; exact hf 11 (by decide) (by decide) (by decide) (by decide)
    have hbrA : ∀ k, k < nB → zI hA 12 0 k = nI (on k) ∧ zI hA 13 0 k = nI (ot k) ∧ zI hA 14 0 k = nI (rs k) := by
      rw [hAi, hf 12 (by decide) (by decide) (by decide) (by decide), hf 13 (by decide) (by decide) (by decide) (by decide), hf 14 (by decide) (by decide) (by decide) (by decide)]
      exact hbr
    have hPA : zI hA 1 0 4 = nI nP := by rw [hAi, hf1 0 4 (by decide)]; exact hP
    have hBA : zI hA 1 0 5 = nI nB := by rw [hAi, hf1 0 5 (by decide)]; exact hB
    have hwA : zI hA 1 0 7 = nI wt := by rw [hAi, hf1 0 7 (by decide)]; exact hw0
    have hprA : ∀ p, p < nP → zI hA 21 0 p = nI (prN h nE pg Y p) ∧ prN h nE pg Y p ≤ 1000 := fun p hp => ⟨(hPr.1 p hp).1, (prN_eq h nE pg Y p).2⟩
    have hIA : ∀ b, b = 0 → TrI hA hA (fun _ => 0) b (-1, zI h 27 0) := fun b hb => by
      refine ⟨FrJ.rf hA, fun k hk => by omega, ?_, fun k hk => ?_⟩
      · rw [hAe]; exact zL_same _ _ _ _ _
      · rw [hAi, hf 27 (by decide) (by decide) (by decide) (by decide)]
    have hTr : Ct l (nB + 4) mX14_tries [Vq (some (1, 0)), Vi (nI 0), Vi (nI G)] hA (fun o h' => o = R0 ∧ TrI hA h' (fun _ => 0) 0 (Xf (bst (vaL (mDu hA) (mRest hA) (mPe hA) on ot rs (prN h nE pg Y) wt nB nP) nB) nB (if nB = 0 then 0 else G) nB (fun _ => 0) (-1, zI h 27 0))) := by
      by_cases e : nB = 0
      · subst e
        rw [if_pos rfl]
        exact qX14_tries_z l hA hWA nP 0 hPA hP2 hBA hB2 on ot rs hbrA hL hrs wt hwt hwA (prN h nE pg Y) hprA rfl G hG (-1, zI h 27 0) hA (hIA 0 rfl)
      · rw [if_neg e]
        exact qX14_tries l hA hWA nP nB hPA hP2 hBA hB2 on ot rs hbrA hL hrs wt hwt hwA (prN h nE pg Y) hprA (by omega) nB 0 G (fun _ => 0) (-1, zI h 27 0) hA (by omega) (fun k => by omega) (fun k hk => rfl) (hIA 0 rfl)
    refine w_aload_n (zat TX14_best 15 rfl) rfl ?_
    refine w_ldc2 (v := -1) (zat TX14_best 16 rfl) zw1386 ?_
    refine w_putL (zat TX14_best 17 rfl) gX14_best_358 s1 (by decide) (by decide) rfl ⟨rfl, rfl⟩ ?_
    refine w_aload_n (zat TX14_best 18 rfl) rfl ?_
    refine w_iconst (v := 0) (zat TX14_best 19 rfl) (by decide) ?_
    refine w_iload_n (zat TX14_best 20 rfl) rfl ?_
    rw [← hAe]
    refine x_call3 (hTr) (by omega) kX14_tries (rdy_V (zat TX14_best 21 rfl) kX14_tries pX14_tries zw1427 zw1429 zw60 (zrc (by decide) (by decide) rfl)) (Nat.le_of_ble_eq_true rfl) rfl rfl (fun v h3 hq => ?_) (fun r h3 hq => by cases hq.1)
    obtain ⟨hq1, j1, j2, j3, j4⟩ := hq
    cases hq1
    have hWM3 := Wm.same j1.1 hWA
    have hB3 : zI h3 1 0 5 = nI nB := by rw [j1.2.1 1 (by decide) (by decide) (by decide) (by decide)]; exact hBA
    refine w_aload_n (zat TX14_best 22 rfl) rfl ?_
    refine w_aload_n (zat TX14_best 23 rfl) rfl ?_
    refine y_getI (v := nI nB) (zat TX14_best 24 rfl) fX14_109 s1 (by decide) (by decide) rfl hB3 ?_
    refine w_putI (zat TX14_best 25 rfl) gX14_best_364 s1 (by decide) (by decide) rfl ⟨rfl, rfl⟩ ?_
    refine w_aload_n (zat TX14_best 26 rfl) rfl ?_
    refine w_iconst (v := 0) (zat TX14_best 27 rfl) (by decide) ?_
    refine w_putI (zat TX14_best 28 rfl) gX14_best_103 s1 (by decide) (by decide) rfl ⟨rfl, rfl⟩ ?_
    refine w_aload_n (zat TX14_best 29 rfl) rfl ?_
    refine w_iconst (v := -1) (zat TX14_best 30 rfl) (by decide) ?_
    refine w_putI (zat TX14_best 31 rfl) gX14_best_9 s1 (by decide) (by decide) rfl ⟨rfl, rfl⟩ ?_
    refine w_aload_n (zat TX14_best 32 rfl) rfl ?_
    refine y_getL (v := (Xf (bst (vaL (mDu hA) (mRest hA) (mPe hA) on ot rs (prN h nE pg Y) wt nB nP) nB) nB (if nB = 0 then 0 else G) nB (fun _ => 0) (-1, zI h 27 0)).1) (zat TX14_best 33 rfl) fX14_358 s1 (by decide) (by decide) rfl j3 ?_
    refine w_lreturn (zat TX14_best 34 rfl) rfl ?_
    refine ⟨hA, hPr, rfl, ⟨j1.1.trans (by have hx := congrArg Prod.snd hF.1; rw [hAe]; exact hx), fun k k1 k2 k3 k4 k5 k6 k7 k8 => ?_, fun i j h1 h2 h3 h4 => ?_, fun k i j hn => ?_⟩, rfl, rfl, rfl, j4⟩
    · refine Eq.trans ?_ ((j1.2.1 k k5 k6 k7 k8).trans ((congrFun hAi k).trans (hf k k1 k2 k3 k4)))
      exact funext (fun i => funext (fun j => (if_neg (fun z => k1 z.1)).trans ((if_neg (fun z => k1 z.1)).trans (if_neg (fun z => k1 z.1)))))
    · refine Eq.trans ?_ ((congrFun (congrFun (j1.2.1 1 (by decide) (by decide) (by decide) (by decide)) i) j).trans ((congrFun (congrFun (congrFun hAi 1) i) j).trans (hf1 i j h1)))
      exact (if_neg (fun z => h3 z.2.2)).trans ((if_neg (fun z => h2 z.2.2)).trans (if_neg (fun z => h4 z.2.2)))
    · refine (j1.2.2 k i j hn).trans ?_
      rw [hAe]
      exact (if_neg hn).trans (congrFun (congrFun (congrFun (show zL h2 = zL h by unfold zL; rw [hF.1]; rfl) k) i) j)
  · simp only [zb_0, Decidable.not_not] at Hc11
    exact absurd ⟨nI_pos' (by omega), (nI_leI (b := 3) (by omega) (by omega)).mpr (by omega)⟩ Hc11
theorem qX11_best_n (l : Launch) (h : zH) (g : Int32) (Hg : ¬ (0 ≤ g ∧ g ≤ 3)) : Cx l 2 mX11_best [Vq (some (0, 0)), Vi g] h (Rv (Vj (-1))) (zsI h 0 0 13 2) := by
  refine Ct.in 2 kX11_best (plainFor_of_name rfl) (Nat.le_of_ble_eq_true rfl) ?_
  refine w_iload_n (zat TX11_best 0 rfl) rfl ?_
  refine w_iconst (v := 0) (zat TX11_best 1 rfl) (by decide) ?_
  refine w_iconst (v := 3) (zat TX11_best 2 rfl) (by decide) ?_
  refine x_callv3 (qX11_within l _ _ _ _) (by decide) kX11_within (rdy_S (zat TX11_best 3 rfl) kX11_within pX11_within zw341 zw342) (Nat.le_of_ble_eq_true rfl) rfl rfl ?_
  refine w_if_ne 16 (zat TX11_best 4 rfl) (by decide) (fun Hc6 => ?_) (fun Hc6 => ?_)
  · simp only [zb_0, Decidable.not_not, ne_eq] at Hc6
    exact absurd Hc6 Hg
  · refine w_aload_n (zat TX11_best 5 rfl) rfl ?_
    refine w_iconst (v := 2) (zat TX11_best 6 rfl) (by decide) ?_
    refine x_callv2 (qX11_refuse l _ _) (by decide) kX11_refuse (rdy_V (zat TX11_best 7 rfl) kX11_refuse pX11_refuse zw344 zw346 zw0 (zrc (by decide) (by decide) rfl)) (Nat.le_of_ble_eq_true rfl) rfl rfl ?_
    refine w_i2l (zat TX11_best 8 rfl) ?_
    refine w_lreturn (zat TX11_best 9 rfl) rfl ?_
    exact ⟨rfl, rfl⟩
theorem lX11_best_22 (l : Launch) (h2 : zH) (hW2 : Wc h2) (nP nB : Nat) (hB0 : zI h2 0 0 9 = nI nB) (hB2 : nB ≤ 16) (hB3 : zC h2 59 = nB) (on ot rs : Nat → Nat) (hbk : ∀ k, k < nB → zI h2 59 k 0 = nI (on k) ∧ zI h2 59 k 1 = nI (ot k) ∧ zI h2 59 k 2 = nI (rs k)) (hLr : LB nP nB on ot rs) (g : Int32) (Q : zO → zH → Prop) (K : ∀ h, FrS h2 h → (∀ k, k ≠ 70 → k ≠ 71 → k ≠ 72 → zI h k = zI h2 k) → zL h = zL h2 → BT h nP nB on ot rs → ∀ y x, Wp l mX11_best 10 63 [some (Vq (some (0, 0))), some (Vi g), y, x] [] h Q) : ∀ kk s : Nat, s + kk = nB → ∀ h, FrS h2 h → (∀ k, k ≠ 70 → k ≠ 71 → k ≠ 72 → zI h k = zI h2 k) → zL h = zL h2 → BT h nP s on ot rs → ∀ x, Wp l mX11_best 10 22 [some (Vq (some (0, 0))), some (Vi g), some (Vi (nI s)), x] [] h Q := by
  intro kk
  induction kk with
  | zero =>
    intro s hs h hF hF2 hFL hT x
    have hg := hF.1
    have hW := Wc.same hg hW2
    have hB : zI h 0 0 9 = nI nB := by rw [hF.2.1 0 (by decide) (by decide) (by decide) (by decide) (by decide) (by decide) (by decide) (by decide) (by decide) (by decide) (by decide)]; exact hB0
    have hz : s < zC h 59 ↔ s < nB := by unfold zC at hB3 ⊢; rw [hg, hB3]
    refine w_iload_n (zat TX11_best 14 rfl) rfl ?_
    refine w_aload_n (zat TX11_best 15 rfl) rfl ?_
    refine y_getI (v := nI nB) (zat TX11_best 16 rfl) fX11_66 s0 (by decide) (by decide) rfl hB ?_
    refine w_icmp_ge 63 (zat TX11_best 17 rfl) (by decide) (fun Hc27 => ?_) (fun Hc27 => ?_)
    · have e : s = nB := by omega
      subst e
      exact K h hF hF2 hFL hT _ _
    · exact absurd (nI_le (by omega) (by omega)) Hc27
  | succ kk ih =>
    intro s hs h hF hF2 hFL hT x
    have hg := hF.1
    have hW := Wc.same hg hW2
    have hB : zI h 0 0 9 = nI nB := by rw [hF.2.1 0 (by decide) (by decide) (by decide) (by decide) (by decide) (by decide) (by decide) (by decide) (by decide) (by decide) (by decide)]; exact hB0
    have hz : s < zC h 59 ↔ s < nB := by unfold zC at hB3 ⊢; rw [hg, hB3]
    obtain ⟨b1, b2, b3⟩ := hbk s (by omega)
    obtain ⟨l1, l2, l3, l4, l5⟩ := hLr s (by omega)
    rw [← hF.2.1 59 (by decide) (by decide) (by decide) (by decide) (by decide) (by decide) (by decide) (by decide) (by decide) (by decide) (by decide)] at b1 b2 b3
    refine w_iload_n (zat TX11_best 14 rfl) rfl ?_
    refine w_aload_n (zat TX11_best 15 rfl) rfl ?_
    refine y_getI (v := nI nB) (zat TX11_best 16 rfl) fX11_66 s0 (by decide) (by decide) rfl hB ?_
    refine w_icmp_ge 63 (zat TX11_best 17 rfl) (by decide) (fun Hc27 => ?_) (fun Hc27 => ?_)
    · exact absurd Hc27 (nI_ge (by omega) (by omega))
    · refine w_aload_n (zat TX11_best 18 rfl) rfl ?_
      refine w_getR (zat TX11_best 19 rfl) fX11_17 s0 (by decide) (by decide) rfl (wcr hW 1 rfl) ?_
      refine w_iload_n (zat TX11_best 20 rfl) rfl ?_
      refine x_aaload s _ (zat TX11_best 21 rfl) (by decide) (by decide) ⟨_, rfl⟩ (wcn hW 1 rfl) (by decide) rfl (by omega) (hW.2.2.2.1 s (hz.mpr (by omega))) ?_
      refine x_astore_n (ls2 := [_, _, _, _]) (zat TX11_best 22 rfl) (by decide) rfl ?_
      refine w_aload_n (zat TX11_best 23 rfl) rfl ?_
      refine w_getR (zat TX11_best 24 rfl) fX11_51 s0 (by decide) (by decide) rfl (wcr hW 6 rfl) ?_
      refine w_iload_n (zat TX11_best 25 rfl) rfl ?_
      refine w_aload_n (zat TX11_best 26 rfl) rfl ?_
      refine y_getI (v := nI (on s)) (zat TX11_best 27 rfl) fX11_228 s59 (by decide) (by decide) rfl b1 ?_
      refine w_aload_n (zat TX11_best 28 rfl) rfl ?_
      refine y_getI (v := nI (ot s)) (zat TX11_best 29 rfl) fX11_231 s59 (by decide) (by decide) rfl b2 ?_
      refine w_aload_n (zat TX11_best 30 rfl) rfl ?_
      refine y_getI (v := nI (rs s)) (zat TX11_best 31 rfl) fX11_234 s59 (by decide) (by decide) rfl b3 ?_
      refine x_callu5 (qX3_join l h hW s _ _ _ (by omega)) (by decide) kX3_join (rdy_V (zat TX11_best 32 rfl) kX3_join pX3_join zw712 zw713 zw714 (zrc (by decide) (by decide) rfl)) (Nat.le_of_ble_eq_true rfl) rfl rfl ?_
      refine x_iinc (v := nI (s + 1)) (ls2 := [_, _, _, _]) (zat TX11_best 33 rfl) rfl (nI_inc s) rfl ?_
      refine w_goto 22 (zat TX11_best 34 rfl) (by decide) ?_
      exact ih (s + 1) (by omega) _ (hF.tr (FrS.join h s _ _ _)) (fun k k1 k2 k3 => Eq.trans (funext (fun i => funext (fun x => (if_neg (fun z => k3 z.1)).trans ((if_neg (fun z => k2 z.1)).trans (if_neg (fun z => k1 z.1)))))) (hF2 k k1 k2 k3)) hFL (hT.more l1 l2 (by omega)) _
def FrQ (h h' : zH) : Prop := h'.2.2 = h.2.2 ∧ (∀ k, k ≠ 0 → k ≠ 56 → k ≠ 58 → k ≠ 63 → k ≠ 78 → k ≠ 76 → k ≠ 77 → k ≠ 64 → k ≠ 67 → k ≠ 70 → k ≠ 71 → k ≠ 72 → k ≠ 57 → k ≠ 82 → k ≠ 83 → zI h' k = zI h k) ∧ (∀ i j, j ≠ 4 → zI h' 58 i j = zI h 58 i j) ∧ (∀ i j, j ≠ 13 → zI h' 0 i j = zI h 0 i j) ∧ ∀ k, k ≠ 65 → k ≠ 66 → zL h' k = zL h k
theorem qX11_best_s (l : Launch) (h0 : zH) (nP nB nE Y : Nat) (pg : Nat → List (Bool × List (Nat × Int32))) (on ot c pr : Nat → Nat) (hK : KQ h0 nP nB nE Y pg on ot c pr) (rs : Nat → Nat) (hrk : ∀ k, k < nB → zI h0 59 k 2 = nI (rs k)) (hLr : LB nP nB on ot rs) (hrs : ∀ k, k < nB → rs k ≤ 500) (wt : Nat) (hwt : wt ≤ 200) (hw0 : zI h0 0 0 12 = nI wt) (G : Nat) (hG : G ≤ 3) : Ct l 10 mX11_best [Vq (some (0, 0)), Vi (nI G)] h0 (fun o h' => ∃ hA, KNow h0 hA nP nB nE Y pg on ot c pr ∧ o = Rv (Vj (Xf (bst (vaL (zL hA 65 0) (zL hA 66 0) (cPe hA) on ot rs pr wt nB nP) nB) nB (if nB = 0 then 0 else G) nB (fun _ => 0) (-1, zI h0 83 0)).1) ∧ FrQ h0 h' ∧ zI h' 0 0 13 = 0 ∧ zI h' 57 0 2 = nI nB ∧ MO h' nP (pfC (cP h0) (cY h0) nE pg) (fun p => zI h0 58 p 0) (fun p => zI h0 58 p 1) ∧ ∀ k, k < 16 → zI h' 83 0 k = (Xf (bst (vaL (zL hA 65 0) (zL hA 66 0) (cPe hA) on ot rs pr wt nB nP) nB) nB (if nB = 0 then 0 else G) nB (fun _ => 0) (-1, zI h0 83 0)).2 k) := by
  obtain ⟨hW0, hP2, hP3, hYl, hE, hE2, hE3, hY, hC, hP0, hY0, hB0, hB2, hB3, hBK, hMO, hpr, hL⟩ := id hK
  refine Ct.in 2 kX11_best (plainFor_of_name rfl) (Nat.le_of_ble_eq_true rfl) ?_
  refine w_iload_n (zat TX11_best 0 rfl) rfl ?_
  refine w_iconst (v := 0) (zat TX11_best 1 rfl) (by decide) ?_
  refine w_iconst (v := 3) (zat TX11_best 2 rfl) (by decide) ?_
  refine x_callv3 (qX11_within l _ _ _ _) (by decide) kX11_within (rdy_S (zat TX11_best 3 rfl) kX11_within pX11_within zw341 zw342) (Nat.le_of_ble_eq_true rfl) rfl rfl ?_
  refine w_if_ne 16 (zat TX11_best 4 rfl) (by decide) (fun Hc6 => ?_) (fun Hc6 => ?_)
  · refine w_aload_n (zat TX11_best 10 rfl) rfl ?_
    refine x_call1 (qX11_survey_k l h0 nP nB nE Y pg on ot c pr hK) (by decide) kX11_survey (rdy_V (zat TX11_best 11 rfl) kX11_survey pX11_survey zw704 zw706 zw21 (zrc (by decide) (by decide) rfl)) (Nat.le_of_ble_eq_true rfl) rfl rfl (fun v h2 hq => ?_) (fun r h2 hq => by cases hq.1)
    obtain ⟨hq1, hN⟩ := hq
    cases hq1
    obtain ⟨hF, ⟨hM2, ⟨hN9, hN10⟩, hS⟩, hT, hO⟩ := id hN
    have hW2 := Wc.same hF.1 hW0
    have hp2 : ∀ p, p < nP → zI h2 64 0 p = nI (pr p) ∧ pr p ≤ 1000 := fun p hp => ⟨(hS p hp).1.trans (hpr p hp).1, (hpr p hp).2⟩
    have hlt : ∀ j, j < nP → oM pr (dW on ot c nB nP) j nP < 16016 := fun j hj => by
      have h1 := (oM_le pr (dW on ot c nB nP) j nP).1
      have h3 := (hpr j hj).2
      omega
    refine w_iconst (v := 0) (zat TX11_best 12 rfl) (by decide) ?_
    refine x_istore_n (ls2 := [_, _, _, _]) (zat TX11_best 13 rfl) (by decide) rfl ?_
    have hbk : ∀ k, k < nB → zI h2 59 k 0 = nI (on k) ∧ zI h2 59 k 1 = nI (ot k) ∧ zI h2 59 k 2 = nI (rs k) := fun k hk => by
      rw [hF.2.1 59 (by decide) (by decide) (by decide) (by decide) (by decide) (by decide) (by decide) (by decide) (by decide) (by decide) (by decide)]
      exact ⟨(hBK k hk).1, (hBK k hk).2.1, hrk k hk⟩
    refine lX11_best_22 l h2 hW2 nP nB (by rw [hF.2.1 0 (by decide) (by decide) (by decide) (by decide) (by decide) (by decide) (by decide) (by decide) (by decide) (by decide) (by decide)]; exact hB0) hB2 (by unfold zC; rw [hF.1]; exact hB3) on ot rs hbk hLr (nI G) _ (fun h3 hF3 hK3 hL3 hT3 y x => ?_) nB 0 (by omega) h2 (FrS.rf h2) (fun _ _ _ _ => rfl) rfl (fun k hk => by omega) _
    have h83 : zI h3 83 = zI h0 83 := by rw [hK3 83 (by decide) (by decide) (by decide), hF.2.1 83 (by decide) (by decide) (by decide) (by decide) (by decide) (by decide) (by decide) (by decide) (by decide) (by decide) (by decide)]
    have hv3 : zL h3 = zL h2 := hL3
    have hc3 : cPe h3 = cPe h2 := by unfold cPe; rw [hK3 64 (by decide) (by decide) (by decide)]
    have hW3 := Wc.same hF3.1 hW2
    have hP3 : zI h3 56 0 9 = nI nP := by rw [hK3 56 (by decide) (by decide) (by decide)]; exact hN9
    have hB5 : zI h3 56 0 10 = nI nB := by rw [hK3 56 (by decide) (by decide) (by decide)]; exact hN10
    have hp3 : ∀ p, p < nP → zI h3 64 0 p = nI (pr p) ∧ pr p ≤ 1000 := by rw [hK3 64 (by decide) (by decide) (by decide)]; exact hp2
    have hw3 : zI h3 0 0 12 = nI wt := by rw [hK3 0 (by decide) (by decide) (by decide), hF.2.1 0 (by decide) (by decide) (by decide) (by decide) (by decide) (by decide) (by decide) (by decide) (by decide) (by decide) (by decide)]; exact hw0
    refine w_aload_n (zat TX11_best 35 rfl) rfl ?_
    refine w_getR (zat TX11_best 36 rfl) fX11_58 s0 (by decide) (by decide) rfl (wcr hW3 7 rfl) ?_
    refine w_aload_n (zat TX11_best 37 rfl) rfl ?_
    refine w_getR (zat TX11_best 38 rfl) fX11_51 s0 (by decide) (by decide) rfl (wcr hW3 6 rfl) ?_
    refine w_iload_n (zat TX11_best 39 rfl) rfl ?_
    refine w_aload_n (zat TX11_best 40 rfl) rfl ?_
    refine y_getI (v := nI wt) (zat TX11_best 41 rfl) fX11_75 s0 (by decide) (by decide) rfl hw3 ?_
    refine x_call4 (qX10_lay l h3 hW3 nP nB G hP3 hP2 hB5 hB2 hG on ot rs hT3 hLr hrs wt hwt pr hp3) (by decide) kX10_lay (rdy_V (zat TX11_best 42 rfl) kX10_lay pX10_lay zw809 zw810 zw811 (zrc (by decide) (by decide) rfl)) (Nat.le_of_ble_eq_true rfl) rfl rfl (fun v h4 hq => ?_) (fun r h4 hq => by cases hq.1)
    obtain ⟨hq1, hLy, q3, q4⟩ := hq
    cases hq1
    refine x_lstore_n (ls2 := [_, _, _, _]) (zat TX11_best 43 rfl) (by decide) rfl ?_
    refine w_aload_n (zat TX11_best 44 rfl) rfl ?_
    refine w_iconst (v := 0) (zat TX11_best 45 rfl) (by decide) ?_
    refine w_putI (zat TX11_best 46 rfl) gX11_best_78 s0 (by decide) (by decide) rfl ⟨rfl, rfl⟩ ?_
    refine w_lload_n (zat TX11_best 47 rfl) rfl ?_
    refine w_lreturn (zat TX11_best 48 rfl) rfl ?_
    refine ⟨h2, hN, ?_, ?_, rfl, q3, ?_, ?_⟩
    · rw [hv3, hc3, h83]
    · refine ⟨?_, fun k k0 k1 k2 k3 k4 k5 k6 k7 k8 k9 ka kb kc kd ke => ?_, fun i j hj => ?_, fun i j hj => ?_, fun k k1 k2 => ?_⟩
      · exact (congrArg Prod.snd hLy.1).trans (hF3.1.trans hF.1)
      · rw [zI_ss h4 0 0 13 0 k0, hLy.2 k kc k8 kb kd ke, hK3 k k9 ka kb, hF.2.1 k k1 k2 k3 k4 k5 k6 k7 k8 k9 ka kb]
      · rw [zI_ss h4 0 0 13 0 (k' := 58) (by decide), hLy.2 58 (by decide) (by decide) (by decide) (by decide) (by decide), hK3 58 (by decide) (by decide) (by decide), hF.2.2.1 i j hj]
      · rw [zI_ot2 h4 0 0 13 0 hj, hLy.2 0 (by decide) (by decide) (by decide) (by decide) (by decide), hK3 0 (by decide) (by decide) (by decide), hF.2.1 0 (by decide) (by decide) (by decide) (by decide) (by decide) (by decide) (by decide) (by decide) (by decide) (by decide) (by decide)]
      · rw [show zL (zsI h4 0 0 13 0) = zL h3 by unfold zL; exact congrArg Prod.fst hLy.1, hL3, hF.2.2.2.1 k k1 k2]
    · intro p hp
      obtain ⟨k, k1, k2, k3⟩ := hM2 p hp
      refine ⟨k, k1, ?_, ?_⟩
      · rw [zI_ss h4 0 0 13 0 (k' := 58) (by decide), hLy.2 58 (by decide) (by decide) (by decide) (by decide) (by decide), hK3 58 (by decide) (by decide) (by decide)]
        exact k2
      · unfold MM
        rw [show zI (zsI h4 0 0 13 0) 76 = zI h2 76 from by rw [zI_ss h4 0 0 13 0 (by decide), hLy.2 76 (by decide) (by decide) (by decide) (by decide) (by decide), hK3 76 (by decide) (by decide) (by decide)], show zI (zsI h4 0 0 13 0) 77 = zI h2 77 from by rw [zI_ss h4 0 0 13 0 (by decide), hLy.2 77 (by decide) (by decide) (by decide) (by decide) (by decide), hK3 77 (by decide) (by decide) (by decide)]]
        exact k3
    · intro k hk
      refine Eq.trans (q4 k hk) ?_
      rw [hv3, hc3, h83]
  · simp only [zb_0, Decidable.not_not] at Hc6
    exact absurd ⟨nI_pos' (by omega), (nI_leI (b := 3) (by omega) (by omega)).mpr (by omega)⟩ Hc6
