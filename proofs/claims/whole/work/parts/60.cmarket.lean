-- brought, cheap, source, taken, crown, lost of the class, by program (wip/gen/p60.py)
/-- what the market of the class leaves alone -/
def FrV (h h' : zH) : Prop := h'.2.2 = h.2.2 ∧ (∀ k, k ≠ 56 → k ≠ 58 → k ≠ 63 → k ≠ 78 → k ≠ 76 → k ≠ 77 → k ≠ 64 → k ≠ 67 → k ≠ 70 → k ≠ 71 → k ≠ 72 → k ≠ 68 → k ≠ 69 → zI h' k = zI h k) ∧ (∀ i j, j ≠ 4 → zI h' 58 i j = zI h 58 i j) ∧ ∀ k, k ≠ 65 → k ≠ 66 → zL h' k = zL h k
theorem FrS.V {a b : zH} (x : FrS a b) : FrV a b := ⟨x.1, fun k h1 h2 h3 h4 h5 h6 h7 h8 h9 ha hb _ _ => x.2.1 k h1 h2 h3 h4 h5 h6 h7 h8 h9 ha hb, x.2.2.1, x.2.2.2.1⟩
theorem FrV.tr {a b c : zH} (x : FrV a b) (y : FrV b c) : FrV a c := ⟨y.1.trans x.1, fun k h1 h2 h3 h4 h5 h6 h7 h8 h9 ha hb hc hd => (y.2.1 k h1 h2 h3 h4 h5 h6 h7 h8 h9 ha hb hc hd).trans (x.2.1 k h1 h2 h3 h4 h5 h6 h7 h8 h9 ha hb hc hd), fun i j h => (y.2.2.1 i j h).trans (x.2.2.1 i j h), fun k h1 h2 => (y.2.2.2 k h1 h2).trans (x.2.2.2 k h1 h2)⟩
theorem FrG.V {a b : zH} (x : FrG 68 a b) : FrV a b := ⟨congrArg Prod.snd x.1, fun k _ _ _ _ _ _ _ _ _ _ _ hc _ => x.2 k hc, fun i j _ => by rw [x.2 58 (by decide)], fun k _ _ => by unfold zL; rw [x.1]⟩
theorem FrG.mo {a b : zH} (x : FrG 68 a b) {nP : Nat} {pf : Nat → Nat → Option (List (Bool × List (Nat × Int32)))} {m n : Nat → Int32} (h : MO a nP pf m n) : MO b nP pf m n := by
  intro p hp
  obtain ⟨k, k1, k2, k3⟩ := h p hp
  refine ⟨k, k1, ?_, ?_⟩
  · rw [x.2 58 (by decide)]; exact k2
  · unfold MM
    rw [x.2 76 (by decide), x.2 77 (by decide)]
    exact k3
/-- all that the market of the class rests on -/
def KQ (h0 : zH) (nP nB nE Y : Nat) (pg : Nat → List (Bool × List (Nat × Int32))) (on ot c pr : Nat → Nat) : Prop := Wc h0 ∧ nP ≤ 10 ∧ zC h0 58 = nP ∧ Y < 100 ∧ zI h0 55 0 2 = nI nE ∧ nE ≤ 30 ∧ zC h0 60 = nE ∧ (∀ e, e < nE → 0 ≤ cY h0 e) ∧ (∀ e, e < nE → CR h0 e (pg e)) ∧ zI h0 0 0 8 = nI nP ∧ zI h0 0 0 11 = nI Y ∧ zI h0 0 0 9 = nI nB ∧ nB ≤ 16 ∧ zC h0 59 = nB ∧ BK h0 nP nB on ot c ∧ MO h0 nP (pfC (cP h0) (cY h0) nE pg) (fun p => zI h0 58 p 0) (fun p => zI h0 58 p 1) ∧ (∀ p, p < nP → (prV ((pfC (cP h0) (cY h0) nE pg) p) false (zI h0 58 p 0) (zI h0 58 p 1) Y) = nI (pr p) ∧ pr p ≤ 1000) ∧ LB nP nB on ot c
/-- the market of the class, reckoned -/
def KNow (h0 h : zH) (nP nB nE Y : Nat) (pg : Nat → List (Bool × List (Nat × Int32))) (on ot c pr : Nat → Nat) : Prop := FrS h0 h ∧ (MO h nP (pfC (cP h0) (cY h0) nE pg) (fun p => zI h0 58 p 0) (fun p => zI h0 58 p 1) ∧ (zI h 56 0 9 = nI nP ∧ zI h 56 0 10 = nI nB) ∧ ∀ p, p < nP → SE h p (prV ((pfC (cP h0) (cY h0) nE pg) p) false (zI h0 58 p 0) (zI h0 58 p 1) Y) (prV ((pfC (cP h0) (cY h0) nE pg) p) true (zI h0 58 p 0) (zI h0 58 p 1) Y) (zI h0 58 p 0) (zI h0 58 p 1)) ∧ BT h nP nB on ot c ∧ CF h 67 nP (fun v => oM pr (dW on ot c nB nP) v nP)
theorem qX11_survey_k (l : Launch) (h0 : zH) (nP nB nE Y : Nat) (pg : Nat → List (Bool × List (Nat × Int32))) (on ot c pr : Nat → Nat) (hK : KQ h0 nP nB nE Y pg on ot c pr) : Ct l 8 mX11_survey [Vq (some (0, 0))] h0 (fun o h' => o = R0 ∧ KNow h0 h' nP nB nE Y pg on ot c pr) := by
  obtain ⟨hW0, hP2, hP3, hYl, hE, hE2, hE3, hY, hC, hP0, hY0, hB0, hB2, hB3, hBK, hMO, hpr, hL⟩ := id hK
  refine (qX11_survey l h0 hW0 pg nP Y hP2 hP3 hYl nE hE hE2 hE3 hY hC hP0 hY0 nB hB0 hB2 hB3 on ot c hBK hMO pr hpr).mono (fun o h' hq => ?_)
  obtain ⟨q1, q2, q3, q4, q5⟩ := hq
  exact ⟨q1, q2, q3, q4, fun j hj => by rw [q5 j hj, offers_eq hL hP2 pr (fun p hp => (hpr p hp).2) j hj]⟩
theorem qX11_cheap_s (l : Launch) (h0 : zH) (nP nB nE Y : Nat) (pg : Nat → List (Bool × List (Nat × Int32))) (on ot c pr : Nat → Nat) (hK : KQ h0 nP nB nE Y pg on ot c pr) (a : Nat) (ha : a < nP) : Ct l 9 mX11_cheap [Vq (some (0, 0)), Vi (nI a)] h0 (fun o h' => o = Rv (Vi (nI (pr (sr pr (dW on ot c nB nP) a nP) + (dW on ot c nB nP) (sr pr (dW on ot c nB nP) a nP) a))) ∧ FrV h0 h' ∧ MO h' nP (pfC (cP h0) (cY h0) nE pg) (fun p => zI h0 58 p 0) (fun p => zI h0 58 p 1)) := by
  obtain ⟨hW0, hP2, hP3, hYl, hE, hE2, hE3, hY, hC, hP0, hY0, hB0, hB2, hB3, hBK, hMO, hpr, hL⟩ := id hK
  refine Ct.in 0 kX11_cheap (plainFor_of_name rfl) (Nat.le_of_ble_eq_true rfl) ?_
  refine w_aload_n (zat TX11_cheap 0 rfl) rfl ?_
  refine w_iload_n (zat TX11_cheap 1 rfl) rfl ?_
  refine x_callv2 (qX11_provinceAt_s l _ hW0 nP hP0 hP2 hP3 _ a rfl ha) (by decide) kX11_provinceAt (rdy_V (zat TX11_cheap 2 rfl) kX11_provinceAt pX11_provinceAt zw390 zw392 zw2 (zrc (by decide) (by decide) rfl)) (Nat.le_of_ble_eq_true rfl) rfl rfl ?_
  refine w_ifnonnull_t 10 (zat TX11_cheap 3 rfl) (by decide) ?_
  refine w_aload_n (zat TX11_cheap 6 rfl) rfl ?_
  refine x_call1 (qX11_survey_k l h0 nP nB nE Y pg on ot c pr hK) (by decide) kX11_survey (rdy_V (zat TX11_cheap 7 rfl) kX11_survey pX11_survey zw704 zw706 zw21 (zrc (by decide) (by decide) rfl)) (Nat.le_of_ble_eq_true rfl) rfl rfl (fun v h2 hq => ?_) (fun r h2 hq => by cases hq.1)
  obtain ⟨hq1, hN⟩ := hq
  cases hq1
  obtain ⟨hF, ⟨hM2, ⟨hN9, hN10⟩, hS⟩, hT, hO⟩ := hN
  have hW2 := Wc.same hF.1 hW0
  have hp2 : ∀ p, p < nP → zI h2 64 0 p = nI (pr p) ∧ pr p ≤ 1000 := fun p hp => ⟨(hS p hp).1.trans (hpr p hp).1, (hpr p hp).2⟩
  have hlt : ∀ j, j < nP → oM pr (dW on ot c nB nP) j nP < 16016 := fun j hj => by
    have h1 := (oM_le pr (dW on ot c nB nP) j nP).1
    have h3 := (hpr j hj).2
    omega
  refine w_aload_n (zat TX11_cheap 8 rfl) rfl ?_
  refine w_getR (zat TX11_cheap 9 rfl) fX11_51 s0 (by decide) (by decide) rfl (wcr hW2 6 rfl) ?_
  refine w_iload_n (zat TX11_cheap 10 rfl) rfl ?_
  refine x_callv2 (qX3_leastCost l h2 hW2 nP hP2 pr (fun v => oM pr (dW on ot c nB nP) v nP) hp2 hO hlt a ha) (by decide) kX3_leastCost (rdy_V (zat TX11_cheap 11 rfl) kX3_leastCost pX3_leastCost zw737 zw738 zw739 (zrc (by decide) (by decide) rfl)) (Nat.le_of_ble_eq_true rfl) rfl rfl ?_
  refine w_ireturn (zat TX11_cheap 12 rfl) rfl rfl ?_
  exact ⟨by rw [(oS_sr hP2 ha (dW_aa hL a)).2], hF.V, hM2⟩
theorem qX11_source_s (l : Launch) (h0 : zH) (nP nB nE Y : Nat) (pg : Nat → List (Bool × List (Nat × Int32))) (on ot c pr : Nat → Nat) (hK : KQ h0 nP nB nE Y pg on ot c pr) (a : Nat) (ha : a < nP) : Ct l 9 mX11_source [Vq (some (0, 0)), Vi (nI a)] h0 (fun o h' => o = Rv (Vi (nI (sr pr (dW on ot c nB nP) a nP))) ∧ FrV h0 h' ∧ MO h' nP (pfC (cP h0) (cY h0) nE pg) (fun p => zI h0 58 p 0) (fun p => zI h0 58 p 1)) := by
  obtain ⟨hW0, hP2, hP3, hYl, hE, hE2, hE3, hY, hC, hP0, hY0, hB0, hB2, hB3, hBK, hMO, hpr, hL⟩ := id hK
  refine Ct.in 0 kX11_source (plainFor_of_name rfl) (Nat.le_of_ble_eq_true rfl) ?_
  refine w_aload_n (zat TX11_source 0 rfl) rfl ?_
  refine w_iload_n (zat TX11_source 1 rfl) rfl ?_
  refine x_callv2 (qX11_provinceAt_s l _ hW0 nP hP0 hP2 hP3 _ a rfl ha) (by decide) kX11_provinceAt (rdy_V (zat TX11_source 2 rfl) kX11_provinceAt pX11_provinceAt zw390 zw392 zw2 (zrc (by decide) (by decide) rfl)) (Nat.le_of_ble_eq_true rfl) rfl rfl ?_
  refine w_ifnonnull_t 10 (zat TX11_source 3 rfl) (by decide) ?_
  refine w_aload_n (zat TX11_source 6 rfl) rfl ?_
  refine x_call1 (qX11_survey_k l h0 nP nB nE Y pg on ot c pr hK) (by decide) kX11_survey (rdy_V (zat TX11_source 7 rfl) kX11_survey pX11_survey zw704 zw706 zw21 (zrc (by decide) (by decide) rfl)) (Nat.le_of_ble_eq_true rfl) rfl rfl (fun v h2 hq => ?_) (fun r h2 hq => by cases hq.1)
  obtain ⟨hq1, hN⟩ := hq
  cases hq1
  obtain ⟨hF, ⟨hM2, ⟨hN9, hN10⟩, hS⟩, hT, hO⟩ := hN
  have hW2 := Wc.same hF.1 hW0
  have hp2 : ∀ p, p < nP → zI h2 64 0 p = nI (pr p) ∧ pr p ≤ 1000 := fun p hp => ⟨(hS p hp).1.trans (hpr p hp).1, (hpr p hp).2⟩
  have hlt : ∀ j, j < nP → oM pr (dW on ot c nB nP) j nP < 16016 := fun j hj => by
    have h1 := (oM_le pr (dW on ot c nB nP) j nP).1
    have h3 := (hpr j hj).2
    omega
  refine w_aload_n (zat TX11_source 8 rfl) rfl ?_
  refine w_getR (zat TX11_source 9 rfl) fX11_51 s0 (by decide) (by decide) rfl (wcr hW2 6 rfl) ?_
  refine w_iload_n (zat TX11_source 10 rfl) rfl ?_
  refine x_callv2 (qX3_sourceOf l h2 hW2 nP hP2 pr (fun v => oM pr (dW on ot c nB nP) v nP) hp2 hO hlt a ha) (by decide) kX3_sourceOf (rdy_V (zat TX11_source 11 rfl) kX3_sourceOf pX3_sourceOf zw745 zw746 zw747 (zrc (by decide) (by decide) rfl)) (Nat.le_of_ble_eq_true rfl) rfl rfl ?_
  refine w_ireturn (zat TX11_source 12 rfl) rfl rfl ?_
  exact ⟨by rw [(oS_sr hP2 ha (dW_aa hL a)).1], hF.V, hM2⟩
