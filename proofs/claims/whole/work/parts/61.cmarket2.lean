-- brought, taken, crown, lost of the class; the refusals, by program (wip/gen/p61.py)
theorem qX11_cheap_n (l : Launch) (h : zH) (hW : Wc h) (p : Int32) (nP : Nat) (hP : zI h 0 0 8 = nI nP) (hP2 : nP ≤ 10) (hP3 : zC h 58 = nP) (Hp : ¬ (0 ≤ p ∧ p < nI nP)) : Cx l 3 mX11_cheap [Vq (some (0, 0)), Vi p] h (Rv (Vi (-1))) h := by
  refine Ct.in 0 kX11_cheap (plainFor_of_name rfl) (Nat.le_of_ble_eq_true rfl) ?_
  refine w_aload_n (zat TX11_cheap 0 rfl) rfl ?_
  refine w_iload_n (zat TX11_cheap 1 rfl) rfl ?_
  refine x_callv2 (qX11_provinceAt_n l _ hW nP hP hP2 hP3 _ Hp) (by decide) kX11_provinceAt (rdy_V (zat TX11_cheap 2 rfl) kX11_provinceAt pX11_provinceAt zw390 zw392 zw2 (zrc (by decide) (by decide) rfl)) (Nat.le_of_ble_eq_true rfl) rfl rfl ?_
  refine w_ifnonnull_f (zat TX11_cheap 3 rfl) ?_
  refine w_iconst (v := -1) (zat TX11_cheap 4 rfl) (by decide) ?_
  refine w_ireturn (zat TX11_cheap 5 rfl) rfl rfl ?_
  exact ⟨rfl, rfl⟩
theorem qX11_source_n (l : Launch) (h : zH) (hW : Wc h) (p : Int32) (nP : Nat) (hP : zI h 0 0 8 = nI nP) (hP2 : nP ≤ 10) (hP3 : zC h 58 = nP) (Hp : ¬ (0 ≤ p ∧ p < nI nP)) : Cx l 3 mX11_source [Vq (some (0, 0)), Vi p] h (Rv (Vi (-1))) h := by
  refine Ct.in 0 kX11_source (plainFor_of_name rfl) (Nat.le_of_ble_eq_true rfl) ?_
  refine w_aload_n (zat TX11_source 0 rfl) rfl ?_
  refine w_iload_n (zat TX11_source 1 rfl) rfl ?_
  refine x_callv2 (qX11_provinceAt_n l _ hW nP hP hP2 hP3 _ Hp) (by decide) kX11_provinceAt (rdy_V (zat TX11_source 2 rfl) kX11_provinceAt pX11_provinceAt zw390 zw392 zw2 (zrc (by decide) (by decide) rfl)) (Nat.le_of_ble_eq_true rfl) rfl rfl ?_
  refine w_ifnonnull_f (zat TX11_source 3 rfl) ?_
  refine w_iconst (v := -1) (zat TX11_source 4 rfl) (by decide) ?_
  refine w_ireturn (zat TX11_source 5 rfl) rfl rfl ?_
  exact ⟨rfl, rfl⟩
theorem qX11_taken_n (l : Launch) (h : zH) (hW : Wc h) (p : Int32) (nP : Nat) (hP : zI h 0 0 8 = nI nP) (hP2 : nP ≤ 10) (hP3 : zC h 58 = nP) (Hp : ¬ (0 ≤ p ∧ p < nI nP)) : Cx l 3 mX11_taken [Vq (some (0, 0)), Vi p] h (Rv (Vj (-1))) h := by
  refine Ct.in 0 kX11_taken (plainFor_of_name rfl) (Nat.le_of_ble_eq_true rfl) ?_
  refine w_aload_n (zat TX11_taken 0 rfl) rfl ?_
  refine w_iload_n (zat TX11_taken 1 rfl) rfl ?_
  refine x_callv2 (qX11_provinceAt_n l _ hW nP hP hP2 hP3 _ Hp) (by decide) kX11_provinceAt (rdy_V (zat TX11_taken 2 rfl) kX11_provinceAt pX11_provinceAt zw390 zw392 zw2 (zrc (by decide) (by decide) rfl)) (Nat.le_of_ble_eq_true rfl) rfl rfl ?_
  refine w_ifnonnull_f (zat TX11_taken 3 rfl) ?_
  refine w_ldc2 (v := -1) (zat TX11_taken 4 rfl) zw754 ?_
  refine w_lreturn (zat TX11_taken 5 rfl) rfl ?_
  exact ⟨rfl, rfl⟩
theorem qX11_brought_n (l : Launch) (h : zH) (hW : Wc h) (p q : Int32) (nP : Nat) (hP : zI h 0 0 8 = nI nP) (hP2 : nP ≤ 10) (hP3 : zC h 58 = nP) (Hq : ¬ ((0 ≤ p ∧ p < nI nP) ∧ (0 ≤ q ∧ q < nI nP))) : Cx l 3 mX11_brought [Vq (some (0, 0)), Vi p, Vi q] h (Rv (Vi (-1))) h := by
  by_cases Hp : 0 ≤ p ∧ p < nI nP
  · obtain ⟨Hx, Hn⟩ := ixC (n := nP) (by omega) Hp
    refine Ct.in 0 kX11_brought (plainFor_of_name rfl) (Nat.le_of_ble_eq_true rfl) ?_
    refine w_aload_n (zat TX11_brought 0 rfl) rfl ?_
    refine w_iload_n (zat TX11_brought 1 rfl) rfl ?_
    refine x_callv2 (qX11_provinceAt_s l _ hW nP hP hP2 hP3 _ _ Hx Hn) (by decide) kX11_provinceAt (rdy_V (zat TX11_brought 2 rfl) kX11_provinceAt pX11_provinceAt zw390 zw392 zw2 (zrc (by decide) (by decide) rfl)) (Nat.le_of_ble_eq_true rfl) rfl rfl ?_
    refine w_ifnull_f (zat TX11_brought 3 rfl) ?_
    refine w_aload_n (zat TX11_brought 4 rfl) rfl ?_
    refine w_iload_n (zat TX11_brought 5 rfl) rfl ?_
    refine x_callv2 (qX11_provinceAt_n l _ hW nP hP hP2 hP3 _ (fun z => Hq ⟨Hp, z⟩)) (by decide) kX11_provinceAt (rdy_V (zat TX11_brought 6 rfl) kX11_provinceAt pX11_provinceAt zw390 zw392 zw2 (zrc (by decide) (by decide) rfl)) (Nat.le_of_ble_eq_true rfl) rfl rfl ?_
    refine w_ifnonnull_f (zat TX11_brought 7 rfl) ?_
    refine w_iconst (v := -1) (zat TX11_brought 8 rfl) (by decide) ?_
    refine w_ireturn (zat TX11_brought 9 rfl) rfl rfl ?_
    exact ⟨rfl, rfl⟩
  · skip
    refine Ct.in 0 kX11_brought (plainFor_of_name rfl) (Nat.le_of_ble_eq_true rfl) ?_
    refine w_aload_n (zat TX11_brought 0 rfl) rfl ?_
    refine w_iload_n (zat TX11_brought 1 rfl) rfl ?_
    refine x_callv2 (qX11_provinceAt_n l _ hW nP hP hP2 hP3 _ Hp) (by decide) kX11_provinceAt (rdy_V (zat TX11_brought 2 rfl) kX11_provinceAt pX11_provinceAt zw390 zw392 zw2 (zrc (by decide) (by decide) rfl)) (Nat.le_of_ble_eq_true rfl) rfl rfl ?_
    refine w_ifnull_t 16 (zat TX11_brought 3 rfl) (by decide) ?_
    refine w_iconst (v := -1) (zat TX11_brought 8 rfl) (by decide) ?_
    refine w_ireturn (zat TX11_brought 9 rfl) rfl rfl ?_
    exact ⟨rfl, rfl⟩
theorem qX11_brought_s (l : Launch) (h0 : zH) (nP nB nE Y : Nat) (pg : Nat → List (Bool × List (Nat × Int32))) (on ot c pr : Nat → Nat) (hK : KQ h0 nP nB nE Y pg on ot c pr) (a b : Nat) (ha : a < nP) (hb : b < nP) : Ct l 9 mX11_brought [Vq (some (0, 0)), Vi (nI a), Vi (nI b)] h0 (fun o h' => o = Rv (Vi (if 100000000 ≤ (dW on ot c nB nP) a b then -2 else nI (pr a + (dW on ot c nB nP) a b))) ∧ FrV h0 h' ∧ MO h' nP (pfC (cP h0) (cY h0) nE pg) (fun p => zI h0 58 p 0) (fun p => zI h0 58 p 1)) := by
  obtain ⟨hW0, hP2, hP3, hYl, hE, hE2, hE3, hY, hC, hP0, hY0, hB0, hB2, hB3, hBK, hMO, hpr, hL⟩ := id hK
  refine Ct.in 0 kX11_brought (plainFor_of_name rfl) (Nat.le_of_ble_eq_true rfl) ?_
  refine w_aload_n (zat TX11_brought 0 rfl) rfl ?_
  refine w_iload_n (zat TX11_brought 1 rfl) rfl ?_
  refine x_callv2 (qX11_provinceAt_s l _ hW0 nP hP0 hP2 hP3 _ a rfl ha) (by decide) kX11_provinceAt (rdy_V (zat TX11_brought 2 rfl) kX11_provinceAt pX11_provinceAt zw390 zw392 zw2 (zrc (by decide) (by decide) rfl)) (Nat.le_of_ble_eq_true rfl) rfl rfl ?_
  refine w_ifnull_f (zat TX11_brought 3 rfl) ?_
  refine w_aload_n (zat TX11_brought 4 rfl) rfl ?_
  refine w_iload_n (zat TX11_brought 5 rfl) rfl ?_
  refine x_callv2 (qX11_provinceAt_s l _ hW0 nP hP0 hP2 hP3 _ b rfl hb) (by decide) kX11_provinceAt (rdy_V (zat TX11_brought 6 rfl) kX11_provinceAt pX11_provinceAt zw390 zw392 zw2 (zrc (by decide) (by decide) rfl)) (Nat.le_of_ble_eq_true rfl) rfl rfl ?_
  refine w_ifnonnull_t 18 (zat TX11_brought 7 rfl) (by decide) ?_
  refine w_aload_n (zat TX11_brought 10 rfl) rfl ?_
  refine x_call1 (qX11_survey_k l h0 nP nB nE Y pg on ot c pr hK) (by decide) kX11_survey (rdy_V (zat TX11_brought 11 rfl) kX11_survey pX11_survey zw704 zw706 zw21 (zrc (by decide) (by decide) rfl)) (Nat.le_of_ble_eq_true rfl) rfl rfl (fun v h2 hq => ?_) (fun r h2 hq => by cases hq.1)
  obtain ⟨hq1, hN⟩ := hq
  cases hq1
  obtain ⟨hF, ⟨hM2, ⟨hN9, hN10⟩, hS⟩, hT, hO⟩ := hN
  have hW2 := Wc.same hF.1 hW0
  have hp2 : ∀ p, p < nP → zI h2 64 0 p = nI (pr p) ∧ pr p ≤ 1000 := fun p hp => ⟨(hS p hp).1.trans (hpr p hp).1, (hpr p hp).2⟩
  have hlt : ∀ j, j < nP → oM pr (dW on ot c nB nP) j nP < 16016 := fun j hj => by
    have h1 := (oM_le pr (dW on ot c nB nP) j nP).1
    have h3 := (hpr j hj).2
    omega
  refine w_aload_n (zat TX11_brought 12 rfl) rfl ?_
  refine w_getR (zat TX11_brought 13 rfl) fX11_51 s0 (by decide) (by decide) rfl (wcr hW2 6 rfl) ?_
  refine w_iload_n (zat TX11_brought 14 rfl) rfl ?_
  refine w_iload_n (zat TX11_brought 15 rfl) rfl ?_
  refine x_call3 (qX3_costBetween l h2 hW2 nP hN9 hP2 nB hN10 hB2 on ot c hT pr hp2 (fun p j hp hj => by rw [tolls_eq hL j hj]; omega) a b ha hb) (by decide) kX3_costBetween (rdy_V (zat TX11_brought 16 rfl) kX3_costBetween pX3_costBetween zw724 zw725 zw726 (zrc (by decide) (by decide) rfl)) (Nat.le_of_ble_eq_true rfl) rfl rfl (fun v h3 hq => ?_) (fun r h3 hq => by cases hq.1)
  obtain ⟨hq1, hG⟩ := hq
  cases hq1
  refine w_ireturn (zat TX11_brought 17 rfl) rfl rfl ?_
  refine ⟨?_, hF.V.tr hG.V, hG.mo hM2⟩
  rw [tolls_eq hL a ha, dW_sym on ot c nB nP b a]
  have hf := dW_far hL (a := a) hP2 hb
  by_cases e : dW on ot c nB nP a b < 100000000
  · have := hf e
    rw [if_neg (by omega), if_neg (by omega), Nat.min_eq_right (by omega)]
  · rw [if_pos (by omega), if_pos (by omega)]
theorem qX11_taken_s (l : Launch) (h0 : zH) (nP nB nE Y : Nat) (pg : Nat → List (Bool × List (Nat × Int32))) (on ot c pr : Nat → Nat) (hK : KQ h0 nP nB nE Y pg on ot c pr) (a : Nat) (ha : a < nP) : Ct l 9 mX11_taken [Vq (some (0, 0)), Vi (nI a)] h0 (fun o h' => o = Rv (Vj (cTk h' (oS pr (fun v => oM pr (dW on ot c nB nP) v nP)) a nP * (zI h' 64 0 a).toInt64)) ∧ FrV h0 h' ∧ KNow h0 h' nP nB nE Y pg on ot c pr) := by
  obtain ⟨hW0, hP2, hP3, hYl, hE, hE2, hE3, hY, hC, hP0, hY0, hB0, hB2, hB3, hBK, hMO, hpr, hL⟩ := id hK
  refine Ct.in 0 kX11_taken (plainFor_of_name rfl) (Nat.le_of_ble_eq_true rfl) ?_
  refine w_aload_n (zat TX11_taken 0 rfl) rfl ?_
  refine w_iload_n (zat TX11_taken 1 rfl) rfl ?_
  refine x_callv2 (qX11_provinceAt_s l _ hW0 nP hP0 hP2 hP3 _ a rfl ha) (by decide) kX11_provinceAt (rdy_V (zat TX11_taken 2 rfl) kX11_provinceAt pX11_provinceAt zw390 zw392 zw2 (zrc (by decide) (by decide) rfl)) (Nat.le_of_ble_eq_true rfl) rfl rfl ?_
  refine w_ifnonnull_t 12 (zat TX11_taken 3 rfl) (by decide) ?_
  refine w_aload_n (zat TX11_taken 6 rfl) rfl ?_
  refine x_call1 (qX11_survey_k l h0 nP nB nE Y pg on ot c pr hK) (by decide) kX11_survey (rdy_V (zat TX11_taken 7 rfl) kX11_survey pX11_survey zw704 zw706 zw21 (zrc (by decide) (by decide) rfl)) (Nat.le_of_ble_eq_true rfl) rfl rfl (fun v h2 hq => ?_) (fun r h2 hq => by cases hq.1)
  obtain ⟨hq1, hN⟩ := hq
  cases hq1
  obtain ⟨hF, ⟨hM2, ⟨hN9, hN10⟩, hS⟩, hT, hO⟩ := id hN
  have hW2 := Wc.same hF.1 hW0
  have hp2 : ∀ p, p < nP → zI h2 64 0 p = nI (pr p) ∧ pr p ≤ 1000 := fun p hp => ⟨(hS p hp).1.trans (hpr p hp).1, (hpr p hp).2⟩
  have hlt : ∀ j, j < nP → oM pr (dW on ot c nB nP) j nP < 16016 := fun j hj => by
    have h1 := (oM_le pr (dW on ot c nB nP) j nP).1
    have h3 := (hpr j hj).2
    omega
  refine w_aload_n (zat TX11_taken 8 rfl) rfl ?_
  refine w_getR (zat TX11_taken 9 rfl) fX11_51 s0 (by decide) (by decide) rfl (wcr hW2 6 rfl) ?_
  refine w_iload_n (zat TX11_taken 10 rfl) rfl ?_
  refine x_callv2 (qX3_takenOf l h2 hW2 nP hP2 pr (fun v => oM pr (dW on ot c nB nP) v nP) hp2 hO hlt hN9 (fun j hj => by rw [(oS_sr hP2 hj (dW_aa hL j)).1]; exact sr_lt _ _ hj nP (Nat.le_refl _)) a ha) (by decide) kX3_takenOf (rdy_V (zat TX11_taken 11 rfl) kX3_takenOf pX3_takenOf zw755 zw756 zw757 (zrc (by decide) (by decide) rfl)) (Nat.le_of_ble_eq_true rfl) rfl rfl ?_
  refine w_lreturn (zat TX11_taken 12 rfl) rfl ?_
  exact ⟨rfl, hF.V, hN⟩
theorem qX11_crown (l : Launch) (h0 : zH) (nP nB nE Y : Nat) (pg : Nat → List (Bool × List (Nat × Int32))) (on ot c pr : Nat → Nat) (hK : KQ h0 nP nB nE Y pg on ot c pr) : Ct l 9 mX11_crown [Vq (some (0, 0))] h0 (fun o h' => o = Rv (Vj (cCr h' (oS pr (fun v => oM pr (dW on ot c nB nP) v nP)) nP)) ∧ FrV h0 h' ∧ KNow h0 h' nP nB nE Y pg on ot c pr) := by
  obtain ⟨hW0, hP2, hP3, hYl, hE, hE2, hE3, hY, hC, hP0, hY0, hB0, hB2, hB3, hBK, hMO, hpr, hL⟩ := id hK
  refine Ct.in 0 kX11_crown (plainFor_of_name rfl) (Nat.le_of_ble_eq_true rfl) ?_
  refine w_aload_n (zat TX11_crown 0 rfl) rfl ?_
  refine x_call1 (qX11_survey_k l h0 nP nB nE Y pg on ot c pr hK) (by decide) kX11_survey (rdy_V (zat TX11_crown 1 rfl) kX11_survey pX11_survey zw704 zw706 zw21 (zrc (by decide) (by decide) rfl)) (Nat.le_of_ble_eq_true rfl) rfl rfl (fun v h2 hq => ?_) (fun r h2 hq => by cases hq.1)
  obtain ⟨hq1, hN⟩ := hq
  cases hq1
  obtain ⟨hF, ⟨hM2, ⟨hN9, hN10⟩, hS⟩, hT, hO⟩ := id hN
  have hW2 := Wc.same hF.1 hW0
  have hp2 : ∀ p, p < nP → zI h2 64 0 p = nI (pr p) ∧ pr p ≤ 1000 := fun p hp => ⟨(hS p hp).1.trans (hpr p hp).1, (hpr p hp).2⟩
  have hlt : ∀ j, j < nP → oM pr (dW on ot c nB nP) j nP < 16016 := fun j hj => by
    have h1 := (oM_le pr (dW on ot c nB nP) j nP).1
    have h3 := (hpr j hj).2
    omega
  refine w_aload_n (zat TX11_crown 2 rfl) rfl ?_
  refine w_getR (zat TX11_crown 3 rfl) fX11_51 s0 (by decide) (by decide) rfl (wcr hW2 6 rfl) ?_
  refine x_callv1 (qX3_takenInAll l h2 hW2 nP hP2 pr (fun v => oM pr (dW on ot c nB nP) v nP) hp2 hO hlt hN9 (fun j hj => by rw [(oS_sr hP2 hj (dW_aa hL j)).1]; exact sr_lt _ _ hj nP (Nat.le_refl _))) (by decide) kX3_takenInAll (rdy_V (zat TX11_crown 4 rfl) kX3_takenInAll pX3_takenInAll zw764 zw765 zw766 (zrc (by decide) (by decide) rfl)) (Nat.le_of_ble_eq_true rfl) rfl rfl ?_
  refine w_lreturn (zat TX11_crown 5 rfl) rfl ?_
  exact ⟨rfl, hF.V, hN⟩
theorem qX11_lost (l : Launch) (h0 : zH) (nP nB nE Y : Nat) (pg : Nat → List (Bool × List (Nat × Int32))) (on ot c pr : Nat → Nat) (hK : KQ h0 nP nB nE Y pg on ot c pr) : Ct l 9 mX11_lost [Vq (some (0, 0))] h0 (fun o h' => o = Rv (Vj (cLo h' (oS pr (fun v => oM pr (dW on ot c nB nP) v nP)) nP)) ∧ FrV h0 h' ∧ KNow h0 h' nP nB nE Y pg on ot c pr) := by
  obtain ⟨hW0, hP2, hP3, hYl, hE, hE2, hE3, hY, hC, hP0, hY0, hB0, hB2, hB3, hBK, hMO, hpr, hL⟩ := id hK
  refine Ct.in 0 kX11_lost (plainFor_of_name rfl) (Nat.le_of_ble_eq_true rfl) ?_
  refine w_aload_n (zat TX11_lost 0 rfl) rfl ?_
  refine x_call1 (qX11_survey_k l h0 nP nB nE Y pg on ot c pr hK) (by decide) kX11_survey (rdy_V (zat TX11_lost 1 rfl) kX11_survey pX11_survey zw704 zw706 zw21 (zrc (by decide) (by decide) rfl)) (Nat.le_of_ble_eq_true rfl) rfl rfl (fun v h2 hq => ?_) (fun r h2 hq => by cases hq.1)
  obtain ⟨hq1, hN⟩ := hq
  cases hq1
  obtain ⟨hF, ⟨hM2, ⟨hN9, hN10⟩, hS⟩, hT, hO⟩ := id hN
  have hW2 := Wc.same hF.1 hW0
  have hp2 : ∀ p, p < nP → zI h2 64 0 p = nI (pr p) ∧ pr p ≤ 1000 := fun p hp => ⟨(hS p hp).1.trans (hpr p hp).1, (hpr p hp).2⟩
  have hlt : ∀ j, j < nP → oM pr (dW on ot c nB nP) j nP < 16016 := fun j hj => by
    have h1 := (oM_le pr (dW on ot c nB nP) j nP).1
    have h3 := (hpr j hj).2
    omega
  refine w_aload_n (zat TX11_lost 2 rfl) rfl ?_
  refine w_getR (zat TX11_lost 3 rfl) fX11_51 s0 (by decide) (by decide) rfl (wcr hW2 6 rfl) ?_
  refine x_callv1 (qX3_lostInAll l h2 hW2 nP hP2 pr (fun v => oM pr (dW on ot c nB nP) v nP) hp2 hO hlt hN9 (fun j hj => by rw [(oS_sr hP2 hj (dW_aa hL j)).1]; exact sr_lt _ _ hj nP (Nat.le_refl _))) (by decide) kX3_lostInAll (rdy_V (zat TX11_lost 4 rfl) kX3_lostInAll pX3_lostInAll zw772 zw773 zw774 (zrc (by decide) (by decide) rfl)) (Nat.le_of_ble_eq_true rfl) rfl rfl ?_
  refine w_lreturn (zat TX11_lost 5 rfl) rfl ?_
  exact ⟨rfl, hF.V, hN⟩
