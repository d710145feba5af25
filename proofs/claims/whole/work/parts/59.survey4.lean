-- survey of the class, by program (wip/gen/p59.py)
theorem FrS.cnt (h : zH) (a b : Int32) : FrS h (zsI (zsI h 56 0 9 a) 56 0 10 b) := ⟨rfl, fun k h1 _ _ _ _ _ _ _ _ _ _ => funext (fun i => funext (fun x => (if_neg (fun z => h1 z.1)).trans (if_neg (fun z => h1 z.1)))), fun _ _ _ => rfl, fun _ _ _ => rfl, fun j h1 h2 => (if_neg (fun z => h2 z.2.2)).trans (if_neg (fun z => h1 z.2.2))⟩
theorem FrG.S {a b : zH} (x : FrG 67 a b) : FrS a b := ⟨congrArg Prod.snd x.1, fun k _ _ _ _ _ _ _ h8 _ _ _ => x.2 k h8, fun i j _ => by rw [x.2 58 (by decide)], fun k _ _ => by unfold zL; rw [x.1], fun j _ _ => by rw [x.2 56 (by decide)]⟩
theorem qX11_survey (l : Launch) (h0 : zH) (hW0 : Wc h0) (pg : Nat → List (Bool × List (Nat × Int32))) (nP Y : Nat) (hP2 : nP ≤ 10) (hP3 : zC h0 58 = nP) (hYl : Y < 100) (nE : Nat) (hE : zI h0 55 0 2 = nI nE) (hE2 : nE ≤ 30) (hE3 : zC h0 60 = nE) (hY : ∀ e, e < nE → 0 ≤ cY h0 e) (hC : ∀ e, e < nE → CR h0 e (pg e)) (hP0 : zI h0 0 0 8 = nI nP) (hY0 : zI h0 0 0 11 = nI Y) (nB : Nat) (hB0 : zI h0 0 0 9 = nI nB) (hB2 : nB ≤ 16) (hB3 : zC h0 59 = nB) (on ot c : Nat → Nat) (hBK : BK h0 nP nB on ot c) (hMO : MO h0 nP (pfC (cP h0) (cY h0) nE pg) (fun p => zI h0 58 p 0) (fun p => zI h0 58 p 1)) (pr : Nat → Nat) (hpr : ∀ p, p < nP → (prV ((pfC (cP h0) (cY h0) nE pg) p) false (zI h0 58 p 0) (zI h0 58 p 1) Y) = nI (pr p) ∧ pr p ≤ 1000) : Ct l 8 mX11_survey [Vq (some (0, 0))] h0 (fun o h' => o = R0 ∧ FrS h0 h' ∧ (MO h' nP (pfC (cP h0) (cY h0) nE pg) (fun p => zI h0 58 p 0) (fun p => zI h0 58 p 1) ∧ (zI h' 56 0 9 = nI nP ∧ zI h' 56 0 10 = nI nB) ∧ ∀ p, p < nP → SE h' p (prV ((pfC (cP h0) (cY h0) nE pg) p) false (zI h0 58 p 0) (zI h0 58 p 1) Y) (prV ((pfC (cP h0) (cY h0) nE pg) p) true (zI h0 58 p 0) (zI h0 58 p 1) Y) (zI h0 58 p 0) (zI h0 58 p 1)) ∧ BT h' nP nB on ot c ∧ CF h' 67 nP (bL on ot (fun k => 16 * c k) nB nP (oF pr))) := by
  refine Ct.in 2 kX11_survey (plainFor_of_name rfl) (Nat.le_of_ble_eq_true rfl) ?_
  refine w_aload_n (zat TX11_survey_0 0 rfl) rfl ?_
  refine w_getR (zat TX11_survey_0 1 rfl) fX11_51 s0 (by decide) (by decide) rfl (wcr hW0 6 rfl) ?_
  refine w_aload_n (zat TX11_survey_0 2 rfl) rfl ?_
  refine y_getI (v := nI nP) (zat TX11_survey_0 3 rfl) fX11_62 s0 (by decide) (by decide) rfl hP0 ?_
  refine w_putI (zat TX11_survey_0 4 rfl) gX11_survey_286 s56 (by decide) (by decide) rfl ⟨rfl, rfl⟩ ?_
  refine w_aload_n (zat TX11_survey_0 5 rfl) rfl ?_
  refine w_getR (zat TX11_survey_0 6 rfl) fX11_51 s0 (by decide) (by decide) rfl (wcr hW0 6 rfl) ?_
  refine w_aload_n (zat TX11_survey_0 7 rfl) rfl ?_
  refine y_getI (v := nI nB) (zat TX11_survey_0 8 rfl) fX11_66 s0 (by decide) (by decide) rfl hB0 ?_
  refine w_putI (zat TX11_survey_0 9 rfl) gX11_survey_287 s56 (by decide) (by decide) rfl ⟨rfl, rfl⟩ ?_
  refine w_iconst (v := 0) (zat TX11_survey_0 10 rfl) (by decide) ?_
  refine x_istore_n (ls2 := [_, _, _]) (zat TX11_survey_0 11 rfl) (by decide) rfl ?_
  refine lX11_survey_24 l h0 hW0 pg nP Y hP2 hP3 hYl nE hE hE2 hE3 hY hC hP0 hY0 _ (nI nB) (fun h hF hM hN hS y x => ?_) nP 0 (by omega) (zsI (zsI h0 56 0 9 (nI nP)) 56 0 10 (nI nB)) (FrS.cnt h0 _ _) (fun p hp => hMO p hp) ⟨rfl, rfl⟩ (fun p hp => by omega) _
  refine w_iconst (v := 0) (zat TX11_survey_0 37 rfl) (by decide) ?_
  refine x_istore_n (ls2 := [_, _, _]) (zat TX11_survey_0 38 rfl) (by decide) rfl ?_
  refine lX11_survey_73 l h0 hW0 nP nB hB0 hB2 hB3 on ot c hBK _ (fun h => (MO h nP (pfC (cP h0) (cY h0) nE pg) (fun p => zI h0 58 p 0) (fun p => zI h0 58 p 1) ∧ (zI h 56 0 9 = nI nP ∧ zI h 56 0 10 = nI nB) ∧ ∀ p, p < nP → SE h p (prV ((pfC (cP h0) (cY h0) nE pg) p) false (zI h0 58 p 0) (zI h0 58 p 1) Y) (prV ((pfC (cP h0) (cY h0) nE pg) p) true (zI h0 58 p 0) (zI h0 58 p 1) Y) (zI h0 58 p 0) (zI h0 58 p 1))) (fun h k a b t hr => hr) (fun h hF hR hT y x => ?_) nB 0 (by omega) h hF ⟨hM, hN, hS⟩ (fun k hk => by omega) _
  have hWs := Wc.same hF.1 hW0
  refine w_aload_n (zat TX11_survey_1 6 rfl) rfl ?_
  refine w_getR (zat TX11_survey_1 7 rfl) fX11_51 s0 (by decide) (by decide) rfl (wcr hWs 6 rfl) ?_
  refine x_call1 (qX3_settle l h hWs nP hR.2.1.1 hP2 nB hR.2.1.2 hB2 on ot c hT pr (fun p hp => ⟨(hR.2.2 p hp).1.trans (hpr p hp).1, (hpr p hp).2⟩)) (by decide) kX3_settle (rdy_V (zat TX11_survey_1 8 rfl) kX3_settle pX3_settle zw716 zw717 zw718 (zrc (by decide) (by decide) rfl)) (Nat.le_of_ble_eq_true rfl) rfl rfl (fun v h2 hq => ?_) (fun r h2 hq => by cases hq.1)
  obtain ⟨hq1, hG, hC2⟩ := hq
  cases hq1
  refine w_return (zat TX11_survey_1 9 rfl) rfl ?_
  refine ⟨rfl, hF.tr hG.S, ⟨?_, ?_, fun p hp => ?_⟩, hT.fr hG (by decide) (by decide) (by decide), hC2⟩
  · intro p hp
    obtain ⟨k, k1, k2, k3⟩ := hR.1 p hp
    refine ⟨k, k1, ?_, ?_⟩
    · rw [hG.2 58 (by decide)]; exact k2
    · unfold MM
      rw [hG.2 76 (by decide), hG.2 77 (by decide)]
      exact k3
  · rw [hG.2 56 (by decide)]
    exact hR.2.1
  · have Ho := hR.2.2 p hp
    unfold SE at Ho ⊢
    rw [hG.2 64 (by decide), show zL h2 = zL h by unfold zL; rw [hG.1]]
    exact Ho
