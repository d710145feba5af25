-- price, prices of the model; price of the class, by program (wip/gen/p38.py)
theorem qX14_price_n (l : Launch) (h : zH) (p y z : Int32) (nP : Nat) (hP : zI h 1 0 4 = nI nP) (hP2 : nP ≤ 10) (Hp : ¬ ((0 ≤ p ∧ p < nI nP) ∧ (0 ≤ y ∧ y ≤ 99))) : Cx l 2 mX14_price [Vq (some (1, 0)), Vi p, Vi y, Vi z] h (Rv (Vi (-1))) (zsI h 1 0 0 0) := by
  refine Ct.in 0 kX14_price (plainFor_of_name rfl) (Nat.le_of_ble_eq_true rfl) ?_
  refine w_aload_n (zat TX14_price 0 rfl) rfl ?_
  refine w_iconst (v := 0) (zat TX14_price 1 rfl) (by decide) ?_
  refine w_putI (zat TX14_price 2 rfl) gX14_price_100 s1 (by decide) (by decide) rfl ⟨rfl, rfl⟩ ?_
  refine w_aload_n (zat TX14_price 3 rfl) rfl ?_
  refine w_iload_n (zat TX14_price 4 rfl) rfl ?_
  refine x_callv2 (qX14_isProvince l _ _ nP hP) (by decide) kX14_isProvince (rdy_V (zat TX14_price 5 rfl) kX14_isProvince pX14_isProvince zw1200 zw1202 zw33 (zrc (by decide) (by decide) rfl)) (Nat.le_of_ble_eq_true rfl) rfl rfl ?_
  refine w_if_eq 33 (zat TX14_price 6 rfl) (by decide) (fun Hc10 => ?_) (fun Hc10 => ?_)
  · refine w_iconst (v := -1) (zat TX14_price 18 rfl) (by decide) ?_
    refine w_ireturn (zat TX14_price 19 rfl) rfl rfl ?_
    exact ⟨rfl, rfl⟩
  · refine w_iload_n (zat TX14_price 7 rfl) rfl ?_
    refine w_iconst (v := 0) (zat TX14_price 8 rfl) (by decide) ?_
    refine w_bipush (v := 99) (zat TX14_price 9 rfl) (by decide) ?_
    refine x_callv3 (qX14_in l _ _ _ _) (by decide) kX14_in (rdy_S (zat TX14_price 10 rfl) kX14_in pX14_in zw1185 zw1186) (Nat.le_of_ble_eq_true rfl) rfl rfl ?_
    refine w_if_eq 33 (zat TX14_price 11 rfl) (by decide) (fun Hc20 => ?_) (fun Hc20 => ?_)
    · refine w_iconst (v := -1) (zat TX14_price 18 rfl) (by decide) ?_
      refine w_ireturn (zat TX14_price 19 rfl) rfl rfl ?_
      exact ⟨rfl, rfl⟩
    · simp only [zb_0, Decidable.not_not] at Hc10 Hc20
      exact absurd ⟨Hc10, Hc20⟩ Hp
theorem qX14_price_s (l : Launch) (h : zH) (hWM : Wm h) (pg : Nat → List (Bool × List (Nat × Int32))) (j Y : Nat) (dy : Bool) (nP : Nat) (hP : zI h 1 0 4 = nI nP) (hP2 : nP ≤ 10) (hj : j < nP) (hY : Y < 100) (nE : Nat) (hE : zI h 1 0 14 = nI nE) (hE2 : nE ≤ 30) (hE3 : zC h 17 = nE + 1) (hMR : ∀ e, e < nE → MR h e (pg e)) (hm : 0 ≤ zI h 10 0 j) (hn : 0 ≤ zI h 11 0 j) : Ct l 6 mX14_price [Vq (some (1, 0)), Vi (nI j), Vi (nI Y), Vi (zB dy)] h (fun o h' => o = Rv (Vi (prV (pfC (eP h) (eY h) nE pg j) dy (zI h 10 0 j) (zI h 11 0 j) Y)) ∧ FrT (zsI h 1 0 0 0) h') := by
  refine Ct.in 0 kX14_price (plainFor_of_name rfl) (Nat.le_of_ble_eq_true rfl) ?_
  refine w_aload_n (zat TX14_price 0 rfl) rfl ?_
  refine w_iconst (v := 0) (zat TX14_price 1 rfl) (by decide) ?_
  refine w_putI (zat TX14_price 2 rfl) gX14_price_100 s1 (by decide) (by decide) rfl ⟨rfl, rfl⟩ ?_
  refine w_aload_n (zat TX14_price 3 rfl) rfl ?_
  refine w_iload_n (zat TX14_price 4 rfl) rfl ?_
  refine x_callv2 (qX14_isProvince l _ _ nP hP) (by decide) kX14_isProvince (rdy_V (zat TX14_price 5 rfl) kX14_isProvince pX14_isProvince zw1200 zw1202 zw33 (zrc (by decide) (by decide) rfl)) (Nat.le_of_ble_eq_true rfl) rfl rfl ?_
  refine w_if_eq 33 (zat TX14_price 6 rfl) (by decide) (fun Hc10 => ?_) (fun Hc10 => ?_)
  · simp only [zb_0, Decidable.not_not] at Hc10
    exact absurd (ixI hj (by omega)) Hc10
  · refine w_iload_n (zat TX14_price 7 rfl) rfl ?_
    refine w_iconst (v := 0) (zat TX14_price 8 rfl) (by decide) ?_
    refine w_bipush (v := 99) (zat TX14_price 9 rfl) (by decide) ?_
    refine x_callv3 (qX14_in l _ _ _ _) (by decide) kX14_in (rdy_S (zat TX14_price 10 rfl) kX14_in pX14_in zw1185 zw1186) (Nat.le_of_ble_eq_true rfl) rfl rfl ?_
    refine w_if_eq 33 (zat TX14_price 11 rfl) (by decide) (fun Hc20 => ?_) (fun Hc20 => ?_)
    · simp only [zb_0, Decidable.not_not] at Hc20
      exact absurd ⟨nI_pos' (by omega), nI_le (a := Y) (b := 99) (by omega) (by omega)⟩ Hc20
    · refine w_aload_n (zat TX14_price 12 rfl) rfl ?_
      refine w_iload_n (zat TX14_price 13 rfl) rfl ?_
      refine w_iload_n (zat TX14_price 14 rfl) rfl ?_
      refine w_iload_n (zat TX14_price 15 rfl) rfl ?_
      refine x_call4 (qX14_priceOf l (zsI h 1 0 0 0) hWM pg j Y dy (by omega) hY nE hE hE2 hE3 hMR hm hn) (by decide) kX14_priceOf (rdy_V (zat TX14_price 16 rfl) kX14_priceOf pX14_priceOf zw1329 zw1331 zw50 (zrc (by decide) (by decide) rfl)) (Nat.le_of_ble_eq_true rfl) rfl rfl (fun v h2 hq => ?_) (fun r h2 hq => by cases hq.1)
      obtain ⟨hq1, hF⟩ := hq
      cases hq1
      refine w_goto 34 (zat TX14_price 17 rfl) (by decide) ?_
      refine w_ireturn (zat TX14_price 19 rfl) rfl rfl ?_
      exact ⟨rfl, hF⟩
theorem qX11_price_n (l : Launch) (h : zH) (hW : Wc h) (p y z : Int32) (nP : Nat) (hP : zI h 0 0 8 = nI nP) (hP2 : nP ≤ 10) (hP3 : zC h 58 = nP) (Hq : ¬ ((0 ≤ p ∧ p < nI nP) ∧ (0 ≤ y ∧ y ≤ 99))) : Cx l 3 mX11_price [Vq (some (0, 0)), Vi p, Vi y, Vi z] h (Rv (Vi (-1))) h := by
  by_cases Hp : 0 ≤ p ∧ p < nI nP
  · obtain ⟨Hx, Hn⟩ := ixC (n := nP) (by omega) Hp
    refine Ct.in 1 kX11_price (plainFor_of_name rfl) (Nat.le_of_ble_eq_true rfl) ?_
    refine w_aload_n (zat TX11_price 0 rfl) rfl ?_
    refine w_iload_n (zat TX11_price 1 rfl) rfl ?_
    refine x_callv2 (qX11_provinceAt_s l _ hW nP hP hP2 hP3 _ _ Hx Hn) (by decide) kX11_provinceAt (rdy_V (zat TX11_price 2 rfl) kX11_provinceAt pX11_provinceAt zw390 zw392 zw2 (zrc (by decide) (by decide) rfl)) (Nat.le_of_ble_eq_true rfl) rfl rfl ?_
    refine x_astore (ls2 := [_, _, _, _, _]) (zat TX11_price 3 rfl) (by decide) rfl ?_
    refine w_aload (zat TX11_price 4 rfl) rfl ?_
    refine w_ifnull_f (zat TX11_price 5 rfl) ?_
    refine w_iload_n (zat TX11_price 6 rfl) rfl ?_
    refine w_iconst (v := 0) (zat TX11_price 7 rfl) (by decide) ?_
    refine w_bipush (v := 99) (zat TX11_price 8 rfl) (by decide) ?_
    refine x_callv3 (qX11_within l _ _ _ _) (by decide) kX11_within (rdy_S (zat TX11_price 9 rfl) kX11_within pX11_within zw341 zw342) (Nat.le_of_ble_eq_true rfl) rfl rfl ?_
    refine w_if_ne 24 (zat TX11_price 10 rfl) (by decide) (fun Hc19 => ?_) (fun Hc19 => ?_)
    · simp only [zb_0, Decidable.not_not, ne_eq] at Hc19
      exact absurd ⟨Hp, Hc19⟩ Hq
    · refine w_iconst (v := -1) (zat TX11_price 11 rfl) (by decide) ?_
      refine w_ireturn (zat TX11_price 12 rfl) rfl rfl ?_
      exact ⟨rfl, rfl⟩
  · skip
    refine Ct.in 1 kX11_price (plainFor_of_name rfl) (Nat.le_of_ble_eq_true rfl) ?_
    refine w_aload_n (zat TX11_price 0 rfl) rfl ?_
    refine w_iload_n (zat TX11_price 1 rfl) rfl ?_
    refine x_callv2 (qX11_provinceAt_n l _ hW nP hP hP2 hP3 _ Hp) (by decide) kX11_provinceAt (rdy_V (zat TX11_price 2 rfl) kX11_provinceAt pX11_provinceAt zw390 zw392 zw2 (zrc (by decide) (by decide) rfl)) (Nat.le_of_ble_eq_true rfl) rfl rfl ?_
    refine x_astore (ls2 := [_, _, _, _, _]) (zat TX11_price 3 rfl) (by decide) rfl ?_
    refine w_aload (zat TX11_price 4 rfl) rfl ?_
    refine w_ifnull_t 22 (zat TX11_price 5 rfl) (by decide) ?_
    refine w_iconst (v := -1) (zat TX11_price 11 rfl) (by decide) ?_
    refine w_ireturn (zat TX11_price 12 rfl) rfl rfl ?_
    exact ⟨rfl, rfl⟩
theorem qX11_price_s (l : Launch) (h : zH) (hW : Wc h) (pg : Nat → List (Bool × List (Nat × Int32))) (j Y k0 : Nat) (z : Int32) (nP : Nat) (hP : zI h 0 0 8 = nI nP) (hP2 : nP ≤ 10) (hP3 : zC h 58 = nP) (hj : j < nP) (hY2 : Y < 100) (hk : k0 ≤ 100) (nE : Nat) (hE : zI h 55 0 2 = nI nE) (hE2 : nE ≤ 30) (hE3 : zC h 60 = nE) (hY : ∀ e, e < nE → 0 ≤ cY h e) (hC : ∀ e, e < nE → CR h e (pg e)) (hk0 : zI h 58 j 4 = nI k0) (hM : MM h (pfC (cP h) (cY h) nE pg j) (zI h 58 j 0) (zI h 58 j 1) j k0) : Ct l 8 mX11_price [Vq (some (0, 0)), Vi (nI j), Vi (nI Y), Vi z] h (fun o h' => o = Rv (Vi (prV (pfC (cP h) (cY h) nE pg j) (decide (¬ z = 0)) (zI h 58 j 0) (zI h 58 j 1) Y)) ∧ FrL j h h' ∧ zI h' 58 j 4 = nI (max k0 (Y + 1)) ∧ MM h' (pfC (cP h) (cY h) nE pg j) (zI h 58 j 0) (zI h 58 j 1) j (max k0 (Y + 1))) := by
  refine Ct.in 1 kX11_price (plainFor_of_name rfl) (Nat.le_of_ble_eq_true rfl) ?_
  refine w_aload_n (zat TX11_price 0 rfl) rfl ?_
  refine w_iload_n (zat TX11_price 1 rfl) rfl ?_
  refine x_callv2 (qX11_provinceAt_s l _ hW nP hP hP2 hP3 _ j rfl hj) (by decide) kX11_provinceAt (rdy_V (zat TX11_price 2 rfl) kX11_provinceAt pX11_provinceAt zw390 zw392 zw2 (zrc (by decide) (by decide) rfl)) (Nat.le_of_ble_eq_true rfl) rfl rfl ?_
  refine x_astore (ls2 := [_, _, _, _, _]) (zat TX11_price 3 rfl) (by decide) rfl ?_
  refine w_aload (zat TX11_price 4 rfl) rfl ?_
  refine w_ifnull_f (zat TX11_price 5 rfl) ?_
  refine w_iload_n (zat TX11_price 6 rfl) rfl ?_
  refine w_iconst (v := 0) (zat TX11_price 7 rfl) (by decide) ?_
  refine w_bipush (v := 99) (zat TX11_price 8 rfl) (by decide) ?_
  refine x_callv3 (qX11_within l _ _ _ _) (by decide) kX11_within (rdy_S (zat TX11_price 9 rfl) kX11_within pX11_within zw341 zw342) (Nat.le_of_ble_eq_true rfl) rfl rfl ?_
  refine w_if_ne 24 (zat TX11_price 10 rfl) (by decide) (fun Hc19 => ?_) (fun Hc19 => ?_)
  · refine w_aload_n (zat TX11_price 13 rfl) rfl ?_
    refine w_getR (zat TX11_price 14 rfl) fX11_44 s0 (by decide) (by decide) rfl (wcr hW 5 rfl) ?_
    refine w_aload (zat TX11_price 15 rfl) rfl ?_
    refine w_iload_n (zat TX11_price 16 rfl) rfl ?_
    refine w_iload_n (zat TX11_price 17 rfl) rfl ?_
    refine x_call4 (qX2_learn l h hW pg j Y k0 (by omega) (by omega) hY2 hk nE hE hE2 hE3 hY hC hk0 hM) (by decide) kX2_learn (rdy_V (zat TX11_price 18 rfl) kX2_learn pX2_learn zw653 zw654 zw655 (zrc (by decide) (by decide) rfl)) (Nat.le_of_ble_eq_true rfl) rfl rfl (fun v h2 hq => ?_) (fun r h2 hq => by cases hq.1)
    obtain ⟨hq1, hF, h4, hM2⟩ := hq
    cases hq1
    have hg : h2.2.2 = h.2.2 := congrArg Prod.snd hF.1
    have hW2 : Wc h2 := Wc.same hg hW
    have hp2 : j < zC h2 58 := by unfold zC; rw [hg]; exact (show j < zC h 58 by omega)
    have hv := hM2 Y (by omega)
    refine w_iload_n (zat TX11_price 19 rfl) rfl ?_
    refine w_if_eq 49 (zat TX11_price 20 rfl) (by decide) (fun Hc36 => ?_) (fun Hc36 => ?_)
    · refine w_aload (zat TX11_price 26 rfl) rfl ?_
      refine w_getR (zat TX11_price 27 rfl) fX11_188 s58 (by decide) (by decide) rfl ((hW2.2.2.1.2.2 j hp2).2.1) ?_
      refine w_iload_n (zat TX11_price 28 rfl) rfl ?_
      refine y_iaload _ _ (v := prV (pfC (cP h) (cY h) nE pg j) false (zI h 58 j 0) (zI h 58 j 1) Y) (zat TX11_price 29 rfl) s76 (by decide) ((hW2.2.2.1.2.2 j hp2).2.2.2.1) (by decide) rfl hY2 hv.1 ?_
      refine w_ireturn (zat TX11_price 30 rfl) rfl rfl ?_
      first | exact ⟨by rw [decide_eq_true Hc36], hF, h4, hM2⟩ | exact ⟨by rw [decide_eq_false (fun q => q Hc36)], hF, h4, hM2⟩
    · refine w_aload (zat TX11_price 21 rfl) rfl ?_
      refine w_getR (zat TX11_price 22 rfl) fX11_184 s58 (by decide) (by decide) rfl ((hW2.2.2.1.2.2 j hp2).2.2.1) ?_
      refine w_iload_n (zat TX11_price 23 rfl) rfl ?_
      refine y_iaload _ _ (v := prV (pfC (cP h) (cY h) nE pg j) true (zI h 58 j 0) (zI h 58 j 1) Y) (zat TX11_price 24 rfl) s77 (by decide) ((hW2.2.2.1.2.2 j hp2).2.2.2.2) (by decide) rfl hY2 hv.2 ?_
      refine w_goto 56 (zat TX11_price 25 rfl) (by decide) ?_
      refine w_ireturn (zat TX11_price 30 rfl) rfl rfl ?_
      first | exact ⟨by rw [decide_eq_true Hc36], hF, h4, hM2⟩ | exact ⟨by rw [decide_eq_false (fun q => q Hc36)], hF, h4, hM2⟩
  · simp only [zb_0, Decidable.not_not] at Hc19
    exact absurd ⟨nI_pos' (by omega), nI_le (a := Y) (b := 99) (by omega) (by omega)⟩ Hc19
