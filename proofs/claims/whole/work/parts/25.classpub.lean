-- THE CLASS'S SMALL PUBLIC METHODS, by program (wip/gen/p25.py)
def cWeight (h : zH) (v : Int32) : Int32 × zH := if 0 ≤ v ∧ v ≤ 200 then (1, zsI (zsI h 0 0 12 v) 0 0 13 0) else (0, zsI h 0 0 13 2)
theorem qX11_weight (l : Launch) (h : zH) (v : Int32) : Cx l 2 mX11_weight [Vq (some (0, 0)), Vi v] h (Rv (Vi (cWeight h v).1)) (cWeight h v).2 := by
  refine Ct.in 0 kX11_weight (plainFor_of_name rfl) (Nat.le_of_ble_eq_true rfl) ?_
  refine w_iload_n (zat TX11_weight 0 rfl) rfl ?_
  refine w_iconst (v := 0) (zat TX11_weight 1 rfl) (by decide) ?_
  refine w_sipush (v := 200) (zat TX11_weight 2 rfl) (by decide) ?_
  refine x_callv3 (qX11_within l _ _ _ _) (by decide) kX11_within (rdy_S (zat TX11_weight 3 rfl) kX11_within pX11_within zw341 zw342) (Nat.le_of_ble_eq_true rfl) rfl rfl ?_
  refine w_if_ne 17 (zat TX11_weight 4 rfl) (by decide) (fun Hc8 => ?_) (fun Hc8 => ?_)
  · refine w_aload_n (zat TX11_weight 9 rfl) rfl ?_
    refine w_iload_n (zat TX11_weight 10 rfl) rfl ?_
    refine w_putI (zat TX11_weight 11 rfl) gX11_weight_75 s0 (by decide) (by decide) rfl ⟨rfl, rfl⟩ ?_
    refine w_aload_n (zat TX11_weight 12 rfl) rfl ?_
    refine x_callv1 (qX11_allow l _) (by decide) kX11_allow (rdy_V (zat TX11_weight 13 rfl) kX11_allow pX11_allow zw405 zw407 zw4 (zrc (by decide) (by decide) rfl)) (Nat.le_of_ble_eq_true rfl) rfl rfl ?_
    refine w_ireturn (zat TX11_weight 14 rfl) rfl rfl ?_
    try simp only [zb_0, Decidable.not_not] at Hc8
    exact ⟨by simp only [cWeight, Hc8, if_true, if_false, and_self, not_true_eq_false, not_false_eq_true, and_false, false_and, true_and, and_true], by simp only [cWeight, Hc8, if_true, if_false, and_self, not_true_eq_false, not_false_eq_true, and_false, false_and, true_and, and_true]⟩
  · refine w_aload_n (zat TX11_weight 5 rfl) rfl ?_
    refine w_iconst (v := 2) (zat TX11_weight 6 rfl) (by decide) ?_
    refine x_callv2 (qX11_deny l _ _) (by decide) kX11_deny (rdy_V (zat TX11_weight 7 rfl) kX11_deny pX11_deny zw394 zw396 zw3 (zrc (by decide) (by decide) rfl)) (Nat.le_of_ble_eq_true rfl) rfl rfl ?_
    refine w_ireturn (zat TX11_weight 8 rfl) rfl rfl ?_
    try simp only [zb_0, Decidable.not_not] at Hc8
    exact ⟨by simp only [cWeight, Hc8, if_true, if_false, and_self, not_true_eq_false, not_false_eq_true, and_false, false_and, true_and, and_true], by simp only [cWeight, Hc8, if_true, if_false, and_self, not_true_eq_false, not_false_eq_true, and_false, false_and, true_and, and_true]⟩
def cProvince (h : zH) (nP : Nat) (a b : Int32) : Int32 × zH := if (0 ≤ a ∧ a ≤ 100000) ∧ (0 ≤ b ∧ b ≤ 50) then (if nP = 10 then (-1, zsI h 0 0 13 3) else (nI nP, zsI (zsI (zsR (pNew (znew h 58 0 5) (zC h 58) a b) 50 0 nP (some (58, zC h 58))) 0 0 8 (nI (nP + 1))) 0 0 13 0)) else (-1, zsI h 0 0 13 2)
theorem qX11_province (l : Launch) (h : zH) (hW : Wc h) (a b : Int32) (nP : Nat) (hP : zI h 0 0 8 = nI nP) (hP2 : nP ≤ 10) (hP3 : zC h 58 = nP) : Cx l 3 mX11_province [Vq (some (0, 0)), Vi a, Vi b] h (Rv (Vi (cProvince h nP a b).1)) (cProvince h nP a b).2 := by
  refine Ct.in 0 kX11_province (plainFor_of_name rfl) (Nat.le_of_ble_eq_true rfl) ?_
  refine w_iload_n (zat TX11_province 0 rfl) rfl ?_
  refine w_iload_n (zat TX11_province 1 rfl) rfl ?_
  refine x_callv2 (qX11_fitsPeople l _ _ _) (by decide) kX11_fitsPeople (rdy_S (zat TX11_province 2 rfl) kX11_fitsPeople pX11_fitsPeople zw337 zw338) (Nat.le_of_ble_eq_true rfl) rfl rfl ?_
  refine w_if_ne 14 (zat TX11_province 3 rfl) (by decide) (fun Hc5 => ?_) (fun Hc5 => ?_)
  · refine w_aload_n (zat TX11_province 8 rfl) rfl ?_
    refine y_getI (v := nI nP) (zat TX11_province 9 rfl) fX11_62 s0 (by decide) (by decide) rfl hP ?_
    refine w_bipush (v := 10) (zat TX11_province 10 rfl) (by decide) ?_
    rw [show ((10 : Int32)) = nI 10 from rfl]
    refine w_icmp_lt 29 (zat TX11_province 11 rfl) (by decide) (fun Hc20 => ?_) (fun Hc20 => ?_)
    · rw [nI_ltI (by omega) (by decide)] at Hc20
      replace Hc20 : ¬ nP = 10 := by omega
      refine w_aload_n (zat TX11_province 16 rfl) rfl ?_
      refine w_getR (zat TX11_province 17 rfl) fX11_11 s0 (by decide) (by decide) rfl (wcr hW 0 rfl) ?_
      refine w_aload_n (zat TX11_province 18 rfl) rfl ?_
      refine y_getI (v := nI nP) (zat TX11_province 19 rfl) fX11_62 s0 (by decide) (by decide) rfl hP ?_
      refine w_new 58 (zat TX11_province 20 rfl) s58 (by decide) (by decide) rfl zw96 zw348 zw78 (by decide) ?_
      refine w_dup (zat TX11_province 21 rfl) rfl ?_
      refine w_iload_n (zat TX11_province 22 rfl) rfl ?_
      refine w_iload_n (zat TX11_province 23 rfl) rfl ?_
      refine x_callu3 (qX5_init l _ _ _ _) (by decide) kX5_init (rdy_I (zat TX11_province 24 rfl) kX5_init pX5_init rfl rfl rfl zw349 zw350) (Nat.le_of_ble_eq_true rfl) rfl rfl ?_
      refine x_aastore nP _ (zat TX11_province 25 rfl) s50 (by decide) s58 (by decide) (by show 58 < 900; decide) (wcn hW 0 rfl) (by decide) rfl (by omega) ?_
      refine w_aload_n (zat TX11_province 26 rfl) rfl ?_
      refine w_dup (zat TX11_province 27 rfl) rfl ?_
      refine y_getI (v := nI nP) (zat TX11_province 28 rfl) fX11_62 s0 (by decide) (by decide) rfl hP ?_
      refine w_iconst (v := 1) (zat TX11_province 29 rfl) (by decide) ?_
      refine w_iadd (zat TX11_province 30 rfl) ?_
      rw [nI_1]
      refine w_putI (zat TX11_province 31 rfl) gX11_province_62 s0 (by decide) (by decide) rfl ⟨rfl, rfl⟩ ?_
      refine w_aload_n (zat TX11_province 32 rfl) rfl ?_
      refine w_aload_n (zat TX11_province 33 rfl) rfl ?_
      refine y_getI (v := nI (nP + 1)) (zat TX11_province 34 rfl) fX11_62 s0 (by decide) (by decide) rfl (zI_same _ 0 0 _ _) ?_
      refine w_iconst (v := 1) (zat TX11_province 35 rfl) (by decide) ?_
      refine w_isub (zat TX11_province 36 rfl) ?_
      rw [show nI (nP + 1) - 1 = nI nP from nI_pred nP]
      refine x_callv2 (qX11_grant l _ _) (by decide) kX11_grant (rdy_V (zat TX11_province 37 rfl) kX11_grant pX11_grant zw382 zw384 zw1 (zrc (by decide) (by decide) rfl)) (Nat.le_of_ble_eq_true rfl) rfl rfl ?_
      refine w_ireturn (zat TX11_province 38 rfl) rfl rfl ?_
      try simp only [zb_0, Decidable.not_not] at Hc5 Hc20
      exact ⟨by simp only [cProvince, Hc5, Hc20, if_true, if_false, and_self, not_true_eq_false, not_false_eq_true, and_false, false_and, true_and, and_true], by simp only [cProvince, Hc5, Hc20, if_true, if_false, and_self, not_true_eq_false, not_false_eq_true, and_false, false_and, true_and, and_true]⟩
    · rw [nI_ltI (by omega) (by decide)] at Hc20
      replace Hc20 : nP = 10 := by omega
      refine w_aload_n (zat TX11_province 12 rfl) rfl ?_
      refine w_iconst (v := 3) (zat TX11_province 13 rfl) (by decide) ?_
      refine x_callv2 (qX11_refuse l _ _) (by decide) kX11_refuse (rdy_V (zat TX11_province 14 rfl) kX11_refuse pX11_refuse zw344 zw346 zw0 (zrc (by decide) (by decide) rfl)) (Nat.le_of_ble_eq_true rfl) rfl rfl ?_
      refine w_ireturn (zat TX11_province 15 rfl) rfl rfl ?_
      try simp only [zb_0, Decidable.not_not] at Hc5 Hc20
      exact ⟨by simp only [cProvince, Hc5, Hc20, if_true, if_false, and_self, not_true_eq_false, not_false_eq_true, and_false, false_and, true_and, and_true], by simp only [cProvince, Hc5, Hc20, if_true, if_false, and_self, not_true_eq_false, not_false_eq_true, and_false, false_and, true_and, and_true]⟩
  · refine w_aload_n (zat TX11_province 4 rfl) rfl ?_
    refine w_iconst (v := 2) (zat TX11_province 5 rfl) (by decide) ?_
    refine x_callv2 (qX11_refuse l _ _) (by decide) kX11_refuse (rdy_V (zat TX11_province 6 rfl) kX11_refuse pX11_refuse zw344 zw346 zw0 (zrc (by decide) (by decide) rfl)) (Nat.le_of_ble_eq_true rfl) rfl rfl ?_
    refine w_ireturn (zat TX11_province 7 rfl) rfl rfl ?_
    try simp only [zb_0, Decidable.not_not] at Hc5
    exact ⟨by simp only [cProvince, Hc5, if_true, if_false, and_self, not_true_eq_false, not_false_eq_true, and_false, false_and, true_and, and_true], by simp only [cProvince, Hc5, if_true, if_false, and_self, not_true_eq_false, not_false_eq_true, and_false, false_and, true_and, and_true]⟩
def cPeople (h : zH) (nP : Nat) (p a b : Int32) : Int32 × zH := if 0 ≤ p ∧ p < nI nP then (if (0 ≤ a ∧ a ≤ 100000) ∧ (0 ≤ b ∧ b ≤ 50) then (1, zsI (zsI (zsI (zsI h 58 p.toNatClampNeg 0 a) 58 p.toNatClampNeg 1 b) 58 p.toNatClampNeg 4 (if 0 < zI h 58 p.toNatClampNeg 4 then 0 else zI h 58 p.toNatClampNeg 4)) 0 0 13 0) else (0, zsI h 0 0 13 2)) else (0, zsI h 0 0 13 1)
theorem qX11_people (l : Launch) (h : zH) (hW : Wc h) (p a b : Int32) (nP : Nat) (hP : zI h 0 0 8 = nI nP) (hP2 : nP ≤ 10) (hP3 : zC h 58 = nP) : Cx l 3 mX11_people [Vq (some (0, 0)), Vi p, Vi a, Vi b] h (Rv (Vi (cPeople h nP p a b).1)) (cPeople h nP p a b).2 := by
  by_cases Hp : 0 ≤ p ∧ p < nI nP
  · obtain ⟨Hx, Hn⟩ := ixC (n := nP) (by omega) Hp
    refine Ct.in 1 kX11_people (plainFor_of_name rfl) (Nat.le_of_ble_eq_true rfl) ?_
    refine w_aload_n (zat TX11_people 0 rfl) rfl ?_
    refine w_iload_n (zat TX11_people 1 rfl) rfl ?_
    refine x_callv2 (qX11_provinceAt_s l _ hW nP hP hP2 hP3 _ _ Hx Hn) (by decide) kX11_provinceAt (rdy_V (zat TX11_people 2 rfl) kX11_provinceAt pX11_provinceAt zw390 zw392 zw2 (zrc (by decide) (by decide) rfl)) (Nat.le_of_ble_eq_true rfl) rfl rfl ?_
    refine x_astore (ls2 := [_, _, _, _, _]) (zat TX11_people 3 rfl) (by decide) rfl ?_
    refine w_aload (zat TX11_people 4 rfl) rfl ?_
    refine w_ifnonnull_t 18 (zat TX11_people 5 rfl) (by decide) ?_
    refine w_iload_n (zat TX11_people 10 rfl) rfl ?_
    refine w_iload_n (zat TX11_people 11 rfl) rfl ?_
    refine x_callv2 (qX11_fitsPeople l _ _ _) (by decide) kX11_fitsPeople (rdy_S (zat TX11_people 12 rfl) kX11_fitsPeople pX11_fitsPeople zw337 zw338) (Nat.le_of_ble_eq_true rfl) rfl rfl ?_
    refine w_if_ne 32 (zat TX11_people 13 rfl) (by decide) (fun Hc23 => ?_) (fun Hc23 => ?_)
    · refine w_aload (zat TX11_people 18 rfl) rfl ?_
      refine w_iload_n (zat TX11_people 19 rfl) rfl ?_
      refine w_putI (zat TX11_people 20 rfl) gX11_people_109 s58 (by decide) (by decide) rfl ⟨rfl, rfl⟩ ?_
      refine w_aload (zat TX11_people 21 rfl) rfl ?_
      refine w_iload_n (zat TX11_people 22 rfl) rfl ?_
      refine w_putI (zat TX11_people 23 rfl) gX11_people_112 s58 (by decide) (by decide) rfl ⟨rfl, rfl⟩ ?_
      refine w_aload (zat TX11_people 24 rfl) rfl ?_
      refine w_iconst (v := 0) (zat TX11_people 25 rfl) (by decide) ?_
      refine x_callu2 (qX5_forgetFrom l _ _ _) (by decide) kX5_forgetFrom (rdy_V (zat TX11_people 26 rfl) kX5_forgetFrom pX5_forgetFrom zw398 zw399 zw400 (zrc (by decide) (by decide) rfl)) (Nat.le_of_ble_eq_true rfl) rfl rfl ?_
      rw [show zI (zsI (zsI h 58 p.toNatClampNeg 0 a) 58 p.toNatClampNeg 1 b) 58 p.toNatClampNeg 4 = zI h 58 p.toNatClampNeg 4 by rw [zI_oth _ _ _ _ _ (by decide), zI_oth _ _ _ _ _ (by decide)]]
      refine w_aload_n (zat TX11_people 27 rfl) rfl ?_
      refine x_callv1 (qX11_allow l _) (by decide) kX11_allow (rdy_V (zat TX11_people 28 rfl) kX11_allow pX11_allow zw405 zw407 zw4 (zrc (by decide) (by decide) rfl)) (Nat.le_of_ble_eq_true rfl) rfl rfl ?_
      refine w_ireturn (zat TX11_people 29 rfl) rfl rfl ?_
      try simp only [zb_0, Decidable.not_not] at Hc23
      exact ⟨by simp only [cPeople, Hp, Hc23, if_true, if_false, and_self, not_true_eq_false, not_false_eq_true, and_false, false_and, true_and, and_true], by simp only [cPeople, Hp, Hc23, if_true, if_false, and_self, not_true_eq_false, not_false_eq_true, and_false, false_and, true_and, and_true]⟩
    · refine w_aload_n (zat TX11_people 14 rfl) rfl ?_
      refine w_iconst (v := 2) (zat TX11_people 15 rfl) (by decide) ?_
      refine x_callv2 (qX11_deny l _ _) (by decide) kX11_deny (rdy_V (zat TX11_people 16 rfl) kX11_deny pX11_deny zw394 zw396 zw3 (zrc (by decide) (by decide) rfl)) (Nat.le_of_ble_eq_true rfl) rfl rfl ?_
      refine w_ireturn (zat TX11_people 17 rfl) rfl rfl ?_
      try simp only [zb_0, Decidable.not_not] at Hc23
      exact ⟨by simp only [cPeople, Hp, Hc23, if_true, if_false, and_self, not_true_eq_false, not_false_eq_true, and_false, false_and, true_and, and_true], by simp only [cPeople, Hp, Hc23, if_true, if_false, and_self, not_true_eq_false, not_false_eq_true, and_false, false_and, true_and, and_true]⟩
  · skip
    refine Ct.in 1 kX11_people (plainFor_of_name rfl) (Nat.le_of_ble_eq_true rfl) ?_
    refine w_aload_n (zat TX11_people 0 rfl) rfl ?_
    refine w_iload_n (zat TX11_people 1 rfl) rfl ?_
    refine x_callv2 (qX11_provinceAt_n l _ hW nP hP hP2 hP3 _ Hp) (by decide) kX11_provinceAt (rdy_V (zat TX11_people 2 rfl) kX11_provinceAt pX11_provinceAt zw390 zw392 zw2 (zrc (by decide) (by decide) rfl)) (Nat.le_of_ble_eq_true rfl) rfl rfl ?_
    refine x_astore (ls2 := [_, _, _, _, _]) (zat TX11_people 3 rfl) (by decide) rfl ?_
    refine w_aload (zat TX11_people 4 rfl) rfl ?_
    refine w_ifnonnull_f (zat TX11_people 5 rfl) ?_
    refine w_aload_n (zat TX11_people 6 rfl) rfl ?_
    refine w_iconst (v := 1) (zat TX11_people 7 rfl) (by decide) ?_
    refine x_callv2 (qX11_deny l _ _) (by decide) kX11_deny (rdy_V (zat TX11_people 8 rfl) kX11_deny pX11_deny zw394 zw396 zw3 (zrc (by decide) (by decide) rfl)) (Nat.le_of_ble_eq_true rfl) rfl rfl ?_
    refine w_ireturn (zat TX11_people 9 rfl) rfl rfl ?_
    exact ⟨by rw [cPeople, if_neg Hp], by rw [cPeople, if_neg Hp]⟩
def cBorder (h : zH) (nP nB : Nat) (a b r : Int32) : Int32 × zH := if (0 ≤ a ∧ a < nI nP) ∧ (0 ≤ b ∧ b < nI nP) ∧ ¬ a = b then (if 1 ≤ r ∧ r ≤ 500 then (if nB = 16 then (-1, zsI h 0 0 13 3) else (nI nB, zsI (zsI (zsR (bNew (znew h 59 0 4) (zC h 59) a b r) 51 0 nB (some (59, zC h 59))) 0 0 9 (nI (nB + 1))) 0 0 13 0)) else (-1, zsI h 0 0 13 2)) else (-1, zsI h 0 0 13 1)
theorem qX11_border (l : Launch) (h : zH) (hW : Wc h) (a b r : Int32) (nP : Nat) (hP : zI h 0 0 8 = nI nP) (hP2 : nP ≤ 10) (hP3 : zC h 58 = nP) (nB : Nat) (hB : zI h 0 0 9 = nI nB) (hB2 : nB ≤ 16) (hB3 : zC h 59 = nB) : Cx l 3 mX11_border [Vq (some (0, 0)), Vi a, Vi b, Vi r] h (Rv (Vi (cBorder h nP nB a b r).1)) (cBorder h nP nB a b r).2 := by
  by_cases HpA : 0 ≤ a ∧ a < nI nP
  · obtain ⟨HxA, HnA⟩ := ixC (n := nP) (by omega) HpA
    by_cases HpB : 0 ≤ b ∧ b < nI nP
    · obtain ⟨HxB, HnB⟩ := ixC (n := nP) (by omega) HpB
      refine Ct.in 0 kX11_border (plainFor_of_name rfl) (Nat.le_of_ble_eq_true rfl) ?_
      refine w_aload_n (zat TX11_border 0 rfl) rfl ?_
      refine w_iload_n (zat TX11_border 1 rfl) rfl ?_
      refine x_callv2 (qX11_provinceAt_s l _ hW nP hP hP2 hP3 _ _ HxA HnA) (by decide) kX11_provinceAt (rdy_V (zat TX11_border 2 rfl) kX11_provinceAt pX11_provinceAt zw390 zw392 zw2 (zrc (by decide) (by decide) rfl)) (Nat.le_of_ble_eq_true rfl) rfl rfl ?_
      refine w_ifnull_f (zat TX11_border 3 rfl) ?_
      refine w_aload_n (zat TX11_border 4 rfl) rfl ?_
      refine w_iload_n (zat TX11_border 5 rfl) rfl ?_
      refine x_callv2 (qX11_provinceAt_s l _ hW nP hP hP2 hP3 _ _ HxB HnB) (by decide) kX11_provinceAt (rdy_V (zat TX11_border 6 rfl) kX11_provinceAt pX11_provinceAt zw390 zw392 zw2 (zrc (by decide) (by decide) rfl)) (Nat.le_of_ble_eq_true rfl) rfl rfl ?_
      refine w_ifnull_f (zat TX11_border 7 rfl) ?_
      refine w_iload_n (zat TX11_border 8 rfl) rfl ?_
      refine w_iload_n (zat TX11_border 9 rfl) rfl ?_
      refine w_icmp_ne 27 (zat TX11_border 10 rfl) (by decide) (fun Hc18 => ?_) (fun Hc18 => ?_)
      · refine w_iload_n (zat TX11_border 15 rfl) rfl ?_
        refine w_iconst (v := 1) (zat TX11_border 16 rfl) (by decide) ?_
        refine w_sipush (v := 500) (zat TX11_border 17 rfl) (by decide) ?_
        refine x_callv3 (qX11_within l _ _ _ _) (by decide) kX11_within (rdy_S (zat TX11_border 18 rfl) kX11_within pX11_within zw341 zw342) (Nat.le_of_ble_eq_true rfl) rfl rfl ?_
        refine w_if_ne 44 (zat TX11_border 19 rfl) (by decide) (fun Hc35 => ?_) (fun Hc35 => ?_)
        · refine w_aload_n (zat TX11_border 24 rfl) rfl ?_
          refine y_getI (v := nI nB) (zat TX11_border 25 rfl) fX11_66 s0 (by decide) (by decide) rfl hB ?_
          refine w_bipush (v := 16) (zat TX11_border 26 rfl) (by decide) ?_
          rw [show ((16 : Int32)) = nI 16 from rfl]
          refine w_icmp_lt 59 (zat TX11_border 27 rfl) (by decide) (fun Hc50 => ?_) (fun Hc50 => ?_)
          · rw [nI_ltI (by omega) (by decide)] at Hc50
            replace Hc50 : ¬ nB = 16 := by omega
            refine w_aload_n (zat TX11_border 32 rfl) rfl ?_
            refine w_getR (zat TX11_border 33 rfl) fX11_17 s0 (by decide) (by decide) rfl (wcr hW 1 rfl) ?_
            refine w_aload_n (zat TX11_border 34 rfl) rfl ?_
            refine y_getI (v := nI nB) (zat TX11_border 35 rfl) fX11_66 s0 (by decide) (by decide) rfl hB ?_
            refine w_new 59 (zat TX11_border 36 rfl) s59 (by decide) (by decide) rfl zw98 zw413 zw80 (by decide) ?_
            refine w_dup (zat TX11_border 37 rfl) rfl ?_
            refine w_iload_n (zat TX11_border 38 rfl) rfl ?_
            refine w_iload_n (zat TX11_border 39 rfl) rfl ?_
            refine w_iload_n (zat TX11_border 40 rfl) rfl ?_
            refine x_callu4 (qX0_init l _ _ _ _ _) (by decide) kX0_init (rdy_I (zat TX11_border 41 rfl) kX0_init pX0_init rfl rfl rfl zw414 zw415) (Nat.le_of_ble_eq_true rfl) rfl rfl ?_
            refine x_aastore nB _ (zat TX11_border 42 rfl) s51 (by decide) s59 (by decide) (by show 59 < 900; decide) (wcn hW 1 rfl) (by decide) rfl (by omega) ?_
            refine w_aload_n (zat TX11_border 43 rfl) rfl ?_
            refine w_dup (zat TX11_border 44 rfl) rfl ?_
            refine y_getI (v := nI nB) (zat TX11_border 45 rfl) fX11_66 s0 (by decide) (by decide) rfl hB ?_
            refine w_iconst (v := 1) (zat TX11_border 46 rfl) (by decide) ?_
            refine w_iadd (zat TX11_border 47 rfl) ?_
            rw [nI_1]
            refine w_putI (zat TX11_border 48 rfl) gX11_border_66 s0 (by decide) (by decide) rfl ⟨rfl, rfl⟩ ?_
            refine w_aload_n (zat TX11_border 49 rfl) rfl ?_
            refine w_aload_n (zat TX11_border 50 rfl) rfl ?_
            refine y_getI (v := nI (nB + 1)) (zat TX11_border 51 rfl) fX11_66 s0 (by decide) (by decide) rfl (zI_same _ 0 0 _ _) ?_
            refine w_iconst (v := 1) (zat TX11_border 52 rfl) (by decide) ?_
            refine w_isub (zat TX11_border 53 rfl) ?_
            rw [show nI (nB + 1) - 1 = nI nB from nI_pred nB]
            refine x_callv2 (qX11_grant l _ _) (by decide) kX11_grant (rdy_V (zat TX11_border 54 rfl) kX11_grant pX11_grant zw382 zw384 zw1 (zrc (by decide) (by decide) rfl)) (Nat.le_of_ble_eq_true rfl) rfl rfl ?_
            refine w_ireturn (zat TX11_border 55 rfl) rfl rfl ?_
            try simp only [zb_0, Decidable.not_not] at Hc18 Hc35 Hc50
            exact ⟨by simp only [cBorder, HpA, HpB, Hc18, Hc35, Hc50, if_true, if_false, and_self, not_true_eq_false, not_false_eq_true, and_false, false_and, true_and, and_true], by simp only [cBorder, HpA, HpB, Hc18, Hc35, Hc50, if_true, if_false, and_self, not_true_eq_false, not_false_eq_true, and_false, false_and, true_and, and_true]⟩
          · rw [nI_ltI (by omega) (by decide)] at Hc50
            replace Hc50 : nB = 16 := by omega
            refine w_aload_n (zat TX11_border 28 rfl) rfl ?_
            refine w_iconst (v := 3) (zat TX11_border 29 rfl) (by decide) ?_
            refine x_callv2 (qX11_refuse l _ _) (by decide) kX11_refuse (rdy_V (zat TX11_border 30 rfl) kX11_refuse pX11_refuse zw344 zw346 zw0 (zrc (by decide) (by decide) rfl)) (Nat.le_of_ble_eq_true rfl) rfl rfl ?_
            refine w_ireturn (zat TX11_border 31 rfl) rfl rfl ?_
            try simp only [zb_0, Decidable.not_not] at Hc18 Hc35 Hc50
            exact ⟨by simp only [cBorder, HpA, HpB, Hc18, Hc35, Hc50, if_true, if_false, and_self, not_true_eq_false, not_false_eq_true, and_false, false_and, true_and, and_true], by simp only [cBorder, HpA, HpB, Hc18, Hc35, Hc50, if_true, if_false, and_self, not_true_eq_false, not_false_eq_true, and_false, false_and, true_and, and_true]⟩
        · refine w_aload_n (zat TX11_border 20 rfl) rfl ?_
          refine w_iconst (v := 2) (zat TX11_border 21 rfl) (by decide) ?_
          refine x_callv2 (qX11_refuse l _ _) (by decide) kX11_refuse (rdy_V (zat TX11_border 22 rfl) kX11_refuse pX11_refuse zw344 zw346 zw0 (zrc (by decide) (by decide) rfl)) (Nat.le_of_ble_eq_true rfl) rfl rfl ?_
          refine w_ireturn (zat TX11_border 23 rfl) rfl rfl ?_
          try simp only [zb_0, Decidable.not_not] at Hc18 Hc35
          exact ⟨by simp only [cBorder, HpA, HpB, Hc18, Hc35, if_true, if_false, and_self, not_true_eq_false, not_false_eq_true, and_false, false_and, true_and, and_true], by simp only [cBorder, HpA, HpB, Hc18, Hc35, if_true, if_false, and_self, not_true_eq_false, not_false_eq_true, and_false, false_and, true_and, and_true]⟩
      · refine w_aload_n (zat TX11_border 11 rfl) rfl ?_
        refine w_iconst (v := 1) (zat TX11_border 12 rfl) (by decide) ?_
        refine x_callv2 (qX11_refuse l _ _) (by decide) kX11_refuse (rdy_V (zat TX11_border 13 rfl) kX11_refuse pX11_refuse zw344 zw346 zw0 (zrc (by decide) (by decide) rfl)) (Nat.le_of_ble_eq_true rfl) rfl rfl ?_
        refine w_ireturn (zat TX11_border 14 rfl) rfl rfl ?_
        try simp only [zb_0, Decidable.not_not] at Hc18
        exact ⟨by simp only [cBorder, HpA, HpB, Hc18, if_true, if_false, and_self, not_true_eq_false, not_false_eq_true, and_false, false_and, true_and, and_true], by simp only [cBorder, HpA, HpB, Hc18, if_true, if_false, and_self, not_true_eq_false, not_false_eq_true, and_false, false_and, true_and, and_true]⟩
    · skip
      refine Ct.in 0 kX11_border (plainFor_of_name rfl) (Nat.le_of_ble_eq_true rfl) ?_
      refine w_aload_n (zat TX11_border 0 rfl) rfl ?_
      refine w_iload_n (zat TX11_border 1 rfl) rfl ?_
      refine x_callv2 (qX11_provinceAt_s l _ hW nP hP hP2 hP3 _ _ HxA HnA) (by decide) kX11_provinceAt (rdy_V (zat TX11_border 2 rfl) kX11_provinceAt pX11_provinceAt zw390 zw392 zw2 (zrc (by decide) (by decide) rfl)) (Nat.le_of_ble_eq_true rfl) rfl rfl ?_
      refine w_ifnull_f (zat TX11_border 3 rfl) ?_
      refine w_aload_n (zat TX11_border 4 rfl) rfl ?_
      refine w_iload_n (zat TX11_border 5 rfl) rfl ?_
      refine x_callv2 (qX11_provinceAt_n l _ hW nP hP hP2 hP3 _ HpB) (by decide) kX11_provinceAt (rdy_V (zat TX11_border 6 rfl) kX11_provinceAt pX11_provinceAt zw390 zw392 zw2 (zrc (by decide) (by decide) rfl)) (Nat.le_of_ble_eq_true rfl) rfl rfl ?_
      refine w_ifnull_t 21 (zat TX11_border 7 rfl) (by decide) ?_
      refine w_aload_n (zat TX11_border 11 rfl) rfl ?_
      refine w_iconst (v := 1) (zat TX11_border 12 rfl) (by decide) ?_
      refine x_callv2 (qX11_refuse l _ _) (by decide) kX11_refuse (rdy_V (zat TX11_border 13 rfl) kX11_refuse pX11_refuse zw344 zw346 zw0 (zrc (by decide) (by decide) rfl)) (Nat.le_of_ble_eq_true rfl) rfl rfl ?_
      refine w_ireturn (zat TX11_border 14 rfl) rfl rfl ?_
      exact ⟨by rw [cBorder, if_neg (fun q => HpB q.2.1)], by rw [cBorder, if_neg (fun q => HpB q.2.1)]⟩
  · skip
    refine Ct.in 0 kX11_border (plainFor_of_name rfl) (Nat.le_of_ble_eq_true rfl) ?_
    refine w_aload_n (zat TX11_border 0 rfl) rfl ?_
    refine w_iload_n (zat TX11_border 1 rfl) rfl ?_
    refine x_callv2 (qX11_provinceAt_n l _ hW nP hP hP2 hP3 _ HpA) (by decide) kX11_provinceAt (rdy_V (zat TX11_border 2 rfl) kX11_provinceAt pX11_provinceAt zw390 zw392 zw2 (zrc (by decide) (by decide) rfl)) (Nat.le_of_ble_eq_true rfl) rfl rfl ?_
    refine w_ifnull_t 21 (zat TX11_border 3 rfl) (by decide) ?_
    refine w_aload_n (zat TX11_border 11 rfl) rfl ?_
    refine w_iconst (v := 1) (zat TX11_border 12 rfl) (by decide) ?_
    refine x_callv2 (qX11_refuse l _ _) (by decide) kX11_refuse (rdy_V (zat TX11_border 13 rfl) kX11_refuse pX11_refuse zw344 zw346 zw0 (zrc (by decide) (by decide) rfl)) (Nat.le_of_ble_eq_true rfl) rfl rfl ?_
    refine w_ireturn (zat TX11_border 14 rfl) rfl rfl ?_
    exact ⟨by rw [cBorder, if_neg (fun q => HpA q.1)], by rw [cBorder, if_neg (fun q => HpA q.1)]⟩
def cGuard (h : zH) (nB : Nat) (p g : Int32) : Int32 × zH := if 0 ≤ p ∧ p < nI nB then (if 0 ≤ g ∧ g ≤ 9 then (1, zsI (zsI h 59 p.toNatClampNeg 3 g) 0 0 13 0) else (0, zsI h 0 0 13 2)) else (0, zsI h 0 0 13 1)
theorem qX11_guard (l : Launch) (h : zH) (hW : Wc h) (p g : Int32) (nB : Nat) (hB : zI h 0 0 9 = nI nB) (hB2 : nB ≤ 16) (hB3 : zC h 59 = nB) : Cx l 3 mX11_guard [Vq (some (0, 0)), Vi p, Vi g] h (Rv (Vi (cGuard h nB p g).1)) (cGuard h nB p g).2 := by
  by_cases Hp : 0 ≤ p ∧ p < nI nB
  · obtain ⟨Hx, Hn⟩ := ixC (n := nB) (by omega) Hp
    refine Ct.in 1 kX11_guard (plainFor_of_name rfl) (Nat.le_of_ble_eq_true rfl) ?_
    refine w_aload_n (zat TX11_guard 0 rfl) rfl ?_
    refine w_iload_n (zat TX11_guard 1 rfl) rfl ?_
    refine x_callv2 (qX11_borderAt_s l _ hW nB hB hB2 hB3 _ _ Hx Hn) (by decide) kX11_borderAt (rdy_V (zat TX11_guard 2 rfl) kX11_borderAt pX11_borderAt zw439 zw441 zw5 (zrc (by decide) (by decide) rfl)) (Nat.le_of_ble_eq_true rfl) rfl rfl ?_
    refine x_astore_n (ls2 := [_, _, _, _]) (zat TX11_guard 3 rfl) (by decide) rfl ?_
    refine w_aload_n (zat TX11_guard 4 rfl) rfl ?_
    refine w_ifnonnull_t 16 (zat TX11_guard 5 rfl) (by decide) ?_
    refine w_iload_n (zat TX11_guard 10 rfl) rfl ?_
    refine w_iconst (v := 0) (zat TX11_guard 11 rfl) (by decide) ?_
    refine w_bipush (v := 9) (zat TX11_guard 12 rfl) (by decide) ?_
    refine x_callv3 (qX11_within l _ _ _ _) (by decide) kX11_within (rdy_S (zat TX11_guard 13 rfl) kX11_within pX11_within zw341 zw342) (Nat.le_of_ble_eq_true rfl) rfl rfl ?_
    refine w_if_ne 32 (zat TX11_guard 14 rfl) (by decide) (fun Hc23 => ?_) (fun Hc23 => ?_)
    · refine w_aload_n (zat TX11_guard 19 rfl) rfl ?_
      refine w_iload_n (zat TX11_guard 20 rfl) rfl ?_
      refine w_putI (zat TX11_guard 21 rfl) gX11_guard_134 s59 (by decide) (by decide) rfl ⟨rfl, rfl⟩ ?_
      refine w_aload_n (zat TX11_guard 22 rfl) rfl ?_
      refine x_callv1 (qX11_allow l _) (by decide) kX11_allow (rdy_V (zat TX11_guard 23 rfl) kX11_allow pX11_allow zw405 zw407 zw4 (zrc (by decide) (by decide) rfl)) (Nat.le_of_ble_eq_true rfl) rfl rfl ?_
      refine w_ireturn (zat TX11_guard 24 rfl) rfl rfl ?_
      try simp only [zb_0, Decidable.not_not] at Hc23
      exact ⟨by simp only [cGuard, Hp, Hc23, if_true, if_false, and_self, not_true_eq_false, not_false_eq_true, and_false, false_and, true_and, and_true], by simp only [cGuard, Hp, Hc23, if_true, if_false, and_self, not_true_eq_false, not_false_eq_true, and_false, false_and, true_and, and_true]⟩
    · refine w_aload_n (zat TX11_guard 15 rfl) rfl ?_
      refine w_iconst (v := 2) (zat TX11_guard 16 rfl) (by decide) ?_
      refine x_callv2 (qX11_deny l _ _) (by decide) kX11_deny (rdy_V (zat TX11_guard 17 rfl) kX11_deny pX11_deny zw394 zw396 zw3 (zrc (by decide) (by decide) rfl)) (Nat.le_of_ble_eq_true rfl) rfl rfl ?_
      refine w_ireturn (zat TX11_guard 18 rfl) rfl rfl ?_
      try simp only [zb_0, Decidable.not_not] at Hc23
      exact ⟨by simp only [cGuard, Hp, Hc23, if_true, if_false, and_self, not_true_eq_false, not_false_eq_true, and_false, false_and, true_and, and_true], by simp only [cGuard, Hp, Hc23, if_true, if_false, and_self, not_true_eq_false, not_false_eq_true, and_false, false_and, true_and, and_true]⟩
  · skip
    refine Ct.in 1 kX11_guard (plainFor_of_name rfl) (Nat.le_of_ble_eq_true rfl) ?_
    refine w_aload_n (zat TX11_guard 0 rfl) rfl ?_
    refine w_iload_n (zat TX11_guard 1 rfl) rfl ?_
    refine x_callv2 (qX11_borderAt_n l _ hW nB hB hB2 hB3 _ Hp) (by decide) kX11_borderAt (rdy_V (zat TX11_guard 2 rfl) kX11_borderAt pX11_borderAt zw439 zw441 zw5 (zrc (by decide) (by decide) rfl)) (Nat.le_of_ble_eq_true rfl) rfl rfl ?_
    refine x_astore_n (ls2 := [_, _, _, _]) (zat TX11_guard 3 rfl) (by decide) rfl ?_
    refine w_aload_n (zat TX11_guard 4 rfl) rfl ?_
    refine w_ifnonnull_f (zat TX11_guard 5 rfl) ?_
    refine w_aload_n (zat TX11_guard 6 rfl) rfl ?_
    refine w_iconst (v := 1) (zat TX11_guard 7 rfl) (by decide) ?_
    refine x_callv2 (qX11_deny l _ _) (by decide) kX11_deny (rdy_V (zat TX11_guard 8 rfl) kX11_deny pX11_deny zw394 zw396 zw3 (zrc (by decide) (by decide) rfl)) (Nat.le_of_ble_eq_true rfl) rfl rfl ?_
    refine w_ireturn (zat TX11_guard 9 rfl) rfl rfl ?_
    exact ⟨by rw [cGuard, if_neg Hp], by rw [cGuard, if_neg Hp]⟩
theorem qX11_fault (l : Launch) (h : zH) : Cx l 1 mX11_fault [Vq (some (0, 0))] h (Rv (Vi (zI h 0 0 14))) h := by
  refine Ct.in 0 kX11_fault (plainFor_of_name rfl) (Nat.le_of_ble_eq_true rfl) ?_
  refine w_aload_n (zat TX11_fault 0 rfl) rfl ?_
  refine w_getI (zat TX11_fault 1 rfl) fX11_81 s0 (by decide) (by decide) rfl ?_
  refine w_ireturn (zat TX11_fault 2 rfl) rfl rfl ?_
  exact ⟨rfl, rfl⟩
theorem qX11_trouble (l : Launch) (h : zH) : Cx l 1 mX11_trouble [Vq (some (0, 0))] h (Rv (Vi (zI h 0 0 13))) h := by
  refine Ct.in 0 kX11_trouble (plainFor_of_name rfl) (Nat.le_of_ble_eq_true rfl) ?_
  refine w_aload_n (zat TX11_trouble 0 rfl) rfl ?_
  refine w_getI (zat TX11_trouble 1 rfl) fX11_78 s0 (by decide) (by decide) rfl ?_
  refine w_ireturn (zat TX11_trouble 2 rfl) rfl rfl ?_
  exact ⟨rfl, rfl⟩
theorem qX11_where (l : Launch) (h : zH) : Cx l 1 mX11_where [Vq (some (0, 0))] h (Rv (Vi (if zI h 0 0 13 = 4 then zI h 0 0 15 else -1))) h := by
  refine Ct.in 0 kX11_where (plainFor_of_name rfl) (Nat.le_of_ble_eq_true rfl) ?_
  refine w_aload_n (zat TX11_where 0 rfl) rfl ?_
  refine w_getI (zat TX11_where 1 rfl) fX11_78 s0 (by decide) (by decide) rfl ?_
  refine w_iconst (v := 4) (zat TX11_where 2 rfl) (by decide) ?_
  refine w_icmp_ne 15 (zat TX11_where 3 rfl) (by decide) (fun Hc5 => ?_) (fun Hc5 => ?_)
  · refine w_iconst (v := -1) (zat TX11_where 7 rfl) (by decide) ?_
    refine w_ireturn (zat TX11_where 8 rfl) rfl rfl ?_
    exact ⟨by simp only [Hc5, if_true, if_false], rfl⟩
  · refine w_aload_n (zat TX11_where 4 rfl) rfl ?_
    refine w_getI (zat TX11_where 5 rfl) fX11_84 s0 (by decide) (by decide) rfl ?_
    refine w_goto 16 (zat TX11_where 6 rfl) (by decide) ?_
    refine w_ireturn (zat TX11_where 8 rfl) rfl rfl ?_
    exact ⟨by simp only [Hc5, if_true, if_false], rfl⟩
def cStore (h : zH) (nP nS : Nat) (p a : Int32) : Int32 × zH := if 0 ≤ p ∧ p < nI nP then (if 0 ≤ a ∧ a ≤ 1000000 then (if nS = 8 then (-1, zsI h 0 0 13 3) else (nI nS, zsI (zsI (zsR (sNew (znew h 61 0 6) (zC h 61) a) 52 0 nS (some (61, zC h 61))) 0 0 10 (nI (nS + 1))) 0 0 13 0)) else (-1, zsI h 0 0 13 2)) else (-1, zsI h 0 0 13 1)
theorem qX11_store (l : Launch) (h : zH) (hW : Wc h) (p a : Int32) (nP : Nat) (hP : zI h 0 0 8 = nI nP) (hP2 : nP ≤ 10) (hP3 : zC h 58 = nP) (nS : Nat) (hS : zI h 0 0 10 = nI nS) (hS2 : nS ≤ 8) (hS3 : zC h 61 = nS) : Cx l 3 mX11_store [Vq (some (0, 0)), Vi p, Vi a] h (Rv (Vi (cStore h nP nS p a).1)) (cStore h nP nS p a).2 := by
  by_cases Hp : 0 ≤ p ∧ p < nI nP
  · obtain ⟨Hx, Hn⟩ := ixC (n := nP) (by omega) Hp
    refine Ct.in 0 kX11_store (plainFor_of_name rfl) (Nat.le_of_ble_eq_true rfl) ?_
    refine w_aload_n (zat TX11_store 0 rfl) rfl ?_
    refine w_iload_n (zat TX11_store 1 rfl) rfl ?_
    refine x_callv2 (qX11_provinceAt_s l _ hW nP hP hP2 hP3 _ _ Hx Hn) (by decide) kX11_provinceAt (rdy_V (zat TX11_store 2 rfl) kX11_provinceAt pX11_provinceAt zw390 zw392 zw2 (zrc (by decide) (by decide) rfl)) (Nat.le_of_ble_eq_true rfl) rfl rfl ?_
    refine w_ifnonnull_t 14 (zat TX11_store 3 rfl) (by decide) ?_
    refine w_iload_n (zat TX11_store 8 rfl) rfl ?_
    refine w_iconst (v := 0) (zat TX11_store 9 rfl) (by decide) ?_
    refine w_ldc (v := 1000000) (zat TX11_store 10 rfl) zw852 ?_
    refine x_callv3 (qX11_within l _ _ _ _) (by decide) kX11_within (rdy_S (zat TX11_store 11 rfl) kX11_within pX11_within zw341 zw342) (Nat.le_of_ble_eq_true rfl) rfl rfl ?_
    refine w_if_ne 30 (zat TX11_store 12 rfl) (by decide) (fun Hc21 => ?_) (fun Hc21 => ?_)
    · refine w_aload_n (zat TX11_store 17 rfl) rfl ?_
      refine y_getI (v := nI nS) (zat TX11_store 18 rfl) fX11_69 s0 (by decide) (by decide) rfl hS ?_
      refine w_bipush (v := 8) (zat TX11_store 19 rfl) (by decide) ?_
      rw [show ((8 : Int32)) = nI 8 from rfl]
      refine w_icmp_lt 45 (zat TX11_store 20 rfl) (by decide) (fun Hc36 => ?_) (fun Hc36 => ?_)
      · rw [nI_ltI (by omega) (by decide)] at Hc36
        replace Hc36 : ¬ nS = 8 := by omega
        refine w_aload_n (zat TX11_store 25 rfl) rfl ?_
        refine w_getR (zat TX11_store 26 rfl) fX11_23 s0 (by decide) (by decide) rfl (wcr hW 2 rfl) ?_
        refine w_aload_n (zat TX11_store 27 rfl) rfl ?_
        refine y_getI (v := nI nS) (zat TX11_store 28 rfl) fX11_69 s0 (by decide) (by decide) rfl hS ?_
        refine w_new 61 (zat TX11_store 29 rfl) s61 (by decide) (by decide) rfl zw100 zw853 zw87 (by decide) ?_
        refine w_dup (zat TX11_store 30 rfl) rfl ?_
        refine w_iload_n (zat TX11_store 31 rfl) rfl ?_
        refine x_callu2 (qX7_init l _ _ _) (by decide) kX7_init (rdy_I (zat TX11_store 32 rfl) kX7_init pX7_init rfl rfl rfl zw854 zw855) (Nat.le_of_ble_eq_true rfl) rfl rfl ?_
        refine x_aastore nS _ (zat TX11_store 33 rfl) s52 (by decide) s61 (by decide) (by show 61 < 900; decide) (wcn hW 2 rfl) (by decide) rfl (by omega) ?_
        refine w_aload_n (zat TX11_store 34 rfl) rfl ?_
        refine w_dup (zat TX11_store 35 rfl) rfl ?_
        refine y_getI (v := nI nS) (zat TX11_store 36 rfl) fX11_69 s0 (by decide) (by decide) rfl hS ?_
        refine w_iconst (v := 1) (zat TX11_store 37 rfl) (by decide) ?_
        refine w_iadd (zat TX11_store 38 rfl) ?_
        rw [nI_1]
        refine w_putI (zat TX11_store 39 rfl) gX11_store_69 s0 (by decide) (by decide) rfl ⟨rfl, rfl⟩ ?_
        refine w_aload_n (zat TX11_store 40 rfl) rfl ?_
        refine w_aload_n (zat TX11_store 41 rfl) rfl ?_
        refine y_getI (v := nI (nS + 1)) (zat TX11_store 42 rfl) fX11_69 s0 (by decide) (by decide) rfl (zI_same _ 0 0 _ _) ?_
        refine w_iconst (v := 1) (zat TX11_store 43 rfl) (by decide) ?_
        refine w_isub (zat TX11_store 44 rfl) ?_
        rw [show nI (nS + 1) - 1 = nI nS from nI_pred nS]
        refine x_callv2 (qX11_grant l _ _) (by decide) kX11_grant (rdy_V (zat TX11_store 45 rfl) kX11_grant pX11_grant zw382 zw384 zw1 (zrc (by decide) (by decide) rfl)) (Nat.le_of_ble_eq_true rfl) rfl rfl ?_
        refine w_ireturn (zat TX11_store 46 rfl) rfl rfl ?_
        try simp only [zb_0, Decidable.not_not] at Hc21 Hc36
        exact ⟨by simp only [cStore, Hp, Hc21, Hc36, if_true, if_false, and_self, not_true_eq_false, not_false_eq_true, and_false, false_and, true_and, and_true], by simp only [cStore, Hp, Hc21, Hc36, if_true, if_false, and_self, not_true_eq_false, not_false_eq_true, and_false, false_and, true_and, and_true]⟩
      · rw [nI_ltI (by omega) (by decide)] at Hc36
        replace Hc36 : nS = 8 := by omega
        refine w_aload_n (zat TX11_store 21 rfl) rfl ?_
        refine w_iconst (v := 3) (zat TX11_store 22 rfl) (by decide) ?_
        refine x_callv2 (qX11_refuse l _ _) (by decide) kX11_refuse (rdy_V (zat TX11_store 23 rfl) kX11_refuse pX11_refuse zw344 zw346 zw0 (zrc (by decide) (by decide) rfl)) (Nat.le_of_ble_eq_true rfl) rfl rfl ?_
        refine w_ireturn (zat TX11_store 24 rfl) rfl rfl ?_
        try simp only [zb_0, Decidable.not_not] at Hc21 Hc36
        exact ⟨by simp only [cStore, Hp, Hc21, Hc36, if_true, if_false, and_self, not_true_eq_false, not_false_eq_true, and_false, false_and, true_and, and_true], by simp only [cStore, Hp, Hc21, Hc36, if_true, if_false, and_self, not_true_eq_false, not_false_eq_true, and_false, false_and, true_and, and_true]⟩
    · refine w_aload_n (zat TX11_store 13 rfl) rfl ?_
      refine w_iconst (v := 2) (zat TX11_store 14 rfl) (by decide) ?_
      refine x_callv2 (qX11_refuse l _ _) (by decide) kX11_refuse (rdy_V (zat TX11_store 15 rfl) kX11_refuse pX11_refuse zw344 zw346 zw0 (zrc (by decide) (by decide) rfl)) (Nat.le_of_ble_eq_true rfl) rfl rfl ?_
      refine w_ireturn (zat TX11_store 16 rfl) rfl rfl ?_
      try simp only [zb_0, Decidable.not_not] at Hc21
      exact ⟨by simp only [cStore, Hp, Hc21, if_true, if_false, and_self, not_true_eq_false, not_false_eq_true, and_false, false_and, true_and, and_true], by simp only [cStore, Hp, Hc21, if_true, if_false, and_self, not_true_eq_false, not_false_eq_true, and_false, false_and, true_and, and_true]⟩
  · skip
    refine Ct.in 0 kX11_store (plainFor_of_name rfl) (Nat.le_of_ble_eq_true rfl) ?_
    refine w_aload_n (zat TX11_store 0 rfl) rfl ?_
    refine w_iload_n (zat TX11_store 1 rfl) rfl ?_
    refine x_callv2 (qX11_provinceAt_n l _ hW nP hP hP2 hP3 _ Hp) (by decide) kX11_provinceAt (rdy_V (zat TX11_store 2 rfl) kX11_provinceAt pX11_provinceAt zw390 zw392 zw2 (zrc (by decide) (by decide) rfl)) (Nat.le_of_ble_eq_true rfl) rfl rfl ?_
    refine w_ifnonnull_f (zat TX11_store 3 rfl) ?_
    refine w_aload_n (zat TX11_store 4 rfl) rfl ?_
    refine w_iconst (v := 1) (zat TX11_store 5 rfl) (by decide) ?_
    refine x_callv2 (qX11_refuse l _ _) (by decide) kX11_refuse (rdy_V (zat TX11_store 6 rfl) kX11_refuse pX11_refuse zw344 zw346 zw0 (zrc (by decide) (by decide) rfl)) (Nat.le_of_ble_eq_true rfl) rfl rfl ?_
    refine w_ireturn (zat TX11_store 7 rfl) rfl rfl ?_
    exact ⟨by rw [cStore, if_neg Hp], by rw [cStore, if_neg Hp]⟩
def cMoves (h : zH) (nS : Nat) (p a z : Int32) : Int32 × zH := if 0 ≤ p ∧ p < nI nS then (if z = 0 then (if (1 ≤ a ∧ a ≤ 1000000) ∧ a ≤ 1000000000 - zI h 61 p.toNatClampNeg 1 then (zI h 61 p.toNatClampNeg 1 + a, zsI (zsI h 61 p.toNatClampNeg 1 (zI h 61 p.toNatClampNeg 1 + a)) 0 0 13 0) else (-1, zsI h 0 0 13 2))
  else (if (1 ≤ a ∧ a ≤ 1000000) ∧ a ≤ 1000000000 - zI h 61 p.toNatClampNeg 2 then (zI h 61 p.toNatClampNeg 2 + a, zsI (zsI h 61 p.toNatClampNeg 2 (zI h 61 p.toNatClampNeg 2 + a)) 0 0 13 0) else (-1, zsI h 0 0 13 2))) else (-1, zsI h 0 0 13 1)
theorem qX11_moves (l : Launch) (h : zH) (hW : Wc h) (p a z : Int32) (nS : Nat) (hS : zI h 0 0 10 = nI nS) (hS2 : nS ≤ 8) (hS3 : zC h 61 = nS) : Cx l 3 mX11_moves [Vq (some (0, 0)), Vi p, Vi a, Vi z] h (Rv (Vi (cMoves h nS p a z).1)) (cMoves h nS p a z).2 := by
  by_cases Hp : 0 ≤ p ∧ p < nI nS
  · obtain ⟨Hx, Hn⟩ := ixC (n := nS) (by omega) Hp
    refine Ct.in 2 kX11_moves (plainFor_of_name rfl) (Nat.le_of_ble_eq_true rfl) ?_
    refine w_aload_n (zat TX11_moves 0 rfl) rfl ?_
    refine w_iload_n (zat TX11_moves 1 rfl) rfl ?_
    refine x_callv2 (qX11_storeAt_s l _ hW nS hS hS2 hS3 _ _ Hx Hn) (by decide) kX11_storeAt (rdy_V (zat TX11_moves 2 rfl) kX11_storeAt pX11_storeAt zw886 zw888 zw28 (zrc (by decide) (by decide) rfl)) (Nat.le_of_ble_eq_true rfl) rfl rfl ?_
    refine x_astore (ls2 := [_, _, _, _, _, _]) (zat TX11_moves 3 rfl) (by decide) rfl ?_
    refine w_aload (zat TX11_moves 4 rfl) rfl ?_
    refine w_ifnonnull_t 18 (zat TX11_moves 5 rfl) (by decide) ?_
    refine w_iload_n (zat TX11_moves 10 rfl) rfl ?_
    refine w_if_eq 30 (zat TX11_moves 11 rfl) (by decide) (fun Hc19 => ?_) (fun Hc19 => ?_)
    · refine w_aload (zat TX11_moves 15 rfl) rfl ?_
      refine w_getI (zat TX11_moves 16 rfl) fX11_265 s61 (by decide) (by decide) rfl ?_
      refine x_istore (ls2 := [_, _, _, _, _, _]) (zat TX11_moves 17 rfl) (by decide) rfl ?_
      refine w_iload_n (zat TX11_moves 18 rfl) rfl ?_
      refine w_iconst (v := 1) (zat TX11_moves 19 rfl) (by decide) ?_
      refine w_ldc (v := 1000000) (zat TX11_moves 20 rfl) zw852 ?_
      refine x_callv3 (qX11_within l _ _ _ _) (by decide) kX11_within (rdy_S (zat TX11_moves 21 rfl) kX11_within pX11_within zw341 zw342) (Nat.le_of_ble_eq_true rfl) rfl rfl ?_
      refine w_if_eq 57 (zat TX11_moves 22 rfl) (by decide) (fun Hc44 => ?_) (fun Hc44 => ?_)
      · refine w_aload_n (zat TX11_moves 28 rfl) rfl ?_
        refine w_iconst (v := 2) (zat TX11_moves 29 rfl) (by decide) ?_
        refine x_callv2 (qX11_refuse l _ _) (by decide) kX11_refuse (rdy_V (zat TX11_moves 30 rfl) kX11_refuse pX11_refuse zw344 zw346 zw0 (zrc (by decide) (by decide) rfl)) (Nat.le_of_ble_eq_true rfl) rfl rfl ?_
        refine w_ireturn (zat TX11_moves 31 rfl) rfl rfl ?_
        try simp only [zb_0, Decidable.not_not] at Hc19 Hc44
        exact ⟨by simp only [cMoves, Hp, Hc19, Hc44, if_true, if_false, and_self, not_true_eq_false, not_false_eq_true, and_false, false_and, true_and, and_true], by simp only [cMoves, Hp, Hc19, Hc44, if_true, if_false, and_self, not_true_eq_false, not_false_eq_true, and_false, false_and, true_and, and_true]⟩
      · refine w_iload_n (zat TX11_moves 23 rfl) rfl ?_
        refine w_ldcw (v := 1000000000) (zat TX11_moves 24 rfl) zw890 ?_
        refine w_iload (zat TX11_moves 25 rfl) rfl ?_
        refine w_isub (zat TX11_moves 26 rfl) ?_
        refine w_icmp_le 63 (zat TX11_moves 27 rfl) (by decide) (fun Hc54 => ?_) (fun Hc54 => ?_)
        · refine w_iload_n (zat TX11_moves 32 rfl) rfl ?_
          refine w_if_eq 79 (zat TX11_moves 33 rfl) (by decide) (fun Hc64 => ?_) (fun Hc64 => ?_)
          · refine w_aload (zat TX11_moves 40 rfl) rfl ?_
            refine w_iload (zat TX11_moves 41 rfl) rfl ?_
            refine w_iload_n (zat TX11_moves 42 rfl) rfl ?_
            refine w_iadd (zat TX11_moves 43 rfl) ?_
            refine w_putI (zat TX11_moves 44 rfl) gX11_moves_265 s61 (by decide) (by decide) rfl ⟨rfl, rfl⟩ ?_
            refine w_aload_n (zat TX11_moves 45 rfl) rfl ?_
            refine w_iload (zat TX11_moves 46 rfl) rfl ?_
            refine w_iload_n (zat TX11_moves 47 rfl) rfl ?_
            refine w_iadd (zat TX11_moves 48 rfl) ?_
            refine x_callv2 (qX11_grant l _ _) (by decide) kX11_grant (rdy_V (zat TX11_moves 49 rfl) kX11_grant pX11_grant zw382 zw384 zw1 (zrc (by decide) (by decide) rfl)) (Nat.le_of_ble_eq_true rfl) rfl rfl ?_
            refine w_ireturn (zat TX11_moves 50 rfl) rfl rfl ?_
            try simp only [zb_0, Decidable.not_not] at Hc19 Hc44 Hc54 Hc64
            exact ⟨by simp only [cMoves, Hp, Hc19, Hc44, Hc54, Hc64, if_true, if_false, and_self, not_true_eq_false, not_false_eq_true, and_false, false_and, true_and, and_true], by simp only [cMoves, Hp, Hc19, Hc44, Hc54, Hc64, if_true, if_false, and_self, not_true_eq_false, not_false_eq_true, and_false, false_and, true_and, and_true]⟩
          · exact absurd Hc19 Hc64
        · refine w_aload_n (zat TX11_moves 28 rfl) rfl ?_
          refine w_iconst (v := 2) (zat TX11_moves 29 rfl) (by decide) ?_
          refine x_callv2 (qX11_refuse l _ _) (by decide) kX11_refuse (rdy_V (zat TX11_moves 30 rfl) kX11_refuse pX11_refuse zw344 zw346 zw0 (zrc (by decide) (by decide) rfl)) (Nat.le_of_ble_eq_true rfl) rfl rfl ?_
          refine w_ireturn (zat TX11_moves 31 rfl) rfl rfl ?_
          try simp only [zb_0, Decidable.not_not] at Hc19 Hc44 Hc54
          exact ⟨by simp only [cMoves, Hp, Hc19, Hc44, Hc54, if_true, if_false, and_self, not_true_eq_false, not_false_eq_true, and_false, false_and, true_and, and_true], by simp only [cMoves, Hp, Hc19, Hc44, Hc54, if_true, if_false, and_self, not_true_eq_false, not_false_eq_true, and_false, false_and, true_and, and_true]⟩
    · refine w_aload (zat TX11_moves 12 rfl) rfl ?_
      refine w_getI (zat TX11_moves 13 rfl) fX11_262 s61 (by decide) (by decide) rfl ?_
      refine w_goto 35 (zat TX11_moves 14 rfl) (by decide) ?_
      refine x_istore (ls2 := [_, _, _, _, _, _]) (zat TX11_moves 17 rfl) (by decide) rfl ?_
      refine w_iload_n (zat TX11_moves 18 rfl) rfl ?_
      refine w_iconst (v := 1) (zat TX11_moves 19 rfl) (by decide) ?_
      refine w_ldc (v := 1000000) (zat TX11_moves 20 rfl) zw852 ?_
      refine x_callv3 (qX11_within l _ _ _ _) (by decide) kX11_within (rdy_S (zat TX11_moves 21 rfl) kX11_within pX11_within zw341 zw342) (Nat.le_of_ble_eq_true rfl) rfl rfl ?_
      refine w_if_eq 57 (zat TX11_moves 22 rfl) (by decide) (fun Hc44 => ?_) (fun Hc44 => ?_)
      · refine w_aload_n (zat TX11_moves 28 rfl) rfl ?_
        refine w_iconst (v := 2) (zat TX11_moves 29 rfl) (by decide) ?_
        refine x_callv2 (qX11_refuse l _ _) (by decide) kX11_refuse (rdy_V (zat TX11_moves 30 rfl) kX11_refuse pX11_refuse zw344 zw346 zw0 (zrc (by decide) (by decide) rfl)) (Nat.le_of_ble_eq_true rfl) rfl rfl ?_
        refine w_ireturn (zat TX11_moves 31 rfl) rfl rfl ?_
        try simp only [zb_0, Decidable.not_not] at Hc19 Hc44
        exact ⟨by simp only [cMoves, Hp, Hc19, Hc44, if_true, if_false, and_self, not_true_eq_false, not_false_eq_true, and_false, false_and, true_and, and_true], by simp only [cMoves, Hp, Hc19, Hc44, if_true, if_false, and_self, not_true_eq_false, not_false_eq_true, and_false, false_and, true_and, and_true]⟩
      · refine w_iload_n (zat TX11_moves 23 rfl) rfl ?_
        refine w_ldcw (v := 1000000000) (zat TX11_moves 24 rfl) zw890 ?_
        refine w_iload (zat TX11_moves 25 rfl) rfl ?_
        refine w_isub (zat TX11_moves 26 rfl) ?_
        refine w_icmp_le 63 (zat TX11_moves 27 rfl) (by decide) (fun Hc54 => ?_) (fun Hc54 => ?_)
        · refine w_iload_n (zat TX11_moves 32 rfl) rfl ?_
          refine w_if_eq 79 (zat TX11_moves 33 rfl) (by decide) (fun Hc64 => ?_) (fun Hc64 => ?_)
          · exact absurd Hc64 Hc19
          · refine w_aload (zat TX11_moves 34 rfl) rfl ?_
            refine w_iload (zat TX11_moves 35 rfl) rfl ?_
            refine w_iload_n (zat TX11_moves 36 rfl) rfl ?_
            refine w_iadd (zat TX11_moves 37 rfl) ?_
            refine w_putI (zat TX11_moves 38 rfl) gX11_moves_262 s61 (by decide) (by decide) rfl ⟨rfl, rfl⟩ ?_
            refine w_goto 88 (zat TX11_moves 39 rfl) (by decide) ?_
            refine w_aload_n (zat TX11_moves 45 rfl) rfl ?_
            refine w_iload (zat TX11_moves 46 rfl) rfl ?_
            refine w_iload_n (zat TX11_moves 47 rfl) rfl ?_
            refine w_iadd (zat TX11_moves 48 rfl) ?_
            refine x_callv2 (qX11_grant l _ _) (by decide) kX11_grant (rdy_V (zat TX11_moves 49 rfl) kX11_grant pX11_grant zw382 zw384 zw1 (zrc (by decide) (by decide) rfl)) (Nat.le_of_ble_eq_true rfl) rfl rfl ?_
            refine w_ireturn (zat TX11_moves 50 rfl) rfl rfl ?_
            try simp only [zb_0, Decidable.not_not] at Hc19 Hc44 Hc54 Hc64
            exact ⟨by simp only [cMoves, Hp, Hc19, Hc44, Hc54, Hc64, if_true, if_false, and_self, not_true_eq_false, not_false_eq_true, and_false, false_and, true_and, and_true], by simp only [cMoves, Hp, Hc19, Hc44, Hc54, Hc64, if_true, if_false, and_self, not_true_eq_false, not_false_eq_true, and_false, false_and, true_and, and_true]⟩
        · refine w_aload_n (zat TX11_moves 28 rfl) rfl ?_
          refine w_iconst (v := 2) (zat TX11_moves 29 rfl) (by decide) ?_
          refine x_callv2 (qX11_refuse l _ _) (by decide) kX11_refuse (rdy_V (zat TX11_moves 30 rfl) kX11_refuse pX11_refuse zw344 zw346 zw0 (zrc (by decide) (by decide) rfl)) (Nat.le_of_ble_eq_true rfl) rfl rfl ?_
          refine w_ireturn (zat TX11_moves 31 rfl) rfl rfl ?_
          try simp only [zb_0, Decidable.not_not] at Hc19 Hc44 Hc54
          exact ⟨by simp only [cMoves, Hp, Hc19, Hc44, Hc54, if_true, if_false, and_self, not_true_eq_false, not_false_eq_true, and_false, false_and, true_and, and_true], by simp only [cMoves, Hp, Hc19, Hc44, Hc54, if_true, if_false, and_self, not_true_eq_false, not_false_eq_true, and_false, false_and, true_and, and_true]⟩
  · skip
    refine Ct.in 2 kX11_moves (plainFor_of_name rfl) (Nat.le_of_ble_eq_true rfl) ?_
    refine w_aload_n (zat TX11_moves 0 rfl) rfl ?_
    refine w_iload_n (zat TX11_moves 1 rfl) rfl ?_
    refine x_callv2 (qX11_storeAt_n l _ hW nS hS hS2 hS3 _ Hp) (by decide) kX11_storeAt (rdy_V (zat TX11_moves 2 rfl) kX11_storeAt pX11_storeAt zw886 zw888 zw28 (zrc (by decide) (by decide) rfl)) (Nat.le_of_ble_eq_true rfl) rfl rfl ?_
    refine x_astore (ls2 := [_, _, _, _, _, _]) (zat TX11_moves 3 rfl) (by decide) rfl ?_
    refine w_aload (zat TX11_moves 4 rfl) rfl ?_
    refine w_ifnonnull_f (zat TX11_moves 5 rfl) ?_
    refine w_aload_n (zat TX11_moves 6 rfl) rfl ?_
    refine w_iconst (v := 1) (zat TX11_moves 7 rfl) (by decide) ?_
    refine x_callv2 (qX11_refuse l _ _) (by decide) kX11_refuse (rdy_V (zat TX11_moves 8 rfl) kX11_refuse pX11_refuse zw344 zw346 zw0 (zrc (by decide) (by decide) rfl)) (Nat.le_of_ble_eq_true rfl) rfl rfl ?_
    refine w_ireturn (zat TX11_moves 9 rfl) rfl rfl ?_
    exact ⟨by rw [cMoves, if_neg Hp], by rw [cMoves, if_neg Hp]⟩
def cCounted (h : zH) (nS : Nat) (p a : Int32) : Int32 × zH := if 0 ≤ p ∧ p < nI nS then (if 0 ≤ a ∧ a ≤ 1000000000 then (zI h 61 p.toNatClampNeg 0 + zI h 61 p.toNatClampNeg 1 - zI h 61 p.toNatClampNeg 2 - a, zsI (zsI (zsI h 61 p.toNatClampNeg 3 a) 61 p.toNatClampNeg 4 1) 0 0 13 0) else (-1, zsI h 0 0 13 2)) else (-1, zsI h 0 0 13 1)
theorem qX11_counted (l : Launch) (h : zH) (hW : Wc h) (p a : Int32) (nS : Nat) (hS : zI h 0 0 10 = nI nS) (hS2 : nS ≤ 8) (hS3 : zC h 61 = nS) : Cx l 3 mX11_counted [Vq (some (0, 0)), Vi p, Vi a] h (Rv (Vi (cCounted h nS p a).1)) (cCounted h nS p a).2 := by
  by_cases Hp : 0 ≤ p ∧ p < nI nS
  · obtain ⟨Hx, Hn⟩ := ixC (n := nS) (by omega) Hp
    refine Ct.in 1 kX11_counted (plainFor_of_name rfl) (Nat.le_of_ble_eq_true rfl) ?_
    refine w_aload_n (zat TX11_counted 0 rfl) rfl ?_
    refine w_iload_n (zat TX11_counted 1 rfl) rfl ?_
    refine x_callv2 (qX11_storeAt_s l _ hW nS hS hS2 hS3 _ _ Hx Hn) (by decide) kX11_storeAt (rdy_V (zat TX11_counted 2 rfl) kX11_storeAt pX11_storeAt zw886 zw888 zw28 (zrc (by decide) (by decide) rfl)) (Nat.le_of_ble_eq_true rfl) rfl rfl ?_
    refine x_astore_n (ls2 := [_, _, _, _]) (zat TX11_counted 3 rfl) (by decide) rfl ?_
    refine w_aload_n (zat TX11_counted 4 rfl) rfl ?_
    refine w_ifnonnull_t 16 (zat TX11_counted 5 rfl) (by decide) ?_
    refine w_iload_n (zat TX11_counted 10 rfl) rfl ?_
    refine w_iconst (v := 0) (zat TX11_counted 11 rfl) (by decide) ?_
    refine w_ldcw (v := 1000000000) (zat TX11_counted 12 rfl) zw890 ?_
    refine x_callv3 (qX11_within l _ _ _ _) (by decide) kX11_within (rdy_S (zat TX11_counted 13 rfl) kX11_within pX11_within zw341 zw342) (Nat.le_of_ble_eq_true rfl) rfl rfl ?_
    refine w_if_ne 33 (zat TX11_counted 14 rfl) (by decide) (fun Hc24 => ?_) (fun Hc24 => ?_)
    · refine w_aload_n (zat TX11_counted 19 rfl) rfl ?_
      refine w_iload_n (zat TX11_counted 20 rfl) rfl ?_
      refine w_putI (zat TX11_counted 21 rfl) gX11_counted_269 s61 (by decide) (by decide) rfl ⟨rfl, rfl⟩ ?_
      refine w_aload_n (zat TX11_counted 22 rfl) rfl ?_
      refine w_iconst (v := 1) (zat TX11_counted 23 rfl) (by decide) ?_
      refine w_putI (zat TX11_counted 24 rfl) gX11_counted_248 s61 (by decide) (by decide) rfl ⟨rfl, rfl⟩ ?_
      refine w_aload_n (zat TX11_counted 25 rfl) rfl ?_
      refine w_aload_n (zat TX11_counted 26 rfl) rfl ?_
      refine x_callv1 (qX7_missingThisYear l _ _) (by decide) kX7_missingThisYear (rdy_V (zat TX11_counted 27 rfl) kX7_missingThisYear pX7_missingThisYear zw895 zw845 zw846 (zrc (by decide) (by decide) rfl)) (Nat.le_of_ble_eq_true rfl) rfl rfl ?_
      rw [sMis, show zI (zsI (zsI h 61 p.toNatClampNeg 3 a) 61 p.toNatClampNeg 4 1) 61 p.toNatClampNeg 0 = zI h 61 p.toNatClampNeg 0 by rw [zI_oth _ _ _ _ _ (by decide), zI_oth _ _ _ _ _ (by decide)], show zI (zsI (zsI h 61 p.toNatClampNeg 3 a) 61 p.toNatClampNeg 4 1) 61 p.toNatClampNeg 1 = zI h 61 p.toNatClampNeg 1 by rw [zI_oth _ _ _ _ _ (by decide), zI_oth _ _ _ _ _ (by decide)], show zI (zsI (zsI h 61 p.toNatClampNeg 3 a) 61 p.toNatClampNeg 4 1) 61 p.toNatClampNeg 2 = zI h 61 p.toNatClampNeg 2 by rw [zI_oth _ _ _ _ _ (by decide), zI_oth _ _ _ _ _ (by decide)], show zI (zsI (zsI h 61 p.toNatClampNeg 3 a) 61 p.toNatClampNeg 4 1) 61 p.toNatClampNeg 3 = a by rw [zI_oth _ _ _ _ _ (by decide), zI_same]]
      refine x_callv2 (qX11_grant l _ _) (by decide) kX11_grant (rdy_V (zat TX11_counted 28 rfl) kX11_grant pX11_grant zw382 zw384 zw1 (zrc (by decide) (by decide) rfl)) (Nat.le_of_ble_eq_true rfl) rfl rfl ?_
      refine w_ireturn (zat TX11_counted 29 rfl) rfl rfl ?_
      try simp only [zb_0, Decidable.not_not] at Hc24
      exact ⟨by simp only [cCounted, Hp, Hc24, if_true, if_false, and_self, not_true_eq_false, not_false_eq_true, and_false, false_and, true_and, and_true], by simp only [cCounted, Hp, Hc24, if_true, if_false, and_self, not_true_eq_false, not_false_eq_true, and_false, false_and, true_and, and_true]⟩
    · refine w_aload_n (zat TX11_counted 15 rfl) rfl ?_
      refine w_iconst (v := 2) (zat TX11_counted 16 rfl) (by decide) ?_
      refine x_callv2 (qX11_refuse l _ _) (by decide) kX11_refuse (rdy_V (zat TX11_counted 17 rfl) kX11_refuse pX11_refuse zw344 zw346 zw0 (zrc (by decide) (by decide) rfl)) (Nat.le_of_ble_eq_true rfl) rfl rfl ?_
      refine w_ireturn (zat TX11_counted 18 rfl) rfl rfl ?_
      try simp only [zb_0, Decidable.not_not] at Hc24
      exact ⟨by simp only [cCounted, Hp, Hc24, if_true, if_false, and_self, not_true_eq_false, not_false_eq_true, and_false, false_and, true_and, and_true], by simp only [cCounted, Hp, Hc24, if_true, if_false, and_self, not_true_eq_false, not_false_eq_true, and_false, false_and, true_and, and_true]⟩
  · skip
    refine Ct.in 1 kX11_counted (plainFor_of_name rfl) (Nat.le_of_ble_eq_true rfl) ?_
    refine w_aload_n (zat TX11_counted 0 rfl) rfl ?_
    refine w_iload_n (zat TX11_counted 1 rfl) rfl ?_
    refine x_callv2 (qX11_storeAt_n l _ hW nS hS hS2 hS3 _ Hp) (by decide) kX11_storeAt (rdy_V (zat TX11_counted 2 rfl) kX11_storeAt pX11_storeAt zw886 zw888 zw28 (zrc (by decide) (by decide) rfl)) (Nat.le_of_ble_eq_true rfl) rfl rfl ?_
    refine x_astore_n (ls2 := [_, _, _, _]) (zat TX11_counted 3 rfl) (by decide) rfl ?_
    refine w_aload_n (zat TX11_counted 4 rfl) rfl ?_
    refine w_ifnonnull_f (zat TX11_counted 5 rfl) ?_
    refine w_aload_n (zat TX11_counted 6 rfl) rfl ?_
    refine w_iconst (v := 1) (zat TX11_counted 7 rfl) (by decide) ?_
    refine x_callv2 (qX11_refuse l _ _) (by decide) kX11_refuse (rdy_V (zat TX11_counted 8 rfl) kX11_refuse pX11_refuse zw344 zw346 zw0 (zrc (by decide) (by decide) rfl)) (Nat.le_of_ble_eq_true rfl) rfl rfl ?_
    refine w_ireturn (zat TX11_counted 9 rfl) rfl rfl ?_
    exact ⟨by rw [cCounted, if_neg Hp], by rw [cCounted, if_neg Hp]⟩
theorem qX11_missing (l : Launch) (h : zH) (hW : Wc h) (p : Int32) (nS : Nat) (hS : zI h 0 0 10 = nI nS) (hS2 : nS ≤ 8) (hS3 : zC h 61 = nS) : Cx l 3 mX11_missing [Vq (some (0, 0)), Vi p] h (Rv (Vj (if 0 ≤ p ∧ p < nI nS then zL h 61 p.toNatClampNeg 5 else 0))) h := by
  by_cases Hp : 0 ≤ p ∧ p < nI nS
  · obtain ⟨Hx, Hn⟩ := ixC (n := nS) (by omega) Hp
    refine Ct.in 1 kX11_missing (plainFor_of_name rfl) (Nat.le_of_ble_eq_true rfl) ?_
    refine w_aload_n (zat TX11_missing 0 rfl) rfl ?_
    refine w_iload_n (zat TX11_missing 1 rfl) rfl ?_
    refine x_callv2 (qX11_storeAt_s l _ hW nS hS hS2 hS3 _ _ Hx Hn) (by decide) kX11_storeAt (rdy_V (zat TX11_missing 2 rfl) kX11_storeAt pX11_storeAt zw886 zw888 zw28 (zrc (by decide) (by decide) rfl)) (Nat.le_of_ble_eq_true rfl) rfl rfl ?_
    refine x_astore_n (ls2 := [_, _, _]) (zat TX11_missing 3 rfl) (by decide) rfl ?_
    refine w_aload_n (zat TX11_missing 4 rfl) rfl ?_
    refine w_ifnonnull_t 14 (zat TX11_missing 5 rfl) (by decide) ?_
    refine w_aload_n (zat TX11_missing 8 rfl) rfl ?_
    refine w_getL (zat TX11_missing 9 rfl) fX11_276 s61 (by decide) (by decide) rfl ?_
    refine w_lreturn (zat TX11_missing 10 rfl) rfl ?_
    exact ⟨by rw [if_pos Hp], rfl⟩
  · skip
    refine Ct.in 1 kX11_missing (plainFor_of_name rfl) (Nat.le_of_ble_eq_true rfl) ?_
    refine w_aload_n (zat TX11_missing 0 rfl) rfl ?_
    refine w_iload_n (zat TX11_missing 1 rfl) rfl ?_
    refine x_callv2 (qX11_storeAt_n l _ hW nS hS hS2 hS3 _ Hp) (by decide) kX11_storeAt (rdy_V (zat TX11_missing 2 rfl) kX11_storeAt pX11_storeAt zw886 zw888 zw28 (zrc (by decide) (by decide) rfl)) (Nat.le_of_ble_eq_true rfl) rfl rfl ?_
    refine x_astore_n (ls2 := [_, _, _]) (zat TX11_missing 3 rfl) (by decide) rfl ?_
    refine w_aload_n (zat TX11_missing 4 rfl) rfl ?_
    refine w_ifnonnull_f (zat TX11_missing 5 rfl) ?_
    refine w_lconst (v := 0) (zat TX11_missing 6 rfl) (by decide) ?_
    refine w_goto 18 (zat TX11_missing 7 rfl) (by decide) ?_
    refine w_lreturn (zat TX11_missing 10 rfl) rfl ?_
    exact ⟨by rw [if_neg Hp], rfl⟩
theorem qX11_force (l : Launch) (h : zH) (hW : Wc h) (p y : Int32) (nP : Nat) (hP : zI h 0 0 8 = nI nP) (hP2 : nP ≤ 10) (hP3 : zC h 58 = nP) (nE : Nat) (hE : zI h 55 0 2 = nI nE) (hE2 : nE ≤ 30) (hE3 : zC h 60 = nE) (hY : ∀ e, e < nE → 0 ≤ cY h e) : Cx l 3 mX11_force [Vq (some (0, 0)), Vi p, Vi y] h (Rv (Vi (if (0 ≤ p ∧ p < nI nP) ∧ (0 ≤ y ∧ y ≤ 99) then mF (cP h) (cY h) p y nE else -1))) h := by
  by_cases Hp : 0 ≤ p ∧ p < nI nP
  · obtain ⟨Hx, Hn⟩ := ixC (n := nP) (by omega) Hp
    refine Ct.in 0 kX11_force (plainFor_of_name rfl) (Nat.le_of_ble_eq_true rfl) ?_
    refine w_aload_n (zat TX11_force 0 rfl) rfl ?_
    refine w_iload_n (zat TX11_force 1 rfl) rfl ?_
    refine x_callv2 (qX11_provinceAt_s l _ hW nP hP hP2 hP3 _ _ Hx Hn) (by decide) kX11_provinceAt (rdy_V (zat TX11_force 2 rfl) kX11_provinceAt pX11_provinceAt zw390 zw392 zw2 (zrc (by decide) (by decide) rfl)) (Nat.le_of_ble_eq_true rfl) rfl rfl ?_
    refine w_ifnull_f (zat TX11_force 3 rfl) ?_
    refine w_iload_n (zat TX11_force 4 rfl) rfl ?_
    refine w_iconst (v := 0) (zat TX11_force 5 rfl) (by decide) ?_
    refine w_bipush (v := 99) (zat TX11_force 6 rfl) (by decide) ?_
    refine x_callv3 (qX11_within l _ _ _ _) (by decide) kX11_within (rdy_S (zat TX11_force 7 rfl) kX11_within pX11_within zw341 zw342) (Nat.le_of_ble_eq_true rfl) rfl rfl ?_
    refine w_if_ne 20 (zat TX11_force 8 rfl) (by decide) (fun Hc15 => ?_) (fun Hc15 => ?_)
    · refine w_aload_n (zat TX11_force 11 rfl) rfl ?_
      refine w_getR (zat TX11_force 12 rfl) fX11_44 s0 (by decide) (by decide) rfl (wcr hW 5 rfl) ?_
      refine w_iload_n (zat TX11_force 13 rfl) rfl ?_
      refine w_iload_n (zat TX11_force 14 rfl) rfl ?_
      refine x_callv3 (qX2_numberInForce l _ hW _ _ nE hE hE2 hE3 hY) (by decide) kX2_numberInForce (rdy_V (zat TX11_force 15 rfl) kX2_numberInForce pX2_numberInForce zw645 zw646 zw647 (zrc (by decide) (by decide) rfl)) (Nat.le_of_ble_eq_true rfl) rfl rfl ?_
      refine w_ireturn (zat TX11_force 16 rfl) rfl rfl ?_
      try simp only [zb_0, Decidable.not_not] at Hc15
      exact ⟨by simp only [Hp, Hc15, if_true, if_false, and_self, not_true_eq_false, not_false_eq_true, and_false, false_and, true_and, and_true], rfl⟩
    · refine w_iconst (v := -1) (zat TX11_force 9 rfl) (by decide) ?_
      refine w_ireturn (zat TX11_force 10 rfl) rfl rfl ?_
      try simp only [zb_0, Decidable.not_not] at Hc15
      exact ⟨by simp only [Hp, Hc15, if_true, if_false, and_self, not_true_eq_false, not_false_eq_true, and_false, false_and, true_and, and_true], rfl⟩
  · skip
    refine Ct.in 0 kX11_force (plainFor_of_name rfl) (Nat.le_of_ble_eq_true rfl) ?_
    refine w_aload_n (zat TX11_force 0 rfl) rfl ?_
    refine w_iload_n (zat TX11_force 1 rfl) rfl ?_
    refine x_callv2 (qX11_provinceAt_n l _ hW nP hP hP2 hP3 _ Hp) (by decide) kX11_provinceAt (rdy_V (zat TX11_force 2 rfl) kX11_provinceAt pX11_provinceAt zw390 zw392 zw2 (zrc (by decide) (by decide) rfl)) (Nat.le_of_ble_eq_true rfl) rfl rfl ?_
    refine w_ifnull_t 18 (zat TX11_force 3 rfl) (by decide) ?_
    refine w_iconst (v := -1) (zat TX11_force 9 rfl) (by decide) ?_
    refine w_ireturn (zat TX11_force 10 rfl) rfl rfl ?_
    exact ⟨by rw [if_neg (fun q => Hp q.1)], rfl⟩
theorem qX10_standingOn (l : Launch) (h : zH) (hW : Wc h) (b : Int32) (nT : Nat) (hT : zI h 57 0 2 = nI nT) (hT2 : nT ≤ 16) : Cx l 1 mX10_standingOn [Vq (some (57, 0)), Vi b] h (Rv (Vi (if 0 ≤ b ∧ b < nI nT then zI h 83 0 b.toNatClampNeg else -1))) h := by
  refine Ct.in 0 kX10_standingOn (plainFor_of_name rfl) (Nat.le_of_ble_eq_true rfl) ?_
  refine w_iload_n (zat TX10_standingOn 0 rfl) rfl ?_
  refine w_if_lt 21 (zat TX10_standingOn 1 rfl) (by decide) (fun Hc1 => ?_) (fun Hc1 => ?_)
  · refine w_iconst (v := -1) (zat TX10_standingOn 11 rfl) (by decide) ?_
    refine w_ireturn (zat TX10_standingOn 12 rfl) rfl rfl ?_
    exact ⟨by rw [if_neg (fun q => Int32.not_le.mpr Hc1 q.1)], rfl⟩
  · refine w_iload_n (zat TX10_standingOn 2 rfl) rfl ?_
    refine w_aload_n (zat TX10_standingOn 3 rfl) rfl ?_
    refine y_getI (v := nI nT) (zat TX10_standingOn 4 rfl) fX10_18 s57 (by decide) (by decide) rfl hT ?_
    refine w_icmp_ge 21 (zat TX10_standingOn 5 rfl) (by decide) (fun Hc9 => ?_) (fun Hc9 => ?_)
    · refine w_iconst (v := -1) (zat TX10_standingOn 11 rfl) (by decide) ?_
      refine w_ireturn (zat TX10_standingOn 12 rfl) rfl rfl ?_
      exact ⟨by rw [if_neg (fun q => Int32.not_lt.mpr Hc9 q.2)], rfl⟩
    · have Hb2 : 0 ≤ b ∧ b < nI nT := ⟨Int32.not_lt.mp Hc1, Int32.not_le.mp Hc9⟩
      obtain ⟨Hx, Hn⟩ := ixC (n := nT) (by omega) Hb2
      refine w_aload_n (zat TX10_standingOn 6 rfl) rfl ?_
      refine w_getR (zat TX10_standingOn 7 rfl) fX10_15 s57 (by decide) (by decide) rfl (wcr hW 23 rfl) ?_
      refine w_iload_n (zat TX10_standingOn 8 rfl) rfl ?_
      refine x_iaload _ _ (zat TX10_standingOn 9 rfl) s83 (by decide) (wcn hW 19 rfl) (by decide) Hx (by omega) ?_
      refine w_goto 22 (zat TX10_standingOn 10 rfl) (by decide) ?_
      refine w_ireturn (zat TX10_standingOn 12 rfl) rfl rfl ?_
      exact ⟨by rw [if_pos Hb2], rfl⟩
theorem qX11_stand (l : Launch) (h : zH) (hW : Wc h) (b : Int32) (nT : Nat) (hT : zI h 57 0 2 = nI nT) (hT2 : nT ≤ 16) : Cx l 2 mX11_stand [Vq (some (0, 0)), Vi b] h (Rv (Vi (if 0 ≤ b ∧ b < nI nT then zI h 83 0 b.toNatClampNeg else -1))) h := by
  refine Ct.in 0 kX11_stand (plainFor_of_name rfl) (Nat.le_of_ble_eq_true rfl) ?_
  refine w_aload_n (zat TX11_stand 0 rfl) rfl ?_
  refine w_getR (zat TX11_stand 1 rfl) fX11_58 s0 (by decide) (by decide) rfl (wcr hW 7 rfl) ?_
  refine w_iload_n (zat TX11_stand 2 rfl) rfl ?_
  refine x_callv2 (qX10_standingOn l _ hW _ nT hT hT2) (by decide) kX10_standingOn (rdy_V (zat TX11_stand 3 rfl) kX10_standingOn pX10_standingOn zw832 zw833 zw834 (zrc (by decide) (by decide) rfl)) (Nat.le_of_ble_eq_true rfl) rfl rfl ?_
  refine w_ireturn (zat TX11_stand 4 rfl) rfl rfl ?_
  exact ⟨rfl, rfl⟩
def cFeed (h : zH) (n : Nat) (a b c d e : Int32) : Int32 × zH := if n + 20 ≤ 300 then (nI (n + 20), aH (aH (aH (aH (aH h n a) (n + 4) b) (n + 8) c) (n + 12) d) (n + 16) e) else (-1, h)
theorem aH_t (h : zH) (n : Nat) (v : Int32) : zI (aH h n v) 53 0 1 = nI (n + 4) := zI_same _ 53 0 1 _
theorem aH_g (h : zH) (n : Nat) (v : Int32) : (aH h n v).2 = h.2 := rfl
theorem qX11_feed (l : Launch) (h : zH) (hW : Wc h) (a b c d e : Int32) (n : Nat) (hT : zI h 53 0 1 = nI n) (hn : n ≤ 300) : Cx l 2 mX11_feed [Vq (some (0, 0)), Vi a, Vi b, Vi c, Vi d, Vi e] h (Rv (Vi (cFeed h n a b c d e).1)) (cFeed h n a b c d e).2 := by
  refine Ct.in 0 kX11_feed (plainFor_of_name rfl) (Nat.le_of_ble_eq_true rfl) ?_
  refine w_aload_n (zat TX11_feed 0 rfl) rfl ?_
  refine w_getR (zat TX11_feed 1 rfl) fX11_30 s0 (by decide) (by decide) rfl (wcr hW 3 rfl) ?_
  refine x_callv1 (qX8_hasRoom l _ n hT hn) (by decide) kX8_hasRoom (rdy_V (zat TX11_feed 2 rfl) kX8_hasRoom pX8_hasRoom zw451 zw452 zw453 (zrc (by decide) (by decide) rfl)) (Nat.le_of_ble_eq_true rfl) rfl rfl ?_
  refine w_if_ne 12 (zat TX11_feed 3 rfl) (by decide) (fun Hc7 => ?_) (fun Hc7 => ?_)
  · rw [zb_n] at Hc7
    rw [cFeed, if_pos Hc7]
    refine w_aload_n (zat TX11_feed 6 rfl) rfl ?_
    refine w_getR (zat TX11_feed 7 rfl) fX11_30 s0 (by decide) (by decide) rfl (wcr hW 3 rfl) ?_
    refine w_iload_n (zat TX11_feed 8 rfl) rfl ?_
    refine x_callu2 (qX8_append l h hW _ n hT (by omega)) (by decide) kX8_append (rdy_V (zat TX11_feed 9 rfl) kX8_append pX8_append zw455 zw456 zw457 (zrc (by decide) (by decide) rfl)) (Nat.le_of_ble_eq_true rfl) rfl rfl ?_
    refine w_aload_n (zat TX11_feed 10 rfl) rfl ?_
    refine w_getR (zat TX11_feed 11 rfl) fX11_30 s0 (by decide) (by decide) rfl (wcr hW 3 rfl) ?_
    refine w_iload_n (zat TX11_feed 12 rfl) rfl ?_
    refine x_callu2 (qX8_append l (aH h n a) hW _ (n + 4) (aH_t _ _ _) (by omega)) (by decide) kX8_append (rdy_V (zat TX11_feed 13 rfl) kX8_append pX8_append zw455 zw456 zw457 (zrc (by decide) (by decide) rfl)) (Nat.le_of_ble_eq_true rfl) rfl rfl ?_
    refine w_aload_n (zat TX11_feed 14 rfl) rfl ?_
    refine w_getR (zat TX11_feed 15 rfl) fX11_30 s0 (by decide) (by decide) rfl (wcr hW 3 rfl) ?_
    refine w_iload_n (zat TX11_feed 16 rfl) rfl ?_
    refine x_callu2 (qX8_append l (aH (aH h n a) (n + 4) b) hW _ (n + 8) (aH_t _ _ _) (by omega)) (by decide) kX8_append (rdy_V (zat TX11_feed 17 rfl) kX8_append pX8_append zw455 zw456 zw457 (zrc (by decide) (by decide) rfl)) (Nat.le_of_ble_eq_true rfl) rfl rfl ?_
    refine w_aload_n (zat TX11_feed 18 rfl) rfl ?_
    refine w_getR (zat TX11_feed 19 rfl) fX11_30 s0 (by decide) (by decide) rfl (wcr hW 3 rfl) ?_
    refine w_iload (zat TX11_feed 20 rfl) rfl ?_
    refine x_callu2 (qX8_append l (aH (aH (aH h n a) (n + 4) b) (n + 8) c) hW _ (n + 12) (aH_t _ _ _) (by omega)) (by decide) kX8_append (rdy_V (zat TX11_feed 21 rfl) kX8_append pX8_append zw455 zw456 zw457 (zrc (by decide) (by decide) rfl)) (Nat.le_of_ble_eq_true rfl) rfl rfl ?_
    refine w_aload_n (zat TX11_feed 22 rfl) rfl ?_
    refine w_getR (zat TX11_feed 23 rfl) fX11_30 s0 (by decide) (by decide) rfl (wcr hW 3 rfl) ?_
    refine w_iload (zat TX11_feed 24 rfl) rfl ?_
    refine x_callu2 (qX8_append l (aH (aH (aH (aH h n a) (n + 4) b) (n + 8) c) (n + 12) d) hW _ (n + 16) (aH_t _ _ _) (by omega)) (by decide) kX8_append (rdy_V (zat TX11_feed 25 rfl) kX8_append pX8_append zw455 zw456 zw457 (zrc (by decide) (by decide) rfl)) (Nat.le_of_ble_eq_true rfl) rfl rfl ?_
    refine w_aload_n (zat TX11_feed 26 rfl) rfl ?_
    refine w_getR (zat TX11_feed 27 rfl) fX11_30 s0 (by decide) (by decide) rfl (wcr hW 3 rfl) ?_
    refine y_getI (v := nI (n + 20)) (zat TX11_feed 28 rfl) fX11_143 s53 (by decide) (by decide) rfl (aH_t _ _ _) ?_
    refine w_ireturn (zat TX11_feed 29 rfl) rfl rfl ?_
    exact ⟨rfl, rfl⟩
  · rw [zb_0] at Hc7
    rw [cFeed, if_neg Hc7]
    refine w_iconst (v := -1) (zat TX11_feed 4 rfl) (by decide) ?_
    refine w_ireturn (zat TX11_feed 5 rfl) rfl rfl ?_
    exact ⟨rfl, rfl⟩
def cCount (h : zH) (nB : Nat) (w : Int32) : Int32 := if w = 0 then zI h 0 0 8 else if w = 1 then zI h 0 0 9 else if w = 2 then zI h 55 0 2 else if w = 3 then zI h 0 0 11 else if w = 4 then zI h 0 0 10 else if w = 5 then zI h 53 0 1 else if w = 6 then mG (fun b => zI h 59 b 3) nB else -1
theorem qX11_count (l : Launch) (h : zH) (hW : Wc h) (w : Int32) (nB : Nat) (hB : zI h 0 0 9 = nI nB) (hB2 : nB ≤ 16) (hB3 : zC h 59 = nB) : Cx l 2 mX11_count [Vq (some (0, 0)), Vi w] h (Rv (Vi (cCount h nB w))) h := by
  refine Ct.in 0 kX11_count (plainFor_of_name rfl) (Nat.le_of_ble_eq_true rfl) ?_
  refine w_iload_n (zat TX11_count 0 rfl) rfl ?_
  by_cases Hw0 : w = 0
  · subst Hw0
    refine w_tableIn 44 (zat TX11_count 1 rfl) (by decide) (by decide) rfl (by decide) ?_
    refine w_aload_n (zat TX11_count 2 rfl) rfl ?_
    refine w_getI (zat TX11_count 3 rfl) fX11_62 s0 (by decide) (by decide) rfl ?_
    refine w_ireturn (zat TX11_count 4 rfl) rfl rfl ?_
    exact ⟨by simp only [cCount]; rfl, rfl⟩
  · skip
    by_cases Hw1 : w = 1
    · subst Hw1
      refine w_tableIn 49 (zat TX11_count 1 rfl) (by decide) (by decide) rfl (by decide) ?_
      refine w_aload_n (zat TX11_count 5 rfl) rfl ?_
      refine w_getI (zat TX11_count 6 rfl) fX11_66 s0 (by decide) (by decide) rfl ?_
      refine w_ireturn (zat TX11_count 7 rfl) rfl rfl ?_
      exact ⟨by simp only [cCount]; rfl, rfl⟩
    · skip
      by_cases Hw2 : w = 2
      · subst Hw2
        refine w_tableIn 54 (zat TX11_count 1 rfl) (by decide) (by decide) rfl (by decide) ?_
        refine w_aload_n (zat TX11_count 8 rfl) rfl ?_
        refine w_getR (zat TX11_count 9 rfl) fX11_44 s0 (by decide) (by decide) rfl (wcr hW 5 rfl) ?_
        refine w_getI (zat TX11_count 10 rfl) fX11_280 s55 (by decide) (by decide) rfl ?_
        refine w_ireturn (zat TX11_count 11 rfl) rfl rfl ?_
        exact ⟨by simp only [cCount]; rfl, rfl⟩
      · skip
        by_cases Hw3 : w = 3
        · subst Hw3
          refine w_tableIn 62 (zat TX11_count 1 rfl) (by decide) (by decide) rfl (by decide) ?_
          refine w_aload_n (zat TX11_count 12 rfl) rfl ?_
          refine w_getI (zat TX11_count 13 rfl) fX11_72 s0 (by decide) (by decide) rfl ?_
          refine w_ireturn (zat TX11_count 14 rfl) rfl rfl ?_
          exact ⟨by simp only [cCount]; rfl, rfl⟩
        · skip
          by_cases Hw4 : w = 4
          · subst Hw4
            refine w_tableIn 67 (zat TX11_count 1 rfl) (by decide) (by decide) rfl (by decide) ?_
            refine w_aload_n (zat TX11_count 15 rfl) rfl ?_
            refine w_getI (zat TX11_count 16 rfl) fX11_69 s0 (by decide) (by decide) rfl ?_
            refine w_ireturn (zat TX11_count 17 rfl) rfl rfl ?_
            exact ⟨by simp only [cCount]; rfl, rfl⟩
          · skip
            by_cases Hw5 : w = 5
            · subst Hw5
              refine w_tableIn 72 (zat TX11_count 1 rfl) (by decide) (by decide) rfl (by decide) ?_
              refine w_aload_n (zat TX11_count 18 rfl) rfl ?_
              refine w_getR (zat TX11_count 19 rfl) fX11_30 s0 (by decide) (by decide) rfl (wcr hW 3 rfl) ?_
              refine w_getI (zat TX11_count 20 rfl) fX11_143 s53 (by decide) (by decide) rfl ?_
              refine w_ireturn (zat TX11_count 21 rfl) rfl rfl ?_
              exact ⟨by simp only [cCount]; rfl, rfl⟩
            · skip
              by_cases Hw6 : w = 6
              · subst Hw6
                refine w_tableIn 80 (zat TX11_count 1 rfl) (by decide) (by decide) rfl (by decide) ?_
                refine w_aload_n (zat TX11_count 22 rfl) rfl ?_
                refine x_callv1 (qX11_guardsInAll l _ hW nB hB hB2 hB3) (by decide) kX11_guardsInAll (rdy_V (zat TX11_count 23 rfl) kX11_guardsInAll pX11_guardsInAll zw908 zw910 zw29 (zrc (by decide) (by decide) rfl)) (Nat.le_of_ble_eq_true rfl) rfl rfl ?_
                refine w_ireturn (zat TX11_count 24 rfl) rfl rfl ?_
                exact ⟨by simp only [cCount]; rfl, rfl⟩
              · skip
                have Hout : w.toInt < 0 ∨ 6 < w.toInt := by
                  rcases Int.lt_or_le w.toInt 0 with q | q
                  · exact Or.inl q
                  · rcases Int.lt_or_le 6 w.toInt with q2 | q2
                    · exact Or.inr q2
                    · exfalso
                      have Hz : w = Int32.ofInt w.toInt := (Int32.ofInt_toInt w).symm
                      rcases (show w.toInt = 0 ∨ w.toInt = 1 ∨ w.toInt = 2 ∨ w.toInt = 3 ∨ w.toInt = 4 ∨ w.toInt = 5 ∨ w.toInt = 6 by omega) with e | e | e | e | e | e | e <;> rw [e] at Hz
                      · exact Hw0 Hz
                      · exact Hw1 Hz
                      · exact Hw2 Hz
                      · exact Hw3 Hz
                      · exact Hw4 Hz
                      · exact Hw5 Hz
                      · exact Hw6 Hz
                refine w_tableOut 85 (zat TX11_count 1 rfl) Hout (by decide) ?_
                refine w_iconst (v := -1) (zat TX11_count 25 rfl) (by decide) ?_
                refine w_ireturn (zat TX11_count 26 rfl) rfl rfl ?_
                exact ⟨by rw [cCount, if_neg Hw0, if_neg Hw1, if_neg Hw2, if_neg Hw3, if_neg Hw4, if_neg Hw5, if_neg Hw6], rfl⟩
