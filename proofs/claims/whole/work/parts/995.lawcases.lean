-- the law: its thirty calls, by program (wip/gen/p995.py)
theorem lg_same (x : Int64) : lg_cmp x x = 0 := lc_eq.mpr rfl
theorem cs_province (l : Launch) (Q : zO → zH → Prop) (h : zH) (hI : Inv h) (i L : Nat) (hL : zN h 999 0 = L) (hi : i + 6 ≤ L) (hB : L ≤ 3072) (K : ∀ h2, Inv h2 → Sc h h2 → Wp l mL_law 41 1036 [some (Vq (some (999, 0))), some (Vq (some (0, 0))), some (Vq (some (1, 0))), some (Vi (nI i))] [] h2 Q) : Wp l mL_law 41 168 [some (Vq (some (999, 0))), some (Vq (some (0, 0))), some (Vq (some (1, 0))), some (Vi (nI i))] [] h Q := by
  refine w_aload_n (zat TL_law_0 22 rfl) rfl ?_
  refine w_aload_n (zat TL_law_0 23 rfl) rfl ?_
  refine w_iload_n (zat TL_law_0 24 rfl) rfl ?_
  refine w_iconst (v := 1) (zat TL_law_0 25 rfl) (by decide) ?_
  refine w_iadd (zat TL_law_0 26 rfl) ?_
  refine w_sld _ (nI_add i 1) (by rw [hL]; omega) (by rw [hL]; omega) (zat TL_law_0 27 rfl) ?_
  refine w_aload_n (zat TL_law_0 28 rfl) rfl ?_
  refine w_iload_n (zat TL_law_0 29 rfl) rfl ?_
  refine w_iconst (v := 2) (zat TL_law_0 30 rfl) (by decide) ?_
  refine w_iadd (zat TL_law_0 31 rfl) ?_
  refine w_sld _ (nI_add i 2) (by rw [hL]; omega) (by rw [hL]; omega) (zat TL_law_0 32 rfl) ?_
  obtain ⟨dc, hdc, hP⟩ := Pq.of (pr_province l h hI (zI h 999 0 (i + 1)) (zI h 999 0 (i + 2))) (by decide) (by decide)
  refine x_call3 (hP) (by omega) kX11_province (rdy_V (zat TL_law_0 33 rfl) kX11_province pX11_province zw333 zw334 zw335 (zrc (by decide) (by decide) rfl)) (Nat.le_of_ble_eq_true rfl) rfl rfl (fun v h1 hq => ?_) (fun r h1 hq => by obtain ⟨_, hq, _⟩ := hq; cases hq)
  obtain ⟨v1, hq1, hk1, hs1, dm, hdm, hM⟩ := hq
  cases hq1
  obtain ⟨x1, rfl⟩ := kd_I hk1 (Or.inl rfl)
  have hL1 : zN h1 999 0 = L := hs1.2.trans hL
  refine w_aload_n (zat TL_law_0 34 rfl) rfl ?_
  refine w_aload_n (zat TL_law_0 35 rfl) rfl ?_
  refine w_iload_n (zat TL_law_0 36 rfl) rfl ?_
  refine w_iconst (v := 1) (zat TL_law_0 37 rfl) (by decide) ?_
  refine w_iadd (zat TL_law_0 38 rfl) ?_
  refine w_sld _ (nI_add i 1) (by rw [hL1]; omega) (by rw [hL1]; omega) (zat TL_law_0 39 rfl) ?_
  refine w_aload_n (zat TL_law_0 40 rfl) rfl ?_
  refine w_iload_n (zat TL_law_0 41 rfl) rfl ?_
  refine w_iconst (v := 2) (zat TL_law_0 42 rfl) (by decide) ?_
  refine w_iadd (zat TL_law_0 43 rfl) ?_
  refine w_sld _ (nI_add i 2) (by rw [hL1]; omega) (by rw [hL1]; omega) (zat TL_law_0 44 rfl) ?_
  rw [hs1.1]
  refine x_call3 (hM) (by omega) kX14_province (rdy_V (zat TL_law_0 45 rfl) kX14_province pX14_province zw1180 zw1181 zw1182 (zrc (by decide) (by decide) rfl)) (Nat.le_of_ble_eq_true rfl) rfl rfl (fun v h2 hq => ?_) (fun r h2 hq => by obtain ⟨hq, _⟩ := hq; cases hq)
  obtain ⟨hq2, hs2, hI2⟩ := hq
  cases hq2
  refine w_icmp_eq 1036 (zat TL_law_0 46 rfl) (by decide) (fun Hc196 => ?_) (fun Hc196 => ?_)
  · exact K h2 hI2 hs2
  · exact absurd rfl Hc196
theorem cs_people (l : Launch) (Q : zO → zH → Prop) (h : zH) (hI : Inv h) (i L : Nat) (hL : zN h 999 0 = L) (hi : i + 6 ≤ L) (hB : L ≤ 3072) (K : ∀ h2, Inv h2 → Sc h h2 → Wp l mL_law 41 1036 [some (Vq (some (999, 0))), some (Vq (some (0, 0))), some (Vq (some (1, 0))), some (Vi (nI i))] [] h2 Q) : Wp l mL_law 41 201 [some (Vq (some (999, 0))), some (Vq (some (0, 0))), some (Vq (some (1, 0))), some (Vi (nI i))] [] h Q := by
  refine w_aload_n (zat TL_law_0 49 rfl) rfl ?_
  refine w_aload_n (zat TL_law_0 50 rfl) rfl ?_
  refine w_iload_n (zat TL_law_0 51 rfl) rfl ?_
  refine w_iconst (v := 1) (zat TL_law_0 52 rfl) (by decide) ?_
  refine w_iadd (zat TL_law_0 53 rfl) ?_
  refine w_sld _ (nI_add i 1) (by rw [hL]; omega) (by rw [hL]; omega) (zat TL_law_0 54 rfl) ?_
  refine w_aload_n (zat TL_law_0 55 rfl) rfl ?_
  refine w_iload_n (zat TL_law_0 56 rfl) rfl ?_
  refine w_iconst (v := 2) (zat TL_law_0 57 rfl) (by decide) ?_
  refine w_iadd (zat TL_law_0 58 rfl) ?_
  refine w_sld _ (nI_add i 2) (by rw [hL]; omega) (by rw [hL]; omega) (zat TL_law_0 59 rfl) ?_
  refine w_aload_n (zat TL_law_1 0 rfl) rfl ?_
  refine w_iload_n (zat TL_law_1 1 rfl) rfl ?_
  refine w_iconst (v := 3) (zat TL_law_1 2 rfl) (by decide) ?_
  refine w_iadd (zat TL_law_1 3 rfl) ?_
  refine w_sld _ (nI_add i 3) (by rw [hL]; omega) (by rw [hL]; omega) (zat TL_law_1 4 rfl) ?_
  obtain ⟨dc, hdc, hP⟩ := Pq.of (pr_people l h hI (zI h 999 0 (i + 1)) (zI h 999 0 (i + 2)) (zI h 999 0 (i + 3))) (by decide) (by decide)
  refine x_call4 (hP) (by omega) kX11_people (rdy_V (zat TL_law_1 5 rfl) kX11_people pX11_people zw386 zw387 zw388 (zrc (by decide) (by decide) rfl)) (Nat.le_of_ble_eq_true rfl) rfl rfl (fun v h1 hq => ?_) (fun r h1 hq => by obtain ⟨_, hq, _⟩ := hq; cases hq)
  obtain ⟨v1, hq1, hk1, hs1, dm, hdm, hM⟩ := hq
  cases hq1
  obtain ⟨x1, rfl⟩ := kd_I hk1 (Or.inr rfl)
  have hL1 : zN h1 999 0 = L := hs1.2.trans hL
  refine w_aload_n (zat TL_law_1 6 rfl) rfl ?_
  refine w_aload_n (zat TL_law_1 7 rfl) rfl ?_
  refine w_iload_n (zat TL_law_1 8 rfl) rfl ?_
  refine w_iconst (v := 1) (zat TL_law_1 9 rfl) (by decide) ?_
  refine w_iadd (zat TL_law_1 10 rfl) ?_
  refine w_sld _ (nI_add i 1) (by rw [hL1]; omega) (by rw [hL1]; omega) (zat TL_law_1 11 rfl) ?_
  refine w_aload_n (zat TL_law_1 12 rfl) rfl ?_
  refine w_iload_n (zat TL_law_1 13 rfl) rfl ?_
  refine w_iconst (v := 2) (zat TL_law_1 14 rfl) (by decide) ?_
  refine w_iadd (zat TL_law_1 15 rfl) ?_
  refine w_sld _ (nI_add i 2) (by rw [hL1]; omega) (by rw [hL1]; omega) (zat TL_law_1 16 rfl) ?_
  refine w_aload_n (zat TL_law_1 17 rfl) rfl ?_
  refine w_iload_n (zat TL_law_1 18 rfl) rfl ?_
  refine w_iconst (v := 3) (zat TL_law_1 19 rfl) (by decide) ?_
  refine w_iadd (zat TL_law_1 20 rfl) ?_
  refine w_sld _ (nI_add i 3) (by rw [hL1]; omega) (by rw [hL1]; omega) (zat TL_law_1 21 rfl) ?_
  rw [hs1.1]
  refine x_call4 (hM) (by omega) kX14_people (rdy_V (zat TL_law_1 22 rfl) kX14_people pX14_people zw1196 zw1197 zw1198 (zrc (by decide) (by decide) rfl)) (Nat.le_of_ble_eq_true rfl) rfl rfl (fun v h2 hq => ?_) (fun r h2 hq => by obtain ⟨hq, _⟩ := hq; cases hq)
  obtain ⟨hq2, hs2, hI2⟩ := hq
  cases hq2
  refine w_icmp_eq 1036 (zat TL_law_1 23 rfl) (by decide) (fun Hc239 => ?_) (fun Hc239 => ?_)
  · exact K h2 hI2 hs2
  · exact absurd rfl Hc239
theorem cs_border (l : Launch) (Q : zO → zH → Prop) (h : zH) (hI : Inv h) (i L : Nat) (hL : zN h 999 0 = L) (hi : i + 6 ≤ L) (hB : L ≤ 3072) (K : ∀ h2, Inv h2 → Sc h h2 → Wp l mL_law 41 1036 [some (Vq (some (999, 0))), some (Vq (some (0, 0))), some (Vq (some (1, 0))), some (Vi (nI i))] [] h2 Q) : Wp l mL_law 41 244 [some (Vq (some (999, 0))), some (Vq (some (0, 0))), some (Vq (some (1, 0))), some (Vi (nI i))] [] h Q := by
  refine w_aload_n (zat TL_law_1 26 rfl) rfl ?_
  refine w_aload_n (zat TL_law_1 27 rfl) rfl ?_
  refine w_iload_n (zat TL_law_1 28 rfl) rfl ?_
  refine w_iconst (v := 1) (zat TL_law_1 29 rfl) (by decide) ?_
  refine w_iadd (zat TL_law_1 30 rfl) ?_
  refine w_sld _ (nI_add i 1) (by rw [hL]; omega) (by rw [hL]; omega) (zat TL_law_1 31 rfl) ?_
  refine w_aload_n (zat TL_law_1 32 rfl) rfl ?_
  refine w_iload_n (zat TL_law_1 33 rfl) rfl ?_
  refine w_iconst (v := 2) (zat TL_law_1 34 rfl) (by decide) ?_
  refine w_iadd (zat TL_law_1 35 rfl) ?_
  refine w_sld _ (nI_add i 2) (by rw [hL]; omega) (by rw [hL]; omega) (zat TL_law_1 36 rfl) ?_
  refine w_aload_n (zat TL_law_1 37 rfl) rfl ?_
  refine w_iload_n (zat TL_law_1 38 rfl) rfl ?_
  refine w_iconst (v := 3) (zat TL_law_1 39 rfl) (by decide) ?_
  refine w_iadd (zat TL_law_1 40 rfl) ?_
  refine w_sld _ (nI_add i 3) (by rw [hL]; omega) (by rw [hL]; omega) (zat TL_law_1 41 rfl) ?_
  obtain ⟨dc, hdc, hP⟩ := Pq.of (pr_border l h hI (zI h 999 0 (i + 1)) (zI h 999 0 (i + 2)) (zI h 999 0 (i + 3))) (by decide) (by decide)
  refine x_call4 (hP) (by omega) kX11_border (rdy_V (zat TL_law_1 42 rfl) kX11_border pX11_border zw409 zw410 zw411 (zrc (by decide) (by decide) rfl)) (Nat.le_of_ble_eq_true rfl) rfl rfl (fun v h1 hq => ?_) (fun r h1 hq => by obtain ⟨_, hq, _⟩ := hq; cases hq)
  obtain ⟨v1, hq1, hk1, hs1, dm, hdm, hM⟩ := hq
  cases hq1
  obtain ⟨x1, rfl⟩ := kd_I hk1 (Or.inl rfl)
  have hL1 : zN h1 999 0 = L := hs1.2.trans hL
  refine w_aload_n (zat TL_law_1 43 rfl) rfl ?_
  refine w_aload_n (zat TL_law_1 44 rfl) rfl ?_
  refine w_iload_n (zat TL_law_1 45 rfl) rfl ?_
  refine w_iconst (v := 1) (zat TL_law_1 46 rfl) (by decide) ?_
  refine w_iadd (zat TL_law_1 47 rfl) ?_
  refine w_sld _ (nI_add i 1) (by rw [hL1]; omega) (by rw [hL1]; omega) (zat TL_law_1 48 rfl) ?_
  refine w_aload_n (zat TL_law_1 49 rfl) rfl ?_
  refine w_iload_n (zat TL_law_1 50 rfl) rfl ?_
  refine w_iconst (v := 2) (zat TL_law_1 51 rfl) (by decide) ?_
  refine w_iadd (zat TL_law_1 52 rfl) ?_
  refine w_sld _ (nI_add i 2) (by rw [hL1]; omega) (by rw [hL1]; omega) (zat TL_law_1 53 rfl) ?_
  refine w_aload_n (zat TL_law_1 54 rfl) rfl ?_
  refine w_iload_n (zat TL_law_1 55 rfl) rfl ?_
  refine w_iconst (v := 3) (zat TL_law_1 56 rfl) (by decide) ?_
  refine w_iadd (zat TL_law_1 57 rfl) ?_
  refine w_sld _ (nI_add i 3) (by rw [hL1]; omega) (by rw [hL1]; omega) (zat TL_law_1 58 rfl) ?_
  rw [hs1.1]
  refine x_call4 (hM) (by omega) kX14_border (rdy_V (zat TL_law_1 59 rfl) kX14_border pX14_border zw1212 zw1213 zw1214 (zrc (by decide) (by decide) rfl)) (Nat.le_of_ble_eq_true rfl) rfl rfl (fun v h2 hq => ?_) (fun r h2 hq => by obtain ⟨hq, _⟩ := hq; cases hq)
  obtain ⟨hq2, hs2, hI2⟩ := hq
  cases hq2
  refine w_icmp_eq 1036 (zat TL_law_2 0 rfl) (by decide) (fun Hc282 => ?_) (fun Hc282 => ?_)
  · exact K h2 hI2 hs2
  · exact absurd rfl Hc282
theorem cs_guard (l : Launch) (Q : zO → zH → Prop) (h : zH) (hI : Inv h) (i L : Nat) (hL : zN h 999 0 = L) (hi : i + 6 ≤ L) (hB : L ≤ 3072) (K : ∀ h2, Inv h2 → Sc h h2 → Wp l mL_law 41 1036 [some (Vq (some (999, 0))), some (Vq (some (0, 0))), some (Vq (some (1, 0))), some (Vi (nI i))] [] h2 Q) : Wp l mL_law 41 287 [some (Vq (some (999, 0))), some (Vq (some (0, 0))), some (Vq (some (1, 0))), some (Vi (nI i))] [] h Q := by
  refine w_aload_n (zat TL_law_2 3 rfl) rfl ?_
  refine w_aload_n (zat TL_law_2 4 rfl) rfl ?_
  refine w_iload_n (zat TL_law_2 5 rfl) rfl ?_
  refine w_iconst (v := 1) (zat TL_law_2 6 rfl) (by decide) ?_
  refine w_iadd (zat TL_law_2 7 rfl) ?_
  refine w_sld _ (nI_add i 1) (by rw [hL]; omega) (by rw [hL]; omega) (zat TL_law_2 8 rfl) ?_
  refine w_aload_n (zat TL_law_2 9 rfl) rfl ?_
  refine w_iload_n (zat TL_law_2 10 rfl) rfl ?_
  refine w_iconst (v := 2) (zat TL_law_2 11 rfl) (by decide) ?_
  refine w_iadd (zat TL_law_2 12 rfl) ?_
  refine w_sld _ (nI_add i 2) (by rw [hL]; omega) (by rw [hL]; omega) (zat TL_law_2 13 rfl) ?_
  obtain ⟨dc, hdc, hP⟩ := Pq.of (pr_guard l h hI (zI h 999 0 (i + 1)) (zI h 999 0 (i + 2))) (by decide) (by decide)
  refine x_call3 (hP) (by omega) kX11_guard (rdy_V (zat TL_law_2 14 rfl) kX11_guard pX11_guard zw435 zw436 zw437 (zrc (by decide) (by decide) rfl)) (Nat.le_of_ble_eq_true rfl) rfl rfl (fun v h1 hq => ?_) (fun r h1 hq => by obtain ⟨_, hq, _⟩ := hq; cases hq)
  obtain ⟨v1, hq1, hk1, hs1, dm, hdm, hM⟩ := hq
  cases hq1
  obtain ⟨x1, rfl⟩ := kd_I hk1 (Or.inr rfl)
  have hL1 : zN h1 999 0 = L := hs1.2.trans hL
  refine w_aload_n (zat TL_law_2 15 rfl) rfl ?_
  refine w_aload_n (zat TL_law_2 16 rfl) rfl ?_
  refine w_iload_n (zat TL_law_2 17 rfl) rfl ?_
  refine w_iconst (v := 1) (zat TL_law_2 18 rfl) (by decide) ?_
  refine w_iadd (zat TL_law_2 19 rfl) ?_
  refine w_sld _ (nI_add i 1) (by rw [hL1]; omega) (by rw [hL1]; omega) (zat TL_law_2 20 rfl) ?_
  refine w_aload_n (zat TL_law_2 21 rfl) rfl ?_
  refine w_iload_n (zat TL_law_2 22 rfl) rfl ?_
  refine w_iconst (v := 2) (zat TL_law_2 23 rfl) (by decide) ?_
  refine w_iadd (zat TL_law_2 24 rfl) ?_
  refine w_sld _ (nI_add i 2) (by rw [hL1]; omega) (by rw [hL1]; omega) (zat TL_law_2 25 rfl) ?_
  rw [hs1.1]
  refine x_call3 (hM) (by omega) kX14_guard (rdy_V (zat TL_law_2 26 rfl) kX14_guard pX14_guard zw1216 zw1217 zw1218 (zrc (by decide) (by decide) rfl)) (Nat.le_of_ble_eq_true rfl) rfl rfl (fun v h2 hq => ?_) (fun r h2 hq => by obtain ⟨hq, _⟩ := hq; cases hq)
  obtain ⟨hq2, hs2, hI2⟩ := hq
  cases hq2
  refine w_icmp_eq 1036 (zat TL_law_2 27 rfl) (by decide) (fun Hc315 => ?_) (fun Hc315 => ?_)
  · exact K h2 hI2 hs2
  · exact absurd rfl Hc315
theorem cs_weight (l : Launch) (Q : zO → zH → Prop) (h : zH) (hI : Inv h) (i L : Nat) (hL : zN h 999 0 = L) (hi : i + 6 ≤ L) (hB : L ≤ 3072) (K : ∀ h2, Inv h2 → Sc h h2 → Wp l mL_law 41 1036 [some (Vq (some (999, 0))), some (Vq (some (0, 0))), some (Vq (some (1, 0))), some (Vi (nI i))] [] h2 Q) : Wp l mL_law 41 320 [some (Vq (some (999, 0))), some (Vq (some (0, 0))), some (Vq (some (1, 0))), some (Vi (nI i))] [] h Q := by
  refine w_aload_n (zat TL_law_2 30 rfl) rfl ?_
  refine w_aload_n (zat TL_law_2 31 rfl) rfl ?_
  refine w_iload_n (zat TL_law_2 32 rfl) rfl ?_
  refine w_iconst (v := 1) (zat TL_law_2 33 rfl) (by decide) ?_
  refine w_iadd (zat TL_law_2 34 rfl) ?_
  refine w_sld _ (nI_add i 1) (by rw [hL]; omega) (by rw [hL]; omega) (zat TL_law_2 35 rfl) ?_
  obtain ⟨dc, hdc, hP⟩ := Pq.of (pr_weight l h hI (zI h 999 0 (i + 1))) (by decide) (by decide)
  refine x_call2 (hP) (by omega) kX11_weight (rdy_V (zat TL_law_2 36 rfl) kX11_weight pX11_weight zw443 zw444 zw445 (zrc (by decide) (by decide) rfl)) (Nat.le_of_ble_eq_true rfl) rfl rfl (fun v h1 hq => ?_) (fun r h1 hq => by obtain ⟨_, hq, _⟩ := hq; cases hq)
  obtain ⟨v1, hq1, hk1, hs1, dm, hdm, hM⟩ := hq
  cases hq1
  obtain ⟨x1, rfl⟩ := kd_I hk1 (Or.inr rfl)
  have hL1 : zN h1 999 0 = L := hs1.2.trans hL
  refine w_aload_n (zat TL_law_2 37 rfl) rfl ?_
  refine w_aload_n (zat TL_law_2 38 rfl) rfl ?_
  refine w_iload_n (zat TL_law_2 39 rfl) rfl ?_
  refine w_iconst (v := 1) (zat TL_law_2 40 rfl) (by decide) ?_
  refine w_iadd (zat TL_law_2 41 rfl) ?_
  refine w_sld _ (nI_add i 1) (by rw [hL1]; omega) (by rw [hL1]; omega) (zat TL_law_2 42 rfl) ?_
  rw [hs1.1]
  refine x_call2 (hM) (by omega) kX14_weight (rdy_V (zat TL_law_2 43 rfl) kX14_weight pX14_weight zw1224 zw1225 zw1226 (zrc (by decide) (by decide) rfl)) (Nat.le_of_ble_eq_true rfl) rfl rfl (fun v h2 hq => ?_) (fun r h2 hq => by obtain ⟨hq, _⟩ := hq; cases hq)
  obtain ⟨hq2, hs2, hI2⟩ := hq
  cases hq2
  refine w_icmp_eq 1036 (zat TL_law_2 44 rfl) (by decide) (fun Hc338 => ?_) (fun Hc338 => ?_)
  · exact K h2 hI2 hs2
  · exact absurd rfl Hc338
theorem cs_feed (l : Launch) (Q : zO → zH → Prop) (h : zH) (hI : Inv h) (i L : Nat) (hL : zN h 999 0 = L) (hi : i + 6 ≤ L) (hB : L ≤ 3072) (K : ∀ h2, Inv h2 → Sc h h2 → Wp l mL_law 41 1036 [some (Vq (some (999, 0))), some (Vq (some (0, 0))), some (Vq (some (1, 0))), some (Vi (nI i))] [] h2 Q) : Wp l mL_law 41 343 [some (Vq (some (999, 0))), some (Vq (some (0, 0))), some (Vq (some (1, 0))), some (Vi (nI i))] [] h Q := by
  refine w_aload_n (zat TL_law_2 47 rfl) rfl ?_
  refine w_aload_n (zat TL_law_2 48 rfl) rfl ?_
  refine w_iload_n (zat TL_law_2 49 rfl) rfl ?_
  refine w_iconst (v := 1) (zat TL_law_2 50 rfl) (by decide) ?_
  refine w_iadd (zat TL_law_2 51 rfl) ?_
  refine w_sld _ (nI_add i 1) (by rw [hL]; omega) (by rw [hL]; omega) (zat TL_law_2 52 rfl) ?_
  refine w_aload_n (zat TL_law_2 53 rfl) rfl ?_
  refine w_iload_n (zat TL_law_2 54 rfl) rfl ?_
  refine w_iconst (v := 2) (zat TL_law_2 55 rfl) (by decide) ?_
  refine w_iadd (zat TL_law_2 56 rfl) ?_
  refine w_sld _ (nI_add i 2) (by rw [hL]; omega) (by rw [hL]; omega) (zat TL_law_2 57 rfl) ?_
  refine w_aload_n (zat TL_law_2 58 rfl) rfl ?_
  refine w_iload_n (zat TL_law_2 59 rfl) rfl ?_
  refine w_iconst (v := 3) (zat TL_law_3 0 rfl) (by decide) ?_
  refine w_iadd (zat TL_law_3 1 rfl) ?_
  refine w_sld _ (nI_add i 3) (by rw [hL]; omega) (by rw [hL]; omega) (zat TL_law_3 2 rfl) ?_
  refine w_aload_n (zat TL_law_3 3 rfl) rfl ?_
  refine w_iload_n (zat TL_law_3 4 rfl) rfl ?_
  refine w_iconst (v := 4) (zat TL_law_3 5 rfl) (by decide) ?_
  refine w_iadd (zat TL_law_3 6 rfl) ?_
  refine w_sld _ (nI_add i 4) (by rw [hL]; omega) (by rw [hL]; omega) (zat TL_law_3 7 rfl) ?_
  refine w_aload_n (zat TL_law_3 8 rfl) rfl ?_
  refine w_iload_n (zat TL_law_3 9 rfl) rfl ?_
  refine w_iconst (v := 5) (zat TL_law_3 10 rfl) (by decide) ?_
  refine w_iadd (zat TL_law_3 11 rfl) ?_
  refine w_sld _ (nI_add i 5) (by rw [hL]; omega) (by rw [hL]; omega) (zat TL_law_3 12 rfl) ?_
  obtain ⟨dc, hdc, hP⟩ := Pq.of (pr_feed l h hI (zI h 999 0 (i + 1)) (zI h 999 0 (i + 2)) (zI h 999 0 (i + 3)) (zI h 999 0 (i + 4)) (zI h 999 0 (i + 5))) (by decide) (by decide)
  refine x_call6 (hP) (by omega) kX11_feed (rdy_V (zat TL_law_3 13 rfl) kX11_feed pX11_feed zw447 zw448 zw449 (zrc (by decide) (by decide) rfl)) (Nat.le_of_ble_eq_true rfl) rfl rfl (fun v h1 hq => ?_) (fun r h1 hq => by obtain ⟨_, hq, _⟩ := hq; cases hq)
  obtain ⟨v1, hq1, hk1, hs1, dm, hdm, hM⟩ := hq
  cases hq1
  obtain ⟨x1, rfl⟩ := kd_I hk1 (Or.inl rfl)
  have hL1 : zN h1 999 0 = L := hs1.2.trans hL
  refine w_aload_n (zat TL_law_3 14 rfl) rfl ?_
  refine w_aload_n (zat TL_law_3 15 rfl) rfl ?_
  refine w_iload_n (zat TL_law_3 16 rfl) rfl ?_
  refine w_iconst (v := 1) (zat TL_law_3 17 rfl) (by decide) ?_
  refine w_iadd (zat TL_law_3 18 rfl) ?_
  refine w_sld _ (nI_add i 1) (by rw [hL1]; omega) (by rw [hL1]; omega) (zat TL_law_3 19 rfl) ?_
  refine w_aload_n (zat TL_law_3 20 rfl) rfl ?_
  refine w_iload_n (zat TL_law_3 21 rfl) rfl ?_
  refine w_iconst (v := 2) (zat TL_law_3 22 rfl) (by decide) ?_
  refine w_iadd (zat TL_law_3 23 rfl) ?_
  refine w_sld _ (nI_add i 2) (by rw [hL1]; omega) (by rw [hL1]; omega) (zat TL_law_3 24 rfl) ?_
  refine w_aload_n (zat TL_law_3 25 rfl) rfl ?_
  refine w_iload_n (zat TL_law_3 26 rfl) rfl ?_
  refine w_iconst (v := 3) (zat TL_law_3 27 rfl) (by decide) ?_
  refine w_iadd (zat TL_law_3 28 rfl) ?_
  refine w_sld _ (nI_add i 3) (by rw [hL1]; omega) (by rw [hL1]; omega) (zat TL_law_3 29 rfl) ?_
  refine w_aload_n (zat TL_law_3 30 rfl) rfl ?_
  refine w_iload_n (zat TL_law_3 31 rfl) rfl ?_
  refine w_iconst (v := 4) (zat TL_law_3 32 rfl) (by decide) ?_
  refine w_iadd (zat TL_law_3 33 rfl) ?_
  refine w_sld _ (nI_add i 4) (by rw [hL1]; omega) (by rw [hL1]; omega) (zat TL_law_3 34 rfl) ?_
  refine w_aload_n (zat TL_law_3 35 rfl) rfl ?_
  refine w_iload_n (zat TL_law_3 36 rfl) rfl ?_
  refine w_iconst (v := 5) (zat TL_law_3 37 rfl) (by decide) ?_
  refine w_iadd (zat TL_law_3 38 rfl) ?_
  refine w_sld _ (nI_add i 5) (by rw [hL1]; omega) (by rw [hL1]; omega) (zat TL_law_3 39 rfl) ?_
  rw [hs1.1]
  refine x_call6 (hM) (by omega) kX14_feed (rdy_V (zat TL_law_3 40 rfl) kX14_feed pX14_feed zw1228 zw1229 zw1230 (zrc (by decide) (by decide) rfl)) (Nat.le_of_ble_eq_true rfl) rfl rfl (fun v h2 hq => ?_) (fun r h2 hq => by obtain ⟨hq, _⟩ := hq; cases hq)
  obtain ⟨hq2, hs2, hI2⟩ := hq
  cases hq2
  refine w_icmp_eq 1036 (zat TL_law_3 41 rfl) (by decide) (fun Hc401 => ?_) (fun Hc401 => ?_)
  · exact K h2 hI2 hs2
  · exact absurd rfl Hc401
theorem cs_edict (l : Launch) (Q : zO → zH → Prop) (h : zH) (hI : Inv h) (i L : Nat) (hL : zN h 999 0 = L) (hi : i + 6 ≤ L) (hB : L ≤ 3072) (K : ∀ h2, Inv h2 → Sc h h2 → Wp l mL_law 41 1036 [some (Vq (some (999, 0))), some (Vq (some (0, 0))), some (Vq (some (1, 0))), some (Vi (nI i))] [] h2 Q) : Wp l mL_law 41 406 [some (Vq (some (999, 0))), some (Vq (some (0, 0))), some (Vq (some (1, 0))), some (Vi (nI i))] [] h Q := by
  refine w_aload_n (zat TL_law_3 44 rfl) rfl ?_
  refine w_aload_n (zat TL_law_3 45 rfl) rfl ?_
  refine w_iload_n (zat TL_law_3 46 rfl) rfl ?_
  refine w_iconst (v := 1) (zat TL_law_3 47 rfl) (by decide) ?_
  refine w_iadd (zat TL_law_3 48 rfl) ?_
  refine w_sld _ (nI_add i 1) (by rw [hL]; omega) (by rw [hL]; omega) (zat TL_law_3 49 rfl) ?_
  refine w_aload_n (zat TL_law_3 50 rfl) rfl ?_
  refine w_iload_n (zat TL_law_3 51 rfl) rfl ?_
  refine w_iconst (v := 2) (zat TL_law_3 52 rfl) (by decide) ?_
  refine w_iadd (zat TL_law_3 53 rfl) ?_
  refine w_sld _ (nI_add i 2) (by rw [hL]; omega) (by rw [hL]; omega) (zat TL_law_3 54 rfl) ?_
  refine w_aload_n (zat TL_law_3 55 rfl) rfl ?_
  refine w_iload_n (zat TL_law_3 56 rfl) rfl ?_
  refine w_iconst (v := 3) (zat TL_law_3 57 rfl) (by decide) ?_
  refine w_iadd (zat TL_law_3 58 rfl) ?_
  refine w_sld _ (nI_add i 3) (by rw [hL]; omega) (by rw [hL]; omega) (zat TL_law_3 59 rfl) ?_
  obtain ⟨dc, hdc, hP⟩ := pr_edict l h hI (zI h 999 0 (i + 1)) (zI h 999 0 (i + 2)) (zI h 999 0 (i + 3))
  refine x_call4 (hP) (by omega) kX11_edict (rdy_V (zat TL_law_4 0 rfl) kX11_edict pX11_edict zw459 zw460 zw461 (zrc (by decide) (by decide) rfl)) (Nat.le_of_ble_eq_true rfl) rfl rfl (fun v h1 hq => ?_) (fun r h1 hq => by obtain ⟨_, hq, _⟩ := hq; cases hq)
  obtain ⟨v1, hq1, hk1, hs1, dm, hdm, hM⟩ := hq
  cases hq1
  obtain ⟨x1, rfl⟩ := kd_I hk1 (Or.inl rfl)
  have hL1 : zN h1 999 0 = L := hs1.2.trans hL
  refine w_aload_n (zat TL_law_4 1 rfl) rfl ?_
  refine w_aload_n (zat TL_law_4 2 rfl) rfl ?_
  refine w_iload_n (zat TL_law_4 3 rfl) rfl ?_
  refine w_iconst (v := 1) (zat TL_law_4 4 rfl) (by decide) ?_
  refine w_iadd (zat TL_law_4 5 rfl) ?_
  refine w_sld _ (nI_add i 1) (by rw [hL1]; omega) (by rw [hL1]; omega) (zat TL_law_4 6 rfl) ?_
  refine w_aload_n (zat TL_law_4 7 rfl) rfl ?_
  refine w_iload_n (zat TL_law_4 8 rfl) rfl ?_
  refine w_iconst (v := 2) (zat TL_law_4 9 rfl) (by decide) ?_
  refine w_iadd (zat TL_law_4 10 rfl) ?_
  refine w_sld _ (nI_add i 2) (by rw [hL1]; omega) (by rw [hL1]; omega) (zat TL_law_4 11 rfl) ?_
  refine w_aload_n (zat TL_law_4 12 rfl) rfl ?_
  refine w_iload_n (zat TL_law_4 13 rfl) rfl ?_
  refine w_iconst (v := 3) (zat TL_law_4 14 rfl) (by decide) ?_
  refine w_iadd (zat TL_law_4 15 rfl) ?_
  refine w_sld _ (nI_add i 3) (by rw [hL1]; omega) (by rw [hL1]; omega) (zat TL_law_4 16 rfl) ?_
  rw [hs1.1]
  refine x_call4 (hM) (by omega) kX14_edict (rdy_V (zat TL_law_4 17 rfl) kX14_edict pX14_edict zw1232 zw1233 zw1234 (zrc (by decide) (by decide) rfl)) (Nat.le_of_ble_eq_true rfl) rfl rfl (fun v h2 hq => ?_) (fun r h2 hq => by obtain ⟨hq, _⟩ := hq; cases hq)
  obtain ⟨hq2, hs2, hI2⟩ := hq
  cases hq2
  refine w_icmp_eq 1036 (zat TL_law_4 18 rfl) (by decide) (fun Hc444 => ?_) (fun Hc444 => ?_)
  · exact K h2 hI2 hs2
  · exact absurd rfl Hc444
theorem cs_fault (l : Launch) (Q : zO → zH → Prop) (h : zH) (hI : Inv h) (i L : Nat) (hL : zN h 999 0 = L) (hi : i + 6 ≤ L) (hB : L ≤ 3072) (K : ∀ h2, Inv h2 → Sc h h2 → Wp l mL_law 41 1036 [some (Vq (some (999, 0))), some (Vq (some (0, 0))), some (Vq (some (1, 0))), some (Vi (nI i))] [] h2 Q) : Wp l mL_law 41 449 [some (Vq (some (999, 0))), some (Vq (some (0, 0))), some (Vq (some (1, 0))), some (Vi (nI i))] [] h Q := by
  refine w_aload_n (zat TL_law_4 21 rfl) rfl ?_
  obtain ⟨dc, hdc, hP⟩ := Pq.of (pr_fault l h hI ) (by decide) (by decide)
  refine x_call1 (hP) (by omega) kX11_fault (rdy_V (zat TL_law_4 22 rfl) kX11_fault pX11_fault zw633 zw634 zw635 (zrc (by decide) (by decide) rfl)) (Nat.le_of_ble_eq_true rfl) rfl rfl (fun v h1 hq => ?_) (fun r h1 hq => by obtain ⟨_, hq, _⟩ := hq; cases hq)
  obtain ⟨v1, hq1, hk1, hs1, dm, hdm, hM⟩ := hq
  cases hq1
  obtain ⟨x1, rfl⟩ := kd_I hk1 (Or.inl rfl)
  have hL1 : zN h1 999 0 = L := hs1.2.trans hL
  refine w_aload_n (zat TL_law_4 23 rfl) rfl ?_
  refine x_call1 (hM) (by omega) kX14_fault (rdy_V (zat TL_law_4 24 rfl) kX14_fault pX14_fault zw1309 zw1310 zw1311 (zrc (by decide) (by decide) rfl)) (Nat.le_of_ble_eq_true rfl) rfl rfl (fun v h2 hq => ?_) (fun r h2 hq => by obtain ⟨hq, _⟩ := hq; cases hq)
  obtain ⟨hq2, hs2, hI2⟩ := hq
  cases hq2
  refine w_icmp_eq 1036 (zat TL_law_4 25 rfl) (by decide) (fun Hc457 => ?_) (fun Hc457 => ?_)
  · exact K h2 hI2 hs2
  · exact absurd rfl Hc457
theorem cs_where (l : Launch) (Q : zO → zH → Prop) (h : zH) (hI : Inv h) (i L : Nat) (hL : zN h 999 0 = L) (hi : i + 6 ≤ L) (hB : L ≤ 3072) (K : ∀ h2, Inv h2 → Sc h h2 → Wp l mL_law 41 1036 [some (Vq (some (999, 0))), some (Vq (some (0, 0))), some (Vq (some (1, 0))), some (Vi (nI i))] [] h2 Q) : Wp l mL_law 41 462 [some (Vq (some (999, 0))), some (Vq (some (0, 0))), some (Vq (some (1, 0))), some (Vi (nI i))] [] h Q := by
  refine w_aload_n (zat TL_law_4 28 rfl) rfl ?_
  obtain ⟨dc, hdc, hP⟩ := Pq.of (pr_where l h hI ) (by decide) (by decide)
  refine x_call1 (hP) (by omega) kX11_where (rdy_V (zat TL_law_4 29 rfl) kX11_where pX11_where zw637 zw638 zw639 (zrc (by decide) (by decide) rfl)) (Nat.le_of_ble_eq_true rfl) rfl rfl (fun v h1 hq => ?_) (fun r h1 hq => by obtain ⟨_, hq, _⟩ := hq; cases hq)
  obtain ⟨v1, hq1, hk1, hs1, dm, hdm, hM⟩ := hq
  cases hq1
  obtain ⟨x1, rfl⟩ := kd_I hk1 (Or.inl rfl)
  have hL1 : zN h1 999 0 = L := hs1.2.trans hL
  refine w_aload_n (zat TL_law_4 30 rfl) rfl ?_
  refine x_call1 (hM) (by omega) kX14_where (rdy_V (zat TL_law_4 31 rfl) kX14_where pX14_where zw1313 zw1314 zw1315 (zrc (by decide) (by decide) rfl)) (Nat.le_of_ble_eq_true rfl) rfl rfl (fun v h2 hq => ?_) (fun r h2 hq => by obtain ⟨hq, _⟩ := hq; cases hq)
  obtain ⟨hq2, hs2, hI2⟩ := hq
  cases hq2
  refine w_icmp_eq 1036 (zat TL_law_4 32 rfl) (by decide) (fun Hc470 => ?_) (fun Hc470 => ?_)
  · exact K h2 hI2 hs2
  · exact absurd rfl Hc470
theorem cs_force (l : Launch) (Q : zO → zH → Prop) (h : zH) (hI : Inv h) (i L : Nat) (hL : zN h 999 0 = L) (hi : i + 6 ≤ L) (hB : L ≤ 3072) (K : ∀ h2, Inv h2 → Sc h h2 → Wp l mL_law 41 1036 [some (Vq (some (999, 0))), some (Vq (some (0, 0))), some (Vq (some (1, 0))), some (Vi (nI i))] [] h2 Q) : Wp l mL_law 41 475 [some (Vq (some (999, 0))), some (Vq (some (0, 0))), some (Vq (some (1, 0))), some (Vi (nI i))] [] h Q := by
  refine w_aload_n (zat TL_law_4 35 rfl) rfl ?_
  refine w_aload_n (zat TL_law_4 36 rfl) rfl ?_
  refine w_iload_n (zat TL_law_4 37 rfl) rfl ?_
  refine w_iconst (v := 1) (zat TL_law_4 38 rfl) (by decide) ?_
  refine w_iadd (zat TL_law_4 39 rfl) ?_
  refine w_sld _ (nI_add i 1) (by rw [hL]; omega) (by rw [hL]; omega) (zat TL_law_4 40 rfl) ?_
  refine w_aload_n (zat TL_law_4 41 rfl) rfl ?_
  refine w_iload_n (zat TL_law_4 42 rfl) rfl ?_
  refine w_iconst (v := 2) (zat TL_law_4 43 rfl) (by decide) ?_
  refine w_iadd (zat TL_law_4 44 rfl) ?_
  refine w_sld _ (nI_add i 2) (by rw [hL]; omega) (by rw [hL]; omega) (zat TL_law_4 45 rfl) ?_
  obtain ⟨dc, hdc, hP⟩ := Pq.of (pr_force l h hI (zI h 999 0 (i + 1)) (zI h 999 0 (i + 2))) (by decide) (by decide)
  refine x_call3 (hP) (by omega) kX11_force (rdy_V (zat TL_law_4 46 rfl) kX11_force pX11_force zw641 zw642 zw643 (zrc (by decide) (by decide) rfl)) (Nat.le_of_ble_eq_true rfl) rfl rfl (fun v h1 hq => ?_) (fun r h1 hq => by obtain ⟨_, hq, _⟩ := hq; cases hq)
  obtain ⟨v1, hq1, hk1, hs1, dm, hdm, hM⟩ := hq
  cases hq1
  obtain ⟨x1, rfl⟩ := kd_I hk1 (Or.inl rfl)
  have hL1 : zN h1 999 0 = L := hs1.2.trans hL
  refine w_aload_n (zat TL_law_4 47 rfl) rfl ?_
  refine w_aload_n (zat TL_law_4 48 rfl) rfl ?_
  refine w_iload_n (zat TL_law_4 49 rfl) rfl ?_
  refine w_iconst (v := 1) (zat TL_law_4 50 rfl) (by decide) ?_
  refine w_iadd (zat TL_law_4 51 rfl) ?_
  refine w_sld _ (nI_add i 1) (by rw [hL1]; omega) (by rw [hL1]; omega) (zat TL_law_4 52 rfl) ?_
  refine w_aload_n (zat TL_law_4 53 rfl) rfl ?_
  refine w_iload_n (zat TL_law_4 54 rfl) rfl ?_
  refine w_iconst (v := 2) (zat TL_law_4 55 rfl) (by decide) ?_
  refine w_iadd (zat TL_law_4 56 rfl) ?_
  refine w_sld _ (nI_add i 2) (by rw [hL1]; omega) (by rw [hL1]; omega) (zat TL_law_4 57 rfl) ?_
  rw [hs1.1]
  refine x_call3 (hM) (by omega) kX14_force (rdy_V (zat TL_law_4 58 rfl) kX14_force pX14_force zw1317 zw1318 zw1319 (zrc (by decide) (by decide) rfl)) (Nat.le_of_ble_eq_true rfl) rfl rfl (fun v h2 hq => ?_) (fun r h2 hq => by obtain ⟨hq, _⟩ := hq; cases hq)
  obtain ⟨hq2, hs2, hI2⟩ := hq
  cases hq2
  refine w_icmp_eq 1036 (zat TL_law_4 59 rfl) (by decide) (fun Hc503 => ?_) (fun Hc503 => ?_)
  · exact K h2 hI2 hs2
  · exact absurd rfl Hc503
theorem cs_price (l : Launch) (Q : zO → zH → Prop) (h : zH) (hI : Inv h) (i L : Nat) (hL : zN h 999 0 = L) (hi : i + 6 ≤ L) (hB : L ≤ 3072) (K : ∀ h2, Inv h2 → Sc h h2 → Wp l mL_law 41 1036 [some (Vq (some (999, 0))), some (Vq (some (0, 0))), some (Vq (some (1, 0))), some (Vi (nI i))] [] h2 Q) : Wp l mL_law 41 508 [some (Vq (some (999, 0))), some (Vq (some (0, 0))), some (Vq (some (1, 0))), some (Vi (nI i))] [] h Q := by
  refine w_aload_n (zat TL_law_5 2 rfl) rfl ?_
  refine w_aload_n (zat TL_law_5 3 rfl) rfl ?_
  refine w_iload_n (zat TL_law_5 4 rfl) rfl ?_
  refine w_iconst (v := 1) (zat TL_law_5 5 rfl) (by decide) ?_
  refine w_iadd (zat TL_law_5 6 rfl) ?_
  refine w_sld _ (nI_add i 1) (by rw [hL]; omega) (by rw [hL]; omega) (zat TL_law_5 7 rfl) ?_
  refine w_aload_n (zat TL_law_5 8 rfl) rfl ?_
  refine w_iload_n (zat TL_law_5 9 rfl) rfl ?_
  refine w_iconst (v := 2) (zat TL_law_5 10 rfl) (by decide) ?_
  refine w_iadd (zat TL_law_5 11 rfl) ?_
  refine w_sld _ (nI_add i 2) (by rw [hL]; omega) (by rw [hL]; omega) (zat TL_law_5 12 rfl) ?_
  refine w_aload_n (zat TL_law_5 13 rfl) rfl ?_
  refine w_iload_n (zat TL_law_5 14 rfl) rfl ?_
  refine w_iconst (v := 3) (zat TL_law_5 15 rfl) (by decide) ?_
  refine w_iadd (zat TL_law_5 16 rfl) ?_
  refine w_sld _ (nI_add i 3) (by rw [hL]; omega) (by rw [hL]; omega) (zat TL_law_5 17 rfl) ?_
  refine w_if_eq 531 (zat TL_law_5 18 rfl) (by decide) (fun Hc524 => ?_) (fun Hc524 => ?_)
  · refine w_iconst (v := 0) (zat TL_law_5 21 rfl) (by decide) ?_
    obtain ⟨dc, hdc, hP⟩ := pr_price l h hI (zI h 999 0 (i + 1)) (zI h 999 0 (i + 2)) false
    refine x_call4 (hP) (by omega) kX11_price (rdy_V (zat TL_law_5 22 rfl) kX11_price pX11_price zw649 zw650 zw651 (zrc (by decide) (by decide) rfl)) (Nat.le_of_ble_eq_true rfl) rfl rfl (fun v h1 hq => ?_) (fun r h1 hq => by obtain ⟨_, hq, _⟩ := hq; cases hq)
    obtain ⟨v1, hq1, hk1, hs1, dm, hdm, hM⟩ := hq
    cases hq1
    obtain ⟨x1, rfl⟩ := kd_I hk1 (Or.inl rfl)
    have hL1 : zN h1 999 0 = L := hs1.2.trans hL
    refine w_aload_n (zat TL_law_5 23 rfl) rfl ?_
    refine w_aload_n (zat TL_law_5 24 rfl) rfl ?_
    refine w_iload_n (zat TL_law_5 25 rfl) rfl ?_
    refine w_iconst (v := 1) (zat TL_law_5 26 rfl) (by decide) ?_
    refine w_iadd (zat TL_law_5 27 rfl) ?_
    refine w_sld _ (nI_add i 1) (by rw [hL1]; omega) (by rw [hL1]; omega) (zat TL_law_5 28 rfl) ?_
    refine w_aload_n (zat TL_law_5 29 rfl) rfl ?_
    refine w_iload_n (zat TL_law_5 30 rfl) rfl ?_
    refine w_iconst (v := 2) (zat TL_law_5 31 rfl) (by decide) ?_
    refine w_iadd (zat TL_law_5 32 rfl) ?_
    refine w_sld _ (nI_add i 2) (by rw [hL1]; omega) (by rw [hL1]; omega) (zat TL_law_5 33 rfl) ?_
    refine w_aload_n (zat TL_law_5 34 rfl) rfl ?_
    refine w_iload_n (zat TL_law_5 35 rfl) rfl ?_
    refine w_iconst (v := 3) (zat TL_law_5 36 rfl) (by decide) ?_
    refine w_iadd (zat TL_law_5 37 rfl) ?_
    refine w_sld _ (nI_add i 3) (by rw [hL1]; omega) (by rw [hL1]; omega) (zat TL_law_5 38 rfl) ?_
    refine w_if_eq 558 (zat TL_law_5 39 rfl) (by decide) (fun Hc551 => ?_) (fun Hc551 => ?_)
    · refine w_iconst (v := 0) (zat TL_law_5 42 rfl) (by decide) ?_
      rw [hs1.1]
      refine x_call4 (hM) (by omega) kX14_price (rdy_V (zat TL_law_5 43 rfl) kX14_price pX14_price zw1325 zw1326 zw1327 (zrc (by decide) (by decide) rfl)) (Nat.le_of_ble_eq_true rfl) rfl rfl (fun v h2 hq => ?_) (fun r h2 hq => by obtain ⟨hq, _⟩ := hq; cases hq)
      obtain ⟨hq2, hs2, hI2⟩ := hq
      cases hq2
      refine w_icmp_eq 1036 (zat TL_law_5 44 rfl) (by decide) (fun Hc562 => ?_) (fun Hc562 => ?_)
      · exact K h2 hI2 hs2
      · exact absurd rfl Hc562
    · exact absurd ((congrFun hs1.1 (i + 3)).trans Hc524) Hc551
  · refine w_iconst (v := 1) (zat TL_law_5 19 rfl) (by decide) ?_
    refine w_goto 532 (zat TL_law_5 20 rfl) (by decide) ?_
    obtain ⟨dc, hdc, hP⟩ := pr_price l h hI (zI h 999 0 (i + 1)) (zI h 999 0 (i + 2)) true
    refine x_call4 (hP) (by omega) kX11_price (rdy_V (zat TL_law_5 22 rfl) kX11_price pX11_price zw649 zw650 zw651 (zrc (by decide) (by decide) rfl)) (Nat.le_of_ble_eq_true rfl) rfl rfl (fun v h1 hq => ?_) (fun r h1 hq => by obtain ⟨_, hq, _⟩ := hq; cases hq)
    obtain ⟨v1, hq1, hk1, hs1, dm, hdm, hM⟩ := hq
    cases hq1
    obtain ⟨x1, rfl⟩ := kd_I hk1 (Or.inl rfl)
    have hL1 : zN h1 999 0 = L := hs1.2.trans hL
    refine w_aload_n (zat TL_law_5 23 rfl) rfl ?_
    refine w_aload_n (zat TL_law_5 24 rfl) rfl ?_
    refine w_iload_n (zat TL_law_5 25 rfl) rfl ?_
    refine w_iconst (v := 1) (zat TL_law_5 26 rfl) (by decide) ?_
    refine w_iadd (zat TL_law_5 27 rfl) ?_
    refine w_sld _ (nI_add i 1) (by rw [hL1]; omega) (by rw [hL1]; omega) (zat TL_law_5 28 rfl) ?_
    refine w_aload_n (zat TL_law_5 29 rfl) rfl ?_
    refine w_iload_n (zat TL_law_5 30 rfl) rfl ?_
    refine w_iconst (v := 2) (zat TL_law_5 31 rfl) (by decide) ?_
    refine w_iadd (zat TL_law_5 32 rfl) ?_
    refine w_sld _ (nI_add i 2) (by rw [hL1]; omega) (by rw [hL1]; omega) (zat TL_law_5 33 rfl) ?_
    refine w_aload_n (zat TL_law_5 34 rfl) rfl ?_
    refine w_iload_n (zat TL_law_5 35 rfl) rfl ?_
    refine w_iconst (v := 3) (zat TL_law_5 36 rfl) (by decide) ?_
    refine w_iadd (zat TL_law_5 37 rfl) ?_
    refine w_sld _ (nI_add i 3) (by rw [hL1]; omega) (by rw [hL1]; omega) (zat TL_law_5 38 rfl) ?_
    refine w_if_eq 558 (zat TL_law_5 39 rfl) (by decide) (fun Hc551 => ?_) (fun Hc551 => ?_)
    · exact absurd ((congrFun hs1.1 (i + 3)).symm.trans Hc551) Hc524
    · refine w_iconst (v := 1) (zat TL_law_5 40 rfl) (by decide) ?_
      refine w_goto 559 (zat TL_law_5 41 rfl) (by decide) ?_
      rw [hs1.1]
      refine x_call4 (hM) (by omega) kX14_price (rdy_V (zat TL_law_5 43 rfl) kX14_price pX14_price zw1325 zw1326 zw1327 (zrc (by decide) (by decide) rfl)) (Nat.le_of_ble_eq_true rfl) rfl rfl (fun v h2 hq => ?_) (fun r h2 hq => by obtain ⟨hq, _⟩ := hq; cases hq)
      obtain ⟨hq2, hs2, hI2⟩ := hq
      cases hq2
      refine w_icmp_eq 1036 (zat TL_law_5 44 rfl) (by decide) (fun Hc562 => ?_) (fun Hc562 => ?_)
      · exact K h2 hI2 hs2
      · exact absurd rfl Hc562
theorem cs_brought (l : Launch) (Q : zO → zH → Prop) (h : zH) (hI : Inv h) (i L : Nat) (hL : zN h 999 0 = L) (hi : i + 6 ≤ L) (hB : L ≤ 3072) (K : ∀ h2, Inv h2 → Sc h h2 → Wp l mL_law 41 1036 [some (Vq (some (999, 0))), some (Vq (some (0, 0))), some (Vq (some (1, 0))), some (Vi (nI i))] [] h2 Q) : Wp l mL_law 41 567 [some (Vq (some (999, 0))), some (Vq (some (0, 0))), some (Vq (some (1, 0))), some (Vi (nI i))] [] h Q := by
  refine w_aload_n (zat TL_law_5 47 rfl) rfl ?_
  refine w_aload_n (zat TL_law_5 48 rfl) rfl ?_
  refine w_iload_n (zat TL_law_5 49 rfl) rfl ?_
  refine w_iconst (v := 1) (zat TL_law_5 50 rfl) (by decide) ?_
  refine w_iadd (zat TL_law_5 51 rfl) ?_
  refine w_sld _ (nI_add i 1) (by rw [hL]; omega) (by rw [hL]; omega) (zat TL_law_5 52 rfl) ?_
  refine w_aload_n (zat TL_law_5 53 rfl) rfl ?_
  refine w_iload_n (zat TL_law_5 54 rfl) rfl ?_
  refine w_iconst (v := 2) (zat TL_law_5 55 rfl) (by decide) ?_
  refine w_iadd (zat TL_law_5 56 rfl) ?_
  refine w_sld _ (nI_add i 2) (by rw [hL]; omega) (by rw [hL]; omega) (zat TL_law_5 57 rfl) ?_
  obtain ⟨dc, hdc, hP⟩ := pr_brought l h hI (zI h 999 0 (i + 1)) (zI h 999 0 (i + 2))
  refine x_call3 (hP) (by omega) kX11_brought (rdy_V (zat TL_law_5 58 rfl) kX11_brought pX11_brought zw700 zw701 zw702 (zrc (by decide) (by decide) rfl)) (Nat.le_of_ble_eq_true rfl) rfl rfl (fun v h1 hq => ?_) (fun r h1 hq => by obtain ⟨_, hq, _⟩ := hq; cases hq)
  obtain ⟨v1, hq1, hk1, hs1, dm, hdm, hM⟩ := hq
  cases hq1
  obtain ⟨x1, rfl⟩ := kd_I hk1 (Or.inl rfl)
  have hL1 : zN h1 999 0 = L := hs1.2.trans hL
  refine w_aload_n (zat TL_law_5 59 rfl) rfl ?_
  refine w_aload_n (zat TL_law_6 0 rfl) rfl ?_
  refine w_iload_n (zat TL_law_6 1 rfl) rfl ?_
  refine w_iconst (v := 1) (zat TL_law_6 2 rfl) (by decide) ?_
  refine w_iadd (zat TL_law_6 3 rfl) ?_
  refine w_sld _ (nI_add i 1) (by rw [hL1]; omega) (by rw [hL1]; omega) (zat TL_law_6 4 rfl) ?_
  refine w_aload_n (zat TL_law_6 5 rfl) rfl ?_
  refine w_iload_n (zat TL_law_6 6 rfl) rfl ?_
  refine w_iconst (v := 2) (zat TL_law_6 7 rfl) (by decide) ?_
  refine w_iadd (zat TL_law_6 8 rfl) ?_
  refine w_sld _ (nI_add i 2) (by rw [hL1]; omega) (by rw [hL1]; omega) (zat TL_law_6 9 rfl) ?_
  rw [hs1.1]
  refine x_call3 (hM) (by omega) kX14_brought (rdy_V (zat TL_law_6 10 rfl) kX14_brought pX14_brought zw1353 zw1354 zw1355 (zrc (by decide) (by decide) rfl)) (Nat.le_of_ble_eq_true rfl) rfl rfl (fun v h2 hq => ?_) (fun r h2 hq => by obtain ⟨hq, _⟩ := hq; cases hq)
  obtain ⟨hq2, hs2, hI2⟩ := hq
  cases hq2
  refine w_icmp_eq 1036 (zat TL_law_6 11 rfl) (by decide) (fun Hc595 => ?_) (fun Hc595 => ?_)
  · exact K h2 hI2 hs2
  · exact absurd rfl Hc595
theorem cs_cheap (l : Launch) (Q : zO → zH → Prop) (h : zH) (hI : Inv h) (i L : Nat) (hL : zN h 999 0 = L) (hi : i + 6 ≤ L) (hB : L ≤ 3072) (K : ∀ h2, Inv h2 → Sc h h2 → Wp l mL_law 41 1036 [some (Vq (some (999, 0))), some (Vq (some (0, 0))), some (Vq (some (1, 0))), some (Vi (nI i))] [] h2 Q) : Wp l mL_law 41 600 [some (Vq (some (999, 0))), some (Vq (some (0, 0))), some (Vq (some (1, 0))), some (Vi (nI i))] [] h Q := by
  refine w_aload_n (zat TL_law_6 14 rfl) rfl ?_
  refine w_aload_n (zat TL_law_6 15 rfl) rfl ?_
  refine w_iload_n (zat TL_law_6 16 rfl) rfl ?_
  refine w_iconst (v := 1) (zat TL_law_6 17 rfl) (by decide) ?_
  refine w_iadd (zat TL_law_6 18 rfl) ?_
  refine w_sld _ (nI_add i 1) (by rw [hL]; omega) (by rw [hL]; omega) (zat TL_law_6 19 rfl) ?_
  obtain ⟨dc, hdc, hP⟩ := pr_cheap l h hI (zI h 999 0 (i + 1))
  refine x_call2 (hP) (by omega) kX11_cheap (rdy_V (zat TL_law_6 20 rfl) kX11_cheap pX11_cheap zw733 zw734 zw735 (zrc (by decide) (by decide) rfl)) (Nat.le_of_ble_eq_true rfl) rfl rfl (fun v h1 hq => ?_) (fun r h1 hq => by obtain ⟨_, hq, _⟩ := hq; cases hq)
  obtain ⟨v1, hq1, hk1, hs1, dm, hdm, hM⟩ := hq
  cases hq1
  obtain ⟨x1, rfl⟩ := kd_I hk1 (Or.inl rfl)
  have hL1 : zN h1 999 0 = L := hs1.2.trans hL
  refine w_aload_n (zat TL_law_6 21 rfl) rfl ?_
  refine w_aload_n (zat TL_law_6 22 rfl) rfl ?_
  refine w_iload_n (zat TL_law_6 23 rfl) rfl ?_
  refine w_iconst (v := 1) (zat TL_law_6 24 rfl) (by decide) ?_
  refine w_iadd (zat TL_law_6 25 rfl) ?_
  refine w_sld _ (nI_add i 1) (by rw [hL1]; omega) (by rw [hL1]; omega) (zat TL_law_6 26 rfl) ?_
  rw [hs1.1]
  refine x_call2 (hM) (by omega) kX14_cheap (rdy_V (zat TL_law_6 27 rfl) kX14_cheap pX14_cheap zw1374 zw1375 zw1376 (zrc (by decide) (by decide) rfl)) (Nat.le_of_ble_eq_true rfl) rfl rfl (fun v h2 hq => ?_) (fun r h2 hq => by obtain ⟨hq, _⟩ := hq; cases hq)
  obtain ⟨hq2, hs2, hI2⟩ := hq
  cases hq2
  refine w_icmp_eq 1036 (zat TL_law_6 28 rfl) (by decide) (fun Hc618 => ?_) (fun Hc618 => ?_)
  · exact K h2 hI2 hs2
  · exact absurd rfl Hc618
theorem cs_source (l : Launch) (Q : zO → zH → Prop) (h : zH) (hI : Inv h) (i L : Nat) (hL : zN h 999 0 = L) (hi : i + 6 ≤ L) (hB : L ≤ 3072) (K : ∀ h2, Inv h2 → Sc h h2 → Wp l mL_law 41 1036 [some (Vq (some (999, 0))), some (Vq (some (0, 0))), some (Vq (some (1, 0))), some (Vi (nI i))] [] h2 Q) : Wp l mL_law 41 623 [some (Vq (some (999, 0))), some (Vq (some (0, 0))), some (Vq (some (1, 0))), some (Vi (nI i))] [] h Q := by
  refine w_aload_n (zat TL_law_6 31 rfl) rfl ?_
  refine w_aload_n (zat TL_law_6 32 rfl) rfl ?_
  refine w_iload_n (zat TL_law_6 33 rfl) rfl ?_
  refine w_iconst (v := 1) (zat TL_law_6 34 rfl) (by decide) ?_
  refine w_iadd (zat TL_law_6 35 rfl) ?_
  refine w_sld _ (nI_add i 1) (by rw [hL]; omega) (by rw [hL]; omega) (zat TL_law_6 36 rfl) ?_
  obtain ⟨dc, hdc, hP⟩ := pr_source l h hI (zI h 999 0 (i + 1))
  refine x_call2 (hP) (by omega) kX11_source (rdy_V (zat TL_law_6 37 rfl) kX11_source pX11_source zw741 zw742 zw743 (zrc (by decide) (by decide) rfl)) (Nat.le_of_ble_eq_true rfl) rfl rfl (fun v h1 hq => ?_) (fun r h1 hq => by obtain ⟨_, hq, _⟩ := hq; cases hq)
  obtain ⟨v1, hq1, hk1, hs1, dm, hdm, hM⟩ := hq
  cases hq1
  obtain ⟨x1, rfl⟩ := kd_I hk1 (Or.inl rfl)
  have hL1 : zN h1 999 0 = L := hs1.2.trans hL
  refine w_aload_n (zat TL_law_6 38 rfl) rfl ?_
  refine w_aload_n (zat TL_law_6 39 rfl) rfl ?_
  refine w_iload_n (zat TL_law_6 40 rfl) rfl ?_
  refine w_iconst (v := 1) (zat TL_law_6 41 rfl) (by decide) ?_
  refine w_iadd (zat TL_law_6 42 rfl) ?_
  refine w_sld _ (nI_add i 1) (by rw [hL1]; omega) (by rw [hL1]; omega) (zat TL_law_6 43 rfl) ?_
  rw [hs1.1]
  refine x_call2 (hM) (by omega) kX14_source (rdy_V (zat TL_law_6 44 rfl) kX14_source pX14_source zw1378 zw1379 zw1380 (zrc (by decide) (by decide) rfl)) (Nat.le_of_ble_eq_true rfl) rfl rfl (fun v h2 hq => ?_) (fun r h2 hq => by obtain ⟨hq, _⟩ := hq; cases hq)
  obtain ⟨hq2, hs2, hI2⟩ := hq
  cases hq2
  refine w_icmp_eq 1036 (zat TL_law_6 45 rfl) (by decide) (fun Hc641 => ?_) (fun Hc641 => ?_)
  · exact K h2 hI2 hs2
  · exact absurd rfl Hc641
theorem cs_taken (l : Launch) (Q : zO → zH → Prop) (h : zH) (hI : Inv h) (i L : Nat) (hL : zN h 999 0 = L) (hi : i + 6 ≤ L) (hB : L ≤ 3072) (K : ∀ h2, Inv h2 → Sc h h2 → Wp l mL_law 41 1036 [some (Vq (some (999, 0))), some (Vq (some (0, 0))), some (Vq (some (1, 0))), some (Vi (nI i))] [] h2 Q) : Wp l mL_law 41 646 [some (Vq (some (999, 0))), some (Vq (some (0, 0))), some (Vq (some (1, 0))), some (Vi (nI i))] [] h Q := by
  refine w_aload_n (zat TL_law_6 48 rfl) rfl ?_
  refine w_aload_n (zat TL_law_6 49 rfl) rfl ?_
  refine w_iload_n (zat TL_law_6 50 rfl) rfl ?_
  refine w_iconst (v := 1) (zat TL_law_6 51 rfl) (by decide) ?_
  refine w_iadd (zat TL_law_6 52 rfl) ?_
  refine w_sld _ (nI_add i 1) (by rw [hL]; omega) (by rw [hL]; omega) (zat TL_law_6 53 rfl) ?_
  obtain ⟨dc, hdc, hP⟩ := pr_taken l h hI (zI h 999 0 (i + 1))
  refine x_call2 (hP) (by omega) kX11_taken (rdy_V (zat TL_law_6 54 rfl) kX11_taken pX11_taken zw750 zw751 zw752 (zrc (by decide) (by decide) rfl)) (Nat.le_of_ble_eq_true rfl) rfl rfl (fun v h1 hq => ?_) (fun r h1 hq => by obtain ⟨_, hq, _⟩ := hq; cases hq)
  obtain ⟨v1, hq1, hk1, hs1, dm, hdm, hM⟩ := hq
  cases hq1
  obtain ⟨x1, rfl⟩ := kd_J hk1 rfl
  have hL1 : zN h1 999 0 = L := hs1.2.trans hL
  refine w_aload_n (zat TL_law_6 55 rfl) rfl ?_
  refine w_aload_n (zat TL_law_6 56 rfl) rfl ?_
  refine w_iload_n (zat TL_law_6 57 rfl) rfl ?_
  refine w_iconst (v := 1) (zat TL_law_6 58 rfl) (by decide) ?_
  refine w_iadd (zat TL_law_6 59 rfl) ?_
  refine w_sld _ (nI_add i 1) (by rw [hL1]; omega) (by rw [hL1]; omega) (zat TL_law_7 0 rfl) ?_
  rw [hs1.1]
  refine x_call2 (hM) (by omega) kX14_taken (rdy_V (zat TL_law_7 1 rfl) kX14_taken pX14_taken zw1382 zw1383 zw1384 (zrc (by decide) (by decide) rfl)) (Nat.le_of_ble_eq_true rfl) rfl rfl (fun v h2 hq => ?_) (fun r h2 hq => by obtain ⟨hq, _⟩ := hq; cases hq)
  obtain ⟨hq2, hs2, hI2⟩ := hq
  cases hq2
  refine w_lcmp (zat TL_law_7 2 rfl) ?_
  refine w_if_eq 1036 (zat TL_law_7 3 rfl) (by decide) (fun Hc665 => ?_) (fun Hc665 => ?_)
  · exact K h2 hI2 hs2
  · exact absurd (lg_same _) Hc665
theorem cs_crown (l : Launch) (Q : zO → zH → Prop) (h : zH) (hI : Inv h) (i L : Nat) (hL : zN h 999 0 = L) (hi : i + 6 ≤ L) (hB : L ≤ 3072) (K : ∀ h2, Inv h2 → Sc h h2 → Wp l mL_law 41 1036 [some (Vq (some (999, 0))), some (Vq (some (0, 0))), some (Vq (some (1, 0))), some (Vi (nI i))] [] h2 Q) : Wp l mL_law 41 670 [some (Vq (some (999, 0))), some (Vq (some (0, 0))), some (Vq (some (1, 0))), some (Vi (nI i))] [] h Q := by
  refine w_aload_n (zat TL_law_7 6 rfl) rfl ?_
  obtain ⟨dc, hdc, hP⟩ := pr_crown l h hI 
  refine x_call1 (hP) (by omega) kX11_crown (rdy_V (zat TL_law_7 7 rfl) kX11_crown pX11_crown zw760 zw761 zw762 (zrc (by decide) (by decide) rfl)) (Nat.le_of_ble_eq_true rfl) rfl rfl (fun v h1 hq => ?_) (fun r h1 hq => by obtain ⟨_, hq, _⟩ := hq; cases hq)
  obtain ⟨v1, hq1, hk1, hs1, dm, hdm, hM⟩ := hq
  cases hq1
  obtain ⟨x1, rfl⟩ := kd_J hk1 rfl
  have hL1 : zN h1 999 0 = L := hs1.2.trans hL
  refine w_aload_n (zat TL_law_7 8 rfl) rfl ?_
  refine x_call1 (hM) (by omega) kX14_crown (rdy_V (zat TL_law_7 9 rfl) kX14_crown pX14_crown zw1395 zw1396 zw1397 (zrc (by decide) (by decide) rfl)) (Nat.le_of_ble_eq_true rfl) rfl rfl (fun v h2 hq => ?_) (fun r h2 hq => by obtain ⟨hq, _⟩ := hq; cases hq)
  obtain ⟨hq2, hs2, hI2⟩ := hq
  cases hq2
  refine w_lcmp (zat TL_law_7 10 rfl) ?_
  refine w_if_eq 1036 (zat TL_law_7 11 rfl) (by decide) (fun Hc679 => ?_) (fun Hc679 => ?_)
  · exact K h2 hI2 hs2
  · exact absurd (lg_same _) Hc679
theorem cs_lost (l : Launch) (Q : zO → zH → Prop) (h : zH) (hI : Inv h) (i L : Nat) (hL : zN h 999 0 = L) (hi : i + 6 ≤ L) (hB : L ≤ 3072) (K : ∀ h2, Inv h2 → Sc h h2 → Wp l mL_law 41 1036 [some (Vq (some (999, 0))), some (Vq (some (0, 0))), some (Vq (some (1, 0))), some (Vi (nI i))] [] h2 Q) : Wp l mL_law 41 684 [some (Vq (some (999, 0))), some (Vq (some (0, 0))), some (Vq (some (1, 0))), some (Vi (nI i))] [] h Q := by
  refine w_aload_n (zat TL_law_7 14 rfl) rfl ?_
  obtain ⟨dc, hdc, hP⟩ := pr_lost l h hI 
  refine x_call1 (hP) (by omega) kX11_lost (rdy_V (zat TL_law_7 15 rfl) kX11_lost pX11_lost zw768 zw769 zw770 (zrc (by decide) (by decide) rfl)) (Nat.le_of_ble_eq_true rfl) rfl rfl (fun v h1 hq => ?_) (fun r h1 hq => by obtain ⟨_, hq, _⟩ := hq; cases hq)
  obtain ⟨v1, hq1, hk1, hs1, dm, hdm, hM⟩ := hq
  cases hq1
  obtain ⟨x1, rfl⟩ := kd_J hk1 rfl
  have hL1 : zN h1 999 0 = L := hs1.2.trans hL
  refine w_aload_n (zat TL_law_7 16 rfl) rfl ?_
  refine x_call1 (hM) (by omega) kX14_lost (rdy_V (zat TL_law_7 17 rfl) kX14_lost pX14_lost zw1403 zw1404 zw1405 (zrc (by decide) (by decide) rfl)) (Nat.le_of_ble_eq_true rfl) rfl rfl (fun v h2 hq => ?_) (fun r h2 hq => by obtain ⟨hq, _⟩ := hq; cases hq)
  obtain ⟨hq2, hs2, hI2⟩ := hq
  cases hq2
  refine w_lcmp (zat TL_law_7 18 rfl) ?_
  refine w_if_eq 1036 (zat TL_law_7 19 rfl) (by decide) (fun Hc693 => ?_) (fun Hc693 => ?_)
  · exact K h2 hI2 hs2
  · exact absurd (lg_same _) Hc693
theorem cs_carried (l : Launch) (Q : zO → zH → Prop) (h : zH) (hI : Inv h) (i L : Nat) (hL : zN h 999 0 = L) (hi : i + 6 ≤ L) (hB : L ≤ 3072) (K : ∀ h2, Inv h2 → Sc h h2 → Wp l mL_law 41 1036 [some (Vq (some (999, 0))), some (Vq (some (0, 0))), some (Vq (some (1, 0))), some (Vi (nI i))] [] h2 Q) : Wp l mL_law 41 698 [some (Vq (some (999, 0))), some (Vq (some (0, 0))), some (Vq (some (1, 0))), some (Vi (nI i))] [] h Q := by
  refine w_aload_n (zat TL_law_7 22 rfl) rfl ?_
  refine w_aload_n (zat TL_law_7 23 rfl) rfl ?_
  refine w_iload_n (zat TL_law_7 24 rfl) rfl ?_
  refine w_iconst (v := 1) (zat TL_law_7 25 rfl) (by decide) ?_
  refine w_iadd (zat TL_law_7 26 rfl) ?_
  refine w_sld _ (nI_add i 1) (by rw [hL]; omega) (by rw [hL]; omega) (zat TL_law_7 27 rfl) ?_
  obtain ⟨dc, hdc, hP⟩ := pr_carried l h hI (zI h 999 0 (i + 1))
  refine x_call2 (hP) (by omega) kX11_carried (rdy_V (zat TL_law_7 28 rfl) kX11_carried pX11_carried zw776 zw777 zw778 (zrc (by decide) (by decide) rfl)) (Nat.le_of_ble_eq_true rfl) rfl rfl (fun v h1 hq => ?_) (fun r h1 hq => by obtain ⟨_, hq, _⟩ := hq; cases hq)
  obtain ⟨v1, hq1, hk1, hs1, dm, hdm, hM⟩ := hq
  cases hq1
  obtain ⟨x1, rfl⟩ := kd_J hk1 rfl
  have hL1 : zN h1 999 0 = L := hs1.2.trans hL
  refine w_aload_n (zat TL_law_7 29 rfl) rfl ?_
  refine w_aload_n (zat TL_law_7 30 rfl) rfl ?_
  refine w_iload_n (zat TL_law_7 31 rfl) rfl ?_
  refine w_iconst (v := 1) (zat TL_law_7 32 rfl) (by decide) ?_
  refine w_iadd (zat TL_law_7 33 rfl) ?_
  refine w_sld _ (nI_add i 1) (by rw [hL1]; omega) (by rw [hL1]; omega) (zat TL_law_7 34 rfl) ?_
  rw [hs1.1]
  refine x_call2 (hM) (by omega) kX14_carried (rdy_V (zat TL_law_7 35 rfl) kX14_carried pX14_carried zw1407 zw1408 zw1409 (zrc (by decide) (by decide) rfl)) (Nat.le_of_ble_eq_true rfl) rfl rfl (fun v h2 hq => ?_) (fun r h2 hq => by obtain ⟨hq, _⟩ := hq; cases hq)
  obtain ⟨hq2, hs2, hI2⟩ := hq
  cases hq2
  refine w_lcmp (zat TL_law_7 36 rfl) ?_
  refine w_if_eq 1036 (zat TL_law_7 37 rfl) (by decide) (fun Hc717 => ?_) (fun Hc717 => ?_)
  · exact K h2 hI2 hs2
  · exact absurd (lg_same _) Hc717
theorem cs_way (l : Launch) (Q : zO → zH → Prop) (h : zH) (hI : Inv h) (i L : Nat) (hL : zN h 999 0 = L) (hi : i + 6 ≤ L) (hB : L ≤ 3072) (K : ∀ h2, Inv h2 → Sc h h2 → Wp l mL_law 41 1036 [some (Vq (some (999, 0))), some (Vq (some (0, 0))), some (Vq (some (1, 0))), some (Vi (nI i))] [] h2 Q) : Wp l mL_law 41 722 [some (Vq (some (999, 0))), some (Vq (some (0, 0))), some (Vq (some (1, 0))), some (Vi (nI i))] [] h Q := by
  refine w_aload_n (zat TL_law_7 40 rfl) rfl ?_
  refine w_aload_n (zat TL_law_7 41 rfl) rfl ?_
  refine w_iload_n (zat TL_law_7 42 rfl) rfl ?_
  refine w_iconst (v := 1) (zat TL_law_7 43 rfl) (by decide) ?_
  refine w_iadd (zat TL_law_7 44 rfl) ?_
  refine w_sld _ (nI_add i 1) (by rw [hL]; omega) (by rw [hL]; omega) (zat TL_law_7 45 rfl) ?_
  obtain ⟨dc, hdc, hP⟩ := pr_way l h hI (zI h 999 0 (i + 1))
  refine x_call2 (hP) (by omega) kX11_way (rdy_V (zat TL_law_7 46 rfl) kX11_way pX11_way zw792 zw793 zw794 (zrc (by decide) (by decide) rfl)) (Nat.le_of_ble_eq_true rfl) rfl rfl (fun v h1 hq => ?_) (fun r h1 hq => by obtain ⟨_, hq, _⟩ := hq; cases hq)
  obtain ⟨v1, hq1, hk1, hs1, dm, hdm, hM⟩ := hq
  cases hq1
  obtain ⟨x1, rfl⟩ := kd_I hk1 (Or.inl rfl)
  have hL1 : zN h1 999 0 = L := hs1.2.trans hL
  refine w_aload_n (zat TL_law_7 47 rfl) rfl ?_
  refine w_aload_n (zat TL_law_7 48 rfl) rfl ?_
  refine w_iload_n (zat TL_law_7 49 rfl) rfl ?_
  refine w_iconst (v := 1) (zat TL_law_7 50 rfl) (by decide) ?_
  refine w_iadd (zat TL_law_7 51 rfl) ?_
  refine w_sld _ (nI_add i 1) (by rw [hL1]; omega) (by rw [hL1]; omega) (zat TL_law_7 52 rfl) ?_
  rw [hs1.1]
  refine x_call2 (hM) (by omega) kX14_way (rdy_V (zat TL_law_7 53 rfl) kX14_way pX14_way zw1415 zw1416 zw1417 (zrc (by decide) (by decide) rfl)) (Nat.le_of_ble_eq_true rfl) rfl rfl (fun v h2 hq => ?_) (fun r h2 hq => by obtain ⟨hq, _⟩ := hq; cases hq)
  obtain ⟨hq2, hs2, hI2⟩ := hq
  cases hq2
  refine w_icmp_eq 1036 (zat TL_law_7 54 rfl) (by decide) (fun Hc740 => ?_) (fun Hc740 => ?_)
  · exact K h2 hI2 hs2
  · exact absurd rfl Hc740
theorem cs_wayAt (l : Launch) (Q : zO → zH → Prop) (h : zH) (hI : Inv h) (i L : Nat) (hL : zN h 999 0 = L) (hi : i + 6 ≤ L) (hB : L ≤ 3072) (K : ∀ h2, Inv h2 → Sc h h2 → Wp l mL_law 41 1036 [some (Vq (some (999, 0))), some (Vq (some (0, 0))), some (Vq (some (1, 0))), some (Vi (nI i))] [] h2 Q) : Wp l mL_law 41 745 [some (Vq (some (999, 0))), some (Vq (some (0, 0))), some (Vq (some (1, 0))), some (Vi (nI i))] [] h Q := by
  refine w_aload_n (zat TL_law_7 57 rfl) rfl ?_
  refine w_aload_n (zat TL_law_7 58 rfl) rfl ?_
  refine w_iload_n (zat TL_law_7 59 rfl) rfl ?_
  refine w_iconst (v := 1) (zat TL_law_8 0 rfl) (by decide) ?_
  refine w_iadd (zat TL_law_8 1 rfl) ?_
  refine w_sld _ (nI_add i 1) (by rw [hL]; omega) (by rw [hL]; omega) (zat TL_law_8 2 rfl) ?_
  refine w_aload_n (zat TL_law_8 3 rfl) rfl ?_
  refine w_iload_n (zat TL_law_8 4 rfl) rfl ?_
  refine w_iconst (v := 2) (zat TL_law_8 5 rfl) (by decide) ?_
  refine w_iadd (zat TL_law_8 6 rfl) ?_
  refine w_sld _ (nI_add i 2) (by rw [hL]; omega) (by rw [hL]; omega) (zat TL_law_8 7 rfl) ?_
  obtain ⟨dc, hdc, hP⟩ := pr_wayAt l h hI (zI h 999 0 (i + 1)) (zI h 999 0 (i + 2))
  refine x_call3 (hP) (by omega) kX11_wayAt (rdy_V (zat TL_law_8 8 rfl) kX11_wayAt pX11_wayAt zw797 zw798 zw799 (zrc (by decide) (by decide) rfl)) (Nat.le_of_ble_eq_true rfl) rfl rfl (fun v h1 hq => ?_) (fun r h1 hq => by obtain ⟨_, hq, _⟩ := hq; cases hq)
  obtain ⟨v1, hq1, hk1, hs1, dm, hdm, hM⟩ := hq
  cases hq1
  obtain ⟨x1, rfl⟩ := kd_I hk1 (Or.inl rfl)
  have hL1 : zN h1 999 0 = L := hs1.2.trans hL
  refine w_aload_n (zat TL_law_8 9 rfl) rfl ?_
  refine w_aload_n (zat TL_law_8 10 rfl) rfl ?_
  refine w_iload_n (zat TL_law_8 11 rfl) rfl ?_
  refine w_iconst (v := 1) (zat TL_law_8 12 rfl) (by decide) ?_
  refine w_iadd (zat TL_law_8 13 rfl) ?_
  refine w_sld _ (nI_add i 1) (by rw [hL1]; omega) (by rw [hL1]; omega) (zat TL_law_8 14 rfl) ?_
  refine w_aload_n (zat TL_law_8 15 rfl) rfl ?_
  refine w_iload_n (zat TL_law_8 16 rfl) rfl ?_
  refine w_iconst (v := 2) (zat TL_law_8 17 rfl) (by decide) ?_
  refine w_iadd (zat TL_law_8 18 rfl) ?_
  refine w_sld _ (nI_add i 2) (by rw [hL1]; omega) (by rw [hL1]; omega) (zat TL_law_8 19 rfl) ?_
  rw [hs1.1]
  refine x_call3 (hM) (by omega) kX14_wayAt (rdy_V (zat TL_law_8 20 rfl) kX14_wayAt pX14_wayAt zw1419 zw1420 zw1421 (zrc (by decide) (by decide) rfl)) (Nat.le_of_ble_eq_true rfl) rfl rfl (fun v h2 hq => ?_) (fun r h2 hq => by obtain ⟨hq, _⟩ := hq; cases hq)
  obtain ⟨hq2, hs2, hI2⟩ := hq
  cases hq2
  refine w_icmp_eq 1036 (zat TL_law_8 21 rfl) (by decide) (fun Hc773 => ?_) (fun Hc773 => ?_)
  · exact K h2 hI2 hs2
  · exact absurd rfl Hc773
theorem cs_best (l : Launch) (Q : zO → zH → Prop) (h : zH) (hI : Inv h) (i L : Nat) (hL : zN h 999 0 = L) (hi : i + 6 ≤ L) (hB : L ≤ 3072) (K : ∀ h2, Inv h2 → Sc h h2 → Wp l mL_law 41 1036 [some (Vq (some (999, 0))), some (Vq (some (0, 0))), some (Vq (some (1, 0))), some (Vi (nI i))] [] h2 Q) : Wp l mL_law 41 778 [some (Vq (some (999, 0))), some (Vq (some (0, 0))), some (Vq (some (1, 0))), some (Vi (nI i))] [] h Q := by
  refine w_aload_n (zat TL_law_8 24 rfl) rfl ?_
  refine w_aload_n (zat TL_law_8 25 rfl) rfl ?_
  refine w_iload_n (zat TL_law_8 26 rfl) rfl ?_
  refine w_iconst (v := 1) (zat TL_law_8 27 rfl) (by decide) ?_
  refine w_iadd (zat TL_law_8 28 rfl) ?_
  refine w_sld _ (nI_add i 1) (by rw [hL]; omega) (by rw [hL]; omega) (zat TL_law_8 29 rfl) ?_
  obtain ⟨dc, hdc, hP⟩ := pr_best l h hI (zI h 999 0 (i + 1))
  refine x_call2 (hP) (by omega) kX11_best (rdy_V (zat TL_law_8 30 rfl) kX11_best pX11_best zw805 zw806 zw807 (zrc (by decide) (by decide) rfl)) (Nat.le_of_ble_eq_true rfl) rfl rfl (fun v h1 hq => ?_) (fun r h1 hq => by obtain ⟨_, hq, _⟩ := hq; cases hq)
  obtain ⟨v1, hq1, hk1, hs1, dm, hdm, hM⟩ := hq
  cases hq1
  obtain ⟨x1, rfl⟩ := kd_J hk1 rfl
  have hL1 : zN h1 999 0 = L := hs1.2.trans hL
  refine w_aload_n (zat TL_law_8 31 rfl) rfl ?_
  refine w_aload_n (zat TL_law_8 32 rfl) rfl ?_
  refine w_iload_n (zat TL_law_8 33 rfl) rfl ?_
  refine w_iconst (v := 1) (zat TL_law_8 34 rfl) (by decide) ?_
  refine w_iadd (zat TL_law_8 35 rfl) ?_
  refine w_sld _ (nI_add i 1) (by rw [hL1]; omega) (by rw [hL1]; omega) (zat TL_law_8 36 rfl) ?_
  rw [hs1.1]
  refine x_call2 (hM) (by omega) kX14_best (rdy_V (zat TL_law_8 37 rfl) kX14_best pX14_best zw1423 zw1424 zw1425 (zrc (by decide) (by decide) rfl)) (Nat.le_of_ble_eq_true rfl) rfl rfl (fun v h2 hq => ?_) (fun r h2 hq => by obtain ⟨hq, _⟩ := hq; cases hq)
  obtain ⟨hq2, hs2, hI2⟩ := hq
  cases hq2
  refine w_lcmp (zat TL_law_8 38 rfl) ?_
  refine w_if_eq 1036 (zat TL_law_8 39 rfl) (by decide) (fun Hc797 => ?_) (fun Hc797 => ?_)
  · exact K h2 hI2 hs2
  · exact absurd (lg_same _) Hc797
theorem cs_stand (l : Launch) (Q : zO → zH → Prop) (h : zH) (hI : Inv h) (i L : Nat) (hL : zN h 999 0 = L) (hi : i + 6 ≤ L) (hB : L ≤ 3072) (K : ∀ h2, Inv h2 → Sc h h2 → Wp l mL_law 41 1036 [some (Vq (some (999, 0))), some (Vq (some (0, 0))), some (Vq (some (1, 0))), some (Vi (nI i))] [] h2 Q) : Wp l mL_law 41 802 [some (Vq (some (999, 0))), some (Vq (some (0, 0))), some (Vq (some (1, 0))), some (Vi (nI i))] [] h Q := by
  refine w_aload_n (zat TL_law_8 42 rfl) rfl ?_
  refine w_aload_n (zat TL_law_8 43 rfl) rfl ?_
  refine w_iload_n (zat TL_law_8 44 rfl) rfl ?_
  refine w_iconst (v := 1) (zat TL_law_8 45 rfl) (by decide) ?_
  refine w_iadd (zat TL_law_8 46 rfl) ?_
  refine w_sld _ (nI_add i 1) (by rw [hL]; omega) (by rw [hL]; omega) (zat TL_law_8 47 rfl) ?_
  obtain ⟨dc, hdc, hP⟩ := Pq.of (pr_stand l h hI (zI h 999 0 (i + 1))) (by decide) (by decide)
  refine x_call2 (hP) (by omega) kX11_stand (rdy_V (zat TL_law_8 48 rfl) kX11_stand pX11_stand zw828 zw829 zw830 (zrc (by decide) (by decide) rfl)) (Nat.le_of_ble_eq_true rfl) rfl rfl (fun v h1 hq => ?_) (fun r h1 hq => by obtain ⟨_, hq, _⟩ := hq; cases hq)
  obtain ⟨v1, hq1, hk1, hs1, dm, hdm, hM⟩ := hq
  cases hq1
  obtain ⟨x1, rfl⟩ := kd_I hk1 (Or.inl rfl)
  have hL1 : zN h1 999 0 = L := hs1.2.trans hL
  refine w_aload_n (zat TL_law_8 49 rfl) rfl ?_
  refine w_aload_n (zat TL_law_8 50 rfl) rfl ?_
  refine w_iload_n (zat TL_law_8 51 rfl) rfl ?_
  refine w_iconst (v := 1) (zat TL_law_8 52 rfl) (by decide) ?_
  refine w_iadd (zat TL_law_8 53 rfl) ?_
  refine w_sld _ (nI_add i 1) (by rw [hL1]; omega) (by rw [hL1]; omega) (zat TL_law_8 54 rfl) ?_
  rw [hs1.1]
  refine x_call2 (hM) (by omega) kX14_stand (rdy_V (zat TL_law_8 55 rfl) kX14_stand pX14_stand zw1431 zw1432 zw1433 (zrc (by decide) (by decide) rfl)) (Nat.le_of_ble_eq_true rfl) rfl rfl (fun v h2 hq => ?_) (fun r h2 hq => by obtain ⟨hq, _⟩ := hq; cases hq)
  obtain ⟨hq2, hs2, hI2⟩ := hq
  cases hq2
  refine w_icmp_eq 1036 (zat TL_law_8 56 rfl) (by decide) (fun Hc820 => ?_) (fun Hc820 => ?_)
  · exact K h2 hI2 hs2
  · exact absurd rfl Hc820
theorem cs_pass (l : Launch) (Q : zO → zH → Prop) (h : zH) (hI : Inv h) (i L : Nat) (hL : zN h 999 0 = L) (hi : i + 6 ≤ L) (hB : L ≤ 3072) (K : ∀ h2, Inv h2 → Sc h h2 → Wp l mL_law 41 1036 [some (Vq (some (999, 0))), some (Vq (some (0, 0))), some (Vq (some (1, 0))), some (Vi (nI i))] [] h2 Q) : Wp l mL_law 41 825 [some (Vq (some (999, 0))), some (Vq (some (0, 0))), some (Vq (some (1, 0))), some (Vi (nI i))] [] h Q := by
  refine w_aload_n (zat TL_law_8 59 rfl) rfl ?_
  obtain ⟨dc, hdc, hP⟩ := Pq.of (pr_pass l h hI ) (by decide) (by decide)
  refine x_call1 (hP) (by omega) kX11_pass (rdy_V (zat TL_law_9 0 rfl) kX11_pass pX11_pass zw836 zw837 zw838 (zrc (by decide) (by decide) rfl)) (Nat.le_of_ble_eq_true rfl) rfl rfl (fun v h1 hq => ?_) (fun r h1 hq => by obtain ⟨_, hq, _⟩ := hq; cases hq)
  obtain ⟨v1, hq1, hk1, hs1, dm, hdm, hM⟩ := hq
  cases hq1
  obtain ⟨x1, rfl⟩ := kd_I hk1 (Or.inl rfl)
  have hL1 : zN h1 999 0 = L := hs1.2.trans hL
  refine w_aload_n (zat TL_law_9 1 rfl) rfl ?_
  refine x_call1 (hM) (by omega) kX14_pass (rdy_V (zat TL_law_9 2 rfl) kX14_pass pX14_pass zw1435 zw1436 zw1437 (zrc (by decide) (by decide) rfl)) (Nat.le_of_ble_eq_true rfl) rfl rfl (fun v h2 hq => ?_) (fun r h2 hq => by obtain ⟨hq, _⟩ := hq; cases hq)
  obtain ⟨hq2, hs2, hI2⟩ := hq
  cases hq2
  refine w_icmp_eq 1036 (zat TL_law_9 3 rfl) (by decide) (fun Hc833 => ?_) (fun Hc833 => ?_)
  · exact K h2 hI2 hs2
  · exact absurd rfl Hc833
theorem cs_store (l : Launch) (Q : zO → zH → Prop) (h : zH) (hI : Inv h) (i L : Nat) (hL : zN h 999 0 = L) (hi : i + 6 ≤ L) (hB : L ≤ 3072) (K : ∀ h2, Inv h2 → Sc h h2 → Wp l mL_law 41 1036 [some (Vq (some (999, 0))), some (Vq (some (0, 0))), some (Vq (some (1, 0))), some (Vi (nI i))] [] h2 Q) : Wp l mL_law 41 838 [some (Vq (some (999, 0))), some (Vq (some (0, 0))), some (Vq (some (1, 0))), some (Vi (nI i))] [] h Q := by
  refine w_aload_n (zat TL_law_9 6 rfl) rfl ?_
  refine w_aload_n (zat TL_law_9 7 rfl) rfl ?_
  refine w_iload_n (zat TL_law_9 8 rfl) rfl ?_
  refine w_iconst (v := 1) (zat TL_law_9 9 rfl) (by decide) ?_
  refine w_iadd (zat TL_law_9 10 rfl) ?_
  refine w_sld _ (nI_add i 1) (by rw [hL]; omega) (by rw [hL]; omega) (zat TL_law_9 11 rfl) ?_
  refine w_aload_n (zat TL_law_9 12 rfl) rfl ?_
  refine w_iload_n (zat TL_law_9 13 rfl) rfl ?_
  refine w_iconst (v := 2) (zat TL_law_9 14 rfl) (by decide) ?_
  refine w_iadd (zat TL_law_9 15 rfl) ?_
  refine w_sld _ (nI_add i 2) (by rw [hL]; omega) (by rw [hL]; omega) (zat TL_law_9 16 rfl) ?_
  obtain ⟨dc, hdc, hP⟩ := Pq.of (pr_store l h hI (zI h 999 0 (i + 1)) (zI h 999 0 (i + 2))) (by decide) (by decide)
  refine x_call3 (hP) (by omega) kX11_store (rdy_V (zat TL_law_9 17 rfl) kX11_store pX11_store zw848 zw849 zw850 (zrc (by decide) (by decide) rfl)) (Nat.le_of_ble_eq_true rfl) rfl rfl (fun v h1 hq => ?_) (fun r h1 hq => by obtain ⟨_, hq, _⟩ := hq; cases hq)
  obtain ⟨v1, hq1, hk1, hs1, dm, hdm, hM⟩ := hq
  cases hq1
  obtain ⟨x1, rfl⟩ := kd_I hk1 (Or.inl rfl)
  have hL1 : zN h1 999 0 = L := hs1.2.trans hL
  refine w_aload_n (zat TL_law_9 18 rfl) rfl ?_
  refine w_aload_n (zat TL_law_9 19 rfl) rfl ?_
  refine w_iload_n (zat TL_law_9 20 rfl) rfl ?_
  refine w_iconst (v := 1) (zat TL_law_9 21 rfl) (by decide) ?_
  refine w_iadd (zat TL_law_9 22 rfl) ?_
  refine w_sld _ (nI_add i 1) (by rw [hL1]; omega) (by rw [hL1]; omega) (zat TL_law_9 23 rfl) ?_
  refine w_aload_n (zat TL_law_9 24 rfl) rfl ?_
  refine w_iload_n (zat TL_law_9 25 rfl) rfl ?_
  refine w_iconst (v := 2) (zat TL_law_9 26 rfl) (by decide) ?_
  refine w_iadd (zat TL_law_9 27 rfl) ?_
  refine w_sld _ (nI_add i 2) (by rw [hL1]; omega) (by rw [hL1]; omega) (zat TL_law_9 28 rfl) ?_
  rw [hs1.1]
  refine x_call3 (hM) (by omega) kX14_store (rdy_V (zat TL_law_9 29 rfl) kX14_store pX14_store zw1443 zw1444 zw1445 (zrc (by decide) (by decide) rfl)) (Nat.le_of_ble_eq_true rfl) rfl rfl (fun v h2 hq => ?_) (fun r h2 hq => by obtain ⟨hq, _⟩ := hq; cases hq)
  obtain ⟨hq2, hs2, hI2⟩ := hq
  cases hq2
  refine w_icmp_eq 1036 (zat TL_law_9 30 rfl) (by decide) (fun Hc866 => ?_) (fun Hc866 => ?_)
  · exact K h2 hI2 hs2
  · exact absurd rfl Hc866
theorem cs_moves (l : Launch) (Q : zO → zH → Prop) (h : zH) (hI : Inv h) (i L : Nat) (hL : zN h 999 0 = L) (hi : i + 6 ≤ L) (hB : L ≤ 3072) (K : ∀ h2, Inv h2 → Sc h h2 → Wp l mL_law 41 1036 [some (Vq (some (999, 0))), some (Vq (some (0, 0))), some (Vq (some (1, 0))), some (Vi (nI i))] [] h2 Q) : Wp l mL_law 41 871 [some (Vq (some (999, 0))), some (Vq (some (0, 0))), some (Vq (some (1, 0))), some (Vi (nI i))] [] h Q := by
  refine w_aload_n (zat TL_law_9 33 rfl) rfl ?_
  refine w_aload_n (zat TL_law_9 34 rfl) rfl ?_
  refine w_iload_n (zat TL_law_9 35 rfl) rfl ?_
  refine w_iconst (v := 1) (zat TL_law_9 36 rfl) (by decide) ?_
  refine w_iadd (zat TL_law_9 37 rfl) ?_
  refine w_sld _ (nI_add i 1) (by rw [hL]; omega) (by rw [hL]; omega) (zat TL_law_9 38 rfl) ?_
  refine w_aload_n (zat TL_law_9 39 rfl) rfl ?_
  refine w_iload_n (zat TL_law_9 40 rfl) rfl ?_
  refine w_iconst (v := 2) (zat TL_law_9 41 rfl) (by decide) ?_
  refine w_iadd (zat TL_law_9 42 rfl) ?_
  refine w_sld _ (nI_add i 2) (by rw [hL]; omega) (by rw [hL]; omega) (zat TL_law_9 43 rfl) ?_
  refine w_aload_n (zat TL_law_9 44 rfl) rfl ?_
  refine w_iload_n (zat TL_law_9 45 rfl) rfl ?_
  refine w_iconst (v := 3) (zat TL_law_9 46 rfl) (by decide) ?_
  refine w_iadd (zat TL_law_9 47 rfl) ?_
  refine w_sld _ (nI_add i 3) (by rw [hL]; omega) (by rw [hL]; omega) (zat TL_law_9 48 rfl) ?_
  refine w_if_eq 894 (zat TL_law_9 49 rfl) (by decide) (fun Hc887 => ?_) (fun Hc887 => ?_)
  · refine w_iconst (v := 0) (zat TL_law_9 52 rfl) (by decide) ?_
    obtain ⟨dc, hdc, hP⟩ := Pq.of (pr_moves l h hI (zI h 999 0 (i + 1)) (zI h 999 0 (i + 2)) 0) (by decide) (by decide)
    refine x_call4 (hP) (by omega) kX11_moves (rdy_V (zat TL_law_9 53 rfl) kX11_moves pX11_moves zw882 zw883 zw884 (zrc (by decide) (by decide) rfl)) (Nat.le_of_ble_eq_true rfl) rfl rfl (fun v h1 hq => ?_) (fun r h1 hq => by obtain ⟨_, hq, _⟩ := hq; cases hq)
    obtain ⟨v1, hq1, hk1, hs1, dm, hdm, hM⟩ := hq
    cases hq1
    obtain ⟨x1, rfl⟩ := kd_I hk1 (Or.inl rfl)
    have hL1 : zN h1 999 0 = L := hs1.2.trans hL
    refine w_aload_n (zat TL_law_9 54 rfl) rfl ?_
    refine w_aload_n (zat TL_law_9 55 rfl) rfl ?_
    refine w_iload_n (zat TL_law_9 56 rfl) rfl ?_
    refine w_iconst (v := 1) (zat TL_law_9 57 rfl) (by decide) ?_
    refine w_iadd (zat TL_law_9 58 rfl) ?_
    refine w_sld _ (nI_add i 1) (by rw [hL1]; omega) (by rw [hL1]; omega) (zat TL_law_9 59 rfl) ?_
    refine w_aload_n (zat TL_law_10 0 rfl) rfl ?_
    refine w_iload_n (zat TL_law_10 1 rfl) rfl ?_
    refine w_iconst (v := 2) (zat TL_law_10 2 rfl) (by decide) ?_
    refine w_iadd (zat TL_law_10 3 rfl) ?_
    refine w_sld _ (nI_add i 2) (by rw [hL1]; omega) (by rw [hL1]; omega) (zat TL_law_10 4 rfl) ?_
    refine w_aload_n (zat TL_law_10 5 rfl) rfl ?_
    refine w_iload_n (zat TL_law_10 6 rfl) rfl ?_
    refine w_iconst (v := 3) (zat TL_law_10 7 rfl) (by decide) ?_
    refine w_iadd (zat TL_law_10 8 rfl) ?_
    refine w_sld _ (nI_add i 3) (by rw [hL1]; omega) (by rw [hL1]; omega) (zat TL_law_10 9 rfl) ?_
    refine w_if_eq 921 (zat TL_law_10 10 rfl) (by decide) (fun Hc914 => ?_) (fun Hc914 => ?_)
    · refine w_iconst (v := 0) (zat TL_law_10 13 rfl) (by decide) ?_
      rw [hs1.1]
      refine x_call4 (hM) (by omega) kX14_moves (rdy_V (zat TL_law_10 14 rfl) kX14_moves pX14_moves zw1448 zw1449 zw1450 (zrc (by decide) (by decide) rfl)) (Nat.le_of_ble_eq_true rfl) rfl rfl (fun v h2 hq => ?_) (fun r h2 hq => by obtain ⟨hq, _⟩ := hq; cases hq)
      obtain ⟨hq2, hs2, hI2⟩ := hq
      cases hq2
      refine w_icmp_eq 1036 (zat TL_law_10 15 rfl) (by decide) (fun Hc925 => ?_) (fun Hc925 => ?_)
      · exact K h2 hI2 hs2
      · exact absurd rfl Hc925
    · exact absurd ((congrFun hs1.1 (i + 3)).trans Hc887) Hc914
  · refine w_iconst (v := 1) (zat TL_law_9 50 rfl) (by decide) ?_
    refine w_goto 895 (zat TL_law_9 51 rfl) (by decide) ?_
    obtain ⟨dc, hdc, hP⟩ := Pq.of (pr_moves l h hI (zI h 999 0 (i + 1)) (zI h 999 0 (i + 2)) 1) (by decide) (by decide)
    refine x_call4 (hP) (by omega) kX11_moves (rdy_V (zat TL_law_9 53 rfl) kX11_moves pX11_moves zw882 zw883 zw884 (zrc (by decide) (by decide) rfl)) (Nat.le_of_ble_eq_true rfl) rfl rfl (fun v h1 hq => ?_) (fun r h1 hq => by obtain ⟨_, hq, _⟩ := hq; cases hq)
    obtain ⟨v1, hq1, hk1, hs1, dm, hdm, hM⟩ := hq
    cases hq1
    obtain ⟨x1, rfl⟩ := kd_I hk1 (Or.inl rfl)
    have hL1 : zN h1 999 0 = L := hs1.2.trans hL
    refine w_aload_n (zat TL_law_9 54 rfl) rfl ?_
    refine w_aload_n (zat TL_law_9 55 rfl) rfl ?_
    refine w_iload_n (zat TL_law_9 56 rfl) rfl ?_
    refine w_iconst (v := 1) (zat TL_law_9 57 rfl) (by decide) ?_
    refine w_iadd (zat TL_law_9 58 rfl) ?_
    refine w_sld _ (nI_add i 1) (by rw [hL1]; omega) (by rw [hL1]; omega) (zat TL_law_9 59 rfl) ?_
    refine w_aload_n (zat TL_law_10 0 rfl) rfl ?_
    refine w_iload_n (zat TL_law_10 1 rfl) rfl ?_
    refine w_iconst (v := 2) (zat TL_law_10 2 rfl) (by decide) ?_
    refine w_iadd (zat TL_law_10 3 rfl) ?_
    refine w_sld _ (nI_add i 2) (by rw [hL1]; omega) (by rw [hL1]; omega) (zat TL_law_10 4 rfl) ?_
    refine w_aload_n (zat TL_law_10 5 rfl) rfl ?_
    refine w_iload_n (zat TL_law_10 6 rfl) rfl ?_
    refine w_iconst (v := 3) (zat TL_law_10 7 rfl) (by decide) ?_
    refine w_iadd (zat TL_law_10 8 rfl) ?_
    refine w_sld _ (nI_add i 3) (by rw [hL1]; omega) (by rw [hL1]; omega) (zat TL_law_10 9 rfl) ?_
    refine w_if_eq 921 (zat TL_law_10 10 rfl) (by decide) (fun Hc914 => ?_) (fun Hc914 => ?_)
    · exact absurd ((congrFun hs1.1 (i + 3)).symm.trans Hc914) Hc887
    · refine w_iconst (v := 1) (zat TL_law_10 11 rfl) (by decide) ?_
      refine w_goto 922 (zat TL_law_10 12 rfl) (by decide) ?_
      rw [hs1.1]
      refine x_call4 (hM) (by omega) kX14_moves (rdy_V (zat TL_law_10 14 rfl) kX14_moves pX14_moves zw1448 zw1449 zw1450 (zrc (by decide) (by decide) rfl)) (Nat.le_of_ble_eq_true rfl) rfl rfl (fun v h2 hq => ?_) (fun r h2 hq => by obtain ⟨hq, _⟩ := hq; cases hq)
      obtain ⟨hq2, hs2, hI2⟩ := hq
      cases hq2
      refine w_icmp_eq 1036 (zat TL_law_10 15 rfl) (by decide) (fun Hc925 => ?_) (fun Hc925 => ?_)
      · exact K h2 hI2 hs2
      · exact absurd rfl Hc925
theorem cs_counted (l : Launch) (Q : zO → zH → Prop) (h : zH) (hI : Inv h) (i L : Nat) (hL : zN h 999 0 = L) (hi : i + 6 ≤ L) (hB : L ≤ 3072) (K : ∀ h2, Inv h2 → Sc h h2 → Wp l mL_law 41 1036 [some (Vq (some (999, 0))), some (Vq (some (0, 0))), some (Vq (some (1, 0))), some (Vi (nI i))] [] h2 Q) : Wp l mL_law 41 930 [some (Vq (some (999, 0))), some (Vq (some (0, 0))), some (Vq (some (1, 0))), some (Vi (nI i))] [] h Q := by
  refine w_aload_n (zat TL_law_10 18 rfl) rfl ?_
  refine w_aload_n (zat TL_law_10 19 rfl) rfl ?_
  refine w_iload_n (zat TL_law_10 20 rfl) rfl ?_
  refine w_iconst (v := 1) (zat TL_law_10 21 rfl) (by decide) ?_
  refine w_iadd (zat TL_law_10 22 rfl) ?_
  refine w_sld _ (nI_add i 1) (by rw [hL]; omega) (by rw [hL]; omega) (zat TL_law_10 23 rfl) ?_
  refine w_aload_n (zat TL_law_10 24 rfl) rfl ?_
  refine w_iload_n (zat TL_law_10 25 rfl) rfl ?_
  refine w_iconst (v := 2) (zat TL_law_10 26 rfl) (by decide) ?_
  refine w_iadd (zat TL_law_10 27 rfl) ?_
  refine w_sld _ (nI_add i 2) (by rw [hL]; omega) (by rw [hL]; omega) (zat TL_law_10 28 rfl) ?_
  obtain ⟨dc, hdc, hP⟩ := Pq.of (pr_counted l h hI (zI h 999 0 (i + 1)) (zI h 999 0 (i + 2))) (by decide) (by decide)
  refine x_call3 (hP) (by omega) kX11_counted (rdy_V (zat TL_law_10 29 rfl) kX11_counted pX11_counted zw891 zw892 zw893 (zrc (by decide) (by decide) rfl)) (Nat.le_of_ble_eq_true rfl) rfl rfl (fun v h1 hq => ?_) (fun r h1 hq => by obtain ⟨_, hq, _⟩ := hq; cases hq)
  obtain ⟨v1, hq1, hk1, hs1, dm, hdm, hM⟩ := hq
  cases hq1
  obtain ⟨x1, rfl⟩ := kd_I hk1 (Or.inl rfl)
  have hL1 : zN h1 999 0 = L := hs1.2.trans hL
  refine w_aload_n (zat TL_law_10 30 rfl) rfl ?_
  refine w_aload_n (zat TL_law_10 31 rfl) rfl ?_
  refine w_iload_n (zat TL_law_10 32 rfl) rfl ?_
  refine w_iconst (v := 1) (zat TL_law_10 33 rfl) (by decide) ?_
  refine w_iadd (zat TL_law_10 34 rfl) ?_
  refine w_sld _ (nI_add i 1) (by rw [hL1]; omega) (by rw [hL1]; omega) (zat TL_law_10 35 rfl) ?_
  refine w_aload_n (zat TL_law_10 36 rfl) rfl ?_
  refine w_iload_n (zat TL_law_10 37 rfl) rfl ?_
  refine w_iconst (v := 2) (zat TL_law_10 38 rfl) (by decide) ?_
  refine w_iadd (zat TL_law_10 39 rfl) ?_
  refine w_sld _ (nI_add i 2) (by rw [hL1]; omega) (by rw [hL1]; omega) (zat TL_law_10 40 rfl) ?_
  rw [hs1.1]
  refine x_call3 (hM) (by omega) kX14_counted (rdy_V (zat TL_law_10 41 rfl) kX14_counted pX14_counted zw1457 zw1458 zw1459 (zrc (by decide) (by decide) rfl)) (Nat.le_of_ble_eq_true rfl) rfl rfl (fun v h2 hq => ?_) (fun r h2 hq => by obtain ⟨hq, _⟩ := hq; cases hq)
  obtain ⟨hq2, hs2, hI2⟩ := hq
  cases hq2
  refine w_icmp_eq 1036 (zat TL_law_10 42 rfl) (by decide) (fun Hc958 => ?_) (fun Hc958 => ?_)
  · exact K h2 hI2 hs2
  · exact absurd rfl Hc958
theorem cs_missing (l : Launch) (Q : zO → zH → Prop) (h : zH) (hI : Inv h) (i L : Nat) (hL : zN h 999 0 = L) (hi : i + 6 ≤ L) (hB : L ≤ 3072) (K : ∀ h2, Inv h2 → Sc h h2 → Wp l mL_law 41 1036 [some (Vq (some (999, 0))), some (Vq (some (0, 0))), some (Vq (some (1, 0))), some (Vi (nI i))] [] h2 Q) : Wp l mL_law 41 963 [some (Vq (some (999, 0))), some (Vq (some (0, 0))), some (Vq (some (1, 0))), some (Vi (nI i))] [] h Q := by
  refine w_aload_n (zat TL_law_10 45 rfl) rfl ?_
  refine w_aload_n (zat TL_law_10 46 rfl) rfl ?_
  refine w_iload_n (zat TL_law_10 47 rfl) rfl ?_
  refine w_iconst (v := 1) (zat TL_law_10 48 rfl) (by decide) ?_
  refine w_iadd (zat TL_law_10 49 rfl) ?_
  refine w_sld _ (nI_add i 1) (by rw [hL]; omega) (by rw [hL]; omega) (zat TL_law_10 50 rfl) ?_
  obtain ⟨dc, hdc, hP⟩ := Pq.of (pr_missing l h hI (zI h 999 0 (i + 1))) (by decide) (by decide)
  refine x_call2 (hP) (by omega) kX11_missing (rdy_V (zat TL_law_10 51 rfl) kX11_missing pX11_missing zw896 zw897 zw898 (zrc (by decide) (by decide) rfl)) (Nat.le_of_ble_eq_true rfl) rfl rfl (fun v h1 hq => ?_) (fun r h1 hq => by obtain ⟨_, hq, _⟩ := hq; cases hq)
  obtain ⟨v1, hq1, hk1, hs1, dm, hdm, hM⟩ := hq
  cases hq1
  obtain ⟨x1, rfl⟩ := kd_J hk1 rfl
  have hL1 : zN h1 999 0 = L := hs1.2.trans hL
  refine w_aload_n (zat TL_law_10 52 rfl) rfl ?_
  refine w_aload_n (zat TL_law_10 53 rfl) rfl ?_
  refine w_iload_n (zat TL_law_10 54 rfl) rfl ?_
  refine w_iconst (v := 1) (zat TL_law_10 55 rfl) (by decide) ?_
  refine w_iadd (zat TL_law_10 56 rfl) ?_
  refine w_sld _ (nI_add i 1) (by rw [hL1]; omega) (by rw [hL1]; omega) (zat TL_law_10 57 rfl) ?_
  rw [hs1.1]
  refine x_call2 (hM) (by omega) kX14_missing (rdy_V (zat TL_law_10 58 rfl) kX14_missing pX14_missing zw1461 zw1462 zw1463 (zrc (by decide) (by decide) rfl)) (Nat.le_of_ble_eq_true rfl) rfl rfl (fun v h2 hq => ?_) (fun r h2 hq => by obtain ⟨hq, _⟩ := hq; cases hq)
  obtain ⟨hq2, hs2, hI2⟩ := hq
  cases hq2
  refine w_lcmp (zat TL_law_10 59 rfl) ?_
  refine w_if_eq 1036 (zat TL_law_11 0 rfl) (by decide) (fun Hc982 => ?_) (fun Hc982 => ?_)
  · exact K h2 hI2 hs2
  · exact absurd (lg_same _) Hc982
theorem cs_worst (l : Launch) (Q : zO → zH → Prop) (h : zH) (hI : Inv h) (i L : Nat) (hL : zN h 999 0 = L) (hi : i + 6 ≤ L) (hB : L ≤ 3072) (K : ∀ h2, Inv h2 → Sc h h2 → Wp l mL_law 41 1036 [some (Vq (some (999, 0))), some (Vq (some (0, 0))), some (Vq (some (1, 0))), some (Vi (nI i))] [] h2 Q) : Wp l mL_law 41 987 [some (Vq (some (999, 0))), some (Vq (some (0, 0))), some (Vq (some (1, 0))), some (Vi (nI i))] [] h Q := by
  refine w_aload_n (zat TL_law_11 3 rfl) rfl ?_
  obtain ⟨dc, hdc, hP⟩ := Pq.of (pr_worst l h hI ) (by decide) (by decide)
  refine x_call1 (hP) (by omega) kX11_worst (rdy_V (zat TL_law_11 4 rfl) kX11_worst pX11_worst zw900 zw901 zw902 (zrc (by decide) (by decide) rfl)) (Nat.le_of_ble_eq_true rfl) rfl rfl (fun v h1 hq => ?_) (fun r h1 hq => by obtain ⟨_, hq, _⟩ := hq; cases hq)
  obtain ⟨v1, hq1, hk1, hs1, dm, hdm, hM⟩ := hq
  cases hq1
  obtain ⟨x1, rfl⟩ := kd_I hk1 (Or.inl rfl)
  have hL1 : zN h1 999 0 = L := hs1.2.trans hL
  refine w_aload_n (zat TL_law_11 5 rfl) rfl ?_
  refine x_call1 (hM) (by omega) kX14_worst (rdy_V (zat TL_law_11 6 rfl) kX14_worst pX14_worst zw1465 zw1466 zw1467 (zrc (by decide) (by decide) rfl)) (Nat.le_of_ble_eq_true rfl) rfl rfl (fun v h2 hq => ?_) (fun r h2 hq => by obtain ⟨hq, _⟩ := hq; cases hq)
  obtain ⟨hq2, hs2, hI2⟩ := hq
  cases hq2
  refine w_icmp_eq 1036 (zat TL_law_11 7 rfl) (by decide) (fun Hc995 => ?_) (fun Hc995 => ?_)
  · exact K h2 hI2 hs2
  · exact absurd rfl Hc995
theorem cs_count (l : Launch) (Q : zO → zH → Prop) (h : zH) (hI : Inv h) (i L : Nat) (hL : zN h 999 0 = L) (hi : i + 6 ≤ L) (hB : L ≤ 3072) (K : ∀ h2, Inv h2 → Sc h h2 → Wp l mL_law 41 1036 [some (Vq (some (999, 0))), some (Vq (some (0, 0))), some (Vq (some (1, 0))), some (Vi (nI i))] [] h2 Q) : Wp l mL_law 41 1000 [some (Vq (some (999, 0))), some (Vq (some (0, 0))), some (Vq (some (1, 0))), some (Vi (nI i))] [] h Q := by
  refine w_aload_n (zat TL_law_11 10 rfl) rfl ?_
  refine w_aload_n (zat TL_law_11 11 rfl) rfl ?_
  refine w_iload_n (zat TL_law_11 12 rfl) rfl ?_
  refine w_iconst (v := 1) (zat TL_law_11 13 rfl) (by decide) ?_
  refine w_iadd (zat TL_law_11 14 rfl) ?_
  refine w_sld _ (nI_add i 1) (by rw [hL]; omega) (by rw [hL]; omega) (zat TL_law_11 15 rfl) ?_
  obtain ⟨dc, hdc, hP⟩ := Pq.of (pr_count l h hI (zI h 999 0 (i + 1))) (by decide) (by decide)
  refine x_call2 (hP) (by omega) kX11_count (rdy_V (zat TL_law_11 16 rfl) kX11_count pX11_count zw904 zw905 zw906 (zrc (by decide) (by decide) rfl)) (Nat.le_of_ble_eq_true rfl) rfl rfl (fun v h1 hq => ?_) (fun r h1 hq => by obtain ⟨_, hq, _⟩ := hq; cases hq)
  obtain ⟨v1, hq1, hk1, hs1, dm, hdm, hM⟩ := hq
  cases hq1
  obtain ⟨x1, rfl⟩ := kd_I hk1 (Or.inl rfl)
  have hL1 : zN h1 999 0 = L := hs1.2.trans hL
  refine w_aload_n (zat TL_law_11 17 rfl) rfl ?_
  refine w_aload_n (zat TL_law_11 18 rfl) rfl ?_
  refine w_iload_n (zat TL_law_11 19 rfl) rfl ?_
  refine w_iconst (v := 1) (zat TL_law_11 20 rfl) (by decide) ?_
  refine w_iadd (zat TL_law_11 21 rfl) ?_
  refine w_sld _ (nI_add i 1) (by rw [hL1]; omega) (by rw [hL1]; omega) (zat TL_law_11 22 rfl) ?_
  rw [hs1.1]
  refine x_call2 (hM) (by omega) kX14_count (rdy_V (zat TL_law_11 23 rfl) kX14_count pX14_count zw1469 zw1470 zw1471 (zrc (by decide) (by decide) rfl)) (Nat.le_of_ble_eq_true rfl) rfl rfl (fun v h2 hq => ?_) (fun r h2 hq => by obtain ⟨hq, _⟩ := hq; cases hq)
  obtain ⟨hq2, hs2, hI2⟩ := hq
  cases hq2
  refine w_icmp_eq 1036 (zat TL_law_11 24 rfl) (by decide) (fun Hc1018 => ?_) (fun Hc1018 => ?_)
  · exact K h2 hI2 hs2
  · exact absurd rfl Hc1018
theorem cs_trouble (l : Launch) (Q : zO → zH → Prop) (h : zH) (hI : Inv h) (i L : Nat) (hL : zN h 999 0 = L) (hi : i + 6 ≤ L) (hB : L ≤ 3072) (K : ∀ h2, Inv h2 → Sc h h2 → Wp l mL_law 41 1036 [some (Vq (some (999, 0))), some (Vq (some (0, 0))), some (Vq (some (1, 0))), some (Vi (nI i))] [] h2 Q) : Wp l mL_law 41 1023 [some (Vq (some (999, 0))), some (Vq (some (0, 0))), some (Vq (some (1, 0))), some (Vi (nI i))] [] h Q := by
  refine w_aload_n (zat TL_law_11 27 rfl) rfl ?_
  obtain ⟨dc, hdc, hP⟩ := Pq.of (pr_trouble l h hI ) (by decide) (by decide)
  refine x_call1 (hP) (by omega) kX11_trouble (rdy_V (zat TL_law_11 28 rfl) kX11_trouble pX11_trouble zw912 zw913 zw914 (zrc (by decide) (by decide) rfl)) (Nat.le_of_ble_eq_true rfl) rfl rfl (fun v h1 hq => ?_) (fun r h1 hq => by obtain ⟨_, hq, _⟩ := hq; cases hq)
  obtain ⟨v1, hq1, hk1, hs1, dm, hdm, hM⟩ := hq
  cases hq1
  obtain ⟨x1, rfl⟩ := kd_I hk1 (Or.inl rfl)
  have hL1 : zN h1 999 0 = L := hs1.2.trans hL
  refine w_aload_n (zat TL_law_11 29 rfl) rfl ?_
  refine x_call1 (hM) (by omega) kX14_trouble (rdy_V (zat TL_law_11 30 rfl) kX14_trouble pX14_trouble zw1473 zw1474 zw1475 (zrc (by decide) (by decide) rfl)) (Nat.le_of_ble_eq_true rfl) rfl rfl (fun v h2 hq => ?_) (fun r h2 hq => by obtain ⟨hq, _⟩ := hq; cases hq)
  obtain ⟨hq2, hs2, hI2⟩ := hq
  cases hq2
  refine w_icmp_eq 1036 (zat TL_law_11 31 rfl) (by decide) (fun Hc1031 => ?_) (fun Hc1031 => ?_)
  · exact K h2 hI2 hs2
  · exact absurd rfl Hc1031
