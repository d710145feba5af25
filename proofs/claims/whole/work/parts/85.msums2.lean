-- sums of the model's parser, by program (wip/gen/p85.py)
theorem qX14_readOne_0 (l : Launch) (h0 : zH) (hWM0 : Wm h0) (e : Nat) (hC : zC h0 17 = e + 1) (n : Nat) (B : Nat → Nat) (hX0 : Tx h0 19 n B) (hn0 : zI h0 1 0 20 = nI n) (N : Nat) (hT : Tkk (tkB B n) N) (i s d : Nat) (its : List (Nat × Int32)) (h : zH) (hi : i < N) (h6 : s ≤ 60) (hl : its.length ≤ i) (hP : Pm e h0 h B n i s d its) (hd : d = 8) : Ct l 8 mX14_readOne [Vq (some (1, 0))] h (MPo e h0 B n d its (oneD (tkB B n) 0 i s)) := by
  have hWM := Wm.same hP.1.1 hWM0
  have hsp : zR h 1 0 16 = some (17, e) := by
    have h1 := hWM.2.2.1.2.1
    rw [show zC h 17 = e + 1 by unfold zC; rw [hP.1.1]; exact hC] at h1
    exact h1
  have hS := hP.2.1.1
  have huk := hT.2.2.1 i hi
  unfold uok at huk
  refine Ct.in 0 kX14_readOne (plainFor_of_name rfl) (Nat.le_of_ble_eq_true rfl) ?_
  refine w_aload_n (zat TX14_readOne_0 0 rfl) rfl ?_
  refine w_getI (zat TX14_readOne_0 1 rfl) fX14_166 s1 (by decide) (by decide) rfl ?_
  refine w_iconst (v := 3) (zat TX14_readOne_0 2 rfl) (by decide) ?_
  refine w_icmp_ne 27 (zat TX14_readOne_0 3 rfl) (by decide) (fun Hc5 => ?_) (fun Hc5 => ?_)
  · rw [hS.srt.2.2.2] at Hc5
    refine w_aload_n (zat TX14_readOne_0 13 rfl) rfl ?_
    refine w_bipush (v := 40) (zat TX14_readOne_0 14 rfl) (by decide) ?_
    refine x_callv2 (qX14_is l h ((tkB B n) i) hS 18 (by omega) (by omega) 40 (by decide)) (by omega) kX14_is (rdy_V (zat TX14_readOne_0 15 rfl) kX14_is pX14_is zw1275 zw1277 zw43 (zrc (by decide) (by decide) rfl)) (Nat.le_of_ble_eq_true rfl) rfl rfl ?_
    refine w_if_eq 101 (zat TX14_readOne_0 16 rfl) (by decide) (fun Hc33 => ?_) (fun Hc33 => ?_)
    · rw [zb_0] at Hc33
      refine w_aload_n (zat TX14_readOne_0 52 rfl) rfl ?_
      refine w_getR (zat TX14_readOne_0 53 rfl) fX14_42 s1 (by decide) (by decide) rfl hsp ?_
      refine w_iconst (v := 1) (zat TX14_readOne_0 54 rfl) (by decide) ?_
      refine w_aload_n (zat TX14_readOne_0 55 rfl) rfl ?_
      by_cases hnm : 6 ≤ tkB B n i ∧ tkB B n i ≤ 9
      · have hP1 := hP.put 1 (nI (tkB B n i - 6))
        refine x_callv1 (qX14_nameHere_s l h hWM ((tkB B n) i) hS hnm) (by omega) kX14_nameHere (rdy_V (zat TX14_readOne_0 56 rfl) kX14_nameHere pX14_nameHere zw1279 zw1281 zw44 (zrc (by decide) (by decide) rfl)) (Nat.le_of_ble_eq_true rfl) rfl rfl ?_
        refine x_callu3 (qX12_put l h hWM e (by unfold zC; rw [hP.1.1]; exact (show e < zC h0 17 by rw [hC]; omega)) its.length hP.2.2.2.2.1 (by have := hT.2.1; omega) _ _) (by omega) kX12_put (rdy_V (zat TX14_readOne_0 57 rfl) kX12_put pX12_put zw1301 zw1302 zw1303 (zrc (by decide) (by decide) rfl)) (Nat.le_of_ble_eq_true rfl) rfl rfl ?_
        refine w_aload_n (zat TX14_readOne_0 58 rfl) rfl ?_
        refine x_call1 (qX14_next_p l h0 hWM0 e hC n B hX0 hn0 i s d (its ++ [(1, nI (tkB B n i - 6))]) _ hP1 (by omega)) (by omega) kX14_next (rdy_V (zat TX14_readOne_0 59 rfl) kX14_next pX14_next zw1240 zw1242 zw38 (zrc (by decide) (by decide) rfl)) (Nat.le_of_ble_eq_true rfl) rfl rfl (fun v h2 hq => ?_) (fun r h2 hq => by cases hq.1)
        obtain ⟨hq1, hP2⟩ := hq
        cases hq1
        refine w_return (zat TX14_readOne_1 0 rfl) rfl ?_
        rw [show oneD (tkB B n) 0 i s = .inr ([itO (tkB B n i)], i + 1, s) from oneP_v (sub := none) (s := s) (fo_0 (by omega)) Hc33, show itO (tkB B n i) = (1, nI (tkB B n i - 6)) from if_neg (by omega)]
        exact ⟨rfl, hP2⟩
      · by_cases h10 : tkB B n i = 10
        · have hfo := fo_2 h10
          refine x_call1 (qX14_nameHere_2 l h hWM ((tkB B n) i) hS h10) (by omega) kX14_nameHere (rdy_V (zat TX14_readOne_0 56 rfl) kX14_nameHere pX14_nameHere zw1279 zw1281 zw44 (zrc (by decide) (by decide) rfl)) (Nat.le_of_ble_eq_true rfl) rfl rfl (fun v h9 hq => by cases hq.1) (fun r h9 hq => ?_)
          obtain ⟨hq1, hq2⟩ := hq
          cases hq1
          rw [hq2, show oneD (tkB B n) 0 i s = .inl (fo (tkB B n i), i) from oneP_f (sub := none) (s := s) (by rw [hfo]; decide), hfo]
          exact ⟨rfl, hP.st 2⟩
        · have hfo : fo (tkB B n i) = 1 := fo_1 h10 (by omega)
          refine x_call1 (qX14_nameHere_1 l h hWM ((tkB B n) i) hS (by omega)) (by omega) kX14_nameHere (rdy_V (zat TX14_readOne_0 56 rfl) kX14_nameHere pX14_nameHere zw1279 zw1281 zw44 (zrc (by decide) (by decide) rfl)) (Nat.le_of_ble_eq_true rfl) rfl rfl (fun v h9 hq => by cases hq.1) (fun r h9 hq => ?_)
          obtain ⟨hq1, hq2⟩ := hq
          cases hq1
          rw [hq2, show oneD (tkB B n) 0 i s = .inl (fo (tkB B n i), i) from oneP_f (sub := none) (s := s) (by rw [hfo]; decide), hfo]
          exact ⟨rfl, hP.st 1⟩
    · rw [zb_0, Decidable.not_not] at Hc33
      refine w_aload_n (zat TX14_readOne_0 17 rfl) rfl ?_
      refine y_getI (v := nI d) (zat TX14_readOne_0 18 rfl) fX14_216 s1 (by decide) (by decide) rfl hP.2.2.2.1 ?_
      refine w_bipush (v := 8) (zat TX14_readOne_0 19 rfl) (by decide) ?_
      refine w_icmp_ne 51 (zat TX14_readOne_0 20 rfl) (by decide) (fun Hc42 => ?_) (fun Hc42 => ?_)
      · exact absurd (by rw [show d = 8 by omega]; rfl) Hc42
      · refine w_aload_n (zat TX14_readOne_0 21 rfl) rfl ?_
        refine w_iconst (v := 3) (zat TX14_readOne_0 22 rfl) (by decide) ?_
        refine x_callv2 (qX14_stop l h hWM 3) (by omega) kX14_stop (rdy_V (zat TX14_readOne_0 23 rfl) kX14_stop pX14_stop zw1266 zw1268 zw41 (zrc (by decide) (by decide) rfl)) (Nat.le_of_ble_eq_true rfl) rfl rfl ?_
        refine w_athrow (zat TX14_readOne_0 24 rfl) (zct_out rfl) ?_
        rw [show oneD (tkB B n) 0 i s = .inl (3, i) from oneP_n (fo_0 (Or.inr (Or.inr Hc33))) Hc33]
        exact ⟨rfl, hP.st 3⟩
  · rw [hS.srt.2.2.2] at Hc5
    have hnum := hS.num Hc5
    have hP1 := hP.put 0 (nI (tkB B n i - 100))
    refine w_aload_n (zat TX14_readOne_0 4 rfl) rfl ?_
    refine w_getR (zat TX14_readOne_0 5 rfl) fX14_42 s1 (by decide) (by decide) rfl hsp ?_
    refine w_iconst (v := 0) (zat TX14_readOne_0 6 rfl) (by decide) ?_
    refine w_aload_n (zat TX14_readOne_0 7 rfl) rfl ?_
    refine y_getI (v := nI (((tkB B n) i) - 100)) (zat TX14_readOne_0 8 rfl) fX14_182 s1 (by decide) (by decide) rfl hnum ?_
    refine x_callu3 (qX12_put l h hWM e (by unfold zC; rw [hP.1.1]; exact (show e < zC h0 17 by rw [hC]; omega)) its.length hP.2.2.2.2.1 (by have := hT.2.1; omega) _ _) (by omega) kX12_put (rdy_V (zat TX14_readOne_0 9 rfl) kX12_put pX12_put zw1301 zw1302 zw1303 (zrc (by decide) (by decide) rfl)) (Nat.le_of_ble_eq_true rfl) rfl rfl ?_
    refine w_aload_n (zat TX14_readOne_0 10 rfl) rfl ?_
    refine x_call1 (qX14_next_p l h0 hWM0 e hC n B hX0 hn0 i s d (its ++ [(0, nI (tkB B n i - 100))]) _ hP1 (by omega)) (by omega) kX14_next (rdy_V (zat TX14_readOne_0 11 rfl) kX14_next pX14_next zw1240 zw1242 zw38 (zrc (by decide) (by decide) rfl)) (Nat.le_of_ble_eq_true rfl) rfl rfl (fun v h2 hq => ?_) (fun r h2 hq => by cases hq.1)
    obtain ⟨hq1, hP2⟩ := hq
    cases hq1
    refine w_goto 117 (zat TX14_readOne_0 12 rfl) (by decide) ?_
    refine w_return (zat TX14_readOne_1 0 rfl) rfl ?_
    rw [show oneD (tkB B n) 0 i s = .inr ([itO (tkB B n i)], i + 1, s) from oneP_v (sub := none) (s := s) (fo_0 (Or.inl Hc5)) (by omega), show itO (tkB B n i) = (0, nI (tkB B n i - 100)) from if_pos Hc5]
    exact ⟨rfl, hP2⟩
theorem qX14_readOne_s (l : Launch) (h0 : zH) (hWM0 : Wm h0) (e : Nat) (hC : zC h0 17 = e + 1) (n : Nat) (B : Nat → Nat) (hX0 : Tx h0 19 n B) (hn0 : zI h0 1 0 20 = nI n) (N : Nat) (hT : Tkk (tkB B n) N) (d1 : Nat) (i s d : Nat) (its : List (Nat × Int32)) (h : zH) (hi : i < N) (h6 : s ≤ 60) (hl : its.length ≤ i) (hP : Pm e h0 h B n i s d its) (hd : d + (d1 + 1) = 8) (ihS : ∀ (i s : Nat) (its : List (Nat × Int32)) (h : zH), i < N → s ≤ 60 → its.length ≤ i → Pm e h0 h B n i s (d + 1) its → Ct l (3 * d1 + 10) mX14_readSum [Vq (some (1, 0))] h (MPo e h0 B n (d + 1) its (sumD (tkB B n) d1 i s))) : Ct l (3 * d1 + 11) mX14_readOne [Vq (some (1, 0))] h (MPo e h0 B n d its (oneD (tkB B n) (d1 + 1) i s)) := by
  have hWM := Wm.same hP.1.1 hWM0
  have hsp : zR h 1 0 16 = some (17, e) := by
    have h1 := hWM.2.2.1.2.1
    rw [show zC h 17 = e + 1 by unfold zC; rw [hP.1.1]; exact hC] at h1
    exact h1
  have hS := hP.2.1.1
  have huk := hT.2.2.1 i hi
  unfold uok at huk
  refine Ct.in 0 kX14_readOne (plainFor_of_name rfl) (Nat.le_of_ble_eq_true rfl) ?_
  refine w_aload_n (zat TX14_readOne_0 0 rfl) rfl ?_
  refine w_getI (zat TX14_readOne_0 1 rfl) fX14_166 s1 (by decide) (by decide) rfl ?_
  refine w_iconst (v := 3) (zat TX14_readOne_0 2 rfl) (by decide) ?_
  refine w_icmp_ne 27 (zat TX14_readOne_0 3 rfl) (by decide) (fun Hc5 => ?_) (fun Hc5 => ?_)
  · rw [hS.srt.2.2.2] at Hc5
    refine w_aload_n (zat TX14_readOne_0 13 rfl) rfl ?_
    refine w_bipush (v := 40) (zat TX14_readOne_0 14 rfl) (by decide) ?_
    refine x_callv2 (qX14_is l h ((tkB B n) i) hS 18 (by omega) (by omega) 40 (by decide)) (by omega) kX14_is (rdy_V (zat TX14_readOne_0 15 rfl) kX14_is pX14_is zw1275 zw1277 zw43 (zrc (by decide) (by decide) rfl)) (Nat.le_of_ble_eq_true rfl) rfl rfl ?_
    refine w_if_eq 101 (zat TX14_readOne_0 16 rfl) (by decide) (fun Hc33 => ?_) (fun Hc33 => ?_)
    · rw [zb_0] at Hc33
      refine w_aload_n (zat TX14_readOne_0 52 rfl) rfl ?_
      refine w_getR (zat TX14_readOne_0 53 rfl) fX14_42 s1 (by decide) (by decide) rfl hsp ?_
      refine w_iconst (v := 1) (zat TX14_readOne_0 54 rfl) (by decide) ?_
      refine w_aload_n (zat TX14_readOne_0 55 rfl) rfl ?_
      by_cases hnm : 6 ≤ tkB B n i ∧ tkB B n i ≤ 9
      · have hP1 := hP.put 1 (nI (tkB B n i - 6))
        refine x_callv1 (qX14_nameHere_s l h hWM ((tkB B n) i) hS hnm) (by omega) kX14_nameHere (rdy_V (zat TX14_readOne_0 56 rfl) kX14_nameHere pX14_nameHere zw1279 zw1281 zw44 (zrc (by decide) (by decide) rfl)) (Nat.le_of_ble_eq_true rfl) rfl rfl ?_
        refine x_callu3 (qX12_put l h hWM e (by unfold zC; rw [hP.1.1]; exact (show e < zC h0 17 by rw [hC]; omega)) its.length hP.2.2.2.2.1 (by have := hT.2.1; omega) _ _) (by omega) kX12_put (rdy_V (zat TX14_readOne_0 57 rfl) kX12_put pX12_put zw1301 zw1302 zw1303 (zrc (by decide) (by decide) rfl)) (Nat.le_of_ble_eq_true rfl) rfl rfl ?_
        refine w_aload_n (zat TX14_readOne_0 58 rfl) rfl ?_
        refine x_call1 (qX14_next_p l h0 hWM0 e hC n B hX0 hn0 i s d (its ++ [(1, nI (tkB B n i - 6))]) _ hP1 (by omega)) (by omega) kX14_next (rdy_V (zat TX14_readOne_0 59 rfl) kX14_next pX14_next zw1240 zw1242 zw38 (zrc (by decide) (by decide) rfl)) (Nat.le_of_ble_eq_true rfl) rfl rfl (fun v h2 hq => ?_) (fun r h2 hq => by cases hq.1)
        obtain ⟨hq1, hP2⟩ := hq
        cases hq1
        refine w_return (zat TX14_readOne_1 0 rfl) rfl ?_
        rw [show oneD (tkB B n) (d1 + 1) i s = .inr ([itO (tkB B n i)], i + 1, s) from oneP_v (sub := (some (sumD (tkB B n) d1))) (s := s) (fo_0 (by omega)) Hc33, show itO (tkB B n i) = (1, nI (tkB B n i - 6)) from if_neg (by omega)]
        exact ⟨rfl, hP2⟩
      · by_cases h10 : tkB B n i = 10
        · have hfo := fo_2 h10
          refine x_call1 (qX14_nameHere_2 l h hWM ((tkB B n) i) hS h10) (by omega) kX14_nameHere (rdy_V (zat TX14_readOne_0 56 rfl) kX14_nameHere pX14_nameHere zw1279 zw1281 zw44 (zrc (by decide) (by decide) rfl)) (Nat.le_of_ble_eq_true rfl) rfl rfl (fun v h9 hq => by cases hq.1) (fun r h9 hq => ?_)
          obtain ⟨hq1, hq2⟩ := hq
          cases hq1
          rw [hq2, show oneD (tkB B n) (d1 + 1) i s = .inl (fo (tkB B n i), i) from oneP_f (sub := (some (sumD (tkB B n) d1))) (s := s) (by rw [hfo]; decide), hfo]
          exact ⟨rfl, hP.st 2⟩
        · have hfo : fo (tkB B n i) = 1 := fo_1 h10 (by omega)
          refine x_call1 (qX14_nameHere_1 l h hWM ((tkB B n) i) hS (by omega)) (by omega) kX14_nameHere (rdy_V (zat TX14_readOne_0 56 rfl) kX14_nameHere pX14_nameHere zw1279 zw1281 zw44 (zrc (by decide) (by decide) rfl)) (Nat.le_of_ble_eq_true rfl) rfl rfl (fun v h9 hq => by cases hq.1) (fun r h9 hq => ?_)
          obtain ⟨hq1, hq2⟩ := hq
          cases hq1
          rw [hq2, show oneD (tkB B n) (d1 + 1) i s = .inl (fo (tkB B n i), i) from oneP_f (sub := (some (sumD (tkB B n) d1))) (s := s) (by rw [hfo]; decide), hfo]
          exact ⟨rfl, hP.st 1⟩
    · rw [zb_0, Decidable.not_not] at Hc33
      refine w_aload_n (zat TX14_readOne_0 17 rfl) rfl ?_
      refine y_getI (v := nI d) (zat TX14_readOne_0 18 rfl) fX14_216 s1 (by decide) (by decide) rfl hP.2.2.2.1 ?_
      refine w_bipush (v := 8) (zat TX14_readOne_0 19 rfl) (by decide) ?_
      refine w_icmp_ne 51 (zat TX14_readOne_0 20 rfl) (by decide) (fun Hc42 => ?_) (fun Hc42 => ?_)
      · have hon := hT.on hi (by omega) (by omega)
        have hP1 := hP.w26 (d + 1)
        refine w_aload_n (zat TX14_readOne_0 25 rfl) rfl ?_
        refine w_dup (zat TX14_readOne_0 26 rfl) rfl ?_
        refine y_getI (v := nI d) (zat TX14_readOne_0 27 rfl) fX14_216 s1 (by decide) (by decide) rfl hP.2.2.2.1 ?_
        refine w_iconst (v := 1) (zat TX14_readOne_0 28 rfl) (by decide) ?_
        refine w_iadd (zat TX14_readOne_0 29 rfl) ?_
        rw [nI_1]
        refine w_putI (zat TX14_readOne_0 30 rfl) gX14_readOne_216 s1 (by decide) (by decide) rfl ⟨rfl, rfl⟩ ?_
        refine w_aload_n (zat TX14_readOne_0 31 rfl) rfl ?_
        refine x_call1 (qX14_next_p l h0 hWM0 e hC n B hX0 hn0 i s (d + 1) its _ hP1 (by omega)) (by omega) kX14_next (rdy_V (zat TX14_readOne_0 32 rfl) kX14_next pX14_next zw1240 zw1242 zw38 (zrc (by decide) (by decide) rfl)) (Nat.le_of_ble_eq_true rfl) rfl rfl (fun v h2 hq => ?_) (fun r h2 hq => by cases hq.1)
        obtain ⟨hq1, hP2⟩ := hq
        cases hq1
        refine w_aload_n (zat TX14_readOne_0 33 rfl) rfl ?_
        have hc := ihS (i + 1) s its h2 hon h6 (by omega) hP2
        rw [show oneD (tkB B n) (d1 + 1) i s = _ from oneP_s (fo_0 (Or.inr (Or.inr Hc33))) Hc33]
        cases hr : sumD (tkB B n) d1 (i + 1) s with
        | inl q =>
          rw [hr] at hc
          refine x_call1 (hc) (by omega) kX14_readSum (rdy_V (zat TX14_readOne_0 34 rfl) kX14_readSum pX14_readSum zw1289 zw1291 zw45 (zrc (by decide) (by decide) rfl)) (Nat.le_of_ble_eq_true rfl) rfl rfl (fun v h9 hq => by cases hq.1) (fun r h9 hq => ?_)
          obtain ⟨hq1, hq2⟩ := hq
          cases hq1
          exact ⟨rfl, hq2⟩
        | inr r =>
          obtain ⟨ys, j, sx⟩ := r
          rw [hr] at hc
          refine x_call1 (hc) (by omega) kX14_readSum (rdy_V (zat TX14_readOne_0 34 rfl) kX14_readSum pX14_readSum zw1289 zw1291 zw45 (zrc (by decide) (by decide) rfl)) (Nat.le_of_ble_eq_true rfl) rfl rfl (fun v h3 hq => ?_) (fun r h3 hq => by cases hq.1)
          obtain ⟨hq1, hP3⟩ := hq
          cases hq1
          replace hP3 : Pm e h0 h3 B n j sx (d + 1) (its ++ ys) := hP3
          have hg := sumD_ok hT d1 (i + 1) s hon h6
          rw [hr] at hg
          obtain ⟨g1, g2, g3, g4, g5, g6⟩ := hg
          have hWM3 := Wm.same hP3.1.1 hWM0
          have hsp3 : zR h3 1 0 16 = some (17, e) := by
            have h1 := hWM3.2.2.1.2.1
            rw [show zC h3 17 = e + 1 by unfold zC; rw [hP3.1.1]; exact hC] at h1
            exact h1
          refine w_aload_n (zat TX14_readOne_0 35 rfl) rfl ?_
          refine w_bipush (v := 41) (zat TX14_readOne_0 36 rfl) (by decide) ?_
          refine x_callv2 (qX14_is l h3 (tkB B n j) hP3.2.1.1 19 (by omega) (by omega) 41 (by decide)) (by omega) kX14_is (rdy_V (zat TX14_readOne_0 37 rfl) kX14_is pX14_is zw1275 zw1277 zw43 (zrc (by decide) (by decide) rfl)) (Nat.le_of_ble_eq_true rfl) rfl rfl ?_
          refine w_if_ne 84 (zat TX14_readOne_0 38 rfl) (by decide) (fun Hc75 => ?_) (fun Hc75 => ?_)
          · rw [zb_0, Decidable.not_not] at Hc75
            refine w_aload_n (zat TX14_readOne_0 43 rfl) rfl ?_
            refine x_call1 (qX14_next_p l h0 hWM0 e hC n B hX0 hn0 j sx (d + 1) (its ++ ys) _ hP3 (by omega)) (by omega) kX14_next (rdy_V (zat TX14_readOne_0 44 rfl) kX14_next pX14_next zw1240 zw1242 zw38 (zrc (by decide) (by decide) rfl)) (Nat.le_of_ble_eq_true rfl) rfl rfl (fun v h4 hq => ?_) (fun r h4 hq => by cases hq.1)
            obtain ⟨hq1, hP4⟩ := hq
            cases hq1
            have hP5 := hP4.w26 d
            refine w_aload_n (zat TX14_readOne_0 45 rfl) rfl ?_
            refine w_dup (zat TX14_readOne_0 46 rfl) rfl ?_
            refine y_getI (v := nI (d + 1)) (zat TX14_readOne_0 47 rfl) fX14_216 s1 (by decide) (by decide) rfl hP4.2.2.2.1 ?_
            refine w_iconst (v := 1) (zat TX14_readOne_0 48 rfl) (by decide) ?_
            refine w_isub (zat TX14_readOne_0 49 rfl) ?_
            rw [nI_pred]
            refine w_putI (zat TX14_readOne_0 50 rfl) gX14_readOne_216 s1 (by decide) (by decide) rfl ⟨rfl, rfl⟩ ?_
            refine w_goto 117 (zat TX14_readOne_0 51 rfl) (by decide) ?_
            refine w_return (zat TX14_readOne_1 0 rfl) rfl ?_
            show MPo e h0 B n d its (if tkB B n j = 19 then .inr (ys, j + 1, sx) else .inl (1, j)) _ _
            rw [if_pos Hc75]
            exact ⟨rfl, hP5⟩
          · rw [zb_0] at Hc75
            refine w_aload_n (zat TX14_readOne_0 39 rfl) rfl ?_
            refine w_iconst (v := 1) (zat TX14_readOne_0 40 rfl) (by decide) ?_
            refine x_callv2 (qX14_stop l h3 hWM3 1) (by omega) kX14_stop (rdy_V (zat TX14_readOne_0 41 rfl) kX14_stop pX14_stop zw1266 zw1268 zw41 (zrc (by decide) (by decide) rfl)) (Nat.le_of_ble_eq_true rfl) rfl rfl ?_
            refine w_athrow (zat TX14_readOne_0 42 rfl) (zct_out rfl) ?_
            show MPo e h0 B n d its (if tkB B n j = 19 then .inr (ys, j + 1, sx) else .inl (1, j)) _ _
            rw [if_neg Hc75]
            exact ⟨rfl, hP3.st 1⟩
      · exact absurd (nIe (b := 8) (by omega) (by omega) Hc42) (by omega)
  · rw [hS.srt.2.2.2] at Hc5
    have hnum := hS.num Hc5
    have hP1 := hP.put 0 (nI (tkB B n i - 100))
    refine w_aload_n (zat TX14_readOne_0 4 rfl) rfl ?_
    refine w_getR (zat TX14_readOne_0 5 rfl) fX14_42 s1 (by decide) (by decide) rfl hsp ?_
    refine w_iconst (v := 0) (zat TX14_readOne_0 6 rfl) (by decide) ?_
    refine w_aload_n (zat TX14_readOne_0 7 rfl) rfl ?_
    refine y_getI (v := nI (((tkB B n) i) - 100)) (zat TX14_readOne_0 8 rfl) fX14_182 s1 (by decide) (by decide) rfl hnum ?_
    refine x_callu3 (qX12_put l h hWM e (by unfold zC; rw [hP.1.1]; exact (show e < zC h0 17 by rw [hC]; omega)) its.length hP.2.2.2.2.1 (by have := hT.2.1; omega) _ _) (by omega) kX12_put (rdy_V (zat TX14_readOne_0 9 rfl) kX12_put pX12_put zw1301 zw1302 zw1303 (zrc (by decide) (by decide) rfl)) (Nat.le_of_ble_eq_true rfl) rfl rfl ?_
    refine w_aload_n (zat TX14_readOne_0 10 rfl) rfl ?_
    refine x_call1 (qX14_next_p l h0 hWM0 e hC n B hX0 hn0 i s d (its ++ [(0, nI (tkB B n i - 100))]) _ hP1 (by omega)) (by omega) kX14_next (rdy_V (zat TX14_readOne_0 11 rfl) kX14_next pX14_next zw1240 zw1242 zw38 (zrc (by decide) (by decide) rfl)) (Nat.le_of_ble_eq_true rfl) rfl rfl (fun v h2 hq => ?_) (fun r h2 hq => by cases hq.1)
    obtain ⟨hq1, hP2⟩ := hq
    cases hq1
    refine w_goto 117 (zat TX14_readOne_0 12 rfl) (by decide) ?_
    refine w_return (zat TX14_readOne_1 0 rfl) rfl ?_
    rw [show oneD (tkB B n) (d1 + 1) i s = .inr ([itO (tkB B n i)], i + 1, s) from oneP_v (sub := (some (sumD (tkB B n) d1))) (s := s) (fo_0 (Or.inl Hc5)) (by omega), show itO (tkB B n i) = (0, nI (tkB B n i - 100)) from if_pos Hc5]
    exact ⟨rfl, hP2⟩
theorem opN_0 {u : Nat} (h : 11 ≤ u ∧ u ≤ 17) : ((opN u).1, (0 : Int32)) = opN u := by
  have : u = 11 ∨ u = 12 ∨ u = 13 ∨ u = 14 ∨ u = 15 ∨ u = 16 ∨ u = 17 := by omega
  rcases this with q | q | q | q | q | q | q <;> subst q <;> rfl
theorem lX14_readTerm_37 (l : Launch) (h0 : zH) (hWM0 : Wm h0) (e : Nat) (hC : zC h0 17 = e + 1) (n : Nat) (B : Nat → Nat) (hX0 : Tx h0 19 n B) (hn0 : zI h0 1 0 20 = nI n) (N : Nat) (hT : Tkk (tkB B n) N) (sub : Nat → Nat → PR) (E D d : Nat) (hD : 7 ≤ D) (hok : ∀ i s, i < N → s ≤ 60 → PrG N i s E (sub i s)) (hsub : ∀ (i s : Nat) (its : List (Nat × Int32)) (h : zH), i < N → s ≤ 60 → its.length ≤ i → Pm e h0 h B n i s d its → Ct l D mX14_readOne [Vq (some (1, 0))] h (MPo e h0 B n d its (sub i s))) (its : List (Nat × Int32)) (f : Nat) (ih : ∀ (ys : List (Nat × Int32)) (i s : Nat) (h : zH), i < N → s ≤ 60 → 61 ≤ s + f → its.length + ys.length ≤ i → Pm e h0 h B n i s d (its ++ ys) → ∀ x, Wp l mX14_readTerm (D + 1) 4 [some (Vq (some (1, 0))), x] [] h (MPo e h0 B n d its (opL (tkB B n) sub 16 17 f ys i s))) (ys : List (Nat × Int32)) (i s : Nat) (h : zH) (hi : i < N) (h6 : s ≤ 60) (hf : 61 ≤ s + (f + 1)) (hl : its.length + ys.length ≤ i) (hP : Pm e h0 h B n i s d (its ++ ys)) (hab : ((tkB B n) i) = 16 ∨ ((tkB B n) i) = 17) : Wp l mX14_readTerm (D + 1) 37 [some (Vq (some (1, 0))), some (Vi (nI (opN (tkB B n i)).1))] [] h (MPo e h0 B n d its (opL (tkB B n) sub 16 17 (f + 1) ys i s)) := by
  have hon := hT.on hi (by omega) (by omega)
  unfold opL
  rw [if_pos hab]
  by_cases h5 : s < 60
  · rw [if_pos h5]
    refine w_aload_n (zat TX14_readTerm 18 rfl) rfl ?_
    refine x_call1 (qX14_sign_s l h0 hWM0 e hC n B hX0 hn0 i s d (its ++ ys) h hP (by omega) h5) (by omega) kX14_sign (rdy_V (zat TX14_readTerm 19 rfl) kX14_sign pX14_sign zw1305 zw1307 zw48 (zrc (by decide) (by decide) rfl)) (Nat.le_of_ble_eq_true rfl) rfl rfl (fun v h2 hq => ?_) (fun r h2 hq => by cases hq.1)
    obtain ⟨hq1, hP2⟩ := hq
    cases hq1
    refine w_aload_n (zat TX14_readTerm 20 rfl) rfl ?_
    have hc := hsub (i + 1) (s + 1) (its ++ ys) h2 hon (by omega) (by rw [List.length_append]; omega) hP2
    cases hr : sub (i + 1) (s + 1) with
    | inl q =>
      rw [hr] at hc
      refine x_call1 (hc) (by omega) kX14_readOne (rdy_V (zat TX14_readTerm 21 rfl) kX14_readOne pX14_readOne zw1297 zw1299 zw47 (zrc (by decide) (by decide) rfl)) (Nat.le_of_ble_eq_true rfl) rfl rfl (fun v h9 hq => by cases hq.1) (fun r h9 hq => ?_)
      obtain ⟨hq1, hq2⟩ := hq
      cases hq1
      exact ⟨rfl, hq2⟩
    | inr r =>
      obtain ⟨zs, j, sx⟩ := r
      rw [hr] at hc
      refine x_call1 (hc) (by omega) kX14_readOne (rdy_V (zat TX14_readTerm 21 rfl) kX14_readOne pX14_readOne zw1297 zw1299 zw47 (zrc (by decide) (by decide) rfl)) (Nat.le_of_ble_eq_true rfl) rfl rfl (fun v h3 hq => ?_) (fun r h3 hq => by cases hq.1)
      obtain ⟨hq1, hP3⟩ := hq
      cases hq1
      replace hP3 : Pm e h0 h3 B n j sx d (its ++ ys ++ zs) := hP3
      have hg := hok (i + 1) (s + 1) hon (by omega)
      rw [hr] at hg
      obtain ⟨g1, g2, g3, g4, g5, g6⟩ := hg
      have hWM3 := Wm.same hP3.1.1 hWM0
      have hsp3 : zR h3 1 0 16 = some (17, e) := by
        have h1 := hWM3.2.2.1.2.1
        rw [show zC h3 17 = e + 1 by unfold zC; rw [hP3.1.1]; exact hC] at h1
        exact h1
      have hP4 := hP3.put (opN (tkB B n i)).1 0
      refine w_aload_n (zat TX14_readTerm 22 rfl) rfl ?_
      refine w_getR (zat TX14_readTerm 23 rfl) fX14_42 s1 (by decide) (by decide) rfl hsp3 ?_
      refine w_iload_n (zat TX14_readTerm 24 rfl) rfl ?_
      refine w_iconst (v := 0) (zat TX14_readTerm 25 rfl) (by decide) ?_
      refine x_callu3 (qX12_put l h3 hWM3 e (by unfold zC; rw [hP3.1.1]; exact (show e < zC h0 17 by rw [hC]; omega)) (its ++ ys ++ zs).length hP3.2.2.2.2.1 (by rw [List.length_append, List.length_append]; have := hT.2.1; omega) _ _) (by omega) kX12_put (rdy_V (zat TX14_readTerm 26 rfl) kX12_put pX12_put zw1301 zw1302 zw1303 (zrc (by decide) (by decide) rfl)) (Nat.le_of_ble_eq_true rfl) rfl rfl ?_
      refine w_goto 4 (zat TX14_readTerm 27 rfl) (by decide) ?_
      have he : its ++ ys ++ zs ++ [((opN (tkB B n i)).1, (0 : Int32))] = its ++ (ys ++ zs ++ [opN (tkB B n i)]) := by
        rw [← opN_0 (u := tkB B n i) (by omega)]
        simp only [List.append_assoc]
      rw [he] at hP4
      refine ih (ys ++ zs ++ [opN (tkB B n i)]) j sx _ g1 g4 (by omega) ?_ hP4 _
      rw [List.length_append, List.length_append]
      show its.length + (ys.length + zs.length + 1) ≤ j
      omega
  · rw [if_neg h5]
    refine w_aload_n (zat TX14_readTerm 18 rfl) rfl ?_
    refine x_call1 (qX14_sign_n l h0 hWM0 e hC n B hX0 hn0 i s d (its ++ ys) h hP (by omega)) (by omega) kX14_sign (rdy_V (zat TX14_readTerm 19 rfl) kX14_sign pX14_sign zw1305 zw1307 zw48 (zrc (by decide) (by decide) rfl)) (Nat.le_of_ble_eq_true rfl) rfl rfl (fun v h9 hq => by cases hq.1) (fun r h9 hq => ?_)
    obtain ⟨hq1, hq2⟩ := hq
    cases hq1
    exact ⟨rfl, hq2⟩
theorem lX14_readTerm_4 (l : Launch) (h0 : zH) (hWM0 : Wm h0) (e : Nat) (hC : zC h0 17 = e + 1) (n : Nat) (B : Nat → Nat) (hX0 : Tx h0 19 n B) (hn0 : zI h0 1 0 20 = nI n) (N : Nat) (hT : Tkk (tkB B n) N) (sub : Nat → Nat → PR) (E D d : Nat) (hD : 7 ≤ D) (hok : ∀ i s, i < N → s ≤ 60 → PrG N i s E (sub i s)) (hsub : ∀ (i s : Nat) (its : List (Nat × Int32)) (h : zH), i < N → s ≤ 60 → its.length ≤ i → Pm e h0 h B n i s d its → Ct l D mX14_readOne [Vq (some (1, 0))] h (MPo e h0 B n d its (sub i s))) (its : List (Nat × Int32)) : ∀ f : Nat, ∀ (ys : List (Nat × Int32)) (i s : Nat) (h : zH), i < N → s ≤ 60 → 61 ≤ s + f → its.length + ys.length ≤ i → Pm e h0 h B n i s d (its ++ ys) → ∀ x, Wp l mX14_readTerm (D + 1) 4 [some (Vq (some (1, 0))), x] [] h (MPo e h0 B n d its (opL (tkB B n) sub 16 17 f ys i s)) := by
  intro f
  induction f with
  | zero =>
    intro ys i s h hi h6 hf hl hP x
    omega
  | succ f ih =>
    intro ys i s h hi h6 hf hl hP x
    have hS := hP.2.1.1
    refine w_aload_n (zat TX14_readTerm 2 rfl) rfl ?_
    refine w_bipush (v := 42) (zat TX14_readTerm 3 rfl) (by decide) ?_
    refine x_callv2 (qX14_is l h ((tkB B n) i) hS 16 (by omega) (by omega) 42 (by decide)) (by omega) kX14_is (rdy_V (zat TX14_readTerm 4 rfl) kX14_is pX14_is zw1275 zw1277 zw43 (zrc (by decide) (by decide) rfl)) (Nat.le_of_ble_eq_true rfl) rfl rfl ?_
    refine w_if_ne 22 (zat TX14_readTerm 5 rfl) (by decide) (fun Hc10 => ?_) (fun Hc10 => ?_)
    · rw [zb_0, Decidable.not_not] at Hc10
      refine w_aload_n (zat TX14_readTerm 10 rfl) rfl ?_
      refine w_bipush (v := 42) (zat TX14_readTerm 11 rfl) (by decide) ?_
      refine x_callv2 (qX14_is l h ((tkB B n) i) hS 16 (by omega) (by omega) 42 (by decide)) (by omega) kX14_is (rdy_V (zat TX14_readTerm 12 rfl) kX14_is pX14_is zw1275 zw1277 zw43 (zrc (by decide) (by decide) rfl)) (Nat.le_of_ble_eq_true rfl) rfl rfl ?_
      refine w_if_eq 35 (zat TX14_readTerm 13 rfl) (by decide) (fun Hc28 => ?_) (fun Hc28 => ?_)
      · rw [zb_0] at Hc28
        have hv : opN ((tkB B n) i) = (5, 0) := by rw [show ((tkB B n) i) = 17 from (Or.inl Hc10).resolve_left Hc28]; rfl
        refine w_iconst (v := 5) (zat TX14_readTerm 16 rfl) (by decide) ?_
        refine x_istore_n (ls2 := [_, _]) (zat TX14_readTerm 17 rfl) (by decide) rfl ?_
        have hz := lX14_readTerm_37 l h0 hWM0 e hC n B hX0 hn0 N hT sub E D d hD hok hsub its f ih ys i s h hi h6 hf hl hP (Or.inl Hc10)
        rw [hv] at hz
        exact hz
      · rw [zb_0, Decidable.not_not] at Hc28
        have hv : opN ((tkB B n) i) = (4, 0) := by rw [Hc28]; rfl
        refine w_iconst (v := 4) (zat TX14_readTerm 14 rfl) (by decide) ?_
        refine w_goto 36 (zat TX14_readTerm 15 rfl) (by decide) ?_
        refine x_istore_n (ls2 := [_, _]) (zat TX14_readTerm 17 rfl) (by decide) rfl ?_
        have hz := lX14_readTerm_37 l h0 hWM0 e hC n B hX0 hn0 N hT sub E D d hD hok hsub its f ih ys i s h hi h6 hf hl hP (Or.inl Hc10)
        rw [hv] at hz
        exact hz
    · rw [zb_0] at Hc10
      refine w_aload_n (zat TX14_readTerm 6 rfl) rfl ?_
      refine w_bipush (v := 47) (zat TX14_readTerm 7 rfl) (by decide) ?_
      refine x_callv2 (qX14_is l h ((tkB B n) i) hS 17 (by omega) (by omega) 47 (by decide)) (by omega) kX14_is (rdy_V (zat TX14_readTerm 8 rfl) kX14_is pX14_is zw1275 zw1277 zw43 (zrc (by decide) (by decide) rfl)) (Nat.le_of_ble_eq_true rfl) rfl rfl ?_
      refine w_if_eq 57 (zat TX14_readTerm 9 rfl) (by decide) (fun Hc19 => ?_) (fun Hc19 => ?_)
      · rw [zb_0] at Hc19
        refine w_return (zat TX14_readTerm 28 rfl) rfl ?_
        unfold opL
        rw [if_neg (fun z => z.elim Hc10 Hc19)]
        exact ⟨rfl, hP⟩
      · rw [zb_0, Decidable.not_not] at Hc19
        refine w_aload_n (zat TX14_readTerm 10 rfl) rfl ?_
        refine w_bipush (v := 42) (zat TX14_readTerm 11 rfl) (by decide) ?_
        refine x_callv2 (qX14_is l h ((tkB B n) i) hS 16 (by omega) (by omega) 42 (by decide)) (by omega) kX14_is (rdy_V (zat TX14_readTerm 12 rfl) kX14_is pX14_is zw1275 zw1277 zw43 (zrc (by decide) (by decide) rfl)) (Nat.le_of_ble_eq_true rfl) rfl rfl ?_
        refine w_if_eq 35 (zat TX14_readTerm 13 rfl) (by decide) (fun Hc28 => ?_) (fun Hc28 => ?_)
        · rw [zb_0] at Hc28
          have hv : opN ((tkB B n) i) = (5, 0) := by rw [show ((tkB B n) i) = 17 from (Or.inr Hc19).resolve_left Hc28]; rfl
          refine w_iconst (v := 5) (zat TX14_readTerm 16 rfl) (by decide) ?_
          refine x_istore_n (ls2 := [_, _]) (zat TX14_readTerm 17 rfl) (by decide) rfl ?_
          have hz := lX14_readTerm_37 l h0 hWM0 e hC n B hX0 hn0 N hT sub E D d hD hok hsub its f ih ys i s h hi h6 hf hl hP (Or.inr Hc19)
          rw [hv] at hz
          exact hz
        · rw [zb_0, Decidable.not_not] at Hc28
          have hv : opN ((tkB B n) i) = (4, 0) := by rw [Hc28]; rfl
          refine w_iconst (v := 4) (zat TX14_readTerm 14 rfl) (by decide) ?_
          refine w_goto 36 (zat TX14_readTerm 15 rfl) (by decide) ?_
          refine x_istore_n (ls2 := [_, _]) (zat TX14_readTerm 17 rfl) (by decide) rfl ?_
          have hz := lX14_readTerm_37 l h0 hWM0 e hC n B hX0 hn0 N hT sub E D d hD hok hsub its f ih ys i s h hi h6 hf hl hP (Or.inr Hc19)
          rw [hv] at hz
          exact hz
theorem qX14_readTerm (l : Launch) (h0 : zH) (hWM0 : Wm h0) (e : Nat) (hC : zC h0 17 = e + 1) (n : Nat) (B : Nat → Nat) (hX0 : Tx h0 19 n B) (hn0 : zI h0 1 0 20 = nI n) (N : Nat) (hT : Tkk (tkB B n) N) (sub : Nat → Nat → PR) (E D d : Nat) (hD : 7 ≤ D) (hok : ∀ i s, i < N → s ≤ 60 → PrG N i s E (sub i s)) (hsub : ∀ (i s : Nat) (its : List (Nat × Int32)) (h : zH), i < N → s ≤ 60 → its.length ≤ i → Pm e h0 h B n i s d its → Ct l D mX14_readOne [Vq (some (1, 0))] h (MPo e h0 B n d its (sub i s))) (i s : Nat) (its : List (Nat × Int32)) (h : zH) (hi : i < N) (h6 : s ≤ 60) (hl : its.length ≤ i) (hP : Pm e h0 h B n i s d its) : Ct l (D + 1) mX14_readTerm [Vq (some (1, 0))] h (MPo e h0 B n d its (chP (tkB B n) sub 16 17 i s)) := by
  unfold chP
  have hc := hsub i s its h hi h6 hl hP
  refine Ct.in 1 kX14_readTerm (plainFor_of_name rfl) (Nat.le_of_ble_eq_true rfl) ?_
  refine w_aload_n (zat TX14_readTerm 0 rfl) rfl ?_
  cases hr : sub i s with
  | inl q =>
    rw [hr] at hc
    refine x_call1 (hc) (by omega) kX14_readOne (rdy_V (zat TX14_readTerm 1 rfl) kX14_readOne pX14_readOne zw1297 zw1299 zw47 (zrc (by decide) (by decide) rfl)) (Nat.le_of_ble_eq_true rfl) rfl rfl (fun v h9 hq => by cases hq.1) (fun r h9 hq => ?_)
    obtain ⟨hq1, hq2⟩ := hq
    cases hq1
    exact ⟨rfl, hq2⟩
  | inr r =>
    obtain ⟨ys, j, sx⟩ := r
    rw [hr] at hc
    refine x_call1 (hc) (by omega) kX14_readOne (rdy_V (zat TX14_readTerm 1 rfl) kX14_readOne pX14_readOne zw1297 zw1299 zw47 (zrc (by decide) (by decide) rfl)) (Nat.le_of_ble_eq_true rfl) rfl rfl (fun v h3 hq => ?_) (fun r h3 hq => by cases hq.1)
    obtain ⟨hq1, hP3⟩ := hq
    cases hq1
    have hg := hok i s hi h6
    rw [hr] at hg
    obtain ⟨g1, g2, g3, g4, g5, g6⟩ := hg
    exact lX14_readTerm_4 l h0 hWM0 e hC n B hX0 hn0 N hT sub E D d hD hok hsub its 61 ys j sx h3 g1 g4 (by omega) (by omega) hP3 _
theorem lX14_readSum_37 (l : Launch) (h0 : zH) (hWM0 : Wm h0) (e : Nat) (hC : zC h0 17 = e + 1) (n : Nat) (B : Nat → Nat) (hX0 : Tx h0 19 n B) (hn0 : zI h0 1 0 20 = nI n) (N : Nat) (hT : Tkk (tkB B n) N) (sub : Nat → Nat → PR) (E D d : Nat) (hD : 7 ≤ D) (hok : ∀ i s, i < N → s ≤ 60 → PrG N i s E (sub i s)) (hsub : ∀ (i s : Nat) (its : List (Nat × Int32)) (h : zH), i < N → s ≤ 60 → its.length ≤ i → Pm e h0 h B n i s d its → Ct l D mX14_readTerm [Vq (some (1, 0))] h (MPo e h0 B n d its (sub i s))) (its : List (Nat × Int32)) (f : Nat) (ih : ∀ (ys : List (Nat × Int32)) (i s : Nat) (h : zH), i < N → s ≤ 60 → 61 ≤ s + f → its.length + ys.length ≤ i → Pm e h0 h B n i s d (its ++ ys) → ∀ x, Wp l mX14_readSum (D + 1) 4 [some (Vq (some (1, 0))), x] [] h (MPo e h0 B n d its (opL (tkB B n) sub 14 15 f ys i s))) (ys : List (Nat × Int32)) (i s : Nat) (h : zH) (hi : i < N) (h6 : s ≤ 60) (hf : 61 ≤ s + (f + 1)) (hl : its.length + ys.length ≤ i) (hP : Pm e h0 h B n i s d (its ++ ys)) (hab : ((tkB B n) i) = 14 ∨ ((tkB B n) i) = 15) : Wp l mX14_readSum (D + 1) 37 [some (Vq (some (1, 0))), some (Vi (nI (opN (tkB B n i)).1))] [] h (MPo e h0 B n d its (opL (tkB B n) sub 14 15 (f + 1) ys i s)) := by
  have hon := hT.on hi (by omega) (by omega)
  unfold opL
  rw [if_pos hab]
  by_cases h5 : s < 60
  · rw [if_pos h5]
    refine w_aload_n (zat TX14_readSum 18 rfl) rfl ?_
    refine x_call1 (qX14_sign_s l h0 hWM0 e hC n B hX0 hn0 i s d (its ++ ys) h hP (by omega) h5) (by omega) kX14_sign (rdy_V (zat TX14_readSum 19 rfl) kX14_sign pX14_sign zw1305 zw1307 zw48 (zrc (by decide) (by decide) rfl)) (Nat.le_of_ble_eq_true rfl) rfl rfl (fun v h2 hq => ?_) (fun r h2 hq => by cases hq.1)
    obtain ⟨hq1, hP2⟩ := hq
    cases hq1
    refine w_aload_n (zat TX14_readSum 20 rfl) rfl ?_
    have hc := hsub (i + 1) (s + 1) (its ++ ys) h2 hon (by omega) (by rw [List.length_append]; omega) hP2
    cases hr : sub (i + 1) (s + 1) with
    | inl q =>
      rw [hr] at hc
      refine x_call1 (hc) (by omega) kX14_readTerm (rdy_V (zat TX14_readSum 21 rfl) kX14_readTerm pX14_readTerm zw1293 zw1295 zw46 (zrc (by decide) (by decide) rfl)) (Nat.le_of_ble_eq_true rfl) rfl rfl (fun v h9 hq => by cases hq.1) (fun r h9 hq => ?_)
      obtain ⟨hq1, hq2⟩ := hq
      cases hq1
      exact ⟨rfl, hq2⟩
    | inr r =>
      obtain ⟨zs, j, sx⟩ := r
      rw [hr] at hc
      refine x_call1 (hc) (by omega) kX14_readTerm (rdy_V (zat TX14_readSum 21 rfl) kX14_readTerm pX14_readTerm zw1293 zw1295 zw46 (zrc (by decide) (by decide) rfl)) (Nat.le_of_ble_eq_true rfl) rfl rfl (fun v h3 hq => ?_) (fun r h3 hq => by cases hq.1)
      obtain ⟨hq1, hP3⟩ := hq
      cases hq1
      replace hP3 : Pm e h0 h3 B n j sx d (its ++ ys ++ zs) := hP3
      have hg := hok (i + 1) (s + 1) hon (by omega)
      rw [hr] at hg
      obtain ⟨g1, g2, g3, g4, g5, g6⟩ := hg
      have hWM3 := Wm.same hP3.1.1 hWM0
      have hsp3 : zR h3 1 0 16 = some (17, e) := by
        have h1 := hWM3.2.2.1.2.1
        rw [show zC h3 17 = e + 1 by unfold zC; rw [hP3.1.1]; exact hC] at h1
        exact h1
      have hP4 := hP3.put (opN (tkB B n i)).1 0
      refine w_aload_n (zat TX14_readSum 22 rfl) rfl ?_
      refine w_getR (zat TX14_readSum 23 rfl) fX14_42 s1 (by decide) (by decide) rfl hsp3 ?_
      refine w_iload_n (zat TX14_readSum 24 rfl) rfl ?_
      refine w_iconst (v := 0) (zat TX14_readSum 25 rfl) (by decide) ?_
      refine x_callu3 (qX12_put l h3 hWM3 e (by unfold zC; rw [hP3.1.1]; exact (show e < zC h0 17 by rw [hC]; omega)) (its ++ ys ++ zs).length hP3.2.2.2.2.1 (by rw [List.length_append, List.length_append]; have := hT.2.1; omega) _ _) (by omega) kX12_put (rdy_V (zat TX14_readSum 26 rfl) kX12_put pX12_put zw1301 zw1302 zw1303 (zrc (by decide) (by decide) rfl)) (Nat.le_of_ble_eq_true rfl) rfl rfl ?_
      refine w_goto 4 (zat TX14_readSum 27 rfl) (by decide) ?_
      have he : its ++ ys ++ zs ++ [((opN (tkB B n i)).1, (0 : Int32))] = its ++ (ys ++ zs ++ [opN (tkB B n i)]) := by
        rw [← opN_0 (u := tkB B n i) (by omega)]
        simp only [List.append_assoc]
      rw [he] at hP4
      refine ih (ys ++ zs ++ [opN (tkB B n i)]) j sx _ g1 g4 (by omega) ?_ hP4 _
      rw [List.length_append, List.length_append]
      show its.length + (ys.length + zs.length + 1) ≤ j
      omega
  · rw [if_neg h5]
    refine w_aload_n (zat TX14_readSum 18 rfl) rfl ?_
    refine x_call1 (qX14_sign_n l h0 hWM0 e hC n B hX0 hn0 i s d (its ++ ys) h hP (by omega)) (by omega) kX14_sign (rdy_V (zat TX14_readSum 19 rfl) kX14_sign pX14_sign zw1305 zw1307 zw48 (zrc (by decide) (by decide) rfl)) (Nat.le_of_ble_eq_true rfl) rfl rfl (fun v h9 hq => by cases hq.1) (fun r h9 hq => ?_)
    obtain ⟨hq1, hq2⟩ := hq
    cases hq1
    exact ⟨rfl, hq2⟩
theorem lX14_readSum_4 (l : Launch) (h0 : zH) (hWM0 : Wm h0) (e : Nat) (hC : zC h0 17 = e + 1) (n : Nat) (B : Nat → Nat) (hX0 : Tx h0 19 n B) (hn0 : zI h0 1 0 20 = nI n) (N : Nat) (hT : Tkk (tkB B n) N) (sub : Nat → Nat → PR) (E D d : Nat) (hD : 7 ≤ D) (hok : ∀ i s, i < N → s ≤ 60 → PrG N i s E (sub i s)) (hsub : ∀ (i s : Nat) (its : List (Nat × Int32)) (h : zH), i < N → s ≤ 60 → its.length ≤ i → Pm e h0 h B n i s d its → Ct l D mX14_readTerm [Vq (some (1, 0))] h (MPo e h0 B n d its (sub i s))) (its : List (Nat × Int32)) : ∀ f : Nat, ∀ (ys : List (Nat × Int32)) (i s : Nat) (h : zH), i < N → s ≤ 60 → 61 ≤ s + f → its.length + ys.length ≤ i → Pm e h0 h B n i s d (its ++ ys) → ∀ x, Wp l mX14_readSum (D + 1) 4 [some (Vq (some (1, 0))), x] [] h (MPo e h0 B n d its (opL (tkB B n) sub 14 15 f ys i s)) := by
  intro f
  induction f with
  | zero =>
    intro ys i s h hi h6 hf hl hP x
    omega
  | succ f ih =>
    intro ys i s h hi h6 hf hl hP x
    have hS := hP.2.1.1
    refine w_aload_n (zat TX14_readSum 2 rfl) rfl ?_
    refine w_bipush (v := 43) (zat TX14_readSum 3 rfl) (by decide) ?_
    refine x_callv2 (qX14_is l h ((tkB B n) i) hS 14 (by omega) (by omega) 43 (by decide)) (by omega) kX14_is (rdy_V (zat TX14_readSum 4 rfl) kX14_is pX14_is zw1275 zw1277 zw43 (zrc (by decide) (by decide) rfl)) (Nat.le_of_ble_eq_true rfl) rfl rfl ?_
    refine w_if_ne 22 (zat TX14_readSum 5 rfl) (by decide) (fun Hc10 => ?_) (fun Hc10 => ?_)
    · rw [zb_0, Decidable.not_not] at Hc10
      refine w_aload_n (zat TX14_readSum 10 rfl) rfl ?_
      refine w_bipush (v := 43) (zat TX14_readSum 11 rfl) (by decide) ?_
      refine x_callv2 (qX14_is l h ((tkB B n) i) hS 14 (by omega) (by omega) 43 (by decide)) (by omega) kX14_is (rdy_V (zat TX14_readSum 12 rfl) kX14_is pX14_is zw1275 zw1277 zw43 (zrc (by decide) (by decide) rfl)) (Nat.le_of_ble_eq_true rfl) rfl rfl ?_
      refine w_if_eq 35 (zat TX14_readSum 13 rfl) (by decide) (fun Hc28 => ?_) (fun Hc28 => ?_)
      · rw [zb_0] at Hc28
        have hv : opN ((tkB B n) i) = (3, 0) := by rw [show ((tkB B n) i) = 15 from (Or.inl Hc10).resolve_left Hc28]; rfl
        refine w_iconst (v := 3) (zat TX14_readSum 16 rfl) (by decide) ?_
        refine x_istore_n (ls2 := [_, _]) (zat TX14_readSum 17 rfl) (by decide) rfl ?_
        have hz := lX14_readSum_37 l h0 hWM0 e hC n B hX0 hn0 N hT sub E D d hD hok hsub its f ih ys i s h hi h6 hf hl hP (Or.inl Hc10)
        rw [hv] at hz
        exact hz
      · rw [zb_0, Decidable.not_not] at Hc28
        have hv : opN ((tkB B n) i) = (2, 0) := by rw [Hc28]; rfl
        refine w_iconst (v := 2) (zat TX14_readSum 14 rfl) (by decide) ?_
        refine w_goto 36 (zat TX14_readSum 15 rfl) (by decide) ?_
        refine x_istore_n (ls2 := [_, _]) (zat TX14_readSum 17 rfl) (by decide) rfl ?_
        have hz := lX14_readSum_37 l h0 hWM0 e hC n B hX0 hn0 N hT sub E D d hD hok hsub its f ih ys i s h hi h6 hf hl hP (Or.inl Hc10)
        rw [hv] at hz
        exact hz
    · rw [zb_0] at Hc10
      refine w_aload_n (zat TX14_readSum 6 rfl) rfl ?_
      refine w_bipush (v := 45) (zat TX14_readSum 7 rfl) (by decide) ?_
      refine x_callv2 (qX14_is l h ((tkB B n) i) hS 15 (by omega) (by omega) 45 (by decide)) (by omega) kX14_is (rdy_V (zat TX14_readSum 8 rfl) kX14_is pX14_is zw1275 zw1277 zw43 (zrc (by decide) (by decide) rfl)) (Nat.le_of_ble_eq_true rfl) rfl rfl ?_
      refine w_if_eq 57 (zat TX14_readSum 9 rfl) (by decide) (fun Hc19 => ?_) (fun Hc19 => ?_)
      · rw [zb_0] at Hc19
        refine w_return (zat TX14_readSum 28 rfl) rfl ?_
        unfold opL
        rw [if_neg (fun z => z.elim Hc10 Hc19)]
        exact ⟨rfl, hP⟩
      · rw [zb_0, Decidable.not_not] at Hc19
        refine w_aload_n (zat TX14_readSum 10 rfl) rfl ?_
        refine w_bipush (v := 43) (zat TX14_readSum 11 rfl) (by decide) ?_
        refine x_callv2 (qX14_is l h ((tkB B n) i) hS 14 (by omega) (by omega) 43 (by decide)) (by omega) kX14_is (rdy_V (zat TX14_readSum 12 rfl) kX14_is pX14_is zw1275 zw1277 zw43 (zrc (by decide) (by decide) rfl)) (Nat.le_of_ble_eq_true rfl) rfl rfl ?_
        refine w_if_eq 35 (zat TX14_readSum 13 rfl) (by decide) (fun Hc28 => ?_) (fun Hc28 => ?_)
        · rw [zb_0] at Hc28
          have hv : opN ((tkB B n) i) = (3, 0) := by rw [show ((tkB B n) i) = 15 from (Or.inr Hc19).resolve_left Hc28]; rfl
          refine w_iconst (v := 3) (zat TX14_readSum 16 rfl) (by decide) ?_
          refine x_istore_n (ls2 := [_, _]) (zat TX14_readSum 17 rfl) (by decide) rfl ?_
          have hz := lX14_readSum_37 l h0 hWM0 e hC n B hX0 hn0 N hT sub E D d hD hok hsub its f ih ys i s h hi h6 hf hl hP (Or.inr Hc19)
          rw [hv] at hz
          exact hz
        · rw [zb_0, Decidable.not_not] at Hc28
          have hv : opN ((tkB B n) i) = (2, 0) := by rw [Hc28]; rfl
          refine w_iconst (v := 2) (zat TX14_readSum 14 rfl) (by decide) ?_
          refine w_goto 36 (zat TX14_readSum 15 rfl) (by decide) ?_
          refine x_istore_n (ls2 := [_, _]) (zat TX14_readSum 17 rfl) (by decide) rfl ?_
          have hz := lX14_readSum_37 l h0 hWM0 e hC n B hX0 hn0 N hT sub E D d hD hok hsub its f ih ys i s h hi h6 hf hl hP (Or.inr Hc19)
          rw [hv] at hz
          exact hz
theorem qX14_readSum (l : Launch) (h0 : zH) (hWM0 : Wm h0) (e : Nat) (hC : zC h0 17 = e + 1) (n : Nat) (B : Nat → Nat) (hX0 : Tx h0 19 n B) (hn0 : zI h0 1 0 20 = nI n) (N : Nat) (hT : Tkk (tkB B n) N) (sub : Nat → Nat → PR) (E D d : Nat) (hD : 7 ≤ D) (hok : ∀ i s, i < N → s ≤ 60 → PrG N i s E (sub i s)) (hsub : ∀ (i s : Nat) (its : List (Nat × Int32)) (h : zH), i < N → s ≤ 60 → its.length ≤ i → Pm e h0 h B n i s d its → Ct l D mX14_readTerm [Vq (some (1, 0))] h (MPo e h0 B n d its (sub i s))) (i s : Nat) (its : List (Nat × Int32)) (h : zH) (hi : i < N) (h6 : s ≤ 60) (hl : its.length ≤ i) (hP : Pm e h0 h B n i s d its) : Ct l (D + 1) mX14_readSum [Vq (some (1, 0))] h (MPo e h0 B n d its (chP (tkB B n) sub 14 15 i s)) := by
  unfold chP
  have hc := hsub i s its h hi h6 hl hP
  refine Ct.in 1 kX14_readSum (plainFor_of_name rfl) (Nat.le_of_ble_eq_true rfl) ?_
  refine w_aload_n (zat TX14_readSum 0 rfl) rfl ?_
  cases hr : sub i s with
  | inl q =>
    rw [hr] at hc
    refine x_call1 (hc) (by omega) kX14_readTerm (rdy_V (zat TX14_readSum 1 rfl) kX14_readTerm pX14_readTerm zw1293 zw1295 zw46 (zrc (by decide) (by decide) rfl)) (Nat.le_of_ble_eq_true rfl) rfl rfl (fun v h9 hq => by cases hq.1) (fun r h9 hq => ?_)
    obtain ⟨hq1, hq2⟩ := hq
    cases hq1
    exact ⟨rfl, hq2⟩
  | inr r =>
    obtain ⟨ys, j, sx⟩ := r
    rw [hr] at hc
    refine x_call1 (hc) (by omega) kX14_readTerm (rdy_V (zat TX14_readSum 1 rfl) kX14_readTerm pX14_readTerm zw1293 zw1295 zw46 (zrc (by decide) (by decide) rfl)) (Nat.le_of_ble_eq_true rfl) rfl rfl (fun v h3 hq => ?_) (fun r h3 hq => by cases hq.1)
    obtain ⟨hq1, hP3⟩ := hq
    cases hq1
    have hg := hok i s hi h6
    rw [hr] at hg
    obtain ⟨g1, g2, g3, g4, g5, g6⟩ := hg
    exact lX14_readSum_4 l h0 hWM0 e hC n B hX0 hn0 N hT sub E D d hD hok hsub its 61 ys j sx h3 g1 g4 (by omega) (by omega) hP3 _
theorem qX14_sum (l : Launch) (h0 : zH) (hWM0 : Wm h0) (e : Nat) (hC : zC h0 17 = e + 1) (n : Nat) (B : Nat → Nat) (hX0 : Tx h0 19 n B) (hn0 : zI h0 1 0 20 = nI n) (N : Nat) (hT : Tkk (tkB B n) N) : ∀ d1 d : Nat, d + d1 = 8 → ∀ (i s : Nat) (its : List (Nat × Int32)) (h : zH), i < N → s ≤ 60 → its.length ≤ i → Pm e h0 h B n i s d its → Ct l (3 * d1 + 10) mX14_readSum [Vq (some (1, 0))] h (MPo e h0 B n d its (sumD (tkB B n) d1 i s)) := by
  intro d1
  induction d1 with
  | zero =>
    intro d hd i s its h hi h6 hl hP
    have h1 := fun i s its h hi h6 hl hP => qX14_readOne_0 l h0 hWM0 e hC n B hX0 hn0 N hT i s d its h hi h6 hl hP (by omega)
    have h2 := fun i s its h hi h6 hl hP => qX14_readTerm l h0 hWM0 e hC n B hX0 hn0 N hT (oneD (tkB B n) 0) 1 8 d (by omega) (oneD_ok hT 0) h1 i s its h hi h6 hl hP
    exact qX14_readSum l h0 hWM0 e hC n B hX0 hn0 N hT (termD (tkB B n) 0) 2 9 d (by omega) (termD_ok hT 0) h2 i s its h hi h6 hl hP
  | succ d1 ih =>
    intro d hd i s its h hi h6 hl hP
    have h1 := fun i s its h hi h6 hl hP => qX14_readOne_s l h0 hWM0 e hC n B hX0 hn0 N hT d1 i s d its h hi h6 hl hP hd (ih (d + 1) (by omega))
    have h2 := fun i s its h hi h6 hl hP => qX14_readTerm l h0 hWM0 e hC n B hX0 hn0 N hT (oneD (tkB B n) (d1 + 1)) (2 * (d1 + 1) + 1) (3 * d1 + 11) d (by omega) (oneD_ok hT (d1 + 1)) h1 i s its h hi h6 hl hP
    exact qX14_readSum l h0 hWM0 e hC n B hX0 hn0 N hT (termD (tkB B n) (d1 + 1)) (2 * (d1 + 1) + 2) (3 * d1 + 11 + 1) d (by omega) (termD_ok hT (d1 + 1)) h2 i s its h hi h6 hl hP
