-- sums of the class's parser, by program (wip/gen/p78.py)
theorem oneP_f {tk : Nat → Nat} {sub : Option (Nat → Nat → PR)} {i s : Nat} (h : ¬ fo (tk i) = 0) : oneP tk sub i s = .inl (fo (tk i), i) := if_neg h
theorem oneP_v {tk : Nat → Nat} {sub : Option (Nat → Nat → PR)} {i s : Nat} (h : fo (tk i) = 0) (h2 : ¬ tk i = 18) : oneP tk sub i s = .inr ([itO (tk i)], i + 1, s) := (if_pos h).trans (if_neg h2)
theorem oneP_n {tk : Nat → Nat} {i s : Nat} (h : fo (tk i) = 0) (h2 : tk i = 18) : oneP tk none i s = .inl (3, i) := (if_pos h).trans (if_pos h2)
theorem oneP_s {tk : Nat → Nat} {f : Nat → Nat → PR} {i s : Nat} (h : fo (tk i) = 0) (h2 : tk i = 18) : oneP tk (some f) i s = (match f (i + 1) s with
          | .inl e => .inl e
          | .inr (ys, j, s') => if tk j = 19 then .inr (ys, j + 1, s') else .inl (1, j)) := (if_pos h).trans (if_pos h2)
theorem fo_z {u : Nat} (h : fo u = 0) : 100 ≤ u ∨ (6 ≤ u ∧ u ≤ 9) ∨ u = 18 := by
  apply Decidable.byContradiction
  intro z
  unfold fo at h
  rw [if_neg z] at h
  split at h <;> omega
theorem fo_le (u : Nat) : fo u ≤ 2 := by
  unfold fo
  split
  · omega
  · split <;> omega
theorem qX4_readsOne_0 (l : Launch) (h0 : zH) (hW0 : Wc h0) (tk pl : Nat → Nat) (N : Nat) (hT : Tkk tk N) (hH : TkH h0 tk pl N) (i s : Nat) (cs : List Int32) (h : zH) (hi : i < N) (h6 : s ≤ 60) (hcs : cs.length ≤ i) (hP : Pc h0 h i s cs) : Ct l 2 mX4_readsOne [Vq (some (54, 0)), Vi (nI 8)] h (CPo h0 pl cs (oneD tk 0 i s)) := by
  have hW := Wc.same (congrArg Prod.snd hP.1.1) hW0
  have hN2 := hT.2.1
  have hN : zI h 73 0 2 = nI N := by rw [hP.1.2 73 (by decide) (by decide)]; exact hH.1
  have hu := hT.2.2.1 i hi
  have ht : zI h 80 0 i = t32 (tk i) := by rw [hP.1.2 80 (by decide) (by decide)]; exact (hH.2 i hi).1
  have hp : zI h 81 0 i = nI (pl i) := by rw [hP.1.2 81 (by decide) (by decide)]; exact (hH.2 i hi).2
  refine Ct.in 2 kX4_readsOne (plainFor_of_name rfl) (Nat.le_of_ble_eq_true rfl) ?_
  refine w_aload_n (zat TX4_readsOne_0 0 rfl) rfl ?_
  refine x_callv1 (qX4_token l h hW N i hP.2.1 hN hi hN2 _ ht) (by omega) kX4_token (rdy_V (zat TX4_readsOne_0 1 rfl) kX4_token pX4_token zw563 zw565 zw8 (zrc (by decide) (by decide) rfl)) (Nat.le_of_ble_eq_true rfl) rfl rfl ?_
  refine x_istore_n (ls2 := [_, _, _, _]) (zat TX4_readsOne_0 2 rfl) (by decide) rfl ?_
  refine w_iload_n (zat TX4_readsOne_0 3 rfl) rfl ?_
  refine x_callv1 (qX4_faultAsOne l h _ hu) (by omega) kX4_faultAsOne (rdy_S (zat TX4_readsOne_0 4 rfl) kX4_faultAsOne pX4_faultAsOne zw579 zw580) (Nat.le_of_ble_eq_true rfl) rfl rfl ?_
  refine x_istore_n (ls2 := [_, _, _, _]) (zat TX4_readsOne_0 5 rfl) (by decide) rfl ?_
  refine w_iload_n (zat TX4_readsOne_0 6 rfl) rfl ?_
  refine w_if_eq 20 (zat TX4_readsOne_0 7 rfl) (by decide) (fun Hc11 => ?_) (fun Hc11 => ?_)
  · have Hf : fo (tk i) = 0 := nIe (by have := fo_le (tk i); omega) (by omega) Hc11
    have Hz := fo_z Hf
    refine w_iload_n (zat TX4_readsOne_0 12 rfl) rfl ?_
    refine w_bipush (v := -18) (zat TX4_readsOne_0 13 rfl) (by decide) ?_
    refine w_icmp_eq 43 (zat TX4_readsOne_0 14 rfl) (by decide) (fun Hc23 => ?_) (fun Hc23 => ?_)
    · rw [tq18 hu] at Hc23
      refine w_iload_n (zat TX4_readsOne_0 26 rfl) rfl ?_
      refine w_bipush (v := 8) (zat TX4_readsOne_0 27 rfl) (by decide) ?_
      refine w_icmp_lt 55 (zat TX4_readsOne_0 28 rfl) (by decide) (fun Hc46 => ?_) (fun Hc46 => ?_)
      · exact absurd Hc46 (Int32.not_lt.mpr (nI_le (a := 8) (by omega) (by omega)))
      · refine w_aload_n (zat TX4_readsOne_0 29 rfl) rfl ?_
        refine w_iconst (v := 3) (zat TX4_readsOne_0 30 rfl) (by decide) ?_
        refine x_callv2 (qX4_fail l h hW N i hP.2.1 hN hi hN2 3 _ hp) (by omega) kX4_fail (rdy_V (zat TX4_readsOne_0 31 rfl) kX4_fail pX4_fail zw567 zw569 zw9 (zrc (by decide) (by decide) rfl)) (Nat.le_of_ble_eq_true rfl) rfl rfl ?_
        refine w_ireturn (zat TX4_readsOne_0 32 rfl) rfl rfl ?_
        rw [show oneD tk 0 i s = .inl (3, i) from oneP_n Hf Hc23]
        exact ⟨rfl, hP.fl pl 3⟩
    · rw [tq18 hu] at Hc23
      have hPw := hP.wr (t32 (tk i))
      refine w_aload_n (zat TX4_readsOne_0 15 rfl) rfl ?_
      refine w_iload_n (zat TX4_readsOne_0 16 rfl) rfl ?_
      refine x_callu2 (qX4_write l h hW _ hP.2.2.2.1 (by omega) _) (by omega) kX4_write (rdy_V (zat TX4_readsOne_0 17 rfl) kX4_write pX4_write zw571 zw573 zw10 (zrc (by decide) (by decide) rfl)) (Nat.le_of_ble_eq_true rfl) rfl rfl ?_
      refine w_aload_n (zat TX4_readsOne_0 18 rfl) rfl ?_
      refine w_dup (zat TX4_readsOne_0 19 rfl) rfl ?_
      refine y_getI (v := nI i) (zat TX4_readsOne_0 20 rfl) fX4_26 s54 (by decide) (by decide) rfl hPw.2.1 ?_
      refine w_iconst (v := 1) (zat TX4_readsOne_0 21 rfl) (by decide) ?_
      refine w_iadd (zat TX4_readsOne_0 22 rfl) ?_
      rw [nI_1]
      refine w_putI (zat TX4_readsOne_0 23 rfl) gX4_readsOne_26 s54 (by decide) (by decide) rfl ⟨rfl, rfl⟩ ?_
      refine w_iconst (v := 1) (zat TX4_readsOne_0 24 rfl) (by decide) ?_
      refine w_ireturn (zat TX4_readsOne_0 25 rfl) rfl rfl ?_
      rw [show oneD tk 0 i s = .inr ([itO (tk i)], i + 1, s) from oneP_v (sub := none) (s := s) Hf Hc23]
      refine ⟨rfl, ?_⟩
      have z := hPw.at (i + 1)
      rw [← en_itO (u := tk i) (by omega)] at z ⊢
      exact z
  · have Hf : ¬ fo (tk i) = 0 := fun z => Hc11 (by rw [z]; rfl)
    refine w_aload_n (zat TX4_readsOne_0 8 rfl) rfl ?_
    refine w_iload_n (zat TX4_readsOne_0 9 rfl) rfl ?_
    refine x_callv2 (qX4_fail l h hW N i hP.2.1 hN hi hN2 _ _ hp) (by omega) kX4_fail (rdy_V (zat TX4_readsOne_0 10 rfl) kX4_fail pX4_fail zw567 zw569 zw9 (zrc (by decide) (by decide) rfl)) (Nat.le_of_ble_eq_true rfl) rfl rfl ?_
    refine w_ireturn (zat TX4_readsOne_0 11 rfl) rfl rfl ?_
    rw [show oneD tk 0 i s = .inl (fo (tk i), i) from oneP_f (sub := none) (s := s) Hf]
    exact ⟨rfl, hP.fl pl _⟩
theorem qX4_readsOne_s (l : Launch) (h0 : zH) (hW0 : Wc h0) (tk pl : Nat → Nat) (N : Nat) (hT : Tkk tk N) (hH : TkH h0 tk pl N) (d op : Nat) (hd : op + (d + 1) = 8) (ihS : ∀ (i s : Nat) (cs : List Int32) (h : zH), i < N → s ≤ 60 → cs.length ≤ i → Pc h0 h i s cs → Ct l (3 * d + 4) mX4_readsSum [Vq (some (54, 0)), Vi (nI (op + 1))] h (CPo h0 pl cs (sumD tk d i s))) (i s : Nat) (cs : List Int32) (h : zH) (hi : i < N) (h6 : s ≤ 60) (hcs : cs.length ≤ i) (hP : Pc h0 h i s cs) : Ct l (3 * d + 5) mX4_readsOne [Vq (some (54, 0)), Vi (nI op)] h (CPo h0 pl cs (oneD tk (d + 1) i s)) := by
  have hW := Wc.same (congrArg Prod.snd hP.1.1) hW0
  have hN2 := hT.2.1
  have hN : zI h 73 0 2 = nI N := by rw [hP.1.2 73 (by decide) (by decide)]; exact hH.1
  have hu := hT.2.2.1 i hi
  have ht : zI h 80 0 i = t32 (tk i) := by rw [hP.1.2 80 (by decide) (by decide)]; exact (hH.2 i hi).1
  have hp : zI h 81 0 i = nI (pl i) := by rw [hP.1.2 81 (by decide) (by decide)]; exact (hH.2 i hi).2
  refine Ct.in 2 kX4_readsOne (plainFor_of_name rfl) (Nat.le_of_ble_eq_true rfl) ?_
  refine w_aload_n (zat TX4_readsOne_0 0 rfl) rfl ?_
  refine x_callv1 (qX4_token l h hW N i hP.2.1 hN hi hN2 _ ht) (by omega) kX4_token (rdy_V (zat TX4_readsOne_0 1 rfl) kX4_token pX4_token zw563 zw565 zw8 (zrc (by decide) (by decide) rfl)) (Nat.le_of_ble_eq_true rfl) rfl rfl ?_
  refine x_istore_n (ls2 := [_, _, _, _]) (zat TX4_readsOne_0 2 rfl) (by decide) rfl ?_
  refine w_iload_n (zat TX4_readsOne_0 3 rfl) rfl ?_
  refine x_callv1 (qX4_faultAsOne l h _ hu) (by omega) kX4_faultAsOne (rdy_S (zat TX4_readsOne_0 4 rfl) kX4_faultAsOne pX4_faultAsOne zw579 zw580) (Nat.le_of_ble_eq_true rfl) rfl rfl ?_
  refine x_istore_n (ls2 := [_, _, _, _]) (zat TX4_readsOne_0 5 rfl) (by decide) rfl ?_
  refine w_iload_n (zat TX4_readsOne_0 6 rfl) rfl ?_
  refine w_if_eq 20 (zat TX4_readsOne_0 7 rfl) (by decide) (fun Hc11 => ?_) (fun Hc11 => ?_)
  · have Hf : fo (tk i) = 0 := nIe (by have := fo_le (tk i); omega) (by omega) Hc11
    have Hz := fo_z Hf
    refine w_iload_n (zat TX4_readsOne_0 12 rfl) rfl ?_
    refine w_bipush (v := -18) (zat TX4_readsOne_0 13 rfl) (by decide) ?_
    refine w_icmp_eq 43 (zat TX4_readsOne_0 14 rfl) (by decide) (fun Hc23 => ?_) (fun Hc23 => ?_)
    · rw [tq18 hu] at Hc23
      refine w_iload_n (zat TX4_readsOne_0 26 rfl) rfl ?_
      refine w_bipush (v := 8) (zat TX4_readsOne_0 27 rfl) (by decide) ?_
      refine w_icmp_lt 55 (zat TX4_readsOne_0 28 rfl) (by decide) (fun Hc46 => ?_) (fun Hc46 => ?_)
      · have hon := hT.on hi (by omega) (by omega)
        have hPa := hP.at (i + 1)
        refine w_aload_n (zat TX4_readsOne_0 33 rfl) rfl ?_
        refine w_dup (zat TX4_readsOne_0 34 rfl) rfl ?_
        refine y_getI (v := nI i) (zat TX4_readsOne_0 35 rfl) fX4_26 s54 (by decide) (by decide) rfl hP.2.1 ?_
        refine w_iconst (v := 1) (zat TX4_readsOne_0 36 rfl) (by decide) ?_
        refine w_iadd (zat TX4_readsOne_0 37 rfl) ?_
        rw [nI_1]
        refine w_putI (zat TX4_readsOne_0 38 rfl) gX4_readsOne_26 s54 (by decide) (by decide) rfl ⟨rfl, rfl⟩ ?_
        refine w_aload_n (zat TX4_readsOne_0 39 rfl) rfl ?_
        refine w_iload_n (zat TX4_readsOne_0 40 rfl) rfl ?_
        refine w_iconst (v := 1) (zat TX4_readsOne_0 41 rfl) (by decide) ?_
        refine w_iadd (zat TX4_readsOne_0 42 rfl) ?_
        rw [show nI op + 1 = nI (op + 1) from nI_1 op]
        refine x_call2 (ihS (i + 1) s cs _ hon h6 (by omega) hPa) (by omega) kX4_readsSum (rdy_V (zat TX4_readsOne_0 43 rfl) kX4_readsSum pX4_readsSum zw582 zw584 zw12 (zrc (by decide) (by decide) rfl)) (Nat.le_of_ble_eq_true rfl) rfl rfl (fun v h2 hq => ?_) (fun r h2 hq => (CPo_nt hq).elim)
        rw [show oneD tk (d + 1) i s = _ from oneP_s Hf Hc23]
        cases hr : sumD tk d (i + 1) s with
        | inl e =>
          rw [hr] at hq
          obtain ⟨hq1, hq2⟩ := hq
          cases hq1
          refine w_if_ne 77 (zat TX4_readsOne_0 44 rfl) (by decide) (fun Hc72 => ?_) (fun Hc72 => ?_)
          · exact absurd rfl Hc72
          · refine w_iconst (v := 0) (zat TX4_readsOne_0 45 rfl) (by decide) ?_
            refine w_ireturn (zat TX4_readsOne_0 46 rfl) rfl rfl ?_
            exact ⟨rfl, hq2⟩
        | inr r =>
          obtain ⟨ys, j, s'⟩ := r
          rw [hr] at hq
          obtain ⟨hq1, hP2⟩ := hq
          cases hq1
          have hg := sumD_ok hT d (i + 1) s hon h6
          rw [hr] at hg
          obtain ⟨g1, g2, g3, g4, g5, g6⟩ := hg
          have hW2 := Wc.same (congrArg Prod.snd hP2.1.1) hW0
          have hN3 : zI h2 73 0 2 = nI N := by rw [hP2.1.2 73 (by decide) (by decide)]; exact hH.1
          have hu2 := hT.2.2.1 j g1
          have ht2 : zI h2 80 0 j = t32 (tk j) := by rw [hP2.1.2 80 (by decide) (by decide)]; exact (hH.2 j g1).1
          have hp2 : zI h2 81 0 j = nI (pl j) := by rw [hP2.1.2 81 (by decide) (by decide)]; exact (hH.2 j g1).2
          refine w_if_ne 77 (zat TX4_readsOne_0 44 rfl) (by decide) (fun Hc72 => ?_) (fun Hc72 => ?_)
          · refine w_aload_n (zat TX4_readsOne_0 47 rfl) rfl ?_
            refine x_callv1 (qX4_token l h2 hW2 N j hP2.2.1 hN3 g1 hN2 _ ht2) (by omega) kX4_token (rdy_V (zat TX4_readsOne_0 48 rfl) kX4_token pX4_token zw563 zw565 zw8 (zrc (by decide) (by decide) rfl)) (Nat.le_of_ble_eq_true rfl) rfl rfl ?_
            refine w_bipush (v := -19) (zat TX4_readsOne_0 49 rfl) (by decide) ?_
            refine w_icmp_eq 92 (zat TX4_readsOne_0 50 rfl) (by decide) (fun Hc83 => ?_) (fun Hc83 => ?_)
            · rw [tq19 hu2] at Hc83
              refine w_aload_n (zat TX4_readsOne_0 55 rfl) rfl ?_
              refine w_dup (zat TX4_readsOne_0 56 rfl) rfl ?_
              refine y_getI (v := nI j) (zat TX4_readsOne_0 57 rfl) fX4_26 s54 (by decide) (by decide) rfl hP2.2.1 ?_
              refine w_iconst (v := 1) (zat TX4_readsOne_0 58 rfl) (by decide) ?_
              refine w_iadd (zat TX4_readsOne_0 59 rfl) ?_
              rw [nI_1]
              refine w_putI (zat TX4_readsOne_1 0 rfl) gX4_readsOne_26 s54 (by decide) (by decide) rfl ⟨rfl, rfl⟩ ?_
              refine w_iconst (v := 1) (zat TX4_readsOne_1 1 rfl) (by decide) ?_
              refine w_ireturn (zat TX4_readsOne_1 2 rfl) rfl rfl ?_
              show CPo h0 pl cs (if tk j = 19 then .inr (ys, j + 1, s') else .inl (1, j)) _ _
              rw [if_pos Hc83]
              exact ⟨rfl, hP2.at (j + 1)⟩
            · rw [tq19 hu2] at Hc83
              refine w_aload_n (zat TX4_readsOne_0 51 rfl) rfl ?_
              refine w_iconst (v := 1) (zat TX4_readsOne_0 52 rfl) (by decide) ?_
              refine x_callv2 (qX4_fail l h2 hW2 N j hP2.2.1 hN3 g1 hN2 1 _ hp2) (by omega) kX4_fail (rdy_V (zat TX4_readsOne_0 53 rfl) kX4_fail pX4_fail zw567 zw569 zw9 (zrc (by decide) (by decide) rfl)) (Nat.le_of_ble_eq_true rfl) rfl rfl ?_
              refine w_ireturn (zat TX4_readsOne_0 54 rfl) rfl rfl ?_
              show CPo h0 pl cs (if tk j = 19 then .inr (ys, j + 1, s') else .inl (1, j)) _ _
              rw [if_neg Hc83]
              exact ⟨rfl, hP2.fl pl 1⟩
          · exact absurd Hc72 (by decide)
        
      · exact absurd (nI_lt (b := 8) (by omega) (by omega)) Hc46
    · rw [tq18 hu] at Hc23
      have hPw := hP.wr (t32 (tk i))
      refine w_aload_n (zat TX4_readsOne_0 15 rfl) rfl ?_
      refine w_iload_n (zat TX4_readsOne_0 16 rfl) rfl ?_
      refine x_callu2 (qX4_write l h hW _ hP.2.2.2.1 (by omega) _) (by omega) kX4_write (rdy_V (zat TX4_readsOne_0 17 rfl) kX4_write pX4_write zw571 zw573 zw10 (zrc (by decide) (by decide) rfl)) (Nat.le_of_ble_eq_true rfl) rfl rfl ?_
      refine w_aload_n (zat TX4_readsOne_0 18 rfl) rfl ?_
      refine w_dup (zat TX4_readsOne_0 19 rfl) rfl ?_
      refine y_getI (v := nI i) (zat TX4_readsOne_0 20 rfl) fX4_26 s54 (by decide) (by decide) rfl hPw.2.1 ?_
      refine w_iconst (v := 1) (zat TX4_readsOne_0 21 rfl) (by decide) ?_
      refine w_iadd (zat TX4_readsOne_0 22 rfl) ?_
      rw [nI_1]
      refine w_putI (zat TX4_readsOne_0 23 rfl) gX4_readsOne_26 s54 (by decide) (by decide) rfl ⟨rfl, rfl⟩ ?_
      refine w_iconst (v := 1) (zat TX4_readsOne_0 24 rfl) (by decide) ?_
      refine w_ireturn (zat TX4_readsOne_0 25 rfl) rfl rfl ?_
      rw [show oneD tk (d + 1) i s = .inr ([itO (tk i)], i + 1, s) from oneP_v (sub := (some (sumD tk d))) (s := s) Hf Hc23]
      refine ⟨rfl, ?_⟩
      have z := hPw.at (i + 1)
      rw [← en_itO (u := tk i) (by omega)] at z ⊢
      exact z
  · have Hf : ¬ fo (tk i) = 0 := fun z => Hc11 (by rw [z]; rfl)
    refine w_aload_n (zat TX4_readsOne_0 8 rfl) rfl ?_
    refine w_iload_n (zat TX4_readsOne_0 9 rfl) rfl ?_
    refine x_callv2 (qX4_fail l h hW N i hP.2.1 hN hi hN2 _ _ hp) (by omega) kX4_fail (rdy_V (zat TX4_readsOne_0 10 rfl) kX4_fail pX4_fail zw567 zw569 zw9 (zrc (by decide) (by decide) rfl)) (Nat.le_of_ble_eq_true rfl) rfl rfl ?_
    refine w_ireturn (zat TX4_readsOne_0 11 rfl) rfl rfl ?_
    rw [show oneD tk (d + 1) i s = .inl (fo (tk i), i) from oneP_f (sub := (some (sumD tk d))) (s := s) Hf]
    exact ⟨rfl, hP.fl pl _⟩
theorem lX4_readsTerm_37 (l : Launch) (h0 : zH) (hW0 : Wc h0) (tk pl : Nat → Nat) (N : Nat) (hT : Tkk tk N) (hH : TkH h0 tk pl N) (sub : Nat → Nat → PR) (E D op : Nat) (hD : 2 ≤ D) (hok : ∀ i s, i < N → s ≤ 60 → PrG N i s E (sub i s)) (hsub : ∀ (i s : Nat) (cs : List Int32) (h : zH), i < N → s ≤ 60 → cs.length ≤ i → Pc h0 h i s cs → Ct l D mX4_readsOne [Vq (some (54, 0)), Vi (nI op)] h (CPo h0 pl cs (sub i s))) (cs : List Int32) (f c : Nat) (ih : ∀ (ys : List (Nat × Int32)) (i s : Nat) (h : zH), i < N → s ≤ 60 → cs.length + ys.length ≤ i → Pc h0 h i s (cs ++ ys.map enI) → ∀ x, Wp l mX4_readsTerm (D + 1) 12 [some (Vq (some (54, 0))), some (Vi (nI op)), some (Vi (nI (c + 1))), x] [] h (CPo h0 pl cs (opL tk sub 16 17 f ys i s))) (ys : List (Nat × Int32)) (i s : Nat) (h : zH) (hi : i < N) (h6 : s ≤ 60) (hl : cs.length + ys.length ≤ i) (hP : Pc h0 h i s (cs ++ ys.map enI)) (hab : tk i = 16 ∨ tk i = 17) : Wp l mX4_readsTerm (D + 1) 37 [some (Vq (some (54, 0))), some (Vi (nI op)), some (Vi (nI c)), some (Vi (t32 (tk i)))] [] h (CPo h0 pl cs (opL tk sub 16 17 (f + 1) ys i s)) := by
  have hW := Wc.same (congrArg Prod.snd hP.1.1) hW0
  have hN2 := hT.2.1
  have hN : zI h 73 0 2 = nI N := by rw [hP.1.2 73 (by decide) (by decide)]; exact hH.1
  have hu := hT.2.2.1 i hi
  have ht : zI h 80 0 i = t32 (tk i) := by rw [hP.1.2 80 (by decide) (by decide)]; exact (hH.2 i hi).1
  have hp : zI h 81 0 i = nI (pl i) := by rw [hP.1.2 81 (by decide) (by decide)]; exact (hH.2 i hi).2
  have hon := hT.on hi (by omega) (by omega)
  unfold opL
  rw [if_pos hab]
  by_cases h5 : s < 60
  · rw [if_pos h5]
    have hPs := (hP.sg (s + 1)).at (i + 1)
    refine w_aload_n (zat TX4_readsTerm 22 rfl) rfl ?_
    refine x_callv1 (qX4_passesSign_s l h i s hP.2.1 hP.2.2.1 h5) (by omega) kX4_passesSign (rdy_V (zat TX4_readsTerm 23 rfl) kX4_passesSign pX4_passesSign zw594 zw596 zw15 (zrc (by decide) (by decide) rfl)) (Nat.le_of_ble_eq_true rfl) rfl rfl ?_
    refine w_if_eq 52 (zat TX4_readsTerm 24 rfl) (by decide) (fun Hc41 => ?_) (fun Hc41 => ?_)
    · exact absurd Hc41 (by decide)
    · refine w_aload_n (zat TX4_readsTerm 25 rfl) rfl ?_
      refine w_iload_n (zat TX4_readsTerm 26 rfl) rfl ?_
      refine x_call2 (hsub (i + 1) (s + 1) (cs ++ ys.map enI) _ hon (by omega) (by rw [List.length_append, List.length_map]; omega) hPs) (by omega) kX4_readsOne (rdy_V (zat TX4_readsTerm 27 rfl) kX4_readsOne pX4_readsOne zw590 zw592 zw14 (zrc (by decide) (by decide) rfl)) (Nat.le_of_ble_eq_true rfl) rfl rfl (fun v h2 hq => ?_) (fun r h2 hq => (CPo_nt hq).elim)
      cases hr : sub (i + 1) (s + 1) with
      | inl e =>
        rw [hr] at hq
        obtain ⟨hq1, hq2⟩ := hq
        cases hq1
        refine w_if_ne 54 (zat TX4_readsTerm 28 rfl) (by decide) (fun Hc49 => ?_) (fun Hc49 => ?_)
        · exact absurd rfl Hc49
        · refine w_iconst (v := 0) (zat TX4_readsTerm 29 rfl) (by decide) ?_
          refine w_ireturn (zat TX4_readsTerm 30 rfl) rfl rfl ?_
          exact ⟨rfl, hq2⟩
      | inr r =>
        obtain ⟨zs, j, s'⟩ := r
        rw [hr] at hq
        obtain ⟨hq1, hP2⟩ := hq
        cases hq1
        replace hP2 : Pc h0 h2 j s' (cs ++ ys.map enI ++ zs.map enI) := hP2
        have hg := hok (i + 1) (s + 1) hon (by omega)
        rw [hr] at hg
        obtain ⟨g1, g2, g3, g4, g5, g6⟩ := hg
        have hW2 := Wc.same (congrArg Prod.snd hP2.1.1) hW0
        have hw := hP2.wr (t32 (tk i))
        have he : cs ++ ys.map enI ++ zs.map enI ++ [t32 (tk i)] = cs ++ (ys ++ zs ++ [opN (tk i)]).map enI := by
          rw [List.map_append, List.map_append, ← en_opN (u := tk i) (by omega), List.append_assoc, List.append_assoc, List.append_assoc]
          rfl
        rw [he] at hw
        refine w_if_ne 54 (zat TX4_readsTerm 28 rfl) (by decide) (fun Hc49 => ?_) (fun Hc49 => ?_)
        · refine w_aload_n (zat TX4_readsTerm 31 rfl) rfl ?_
          refine w_iload_n (zat TX4_readsTerm 32 rfl) rfl ?_
          refine x_callu2 (qX4_write l h2 hW2 _ hP2.2.2.2.1 (by rw [List.length_append, List.length_append, List.length_map, List.length_map]; omega) _) (by omega) kX4_write (rdy_V (zat TX4_readsTerm 33 rfl) kX4_write pX4_write zw571 zw573 zw10 (zrc (by decide) (by decide) rfl)) (Nat.le_of_ble_eq_true rfl) rfl rfl ?_
          refine x_iinc (v := nI (c + 1)) (ls2 := [_, _, _, _]) (zat TX4_readsTerm 34 rfl) rfl (nI_inc c) rfl ?_
          refine w_goto 12 (zat TX4_readsTerm 35 rfl) (by decide) ?_
          refine ih (ys ++ zs ++ [opN (tk i)]) j s' _ g1 g4 ?_ hw _
          rw [List.length_append, List.length_append]
          show cs.length + (ys.length + zs.length + 1) ≤ j
          omega
        · exact absurd Hc49 (by decide)
  · rw [if_neg h5]
    refine w_aload_n (zat TX4_readsTerm 22 rfl) rfl ?_
    refine x_callv1 (qX4_passesSign_n l h hW N i s hP.2.1 hP.2.2.1 hN hi hN2 h5 h6 _ hp) (by omega) kX4_passesSign (rdy_V (zat TX4_readsTerm 23 rfl) kX4_passesSign pX4_passesSign zw594 zw596 zw15 (zrc (by decide) (by decide) rfl)) (Nat.le_of_ble_eq_true rfl) rfl rfl ?_
    refine w_if_eq 52 (zat TX4_readsTerm 24 rfl) (by decide) (fun Hc41 => ?_) (fun Hc41 => ?_)
    · refine w_iconst (v := 0) (zat TX4_readsTerm 29 rfl) (by decide) ?_
      refine w_ireturn (zat TX4_readsTerm 30 rfl) rfl rfl ?_
      exact ⟨rfl, hP.fl pl 3⟩
    · exact absurd rfl Hc41
theorem lX4_readsTerm_12 (l : Launch) (h0 : zH) (hW0 : Wc h0) (tk pl : Nat → Nat) (N : Nat) (hT : Tkk tk N) (hH : TkH h0 tk pl N) (sub : Nat → Nat → PR) (E D op : Nat) (hD : 2 ≤ D) (hok : ∀ i s, i < N → s ≤ 60 → PrG N i s E (sub i s)) (hsub : ∀ (i s : Nat) (cs : List Int32) (h : zH), i < N → s ≤ 60 → cs.length ≤ i → Pc h0 h i s cs → Ct l D mX4_readsOne [Vq (some (54, 0)), Vi (nI op)] h (CPo h0 pl cs (sub i s))) (cs : List Int32) : ∀ f c : Nat, c + f = 61 → ∀ (ys : List (Nat × Int32)) (i s : Nat) (h : zH), i < N → s ≤ 60 → cs.length + ys.length ≤ i → Pc h0 h i s (cs ++ ys.map enI) → ∀ x, Wp l mX4_readsTerm (D + 1) 12 [some (Vq (some (54, 0))), some (Vi (nI op)), some (Vi (nI c)), x] [] h (CPo h0 pl cs (opL tk sub 16 17 f ys i s)) := by
  intro f
  induction f with
  | zero =>
    intro c hc ys i s h hi h6 hl hP x
    have hW := Wc.same (congrArg Prod.snd hP.1.1) hW0
    have hN2 := hT.2.1
    have hN : zI h 73 0 2 = nI N := by rw [hP.1.2 73 (by decide) (by decide)]; exact hH.1
    have hu := hT.2.2.1 i hi
    have ht : zI h 80 0 i = t32 (tk i) := by rw [hP.1.2 80 (by decide) (by decide)]; exact (hH.2 i hi).1
    have hp : zI h 81 0 i = nI (pl i) := by rw [hP.1.2 81 (by decide) (by decide)]; exact (hH.2 i hi).2
    refine w_iload_n (zat TX4_readsTerm 8 rfl) rfl ?_
    refine w_bipush (v := 60) (zat TX4_readsTerm 9 rfl) (by decide) ?_
    refine w_icmp_gt 65 (zat TX4_readsTerm 10 rfl) (by decide) (fun Hc15 => ?_) (fun Hc15 => ?_)
    · refine w_aload_n (zat TX4_readsTerm 36 rfl) rfl ?_
      refine w_iconst (v := 3) (zat TX4_readsTerm 37 rfl) (by decide) ?_
      refine x_callv2 (qX4_fail l h hW N i hP.2.1 hN hi hN2 3 _ hp) (by omega) kX4_fail (rdy_V (zat TX4_readsTerm 38 rfl) kX4_fail pX4_fail zw567 zw569 zw9 (zrc (by decide) (by decide) rfl)) (Nat.le_of_ble_eq_true rfl) rfl rfl ?_
      refine w_ireturn (zat TX4_readsTerm 39 rfl) rfl rfl ?_
      exact ⟨rfl, hP.fl pl 3⟩
    · exact absurd (nI_lt (a := 60) (by omega) (by omega)) Hc15
  | succ f ih =>
    intro c hc ys i s h hi h6 hl hP x
    have hW := Wc.same (congrArg Prod.snd hP.1.1) hW0
    have hN2 := hT.2.1
    have hN : zI h 73 0 2 = nI N := by rw [hP.1.2 73 (by decide) (by decide)]; exact hH.1
    have hu := hT.2.2.1 i hi
    have ht : zI h 80 0 i = t32 (tk i) := by rw [hP.1.2 80 (by decide) (by decide)]; exact (hH.2 i hi).1
    have hp : zI h 81 0 i = nI (pl i) := by rw [hP.1.2 81 (by decide) (by decide)]; exact (hH.2 i hi).2
    refine w_iload_n (zat TX4_readsTerm 8 rfl) rfl ?_
    refine w_bipush (v := 60) (zat TX4_readsTerm 9 rfl) (by decide) ?_
    refine w_icmp_gt 65 (zat TX4_readsTerm 10 rfl) (by decide) (fun Hc15 => ?_) (fun Hc15 => ?_)
    · exact absurd Hc15 (Int32.not_lt.mpr (nI_le (b := 60) (by omega) (by omega)))
    · refine w_aload_n (zat TX4_readsTerm 11 rfl) rfl ?_
      refine x_callv1 (qX4_token l h hW N i hP.2.1 hN hi hN2 _ ht) (by omega) kX4_token (rdy_V (zat TX4_readsTerm 12 rfl) kX4_token pX4_token zw563 zw565 zw8 (zrc (by decide) (by decide) rfl)) (Nat.le_of_ble_eq_true rfl) rfl rfl ?_
      refine x_istore_n (ls2 := [_, _, _, _]) (zat TX4_readsTerm 13 rfl) (by decide) rfl ?_
      refine w_iload_n (zat TX4_readsTerm 14 rfl) rfl ?_
      refine w_bipush (v := -16) (zat TX4_readsTerm 15 rfl) (by decide) ?_
      refine w_icmp_eq 37 (zat TX4_readsTerm 16 rfl) (by decide) (fun Hc26 => ?_) (fun Hc26 => ?_)
      · rw [tq16 hu] at Hc26
        exact lX4_readsTerm_37 l h0 hW0 tk pl N hT hH sub E D op hD hok hsub cs f c (ih (c + 1) (by omega)) ys i s h hi h6 hl hP (Or.inl Hc26)
      · rw [tq16 hu] at Hc26
        refine w_iload_n (zat TX4_readsTerm 17 rfl) rfl ?_
        refine w_bipush (v := -17) (zat TX4_readsTerm 18 rfl) (by decide) ?_
        refine w_icmp_eq 37 (zat TX4_readsTerm 19 rfl) (by decide) (fun Hc32 => ?_) (fun Hc32 => ?_)
        · rw [tq17 hu] at Hc32
          exact lX4_readsTerm_37 l h0 hW0 tk pl N hT hH sub E D op hD hok hsub cs f c (ih (c + 1) (by omega)) ys i s h hi h6 hl hP (Or.inr Hc32)
        · rw [tq17 hu] at Hc32
          refine w_iconst (v := 1) (zat TX4_readsTerm 20 rfl) (by decide) ?_
          refine w_ireturn (zat TX4_readsTerm 21 rfl) rfl rfl ?_
          unfold opL
          rw [if_neg (fun z => z.elim Hc26 Hc32)]
          exact ⟨rfl, hP⟩
theorem qX4_readsTerm (l : Launch) (h0 : zH) (hW0 : Wc h0) (tk pl : Nat → Nat) (N : Nat) (hT : Tkk tk N) (hH : TkH h0 tk pl N) (sub : Nat → Nat → PR) (E D op : Nat) (hD : 2 ≤ D) (hok : ∀ i s, i < N → s ≤ 60 → PrG N i s E (sub i s)) (hsub : ∀ (i s : Nat) (cs : List Int32) (h : zH), i < N → s ≤ 60 → cs.length ≤ i → Pc h0 h i s cs → Ct l D mX4_readsOne [Vq (some (54, 0)), Vi (nI op)] h (CPo h0 pl cs (sub i s))) (i s : Nat) (cs : List Int32) (h : zH) (hi : i < N) (h6 : s ≤ 60) (hcs : cs.length ≤ i) (hP : Pc h0 h i s cs) : Ct l (D + 1) mX4_readsTerm [Vq (some (54, 0)), Vi (nI op)] h (CPo h0 pl cs (chP tk sub 16 17 i s)) := by
  refine Ct.in 2 kX4_readsTerm (plainFor_of_name rfl) (Nat.le_of_ble_eq_true rfl) ?_
  refine w_aload_n (zat TX4_readsTerm 0 rfl) rfl ?_
  refine w_iload_n (zat TX4_readsTerm 1 rfl) rfl ?_
  refine x_call2 (hsub i s cs h hi h6 hcs hP) (by omega) kX4_readsOne (rdy_V (zat TX4_readsTerm 2 rfl) kX4_readsOne pX4_readsOne zw590 zw592 zw14 (zrc (by decide) (by decide) rfl)) (Nat.le_of_ble_eq_true rfl) rfl rfl (fun v h2 hq => ?_) (fun r h2 hq => (CPo_nt hq).elim)
  unfold chP
  cases hr : sub i s with
  | inl e =>
    rw [hr] at hq
    obtain ⟨hq1, hq2⟩ := hq
    cases hq1
    refine w_if_ne 10 (zat TX4_readsTerm 3 rfl) (by decide) (fun Hc5 => ?_) (fun Hc5 => ?_)
    · exact absurd rfl Hc5
    · refine w_iconst (v := 0) (zat TX4_readsTerm 4 rfl) (by decide) ?_
      refine w_ireturn (zat TX4_readsTerm 5 rfl) rfl rfl ?_
      exact ⟨rfl, hq2⟩
  | inr r =>
    obtain ⟨ys, j, s'⟩ := r
    rw [hr] at hq
    obtain ⟨hq1, hP2⟩ := hq
    cases hq1
    have hg := hok i s hi h6
    rw [hr] at hg
    obtain ⟨g1, g2, g3, g4, g5, g6⟩ := hg
    refine w_if_ne 10 (zat TX4_readsTerm 3 rfl) (by decide) (fun Hc5 => ?_) (fun Hc5 => ?_)
    · refine w_iconst (v := 0) (zat TX4_readsTerm 6 rfl) (by decide) ?_
      refine x_istore_n (ls2 := [_, _, _, _]) (zat TX4_readsTerm 7 rfl) (by decide) rfl ?_
      exact lX4_readsTerm_12 l h0 hW0 tk pl N hT hH sub E D op hD hok hsub cs 61 0 (by omega) ys j s' h2 g1 g4 (by omega) hP2 _
    · exact absurd Hc5 (by decide)
theorem lX4_readsSum_37 (l : Launch) (h0 : zH) (hW0 : Wc h0) (tk pl : Nat → Nat) (N : Nat) (hT : Tkk tk N) (hH : TkH h0 tk pl N) (sub : Nat → Nat → PR) (E D op : Nat) (hD : 2 ≤ D) (hok : ∀ i s, i < N → s ≤ 60 → PrG N i s E (sub i s)) (hsub : ∀ (i s : Nat) (cs : List Int32) (h : zH), i < N → s ≤ 60 → cs.length ≤ i → Pc h0 h i s cs → Ct l D mX4_readsTerm [Vq (some (54, 0)), Vi (nI op)] h (CPo h0 pl cs (sub i s))) (cs : List Int32) (f c : Nat) (ih : ∀ (ys : List (Nat × Int32)) (i s : Nat) (h : zH), i < N → s ≤ 60 → cs.length + ys.length ≤ i → Pc h0 h i s (cs ++ ys.map enI) → ∀ x, Wp l mX4_readsSum (D + 1) 12 [some (Vq (some (54, 0))), some (Vi (nI op)), some (Vi (nI (c + 1))), x] [] h (CPo h0 pl cs (opL tk sub 14 15 f ys i s))) (ys : List (Nat × Int32)) (i s : Nat) (h : zH) (hi : i < N) (h6 : s ≤ 60) (hl : cs.length + ys.length ≤ i) (hP : Pc h0 h i s (cs ++ ys.map enI)) (hab : tk i = 14 ∨ tk i = 15) : Wp l mX4_readsSum (D + 1) 37 [some (Vq (some (54, 0))), some (Vi (nI op)), some (Vi (nI c)), some (Vi (t32 (tk i)))] [] h (CPo h0 pl cs (opL tk sub 14 15 (f + 1) ys i s)) := by
  have hW := Wc.same (congrArg Prod.snd hP.1.1) hW0
  have hN2 := hT.2.1
  have hN : zI h 73 0 2 = nI N := by rw [hP.1.2 73 (by decide) (by decide)]; exact hH.1
  have hu := hT.2.2.1 i hi
  have ht : zI h 80 0 i = t32 (tk i) := by rw [hP.1.2 80 (by decide) (by decide)]; exact (hH.2 i hi).1
  have hp : zI h 81 0 i = nI (pl i) := by rw [hP.1.2 81 (by decide) (by decide)]; exact (hH.2 i hi).2
  have hon := hT.on hi (by omega) (by omega)
  unfold opL
  rw [if_pos hab]
  by_cases h5 : s < 60
  · rw [if_pos h5]
    have hPs := (hP.sg (s + 1)).at (i + 1)
    refine w_aload_n (zat TX4_readsSum 22 rfl) rfl ?_
    refine x_callv1 (qX4_passesSign_s l h i s hP.2.1 hP.2.2.1 h5) (by omega) kX4_passesSign (rdy_V (zat TX4_readsSum 23 rfl) kX4_passesSign pX4_passesSign zw594 zw596 zw15 (zrc (by decide) (by decide) rfl)) (Nat.le_of_ble_eq_true rfl) rfl rfl ?_
    refine w_if_eq 52 (zat TX4_readsSum 24 rfl) (by decide) (fun Hc41 => ?_) (fun Hc41 => ?_)
    · exact absurd Hc41 (by decide)
    · refine w_aload_n (zat TX4_readsSum 25 rfl) rfl ?_
      refine w_iload_n (zat TX4_readsSum 26 rfl) rfl ?_
      refine x_call2 (hsub (i + 1) (s + 1) (cs ++ ys.map enI) _ hon (by omega) (by rw [List.length_append, List.length_map]; omega) hPs) (by omega) kX4_readsTerm (rdy_V (zat TX4_readsSum 27 rfl) kX4_readsTerm pX4_readsTerm zw586 zw588 zw13 (zrc (by decide) (by decide) rfl)) (Nat.le_of_ble_eq_true rfl) rfl rfl (fun v h2 hq => ?_) (fun r h2 hq => (CPo_nt hq).elim)
      cases hr : sub (i + 1) (s + 1) with
      | inl e =>
        rw [hr] at hq
        obtain ⟨hq1, hq2⟩ := hq
        cases hq1
        refine w_if_ne 54 (zat TX4_readsSum 28 rfl) (by decide) (fun Hc49 => ?_) (fun Hc49 => ?_)
        · exact absurd rfl Hc49
        · refine w_iconst (v := 0) (zat TX4_readsSum 29 rfl) (by decide) ?_
          refine w_ireturn (zat TX4_readsSum 30 rfl) rfl rfl ?_
          exact ⟨rfl, hq2⟩
      | inr r =>
        obtain ⟨zs, j, s'⟩ := r
        rw [hr] at hq
        obtain ⟨hq1, hP2⟩ := hq
        cases hq1
        replace hP2 : Pc h0 h2 j s' (cs ++ ys.map enI ++ zs.map enI) := hP2
        have hg := hok (i + 1) (s + 1) hon (by omega)
        rw [hr] at hg
        obtain ⟨g1, g2, g3, g4, g5, g6⟩ := hg
        have hW2 := Wc.same (congrArg Prod.snd hP2.1.1) hW0
        have hw := hP2.wr (t32 (tk i))
        have he : cs ++ ys.map enI ++ zs.map enI ++ [t32 (tk i)] = cs ++ (ys ++ zs ++ [opN (tk i)]).map enI := by
          rw [List.map_append, List.map_append, ← en_opN (u := tk i) (by omega), List.append_assoc, List.append_assoc, List.append_assoc]
          rfl
        rw [he] at hw
        refine w_if_ne 54 (zat TX4_readsSum 28 rfl) (by decide) (fun Hc49 => ?_) (fun Hc49 => ?_)
        · refine w_aload_n (zat TX4_readsSum 31 rfl) rfl ?_
          refine w_iload_n (zat TX4_readsSum 32 rfl) rfl ?_
          refine x_callu2 (qX4_write l h2 hW2 _ hP2.2.2.2.1 (by rw [List.length_append, List.length_append, List.length_map, List.length_map]; omega) _) (by omega) kX4_write (rdy_V (zat TX4_readsSum 33 rfl) kX4_write pX4_write zw571 zw573 zw10 (zrc (by decide) (by decide) rfl)) (Nat.le_of_ble_eq_true rfl) rfl rfl ?_
          refine x_iinc (v := nI (c + 1)) (ls2 := [_, _, _, _]) (zat TX4_readsSum 34 rfl) rfl (nI_inc c) rfl ?_
          refine w_goto 12 (zat TX4_readsSum 35 rfl) (by decide) ?_
          refine ih (ys ++ zs ++ [opN (tk i)]) j s' _ g1 g4 ?_ hw _
          rw [List.length_append, List.length_append]
          show cs.length + (ys.length + zs.length + 1) ≤ j
          omega
        · exact absurd Hc49 (by decide)
  · rw [if_neg h5]
    refine w_aload_n (zat TX4_readsSum 22 rfl) rfl ?_
    refine x_callv1 (qX4_passesSign_n l h hW N i s hP.2.1 hP.2.2.1 hN hi hN2 h5 h6 _ hp) (by omega) kX4_passesSign (rdy_V (zat TX4_readsSum 23 rfl) kX4_passesSign pX4_passesSign zw594 zw596 zw15 (zrc (by decide) (by decide) rfl)) (Nat.le_of_ble_eq_true rfl) rfl rfl ?_
    refine w_if_eq 52 (zat TX4_readsSum 24 rfl) (by decide) (fun Hc41 => ?_) (fun Hc41 => ?_)
    · refine w_iconst (v := 0) (zat TX4_readsSum 29 rfl) (by decide) ?_
      refine w_ireturn (zat TX4_readsSum 30 rfl) rfl rfl ?_
      exact ⟨rfl, hP.fl pl 3⟩
    · exact absurd rfl Hc41
theorem lX4_readsSum_12 (l : Launch) (h0 : zH) (hW0 : Wc h0) (tk pl : Nat → Nat) (N : Nat) (hT : Tkk tk N) (hH : TkH h0 tk pl N) (sub : Nat → Nat → PR) (E D op : Nat) (hD : 2 ≤ D) (hok : ∀ i s, i < N → s ≤ 60 → PrG N i s E (sub i s)) (hsub : ∀ (i s : Nat) (cs : List Int32) (h : zH), i < N → s ≤ 60 → cs.length ≤ i → Pc h0 h i s cs → Ct l D mX4_readsTerm [Vq (some (54, 0)), Vi (nI op)] h (CPo h0 pl cs (sub i s))) (cs : List Int32) : ∀ f c : Nat, c + f = 61 → ∀ (ys : List (Nat × Int32)) (i s : Nat) (h : zH), i < N → s ≤ 60 → cs.length + ys.length ≤ i → Pc h0 h i s (cs ++ ys.map enI) → ∀ x, Wp l mX4_readsSum (D + 1) 12 [some (Vq (some (54, 0))), some (Vi (nI op)), some (Vi (nI c)), x] [] h (CPo h0 pl cs (opL tk sub 14 15 f ys i s)) := by
  intro f
  induction f with
  | zero =>
    intro c hc ys i s h hi h6 hl hP x
    have hW := Wc.same (congrArg Prod.snd hP.1.1) hW0
    have hN2 := hT.2.1
    have hN : zI h 73 0 2 = nI N := by rw [hP.1.2 73 (by decide) (by decide)]; exact hH.1
    have hu := hT.2.2.1 i hi
    have ht : zI h 80 0 i = t32 (tk i) := by rw [hP.1.2 80 (by decide) (by decide)]; exact (hH.2 i hi).1
    have hp : zI h 81 0 i = nI (pl i) := by rw [hP.1.2 81 (by decide) (by decide)]; exact (hH.2 i hi).2
    refine w_iload_n (zat TX4_readsSum 8 rfl) rfl ?_
    refine w_bipush (v := 60) (zat TX4_readsSum 9 rfl) (by decide) ?_
    refine w_icmp_gt 65 (zat TX4_readsSum 10 rfl) (by decide) (fun Hc15 => ?_) (fun Hc15 => ?_)
    · refine w_aload_n (zat TX4_readsSum 36 rfl) rfl ?_
      refine w_iconst (v := 3) (zat TX4_readsSum 37 rfl) (by decide) ?_
      refine x_callv2 (qX4_fail l h hW N i hP.2.1 hN hi hN2 3 _ hp) (by omega) kX4_fail (rdy_V (zat TX4_readsSum 38 rfl) kX4_fail pX4_fail zw567 zw569 zw9 (zrc (by decide) (by decide) rfl)) (Nat.le_of_ble_eq_true rfl) rfl rfl ?_
      refine w_ireturn (zat TX4_readsSum 39 rfl) rfl rfl ?_
      exact ⟨rfl, hP.fl pl 3⟩
    · exact absurd (nI_lt (a := 60) (by omega) (by omega)) Hc15
  | succ f ih =>
    intro c hc ys i s h hi h6 hl hP x
    have hW := Wc.same (congrArg Prod.snd hP.1.1) hW0
    have hN2 := hT.2.1
    have hN : zI h 73 0 2 = nI N := by rw [hP.1.2 73 (by decide) (by decide)]; exact hH.1
    have hu := hT.2.2.1 i hi
    have ht : zI h 80 0 i = t32 (tk i) := by rw [hP.1.2 80 (by decide) (by decide)]; exact (hH.2 i hi).1
    have hp : zI h 81 0 i = nI (pl i) := by rw [hP.1.2 81 (by decide) (by decide)]; exact (hH.2 i hi).2
    refine w_iload_n (zat TX4_readsSum 8 rfl) rfl ?_
    refine w_bipush (v := 60) (zat TX4_readsSum 9 rfl) (by decide) ?_
    refine w_icmp_gt 65 (zat TX4_readsSum 10 rfl) (by decide) (fun Hc15 => ?_) (fun Hc15 => ?_)
    · exact absurd Hc15 (Int32.not_lt.mpr (nI_le (b := 60) (by omega) (by omega)))
    · refine w_aload_n (zat TX4_readsSum 11 rfl) rfl ?_
      refine x_callv1 (qX4_token l h hW N i hP.2.1 hN hi hN2 _ ht) (by omega) kX4_token (rdy_V (zat TX4_readsSum 12 rfl) kX4_token pX4_token zw563 zw565 zw8 (zrc (by decide) (by decide) rfl)) (Nat.le_of_ble_eq_true rfl) rfl rfl ?_
      refine x_istore_n (ls2 := [_, _, _, _]) (zat TX4_readsSum 13 rfl) (by decide) rfl ?_
      refine w_iload_n (zat TX4_readsSum 14 rfl) rfl ?_
      refine w_bipush (v := -14) (zat TX4_readsSum 15 rfl) (by decide) ?_
      refine w_icmp_eq 37 (zat TX4_readsSum 16 rfl) (by decide) (fun Hc26 => ?_) (fun Hc26 => ?_)
      · rw [tq14 hu] at Hc26
        exact lX4_readsSum_37 l h0 hW0 tk pl N hT hH sub E D op hD hok hsub cs f c (ih (c + 1) (by omega)) ys i s h hi h6 hl hP (Or.inl Hc26)
      · rw [tq14 hu] at Hc26
        refine w_iload_n (zat TX4_readsSum 17 rfl) rfl ?_
        refine w_bipush (v := -15) (zat TX4_readsSum 18 rfl) (by decide) ?_
        refine w_icmp_eq 37 (zat TX4_readsSum 19 rfl) (by decide) (fun Hc32 => ?_) (fun Hc32 => ?_)
        · rw [tq15 hu] at Hc32
          exact lX4_readsSum_37 l h0 hW0 tk pl N hT hH sub E D op hD hok hsub cs f c (ih (c + 1) (by omega)) ys i s h hi h6 hl hP (Or.inr Hc32)
        · rw [tq15 hu] at Hc32
          refine w_iconst (v := 1) (zat TX4_readsSum 20 rfl) (by decide) ?_
          refine w_ireturn (zat TX4_readsSum 21 rfl) rfl rfl ?_
          unfold opL
          rw [if_neg (fun z => z.elim Hc26 Hc32)]
          exact ⟨rfl, hP⟩
theorem qX4_readsSum (l : Launch) (h0 : zH) (hW0 : Wc h0) (tk pl : Nat → Nat) (N : Nat) (hT : Tkk tk N) (hH : TkH h0 tk pl N) (sub : Nat → Nat → PR) (E D op : Nat) (hD : 2 ≤ D) (hok : ∀ i s, i < N → s ≤ 60 → PrG N i s E (sub i s)) (hsub : ∀ (i s : Nat) (cs : List Int32) (h : zH), i < N → s ≤ 60 → cs.length ≤ i → Pc h0 h i s cs → Ct l D mX4_readsTerm [Vq (some (54, 0)), Vi (nI op)] h (CPo h0 pl cs (sub i s))) (i s : Nat) (cs : List Int32) (h : zH) (hi : i < N) (h6 : s ≤ 60) (hcs : cs.length ≤ i) (hP : Pc h0 h i s cs) : Ct l (D + 1) mX4_readsSum [Vq (some (54, 0)), Vi (nI op)] h (CPo h0 pl cs (chP tk sub 14 15 i s)) := by
  refine Ct.in 2 kX4_readsSum (plainFor_of_name rfl) (Nat.le_of_ble_eq_true rfl) ?_
  refine w_aload_n (zat TX4_readsSum 0 rfl) rfl ?_
  refine w_iload_n (zat TX4_readsSum 1 rfl) rfl ?_
  refine x_call2 (hsub i s cs h hi h6 hcs hP) (by omega) kX4_readsTerm (rdy_V (zat TX4_readsSum 2 rfl) kX4_readsTerm pX4_readsTerm zw586 zw588 zw13 (zrc (by decide) (by decide) rfl)) (Nat.le_of_ble_eq_true rfl) rfl rfl (fun v h2 hq => ?_) (fun r h2 hq => (CPo_nt hq).elim)
  unfold chP
  cases hr : sub i s with
  | inl e =>
    rw [hr] at hq
    obtain ⟨hq1, hq2⟩ := hq
    cases hq1
    refine w_if_ne 10 (zat TX4_readsSum 3 rfl) (by decide) (fun Hc5 => ?_) (fun Hc5 => ?_)
    · exact absurd rfl Hc5
    · refine w_iconst (v := 0) (zat TX4_readsSum 4 rfl) (by decide) ?_
      refine w_ireturn (zat TX4_readsSum 5 rfl) rfl rfl ?_
      exact ⟨rfl, hq2⟩
  | inr r =>
    obtain ⟨ys, j, s'⟩ := r
    rw [hr] at hq
    obtain ⟨hq1, hP2⟩ := hq
    cases hq1
    have hg := hok i s hi h6
    rw [hr] at hg
    obtain ⟨g1, g2, g3, g4, g5, g6⟩ := hg
    refine w_if_ne 10 (zat TX4_readsSum 3 rfl) (by decide) (fun Hc5 => ?_) (fun Hc5 => ?_)
    · refine w_iconst (v := 0) (zat TX4_readsSum 6 rfl) (by decide) ?_
      refine x_istore_n (ls2 := [_, _, _, _]) (zat TX4_readsSum 7 rfl) (by decide) rfl ?_
      exact lX4_readsSum_12 l h0 hW0 tk pl N hT hH sub E D op hD hok hsub cs 61 0 (by omega) ys j s' h2 g1 g4 (by omega) hP2 _
    · exact absurd Hc5 (by decide)
theorem qX4_sum (l : Launch) (h0 : zH) (hW0 : Wc h0) (tk pl : Nat → Nat) (N : Nat) (hT : Tkk tk N) (hH : TkH h0 tk pl N) : ∀ d op : Nat, op + d = 8 → ∀ (i s : Nat) (cs : List Int32) (h : zH), i < N → s ≤ 60 → cs.length ≤ i → Pc h0 h i s cs → Ct l (3 * d + 4) mX4_readsSum [Vq (some (54, 0)), Vi (nI op)] h (CPo h0 pl cs (sumD tk d i s)) := by
  intro d
  induction d with
  | zero =>
    intro op hop i s cs h hi h6 hcs hP
    have e : op = 8 := by omega
    subst e
    exact qX4_readsSum l h0 hW0 tk pl N hT hH (termD tk 0) 2 3 8 (by omega) (termD_ok hT 0) (fun i s cs h hi h6 hcs hP => qX4_readsTerm l h0 hW0 tk pl N hT hH (oneD tk 0) 1 2 8 (by omega) (oneD_ok hT 0) (fun i s cs h hi h6 hcs hP => qX4_readsOne_0 l h0 hW0 tk pl N hT hH i s cs h hi h6 hcs hP) i s cs h hi h6 hcs hP) i s cs h hi h6 hcs hP
  | succ d ih =>
    intro op hop i s cs h hi h6 hcs hP
    have h1 := fun i s cs h hi h6 hcs hP => qX4_readsOne_s l h0 hW0 tk pl N hT hH d op hop (ih (op + 1) (by omega)) i s cs h hi h6 hcs hP
    have h2 := fun i s cs h hi h6 hcs hP => qX4_readsTerm l h0 hW0 tk pl N hT hH (oneD tk (d + 1)) (2 * (d + 1) + 1) (3 * d + 5) op (by omega) (oneD_ok hT (d + 1)) h1 i s cs h hi h6 hcs hP
    exact qX4_readsSum l h0 hW0 tk pl N hT hH (termD tk (d + 1)) (2 * (d + 1) + 2) (3 * d + 5 + 1) op (by omega) (termD_ok hT (d + 1)) h2 i s cs h hi h6 hcs hP
