-- tests, lines, texts of the class's parser, by program (wip/gen/p80.py)
theorem lX4_readsTests_2 (l : Launch) (h0 : zH) (hW0 : Wc h0) (tk pl : Nat → Nat) (N : Nat) (hT : Tkk tk N) (hH : TkH h0 tk pl N) (cs : List Int32) : ∀ f c : Nat, c + f = 6 → ∀ (ys : List (Nat × Int32)) (i s : Nat) (h : zH), i < N → (tk i = 3 ∨ tk i = 4) → s ≤ 60 → cs.length + ys.length ≤ i → Pc h0 h i s (cs ++ ys.map enI) → ∀ x2 x3, Wp l mX4_readsTests 29 2 [some (Vq (some (54, 0))), some (Vi (nI c)), x2, x3] [] h (CPo h0 pl cs (testsP tk f ys i s)) := by
  have hN2 := hT.2.1
  intro f
  induction f with
  | zero =>
    intro c hc ys i s h hi hw h6 hl hP x2 x3
    have hW := Wc.same (congrArg Prod.snd hP.1.1) hW0
    have hN : zI h 73 0 2 = nI N := by rw [hP.1.2 73 (by decide) (by decide)]; exact hH.1
    have hu := hT.2.2.1 i hi
    have ht : zI h 80 0 i = t32 (tk i) := by rw [hP.1.2 80 (by decide) (by decide)]; exact (hH.2 i hi).1
    have hp : zI h 81 0 i = nI (pl i) := by rw [hP.1.2 81 (by decide) (by decide)]; exact (hH.2 i hi).2
    refine w_iload_n (zat TX4_readsTests_0 2 rfl) rfl ?_
    refine w_iconst (v := 5) (zat TX4_readsTests_0 3 rfl) (by decide) ?_
    refine w_icmp_gt 127 (zat TX4_readsTests_0 4 rfl) (by decide) (fun Hc4 => ?_) (fun Hc4 => ?_)
    · refine w_aload_n (zat TX4_readsTests_1 13 rfl) rfl ?_
      refine w_iconst (v := 3) (zat TX4_readsTests_1 14 rfl) (by decide) ?_
      refine x_callv2 (qX4_fail l h hW N i hP.2.1 hN hi hN2 3 _ hp) (by omega) kX4_fail (rdy_V (zat TX4_readsTests_1 15 rfl) kX4_fail pX4_fail zw567 zw569 zw9 (zrc (by decide) (by decide) rfl)) (Nat.le_of_ble_eq_true rfl) rfl rfl ?_
      refine w_ireturn (zat TX4_readsTests_1 16 rfl) rfl rfl ?_
      exact ⟨rfl, hP.fl pl 3⟩
    · exact absurd (nI_lt (a := 5) (by omega) (by omega)) Hc4
  | succ f ih =>
    intro c hc ys i s h hi hw h6 hl hP x2 x3
    have hon := hT.on hi (by omega) (by omega)
    have hW := Wc.same (congrArg Prod.snd hP.1.1) hW0
    have hPa := hP.at (i + 1)
    have hW1 := Wc.same (congrArg Prod.snd hPa.1.1) hW0
    have hN1 : zI (zsI h 54 0 3 (nI (i + 1))) 73 0 2 = nI N := by rw [hPa.1.2 73 (by decide) (by decide)]; exact hH.1
    have hu1 := hT.2.2.1 (i + 1) hon
    have ht1 : zI (zsI h 54 0 3 (nI (i + 1))) 80 0 (i + 1) = t32 (tk (i + 1)) := by rw [hPa.1.2 80 (by decide) (by decide)]; exact (hH.2 (i + 1) hon).1
    have hp1 : zI (zsI h 54 0 3 (nI (i + 1))) 81 0 (i + 1) = nI (pl (i + 1)) := by rw [hPa.1.2 81 (by decide) (by decide)]; exact (hH.2 (i + 1) hon).2
    unfold testsP
    refine w_iload_n (zat TX4_readsTests_0 2 rfl) rfl ?_
    refine w_iconst (v := 5) (zat TX4_readsTests_0 3 rfl) (by decide) ?_
    refine w_icmp_gt 127 (zat TX4_readsTests_0 4 rfl) (by decide) (fun Hc4 => ?_) (fun Hc4 => ?_)
    · exact absurd Hc4 (Int32.not_lt.mpr (nI_le (b := 5) (by omega) (by omega)))
    · refine w_aload_n (zat TX4_readsTests_0 5 rfl) rfl ?_
      refine w_dup (zat TX4_readsTests_0 6 rfl) rfl ?_
      refine y_getI (v := nI i) (zat TX4_readsTests_0 7 rfl) fX4_26 s54 (by decide) (by decide) rfl hP.2.1 ?_
      refine w_iconst (v := 1) (zat TX4_readsTests_0 8 rfl) (by decide) ?_
      refine w_iadd (zat TX4_readsTests_0 9 rfl) ?_
      rw [nI_1]
      refine w_putI (zat TX4_readsTests_0 10 rfl) gX4_readsTests_26 s54 (by decide) (by decide) rfl ⟨rfl, rfl⟩ ?_
      refine w_aload_n (zat TX4_readsTests_0 11 rfl) rfl ?_
      refine x_callv1 (qX4_token l _ hW1 N (i + 1) hPa.2.1 hN1 hon hN2 _ ht1) (by omega) kX4_token (rdy_V (zat TX4_readsTests_0 12 rfl) kX4_token pX4_token zw563 zw565 zw8 (zrc (by decide) (by decide) rfl)) (Nat.le_of_ble_eq_true rfl) rfl rfl ?_
      refine x_callv1 (qX4_faultAsOne l _ _ hu1) (by omega) kX4_faultAsOne (rdy_S (zat TX4_readsTests_0 13 rfl) kX4_faultAsOne pX4_faultAsOne zw579 zw580) (Nat.le_of_ble_eq_true rfl) rfl rfl ?_
      refine x_istore_n (ls2 := [_, _, _, _]) (zat TX4_readsTests_0 14 rfl) (by decide) rfl ?_
      refine w_iload_n (zat TX4_readsTests_0 15 rfl) rfl ?_
      refine w_if_eq 35 (zat TX4_readsTests_0 16 rfl) (by decide) (fun Hc26 => ?_) (fun Hc26 => ?_)
      · have Hf : fo (tk (i + 1)) = 0 := nIe (by have := fo_le (tk (i + 1)); omega) (by omega) Hc26
        rw [if_pos Hf]
        refine w_iload_n (zat TX4_readsTests_0 21 rfl) rfl ?_
        refine w_iconst (v := 4) (zat TX4_readsTests_0 22 rfl) (by decide) ?_
        refine w_icmp_le 46 (zat TX4_readsTests_0 23 rfl) (by decide) (fun Hc37 => ?_) (fun Hc37 => ?_)
        · have Hc : ¬ f = 0 := by have := (nI_leI (b := 4) (by omega) (by omega)).mp Hc37; omega
          rw [if_neg Hc]
          refine w_aload_n (zat TX4_readsTests_0 28 rfl) rfl ?_
          refine w_iconst (v := 0) (zat TX4_readsTests_0 29 rfl) (by decide) ?_
          refine x_call2 (qX4_sum l h0 hW0 tk pl N hT hH 8 0 (by omega) (i + 1) s (cs ++ ys.map enI) _ hon h6 (by rw [List.length_append, List.length_map]; omega) hPa) (by omega) kX4_readsSum (rdy_V (zat TX4_readsTests_0 30 rfl) kX4_readsSum pX4_readsSum zw582 zw584 zw12 (zrc (by decide) (by decide) rfl)) (Nat.le_of_ble_eq_true rfl) rfl rfl (fun v h3 hq => ?_) (fun r h3 hq => (CPo_nt hq).elim)
          cases hr : sumD tk 8 (i + 1) s with
          | inl e =>
            rw [hr] at hq
            obtain ⟨hq1, hq2⟩ := hq
            cases hq1
            refine w_if_ne 56 (zat TX4_readsTests_0 31 rfl) (by decide) (fun Hc51 => ?_) (fun Hc51 => ?_)
            · exact absurd rfl Hc51
            · refine w_iconst (v := 0) (zat TX4_readsTests_0 32 rfl) (by decide) ?_
              refine w_ireturn (zat TX4_readsTests_0 33 rfl) rfl rfl ?_
              exact ⟨rfl, hq2⟩
          | inr r =>
            obtain ⟨y1, j, s1⟩ := r
            rw [hr] at hq
            obtain ⟨hq1, hP3⟩ := hq
            cases hq1
            replace hP3 : Pc h0 h3 j s1 (cs ++ ys.map enI ++ y1.map enI) := hP3
            have hg := sumD_ok hT 8 (i + 1) s hon h6
            rw [hr] at hg
            obtain ⟨g1, g2, g3, g4, g5, g6⟩ := hg
            have hW3 := Wc.same (congrArg Prod.snd hP3.1.1) hW0
            have hN3 : zI h3 73 0 2 = nI N := by rw [hP3.1.2 73 (by decide) (by decide)]; exact hH.1
            have hu3 := hT.2.2.1 j g1
            have ht3 : zI h3 80 0 j = t32 (tk j) := by rw [hP3.1.2 80 (by decide) (by decide)]; exact (hH.2 j g1).1
            have hp3 : zI h3 81 0 j = nI (pl j) := by rw [hP3.1.2 81 (by decide) (by decide)]; exact (hH.2 j g1).2
            show Wp _ _ _ _ _ _ _ (CPo h0 pl cs (if 11 ≤ tk j ∧ tk j ≤ 13 then (match sumD tk 8 (j + 1) s1 with
                            | .inl e => .inl e
                            | .inr (y2, j2, s2) => if tk j2 = 4 then testsP tk f (ys ++ y1 ++ y2 ++ [opN (tk j)]) j2 s2 else .inr (ys ++ y1 ++ y2 ++ [opN (tk j)], j2, s2)) else .inl (1, j)))
            refine w_if_ne 56 (zat TX4_readsTests_0 31 rfl) (by decide) (fun Hc51 => ?_) (fun Hc51 => ?_)
            · refine w_aload_n (zat TX4_readsTests_0 34 rfl) rfl ?_
              refine x_callv1 (qX4_token l h3 hW3 N j hP3.2.1 hN3 g1 hN2 _ ht3) (by omega) kX4_token (rdy_V (zat TX4_readsTests_0 35 rfl) kX4_token pX4_token zw563 zw565 zw8 (zrc (by decide) (by decide) rfl)) (Nat.le_of_ble_eq_true rfl) rfl rfl ?_
              refine x_istore_n (ls2 := [_, _, _, _]) (zat TX4_readsTests_0 36 rfl) (by decide) rfl ?_
              refine w_iload_n (zat TX4_readsTests_0 37 rfl) rfl ?_
              refine w_bipush (v := -11) (zat TX4_readsTests_0 38 rfl) (by decide) ?_
              refine w_icmp_eq 85 (zat TX4_readsTests_0 39 rfl) (by decide) (fun Hc64 => ?_) (fun Hc64 => ?_)
              · rw [tq11 hu3] at Hc64
                have hcm : 11 ≤ tk j ∧ tk j ≤ 13 := by omega
                rw [if_pos hcm]
                have hon2 := hT.on g1 (by omega) (by omega)
                have hPb := hP3.at (j + 1)
                refine w_aload_n (zat TX4_readsTests_0 50 rfl) rfl ?_
                refine w_dup (zat TX4_readsTests_0 51 rfl) rfl ?_
                refine y_getI (v := nI j) (zat TX4_readsTests_0 52 rfl) fX4_26 s54 (by decide) (by decide) rfl hP3.2.1 ?_
                refine w_iconst (v := 1) (zat TX4_readsTests_0 53 rfl) (by decide) ?_
                refine w_iadd (zat TX4_readsTests_0 54 rfl) ?_
                rw [nI_1]
                refine w_putI (zat TX4_readsTests_0 55 rfl) gX4_readsTests_26 s54 (by decide) (by decide) rfl ⟨rfl, rfl⟩ ?_
                refine w_aload_n (zat TX4_readsTests_0 56 rfl) rfl ?_
                refine w_iconst (v := 0) (zat TX4_readsTests_0 57 rfl) (by decide) ?_
                refine x_call2 (qX4_sum l h0 hW0 tk pl N hT hH 8 0 (by omega) (j + 1) s1 (cs ++ ys.map enI ++ y1.map enI) _ hon2 g4 (by rw [List.length_append, List.length_append, List.length_map, List.length_map]; omega) hPb) (by omega) kX4_readsSum (rdy_V (zat TX4_readsTests_0 58 rfl) kX4_readsSum pX4_readsSum zw582 zw584 zw12 (zrc (by decide) (by decide) rfl)) (Nat.le_of_ble_eq_true rfl) rfl rfl (fun v h4 hq => ?_) (fun r h4 hq => (CPo_nt hq).elim)
                show Wp _ _ _ _ _ _ _ (CPo h0 pl cs (match sumD tk 8 (j + 1) s1 with
                                | .inl e => .inl e
                                | .inr (y2, j2, s2) => if tk j2 = 4 then testsP tk f (ys ++ y1 ++ y2 ++ [opN (tk j)]) j2 s2 else .inr (ys ++ y1 ++ y2 ++ [opN (tk j)], j2, s2)))
                cases hr : sumD tk 8 (j + 1) s1 with
                | inl e =>
                  rw [hr] at hq
                  obtain ⟨hq1, hq2⟩ := hq
                  cases hq1
                  refine w_if_ne 105 (zat TX4_readsTests_0 59 rfl) (by decide) (fun Hc100 => ?_) (fun Hc100 => ?_)
                  · exact absurd rfl Hc100
                  · refine w_iconst (v := 0) (zat TX4_readsTests_1 0 rfl) (by decide) ?_
                    refine w_ireturn (zat TX4_readsTests_1 1 rfl) rfl rfl ?_
                    exact ⟨rfl, hq2⟩
                | inr r =>
                  obtain ⟨y2, j2, s2⟩ := r
                  rw [hr] at hq
                  obtain ⟨hq1, hP4⟩ := hq
                  cases hq1
                  replace hP4 : Pc h0 h4 j2 s2 (cs ++ ys.map enI ++ y1.map enI ++ y2.map enI) := hP4
                  have hg := sumD_ok hT 8 (j + 1) s1 hon2 g4
                  rw [hr] at hg
                  obtain ⟨p1, p2, p3, p4, p5, p6⟩ := hg
                  have hw5 := hP4.wr (t32 (tk j))
                  have he : cs ++ ys.map enI ++ y1.map enI ++ y2.map enI ++ [t32 (tk j)] = cs ++ (ys ++ y1 ++ y2 ++ [opN (tk j)]).map enI := by
                    rw [List.map_append, List.map_append, List.map_append, ← en_opN (u := tk j) (by omega)]
                    simp only [List.append_assoc]
                    rfl
                  rw [he] at hw5
                  have hW5 := Wc.same (congrArg Prod.snd hw5.1.1) hW0
                  have hN5 : zI (pWr h4 (cs ++ ys.map enI ++ y1.map enI ++ y2.map enI).length (t32 (tk j))) 73 0 2 = nI N := by rw [hw5.1.2 73 (by decide) (by decide)]; exact hH.1
                  have hu5 := hT.2.2.1 j2 p1
                  have ht5 : zI (pWr h4 (cs ++ ys.map enI ++ y1.map enI ++ y2.map enI).length (t32 (tk j))) 80 0 j2 = t32 (tk j2) := by rw [hw5.1.2 80 (by decide) (by decide)]; exact (hH.2 j2 p1).1
                  have hp5 : zI (pWr h4 (cs ++ ys.map enI ++ y1.map enI ++ y2.map enI).length (t32 (tk j))) 81 0 j2 = nI (pl j2) := by rw [hw5.1.2 81 (by decide) (by decide)]; exact (hH.2 j2 p1).2
                  have hW4 := Wc.same (congrArg Prod.snd hP4.1.1) hW0
                  refine w_if_ne 105 (zat TX4_readsTests_0 59 rfl) (by decide) (fun Hc100 => ?_) (fun Hc100 => ?_)
                  · refine w_aload_n (zat TX4_readsTests_1 2 rfl) rfl ?_
                    refine w_iload_n (zat TX4_readsTests_1 3 rfl) rfl ?_
                    refine x_callu2 (qX4_write l h4 hW4 _ hP4.2.2.2.1 (by rw [List.length_append, List.length_append, List.length_append, List.length_map, List.length_map, List.length_map]; omega) _) (by omega) kX4_write (rdy_V (zat TX4_readsTests_1 4 rfl) kX4_write pX4_write zw571 zw573 zw10 (zrc (by decide) (by decide) rfl)) (Nat.le_of_ble_eq_true rfl) rfl rfl ?_
                    refine w_aload_n (zat TX4_readsTests_1 5 rfl) rfl ?_
                    refine x_callv1 (qX4_token l _ hW5 N j2 hw5.2.1 hN5 p1 hN2 _ ht5) (by omega) kX4_token (rdy_V (zat TX4_readsTests_1 6 rfl) kX4_token pX4_token zw563 zw565 zw8 (zrc (by decide) (by decide) rfl)) (Nat.le_of_ble_eq_true rfl) rfl rfl ?_
                    refine w_bipush (v := -4) (zat TX4_readsTests_1 7 rfl) (by decide) ?_
                    refine w_icmp_eq 121 (zat TX4_readsTests_1 8 rfl) (by decide) (fun Hc116 => ?_) (fun Hc116 => ?_)
                    · rw [tq4 hu5] at Hc116
                      refine x_iinc (v := nI (c + 1)) (ls2 := [_, _, _, _]) (zat TX4_readsTests_1 11 rfl) rfl (nI_inc c) rfl ?_
                      refine w_goto 2 (zat TX4_readsTests_1 12 rfl) (by decide) ?_
                      show Wp _ _ _ _ _ _ _ (CPo h0 pl cs (if tk j2 = 4 then testsP tk f (ys ++ y1 ++ y2 ++ [opN (tk j)]) j2 s2 else .inr (ys ++ y1 ++ y2 ++ [opN (tk j)], j2, s2)))
                      rw [if_pos Hc116]
                      refine ih (c + 1) (by omega) _ j2 s2 _ p1 (Or.inr Hc116) p4 ?_ hw5 _ _
                      rw [List.length_append, List.length_append, List.length_append]
                      show cs.length + (ys.length + y1.length + y2.length + 1) ≤ j2
                      omega
                    · rw [tq4 hu5] at Hc116
                      refine w_iconst (v := 1) (zat TX4_readsTests_1 9 rfl) (by decide) ?_
                      refine w_ireturn (zat TX4_readsTests_1 10 rfl) rfl rfl ?_
                      show CPo h0 pl cs (if tk j2 = 4 then testsP tk f (ys ++ y1 ++ y2 ++ [opN (tk j)]) j2 s2 else .inr (ys ++ y1 ++ y2 ++ [opN (tk j)], j2, s2)) _ _
                      rw [if_neg Hc116]
                      exact ⟨rfl, hw5⟩
                  · exact absurd Hc100 (by decide)
              · rw [tq11 hu3] at Hc64
                refine w_iload_n (zat TX4_readsTests_0 40 rfl) rfl ?_
                refine w_bipush (v := -12) (zat TX4_readsTests_0 41 rfl) (by decide) ?_
                refine w_icmp_eq 85 (zat TX4_readsTests_0 42 rfl) (by decide) (fun Hc70 => ?_) (fun Hc70 => ?_)
                · rw [tq12 hu3] at Hc70
                  have hcm : 11 ≤ tk j ∧ tk j ≤ 13 := by omega
                  rw [if_pos hcm]
                  have hon2 := hT.on g1 (by omega) (by omega)
                  have hPb := hP3.at (j + 1)
                  refine w_aload_n (zat TX4_readsTests_0 50 rfl) rfl ?_
                  refine w_dup (zat TX4_readsTests_0 51 rfl) rfl ?_
                  refine y_getI (v := nI j) (zat TX4_readsTests_0 52 rfl) fX4_26 s54 (by decide) (by decide) rfl hP3.2.1 ?_
                  refine w_iconst (v := 1) (zat TX4_readsTests_0 53 rfl) (by decide) ?_
                  refine w_iadd (zat TX4_readsTests_0 54 rfl) ?_
                  rw [nI_1]
                  refine w_putI (zat TX4_readsTests_0 55 rfl) gX4_readsTests_26 s54 (by decide) (by decide) rfl ⟨rfl, rfl⟩ ?_
                  refine w_aload_n (zat TX4_readsTests_0 56 rfl) rfl ?_
                  refine w_iconst (v := 0) (zat TX4_readsTests_0 57 rfl) (by decide) ?_
                  refine x_call2 (qX4_sum l h0 hW0 tk pl N hT hH 8 0 (by omega) (j + 1) s1 (cs ++ ys.map enI ++ y1.map enI) _ hon2 g4 (by rw [List.length_append, List.length_append, List.length_map, List.length_map]; omega) hPb) (by omega) kX4_readsSum (rdy_V (zat TX4_readsTests_0 58 rfl) kX4_readsSum pX4_readsSum zw582 zw584 zw12 (zrc (by decide) (by decide) rfl)) (Nat.le_of_ble_eq_true rfl) rfl rfl (fun v h4 hq => ?_) (fun r h4 hq => (CPo_nt hq).elim)
                  show Wp _ _ _ _ _ _ _ (CPo h0 pl cs (match sumD tk 8 (j + 1) s1 with
                                  | .inl e => .inl e
                                  | .inr (y2, j2, s2) => if tk j2 = 4 then testsP tk f (ys ++ y1 ++ y2 ++ [opN (tk j)]) j2 s2 else .inr (ys ++ y1 ++ y2 ++ [opN (tk j)], j2, s2)))
                  cases hr : sumD tk 8 (j + 1) s1 with
                  | inl e =>
                    rw [hr] at hq
                    obtain ⟨hq1, hq2⟩ := hq
                    cases hq1
                    refine w_if_ne 105 (zat TX4_readsTests_0 59 rfl) (by decide) (fun Hc100 => ?_) (fun Hc100 => ?_)
                    · exact absurd rfl Hc100
                    · refine w_iconst (v := 0) (zat TX4_readsTests_1 0 rfl) (by decide) ?_
                      refine w_ireturn (zat TX4_readsTests_1 1 rfl) rfl rfl ?_
                      exact ⟨rfl, hq2⟩
                  | inr r =>
                    obtain ⟨y2, j2, s2⟩ := r
                    rw [hr] at hq
                    obtain ⟨hq1, hP4⟩ := hq
                    cases hq1
                    replace hP4 : Pc h0 h4 j2 s2 (cs ++ ys.map enI ++ y1.map enI ++ y2.map enI) := hP4
                    have hg := sumD_ok hT 8 (j + 1) s1 hon2 g4
                    rw [hr] at hg
                    obtain ⟨p1, p2, p3, p4, p5, p6⟩ := hg
                    have hw5 := hP4.wr (t32 (tk j))
                    have he : cs ++ ys.map enI ++ y1.map enI ++ y2.map enI ++ [t32 (tk j)] = cs ++ (ys ++ y1 ++ y2 ++ [opN (tk j)]).map enI := by
                      rw [List.map_append, List.map_append, List.map_append, ← en_opN (u := tk j) (by omega)]
                      simp only [List.append_assoc]
                      rfl
                    rw [he] at hw5
                    have hW5 := Wc.same (congrArg Prod.snd hw5.1.1) hW0
                    have hN5 : zI (pWr h4 (cs ++ ys.map enI ++ y1.map enI ++ y2.map enI).length (t32 (tk j))) 73 0 2 = nI N := by rw [hw5.1.2 73 (by decide) (by decide)]; exact hH.1
                    have hu5 := hT.2.2.1 j2 p1
                    have ht5 : zI (pWr h4 (cs ++ ys.map enI ++ y1.map enI ++ y2.map enI).length (t32 (tk j))) 80 0 j2 = t32 (tk j2) := by rw [hw5.1.2 80 (by decide) (by decide)]; exact (hH.2 j2 p1).1
                    have hp5 : zI (pWr h4 (cs ++ ys.map enI ++ y1.map enI ++ y2.map enI).length (t32 (tk j))) 81 0 j2 = nI (pl j2) := by rw [hw5.1.2 81 (by decide) (by decide)]; exact (hH.2 j2 p1).2
                    have hW4 := Wc.same (congrArg Prod.snd hP4.1.1) hW0
                    refine w_if_ne 105 (zat TX4_readsTests_0 59 rfl) (by decide) (fun Hc100 => ?_) (fun Hc100 => ?_)
                    · refine w_aload_n (zat TX4_readsTests_1 2 rfl) rfl ?_
                      refine w_iload_n (zat TX4_readsTests_1 3 rfl) rfl ?_
                      refine x_callu2 (qX4_write l h4 hW4 _ hP4.2.2.2.1 (by rw [List.length_append, List.length_append, List.length_append, List.length_map, List.length_map, List.length_map]; omega) _) (by omega) kX4_write (rdy_V (zat TX4_readsTests_1 4 rfl) kX4_write pX4_write zw571 zw573 zw10 (zrc (by decide) (by decide) rfl)) (Nat.le_of_ble_eq_true rfl) rfl rfl ?_
                      refine w_aload_n (zat TX4_readsTests_1 5 rfl) rfl ?_
                      refine x_callv1 (qX4_token l _ hW5 N j2 hw5.2.1 hN5 p1 hN2 _ ht5) (by omega) kX4_token (rdy_V (zat TX4_readsTests_1 6 rfl) kX4_token pX4_token zw563 zw565 zw8 (zrc (by decide) (by decide) rfl)) (Nat.le_of_ble_eq_true rfl) rfl rfl ?_
                      refine w_bipush (v := -4) (zat TX4_readsTests_1 7 rfl) (by decide) ?_
                      refine w_icmp_eq 121 (zat TX4_readsTests_1 8 rfl) (by decide) (fun Hc116 => ?_) (fun Hc116 => ?_)
                      · rw [tq4 hu5] at Hc116
                        refine x_iinc (v := nI (c + 1)) (ls2 := [_, _, _, _]) (zat TX4_readsTests_1 11 rfl) rfl (nI_inc c) rfl ?_
                        refine w_goto 2 (zat TX4_readsTests_1 12 rfl) (by decide) ?_
                        show Wp _ _ _ _ _ _ _ (CPo h0 pl cs (if tk j2 = 4 then testsP tk f (ys ++ y1 ++ y2 ++ [opN (tk j)]) j2 s2 else .inr (ys ++ y1 ++ y2 ++ [opN (tk j)], j2, s2)))
                        rw [if_pos Hc116]
                        refine ih (c + 1) (by omega) _ j2 s2 _ p1 (Or.inr Hc116) p4 ?_ hw5 _ _
                        rw [List.length_append, List.length_append, List.length_append]
                        show cs.length + (ys.length + y1.length + y2.length + 1) ≤ j2
                        omega
                      · rw [tq4 hu5] at Hc116
                        refine w_iconst (v := 1) (zat TX4_readsTests_1 9 rfl) (by decide) ?_
                        refine w_ireturn (zat TX4_readsTests_1 10 rfl) rfl rfl ?_
                        show CPo h0 pl cs (if tk j2 = 4 then testsP tk f (ys ++ y1 ++ y2 ++ [opN (tk j)]) j2 s2 else .inr (ys ++ y1 ++ y2 ++ [opN (tk j)], j2, s2)) _ _
                        rw [if_neg Hc116]
                        exact ⟨rfl, hw5⟩
                    · exact absurd Hc100 (by decide)
                · rw [tq12 hu3] at Hc70
                  refine w_iload_n (zat TX4_readsTests_0 43 rfl) rfl ?_
                  refine w_bipush (v := -13) (zat TX4_readsTests_0 44 rfl) (by decide) ?_
                  refine w_icmp_eq 85 (zat TX4_readsTests_0 45 rfl) (by decide) (fun Hc76 => ?_) (fun Hc76 => ?_)
                  · rw [tq13 hu3] at Hc76
                    have hcm : 11 ≤ tk j ∧ tk j ≤ 13 := by omega
                    rw [if_pos hcm]
                    have hon2 := hT.on g1 (by omega) (by omega)
                    have hPb := hP3.at (j + 1)
                    refine w_aload_n (zat TX4_readsTests_0 50 rfl) rfl ?_
                    refine w_dup (zat TX4_readsTests_0 51 rfl) rfl ?_
                    refine y_getI (v := nI j) (zat TX4_readsTests_0 52 rfl) fX4_26 s54 (by decide) (by decide) rfl hP3.2.1 ?_
                    refine w_iconst (v := 1) (zat TX4_readsTests_0 53 rfl) (by decide) ?_
                    refine w_iadd (zat TX4_readsTests_0 54 rfl) ?_
                    rw [nI_1]
                    refine w_putI (zat TX4_readsTests_0 55 rfl) gX4_readsTests_26 s54 (by decide) (by decide) rfl ⟨rfl, rfl⟩ ?_
                    refine w_aload_n (zat TX4_readsTests_0 56 rfl) rfl ?_
                    refine w_iconst (v := 0) (zat TX4_readsTests_0 57 rfl) (by decide) ?_
                    refine x_call2 (qX4_sum l h0 hW0 tk pl N hT hH 8 0 (by omega) (j + 1) s1 (cs ++ ys.map enI ++ y1.map enI) _ hon2 g4 (by rw [List.length_append, List.length_append, List.length_map, List.length_map]; omega) hPb) (by omega) kX4_readsSum (rdy_V (zat TX4_readsTests_0 58 rfl) kX4_readsSum pX4_readsSum zw582 zw584 zw12 (zrc (by decide) (by decide) rfl)) (Nat.le_of_ble_eq_true rfl) rfl rfl (fun v h4 hq => ?_) (fun r h4 hq => (CPo_nt hq).elim)
                    show Wp _ _ _ _ _ _ _ (CPo h0 pl cs (match sumD tk 8 (j + 1) s1 with
                                    | .inl e => .inl e
                                    | .inr (y2, j2, s2) => if tk j2 = 4 then testsP tk f (ys ++ y1 ++ y2 ++ [opN (tk j)]) j2 s2 else .inr (ys ++ y1 ++ y2 ++ [opN (tk j)], j2, s2)))
                    cases hr : sumD tk 8 (j + 1) s1 with
                    | inl e =>
                      rw [hr] at hq
                      obtain ⟨hq1, hq2⟩ := hq
                      cases hq1
                      refine w_if_ne 105 (zat TX4_readsTests_0 59 rfl) (by decide) (fun Hc100 => ?_) (fun Hc100 => ?_)
                      · exact absurd rfl Hc100
                      · refine w_iconst (v := 0) (zat TX4_readsTests_1 0 rfl) (by decide) ?_
                        refine w_ireturn (zat TX4_readsTests_1 1 rfl) rfl rfl ?_
                        exact ⟨rfl, hq2⟩
                    | inr r =>
                      obtain ⟨y2, j2, s2⟩ := r
                      rw [hr] at hq
                      obtain ⟨hq1, hP4⟩ := hq
                      cases hq1
                      replace hP4 : Pc h0 h4 j2 s2 (cs ++ ys.map enI ++ y1.map enI ++ y2.map enI) := hP4
                      have hg := sumD_ok hT 8 (j + 1) s1 hon2 g4
                      rw [hr] at hg
                      obtain ⟨p1, p2, p3, p4, p5, p6⟩ := hg
                      have hw5 := hP4.wr (t32 (tk j))
                      have he : cs ++ ys.map enI ++ y1.map enI ++ y2.map enI ++ [t32 (tk j)] = cs ++ (ys ++ y1 ++ y2 ++ [opN (tk j)]).map enI := by
                        rw [List.map_append, List.map_append, List.map_append, ← en_opN (u := tk j) (by omega)]
                        simp only [List.append_assoc]
                        rfl
                      rw [he] at hw5
                      have hW5 := Wc.same (congrArg Prod.snd hw5.1.1) hW0
                      have hN5 : zI (pWr h4 (cs ++ ys.map enI ++ y1.map enI ++ y2.map enI).length (t32 (tk j))) 73 0 2 = nI N := by rw [hw5.1.2 73 (by decide) (by decide)]; exact hH.1
                      have hu5 := hT.2.2.1 j2 p1
                      have ht5 : zI (pWr h4 (cs ++ ys.map enI ++ y1.map enI ++ y2.map enI).length (t32 (tk j))) 80 0 j2 = t32 (tk j2) := by rw [hw5.1.2 80 (by decide) (by decide)]; exact (hH.2 j2 p1).1
                      have hp5 : zI (pWr h4 (cs ++ ys.map enI ++ y1.map enI ++ y2.map enI).length (t32 (tk j))) 81 0 j2 = nI (pl j2) := by rw [hw5.1.2 81 (by decide) (by decide)]; exact (hH.2 j2 p1).2
                      have hW4 := Wc.same (congrArg Prod.snd hP4.1.1) hW0
                      refine w_if_ne 105 (zat TX4_readsTests_0 59 rfl) (by decide) (fun Hc100 => ?_) (fun Hc100 => ?_)
                      · refine w_aload_n (zat TX4_readsTests_1 2 rfl) rfl ?_
                        refine w_iload_n (zat TX4_readsTests_1 3 rfl) rfl ?_
                        refine x_callu2 (qX4_write l h4 hW4 _ hP4.2.2.2.1 (by rw [List.length_append, List.length_append, List.length_append, List.length_map, List.length_map, List.length_map]; omega) _) (by omega) kX4_write (rdy_V (zat TX4_readsTests_1 4 rfl) kX4_write pX4_write zw571 zw573 zw10 (zrc (by decide) (by decide) rfl)) (Nat.le_of_ble_eq_true rfl) rfl rfl ?_
                        refine w_aload_n (zat TX4_readsTests_1 5 rfl) rfl ?_
                        refine x_callv1 (qX4_token l _ hW5 N j2 hw5.2.1 hN5 p1 hN2 _ ht5) (by omega) kX4_token (rdy_V (zat TX4_readsTests_1 6 rfl) kX4_token pX4_token zw563 zw565 zw8 (zrc (by decide) (by decide) rfl)) (Nat.le_of_ble_eq_true rfl) rfl rfl ?_
                        refine w_bipush (v := -4) (zat TX4_readsTests_1 7 rfl) (by decide) ?_
                        refine w_icmp_eq 121 (zat TX4_readsTests_1 8 rfl) (by decide) (fun Hc116 => ?_) (fun Hc116 => ?_)
                        · rw [tq4 hu5] at Hc116
                          refine x_iinc (v := nI (c + 1)) (ls2 := [_, _, _, _]) (zat TX4_readsTests_1 11 rfl) rfl (nI_inc c) rfl ?_
                          refine w_goto 2 (zat TX4_readsTests_1 12 rfl) (by decide) ?_
                          show Wp _ _ _ _ _ _ _ (CPo h0 pl cs (if tk j2 = 4 then testsP tk f (ys ++ y1 ++ y2 ++ [opN (tk j)]) j2 s2 else .inr (ys ++ y1 ++ y2 ++ [opN (tk j)], j2, s2)))
                          rw [if_pos Hc116]
                          refine ih (c + 1) (by omega) _ j2 s2 _ p1 (Or.inr Hc116) p4 ?_ hw5 _ _
                          rw [List.length_append, List.length_append, List.length_append]
                          show cs.length + (ys.length + y1.length + y2.length + 1) ≤ j2
                          omega
                        · rw [tq4 hu5] at Hc116
                          refine w_iconst (v := 1) (zat TX4_readsTests_1 9 rfl) (by decide) ?_
                          refine w_ireturn (zat TX4_readsTests_1 10 rfl) rfl rfl ?_
                          show CPo h0 pl cs (if tk j2 = 4 then testsP tk f (ys ++ y1 ++ y2 ++ [opN (tk j)]) j2 s2 else .inr (ys ++ y1 ++ y2 ++ [opN (tk j)], j2, s2)) _ _
                          rw [if_neg Hc116]
                          exact ⟨rfl, hw5⟩
                      · exact absurd Hc100 (by decide)
                  · rw [tq13 hu3] at Hc76
                    refine w_aload_n (zat TX4_readsTests_0 46 rfl) rfl ?_
                    refine w_iconst (v := 1) (zat TX4_readsTests_0 47 rfl) (by decide) ?_
                    refine x_callv2 (qX4_fail l h3 hW3 N j hP3.2.1 hN3 g1 hN2 1 _ hp3) (by omega) kX4_fail (rdy_V (zat TX4_readsTests_0 48 rfl) kX4_fail pX4_fail zw567 zw569 zw9 (zrc (by decide) (by decide) rfl)) (Nat.le_of_ble_eq_true rfl) rfl rfl ?_
                    refine w_ireturn (zat TX4_readsTests_0 49 rfl) rfl rfl ?_
                    rw [if_neg (by omega)]
                    exact ⟨rfl, hP3.fl pl 1⟩
            · exact absurd Hc51 (by decide)
        · have Hc : f = 0 := by
            apply Decidable.byContradiction
            intro z
            exact Hc37 ((nI_leI (b := 4) (by omega) (by omega)).mpr (by omega))
          rw [if_pos Hc]
          refine w_aload_n (zat TX4_readsTests_0 24 rfl) rfl ?_
          refine w_iconst (v := 3) (zat TX4_readsTests_0 25 rfl) (by decide) ?_
          refine x_callv2 (qX4_fail l _ hW1 N (i + 1) hPa.2.1 hN1 hon hN2 3 _ hp1) (by omega) kX4_fail (rdy_V (zat TX4_readsTests_0 26 rfl) kX4_fail pX4_fail zw567 zw569 zw9 (zrc (by decide) (by decide) rfl)) (Nat.le_of_ble_eq_true rfl) rfl rfl ?_
          refine w_ireturn (zat TX4_readsTests_0 27 rfl) rfl rfl ?_
          exact ⟨rfl, hPa.fl pl 3⟩
      · have Hf : ¬ fo (tk (i + 1)) = 0 := fun z => Hc26 (by rw [z]; rfl)
        rw [if_neg Hf]
        refine w_aload_n (zat TX4_readsTests_0 17 rfl) rfl ?_
        refine w_iload_n (zat TX4_readsTests_0 18 rfl) rfl ?_
        refine x_callv2 (qX4_fail l _ hW1 N (i + 1) hPa.2.1 hN1 hon hN2 _ _ hp1) (by omega) kX4_fail (rdy_V (zat TX4_readsTests_0 19 rfl) kX4_fail pX4_fail zw567 zw569 zw9 (zrc (by decide) (by decide) rfl)) (Nat.le_of_ble_eq_true rfl) rfl rfl ?_
        refine w_ireturn (zat TX4_readsTests_0 20 rfl) rfl rfl ?_
        exact ⟨rfl, hPa.fl pl _⟩
theorem qX4_readsTests (l : Launch) (h0 : zH) (hW0 : Wc h0) (tk pl : Nat → Nat) (N : Nat) (hT : Tkk tk N) (hH : TkH h0 tk pl N) (i s : Nat) (cs : List Int32) (h : zH) (hi : i < N) (h6 : s ≤ 60) (hcs : cs.length ≤ i) (hP : Pc h0 h i s cs) (hw : tk i = 3) : Ct l 29 mX4_readsTests [Vq (some (54, 0))] h (CPo h0 pl cs (testsP tk 5 [] i s)) := by
  refine Ct.in 3 kX4_readsTests (plainFor_of_name rfl) (Nat.le_of_ble_eq_true rfl) ?_
  refine w_iconst (v := 1) (zat TX4_readsTests_0 0 rfl) (by decide) ?_
  refine x_istore_n (ls2 := [_, _, _, _]) (zat TX4_readsTests_0 1 rfl) (by decide) rfl ?_
  exact lX4_readsTests_2 l h0 hW0 tk pl N hT hH cs 5 1 (by omega) [] i s h hi (Or.inl hw) h6 (by show cs.length + 0 ≤ i; omega) (by show Pc h0 h i s (cs ++ []); rw [List.append_nil]; exact hP) _ _
def CLo (h0 : zH) (pl : Nat → Nat) (cs : List Int32) (b : Bool) (r : PR) (o : zO) (h' : zH) : Prop := match r with
  | .inl e => o = Rv (Vi 0) ∧ Pf h0 h' pl e.1 e.2
  | .inr r => o = Rv (Vi 1) ∧ Pc h0 h' r.2.1 r.2.2 (cs ++ enL (b, r.1))
theorem CLo_nt {h0 : zH} {pl : Nat → Nat} {cs : List Int32} {b : Bool} {r : PR} {q : zRf} {h' : zH} (x : CLo h0 pl cs b r (Sum.inr q) h') : False := by
  cases r with
  | inl e => cases x.1
  | inr r => cases x.1
theorem lX4_readsLine_67 (l : Launch) (h0 : zH) (hW0 : Wc h0) (tk pl : Nat → Nat) (N : Nat) (hT : Tkk tk N) (hH : TkH h0 tk pl N) (cs : List Int32) (b : Bool) (ys : List (Nat × Int32)) (j s : Nat) (h : zH) (hj : j < N) (h6 : s ≤ 60) (hl : cs.length + 1 + ys.length ≤ j) (hP : Pc h0 h j s (cs ++ [(if b then -2 else -1 : Int32)] ++ ys.map enI)) (x1 : Option zV) (x2 : Int32) : Wp l mX4_readsLine 30 67 [some (Vq (some (54, 0))), x1, some (Vi x2)] [] h (CLo h0 pl cs b (lineE tk ys j s)) := by
  have hN2 := hT.2.1
  have hW := Wc.same (congrArg Prod.snd hP.1.1) hW0
  have hN : zI h 73 0 2 = nI N := by rw [hP.1.2 73 (by decide) (by decide)]; exact hH.1
  have hu := hT.2.2.1 j hj
  have ht : zI h 80 0 j = t32 (tk j) := by rw [hP.1.2 80 (by decide) (by decide)]; exact (hH.2 j hj).1
  have hp : zI h 81 0 j = nI (pl j) := by rw [hP.1.2 81 (by decide) (by decide)]; exact (hH.2 j hj).2
  unfold lineE
  refine w_aload_n (zat TX4_readsLine_0 38 rfl) rfl ?_
  refine x_callv1 (qX4_token l h hW N j hP.2.1 hN hj hN2 _ ht) (by omega) kX4_token (rdy_V (zat TX4_readsLine_0 39 rfl) kX4_token pX4_token zw563 zw565 zw8 (zrc (by decide) (by decide) rfl)) (Nat.le_of_ble_eq_true rfl) rfl rfl ?_
  refine w_bipush (v := -5) (zat TX4_readsLine_0 40 rfl) (by decide) ?_
  refine w_icmp_eq 82 (zat TX4_readsLine_0 41 rfl) (by decide) (fun Hc73 => ?_) (fun Hc73 => ?_)
  · rw [tq5 hu] at Hc73
    rw [if_pos Hc73]
    have hon := hT.on hj (by omega) (by omega)
    have hPa := hP.at (j + 1)
    refine w_aload_n (zat TX4_readsLine_0 46 rfl) rfl ?_
    refine w_dup (zat TX4_readsLine_0 47 rfl) rfl ?_
    refine y_getI (v := nI j) (zat TX4_readsLine_0 48 rfl) fX4_26 s54 (by decide) (by decide) rfl hP.2.1 ?_
    refine w_iconst (v := 1) (zat TX4_readsLine_0 49 rfl) (by decide) ?_
    refine w_iadd (zat TX4_readsLine_0 50 rfl) ?_
    rw [nI_1]
    refine w_putI (zat TX4_readsLine_0 51 rfl) gX4_readsLine_26 s54 (by decide) (by decide) rfl ⟨rfl, rfl⟩ ?_
    refine w_aload_n (zat TX4_readsLine_0 52 rfl) rfl ?_
    refine w_iconst (v := 0) (zat TX4_readsLine_0 53 rfl) (by decide) ?_
    refine x_call2 (qX4_sum l h0 hW0 tk pl N hT hH 8 0 (by omega) (j + 1) s (cs ++ [(if b then -2 else -1 : Int32)] ++ ys.map enI) _ hon h6 (by rw [List.length_append, List.length_append, List.length_map]; show cs.length + 1 + ys.length ≤ j + 1; omega) hPa) (by omega) kX4_readsSum (rdy_V (zat TX4_readsLine_0 54 rfl) kX4_readsSum pX4_readsSum zw582 zw584 zw12 (zrc (by decide) (by decide) rfl)) (Nat.le_of_ble_eq_true rfl) rfl rfl (fun v h3 hq => ?_) (fun r h3 hq => (CPo_nt hq).elim)
    cases hr : sumD tk 8 (j + 1) s with
    | inl e =>
      rw [hr] at hq
      obtain ⟨hq1, hq2⟩ := hq
      cases hq1
      refine w_if_ne 102 (zat TX4_readsLine_0 55 rfl) (by decide) (fun Hc97 => ?_) (fun Hc97 => ?_)
      · exact absurd rfl Hc97
      · refine w_iconst (v := 0) (zat TX4_readsLine_0 56 rfl) (by decide) ?_
        refine w_ireturn (zat TX4_readsLine_0 57 rfl) rfl rfl ?_
        exact ⟨rfl, hq2⟩
    | inr r =>
      obtain ⟨zs, j2, s2⟩ := r
      rw [hr] at hq
      obtain ⟨hq1, hP3⟩ := hq
      cases hq1
      replace hP3 : Pc h0 h3 j2 s2 (cs ++ [(if b then -2 else -1 : Int32)] ++ ys.map enI ++ zs.map enI) := hP3
      have hg := sumD_ok hT 8 (j + 1) s hon h6
      rw [hr] at hg
      obtain ⟨g1, g2, g3, g4, g5, g6⟩ := hg
      have hw5 := hP3.wr (-5)
      have hW3 := Wc.same (congrArg Prod.snd hP3.1.1) hW0
      have he : cs ++ [(if b then -2 else -1 : Int32)] ++ ys.map enI ++ zs.map enI ++ [-5] = cs ++ enL (b, ys ++ zs) := by
        unfold enL
        rw [List.map_append, List.append_assoc, List.append_assoc, List.append_assoc, List.append_assoc]
        rfl
      rw [he] at hw5
      refine w_if_ne 102 (zat TX4_readsLine_0 55 rfl) (by decide) (fun Hc97 => ?_) (fun Hc97 => ?_)
      · refine w_aload_n (zat TX4_readsLine_0 58 rfl) rfl ?_
        refine w_bipush (v := -5) (zat TX4_readsLine_0 59 rfl) (by decide) ?_
        refine x_callu2 (qX4_write l h3 hW3 _ hP3.2.2.2.1 (by rw [List.length_append, List.length_append, List.length_append, List.length_map, List.length_map]; show cs.length + 1 + ys.length + zs.length < 301; omega) _) (by omega) kX4_write (rdy_V (zat TX4_readsLine_1 0 rfl) kX4_write pX4_write zw571 zw573 zw10 (zrc (by decide) (by decide) rfl)) (Nat.le_of_ble_eq_true rfl) rfl rfl ?_
        refine w_iconst (v := 1) (zat TX4_readsLine_1 1 rfl) (by decide) ?_
        refine w_ireturn (zat TX4_readsLine_1 2 rfl) rfl rfl ?_
        exact ⟨rfl, hw5⟩
      · exact absurd Hc97 (by decide)
  · rw [tq5 hu] at Hc73
    rw [if_neg Hc73]
    refine w_aload_n (zat TX4_readsLine_0 42 rfl) rfl ?_
    refine w_iconst (v := 1) (zat TX4_readsLine_0 43 rfl) (by decide) ?_
    refine x_callv2 (qX4_fail l h hW N j hP.2.1 hN hj hN2 1 _ hp) (by omega) kX4_fail (rdy_V (zat TX4_readsLine_0 44 rfl) kX4_fail pX4_fail zw567 zw569 zw9 (zrc (by decide) (by decide) rfl)) (Nat.le_of_ble_eq_true rfl) rfl rfl ?_
    refine w_ireturn (zat TX4_readsLine_0 45 rfl) rfl rfl ?_
    exact ⟨rfl, hP.fl pl 1⟩
theorem lX4_readsLine_34 (l : Launch) (h0 : zH) (hW0 : Wc h0) (tk pl : Nat → Nat) (N : Nat) (hT : Tkk tk N) (hH : TkH h0 tk pl N) (i s : Nat) (cs : List Int32) (h : zH) (hi : i < N) (h6 : s ≤ 60) (hcs : cs.length ≤ i) (hP : Pc h0 h i s cs) (b : Bool) (hb : tk i = if b then 2 else 1) (x1 : Option zV) : Wp l mX4_readsLine 30 34 [some (Vq (some (54, 0))), x1, some (Vi (if b then -2 else -1 : Int32))] [] h (CLo h0 pl cs b (if tk (i + 1) = 3 then
        (match testsP tk 5 [] (i + 1) s with
          | .inl e => .inl e
          | .inr (ys, j, s1) => lineE tk ys j s1)
      else lineE tk [] (i + 1) s)) := by
  have hN2 := hT.2.1
  have hon := hT.on hi (by rw [hb]; cases b <;> decide) (by rw [hb]; cases b <;> decide)
  have hW := Wc.same (congrArg Prod.snd hP.1.1) hW0
  have hPw := hP.wr (if b then -2 else -1 : Int32)
  have hPa := hPw.at (i + 1)
  have hW1 := Wc.same (congrArg Prod.snd hPa.1.1) hW0
  have hN1 : zI (zsI (pWr h cs.length (if b then -2 else -1)) 54 0 3 (nI (i + 1))) 73 0 2 = nI N := by rw [hPa.1.2 73 (by decide) (by decide)]; exact hH.1
  have hu1 := hT.2.2.1 (i + 1) hon
  have ht1 : zI (zsI (pWr h cs.length (if b then -2 else -1)) 54 0 3 (nI (i + 1))) 80 0 (i + 1) = t32 (tk (i + 1)) := by rw [hPa.1.2 80 (by decide) (by decide)]; exact (hH.2 (i + 1) hon).1
  have hp1 : zI (zsI (pWr h cs.length (if b then -2 else -1)) 54 0 3 (nI (i + 1))) 81 0 (i + 1) = nI (pl (i + 1)) := by rw [hPa.1.2 81 (by decide) (by decide)]; exact (hH.2 (i + 1) hon).2
  refine w_aload_n (zat TX4_readsLine_0 20 rfl) rfl ?_
  refine w_iload_n (zat TX4_readsLine_0 21 rfl) rfl ?_
  refine x_callu2 (qX4_write l h hW _ hP.2.2.2.1 (by omega) _) (by omega) kX4_write (rdy_V (zat TX4_readsLine_0 22 rfl) kX4_write pX4_write zw571 zw573 zw10 (zrc (by decide) (by decide) rfl)) (Nat.le_of_ble_eq_true rfl) rfl rfl ?_
  refine w_aload_n (zat TX4_readsLine_0 23 rfl) rfl ?_
  refine w_dup (zat TX4_readsLine_0 24 rfl) rfl ?_
  refine y_getI (v := nI i) (zat TX4_readsLine_0 25 rfl) fX4_26 s54 (by decide) (by decide) rfl hPw.2.1 ?_
  refine w_iconst (v := 1) (zat TX4_readsLine_0 26 rfl) (by decide) ?_
  refine w_iadd (zat TX4_readsLine_0 27 rfl) ?_
  rw [nI_1]
  refine w_putI (zat TX4_readsLine_0 28 rfl) gX4_readsLine_26 s54 (by decide) (by decide) rfl ⟨rfl, rfl⟩ ?_
  refine w_aload_n (zat TX4_readsLine_0 29 rfl) rfl ?_
  refine x_callv1 (qX4_token l _ hW1 N (i + 1) hPa.2.1 hN1 hon hN2 _ ht1) (by omega) kX4_token (rdy_V (zat TX4_readsLine_0 30 rfl) kX4_token pX4_token zw563 zw565 zw8 (zrc (by decide) (by decide) rfl)) (Nat.le_of_ble_eq_true rfl) rfl rfl ?_
  refine w_bipush (v := -3) (zat TX4_readsLine_0 31 rfl) (by decide) ?_
  refine w_icmp_ne 67 (zat TX4_readsLine_0 32 rfl) (by decide) (fun Hc55 => ?_) (fun Hc55 => ?_)
  · rw [tq3 hu1] at Hc55
    rw [if_neg Hc55]
    exact lX4_readsLine_67 l h0 hW0 tk pl N hT hH cs b [] (i + 1) s _ hon h6 (by show cs.length + 1 + 0 ≤ i + 1; omega) (by show Pc h0 _ (i + 1) s (cs ++ [(if b then -2 else -1 : Int32)] ++ []); rw [List.append_nil]; exact hPa) _ _
  · rw [tq3 hu1] at Hc55
    rw [if_pos Hc55]
    refine w_aload_n (zat TX4_readsLine_0 33 rfl) rfl ?_
    refine x_call1 (qX4_readsTests l h0 hW0 tk pl N hT hH (i + 1) s (cs ++ [(if b then -2 else -1 : Int32)]) _ hon h6 (by rw [List.length_append]; show cs.length + 1 ≤ i + 1; omega) hPa Hc55) (by omega) kX4_readsTests (rdy_V (zat TX4_readsLine_0 34 rfl) kX4_readsTests pX4_readsTests zw575 zw577 zw11 (zrc (by decide) (by decide) rfl)) (Nat.le_of_ble_eq_true rfl) rfl rfl (fun v h3 hq => ?_) (fun r h3 hq => (CPo_nt hq).elim)
    cases hr : testsP tk 5 [] (i + 1) s with
    | inl e =>
      rw [hr] at hq
      obtain ⟨hq1, hq2⟩ := hq
      cases hq1
      refine w_if_ne 67 (zat TX4_readsLine_0 35 rfl) (by decide) (fun Hc62 => ?_) (fun Hc62 => ?_)
      · exact absurd rfl Hc62
      · refine w_iconst (v := 0) (zat TX4_readsLine_0 36 rfl) (by decide) ?_
        refine w_ireturn (zat TX4_readsLine_0 37 rfl) rfl rfl ?_
        exact ⟨rfl, hq2⟩
    | inr r =>
      obtain ⟨ys, j, s1⟩ := r
      rw [hr] at hq
      obtain ⟨hq1, hP3⟩ := hq
      cases hq1
      replace hP3 : Pc h0 h3 j s1 (cs ++ [(if b then -2 else -1 : Int32)] ++ ys.map enI) := hP3
      have hg := testsP_ok hT (i + 1) s 5 [] (i + 1) s hon (Or.inl Hc55) (by show i + 1 + 0 ≤ i + 1; omega) (Nat.le_refl _) h6 (fun it hit => by cases hit) rfl
      rw [hr] at hg
      obtain ⟨g1, g2, g3, g4, g5, g6⟩ := hg
      refine w_if_ne 67 (zat TX4_readsLine_0 35 rfl) (by decide) (fun Hc62 => ?_) (fun Hc62 => ?_)
      · exact lX4_readsLine_67 l h0 hW0 tk pl N hT hH cs b ys j s1 h3 g1 g4 (by omega) hP3 _ _
      · exact absurd Hc62 (by decide)
theorem qX4_readsLine (l : Launch) (h0 : zH) (hW0 : Wc h0) (tk pl : Nat → Nat) (N : Nat) (hT : Tkk tk N) (hH : TkH h0 tk pl N) (i s : Nat) (cs : List Int32) (h : zH) (hi : i < N) (h6 : s ≤ 60) (hcs : cs.length ≤ i) (hP : Pc h0 h i s cs) (num : Nat) (hnum : num ≤ 100) : Ct l 30 mX4_readsLine [Vq (some (54, 0)), Vi (nI num)] h (CLo h0 pl cs (decide (tk i = 2)) (lineP tk num i s)) := by
  have hN2 := hT.2.1
  have hW := Wc.same (congrArg Prod.snd hP.1.1) hW0
  have hN : zI h 73 0 2 = nI N := by rw [hP.1.2 73 (by decide) (by decide)]; exact hH.1
  have hu := hT.2.2.1 i hi
  have ht : zI h 80 0 i = t32 (tk i) := by rw [hP.1.2 80 (by decide) (by decide)]; exact (hH.2 i hi).1
  have hp : zI h 81 0 i = nI (pl i) := by rw [hP.1.2 81 (by decide) (by decide)]; exact (hH.2 i hi).2
  unfold lineP
  refine Ct.in 1 kX4_readsLine (plainFor_of_name rfl) (Nat.le_of_ble_eq_true rfl) ?_
  refine w_aload_n (zat TX4_readsLine_0 0 rfl) rfl ?_
  refine x_callv1 (qX4_token l h hW N i hP.2.1 hN hi hN2 _ ht) (by omega) kX4_token (rdy_V (zat TX4_readsLine_0 1 rfl) kX4_token pX4_token zw563 zw565 zw8 (zrc (by decide) (by decide) rfl)) (Nat.le_of_ble_eq_true rfl) rfl rfl ?_
  refine x_istore_n (ls2 := [_, _, _]) (zat TX4_readsLine_0 2 rfl) (by decide) rfl ?_
  refine w_iload_n (zat TX4_readsLine_0 3 rfl) rfl ?_
  refine w_iconst (v := -1) (zat TX4_readsLine_0 4 rfl) (by decide) ?_
  refine w_icmp_eq 22 (zat TX4_readsLine_0 5 rfl) (by decide) (fun Hc7 => ?_) (fun Hc7 => ?_)
  · rw [tq1 hu] at Hc7
    refine w_iload_n (zat TX4_readsLine_0 13 rfl) rfl ?_
    refine w_bipush (v := 12) (zat TX4_readsLine_0 14 rfl) (by decide) ?_
    refine w_icmp_le 34 (zat TX4_readsLine_0 15 rfl) (by decide) (fun Hc25 => ?_) (fun Hc25 => ?_)
    · have Hn : ¬ 12 < num := by have := (nI_leI (b := 12) (by omega) (by omega)).mp Hc25; omega
      rw [if_pos (by omega), if_neg Hn]
      have e2 : decide (tk i = 2) = false := decide_eq_false (by omega)
      rw [e2, show t32 (tk i) = (-1 : Int32) from (tq1 hu).mpr Hc7]
      exact lX4_readsLine_34 l h0 hW0 tk pl N hT hH i s cs h hi h6 hcs hP false Hc7 _
    · have Hn : 12 < num := by
        apply Decidable.byContradiction
        intro z
        exact Hc25 ((nI_leI (b := 12) (by omega) (by omega)).mpr (by omega))
      rw [if_pos (by omega), if_pos Hn]
      refine w_aload_n (zat TX4_readsLine_0 16 rfl) rfl ?_
      refine w_iconst (v := 3) (zat TX4_readsLine_0 17 rfl) (by decide) ?_
      refine x_callv2 (qX4_fail l h hW N i hP.2.1 hN hi hN2 3 _ hp) (by omega) kX4_fail (rdy_V (zat TX4_readsLine_0 18 rfl) kX4_fail pX4_fail zw567 zw569 zw9 (zrc (by decide) (by decide) rfl)) (Nat.le_of_ble_eq_true rfl) rfl rfl ?_
      refine w_ireturn (zat TX4_readsLine_0 19 rfl) rfl rfl ?_
      exact ⟨rfl, hP.fl pl 3⟩
  · rw [tq1 hu] at Hc7
    refine w_iload_n (zat TX4_readsLine_0 6 rfl) rfl ?_
    refine w_bipush (v := -2) (zat TX4_readsLine_0 7 rfl) (by decide) ?_
    refine w_icmp_eq 22 (zat TX4_readsLine_0 8 rfl) (by decide) (fun Hc13 => ?_) (fun Hc13 => ?_)
    · rw [tq2 hu] at Hc13
      refine w_iload_n (zat TX4_readsLine_0 13 rfl) rfl ?_
      refine w_bipush (v := 12) (zat TX4_readsLine_0 14 rfl) (by decide) ?_
      refine w_icmp_le 34 (zat TX4_readsLine_0 15 rfl) (by decide) (fun Hc25 => ?_) (fun Hc25 => ?_)
      · have Hn : ¬ 12 < num := by have := (nI_leI (b := 12) (by omega) (by omega)).mp Hc25; omega
        rw [if_pos (by omega), if_neg Hn]
        have e2 : decide (tk i = 2) = true := decide_eq_true Hc13
        rw [e2, show t32 (tk i) = (-2 : Int32) from (tq2 hu).mpr Hc13]
        exact lX4_readsLine_34 l h0 hW0 tk pl N hT hH i s cs h hi h6 hcs hP true Hc13 _
      · have Hn : 12 < num := by
          apply Decidable.byContradiction
          intro z
          exact Hc25 ((nI_leI (b := 12) (by omega) (by omega)).mpr (by omega))
        rw [if_pos (by omega), if_pos Hn]
        refine w_aload_n (zat TX4_readsLine_0 16 rfl) rfl ?_
        refine w_iconst (v := 3) (zat TX4_readsLine_0 17 rfl) (by decide) ?_
        refine x_callv2 (qX4_fail l h hW N i hP.2.1 hN hi hN2 3 _ hp) (by omega) kX4_fail (rdy_V (zat TX4_readsLine_0 18 rfl) kX4_fail pX4_fail zw567 zw569 zw9 (zrc (by decide) (by decide) rfl)) (Nat.le_of_ble_eq_true rfl) rfl rfl ?_
        refine w_ireturn (zat TX4_readsLine_0 19 rfl) rfl rfl ?_
        exact ⟨rfl, hP.fl pl 3⟩
    · rw [tq2 hu] at Hc13
      refine w_aload_n (zat TX4_readsLine_0 9 rfl) rfl ?_
      refine w_iconst (v := 1) (zat TX4_readsLine_0 10 rfl) (by decide) ?_
      refine x_callv2 (qX4_fail l h hW N i hP.2.1 hN hi hN2 1 _ hp) (by omega) kX4_fail (rdy_V (zat TX4_readsLine_0 11 rfl) kX4_fail pX4_fail zw567 zw569 zw9 (zrc (by decide) (by decide) rfl)) (Nat.le_of_ble_eq_true rfl) rfl rfl ?_
      refine w_ireturn (zat TX4_readsLine_0 12 rfl) rfl rfl ?_
      rw [if_neg (by omega)]
      exact ⟨rfl, hP.fl pl 1⟩
def CTo (h0 : zH) (pl : Nat → Nat) (r : (Nat × Nat) ⊕ List (Bool × List (Nat × Int32))) (o : zO) (h' : zH) : Prop := match r with
  | .inl e => o = Rv (Vi 0) ∧ Pf h0 h' pl e.1 e.2
  | .inr ps => o = Rv (Vi 1) ∧ ∃ i s, Pc h0 h' i s (enP ps)
theorem lX4_reads_36 (l : Launch) (h0 : zH) (hW0 : Wc h0) (tk pl : Nat → Nat) (N : Nat) (hT : Tkk tk N) (hH : TkH h0 tk pl N) : ∀ f c : Nat, c + f = 14 → ∀ (ps : List (Bool × List (Nat × Int32))) (i s : Nat) (h : zH), i < N → s ≤ 60 → (enP ps).length ≤ i → Pc h0 h i s (enP ps) → ∀ x1 (x2 : Int32), Wp l mX4_reads 31 36 [some (Vq (some (54, 0))), x1, some (Vi x2), some (Vi (nI c))] [] h (CTo h0 pl (progP tk f ps i s)) := by
  have hN2 := hT.2.1
  intro f
  induction f with
  | zero =>
    intro c hc ps i s h hi h6 hl hP x1 x2
    have hW := Wc.same (congrArg Prod.snd hP.1.1) hW0
    have hN : zI h 73 0 2 = nI N := by rw [hP.1.2 73 (by decide) (by decide)]; exact hH.1
    have hu := hT.2.2.1 i hi
    have ht : zI h 80 0 i = t32 (tk i) := by rw [hP.1.2 80 (by decide) (by decide)]; exact (hH.2 i hi).1
    have hp : zI h 81 0 i = nI (pl i) := by rw [hP.1.2 81 (by decide) (by decide)]; exact (hH.2 i hi).2
    refine w_iload_n (zat TX4_reads 22 rfl) rfl ?_
    refine w_bipush (v := 13) (zat TX4_reads 23 rfl) (by decide) ?_
    refine w_icmp_gt 94 (zat TX4_reads 24 rfl) (by decide) (fun Hc39 => ?_) (fun Hc39 => ?_)
    · refine w_aload_n (zat TX4_reads 53 rfl) rfl ?_
      refine w_iconst (v := 3) (zat TX4_reads 54 rfl) (by decide) ?_
      refine x_callv2 (qX4_fail l h hW N i hP.2.1 hN hi hN2 3 _ hp) (by omega) kX4_fail (rdy_V (zat TX4_reads 55 rfl) kX4_fail pX4_fail zw567 zw569 zw9 (zrc (by decide) (by decide) rfl)) (Nat.le_of_ble_eq_true rfl) rfl rfl ?_
      refine w_ireturn (zat TX4_reads 56 rfl) rfl rfl ?_
      exact ⟨rfl, hP.fl pl 3⟩
    · exact absurd (nI_lt (a := 13) (by omega) (by omega)) Hc39
  | succ f ih =>
    intro c hc ps i s h hi h6 hl hP x1 x2
    unfold progP
    refine w_iload_n (zat TX4_reads 22 rfl) rfl ?_
    refine w_bipush (v := 13) (zat TX4_reads 23 rfl) (by decide) ?_
    refine w_icmp_gt 94 (zat TX4_reads 24 rfl) (by decide) (fun Hc39 => ?_) (fun Hc39 => ?_)
    · exact absurd Hc39 (Int32.not_lt.mpr (nI_le (b := 13) (by omega) (by omega)))
    · refine w_aload_n (zat TX4_reads 25 rfl) rfl ?_
      refine w_iload_n (zat TX4_reads 26 rfl) rfl ?_
      refine x_call2 (qX4_readsLine l h0 hW0 tk pl N hT hH i s (enP ps) h hi h6 hl hP c (by omega)) (by omega) kX4_readsLine (rdy_V (zat TX4_reads 27 rfl) kX4_readsLine pX4_readsLine zw559 zw561 zw7 (zrc (by decide) (by decide) rfl)) (Nat.le_of_ble_eq_true rfl) rfl rfl (fun v h3 hq => ?_) (fun r h3 hq => (CLo_nt hq).elim)
      rw [show c = 13 - f by omega] at hq
      cases hr : lineP tk (13 - f) i s with
      | inl e =>
        rw [hr] at hq
        obtain ⟨hq1, hq2⟩ := hq
        cases hq1
        refine w_if_ne 52 (zat TX4_reads 28 rfl) (by decide) (fun Hc47 => ?_) (fun Hc47 => ?_)
        · exact absurd rfl Hc47
        · refine w_iconst (v := 0) (zat TX4_reads 29 rfl) (by decide) ?_
          refine w_ireturn (zat TX4_reads 30 rfl) rfl rfl ?_
          exact ⟨rfl, hq2⟩
      | inr r =>
        obtain ⟨ys, j, s1⟩ := r
        rw [hr] at hq
        obtain ⟨hq1, hP3⟩ := hq
        cases hq1
        replace hP3 : Pc h0 h3 j s1 (enP ps ++ enL (decide (tk i = 2), ys)) := hP3
        have hg := lineP_ok hT (13 - f) i s hi h6
        rw [hr] at hg
        obtain ⟨g1, g2, g3, g4, g5, g6⟩ := hg
        have hW3 := Wc.same (congrArg Prod.snd hP3.1.1) hW0
        have hN3 : zI h3 73 0 2 = nI N := by rw [hP3.1.2 73 (by decide) (by decide)]; exact hH.1
        have hu3 := hT.2.2.1 j g1
        have ht3 : zI h3 80 0 j = t32 (tk j) := by rw [hP3.1.2 80 (by decide) (by decide)]; exact (hH.2 j g1).1
        have hp3 : zI h3 81 0 j = nI (pl j) := by rw [hP3.1.2 81 (by decide) (by decide)]; exact (hH.2 j g1).2
        rw [← enP_app] at hP3
        have hlen : (enP (ps ++ [(decide (tk i = 2), ys)])).length = (enP ps).length + ys.length + 2 := by
          rw [enP_app, List.length_append, enL_len]
          show _ + (ys.length + 2) = _
          omega
        show Wp _ _ _ _ _ _ _ (CTo h0 pl (if tk j = 21 then .inr (ps ++ [(decide (tk i = 2), ys)]) else if tk j = 20 then progP tk f (ps ++ [(decide (tk i = 2), ys)]) (j + 1) s1 else .inl (1, j)))
        refine w_if_ne 52 (zat TX4_reads 28 rfl) (by decide) (fun Hc47 => ?_) (fun Hc47 => ?_)
        · refine w_aload_n (zat TX4_reads 31 rfl) rfl ?_
          refine x_callv1 (qX4_token l h3 hW3 N j hP3.2.1 hN3 g1 hN2 _ ht3) (by omega) kX4_token (rdy_V (zat TX4_reads 32 rfl) kX4_token pX4_token zw563 zw565 zw8 (zrc (by decide) (by decide) rfl)) (Nat.le_of_ble_eq_true rfl) rfl rfl ?_
          refine w_bipush (v := -21) (zat TX4_reads 33 rfl) (by decide) ?_
          refine w_icmp_ne 63 (zat TX4_reads 34 rfl) (by decide) (fun Hc58 => ?_) (fun Hc58 => ?_)
          · rw [tq21 hu3] at Hc58
            rw [if_neg Hc58]
            refine w_aload_n (zat TX4_reads 37 rfl) rfl ?_
            refine x_callv1 (qX4_token l h3 hW3 N j hP3.2.1 hN3 g1 hN2 _ ht3) (by omega) kX4_token (rdy_V (zat TX4_reads 38 rfl) kX4_token pX4_token zw563 zw565 zw8 (zrc (by decide) (by decide) rfl)) (Nat.le_of_ble_eq_true rfl) rfl rfl ?_
            refine w_bipush (v := -20) (zat TX4_reads 39 rfl) (by decide) ?_
            refine w_icmp_eq 78 (zat TX4_reads 40 rfl) (by decide) (fun Hc69 => ?_) (fun Hc69 => ?_)
            · rw [tq20 hu3] at Hc69
              rw [if_pos Hc69]
              have hon := hT.on g1 (by omega) (by omega)
              refine w_aload_n (zat TX4_reads 45 rfl) rfl ?_
              refine w_dup (zat TX4_reads 46 rfl) rfl ?_
              refine y_getI (v := nI j) (zat TX4_reads 47 rfl) fX4_26 s54 (by decide) (by decide) rfl hP3.2.1 ?_
              refine w_iconst (v := 1) (zat TX4_reads 48 rfl) (by decide) ?_
              refine w_iadd (zat TX4_reads 49 rfl) ?_
              rw [nI_1]
              refine w_putI (zat TX4_reads 50 rfl) gX4_reads_26 s54 (by decide) (by decide) rfl ⟨rfl, rfl⟩ ?_
              refine x_iinc (v := nI (c + 1)) (ls2 := [_, _, _, _]) (zat TX4_reads 51 rfl) rfl (nI_inc c) rfl ?_
              refine w_goto 36 (zat TX4_reads 52 rfl) (by decide) ?_
              exact ih (c + 1) (by omega) _ (j + 1) s1 _ hon g4 (by rw [hlen]; omega) (hP3.at (j + 1)) _ _
            · rw [tq20 hu3] at Hc69
              rw [if_neg Hc69]
              refine w_aload_n (zat TX4_reads 41 rfl) rfl ?_
              refine w_iconst (v := 1) (zat TX4_reads 42 rfl) (by decide) ?_
              refine x_callv2 (qX4_fail l h3 hW3 N j hP3.2.1 hN3 g1 hN2 1 _ hp3) (by omega) kX4_fail (rdy_V (zat TX4_reads 43 rfl) kX4_fail pX4_fail zw567 zw569 zw9 (zrc (by decide) (by decide) rfl)) (Nat.le_of_ble_eq_true rfl) rfl rfl ?_
              refine w_ireturn (zat TX4_reads 44 rfl) rfl rfl ?_
              exact ⟨rfl, hP3.fl pl 1⟩
          · rw [tq21 hu3] at Hc58
            rw [if_pos Hc58]
            refine w_iconst (v := 1) (zat TX4_reads 35 rfl) (by decide) ?_
            refine w_ireturn (zat TX4_reads 36 rfl) rfl rfl ?_
            exact ⟨rfl, _, _, hP3⟩
        · exact absurd Hc47 (by decide)
/-- what reading a text leaves alone -/
def FrE (h h' : zH) : Prop := h'.2 = h.2 ∧ ∀ k, k ≠ 54 → k ≠ 74 → k ≠ 73 → k ≠ 80 → k ≠ 81 → zI h' k = zI h k
/-- how the parser stands behind a text: what is wrong and where, or what it says -/
def Rd (h : zH) (pl : Nat → Nat) (r : (Nat × Nat) ⊕ List (Bool × List (Nat × Int32))) : Prop := match r with
  | .inl e => zI h 54 0 5 = nI e.1 ∧ zI h 54 0 6 = nI (pl e.2)
  | .inr ps => zI h 54 0 5 = 0 ∧ zI h 54 0 6 = -1 ∧ zI h 54 0 2 = nI (enP ps).length ∧ ∀ (k : Nat) (w : Int32), (enP ps)[k]? = some w → zI h 74 0 k = w
def isOk {α β : Type} (r : α ⊕ β) : Int32 := match r with
  | .inl _ => 0
  | .inr _ => 1
theorem qX4_reads (l : Launch) (h0 : zH) (hW0 : Wc h0) (n : Nat) (B : Nat → Nat) (hX : Tx h0 79 n B) : Ct l 31 mX4_reads [Vq (some (54, 0)), Vq (some (79, 0)), Vi (nI n)] h0 (fun o h' => (∃ N, NTk B n N) ∧ o = Rv (Vi (isOk (txtP B n))) ∧ FrE h0 h' ∧ Rd h' (plB B n) (txtP B n)) := by
  refine Ct.in 1 kX4_reads (plainFor_of_name rfl) (Nat.le_of_ble_eq_true rfl) ?_
  refine w_aload_n (zat TX4_reads 0 rfl) rfl ?_
  refine w_getR (zat TX4_reads 1 rfl) fX4_12 s54 (by decide) (by decide) rfl (wcr hW0 9 rfl) ?_
  refine w_aload_n (zat TX4_reads 2 rfl) rfl ?_
  refine w_iload_n (zat TX4_reads 3 rfl) rfl ?_
  refine x_call3 (qX9_scan l h0 hW0 n B hX) (by decide) kX9_scan (rdy_V (zat TX4_reads 4 rfl) kX9_scan pX9_scan zw467 zw468 zw469 (zrc (by decide) (by decide) rfl)) (Nat.le_of_ble_eq_true rfl) rfl rfl (fun v h2 hq => ?_) (fun r h2 hq => by cases hq.1)
  obtain ⟨hq1, hF2, N, hK⟩ := hq
  cases hq1
  have hW2 := Wc.same (congrArg Prod.snd hF2.1) hW0
  have hNT : NTk B n N := hK.2
  have hT := hNT.k hX.1
  have hH := hK.H
  have hP : Pc h2 (zsI (zsI (zsI (zsI (zsI h2 54 0 2 0) 54 0 3 0) 54 0 4 0) 54 0 5 0) 54 0 6 (-1)) 0 0 [] := ⟨⟨rfl, fun k h1 h3 => by rw [zI_ss _ 54 0 6 _ h1, zI_ss _ 54 0 5 _ h1, zI_ss _ 54 0 4 _ h1, zI_ss _ 54 0 3 _ h1, zI_ss _ 54 0 2 _ h1]⟩, rfl, rfl, rfl, fun k w hk => (by cases hk), rfl, rfl⟩
  refine w_aload_n (zat TX4_reads 5 rfl) rfl ?_
  refine w_iconst (v := 0) (zat TX4_reads 6 rfl) (by decide) ?_
  refine w_putI (zat TX4_reads 7 rfl) gX4_reads_22 s54 (by decide) (by decide) rfl ⟨rfl, rfl⟩ ?_
  refine w_aload_n (zat TX4_reads 8 rfl) rfl ?_
  refine w_iconst (v := 0) (zat TX4_reads 9 rfl) (by decide) ?_
  refine w_putI (zat TX4_reads 10 rfl) gX4_reads_26 s54 (by decide) (by decide) rfl ⟨rfl, rfl⟩ ?_
  refine w_aload_n (zat TX4_reads 11 rfl) rfl ?_
  refine w_iconst (v := 0) (zat TX4_reads 12 rfl) (by decide) ?_
  refine w_putI (zat TX4_reads 13 rfl) gX4_reads_29 s54 (by decide) (by decide) rfl ⟨rfl, rfl⟩ ?_
  refine w_aload_n (zat TX4_reads 14 rfl) rfl ?_
  refine w_iconst (v := 0) (zat TX4_reads 15 rfl) (by decide) ?_
  refine w_putI (zat TX4_reads 16 rfl) gX4_reads_32 s54 (by decide) (by decide) rfl ⟨rfl, rfl⟩ ?_
  refine w_aload_n (zat TX4_reads 17 rfl) rfl ?_
  refine w_iconst (v := -1) (zat TX4_reads 18 rfl) (by decide) ?_
  refine w_putI (zat TX4_reads 19 rfl) gX4_reads_35 s54 (by decide) (by decide) rfl ⟨rfl, rfl⟩ ?_
  refine w_iconst (v := 1) (zat TX4_reads 20 rfl) (by decide) ?_
  refine x_istore_n (ls2 := [_, _, _, _]) (zat TX4_reads 21 rfl) (by decide) rfl ?_
  refine (lX4_reads_36 l h2 hW2 (tkB B n) (plB B n) N hT hH 13 1 (by omega) [] 0 0 _ (by have := hT.1; omega) (by omega) (by show 0 ≤ 0; omega) hP _ _).imp (fun o h' hq => ⟨⟨N, hNT⟩, ?_⟩)
  show o = Rv (Vi (isOk (txtP B n))) ∧ FrE h0 h' ∧ Rd h' (plB B n) (txtP B n)
  have hq : CTo h2 (plB B n) (txtP B n) o h' := hq
  cases hr : txtP B n with
  | inl e =>
    rw [hr] at hq
    exact ⟨hq.1, ⟨hq.2.1.1.trans hF2.1, fun k h1 h3 h4 h5 h6 => (hq.2.1.2 k h1 h3).trans (hF2.2 k h4 h5 h6)⟩, hq.2.2.1, hq.2.2.2⟩
  | inr ps =>
    rw [hr] at hq
    obtain ⟨q1, i, s, q2, q3, q4, q5, q6, q7, q8⟩ := hq
    exact ⟨q1, ⟨q2.1.trans hF2.1, fun k h1 h3 h4 h5 h6 => (q2.2 k h1 h3).trans (hF2.2 k h4 h5 h6)⟩, q7, q8, q5, q6⟩
