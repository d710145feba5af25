-- leastCost, sourceOf, costBetween, takenOf, takenInAll, lostInAll, borderOfWay, seat, join of the class, by program (wip/gen/p50.py)
/-- the source that an offer names -/
def oS (pr F : Nat → Nat) (j : Nat) : Nat := if F j / 16 = pr j then j else F j % 16
theorem qX3_leastCost (l : Launch) (h : zH) (hW : Wc h) (nP : Nat) (hP2 : nP ≤ 10) (pr F : Nat → Nat) (hpr : ∀ p, p < nP → zI h 64 0 p = nI (pr p) ∧ pr p ≤ 1000) (hC : CF h 67 nP F) (hFl : ∀ j, j < nP → F j < 16016) (j : Nat) (hj : j < nP) : Cx l 1 mX3_leastCost [Vq (some (56, 0)), Vi (nI j)] h (Rv (Vi (nI (F j / 16)))) h := by
  refine Ct.in 0 kX3_leastCost (plainFor_of_name rfl) (Nat.le_of_ble_eq_true rfl) ?_
  refine w_aload_n (zat TX3_leastCost 0 rfl) rfl ?_
  refine w_getR (zat TX3_leastCost 1 rfl) fX3_22 s56 (by decide) (by decide) rfl (wcr hW 16 rfl) ?_
  refine w_iload_n (zat TX3_leastCost 2 rfl) rfl ?_
  refine y_iaload _ _ (v := nI (F j)) (zat TX3_leastCost 3 rfl) s67 (by decide) (wcn hW 7 rfl) (by decide) rfl (by omega) (hC j hj) ?_
  refine w_iconst (v := 4) (zat TX3_leastCost 4 rfl) (by decide) ?_
  refine w_ishr (zat TX3_leastCost 5 rfl) ?_
  refine w_ireturn (zat TX3_leastCost 6 rfl) rfl rfl ?_
  exact ⟨by rw [(shr4 (hFl j hj)).1], rfl⟩
theorem qX3_sourceOf (l : Launch) (h : zH) (hW : Wc h) (nP : Nat) (hP2 : nP ≤ 10) (pr F : Nat → Nat) (hpr : ∀ p, p < nP → zI h 64 0 p = nI (pr p) ∧ pr p ≤ 1000) (hC : CF h 67 nP F) (hFl : ∀ j, j < nP → F j < 16016) (j : Nat) (hj : j < nP) : Cx l 2 mX3_sourceOf [Vq (some (56, 0)), Vi (nI j)] h (Rv (Vi (nI (oS pr F j)))) h := by
  have hf := hFl j hj
  obtain ⟨p1, p2⟩ := hpr j hj
  refine Ct.in 0 kX3_sourceOf (plainFor_of_name rfl) (Nat.le_of_ble_eq_true rfl) ?_
  refine w_aload_n (zat TX3_sourceOf 0 rfl) rfl ?_
  refine w_iload_n (zat TX3_sourceOf 1 rfl) rfl ?_
  refine x_callv2 (qX3_leastCost l h hW nP hP2 pr F hpr hC hFl j hj) (by decide) kX3_leastCost (rdy_V (zat TX3_sourceOf 2 rfl) kX3_leastCost pX3_leastCost zw749 zw738 zw739 (zrc (by decide) (by decide) rfl)) (Nat.le_of_ble_eq_true rfl) rfl rfl ?_
  refine w_aload_n (zat TX3_sourceOf 3 rfl) rfl ?_
  refine w_getR (zat TX3_sourceOf 4 rfl) fX3_9 s56 (by decide) (by decide) rfl (wcr hW 13 rfl) ?_
  refine w_iload_n (zat TX3_sourceOf 5 rfl) rfl ?_
  refine y_iaload _ _ (v := nI (pr j)) (zat TX3_sourceOf 6 rfl) s64 (by decide) (wcn hW 4 rfl) (by decide) rfl (by omega) p1 ?_
  refine w_icmp_ne 18 (zat TX3_sourceOf 7 rfl) (by decide) (fun Hc11 => ?_) (fun Hc11 => ?_)
  · replace Hc11 : ¬ F j / 16 = pr j := fun q => Hc11 (congrArg nI q)
    refine w_aload_n (zat TX3_sourceOf 10 rfl) rfl ?_
    refine w_getR (zat TX3_sourceOf 11 rfl) fX3_22 s56 (by decide) (by decide) rfl (wcr hW 16 rfl) ?_
    refine w_iload_n (zat TX3_sourceOf 12 rfl) rfl ?_
    refine y_iaload _ _ (v := nI (F j)) (zat TX3_sourceOf 13 rfl) s67 (by decide) (wcn hW 7 rfl) (by decide) rfl (by omega) (hC j hj) ?_
    refine w_bipush (v := 15) (zat TX3_sourceOf 14 rfl) (by decide) ?_
    refine w_iand (zat TX3_sourceOf 15 rfl) ?_
    refine w_ireturn (zat TX3_sourceOf 16 rfl) rfl rfl ?_
    first | exact ⟨by rw [oS, if_pos Hc11], rfl⟩ | exact ⟨by rw [oS, if_neg Hc11, (shr4 hf).2], rfl⟩
  · replace Hc11 : F j / 16 = pr j := nIe (by omega) (by omega) Hc11
    refine w_iload_n (zat TX3_sourceOf 8 rfl) rfl ?_
    refine w_goto 27 (zat TX3_sourceOf 9 rfl) (by decide) ?_
    refine w_ireturn (zat TX3_sourceOf 16 rfl) rfl rfl ?_
    first | exact ⟨by rw [oS, if_pos Hc11], rfl⟩ | exact ⟨by rw [oS, if_neg Hc11, (shr4 hf).2], rfl⟩
theorem qX3_costBetween (l : Launch) (h0 : zH) (hW0 : Wc h0) (nP : Nat) (hP0 : zI h0 56 0 9 = nI nP) (hP2 : nP ≤ 10) (nB : Nat) (hB0 : zI h0 56 0 10 = nI nB) (hB2 : nB ≤ 16) (on ot t : Nat → Nat) (hBT : BT h0 nP nB on ot t) (pr : Nat → Nat) (hpr : ∀ p, p < nP → zI h0 64 0 p = nI (pr p) ∧ pr p ≤ 1000) (hTl : ∀ p j, p < nP → j < nP → bL on ot t nB nP (tF p) j ≤ 1000000) (a b : Nat) (ha : a < nP) (hb : b < nP) : Ct l 3 mX3_costBetween [Vq (some (56, 0)), Vi (nI a), Vi (nI b)] h0 (fun o h' => o = Rv (Vi (if 1000000 ≤ bL on ot t nB nP (tF b) a then -2 else nI (pr a + bL on ot t nB nP (tF b) a))) ∧ FrG 68 h0 h') := by
  have hl := hTl b a hb ha
  refine Ct.in 0 kX3_costBetween (plainFor_of_name rfl) (Nat.le_of_ble_eq_true rfl) ?_
  refine w_aload_n (zat TX3_costBetween 0 rfl) rfl ?_
  refine w_iload_n (zat TX3_costBetween 1 rfl) rfl ?_
  refine x_call2 (qX3_measureTo l h0 hW0 nP hP0 hP2 nB hB0 hB2 on ot t hBT b hb) (by decide) kX3_measureTo (rdy_V (zat TX3_costBetween 2 rfl) kX3_measureTo pX3_measureTo zw728 zw730 zw23 (zrc (by decide) (by decide) rfl)) (Nat.le_of_ble_eq_true rfl) rfl rfl (fun v h2 hq => ?_) (fun r h2 hq => by cases hq.1)
  obtain ⟨hq1, hF, hC⟩ := hq
  cases hq1
  have hW2 := Wc.same (congrArg Prod.snd hF.1) hW0
  have t1 := hC a ha
  generalize bL on ot t nB nP (tF b) a = T at hl t1 ⊢
  have p1 := (hpr a ha).1
  rw [← hF.2 64 (by decide)] at p1
  refine w_aload_n (zat TX3_costBetween 3 rfl) rfl ?_
  refine w_getR (zat TX3_costBetween 4 rfl) fX3_25 s56 (by decide) (by decide) rfl (wcr hW2 17 rfl) ?_
  refine w_iload_n (zat TX3_costBetween 5 rfl) rfl ?_
  refine y_iaload _ _ (v := nI T) (zat TX3_costBetween 6 rfl) s68 (by decide) (wcn hW2 8 rfl) (by decide) rfl (by omega) t1 ?_
  refine w_ldc (v := 1000000) (zat TX3_costBetween 7 rfl) zw732 ?_
  refine w_icmp_lt 21 (zat TX3_costBetween 8 rfl) (by decide) (fun Hc13 => ?_) (fun Hc13 => ?_)
  · have Hd := (nI_ltI (b := 1000000) (by omega) (by omega)).mp Hc13
    refine w_aload_n (zat TX3_costBetween 11 rfl) rfl ?_
    refine w_getR (zat TX3_costBetween 12 rfl) fX3_9 s56 (by decide) (by decide) rfl (wcr hW2 13 rfl) ?_
    refine w_iload_n (zat TX3_costBetween 13 rfl) rfl ?_
    refine y_iaload _ _ (v := nI (pr a)) (zat TX3_costBetween 14 rfl) s64 (by decide) (wcn hW2 4 rfl) (by decide) rfl (by omega) p1 ?_
    refine w_aload_n (zat TX3_costBetween 15 rfl) rfl ?_
    refine w_getR (zat TX3_costBetween 16 rfl) fX3_25 s56 (by decide) (by decide) rfl (wcr hW2 17 rfl) ?_
    refine w_iload_n (zat TX3_costBetween 17 rfl) rfl ?_
    refine y_iaload _ _ (v := nI T) (zat TX3_costBetween 18 rfl) s68 (by decide) (wcn hW2 8 rfl) (by decide) rfl (by omega) t1 ?_
    refine w_iadd (zat TX3_costBetween 19 rfl) ?_
    refine w_ireturn (zat TX3_costBetween 20 rfl) rfl rfl ?_
    first | exact ⟨by rw [if_pos (by omega)], hF⟩ | exact ⟨by rw [if_neg (by omega), nI_add], hF⟩
  · have Hd : ¬ T < 1000000 := fun z => Hc13 ((nI_ltI (b := 1000000) (by omega) (by omega)).mpr z)
    refine w_bipush (v := -2) (zat TX3_costBetween 9 rfl) (by decide) ?_
    refine w_goto 34 (zat TX3_costBetween 10 rfl) (by decide) ?_
    refine w_ireturn (zat TX3_costBetween 20 rfl) rfl rfl ?_
    first | exact ⟨by rw [if_pos (by omega)], hF⟩ | exact ⟨by rw [if_neg (by omega), nI_add], hF⟩
def cTk (h : zH) (so : Nat → Nat) (j : Nat) : Nat → Int64
  | 0 => zL h 65 0 j
  | q + 1 => if so q = j then cTk h so j q + zL h 66 0 q else cTk h so j q
def cCr (h : zH) (so : Nat → Nat) : Nat → Int64
  | 0 => 0
  | q + 1 => cCr h so q + (zL h 65 0 q * (zI h 64 0 q).toInt64 + zL h 66 0 q * (zI h 64 0 (so q)).toInt64)
def cLo (h : zH) (so : Nat → Nat) : Nat → Int64
  | 0 => 0
  | q + 1 => cLo h so q + zL h 66 0 q * (zI h 64 0 q - zI h 64 0 (so q)).toInt64
theorem lX3_takenOf (l : Launch) (h : zH) (hW : Wc h) (nP : Nat) (hP2 : nP ≤ 10) (pr F : Nat → Nat) (hpr : ∀ p, p < nP → zI h 64 0 p = nI (pr p) ∧ pr p ≤ 1000) (hC : CF h 67 nP F) (hFl : ∀ j, j < nP → F j < 16016) (hP : zI h 56 0 9 = nI nP) (hS : ∀ j, j < nP → oS pr F j < nP) (j : Nat) (hj : j < nP) : ∀ kk s : Nat, s + kk = nP → Wp l mX3_takenOf 3 10 [some (Vq (some (56, 0))), some (Vi (nI j)), some (Vj (cTk h (oS pr F) j s)), none, some (Vi (nI s))] [] h (fun o h' => o = Rv (Vj (cTk h (oS pr F) j nP * (zI h 64 0 j).toInt64)) ∧ h' = h) := by
  intro kk
  induction kk with
  | zero =>
    intro s hs
    refine w_iload (zat TX3_takenOf 7 rfl) rfl ?_
    refine w_aload_n (zat TX3_takenOf 8 rfl) rfl ?_
    refine y_getI (v := nI nP) (zat TX3_takenOf 9 rfl) fX3_40 s56 (by decide) (by decide) rfl hP ?_
    refine w_icmp_ge 45 (zat TX3_takenOf 10 rfl) (by decide) (fun Hc16 => ?_) (fun Hc16 => ?_)
    · refine w_lload_n (zat TX3_takenOf 25 rfl) rfl ?_
      refine w_aload_n (zat TX3_takenOf 26 rfl) rfl ?_
      refine w_getR (zat TX3_takenOf 27 rfl) fX3_9 s56 (by decide) (by decide) rfl (wcr hW 13 rfl) ?_
      refine w_iload_n (zat TX3_takenOf 28 rfl) rfl ?_
      refine x_iaload _ _ (zat TX3_takenOf 29 rfl) s64 (by decide) (wcn hW 4 rfl) (by decide) rfl (by omega) ?_
      refine w_i2l (zat TX3_takenOf 30 rfl) ?_
      refine w_lmul (zat TX3_takenOf 31 rfl) ?_
      refine w_lreturn (zat TX3_takenOf 32 rfl) rfl ?_
      have e : s = nP := by omega
      subst e
      exact ⟨rfl, rfl⟩
    · exact absurd (nI_le (by omega) (by omega)) Hc16
  | succ kk ih =>
    intro s hs
    have hs2 := hS s (by omega)
    refine w_iload (zat TX3_takenOf 7 rfl) rfl ?_
    refine w_aload_n (zat TX3_takenOf 8 rfl) rfl ?_
    refine y_getI (v := nI nP) (zat TX3_takenOf 9 rfl) fX3_40 s56 (by decide) (by decide) rfl hP ?_
    refine w_icmp_ge 45 (zat TX3_takenOf 10 rfl) (by decide) (fun Hc16 => ?_) (fun Hc16 => ?_)
    · exact absurd Hc16 (nI_ge (by omega) (by omega))
    · refine w_aload_n (zat TX3_takenOf 11 rfl) rfl ?_
      refine w_iload (zat TX3_takenOf 12 rfl) rfl ?_
      refine x_callv2 (qX3_sourceOf l h hW nP hP2 pr F hpr hC hFl s (by omega)) (by decide) kX3_sourceOf (rdy_V (zat TX3_takenOf 13 rfl) kX3_sourceOf pX3_sourceOf zw759 zw746 zw747 (zrc (by decide) (by decide) rfl)) (Nat.le_of_ble_eq_true rfl) rfl rfl ?_
      refine w_iload_n (zat TX3_takenOf 14 rfl) rfl ?_
      refine w_icmp_ne 39 (zat TX3_takenOf 15 rfl) (by decide) (fun Hc26 => ?_) (fun Hc26 => ?_)
      · replace Hc26 : ¬ (oS pr F) s = j := fun q => Hc26 (congrArg nI q)
        refine x_iinc (v := nI (s + 1)) (ls2 := [_, _, _, _, _]) (zat TX3_takenOf 23 rfl) rfl (nI_inc s) rfl ?_
        refine w_goto 10 (zat TX3_takenOf 24 rfl) (by decide) ?_
        have Hi := ih (s + 1) (by omega)
        first | rw [cTk, if_pos Hc26] at Hi | rw [cTk, if_neg Hc26] at Hi
        exact Hi
      · replace Hc26 : (oS pr F) s = j := nIe (by omega) (by omega) Hc26
        refine w_lload_n (zat TX3_takenOf 16 rfl) rfl ?_
        refine w_aload_n (zat TX3_takenOf 17 rfl) rfl ?_
        refine w_getR (zat TX3_takenOf 18 rfl) fX3_19 s56 (by decide) (by decide) rfl (wcr hW 15 rfl) ?_
        refine w_iload (zat TX3_takenOf 19 rfl) rfl ?_
        refine x_laload _ _ (zat TX3_takenOf 20 rfl) s66 (by decide) (wcn hW 6 rfl) (by decide) rfl (by omega) ?_
        refine w_ladd (zat TX3_takenOf 21 rfl) ?_
        refine x_lstore_n (ls2 := [_, _, _, _, _]) (zat TX3_takenOf 22 rfl) (by decide) rfl ?_
        refine x_iinc (v := nI (s + 1)) (ls2 := [_, _, _, _, _]) (zat TX3_takenOf 23 rfl) rfl (nI_inc s) rfl ?_
        refine w_goto 10 (zat TX3_takenOf 24 rfl) (by decide) ?_
        have Hi := ih (s + 1) (by omega)
        first | rw [cTk, if_pos Hc26] at Hi | rw [cTk, if_neg Hc26] at Hi
        exact Hi
theorem qX3_takenOf (l : Launch) (h : zH) (hW : Wc h) (nP : Nat) (hP2 : nP ≤ 10) (pr F : Nat → Nat) (hpr : ∀ p, p < nP → zI h 64 0 p = nI (pr p) ∧ pr p ≤ 1000) (hC : CF h 67 nP F) (hFl : ∀ j, j < nP → F j < 16016) (hP : zI h 56 0 9 = nI nP) (hS : ∀ j, j < nP → oS pr F j < nP) (j : Nat) (hj : j < nP) : Cx l 3 mX3_takenOf [Vq (some (56, 0)), Vi (nI j)] h (Rv (Vj (cTk h (oS pr F) j nP * (zI h 64 0 j).toInt64))) h := by
  refine Ct.in 3 kX3_takenOf (plainFor_of_name rfl) (Nat.le_of_ble_eq_true rfl) ?_
  refine w_aload_n (zat TX3_takenOf 0 rfl) rfl ?_
  refine w_getR (zat TX3_takenOf 1 rfl) fX3_15 s56 (by decide) (by decide) rfl (wcr hW 14 rfl) ?_
  refine w_iload_n (zat TX3_takenOf 2 rfl) rfl ?_
  refine x_laload _ _ (zat TX3_takenOf 3 rfl) s65 (by decide) (wcn hW 5 rfl) (by decide) rfl (by omega) ?_
  refine x_lstore_n (ls2 := [_, _, _, _, _]) (zat TX3_takenOf 4 rfl) (by decide) rfl ?_
  refine w_iconst (v := 0) (zat TX3_takenOf 5 rfl) (by decide) ?_
  refine x_istore (ls2 := [_, _, _, _, _]) (zat TX3_takenOf 6 rfl) (by decide) rfl ?_
  exact lX3_takenOf l h hW nP hP2 pr F hpr hC hFl hP hS j hj nP 0 (by omega)
theorem lX3_takenInAll (l : Launch) (h : zH) (hW : Wc h) (nP : Nat) (hP2 : nP ≤ 10) (pr F : Nat → Nat) (hpr : ∀ p, p < nP → zI h 64 0 p = nI (pr p) ∧ pr p ≤ 1000) (hC : CF h 67 nP F) (hFl : ∀ j, j < nP → F j < 16016) (hP : zI h 56 0 9 = nI nP) (hS : ∀ j, j < nP → oS pr F j < nP) : ∀ kk s : Nat, s + kk = nP → Wp l mX3_takenInAll 3 4 [some (Vq (some (56, 0))), some (Vj (cCr h (oS pr F) s)), none, some (Vi (nI s))] [] h (fun o h' => o = Rv (Vj (cCr h (oS pr F) nP)) ∧ h' = h) := by
  intro kk
  induction kk with
  | zero =>
    intro s hs
    refine w_iload_n (zat TX3_takenInAll 4 rfl) rfl ?_
    refine w_aload_n (zat TX3_takenInAll 5 rfl) rfl ?_
    refine y_getI (v := nI nP) (zat TX3_takenInAll 6 rfl) fX3_40 s56 (by decide) (by decide) rfl hP ?_
    refine w_icmp_ge 54 (zat TX3_takenInAll 7 rfl) (by decide) (fun Hc9 => ?_) (fun Hc9 => ?_)
    · refine w_lload_n (zat TX3_takenInAll 36 rfl) rfl ?_
      refine w_lreturn (zat TX3_takenInAll 37 rfl) rfl ?_
      have e : s = nP := by omega
      subst e
      exact ⟨rfl, rfl⟩
    · exact absurd (nI_le (by omega) (by omega)) Hc9
  | succ kk ih =>
    intro s hs
    have hs2 := hS s (by omega)
    refine w_iload_n (zat TX3_takenInAll 4 rfl) rfl ?_
    refine w_aload_n (zat TX3_takenInAll 5 rfl) rfl ?_
    refine y_getI (v := nI nP) (zat TX3_takenInAll 6 rfl) fX3_40 s56 (by decide) (by decide) rfl hP ?_
    refine w_icmp_ge 54 (zat TX3_takenInAll 7 rfl) (by decide) (fun Hc9 => ?_) (fun Hc9 => ?_)
    · exact absurd Hc9 (nI_ge (by omega) (by omega))
    · refine w_lload_n (zat TX3_takenInAll 8 rfl) rfl ?_
      refine w_aload_n (zat TX3_takenInAll 9 rfl) rfl ?_
      refine w_getR (zat TX3_takenInAll 10 rfl) fX3_15 s56 (by decide) (by decide) rfl (wcr hW 14 rfl) ?_
      refine w_iload_n (zat TX3_takenInAll 11 rfl) rfl ?_
      refine x_laload _ _ (zat TX3_takenInAll 12 rfl) s65 (by decide) (wcn hW 5 rfl) (by decide) rfl (by omega) ?_
      refine w_aload_n (zat TX3_takenInAll 13 rfl) rfl ?_
      refine w_getR (zat TX3_takenInAll 14 rfl) fX3_9 s56 (by decide) (by decide) rfl (wcr hW 13 rfl) ?_
      refine w_iload_n (zat TX3_takenInAll 15 rfl) rfl ?_
      refine x_iaload _ _ (zat TX3_takenInAll 16 rfl) s64 (by decide) (wcn hW 4 rfl) (by decide) rfl (by omega) ?_
      refine w_i2l (zat TX3_takenInAll 17 rfl) ?_
      refine w_lmul (zat TX3_takenInAll 18 rfl) ?_
      refine w_aload_n (zat TX3_takenInAll 19 rfl) rfl ?_
      refine w_getR (zat TX3_takenInAll 20 rfl) fX3_19 s56 (by decide) (by decide) rfl (wcr hW 15 rfl) ?_
      refine w_iload_n (zat TX3_takenInAll 21 rfl) rfl ?_
      refine x_laload _ _ (zat TX3_takenInAll 22 rfl) s66 (by decide) (wcn hW 6 rfl) (by decide) rfl (by omega) ?_
      refine w_aload_n (zat TX3_takenInAll 23 rfl) rfl ?_
      refine w_getR (zat TX3_takenInAll 24 rfl) fX3_9 s56 (by decide) (by decide) rfl (wcr hW 13 rfl) ?_
      refine w_aload_n (zat TX3_takenInAll 25 rfl) rfl ?_
      refine w_iload_n (zat TX3_takenInAll 26 rfl) rfl ?_
      refine x_callv2 (qX3_sourceOf l h hW nP hP2 pr F hpr hC hFl s (by omega)) (by decide) kX3_sourceOf (rdy_V (zat TX3_takenInAll 27 rfl) kX3_sourceOf pX3_sourceOf zw759 zw746 zw747 (zrc (by decide) (by decide) rfl)) (Nat.le_of_ble_eq_true rfl) rfl rfl ?_
      refine x_iaload ((oS pr F) s) _ (zat TX3_takenInAll 28 rfl) s64 (by decide) (wcn hW 4 rfl) (by decide) rfl (by omega) ?_
      refine w_i2l (zat TX3_takenInAll 29 rfl) ?_
      refine w_lmul (zat TX3_takenInAll 30 rfl) ?_
      refine w_ladd (zat TX3_takenInAll 31 rfl) ?_
      refine w_ladd (zat TX3_takenInAll 32 rfl) ?_
      refine x_lstore_n (ls2 := [_, _, _, _]) (zat TX3_takenInAll 33 rfl) (by decide) rfl ?_
      refine x_iinc (v := nI (s + 1)) (ls2 := [_, _, _, _]) (zat TX3_takenInAll 34 rfl) rfl (nI_inc s) rfl ?_
      refine w_goto 4 (zat TX3_takenInAll 35 rfl) (by decide) ?_
      exact ih (s + 1) (by omega)
theorem qX3_takenInAll (l : Launch) (h : zH) (hW : Wc h) (nP : Nat) (hP2 : nP ≤ 10) (pr F : Nat → Nat) (hpr : ∀ p, p < nP → zI h 64 0 p = nI (pr p) ∧ pr p ≤ 1000) (hC : CF h 67 nP F) (hFl : ∀ j, j < nP → F j < 16016) (hP : zI h 56 0 9 = nI nP) (hS : ∀ j, j < nP → oS pr F j < nP) : Cx l 3 mX3_takenInAll [Vq (some (56, 0))] h (Rv (Vj (cCr h (oS pr F) nP))) h := by
  refine Ct.in 3 kX3_takenInAll (plainFor_of_name rfl) (Nat.le_of_ble_eq_true rfl) ?_
  refine w_lconst (v := 0) (zat TX3_takenInAll 0 rfl) (by decide) ?_
  refine x_lstore_n (ls2 := [_, _, _, _]) (zat TX3_takenInAll 1 rfl) (by decide) rfl ?_
  refine w_iconst (v := 0) (zat TX3_takenInAll 2 rfl) (by decide) ?_
  refine x_istore_n (ls2 := [_, _, _, _]) (zat TX3_takenInAll 3 rfl) (by decide) rfl ?_
  exact lX3_takenInAll l h hW nP hP2 pr F hpr hC hFl hP hS nP 0 (by omega)
theorem lX3_lostInAll (l : Launch) (h : zH) (hW : Wc h) (nP : Nat) (hP2 : nP ≤ 10) (pr F : Nat → Nat) (hpr : ∀ p, p < nP → zI h 64 0 p = nI (pr p) ∧ pr p ≤ 1000) (hC : CF h 67 nP F) (hFl : ∀ j, j < nP → F j < 16016) (hP : zI h 56 0 9 = nI nP) (hS : ∀ j, j < nP → oS pr F j < nP) : ∀ kk s : Nat, s + kk = nP → Wp l mX3_lostInAll 3 4 [some (Vq (some (56, 0))), some (Vj (cLo h (oS pr F) s)), none, some (Vi (nI s))] [] h (fun o h' => o = Rv (Vj (cLo h (oS pr F) nP)) ∧ h' = h) := by
  intro kk
  induction kk with
  | zero =>
    intro s hs
    refine w_iload_n (zat TX3_lostInAll 4 rfl) rfl ?_
    refine w_aload_n (zat TX3_lostInAll 5 rfl) rfl ?_
    refine y_getI (v := nI nP) (zat TX3_lostInAll 6 rfl) fX3_40 s56 (by decide) (by decide) rfl hP ?_
    refine w_icmp_ge 46 (zat TX3_lostInAll 7 rfl) (by decide) (fun Hc9 => ?_) (fun Hc9 => ?_)
    · refine w_lload_n (zat TX3_lostInAll 30 rfl) rfl ?_
      refine w_lreturn (zat TX3_lostInAll 31 rfl) rfl ?_
      have e : s = nP := by omega
      subst e
      exact ⟨rfl, rfl⟩
    · exact absurd (nI_le (by omega) (by omega)) Hc9
  | succ kk ih =>
    intro s hs
    have hs2 := hS s (by omega)
    refine w_iload_n (zat TX3_lostInAll 4 rfl) rfl ?_
    refine w_aload_n (zat TX3_lostInAll 5 rfl) rfl ?_
    refine y_getI (v := nI nP) (zat TX3_lostInAll 6 rfl) fX3_40 s56 (by decide) (by decide) rfl hP ?_
    refine w_icmp_ge 46 (zat TX3_lostInAll 7 rfl) (by decide) (fun Hc9 => ?_) (fun Hc9 => ?_)
    · exact absurd Hc9 (nI_ge (by omega) (by omega))
    · refine w_lload_n (zat TX3_lostInAll 8 rfl) rfl ?_
      refine w_aload_n (zat TX3_lostInAll 9 rfl) rfl ?_
      refine w_getR (zat TX3_lostInAll 10 rfl) fX3_19 s56 (by decide) (by decide) rfl (wcr hW 15 rfl) ?_
      refine w_iload_n (zat TX3_lostInAll 11 rfl) rfl ?_
      refine x_laload _ _ (zat TX3_lostInAll 12 rfl) s66 (by decide) (wcn hW 6 rfl) (by decide) rfl (by omega) ?_
      refine w_aload_n (zat TX3_lostInAll 13 rfl) rfl ?_
      refine w_getR (zat TX3_lostInAll 14 rfl) fX3_9 s56 (by decide) (by decide) rfl (wcr hW 13 rfl) ?_
      refine w_iload_n (zat TX3_lostInAll 15 rfl) rfl ?_
      refine x_iaload _ _ (zat TX3_lostInAll 16 rfl) s64 (by decide) (wcn hW 4 rfl) (by decide) rfl (by omega) ?_
      refine w_aload_n (zat TX3_lostInAll 17 rfl) rfl ?_
      refine w_getR (zat TX3_lostInAll 18 rfl) fX3_9 s56 (by decide) (by decide) rfl (wcr hW 13 rfl) ?_
      refine w_aload_n (zat TX3_lostInAll 19 rfl) rfl ?_
      refine w_iload_n (zat TX3_lostInAll 20 rfl) rfl ?_
      refine x_callv2 (qX3_sourceOf l h hW nP hP2 pr F hpr hC hFl s (by omega)) (by decide) kX3_sourceOf (rdy_V (zat TX3_lostInAll 21 rfl) kX3_sourceOf pX3_sourceOf zw759 zw746 zw747 (zrc (by decide) (by decide) rfl)) (Nat.le_of_ble_eq_true rfl) rfl rfl ?_
      refine x_iaload ((oS pr F) s) _ (zat TX3_lostInAll 22 rfl) s64 (by decide) (wcn hW 4 rfl) (by decide) rfl (by omega) ?_
      refine w_isub (zat TX3_lostInAll 23 rfl) ?_
      refine w_i2l (zat TX3_lostInAll 24 rfl) ?_
      refine w_lmul (zat TX3_lostInAll 25 rfl) ?_
      refine w_ladd (zat TX3_lostInAll 26 rfl) ?_
      refine x_lstore_n (ls2 := [_, _, _, _]) (zat TX3_lostInAll 27 rfl) (by decide) rfl ?_
      refine x_iinc (v := nI (s + 1)) (ls2 := [_, _, _, _]) (zat TX3_lostInAll 28 rfl) rfl (nI_inc s) rfl ?_
      refine w_goto 4 (zat TX3_lostInAll 29 rfl) (by decide) ?_
      exact ih (s + 1) (by omega)
theorem qX3_lostInAll (l : Launch) (h : zH) (hW : Wc h) (nP : Nat) (hP2 : nP ≤ 10) (pr F : Nat → Nat) (hpr : ∀ p, p < nP → zI h 64 0 p = nI (pr p) ∧ pr p ≤ 1000) (hC : CF h 67 nP F) (hFl : ∀ j, j < nP → F j < 16016) (hP : zI h 56 0 9 = nI nP) (hS : ∀ j, j < nP → oS pr F j < nP) : Cx l 3 mX3_lostInAll [Vq (some (56, 0))] h (Rv (Vj (cLo h (oS pr F) nP))) h := by
  refine Ct.in 3 kX3_lostInAll (plainFor_of_name rfl) (Nat.le_of_ble_eq_true rfl) ?_
  refine w_lconst (v := 0) (zat TX3_lostInAll 0 rfl) (by decide) ?_
  refine x_lstore_n (ls2 := [_, _, _, _]) (zat TX3_lostInAll 1 rfl) (by decide) rfl ?_
  refine w_iconst (v := 0) (zat TX3_lostInAll 2 rfl) (by decide) ?_
  refine x_istore_n (ls2 := [_, _, _, _]) (zat TX3_lostInAll 3 rfl) (by decide) rfl ?_
  exact lX3_lostInAll l h hW nP hP2 pr F hpr hC hFl hP hS nP 0 (by omega)
