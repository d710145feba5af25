-- charge, keep, shift of the class, by program (wip/gen/p69.py)
theorem nI_dec (n : Nat) : nI n + Int32.ofInt (-1) = nI n - 1 := by
  rw [Int32.sub_eq_add_neg]
  rfl
theorem chg_step {h h0 : zH} {p : Nat → Nat} {s : Nat} {x : Int32} (hi : ∀ k, k < 16 → zI h 72 0 k = zI h0 72 0 k + nI (cntP p s k) * x) (k : Nat) (hk : k < 16) : zI (zsI h 72 0 (p s) (zI h 72 0 (p s) + x)) 72 0 k = zI h0 72 0 k + nI (cntP p (s + 1) k) * x := by
  by_cases e : k = p s
  · subst e
    rw [zI_same, hi _ hk]
    show _ = _ + nI (inc1 (cntP p s) (p s) (p s)) * x
    rw [inc1, if_pos rfl, ← nI_1, Int32.add_mul, Int32.one_mul, Int32.add_assoc]
  · rw [zI_oth _ _ _ _ _ e, hi k hk]
    show _ = _ + nI (inc1 (cntP p s) (p s) k) * x
    rw [inc1, if_neg e]
theorem kp_step {h : zH} {p : Nat → Nat} {s nB : Nat} {A : Nat → Int32} (hp : p s < nB) (hi : ∀ k, zI h 83 0 k = if k < nB then nI (cntP p s k) else A k) (k : Nat) : zI (zsI h 83 0 (p s) (zI h 83 0 (p s) + 1)) 83 0 k = if k < nB then nI (cntP p (s + 1) k) else A k := by
  by_cases e : k = p s
  · subst e
    rw [zI_same, hi, if_pos hp, if_pos hp]
    show _ = nI (inc1 (cntP p s) (p s) (p s))
    rw [inc1, if_pos rfl, ← nI_1]
  · rw [zI_oth _ _ _ _ _ e, hi k]
    show _ = if k < nB then nI (inc1 (cntP p s) (p s) k) else A k
    rw [inc1, if_neg e]
theorem lX10_charge (l : Launch) (h0 : zH) (hW0 : Wc h0) (G : Nat) (hG : zI h0 57 0 3 = nI G) (hG2 : G ≤ 3) (p : Nat → Nat) (hp : ∀ i, i < G → zI h0 82 0 i = nI (p i) ∧ p i < 16) (x : Int32) : ∀ kk s : Nat, s + kk = G → ∀ h, FrG 72 h0 h → (∀ k, k < 16 → zI h 72 0 k = zI h0 72 0 k + nI (cntP p s k) * x) → Wp l mX10_charge 1 2 [some (Vq (some (57, 0))), some (Vq (some (56, 0))), some (Vi x), some (Vi (nI s))] [] h (fun o h' => o = R0 ∧ FrG 72 h0 h' ∧ (∀ k, k < 16 → zI h' 72 0 k = zI h0 72 0 k + nI (cntP p G k) * x)) := by
  intro kk
  induction kk with
  | zero =>
    intro s hs h hF hi
    have hW := Wc.same (congrArg Prod.snd hF.1) hW0
    have hGh : zI h 57 0 3 = nI G := by rw [hF.2 57 (by decide)]; exact hG
    refine w_iload_n (zat TX10_charge 2 rfl) rfl ?_
    refine w_aload_n (zat TX10_charge 3 rfl) rfl ?_
    refine y_getI (v := nI G) (zat TX10_charge 4 rfl) fX10_22 s57 (by decide) (by decide) rfl hGh ?_
    refine w_icmp_ge 31 (zat TX10_charge 5 rfl) (by decide) (fun Hc7 => ?_) (fun Hc7 => ?_)
    · refine w_return (zat TX10_charge 19 rfl) rfl ?_
      have e : s = G := by omega
      subst e
      exact ⟨rfl, hF, hi⟩
    · exact absurd (nI_le (by omega) (by omega)) Hc7
  | succ kk ih =>
    intro s hs h hF hi
    have hW := Wc.same (congrArg Prod.snd hF.1) hW0
    have hGh : zI h 57 0 3 = nI G := by rw [hF.2 57 (by decide)]; exact hG
    obtain ⟨p1, p2⟩ := hp s (by omega)
    have p3 : zI h 82 0 s = nI (p s) := by rw [hF.2 82 (by decide)]; exact p1
    refine w_iload_n (zat TX10_charge 2 rfl) rfl ?_
    refine w_aload_n (zat TX10_charge 3 rfl) rfl ?_
    refine y_getI (v := nI G) (zat TX10_charge 4 rfl) fX10_22 s57 (by decide) (by decide) rfl hGh ?_
    refine w_icmp_ge 31 (zat TX10_charge 5 rfl) (by decide) (fun Hc7 => ?_) (fun Hc7 => ?_)
    · exact absurd Hc7 (nI_ge (by omega) (by omega))
    · refine w_aload_n (zat TX10_charge 6 rfl) rfl ?_
      refine w_getR (zat TX10_charge 7 rfl) fX10_48 s56 (by decide) (by decide) rfl (wcr hW 21 rfl) ?_
      refine w_aload_n (zat TX10_charge 8 rfl) rfl ?_
      refine w_getR (zat TX10_charge 9 rfl) fX10_9 s57 (by decide) (by decide) rfl (wcr hW 22 rfl) ?_
      refine w_iload_n (zat TX10_charge 10 rfl) rfl ?_
      refine y_iaload _ _ (v := nI (p s)) (zat TX10_charge 11 rfl) s82 (by decide) (wcn hW 18 rfl) (by decide) rfl (by omega) p3 ?_
      refine w_dup2 (zat TX10_charge 12 rfl) rfl rfl ?_
      refine x_iaload (p s) _ (zat TX10_charge 13 rfl) s72 (by decide) (wcn hW 12 rfl) (by decide) rfl (by omega) ?_
      refine w_iload_n (zat TX10_charge 14 rfl) rfl ?_
      refine w_iadd (zat TX10_charge 15 rfl) ?_
      refine x_iastore (p s) _ (zat TX10_charge 16 rfl) s72 (by decide) (wcn hW 12 rfl) (by decide) rfl (by omega) ?_
      refine x_iinc (v := nI (s + 1)) (ls2 := [_, _, _, _]) (zat TX10_charge 17 rfl) rfl (nI_inc s) rfl ?_
      refine w_goto 2 (zat TX10_charge 18 rfl) (by decide) ?_
      exact ih (s + 1) (by omega) _ (hF.w (p s) _) (chg_step hi)
theorem qX10_charge (l : Launch) (h0 : zH) (hW0 : Wc h0) (G : Nat) (hG : zI h0 57 0 3 = nI G) (hG2 : G ≤ 3) (p : Nat → Nat) (hp : ∀ i, i < G → zI h0 82 0 i = nI (p i) ∧ p i < 16) (x : Int32) : Ct l 1 mX10_charge [Vq (some (57, 0)), Vq (some (56, 0)), Vi x] h0 (fun o h' => o = R0 ∧ FrG 72 h0 h' ∧ (∀ k, k < 16 → zI h' 72 0 k = zI h0 72 0 k + nI (cntP p G k) * x)) := by
  refine Ct.in 1 kX10_charge (plainFor_of_name rfl) (Nat.le_of_ble_eq_true rfl) ?_
  refine w_iconst (v := 0) (zat TX10_charge 0 rfl) (by decide) ?_
  refine x_istore_n (ls2 := [_, _, _, _]) (zat TX10_charge 1 rfl) (by decide) rfl ?_
  exact lX10_charge l h0 hW0 G hG hG2 p hp x G 0 (by omega) h0 (FrG.rf 72 h0) (fun k hk => by show _ = _ + (0 : Int32) * x; rw [Int32.zero_mul, Int32.add_zero])
theorem lX10_keep_25 (l : Launch) (h0 : zH) (hW0 : Wc h0) (G nB : Nat) (hG : zI h0 57 0 3 = nI G) (hG2 : G ≤ 3) (p : Nat → Nat) (hp : ∀ i, i < G → zI h0 82 0 i = nI (p i) ∧ p i < nB) (hB : zI h0 57 0 2 = nI nB) (hB2 : nB ≤ 16) : ∀ kk s : Nat, s + kk = G → ∀ h, FrG 83 h0 h → (∀ k, zI h 83 0 k = if k < nB then nI (cntP p s k) else zI h0 83 0 k) → Wp l mX10_keep 1 25 [some (Vq (some (57, 0))), some (Vi (nI s))] [] h (fun o h' => o = R0 ∧ FrG 83 h0 h' ∧ (∀ k, zI h' 83 0 k = if k < nB then nI (cntP p G k) else zI h0 83 0 k)) := by
  intro kk
  induction kk with
  | zero =>
    intro s hs h hF hi
    have hW := Wc.same (congrArg Prod.snd hF.1) hW0
    have hGh : zI h 57 0 3 = nI G := by rw [hF.2 57 (by decide)]; exact hG
    have hBh : zI h 57 0 2 = nI nB := by rw [hF.2 57 (by decide)]; exact hB
    refine w_iload_n (zat TX10_keep 15 rfl) rfl ?_
    refine w_aload_n (zat TX10_keep 16 rfl) rfl ?_
    refine y_getI (v := nI G) (zat TX10_keep 17 rfl) fX10_22 s57 (by decide) (by decide) rfl hGh ?_
    refine w_icmp_ge 54 (zat TX10_keep 18 rfl) (by decide) (fun Hc30 => ?_) (fun Hc30 => ?_)
    · refine w_return (zat TX10_keep 32 rfl) rfl ?_
      have e : s = G := by omega
      subst e
      exact ⟨rfl, hF, hi⟩
    · exact absurd (nI_le (by omega) (by omega)) Hc30
  | succ kk ih =>
    intro s hs h hF hi
    have hW := Wc.same (congrArg Prod.snd hF.1) hW0
    have hGh : zI h 57 0 3 = nI G := by rw [hF.2 57 (by decide)]; exact hG
    have hBh : zI h 57 0 2 = nI nB := by rw [hF.2 57 (by decide)]; exact hB
    obtain ⟨p1, p2⟩ := hp s (by omega)
    have p3 : zI h 82 0 s = nI (p s) := by rw [hF.2 82 (by decide)]; exact p1
    refine w_iload_n (zat TX10_keep 15 rfl) rfl ?_
    refine w_aload_n (zat TX10_keep 16 rfl) rfl ?_
    refine y_getI (v := nI G) (zat TX10_keep 17 rfl) fX10_22 s57 (by decide) (by decide) rfl hGh ?_
    refine w_icmp_ge 54 (zat TX10_keep 18 rfl) (by decide) (fun Hc30 => ?_) (fun Hc30 => ?_)
    · exact absurd Hc30 (nI_ge (by omega) (by omega))
    · refine w_aload_n (zat TX10_keep 19 rfl) rfl ?_
      refine w_getR (zat TX10_keep 20 rfl) fX10_15 s57 (by decide) (by decide) rfl (wcr hW 23 rfl) ?_
      refine w_aload_n (zat TX10_keep 21 rfl) rfl ?_
      refine w_getR (zat TX10_keep 22 rfl) fX10_9 s57 (by decide) (by decide) rfl (wcr hW 22 rfl) ?_
      refine w_iload_n (zat TX10_keep 23 rfl) rfl ?_
      refine y_iaload _ _ (v := nI (p s)) (zat TX10_keep 24 rfl) s82 (by decide) (wcn hW 18 rfl) (by decide) rfl (by omega) p3 ?_
      refine w_dup2 (zat TX10_keep 25 rfl) rfl rfl ?_
      refine x_iaload (p s) _ (zat TX10_keep 26 rfl) s83 (by decide) (wcn hW 19 rfl) (by decide) rfl (by omega) ?_
      refine w_iconst (v := 1) (zat TX10_keep 27 rfl) (by decide) ?_
      refine w_iadd (zat TX10_keep 28 rfl) ?_
      refine x_iastore (p s) _ (zat TX10_keep 29 rfl) s83 (by decide) (wcn hW 19 rfl) (by decide) rfl (by omega) ?_
      refine x_iinc (v := nI (s + 1)) (ls2 := [_, _]) (zat TX10_keep 30 rfl) rfl (nI_inc s) rfl ?_
      refine w_goto 25 (zat TX10_keep 31 rfl) (by decide) ?_
      exact ih (s + 1) (by omega) _ (hF.w (p s) _) (kp_step p2 hi)
theorem lX10_keep_2 (l : Launch) (h0 : zH) (hW0 : Wc h0) (G nB : Nat) (hG : zI h0 57 0 3 = nI G) (hG2 : G ≤ 3) (p : Nat → Nat) (hp : ∀ i, i < G → zI h0 82 0 i = nI (p i) ∧ p i < nB) (hB : zI h0 57 0 2 = nI nB) (hB2 : nB ≤ 16) : ∀ kk s : Nat, s + kk = nB → ∀ h, FrG 83 h0 h → (∀ k, zI h 83 0 k = if k < s then 0 else zI h0 83 0 k) → Wp l mX10_keep 1 2 [some (Vq (some (57, 0))), some (Vi (nI s))] [] h (fun o h' => o = R0 ∧ FrG 83 h0 h' ∧ (∀ k, zI h' 83 0 k = if k < nB then nI (cntP p G k) else zI h0 83 0 k)) := by
  intro kk
  induction kk with
  | zero =>
    intro s hs h hF hi
    have hW := Wc.same (congrArg Prod.snd hF.1) hW0
    have hGh : zI h 57 0 3 = nI G := by rw [hF.2 57 (by decide)]; exact hG
    have hBh : zI h 57 0 2 = nI nB := by rw [hF.2 57 (by decide)]; exact hB
    refine w_iload_n (zat TX10_keep 2 rfl) rfl ?_
    refine w_aload_n (zat TX10_keep 3 rfl) rfl ?_
    refine y_getI (v := nI nB) (zat TX10_keep 4 rfl) fX10_18 s57 (by decide) (by decide) rfl hBh ?_
    refine w_icmp_ge 23 (zat TX10_keep 5 rfl) (by decide) (fun Hc7 => ?_) (fun Hc7 => ?_)
    · refine w_iconst (v := 0) (zat TX10_keep 13 rfl) (by decide) ?_
      refine x_istore_n (ls2 := [_, _]) (zat TX10_keep 14 rfl) (by decide) rfl ?_
      have e : s = nB := by omega
      subst e
      exact lX10_keep_25 l h0 hW0 G s hG hG2 p hp hB hB2 G 0 (by omega) h hF hi
    · exact absurd (nI_le (by omega) (by omega)) Hc7
  | succ kk ih =>
    intro s hs h hF hi
    have hW := Wc.same (congrArg Prod.snd hF.1) hW0
    have hGh : zI h 57 0 3 = nI G := by rw [hF.2 57 (by decide)]; exact hG
    have hBh : zI h 57 0 2 = nI nB := by rw [hF.2 57 (by decide)]; exact hB
    refine w_iload_n (zat TX10_keep 2 rfl) rfl ?_
    refine w_aload_n (zat TX10_keep 3 rfl) rfl ?_
    refine y_getI (v := nI nB) (zat TX10_keep 4 rfl) fX10_18 s57 (by decide) (by decide) rfl hBh ?_
    refine w_icmp_ge 23 (zat TX10_keep 5 rfl) (by decide) (fun Hc7 => ?_) (fun Hc7 => ?_)
    · exact absurd Hc7 (nI_ge (by omega) (by omega))
    · refine w_aload_n (zat TX10_keep 6 rfl) rfl ?_
      refine w_getR (zat TX10_keep 7 rfl) fX10_15 s57 (by decide) (by decide) rfl (wcr hW 23 rfl) ?_
      refine w_iload_n (zat TX10_keep 8 rfl) rfl ?_
      refine w_iconst (v := 0) (zat TX10_keep 9 rfl) (by decide) ?_
      refine x_iastore _ _ (zat TX10_keep 10 rfl) s83 (by decide) (wcn hW 19 rfl) (by decide) rfl (by omega) ?_
      refine x_iinc (v := nI (s + 1)) (ls2 := [_, _]) (zat TX10_keep 11 rfl) rfl (nI_inc s) rfl ?_
      refine w_goto 2 (zat TX10_keep 12 rfl) (by decide) ?_
      refine ih (s + 1) (by omega) _ (hF.w s _) (fun k => ?_)
      by_cases e : k = s
      · subst e
        rw [zI_same, if_pos (by omega)]
      · rw [zI_oth _ _ _ _ _ e, hi k]
        by_cases e2 : k < s
        · rw [if_pos e2, if_pos (by omega)]
        · rw [if_neg e2, if_neg (by omega)]
theorem qX10_keep (l : Launch) (h0 : zH) (hW0 : Wc h0) (G nB : Nat) (hG : zI h0 57 0 3 = nI G) (hG2 : G ≤ 3) (p : Nat → Nat) (hp : ∀ i, i < G → zI h0 82 0 i = nI (p i) ∧ p i < nB) (hB : zI h0 57 0 2 = nI nB) (hB2 : nB ≤ 16) : Ct l 1 mX10_keep [Vq (some (57, 0))] h0 (fun o h' => o = R0 ∧ FrG 83 h0 h' ∧ (∀ k, zI h' 83 0 k = if k < nB then nI (cntP p G k) else zI h0 83 0 k)) := by
  refine Ct.in 1 kX10_keep (plainFor_of_name rfl) (Nat.le_of_ble_eq_true rfl) ?_
  refine w_iconst (v := 0) (zat TX10_keep 0 rfl) (by decide) ?_
  refine x_istore_n (ls2 := [_, _]) (zat TX10_keep 1 rfl) (by decide) rfl ?_
  exact lX10_keep_2 l h0 hW0 G nB hG hG2 p hp hB hB2 nB 0 (by omega) h0 (FrG.rf 83 h0) (fun k => by rw [if_neg (by omega)])
theorem lX10_shift_37 (l : Launch) (h : zH) (hW : Wc h) (G nB : Nat) (hG : zI h 57 0 3 = nI G) (hG2 : G ≤ 3) (p : Nat → Nat) (hp : ∀ i, i < G → zI h 82 0 i = nI (p i) ∧ p i < nB) (hB : zI h 57 0 2 = nI nB) (hB2 : nB ≤ 16) (n : Nat) (hn : n < G) (hn2 : p n + 1 < nB) (hn3 : ∀ j, n < j → j < G → nB ≤ p j + 1) : ∀ kk s : Nat, s + kk = G → n ≤ s → ∀ h2, FrG 82 h h2 → (∀ k, zI h2 82 0 k = if n ≤ k ∧ k < s then nI (p n + 1) else zI h 82 0 k) → Wp l mX10_shift 1 37 [some (Vq (some (57, 0))), some (Vi (nI n)), some (Vi (nI (p n + 1))), some (Vi (nI s))] [] h2 (fun o h' => (o = Rv (Vi 0) ∧ h' = h ∧ ∀ j, j < G → nB ≤ p j + 1) ∨ ∃ i, i < G ∧ p i + 1 < nB ∧ (∀ j, i < j → j < G → nB ≤ p j + 1) ∧ o = Rv (Vi 1) ∧ FrG 82 h h' ∧ ∀ k, k < G → zI h' 82 0 k = nI (shP p i k)) := by
  intro kk
  induction kk with
  | zero =>
    intro s hs hns h2 hF hi
    have hW2 := Wc.same (congrArg Prod.snd hF.1) hW
    have hGh : zI h2 57 0 3 = nI G := by rw [hF.2 57 (by decide)]; exact hG
    refine w_iload_n (zat TX10_shift 25 rfl) rfl ?_
    refine w_aload_n (zat TX10_shift 26 rfl) rfl ?_
    refine y_getI (v := nI G) (zat TX10_shift 27 rfl) fX10_22 s57 (by decide) (by decide) rfl hGh ?_
    refine w_icmp_ge 58 (zat TX10_shift 28 rfl) (by decide) (fun Hc42 => ?_) (fun Hc42 => ?_)
    · refine w_iconst (v := 1) (zat TX10_shift 36 rfl) (by decide) ?_
      refine w_ireturn (zat TX10_shift 37 rfl) rfl rfl ?_
      refine Or.inr ⟨n, hn, hn2, hn3, rfl, hF, fun k hk => ?_⟩
      rw [hi k]
      unfold shP
      by_cases e : n ≤ k
      · rw [if_pos ⟨e, by omega⟩, if_pos e]
      · rw [if_neg (fun z => e z.1), if_neg e]
        exact (hp k hk).1
    · exact absurd (nI_le (by omega) (by omega)) Hc42
  | succ kk ih =>
    intro s hs hns h2 hF hi
    have hW2 := Wc.same (congrArg Prod.snd hF.1) hW
    have hGh : zI h2 57 0 3 = nI G := by rw [hF.2 57 (by decide)]; exact hG
    refine w_iload_n (zat TX10_shift 25 rfl) rfl ?_
    refine w_aload_n (zat TX10_shift 26 rfl) rfl ?_
    refine y_getI (v := nI G) (zat TX10_shift 27 rfl) fX10_22 s57 (by decide) (by decide) rfl hGh ?_
    refine w_icmp_ge 58 (zat TX10_shift 28 rfl) (by decide) (fun Hc42 => ?_) (fun Hc42 => ?_)
    · exact absurd Hc42 (nI_ge (by omega) (by omega))
    · refine w_aload_n (zat TX10_shift 29 rfl) rfl ?_
      refine w_getR (zat TX10_shift 30 rfl) fX10_9 s57 (by decide) (by decide) rfl (wcr hW2 22 rfl) ?_
      refine w_iload_n (zat TX10_shift 31 rfl) rfl ?_
      refine w_iload_n (zat TX10_shift 32 rfl) rfl ?_
      refine x_iastore _ _ (zat TX10_shift 33 rfl) s82 (by decide) (wcn hW2 18 rfl) (by decide) rfl (by omega) ?_
      refine x_iinc (v := nI (s + 1)) (ls2 := [_, _, _, _]) (zat TX10_shift 34 rfl) rfl (nI_inc s) rfl ?_
      refine w_goto 37 (zat TX10_shift 35 rfl) (by decide) ?_
      refine ih (s + 1) (by omega) (by omega) _ (hF.w s _) (fun k => ?_)
      by_cases e : k = s
      · subst e
        rw [zI_same, if_pos (by omega)]
      · rw [zI_oth _ _ _ _ _ e, hi k]
        by_cases e2 : n ≤ k ∧ k < s
        · rw [if_pos e2, if_pos (by omega)]
        · rw [if_neg e2, if_neg (by omega)]
theorem lX10_shift_7 (l : Launch) (h : zH) (hW : Wc h) (G nB : Nat) (hG : zI h 57 0 3 = nI G) (hG2 : G ≤ 3) (p : Nat → Nat) (hp : ∀ i, i < G → zI h 82 0 i = nI (p i) ∧ p i < nB) (hB : zI h 57 0 2 = nI nB) (hB2 : nB ≤ 16) : ∀ s : Nat, s ≤ G → (∀ j, s ≤ j → j < G → nB ≤ p j + 1) → ∀ x y, Wp l mX10_shift 1 7 [some (Vq (some (57, 0))), some (Vi (nI s - 1)), x, y] [] h (fun o h' => (o = Rv (Vi 0) ∧ h' = h ∧ ∀ j, j < G → nB ≤ p j + 1) ∨ ∃ i, i < G ∧ p i + 1 < nB ∧ (∀ j, i < j → j < G → nB ≤ p j + 1) ∧ o = Rv (Vi 1) ∧ FrG 82 h h' ∧ ∀ k, k < G → zI h' 82 0 k = nI (shP p i k)) := by
  intro s
  induction s with
  | zero =>
    intro hs hj x y
    refine w_iload_n (zat TX10_shift 5 rfl) rfl ?_
    refine w_if_lt 66 (zat TX10_shift 6 rfl) (by decide) (fun Hc8 => ?_) (fun Hc8 => ?_)
    · refine w_iconst (v := 0) (zat TX10_shift 40 rfl) (by decide) ?_
      refine w_ireturn (zat TX10_shift 41 rfl) rfl rfl ?_
      exact Or.inl ⟨rfl, rfl, fun j hjG => hj j (Nat.zero_le j) hjG⟩
    · exact absurd (by decide) Hc8
  | succ n ih =>
    intro hs hj x y
    obtain ⟨p1, p2⟩ := hp n (by omega)
    obtain ⟨b, hb⟩ : ∃ b, nB = b + 1 := ⟨nB - 1, by omega⟩
    have hb1 : nI nB - 1 = nI b := by rw [hb, nI_pred]
    rw [nI_pred n]
    refine w_iload_n (zat TX10_shift 5 rfl) rfl ?_
    refine w_if_lt 66 (zat TX10_shift 6 rfl) (by decide) (fun Hc8 => ?_) (fun Hc8 => ?_)
    · exact absurd (nI_pos' (by omega)) (Int32.not_le.mpr Hc8)
    · refine w_aload_n (zat TX10_shift 7 rfl) rfl ?_
      refine w_getR (zat TX10_shift 8 rfl) fX10_9 s57 (by decide) (by decide) rfl (wcr hW 22 rfl) ?_
      refine w_iload_n (zat TX10_shift 9 rfl) rfl ?_
      refine y_iaload n _ (v := nI (p n)) (zat TX10_shift 10 rfl) s82 (by decide) (wcn hW 18 rfl) (by decide) rfl (by omega) p1 ?_
      refine w_aload_n (zat TX10_shift 11 rfl) rfl ?_
      refine y_getI (v := nI nB) (zat TX10_shift 12 rfl) fX10_18 s57 (by decide) (by decide) rfl hB ?_
      refine w_iconst (v := 1) (zat TX10_shift 13 rfl) (by decide) ?_
      refine w_isub (zat TX10_shift 14 rfl) ?_
      rw [hb1]
      refine w_icmp_ge 60 (zat TX10_shift 15 rfl) (by decide) (fun Hc23 => ?_) (fun Hc23 => ?_)
      · have Hd : nB ≤ p n + 1 := by
          have z := (nI_leI (by omega) (by omega)).mp Hc23
          omega
        refine x_iinc (v := nI n - 1) (ls2 := [_, _, _, _]) (zat TX10_shift 38 rfl) rfl (nI_dec n) rfl ?_
        refine w_goto 7 (zat TX10_shift 39 rfl) (by decide) ?_
        exact ih (by omega) (fun j h1 h2 => by
          by_cases e : j = n
          · rw [e]; exact Hd
          · exact hj j (by omega) h2) _ _
      · have Hd : p n + 1 < nB := by
          have z : ¬ b ≤ p n := fun z => Hc23 ((nI_leI (by omega) (by omega)).mpr z)
          omega
        refine w_aload_n (zat TX10_shift 16 rfl) rfl ?_
        refine w_getR (zat TX10_shift 17 rfl) fX10_9 s57 (by decide) (by decide) rfl (wcr hW 22 rfl) ?_
        refine w_iload_n (zat TX10_shift 18 rfl) rfl ?_
        refine y_iaload n _ (v := nI (p n)) (zat TX10_shift 19 rfl) s82 (by decide) (wcn hW 18 rfl) (by decide) rfl (by omega) p1 ?_
        refine w_iconst (v := 1) (zat TX10_shift 20 rfl) (by decide) ?_
        refine w_iadd (zat TX10_shift 21 rfl) ?_
        rw [nI_1]
        refine x_istore_n (ls2 := [_, _, _, _]) (zat TX10_shift 22 rfl) (by decide) rfl ?_
        refine w_iload_n (zat TX10_shift 23 rfl) rfl ?_
        refine x_istore_n (ls2 := [_, _, _, _]) (zat TX10_shift 24 rfl) (by decide) rfl ?_
        exact lX10_shift_37 l h hW G nB hG hG2 p hp hB hB2 n (by omega) Hd (fun j h1 h2 => hj j (by omega) h2) (G - n) n (by omega) (Nat.le_refl n) h (FrG.rf 82 h) (fun k => by rw [if_neg (by omega)])
theorem qX10_shift (l : Launch) (h : zH) (hW : Wc h) (G nB : Nat) (hG : zI h 57 0 3 = nI G) (hG2 : G ≤ 3) (p : Nat → Nat) (hp : ∀ i, i < G → zI h 82 0 i = nI (p i) ∧ p i < nB) (hB : zI h 57 0 2 = nI nB) (hB2 : nB ≤ 16) : Ct l 1 mX10_shift [Vq (some (57, 0))] h (fun o h' => (o = Rv (Vi 0) ∧ h' = h ∧ ∀ j, j < G → nB ≤ p j + 1) ∨ ∃ i, i < G ∧ p i + 1 < nB ∧ (∀ j, i < j → j < G → nB ≤ p j + 1) ∧ o = Rv (Vi 1) ∧ FrG 82 h h' ∧ ∀ k, k < G → zI h' 82 0 k = nI (shP p i k)) := by
  refine Ct.in 3 kX10_shift (plainFor_of_name rfl) (Nat.le_of_ble_eq_true rfl) ?_
  refine w_aload_n (zat TX10_shift 0 rfl) rfl ?_
  refine y_getI (v := nI G) (zat TX10_shift 1 rfl) fX10_22 s57 (by decide) (by decide) rfl hG ?_
  refine w_iconst (v := 1) (zat TX10_shift 2 rfl) (by decide) ?_
  refine w_isub (zat TX10_shift 3 rfl) ?_
  refine x_istore_n (ls2 := [_, _, _, _]) (zat TX10_shift 4 rfl) (by decide) rfl ?_
  exact lX10_shift_7 l h hW G nB hG hG2 p hp hB hB2 G (Nat.le_refl G) (fun j h1 h2 => by omega) _ _
