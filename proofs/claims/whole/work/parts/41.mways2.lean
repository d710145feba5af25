-- ways of the model: the borders, by program (wip/gen/p41.py)
theorem TD.edge {h : zH} {n p q c : Nat} {D : Nat → Nat → Nat} (hn : n ≤ 10) (hp : p < n) (hq : q < n) (x : TD h n D) : TD (zsI (zsI h 23 0 (10 * p + q) (nI (min (D p q) c))) 23 0 (10 * q + p) (nI (min (D q p) c))) n (dE D p q c) := by
  intro a b ha hb
  unfold dE
  by_cases e : a = q ∧ b = p
  · rw [e.1, e.2, zI_same, if_pos (Or.inr ⟨rfl, rfl⟩)]
  · rw [zI_oth _ _ _ _ _ (by omega)]
    by_cases e2 : a = p ∧ b = q
    · rw [e2.1, e2.2, zI_same, if_pos (Or.inl ⟨rfl, rfl⟩)]
    · rw [zI_oth _ _ _ _ _ (by omega), if_neg (by omega)]
      exact x a b ha hb
/-- the table of the first k borders -/
def dEs (on ot c : Nat → Nat) : Nat → Nat → Nat → Nat
  | 0 => d0
  | k + 1 => dE (dEs on ot c k) (on k) (ot k) (c k)
theorem dEs_le (on ot c : Nat → Nat) : ∀ k a b, dEs on ot c k a b ≤ 100000000
  | 0, a, b => by
    show d0 a b ≤ _
    unfold d0
    split <;> omega
  | k + 1, a, b => by
    have ih := dEs_le on ot c k a b
    show dE _ _ _ _ a b ≤ _
    unfold dE
    split
    · exact Nat.le_trans (Nat.min_le_left _ _) ih
    · exact ih
theorem dEs_aa (on ot c : Nat → Nat) (a : Nat) : ∀ k, (∀ i, i < k → on i ≠ ot i) → dEs on ot c k a a = 0
  | 0, _ => if_pos rfl
  | k + 1, hne => by
    have hk := hne k (by omega)
    show dE _ _ _ _ a a = 0
    unfold dE
    rw [if_neg (by omega)]
    exact dEs_aa on ot c a k (fun i hi => hne i (by omega))
/-- the borders as the model's heap holds them; g: where the guards stand -/
def BR (h : zH) (g nP nB : Nat) (on ot c : Nat → Nat) : Prop := ∀ k, k < nB → zI h 12 0 k = nI (on k) ∧ zI h 13 0 k = nI (ot k) ∧ on k < nP ∧ ot k < nP ∧ on k ≠ ot k ∧ zI h 14 0 k + zI h g 0 k * zI h 1 0 7 = nI (c k) ∧ c k ≤ 100000
theorem lX14_ways_57 (l : Launch) (h0 : zH) (hWM0 : Wm h0) (nP : Nat) (hP0 : zI h0 1 0 4 = nI nP) (hP2 : nP ≤ 10) (nB : Nat) (hB0 : zI h0 1 0 5 = nI nB) (hB2 : nB ≤ 16) (Q : zO → zH → Prop) (g : Nat) (hgs : zshp g = 100) (hgr : g < 900) (hgN : zN h0 g 0 = 16) (hg1 : g ≠ 23) (hg2 : g ≠ 24) (on ot c : Nat → Nat) (hBR : BR h0 g nP nB on ot c) (K : ∀ h, FrW h0 h → TD h nP (dEs on ot c nB) → ∀ y z x, Wp l mX14_ways 2 172 [some (Vq (some (1, 0))), some (Vq (some (g, 0))), y, z, x] [] h Q) : ∀ kk s : Nat, s + kk = nB → ∀ h, FrW h0 h → TD h nP (dEs on ot c s) → ∀ z x, Wp l mX14_ways 2 57 [some (Vq (some (1, 0))), some (Vq (some (g, 0))), some (Vi (nI s)), z, x] [] h Q := by
  intro kk
  induction kk with
  | zero =>
    intro s hs h hF hT y z
    have hg : h.2.2 = h0.2.2 := congrArg Prod.snd hF.1
    have hWM := Wm.same hg hWM0
    have hB : zI h 1 0 5 = nI nB := by rw [hF.2 1 (by decide) (by decide)]; exact hB0
    have hgN2 : zN h g 0 = 16 := by unfold zN; rw [hg]; exact hgN
    refine w_iload_n (zat TX14_ways_0 32 rfl) rfl ?_
    refine w_aload_n (zat TX14_ways_0 33 rfl) rfl ?_
    refine y_getI (v := nI nB) (zat TX14_ways_0 34 rfl) fX14_109 s1 (by decide) (by decide) rfl hB ?_
    refine w_icmp_ge 172 (zat TX14_ways_0 35 rfl) (by decide) (fun Hc62 => ?_) (fun Hc62 => ?_)
    · have e : s = nB := by omega
      subst e
      exact K h hF hT _ _ _
    · exact absurd (nI_le (by omega) (by omega)) Hc62
  | succ kk ih =>
    intro s hs h hF hT y z
    have hg : h.2.2 = h0.2.2 := congrArg Prod.snd hF.1
    have hWM := Wm.same hg hWM0
    have hB : zI h 1 0 5 = nI nB := by rw [hF.2 1 (by decide) (by decide)]; exact hB0
    have hgN2 : zN h g 0 = 16 := by unfold zN; rw [hg]; exact hgN
    obtain ⟨b1, b2, b3, b4, b5, b6, b7⟩ := hBR s (by omega)
    have e12 := hF.2 12 (by decide) (by decide)
    have e13 := hF.2 13 (by decide) (by decide)
    have eg := hF.2 g hg1 hg2
    have hco := qX14_costOf l h hWM s (zI h0 g 0 s) (by omega)
    rw [hF.2 14 (by decide) (by decide), hF.2 1 (by decide) (by decide), b6] at hco
    have r1 : zI h 12 0 s = nI (on s) := by rw [e12]; exact b1
    have r2 : zI h 13 0 s = nI (ot s) := by rw [e13]; exact b2
    have l1 := dEs_le on ot c s (on s) (ot s)
    have l2 := dEs_le on ot c s (ot s) (on s)
    have t1 := hT (on s) (ot s) b3 b4
    have t2 := hT (ot s) (on s) b4 b3
    refine w_iload_n (zat TX14_ways_0 32 rfl) rfl ?_
    refine w_aload_n (zat TX14_ways_0 33 rfl) rfl ?_
    refine y_getI (v := nI nB) (zat TX14_ways_0 34 rfl) fX14_109 s1 (by decide) (by decide) rfl hB ?_
    refine w_icmp_ge 172 (zat TX14_ways_0 35 rfl) (by decide) (fun Hc62 => ?_) (fun Hc62 => ?_)
    · exact absurd Hc62 (nI_ge (by omega) (by omega))
    · refine w_aload_n (zat TX14_ways_0 36 rfl) rfl ?_
      refine w_iload_n (zat TX14_ways_0 37 rfl) rfl ?_
      refine w_aload_n (zat TX14_ways_0 38 rfl) rfl ?_
      refine w_iload_n (zat TX14_ways_0 39 rfl) rfl ?_
      refine y_iaload _ _ (v := zI h0 g 0 s) (zat TX14_ways_0 40 rfl) hgs hgr hgN2 (by decide) rfl (by omega) (by rw [eg]) ?_
      refine x_callv3 (hco) (by decide) kX14_costOf (rdy_V (zat TX14_ways_0 41 rfl) kX14_costOf pX14_costOf zw1370 zw1372 zw55 (zrc (by decide) (by decide) rfl)) (Nat.le_of_ble_eq_true rfl) rfl rfl ?_
      refine x_istore_n (ls2 := [_, _, _, _, _]) (zat TX14_ways_0 42 rfl) (by decide) rfl ?_
      refine w_aload_n (zat TX14_ways_0 43 rfl) rfl ?_
      refine w_getR (zat TX14_ways_0 44 rfl) fX14_66 s1 (by decide) (by decide) rfl (wmr hWM 12 rfl) ?_
      refine w_bipush (v := 10) (zat TX14_ways_0 45 rfl) (by decide) ?_
      refine w_aload_n (zat TX14_ways_0 46 rfl) rfl ?_
      refine w_getR (zat TX14_ways_0 47 rfl) fX14_23 s1 (by decide) (by decide) rfl (wmr hWM 2 rfl) ?_
      refine w_iload_n (zat TX14_ways_0 48 rfl) rfl ?_
      refine y_iaload _ _ (v := nI (on s)) (zat TX14_ways_0 49 rfl) s12 (by decide) (wmn hWM 2 rfl) (by decide) rfl (by omega) r1 ?_
      refine w_imul (zat TX14_ways_0 50 rfl) ?_
      refine w_aload_n (zat TX14_ways_0 51 rfl) rfl ?_
      refine w_getR (zat TX14_ways_0 52 rfl) fX14_26 s1 (by decide) (by decide) rfl (wmr hWM 3 rfl) ?_
      refine w_iload_n (zat TX14_ways_0 53 rfl) rfl ?_
      refine y_iaload _ _ (v := nI (ot s)) (zat TX14_ways_0 54 rfl) s13 (by decide) (wmn hWM 3 rfl) (by decide) rfl (by omega) r2 ?_
      refine w_iadd (zat TX14_ways_0 55 rfl) ?_
      refine w_aload_n (zat TX14_ways_0 56 rfl) rfl ?_
      refine w_getR (zat TX14_ways_0 57 rfl) fX14_66 s1 (by decide) (by decide) rfl (wmr hWM 12 rfl) ?_
      refine w_bipush (v := 10) (zat TX14_ways_0 58 rfl) (by decide) ?_
      refine w_aload_n (zat TX14_ways_0 59 rfl) rfl ?_
      refine w_getR (zat TX14_ways_1 0 rfl) fX14_23 s1 (by decide) (by decide) rfl (wmr hWM 2 rfl) ?_
      refine w_iload_n (zat TX14_ways_1 1 rfl) rfl ?_
      refine y_iaload _ _ (v := nI (on s)) (zat TX14_ways_1 2 rfl) s12 (by decide) (wmn hWM 2 rfl) (by decide) rfl (by omega) r1 ?_
      refine w_imul (zat TX14_ways_1 3 rfl) ?_
      refine w_aload_n (zat TX14_ways_1 4 rfl) rfl ?_
      refine w_getR (zat TX14_ways_1 5 rfl) fX14_26 s1 (by decide) (by decide) rfl (wmr hWM 3 rfl) ?_
      refine w_iload_n (zat TX14_ways_1 6 rfl) rfl ?_
      refine y_iaload _ _ (v := nI (ot s)) (zat TX14_ways_1 7 rfl) s13 (by decide) (wmn hWM 3 rfl) (by decide) rfl (by omega) r2 ?_
      refine w_iadd (zat TX14_ways_1 8 rfl) ?_
      refine y_iaload (10 * on s + ot s) _ (v := nI (dEs on ot c s (on s) (ot s))) (zat TX14_ways_1 9 rfl) s23 (by decide) (wmn hWM 11 rfl) (by decide) (nI_t10 (on s) (ot s)) (by omega) t1 ?_
      refine w_iload_n (zat TX14_ways_1 10 rfl) rfl ?_
      refine x_callv2 (qJ9_min_7cf53 l _ _ _) (by decide) kJ9_min_7cf53 (rdy_S (zat TX14_ways_1 11 rfl) kJ9_min_7cf53 pJ9_min_7cf53 zw1349 zw403) (Nat.le_of_ble_eq_true rfl) rfl rfl ?_
      rw [nI_min (by omega) (by omega)]
      refine x_iastore (10 * on s + ot s) _ (zat TX14_ways_1 12 rfl) s23 (by decide) (wmn hWM 11 rfl) (by decide) (nI_t10 (on s) (ot s)) (by omega) ?_
      refine w_aload_n (zat TX14_ways_1 13 rfl) rfl ?_
      refine w_getR (zat TX14_ways_1 14 rfl) fX14_66 s1 (by decide) (by decide) rfl (wmr hWM 12 rfl) ?_
      refine w_bipush (v := 10) (zat TX14_ways_1 15 rfl) (by decide) ?_
      refine w_aload_n (zat TX14_ways_1 16 rfl) rfl ?_
      refine w_getR (zat TX14_ways_1 17 rfl) fX14_26 s1 (by decide) (by decide) rfl (wmr hWM 3 rfl) ?_
      refine w_iload_n (zat TX14_ways_1 18 rfl) rfl ?_
      refine y_iaload _ _ (v := nI (ot s)) (zat TX14_ways_1 19 rfl) s13 (by decide) (wmn hWM 3 rfl) (by decide) rfl (by omega) r2 ?_
      refine w_imul (zat TX14_ways_1 20 rfl) ?_
      refine w_aload_n (zat TX14_ways_1 21 rfl) rfl ?_
      refine w_getR (zat TX14_ways_1 22 rfl) fX14_23 s1 (by decide) (by decide) rfl (wmr hWM 2 rfl) ?_
      refine w_iload_n (zat TX14_ways_1 23 rfl) rfl ?_
      refine y_iaload _ _ (v := nI (on s)) (zat TX14_ways_1 24 rfl) s12 (by decide) (wmn hWM 2 rfl) (by decide) rfl (by omega) r1 ?_
      refine w_iadd (zat TX14_ways_1 25 rfl) ?_
      refine w_aload_n (zat TX14_ways_1 26 rfl) rfl ?_
      refine w_getR (zat TX14_ways_1 27 rfl) fX14_66 s1 (by decide) (by decide) rfl (wmr hWM 12 rfl) ?_
      refine w_bipush (v := 10) (zat TX14_ways_1 28 rfl) (by decide) ?_
      refine w_aload_n (zat TX14_ways_1 29 rfl) rfl ?_
      refine w_getR (zat TX14_ways_1 30 rfl) fX14_26 s1 (by decide) (by decide) rfl (wmr hWM 3 rfl) ?_
      refine w_iload_n (zat TX14_ways_1 31 rfl) rfl ?_
      refine y_iaload _ _ (v := nI (ot s)) (zat TX14_ways_1 32 rfl) s13 (by decide) (wmn hWM 3 rfl) (by decide) rfl (by omega) r2 ?_
      refine w_imul (zat TX14_ways_1 33 rfl) ?_
      refine w_aload_n (zat TX14_ways_1 34 rfl) rfl ?_
      refine w_getR (zat TX14_ways_1 35 rfl) fX14_23 s1 (by decide) (by decide) rfl (wmr hWM 2 rfl) ?_
      refine w_iload_n (zat TX14_ways_1 36 rfl) rfl ?_
      refine y_iaload _ _ (v := nI (on s)) (zat TX14_ways_1 37 rfl) s12 (by decide) (wmn hWM 2 rfl) (by decide) rfl (by omega) r1 ?_
      refine w_iadd (zat TX14_ways_1 38 rfl) ?_
      refine y_iaload (10 * ot s + on s) _ (v := nI (dEs on ot c s (ot s) (on s))) (zat TX14_ways_1 39 rfl) s23 (by decide) (wmn hWM 11 rfl) (by decide) (nI_t10 (ot s) (on s)) (by omega) (by rw [zI_oth _ _ _ _ _ (by omega)]; exact t2) ?_
      refine w_iload_n (zat TX14_ways_1 40 rfl) rfl ?_
      refine x_callv2 (qJ9_min_7cf53 l _ _ _) (by decide) kJ9_min_7cf53 (rdy_S (zat TX14_ways_1 41 rfl) kJ9_min_7cf53 pJ9_min_7cf53 zw1349 zw403) (Nat.le_of_ble_eq_true rfl) rfl rfl ?_
      rw [nI_min (by omega) (by omega)]
      refine x_iastore (10 * ot s + on s) _ (zat TX14_ways_1 42 rfl) s23 (by decide) (wmn hWM 11 rfl) (by decide) (nI_t10 (ot s) (on s)) (by omega) ?_
      refine x_iinc (v := nI (s + 1)) (ls2 := [_, _, _, _, _]) (zat TX14_ways_1 43 rfl) rfl (nI_inc s) rfl ?_
      refine w_goto 57 (zat TX14_ways_1 44 rfl) (by decide) ?_
      exact ih (s + 1) (by omega) _ ((hF.w1 _ _).w1 _ _) (TD.edge hP2 b3 b4 hT) _ _
