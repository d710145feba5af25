-- ways of the model: the sources, by program (wip/gen/p43.py)
/-- the source of province p among the first q -/
def sr (pr : Nat → Nat) (D : Nat → Nat → Nat) (p : Nat) : Nat → Nat
  | 0 => p
  | q + 1 => if pr q + D q p < pr (sr pr D p q) + D (sr pr D p q) p then q else sr pr D p q
theorem sr_lt (pr : Nat → Nat) (D : Nat → Nat → Nat) {p n : Nat} (hp : p < n) : ∀ q, q ≤ n → sr pr D p q < n
  | 0, _ => hp
  | q + 1, h => by
    have ih := sr_lt pr D hp q (by omega)
    show (if _ then q else sr pr D p q) < n
    split <;> omega
theorem lX14_ways_292 (l : Launch) (h0 : zH) (hWM0 : Wm h0) (nP : Nat) (hP0 : zI h0 1 0 4 = nI nP) (hP2 : nP ≤ 10) (Q : zO → zH → Prop) (g : Nat) (pr : Nat → Nat) (hpr : ∀ p, p < nP → zI h0 21 0 p = nI (pr p) ∧ pr p ≤ 1000) (D : Nat → Nat → Nat) (hD : ∀ a b, D a b ≤ 100000000) (p : Nat) (hp : p < nP) (x : Option zV) (K : ∀ h, FrW h0 h → TD h nP D → (∀ p', p' < p + 1 → zI h 24 0 p' = nI (sr pr D p' nP)) → Wp l mX14_ways 2 362 [some (Vq (some (1, 0))), some (Vq (some (g, 0))), some (Vi (nI p)), some (Vi (nI nP)), x] [] h Q) : ∀ kk s : Nat, s + kk = nP → ∀ h, FrW h0 h → TD h nP D → (∀ p', p' < p → zI h 24 0 p' = nI (sr pr D p' nP)) → zI h 24 0 p = nI (sr pr D p s) → Wp l mX14_ways 2 292 [some (Vq (some (1, 0))), some (Vq (some (g, 0))), some (Vi (nI p)), some (Vi (nI s)), x] [] h Q := by
  intro kk
  induction kk with
  | zero =>
    intro s hs h hF hT hI hS
    have hg : h.2.2 = h0.2.2 := congrArg Prod.snd hF.1
    have hWM := Wm.same hg hWM0
    have hP : zI h 1 0 4 = nI nP := by rw [hF.2 1 (by decide) (by decide)]; exact hP0
    refine w_iload_n (zat TX14_ways_2 56 rfl) rfl ?_
    refine w_aload_n (zat TX14_ways_2 57 rfl) rfl ?_
    refine y_getI (v := nI nP) (zat TX14_ways_2 58 rfl) fX14_106 s1 (by decide) (by decide) rfl hP ?_
    refine w_icmp_ge 362 (zat TX14_ways_2 59 rfl) (by decide) (fun Hc297 => ?_) (fun Hc297 => ?_)
    · have e : s = nP := by omega
      subst e
      exact K h hF hT (fun p' hp' => by
        by_cases e : p' = p
        · rw [e]; exact hS
        · exact hI p' (by omega))
    · exact absurd (nI_le (by omega) (by omega)) Hc297
  | succ kk ih =>
    intro s hs h hF hT hI hS
    have hg : h.2.2 = h0.2.2 := congrArg Prod.snd hF.1
    have hWM := Wm.same hg hWM0
    have hP : zI h 1 0 4 = nI nP := by rw [hF.2 1 (by decide) (by decide)]; exact hP0
    have e21 := hF.2 21 (by decide) (by decide)
    have hlt := sr_lt pr D hp s (by omega)
    generalize hS2 : (sr pr D p s) = r at hS hlt
    have t1 := hT s p (by omega) hp
    have t2 := hT r p hlt hp
    have u1 := hD s p
    have u2 := hD r p
    obtain ⟨p1, p2⟩ := hpr s (by omega)
    obtain ⟨q1, q2⟩ := hpr r hlt
    rw [← e21] at p1 q1
    refine w_iload_n (zat TX14_ways_2 56 rfl) rfl ?_
    refine w_aload_n (zat TX14_ways_2 57 rfl) rfl ?_
    refine y_getI (v := nI nP) (zat TX14_ways_2 58 rfl) fX14_106 s1 (by decide) (by decide) rfl hP ?_
    refine w_icmp_ge 362 (zat TX14_ways_2 59 rfl) (by decide) (fun Hc297 => ?_) (fun Hc297 => ?_)
    · exact absurd Hc297 (nI_ge (by omega) (by omega))
    · refine w_aload_n (zat TX14_ways_3 0 rfl) rfl ?_
      refine w_getR (zat TX14_ways_3 1 rfl) fX14_60 s1 (by decide) (by decide) rfl (wmr hWM 10 rfl) ?_
      refine w_iload_n (zat TX14_ways_3 2 rfl) rfl ?_
      refine y_iaload _ _ (v := nI (pr s)) (zat TX14_ways_3 3 rfl) s21 (by decide) (wmn hWM 9 rfl) (by decide) rfl (by omega) p1 ?_
      refine w_aload_n (zat TX14_ways_3 4 rfl) rfl ?_
      refine w_getR (zat TX14_ways_3 5 rfl) fX14_66 s1 (by decide) (by decide) rfl (wmr hWM 12 rfl) ?_
      refine w_bipush (v := 10) (zat TX14_ways_3 6 rfl) (by decide) ?_
      refine w_iload_n (zat TX14_ways_3 7 rfl) rfl ?_
      refine w_imul (zat TX14_ways_3 8 rfl) ?_
      refine w_iload_n (zat TX14_ways_3 9 rfl) rfl ?_
      refine w_iadd (zat TX14_ways_3 10 rfl) ?_
      refine y_iaload (10 * s + p) _ (v := nI (D s p)) (zat TX14_ways_3 11 rfl) s23 (by decide) (wmn hWM 11 rfl) (by decide) (nI_t10 s p) (by omega) t1 ?_
      refine w_iadd (zat TX14_ways_3 12 rfl) ?_
      refine w_aload_n (zat TX14_ways_3 13 rfl) rfl ?_
      refine w_getR (zat TX14_ways_3 14 rfl) fX14_60 s1 (by decide) (by decide) rfl (wmr hWM 10 rfl) ?_
      refine w_aload_n (zat TX14_ways_3 15 rfl) rfl ?_
      refine w_getR (zat TX14_ways_3 16 rfl) fX14_69 s1 (by decide) (by decide) rfl (wmr hWM 13 rfl) ?_
      refine w_iload_n (zat TX14_ways_3 17 rfl) rfl ?_
      refine y_iaload _ _ (v := nI r) (zat TX14_ways_3 18 rfl) s24 (by decide) (wmn hWM 12 rfl) (by decide) rfl (by omega) hS ?_
      refine y_iaload _ _ (v := nI (pr r)) (zat TX14_ways_3 19 rfl) s21 (by decide) (wmn hWM 9 rfl) (by decide) rfl (by omega) q1 ?_
      refine w_aload_n (zat TX14_ways_3 20 rfl) rfl ?_
      refine w_getR (zat TX14_ways_3 21 rfl) fX14_66 s1 (by decide) (by decide) rfl (wmr hWM 12 rfl) ?_
      refine w_bipush (v := 10) (zat TX14_ways_3 22 rfl) (by decide) ?_
      refine w_aload_n (zat TX14_ways_3 23 rfl) rfl ?_
      refine w_getR (zat TX14_ways_3 24 rfl) fX14_69 s1 (by decide) (by decide) rfl (wmr hWM 13 rfl) ?_
      refine w_iload_n (zat TX14_ways_3 25 rfl) rfl ?_
      refine y_iaload _ _ (v := nI r) (zat TX14_ways_3 26 rfl) s24 (by decide) (wmn hWM 12 rfl) (by decide) rfl (by omega) hS ?_
      refine w_imul (zat TX14_ways_3 27 rfl) ?_
      refine w_iload_n (zat TX14_ways_3 28 rfl) rfl ?_
      refine w_iadd (zat TX14_ways_3 29 rfl) ?_
      refine y_iaload (10 * r + p) _ (v := nI (D r p)) (zat TX14_ways_3 30 rfl) s23 (by decide) (wmn hWM 11 rfl) (by decide) (nI_t10 r p) (by omega) t2 ?_
      refine w_iadd (zat TX14_ways_3 31 rfl) ?_
      rw [nI_add, nI_add]
      refine w_icmp_ge 356 (zat TX14_ways_3 32 rfl) (by decide) (fun Hc346 => ?_) (fun Hc346 => ?_)
      · rw [nI_leI (by omega) (by omega)] at Hc346
        have Hm : sr pr D p (s + 1) = r := by
          show (if _ then s else (sr pr D p s)) = r
          rw [hS2, if_neg (by omega)]
        refine x_iinc (v := nI (s + 1)) (ls2 := [_, _, _, _, _]) (zat TX14_ways_3 38 rfl) rfl (nI_inc s) rfl ?_
        refine w_goto 292 (zat TX14_ways_3 39 rfl) (by decide) ?_
        first
          | exact ih (s + 1) (by omega) h hF hT hI (by rw [Hm]; exact hS)
          | exact ih (s + 1) (by omega) _ (hF.w2 _ _) (fun a b ha hb => hT a b ha hb) (fun p' hp' => by rw [zI_oth _ _ _ _ _ (by omega)]; exact hI p' hp') (by rw [Hm]; exact zI_same _ 24 0 p _)
      · rw [nI_leI (by omega) (by omega)] at Hc346
        have Hm : sr pr D p (s + 1) = s := by
          show (if _ then s else (sr pr D p s)) = s
          rw [hS2, if_pos (by omega)]
        refine w_aload_n (zat TX14_ways_3 33 rfl) rfl ?_
        refine w_getR (zat TX14_ways_3 34 rfl) fX14_69 s1 (by decide) (by decide) rfl (wmr hWM 13 rfl) ?_
        refine w_iload_n (zat TX14_ways_3 35 rfl) rfl ?_
        refine w_iload_n (zat TX14_ways_3 36 rfl) rfl ?_
        refine x_iastore _ _ (zat TX14_ways_3 37 rfl) s24 (by decide) (wmn hWM 12 rfl) (by decide) rfl (by omega) ?_
        refine x_iinc (v := nI (s + 1)) (ls2 := [_, _, _, _, _]) (zat TX14_ways_3 38 rfl) rfl (nI_inc s) rfl ?_
        refine w_goto 292 (zat TX14_ways_3 39 rfl) (by decide) ?_
        first
          | exact ih (s + 1) (by omega) h hF hT hI (by rw [Hm]; exact hS)
          | exact ih (s + 1) (by omega) _ (hF.w2 _ _) (fun a b ha hb => hT a b ha hb) (fun p' hp' => by rw [zI_oth _ _ _ _ _ (by omega)]; exact hI p' hp') (by rw [Hm]; exact zI_same _ 24 0 p _)
theorem lX14_ways_275 (l : Launch) (h0 : zH) (hWM0 : Wm h0) (nP : Nat) (hP0 : zI h0 1 0 4 = nI nP) (hP2 : nP ≤ 10) (Q : zO → zH → Prop) (g : Nat) (pr : Nat → Nat) (hpr : ∀ p, p < nP → zI h0 21 0 p = nI (pr p) ∧ pr p ≤ 1000) (D : Nat → Nat → Nat) (hD : ∀ a b, D a b ≤ 100000000) (x : Option zV) (K : ∀ h, FrW h0 h → TD h nP D → (∀ p, p < nP → zI h 24 0 p = nI (sr pr D p nP)) → Q R0 h) : ∀ kk s : Nat, s + kk = nP → ∀ h, FrW h0 h → TD h nP D → (∀ p', p' < s → zI h 24 0 p' = nI (sr pr D p' nP)) → ∀ y, Wp l mX14_ways 2 275 [some (Vq (some (1, 0))), some (Vq (some (g, 0))), some (Vi (nI s)), y, x] [] h Q := by
  intro kk
  induction kk with
  | zero =>
    intro s hs h hF hT hI y
    have hg : h.2.2 = h0.2.2 := congrArg Prod.snd hF.1
    have hWM := Wm.same hg hWM0
    have hP : zI h 1 0 4 = nI nP := by rw [hF.2 1 (by decide) (by decide)]; exact hP0
    refine w_iload_n (zat TX14_ways_2 45 rfl) rfl ?_
    refine w_aload_n (zat TX14_ways_2 46 rfl) rfl ?_
    refine y_getI (v := nI nP) (zat TX14_ways_2 47 rfl) fX14_106 s1 (by decide) (by decide) rfl hP ?_
    refine w_icmp_ge 368 (zat TX14_ways_2 48 rfl) (by decide) (fun Hc280 => ?_) (fun Hc280 => ?_)
    · refine w_return (zat TX14_ways_3 42 rfl) rfl ?_
      exact K h hF hT (fun p hp => hI p (by omega))
    · exact absurd (nI_le (by omega) (by omega)) Hc280
  | succ kk ih =>
    intro s hs h hF hT hI y
    have hg : h.2.2 = h0.2.2 := congrArg Prod.snd hF.1
    have hWM := Wm.same hg hWM0
    have hP : zI h 1 0 4 = nI nP := by rw [hF.2 1 (by decide) (by decide)]; exact hP0
    refine w_iload_n (zat TX14_ways_2 45 rfl) rfl ?_
    refine w_aload_n (zat TX14_ways_2 46 rfl) rfl ?_
    refine y_getI (v := nI nP) (zat TX14_ways_2 47 rfl) fX14_106 s1 (by decide) (by decide) rfl hP ?_
    refine w_icmp_ge 368 (zat TX14_ways_2 48 rfl) (by decide) (fun Hc280 => ?_) (fun Hc280 => ?_)
    · exact absurd Hc280 (nI_ge (by omega) (by omega))
    · refine w_aload_n (zat TX14_ways_2 49 rfl) rfl ?_
      refine w_getR (zat TX14_ways_2 50 rfl) fX14_69 s1 (by decide) (by decide) rfl (wmr hWM 13 rfl) ?_
      refine w_iload_n (zat TX14_ways_2 51 rfl) rfl ?_
      refine w_iload_n (zat TX14_ways_2 52 rfl) rfl ?_
      refine x_iastore _ _ (zat TX14_ways_2 53 rfl) s24 (by decide) (wmn hWM 12 rfl) (by decide) rfl (by omega) ?_
      refine w_iconst (v := 0) (zat TX14_ways_2 54 rfl) (by decide) ?_
      refine x_istore_n (ls2 := [_, _, _, _, _]) (zat TX14_ways_2 55 rfl) (by decide) rfl ?_
      refine lX14_ways_292 l h0 hWM0 nP hP0 hP2 Q g pr hpr D hD s (by omega) x (fun h hF hT hI => ?_) nP 0 (by omega) _ (hF.w2 _ _) (fun a b ha hb => hT a b ha hb) (fun p' hp' => by rw [zI_oth _ _ _ _ _ (by omega)]; exact hI p' hp') (zI_same _ 24 0 s _)
      refine x_iinc (v := nI (s + 1)) (ls2 := [_, _, _, _, _]) (zat TX14_ways_3 40 rfl) rfl (nI_inc s) rfl ?_
      refine w_goto 275 (zat TX14_ways_3 41 rfl) (by decide) ?_
      exact ih (s + 1) (by omega) h hF hT hI _
/-- the least tolls between provinces, as the model reckons them -/
def dW (on ot c : Nat → Nat) (nB nP : Nat) : Nat → Nat → Nat := dF (dEs on ot c nB) nP
theorem qX14_ways (l : Launch) (h0 : zH) (hWM0 : Wm h0) (nP : Nat) (hP0 : zI h0 1 0 4 = nI nP) (hP2 : nP ≤ 10) (nB : Nat) (hB0 : zI h0 1 0 5 = nI nB) (hB2 : nB ≤ 16) (g : Nat) (hgs : zshp g = 100) (hgr : g < 900) (hgN : zN h0 g 0 = 16) (hg1 : g ≠ 23) (hg2 : g ≠ 24) (on ot c : Nat → Nat) (hBR : BR h0 g nP nB on ot c) (pr : Nat → Nat) (hpr : ∀ p, p < nP → zI h0 21 0 p = nI (pr p) ∧ pr p ≤ 1000) : Ct l 2 mX14_ways [Vq (some (1, 0)), Vq (some (g, 0))] h0 (fun o h' => o = R0 ∧ FrW h0 h' ∧ TD h' nP (dW on ot c nB nP) ∧ ∀ p, p < nP → zI h' 24 0 p = nI (sr pr (dW on ot c nB nP) p nP)) := by
  refine Ct.in 3 kX14_ways (plainFor_of_name rfl) (Nat.le_of_ble_eq_true rfl) ?_
  refine w_iconst (v := 0) (zat TX14_ways_0 0 rfl) (by decide) ?_
  refine x_istore_n (ls2 := [_, _, _, _, _]) (zat TX14_ways_0 1 rfl) (by decide) rfl ?_
  refine lX14_ways_2 l h0 hWM0 nP hP0 hP2 _ g _ (fun h hF hT y z => ?_) nP 0 (by omega) h0 (FrW.rf h0) (fun a b ha hb hu => by unfold upTo at hu; omega) _
  refine w_iconst (v := 0) (zat TX14_ways_0 30 rfl) (by decide) ?_
  refine x_istore_n (ls2 := [_, _, _, _, _]) (zat TX14_ways_0 31 rfl) (by decide) rfl ?_
  refine lX14_ways_57 l h0 hWM0 nP hP0 hP2 nB hB0 hB2 _ g hgs hgr hgN hg1 hg2 on ot c hBR (fun h hF hT y z x => ?_) nB 0 (by omega) h hF hT _ _
  refine w_iconst (v := 0) (zat TX14_ways_1 45 rfl) (by decide) ?_
  refine x_istore_n (ls2 := [_, _, _, _, _]) (zat TX14_ways_1 46 rfl) (by decide) rfl ?_
  refine lX14_ways_174 l h0 hWM0 nP hP0 hP2 _ g (dEs on ot c nB) (dEs_le on ot c nB) (fun a => dEs_aa on ot c a nB (fun i hi => (hBR i hi).2.2.2.2.1)) (fun h hF hT z y x => ?_) nP 0 (by omega) h hF hT _ _
  refine w_iconst (v := 0) (zat TX14_ways_2 43 rfl) (by decide) ?_
  refine x_istore_n (ls2 := [_, _, _, _, _]) (zat TX14_ways_2 44 rfl) (by decide) rfl ?_
  exact lX14_ways_275 l h0 hWM0 nP hP0 hP2 _ g pr hpr _ (dF_le (dEs_le on ot c nB) nP) x (fun h hF hT hS => ⟨rfl, hF, hT, hS⟩) nP 0 (by omega) h hF hT (fun p' hp' => by omega) _
