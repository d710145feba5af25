-- tries, best of the model, by program (wip/gen/p71.py)
def FrJ (h h' : zH) : Prop := h'.2.2 = h.2.2 ∧ (∀ k, k ≠ 23 → k ≠ 24 → k ≠ 26 → k ≠ 27 → zI h' k = zI h k) ∧ ∀ k i j, ¬ (k = 1 ∧ i = 0 ∧ j = 38) → zL h' k i j = zL h k i j
theorem FrJ.rf (h : zH) : FrJ h h := ⟨rfl, fun _ _ _ _ _ => rfl, fun _ _ _ _ => rfl⟩
theorem FrJ.tr {a b c : zH} (x : FrJ a b) (y : FrJ b c) : FrJ a c := ⟨y.1.trans x.1, fun k h1 h2 h3 h4 => (y.2.1 k h1 h2 h3 h4).trans (x.2.1 k h1 h2 h3 h4), fun k i j h => (y.2.2 k i j h).trans (x.2.2 k i j h)⟩
theorem FrW.J {a b : zH} (x : FrW a b) : FrJ a b := ⟨congrArg Prod.snd x.1, fun k h1 h2 _ _ => x.2 k h1 h2, fun k i j _ => by unfold zL; rw [x.1]⟩
theorem FrJ.w26 {a b : zH} (x : FrJ a b) (n : Nat) (v : Int32) : FrJ a (zsI b 26 0 n v) := ⟨x.1, fun k h1 h2 h3 h4 => by
  rw [← x.2.1 k h1 h2 h3 h4]
  exact funext (fun i => funext (fun j => (if_neg (fun z => h3 z.1)))), x.2.2⟩
theorem FrJ.w27 {a b : zH} (x : FrJ a b) (n : Nat) (v : Int32) : FrJ a (zsI b 27 0 n v) := ⟨x.1, fun k h1 h2 h3 h4 => by
  rw [← x.2.1 k h1 h2 h3 h4]
  exact funext (fun i => funext (fun j => (if_neg (fun z => h4 z.1)))), x.2.2⟩
theorem FrJ.wL {a b : zH} (x : FrJ a b) (v : Int64) : FrJ a (zsL b 1 0 38 v) := ⟨x.1, x.2.1, fun k i j h => by
  rw [← x.2.2 k i j h]
  exact if_neg h⟩
/-- what holds between two tries of the model -/
def TrI (h0 h : zH) (m : Nat → Nat) (b : Nat) (S : Int64 × (Nat → Int32)) : Prop := FrJ h0 h ∧ (∀ k, k < b → zI h 26 0 k = nI (m k)) ∧ zL h 1 0 38 = S.1 ∧ ∀ k, k < 16 → zI h 27 0 k = S.2 k
theorem lX14_tries_51 (l : Launch) (d : Nat) (hA : zH) (hWA : Wm hA) (nB : Nat) (hBA : zI hA 1 0 5 = nI nB) (hB2 : nB ≤ 16) (x1 x2 : Int32) (x3 : Int64) : ∀ kk s : Nat, s + kk = nB → ∀ h, (FrG 27 hA h ∧ ∀ k, zI h 27 0 k = if k < s then zI hA 26 0 k else zI hA 27 0 k) → Wp l mX14_tries d 51 [some (Vq (some (1, 0))), some (Vi x1), some (Vi x2), some (Vj x3), none, some (Vi (nI s))] [] h (fun o h' => o = R0 ∧ (FrG 27 hA h' ∧ ∀ k, zI h' 27 0 k = if k < nB then zI hA 26 0 k else zI hA 27 0 k)) := by
  intro kk
  induction kk with
  | zero =>
    intro s hs h hi
    have hWM := Wm.same (congrArg Prod.snd hi.1.1) hWA
    have hB : zI h 1 0 5 = nI nB := by rw [hi.1.2 1 (by decide)]; exact hBA
    refine w_iload (zat TX14_tries_0 28 rfl) rfl ?_
    refine w_aload_n (zat TX14_tries_0 29 rfl) rfl ?_
    refine y_getI (v := nI nB) (zat TX14_tries_0 30 rfl) fX14_109 s1 (by decide) (by decide) rfl hB ?_
    refine w_icmp_ge 80 (zat TX14_tries_0 31 rfl) (by decide) (fun Hc57 => ?_) (fun Hc57 => ?_)
    · refine w_return (zat TX14_tries_0 42 rfl) rfl ?_
      have e : s = nB := by omega
      subst e
      exact ⟨rfl, hi⟩
    · exact absurd (nI_le (by omega) (by omega)) Hc57
  | succ kk ih =>
    intro s hs h hi
    have hWM := Wm.same (congrArg Prod.snd hi.1.1) hWA
    have hB : zI h 1 0 5 = nI nB := by rw [hi.1.2 1 (by decide)]; exact hBA
    refine w_iload (zat TX14_tries_0 28 rfl) rfl ?_
    refine w_aload_n (zat TX14_tries_0 29 rfl) rfl ?_
    refine y_getI (v := nI nB) (zat TX14_tries_0 30 rfl) fX14_109 s1 (by decide) (by decide) rfl hB ?_
    refine w_icmp_ge 80 (zat TX14_tries_0 31 rfl) (by decide) (fun Hc57 => ?_) (fun Hc57 => ?_)
    · exact absurd Hc57 (nI_ge (by omega) (by omega))
    · refine w_aload_n (zat TX14_tries_0 32 rfl) rfl ?_
      refine w_getR (zat TX14_tries_0 33 rfl) fX14_78 s1 (by decide) (by decide) rfl (wmr hWM 16 rfl) ?_
      refine w_iload (zat TX14_tries_0 34 rfl) rfl ?_
      refine w_aload_n (zat TX14_tries_0 35 rfl) rfl ?_
      refine w_getR (zat TX14_tries_0 36 rfl) fX14_75 s1 (by decide) (by decide) rfl (wmr hWM 15 rfl) ?_
      refine w_iload (zat TX14_tries_0 37 rfl) rfl ?_
      refine y_iaload _ _ (v := zI hA 26 0 s) (zat TX14_tries_0 38 rfl) s26 (by decide) (wmn hWM 14 rfl) (by decide) rfl (by omega) (by rw [hi.1.2 26 (by decide)]) ?_
      refine x_iastore _ _ (zat TX14_tries_0 39 rfl) s27 (by decide) (wmn hWM 15 rfl) (by decide) rfl (by omega) ?_
      refine x_iinc (v := nI (s + 1)) (ls2 := [_, _, _, _, _, _]) (zat TX14_tries_0 40 rfl) rfl (nI_inc s) rfl ?_
      refine w_goto 51 (zat TX14_tries_0 41 rfl) (by decide) ?_
      refine ih (s + 1) (by omega) _ ⟨hi.1.w s _, fun k => ?_⟩
      by_cases e : k = s
      · subst e
        rw [zI_same, if_pos (by omega)]
      · rw [zI_oth _ _ _ _ _ e, hi.2 k]
        by_cases e2 : k < s
        · rw [if_pos e2, if_pos (by omega)]
        · rw [if_neg e2, if_neg (by omega)]
theorem lX14_tries_20 (l : Launch) (h0 : zH) (hWM0 : Wm h0) (nP nB : Nat) (hP0 : zI h0 1 0 4 = nI nP) (hP2 : nP ≤ 10) (hB0 : zI h0 1 0 5 = nI nB) (hB2 : nB ≤ 16) (on ot rs : Nat → Nat) (hbr : ∀ k, k < nB → zI h0 12 0 k = nI (on k) ∧ zI h0 13 0 k = nI (ot k) ∧ zI h0 14 0 k = nI (rs k)) (hL : LB nP nB on ot rs) (hrs : ∀ k, k < nB → rs k ≤ 500) (wt : Nat) (hwt : wt ≤ 200) (hw0 : zI h0 1 0 7 = nI wt) (pr : Nat → Nat) (hpr : ∀ p, p < nP → zI h0 21 0 p = nI (pr p) ∧ pr p ≤ 1000) (d : Nat) (hd : 4 ≤ d) (x1 x2 : Int32) (m : Nat → Nat) (hm : ∀ k, m k ≤ 3) (S : Int64 × (Nat → Int32)) (h : zH) (hI : TrI h0 h m nB S) : Wp l mX14_tries d 20 [some (Vq (some (1, 0))), some (Vi x1), some (Vi x2), none, none, none] [] h (fun o h' => o = R0 ∧ TrI h0 h' m nB ((bst (vaL (mDu h0) (mRest h0) (mPe h0) on ot rs pr wt nB nP) nB) m S)) := by
  obtain ⟨i1, i2, i3, i4⟩ := hI
  have hWM := Wm.same i1.1 hWM0
  have hP : zI h 1 0 4 = nI nP := by rw [i1.2.1 1 (by decide) (by decide) (by decide) (by decide)]; exact hP0
  have hB : zI h 1 0 5 = nI nB := by rw [i1.2.1 1 (by decide) (by decide) (by decide) (by decide)]; exact hB0
  have hp1 : ∀ p, p < nP → zI h 21 0 p = nI (pr p) ∧ pr p ≤ 1000 := by rw [i1.2.1 21 (by decide) (by decide) (by decide) (by decide)]; exact hpr
  have hLM : LB nP nB on ot (cM rs wt m) := hL.cM hrs hwt hm
  have hBR : BR h 26 nP nB on ot (cM rs wt m) := fun k hk => by
    obtain ⟨l1, l2, l3, l4, l5⟩ := hLM k hk
    obtain ⟨b1, b2, b3⟩ := hbr k hk
    rw [i1.2.1 12 (by decide) (by decide) (by decide) (by decide), i1.2.1 13 (by decide) (by decide) (by decide) (by decide), i1.2.1 14 (by decide) (by decide) (by decide) (by decide), i1.2.1 1 (by decide) (by decide) (by decide) (by decide), hw0, i2 k hk, b3, nI_mul2, nI_add]
    exact ⟨b1, b2, l1, l2, l3, rfl, by omega⟩
  refine w_aload_n (zat TX14_tries_0 10 rfl) rfl ?_
  refine w_aload_n (zat TX14_tries_0 11 rfl) rfl ?_
  refine w_getR (zat TX14_tries_0 12 rfl) fX14_75 s1 (by decide) (by decide) rfl (wmr hWM 15 rfl) ?_
  refine x_call2 (qX14_ways l h hWM nP hP hP2 nB hB hB2 26 s26 (by decide) (wmn hWM 14 rfl) (by decide) (by decide) on ot (cM rs wt m) hBR pr hp1) (by omega) kX14_ways (rdy_V (zat TX14_tries_0 13 rfl) kX14_ways pX14_ways zw1365 zw1367 zw54 (zrc (by decide) (by decide) rfl)) (Nat.le_of_ble_eq_true rfl) rfl rfl (fun v h2 hq => ?_) (fun r h2 hq => by cases hq.1)
  obtain ⟨hq1, hF2, hT2, hS2⟩ := hq
  cases hq1
  have hWM2 := Wm.same (congrArg Prod.snd hF2.1) hWM
  have hJ2 : FrJ h0 h2 := i1.tr hF2.J
  have hP3 : zI h2 1 0 4 = nI nP := by rw [hF2.2 1 (by decide) (by decide)]; exact hP
  have hB3 : zI h2 1 0 5 = nI nB := by rw [hF2.2 1 (by decide) (by decide)]; exact hB
  have hs3 : ∀ q, q < nP → sr pr (dW on ot (cM rs wt m) nB nP) q nP < nP := fun q hq => sr_lt _ _ hq nP (Nat.le_refl _)
  have hb38 : zL h2 1 0 38 = S.1 := by
    rw [← i3]
    unfold zL
    rw [hF2.1]
  have hv : mCr h2 nP nP = (vaL (mDu h0) (mRest h0) (mPe h0) on ot rs pr wt nB nP) m := by
    rw [mCr_eq (so := fun q => sr pr (dW on ot (cM rs wt m) nB nP) q nP) (by omega) (fun q hq => ⟨hS2 q hq, by have := hs3 q hq; omega⟩) nP (Nat.le_refl _), sM_sC _ _ _ _ nP hs3]
    unfold vaL
    refine sC_congr (N := nP) (fun q hq => ⟨?_, ?_, ?_, rfl, hs3 q hq⟩) nP (Nat.le_refl _)
    · unfold mDu; rw [hJ2.2.1 10 (by decide) (by decide) (by decide) (by decide), hJ2.2.1 22 (by decide) (by decide) (by decide) (by decide)]
    · unfold mRest; rw [hJ2.2.1 10 (by decide) (by decide) (by decide) (by decide), hJ2.2.1 11 (by decide) (by decide) (by decide) (by decide), hJ2.2.1 22 (by decide) (by decide) (by decide) (by decide)]
    · unfold mPe; rw [hJ2.2.1 21 (by decide) (by decide) (by decide) (by decide)]
  refine w_aload_n (zat TX14_tries_0 14 rfl) rfl ?_
  refine x_callv1 (qX14_crownOf l h2 hWM2 nP hP3 hP2) (by omega) kX14_crownOf (rdy_V (zat TX14_tries_0 15 rfl) kX14_crownOf pX14_crownOf zw1399 zw1401 zw58 (zrc (by decide) (by decide) rfl)) (Nat.le_of_ble_eq_true rfl) rfl rfl ?_
  rw [hv]
  refine x_lstore_n (ls2 := [_, _, _, _, _, _]) (zat TX14_tries_0 16 rfl) (by decide) rfl ?_
  refine w_lload_n (zat TX14_tries_0 17 rfl) rfl ?_
  refine w_aload_n (zat TX14_tries_0 18 rfl) rfl ?_
  refine y_getL (v := S.1) (zat TX14_tries_0 19 rfl) fX14_358 s1 (by decide) (by decide) rfl hb38 ?_
  refine w_lcmp (zat TX14_tries_0 20 rfl) ?_
  refine w_if_gt 43 (zat TX14_tries_0 21 rfl) (by decide) (fun Hc39 => ?_) (fun Hc39 => ?_)
  · rw [lc_gt] at Hc39
    refine w_aload_n (zat TX14_tries_0 23 rfl) rfl ?_
    refine w_lload_n (zat TX14_tries_0 24 rfl) rfl ?_
    refine w_putL (zat TX14_tries_0 25 rfl) gX14_tries_358 s1 (by decide) (by decide) rfl ⟨rfl, rfl⟩ ?_
    refine w_iconst (v := 0) (zat TX14_tries_0 26 rfl) (by decide) ?_
    refine x_istore (ls2 := [_, _, _, _, _, _]) (zat TX14_tries_0 27 rfl) (by decide) rfl ?_
    have Hb : (bst (vaL (mDu h0) (mRest h0) (mPe h0) on ot rs pr wt nB nP) nB) m S = ((vaL (mDu h0) (mRest h0) (mPe h0) on ot rs pr wt nB nP) m, fun k => if k < nB then nI (m k) else S.2 k) := if_pos Hc39
    rw [Hb]
    refine (lX14_tries_51 l d (zsL h2 1 0 38 ((vaL (mDu h0) (mRest h0) (mPe h0) on ot rs pr wt nB nP) m)) hWM2 nB hB3 hB2 _ _ _ nB 0 (by omega) _ ⟨FrG.rf 27 _, fun k => by rw [if_neg (by omega)]⟩).imp (fun o h' hq => ?_)
    obtain ⟨q1, q2, q3⟩ := hq
    refine ⟨q1, ?_, fun k hk => ?_, ?_, fun k hk => ?_⟩
    · refine ⟨(congrArg Prod.snd q2.1).trans hJ2.1, fun k h1 h3 h4 h5 => (q2.2 k h5).trans (hJ2.2.1 k h1 h3 h4 h5), fun k i j hn => ?_⟩
      rw [show zL h' = zL (zsL h2 1 0 38 ((vaL (mDu h0) (mRest h0) (mPe h0) on ot rs pr wt nB nP) m)) by unfold zL; rw [q2.1]]
      exact (if_neg hn).trans (hJ2.2.2 k i j hn)
    · rw [q2.2 26 (by decide)]
      exact (congrFun (congrFun (hF2.2 26 (by decide) (by decide)) 0) k).trans (i2 k hk)
    · rw [show zL h' = zL (zsL h2 1 0 38 ((vaL (mDu h0) (mRest h0) (mPe h0) on ot rs pr wt nB nP) m)) by unfold zL; rw [q2.1]]
      exact zL_same _ _ _ _ _
    · rw [q3 k]
      show _ = if k < nB then nI (m k) else S.2 k
      by_cases e : k < nB
      · rw [if_pos e, if_pos e]
        exact (congrFun (congrFun (hF2.2 26 (by decide) (by decide)) 0) k).trans (i2 k e)
      · rw [if_neg e, if_neg e]
        exact (congrFun (congrFun (hF2.2 27 (by decide) (by decide)) 0) k).trans (i4 k hk)
  · rw [lc_gt] at Hc39
    refine w_return (zat TX14_tries_0 22 rfl) rfl ?_
    have Hb : (bst (vaL (mDu h0) (mRest h0) (mPe h0) on ot rs pr wt nB nP) nB) m S = S := if_neg Hc39
    rw [Hb]
    refine ⟨rfl, hJ2, fun k hk => ?_, hb38, fun k hk => ?_⟩
    · rw [hF2.2 26 (by decide) (by decide)]; exact i2 k hk
    · rw [hF2.2 27 (by decide) (by decide)]; exact i4 k hk
theorem nI_sub {a b : Nat} (h : a ≤ b) : nI b - nI a = nI (b - a) := by
  obtain ⟨c, rfl⟩ : ∃ c, b = a + c := ⟨b - a, by omega⟩
  rw [← nI_add, Nat.add_sub_cancel_left, Int32.add_comm, Int32.add_sub_cancel]
theorem lX14_tries_83 (l : Launch) (h0 : zH) (hWM0 : Wm h0) (nP nB : Nat) (hP0 : zI h0 1 0 4 = nI nP) (hP2 : nP ≤ 10) (hB0 : zI h0 1 0 5 = nI nB) (hB2 : nB ≤ 16) (on ot rs : Nat → Nat) (hbr : ∀ k, k < nB → zI h0 12 0 k = nI (on k) ∧ zI h0 13 0 k = nI (ot k) ∧ zI h0 14 0 k = nI (rs k)) (hL : LB nP nB on ot rs) (hrs : ∀ k, k < nB → rs k ≤ 500) (wt : Nat) (hwt : wt ≤ 200) (hw0 : zI h0 1 0 7 = nI wt) (pr : Nat → Nat) (hpr : ∀ p, p < nP → zI h0 21 0 p = nI (pr p) ∧ pr p ≤ 1000) (f b left : Nat) (m : Nat → Nat) (hf : b + (f + 1) = nB) (hml : ∀ k, m k + left ≤ 3) (hm0 : ∀ k, b ≤ k → m k = 0) (ih0 : ∀ (b left : Nat) (m : Nat → Nat) (S : Int64 × (Nat → Int32)) (h : zH), b + f = nB → (∀ k, m k + left ≤ 3) → (∀ k, b ≤ k → m k = 0) → TrI h0 h m b S → Ct l (f + 4) mX14_tries [Vq (some (1, 0)), Vi (nI b), Vi (nI left)] h (fun o h' => o = R0 ∧ TrI h0 h' m b (Xf (bst (vaL (mDu h0) (mRest h0) (mPe h0) on ot rs pr wt nB nP) nB) nB left f m S))) : ∀ n : Nat, n ≤ left + 1 → ∀ (S : Int64 × (Nat → Int32)) (h : zH), TrI h0 h m b S → Wp l mX14_tries (f + 1 + 4) 83 [some (Vq (some (1, 0))), some (Vi (nI b)), some (Vi (nI left)), some (Vi (nI n - 1)), none, none] [] h (fun o h' => o = R0 ∧ TrI h0 h' m b (Lp (bst (vaL (mDu h0) (mRest h0) (mPe h0) on ot rs pr wt nB nP) nB) nB left f m b n S)) := by
  intro n
  have hleft := hml 0
  have hmb := hm0 b (Nat.le_refl b)
  induction n with
  | zero =>
    intro hn S h hI
    obtain ⟨i1, i2, i3, i4⟩ := id hI
    have hWM := Wm.same i1.1 hWM0
    refine w_iload_n (zat TX14_tries_0 45 rfl) rfl ?_
    refine w_if_lt 110 (zat TX14_tries_0 46 rfl) (by decide) (fun Hc84 => ?_) (fun Hc84 => ?_)
    · refine w_return (zat TX14_tries_1 2 rfl) rfl ?_
      exact ⟨rfl, hI⟩
    · exact absurd (by decide) Hc84
  | succ n ih =>
    intro hn S h hI
    obtain ⟨i1, i2, i3, i4⟩ := hI
    have hWM := Wm.same i1.1 hWM0
    rw [nI_pred n]
    have hI2 : TrI h0 (zsI h 26 0 b (nI n)) (add1 m b n) (b + 1) S := by
      refine ⟨i1.w26 b _, fun k hk => ?_, i3, fun k hk => i4 k hk⟩
      unfold add1
      by_cases e : k = b
      · subst e
        rw [zI_same, if_pos rfl, hmb, Nat.zero_add]
      · rw [zI_oth _ _ _ _ _ e, if_neg e]
        exact i2 k (by omega)
    have hc := ih0 (b + 1) (left - n) (add1 m b n) S (zsI h 26 0 b (nI n)) (by omega) (fun k => by
      have := hml k
      unfold add1
      split
      · rename_i e
        subst e
        rw [hmb]
        omega
      · omega) (fun k hk => by
      unfold add1
      rw [if_neg (by omega)]
      exact hm0 k (by omega)) hI2
    refine w_iload_n (zat TX14_tries_0 45 rfl) rfl ?_
    refine w_if_lt 110 (zat TX14_tries_0 46 rfl) (by decide) (fun Hc84 => ?_) (fun Hc84 => ?_)
    · exact absurd (nI_pos' (by omega)) (Int32.not_le.mpr Hc84)
    · refine w_aload_n (zat TX14_tries_0 47 rfl) rfl ?_
      refine w_getR (zat TX14_tries_0 48 rfl) fX14_75 s1 (by decide) (by decide) rfl (wmr hWM 15 rfl) ?_
      refine w_iload_n (zat TX14_tries_0 49 rfl) rfl ?_
      refine w_iload_n (zat TX14_tries_0 50 rfl) rfl ?_
      refine x_iastore b _ (zat TX14_tries_0 51 rfl) s26 (by decide) (wmn hWM 14 rfl) (by decide) rfl (by omega) ?_
      refine w_aload_n (zat TX14_tries_0 52 rfl) rfl ?_
      refine w_iload_n (zat TX14_tries_0 53 rfl) rfl ?_
      refine w_iconst (v := 1) (zat TX14_tries_0 54 rfl) (by decide) ?_
      refine w_iadd (zat TX14_tries_0 55 rfl) ?_
      refine w_iload_n (zat TX14_tries_0 56 rfl) rfl ?_
      refine w_iload_n (zat TX14_tries_0 57 rfl) rfl ?_
      refine w_isub (zat TX14_tries_0 58 rfl) ?_
      rw [nI_1, nI_sub (show n ≤ left by omega)]
      refine x_call3 (hc) (by omega) kX14_tries (rdy_V (zat TX14_tries_0 59 rfl) kX14_tries pX14_tries zw1427 zw1429 zw60 (zrc (by decide) (by decide) rfl)) (Nat.le_of_ble_eq_true rfl) rfl rfl (fun v h2 hq => ?_) (fun r h2 hq => by cases hq.1)
      obtain ⟨hq1, j1, j2, j3, j4⟩ := hq
      cases hq1
      refine x_iinc (v := nI n - 1) (ls2 := [_, _, _, _, _, _]) (zat TX14_tries_1 0 rfl) rfl (nI_dec n) rfl ?_
      refine w_goto 83 (zat TX14_tries_1 1 rfl) (by decide) ?_
      refine ih (by omega) _ h2 ⟨j1, fun k hk => ?_, j3, j4⟩
      have z := j2 k (by omega)
      unfold add1 at z
      rw [if_neg (by omega)] at z
      exact z
theorem qX14_tries (l : Launch) (h0 : zH) (hWM0 : Wm h0) (nP nB : Nat) (hP0 : zI h0 1 0 4 = nI nP) (hP2 : nP ≤ 10) (hB0 : zI h0 1 0 5 = nI nB) (hB2 : nB ≤ 16) (on ot rs : Nat → Nat) (hbr : ∀ k, k < nB → zI h0 12 0 k = nI (on k) ∧ zI h0 13 0 k = nI (ot k) ∧ zI h0 14 0 k = nI (rs k)) (hL : LB nP nB on ot rs) (hrs : ∀ k, k < nB → rs k ≤ 500) (wt : Nat) (hwt : wt ≤ 200) (hw0 : zI h0 1 0 7 = nI wt) (pr : Nat → Nat) (hpr : ∀ p, p < nP → zI h0 21 0 p = nI (pr p) ∧ pr p ≤ 1000) (hB1 : 0 < nB) : ∀ (f b left : Nat) (m : Nat → Nat) (S : Int64 × (Nat → Int32)) (h : zH), b + f = nB → (∀ k, m k + left ≤ 3) → (∀ k, b ≤ k → m k = 0) → TrI h0 h m b S → Ct l (f + 4) mX14_tries [Vq (some (1, 0)), Vi (nI b), Vi (nI left)] h (fun o h' => o = R0 ∧ TrI h0 h' m b (Xf (bst (vaL (mDu h0) (mRest h0) (mPe h0) on ot rs pr wt nB nP) nB) nB left f m S)) := by
  intro f
  induction f with
  | zero =>
    intro b left m S h hb hml hm0 hI
    have hleft := hml 0
    have hWM := Wm.same hI.1.1 hWM0
    have hB : zI h 1 0 5 = nI nB := by rw [hI.1.2.1 1 (by decide) (by decide) (by decide) (by decide)]; exact hB0
    refine Ct.in 3 kX14_tries (plainFor_of_name rfl) (Nat.le_of_ble_eq_true rfl) ?_
    refine w_iload_n (zat TX14_tries_0 0 rfl) rfl ?_
    refine w_aload_n (zat TX14_tries_0 1 rfl) rfl ?_
    refine y_getI (v := nI nB) (zat TX14_tries_0 2 rfl) fX14_109 s1 (by decide) (by decide) rfl hB ?_
    refine w_icmp_ne 81 (zat TX14_tries_0 3 rfl) (by decide) (fun Hc5 => ?_) (fun Hc5 => ?_)
    · exact absurd (by rw [show b = nB by omega]) Hc5
    · refine w_iload_n (zat TX14_tries_0 4 rfl) rfl ?_
      refine w_if_le 20 (zat TX14_tries_0 5 rfl) (by decide) (fun Hc9 => ?_) (fun Hc9 => ?_)
      · have Hl : left = 0 := by
          have z := (nI_leI (b := 0) (by omega) (by omega)).mp Hc9
          omega
        subst Hl
        have hbn : b = nB := by omega
        subst hbn
        exact lX14_tries_20 l h0 hWM0 nP b hP0 hP2 hB0 hB2 on ot rs hbr hL hrs wt hwt hw0 pr hpr 4 (by omega) _ _ m (fun k => by have := hml k; omega) S h hI
      · have Hl : 1 ≤ left := Nat.pos_of_ne_zero (fun z => by rw [z] at Hc9; exact Hc9 (by decide))
        refine w_aload_n (zat TX14_tries_0 6 rfl) rfl ?_
        refine y_getI (v := nI nB) (zat TX14_tries_0 7 rfl) fX14_109 s1 (by decide) (by decide) rfl hB ?_
        refine w_if_le 20 (zat TX14_tries_0 8 rfl) (by decide) (fun Hc16 => ?_) (fun Hc16 => ?_)
        · exact absurd ((nI_leI (b := 0) (by omega) (by omega)).mp Hc16) (by omega)
        · refine w_return (zat TX14_tries_0 9 rfl) rfl ?_
          rw [Xf_no _ _ _ _ _ Hl]
          exact ⟨rfl, hI⟩
  | succ f ih =>
    intro b left m S h hb hml hm0 hI
    have hleft := hml 0
    have hWM := Wm.same hI.1.1 hWM0
    have hB : zI h 1 0 5 = nI nB := by rw [hI.1.2.1 1 (by decide) (by decide) (by decide) (by decide)]; exact hB0
    refine Ct.in 3 kX14_tries (plainFor_of_name rfl) (Nat.le_of_ble_eq_true rfl) ?_
    refine w_iload_n (zat TX14_tries_0 0 rfl) rfl ?_
    refine w_aload_n (zat TX14_tries_0 1 rfl) rfl ?_
    refine y_getI (v := nI nB) (zat TX14_tries_0 2 rfl) fX14_109 s1 (by decide) (by decide) rfl hB ?_
    refine w_icmp_ne 81 (zat TX14_tries_0 3 rfl) (by decide) (fun Hc5 => ?_) (fun Hc5 => ?_)
    · refine w_iload_n (zat TX14_tries_0 43 rfl) rfl ?_
      refine x_istore_n (ls2 := [_, _, _, _, _, _]) (zat TX14_tries_0 44 rfl) (by decide) rfl ?_
      rw [Xf_Lp, show nB - (f + 1) = b by omega]
      have hi := lX14_tries_83 l h0 hWM0 nP nB hP0 hP2 hB0 hB2 on ot rs hbr hL hrs wt hwt hw0 pr hpr f b left m hb hml hm0 ih (left + 1) (Nat.le_refl _) S h hI
      rw [nI_pred] at hi
      exact hi
    · exact absurd (nIe (by omega) (by omega) Hc5) (by omega)
