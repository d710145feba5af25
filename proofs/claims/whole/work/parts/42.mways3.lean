-- ways of the model: between, by program (wip/gen/p42.py)
/-- the table with the first k provinces between -/
def dF (D : Nat → Nat → Nat) : Nat → Nat → Nat → Nat
  | 0 => D
  | k + 1 => dK (dF D k) k
theorem dF_le {D : Nat → Nat → Nat} (hD : ∀ a b, D a b ≤ 100000000) : ∀ k a b, dF D k a b ≤ 100000000
  | 0, a, b => hD a b
  | k + 1, a, b => Nat.le_trans (Nat.min_le_left _ _) (dF_le hD k a b)
theorem dF_aa {D : Nat → Nat → Nat} (hD : ∀ a, D a a = 0) : ∀ k a, dF D k a a = 0
  | 0, a => hD a
  | k + 1, a => by
    show min (dF D k a a) _ = 0
    rw [dF_aa hD k a]
    exact Nat.zero_min _
theorem mix_ab (D D' : Nat → Nat → Nat) (a b : Nat) : mixD D D' a b a b = D a b := by
  unfold mixD
  rw [if_neg (by omega)]
theorem mix_k {D : Nat → Nat → Nat} {k : Nat} (hk : D k k = 0) (a b a' : Nat) : mixD D (dK D k) a b a' k = D a' k := by
  unfold mixD dK
  rw [hk, Nat.add_zero, Nat.min_self]
  exact ite_self _
theorem mix_k2 {D : Nat → Nat → Nat} {k : Nat} (hk : D k k = 0) (a b b' : Nat) : mixD D (dK D k) a b k b' = D k b' := by
  unfold mixD dK
  rw [hk, Nat.zero_add, Nat.min_self]
  exact ite_self _
theorem lX14_ways_195 (l : Launch) (h0 : zH) (hWM0 : Wm h0) (nP : Nat) (hP0 : zI h0 1 0 4 = nI nP) (hP2 : nP ≤ 10) (Q : zO → zH → Prop) (g : Nat) (D : Nat → Nat → Nat) (hD : ∀ a b, D a b ≤ 100000000) (a k : Nat) (ha : a < nP) (hk : k < nP) (hkk : D k k = 0) (K : ∀ h, FrW h0 h → TD h nP (mixD D (dK D k) (a + 1) 0) → Wp l mX14_ways 2 261 [some (Vq (some (1, 0))), some (Vq (some (g, 0))), some (Vi (nI k)), some (Vi (nI a)), some (Vi (nI nP))] [] h Q) : ∀ kk s : Nat, s + kk = nP → ∀ h, FrW h0 h → TD h nP (mixD D (dK D k) a s) → Wp l mX14_ways 2 195 [some (Vq (some (1, 0))), some (Vq (some (g, 0))), some (Vi (nI k)), some (Vi (nI a)), some (Vi (nI s))] [] h Q := by
  intro kk
  induction kk with
  | zero =>
    intro s hs h hF hT
    have hg : h.2.2 = h0.2.2 := congrArg Prod.snd hF.1
    have hWM := Wm.same hg hWM0
    have hP : zI h 1 0 4 = nI nP := by rw [hF.2 1 (by decide) (by decide)]; exact hP0
    refine w_iload (zat TX14_ways_1 59 rfl) rfl ?_
    refine w_aload_n (zat TX14_ways_2 0 rfl) rfl ?_
    refine y_getI (v := nI nP) (zat TX14_ways_2 1 rfl) fX14_106 s1 (by decide) (by decide) rfl hP ?_
    refine w_icmp_ge 261 (zat TX14_ways_2 2 rfl) (by decide) (fun Hc201 => ?_) (fun Hc201 => ?_)
    · have e : s = nP := by omega
      subst e
      exact K h hF hT.row
    · exact absurd (nI_le (by omega) (by omega)) Hc201
  | succ kk ih =>
    intro s hs h hF hT
    have hg : h.2.2 = h0.2.2 := congrArg Prod.snd hF.1
    have hWM := Wm.same hg hWM0
    have hP : zI h 1 0 4 = nI nP := by rw [hF.2 1 (by decide) (by decide)]; exact hP0
    have t1 := hT a s ha (by omega)
    have t2 := hT a k ha hk
    have t3 := hT k s hk (by omega)
    rw [mix_ab] at t1
    rw [mix_k hkk] at t2
    rw [mix_k2 hkk] at t3
    have u1 := hD a s
    have u2 := hD a k
    have u3 := hD k s
    refine w_iload (zat TX14_ways_1 59 rfl) rfl ?_
    refine w_aload_n (zat TX14_ways_2 0 rfl) rfl ?_
    refine y_getI (v := nI nP) (zat TX14_ways_2 1 rfl) fX14_106 s1 (by decide) (by decide) rfl hP ?_
    refine w_icmp_ge 261 (zat TX14_ways_2 2 rfl) (by decide) (fun Hc201 => ?_) (fun Hc201 => ?_)
    · exact absurd Hc201 (nI_ge (by omega) (by omega))
    · refine w_aload_n (zat TX14_ways_2 3 rfl) rfl ?_
      refine w_getR (zat TX14_ways_2 4 rfl) fX14_66 s1 (by decide) (by decide) rfl (wmr hWM 12 rfl) ?_
      refine w_bipush (v := 10) (zat TX14_ways_2 5 rfl) (by decide) ?_
      refine w_iload_n (zat TX14_ways_2 6 rfl) rfl ?_
      refine w_imul (zat TX14_ways_2 7 rfl) ?_
      refine w_iload (zat TX14_ways_2 8 rfl) rfl ?_
      refine w_iadd (zat TX14_ways_2 9 rfl) ?_
      refine w_aload_n (zat TX14_ways_2 10 rfl) rfl ?_
      refine w_getR (zat TX14_ways_2 11 rfl) fX14_66 s1 (by decide) (by decide) rfl (wmr hWM 12 rfl) ?_
      refine w_bipush (v := 10) (zat TX14_ways_2 12 rfl) (by decide) ?_
      refine w_iload_n (zat TX14_ways_2 13 rfl) rfl ?_
      refine w_imul (zat TX14_ways_2 14 rfl) ?_
      refine w_iload (zat TX14_ways_2 15 rfl) rfl ?_
      refine w_iadd (zat TX14_ways_2 16 rfl) ?_
      refine y_iaload (10 * a + s) _ (v := nI (D a s)) (zat TX14_ways_2 17 rfl) s23 (by decide) (wmn hWM 11 rfl) (by decide) (nI_t10 a s) (by omega) t1 ?_
      refine w_aload_n (zat TX14_ways_2 18 rfl) rfl ?_
      refine w_getR (zat TX14_ways_2 19 rfl) fX14_66 s1 (by decide) (by decide) rfl (wmr hWM 12 rfl) ?_
      refine w_bipush (v := 10) (zat TX14_ways_2 20 rfl) (by decide) ?_
      refine w_iload_n (zat TX14_ways_2 21 rfl) rfl ?_
      refine w_imul (zat TX14_ways_2 22 rfl) ?_
      refine w_iload_n (zat TX14_ways_2 23 rfl) rfl ?_
      refine w_iadd (zat TX14_ways_2 24 rfl) ?_
      refine y_iaload (10 * a + k) _ (v := nI (D a k)) (zat TX14_ways_2 25 rfl) s23 (by decide) (wmn hWM 11 rfl) (by decide) (nI_t10 a k) (by omega) t2 ?_
      refine w_aload_n (zat TX14_ways_2 26 rfl) rfl ?_
      refine w_getR (zat TX14_ways_2 27 rfl) fX14_66 s1 (by decide) (by decide) rfl (wmr hWM 12 rfl) ?_
      refine w_bipush (v := 10) (zat TX14_ways_2 28 rfl) (by decide) ?_
      refine w_iload_n (zat TX14_ways_2 29 rfl) rfl ?_
      refine w_imul (zat TX14_ways_2 30 rfl) ?_
      refine w_iload (zat TX14_ways_2 31 rfl) rfl ?_
      refine w_iadd (zat TX14_ways_2 32 rfl) ?_
      refine y_iaload (10 * k + s) _ (v := nI (D k s)) (zat TX14_ways_2 33 rfl) s23 (by decide) (wmn hWM 11 rfl) (by decide) (nI_t10 k s) (by omega) t3 ?_
      refine w_iadd (zat TX14_ways_2 34 rfl) ?_
      rw [nI_add]
      refine x_callv2 (qJ9_min_7cf53 l _ _ _) (by decide) kJ9_min_7cf53 (rdy_S (zat TX14_ways_2 35 rfl) kJ9_min_7cf53 pJ9_min_7cf53 zw1349 zw403) (Nat.le_of_ble_eq_true rfl) rfl rfl ?_
      rw [nI_min (by omega) (by omega)]
      refine x_iastore (10 * a + s) _ (zat TX14_ways_2 36 rfl) s23 (by decide) (wmn hWM 11 rfl) (by decide) (nI_t10 a s) (by omega) ?_
      refine x_iinc (v := nI (s + 1)) (ls2 := [_, _, _, _, _]) (zat TX14_ways_2 37 rfl) rfl (nI_inc s) rfl ?_
      refine w_goto 195 (zat TX14_ways_2 38 rfl) (by decide) ?_
      exact ih (s + 1) (by omega) _ (hF.w1 _ _) (TD.step hP2 (by omega) hT)
theorem lX14_ways_184 (l : Launch) (h0 : zH) (hWM0 : Wm h0) (nP : Nat) (hP0 : zI h0 1 0 4 = nI nP) (hP2 : nP ≤ 10) (Q : zO → zH → Prop) (g : Nat) (D : Nat → Nat → Nat) (hD : ∀ a b, D a b ≤ 100000000) (k : Nat) (hk : k < nP) (hkk : D k k = 0) (K : ∀ h, FrW h0 h → TD h nP (dK D k) → ∀ x, Wp l mX14_ways 2 267 [some (Vq (some (1, 0))), some (Vq (some (g, 0))), some (Vi (nI k)), some (Vi (nI nP)), x] [] h Q) : ∀ kk s : Nat, s + kk = nP → ∀ h, FrW h0 h → TD h nP (mixD D (dK D k) s 0) → ∀ x, Wp l mX14_ways 2 184 [some (Vq (some (1, 0))), some (Vq (some (g, 0))), some (Vi (nI k)), some (Vi (nI s)), x] [] h Q := by
  intro kk
  induction kk with
  | zero =>
    intro s hs h hF hT x
    have hg : h.2.2 = h0.2.2 := congrArg Prod.snd hF.1
    have hWM := Wm.same hg hWM0
    have hP : zI h 1 0 4 = nI nP := by rw [hF.2 1 (by decide) (by decide)]; exact hP0
    refine w_iload_n (zat TX14_ways_1 53 rfl) rfl ?_
    refine w_aload_n (zat TX14_ways_1 54 rfl) rfl ?_
    refine y_getI (v := nI nP) (zat TX14_ways_1 55 rfl) fX14_106 s1 (by decide) (by decide) rfl hP ?_
    refine w_icmp_ge 267 (zat TX14_ways_1 56 rfl) (by decide) (fun Hc189 => ?_) (fun Hc189 => ?_)
    · have e : s = nP := by omega
      subst e
      exact K h hF hT.all _
    · exact absurd (nI_le (by omega) (by omega)) Hc189
  | succ kk ih =>
    intro s hs h hF hT x
    have hg : h.2.2 = h0.2.2 := congrArg Prod.snd hF.1
    have hWM := Wm.same hg hWM0
    have hP : zI h 1 0 4 = nI nP := by rw [hF.2 1 (by decide) (by decide)]; exact hP0
    refine w_iload_n (zat TX14_ways_1 53 rfl) rfl ?_
    refine w_aload_n (zat TX14_ways_1 54 rfl) rfl ?_
    refine y_getI (v := nI nP) (zat TX14_ways_1 55 rfl) fX14_106 s1 (by decide) (by decide) rfl hP ?_
    refine w_icmp_ge 267 (zat TX14_ways_1 56 rfl) (by decide) (fun Hc189 => ?_) (fun Hc189 => ?_)
    · exact absurd Hc189 (nI_ge (by omega) (by omega))
    · refine w_iconst (v := 0) (zat TX14_ways_1 57 rfl) (by decide) ?_
      refine x_istore (ls2 := [_, _, _, _, _]) (zat TX14_ways_1 58 rfl) (by decide) rfl ?_
      refine lX14_ways_195 l h0 hWM0 nP hP0 hP2 Q g D hD s k (by omega) hk hkk (fun h hF hT => ?_) nP 0 (by omega) h hF hT
      refine x_iinc (v := nI (s + 1)) (ls2 := [_, _, _, _, _]) (zat TX14_ways_2 39 rfl) rfl (nI_inc s) rfl ?_
      refine w_goto 184 (zat TX14_ways_2 40 rfl) (by decide) ?_
      exact ih (s + 1) (by omega) h hF hT _
theorem lX14_ways_174 (l : Launch) (h0 : zH) (hWM0 : Wm h0) (nP : Nat) (hP0 : zI h0 1 0 4 = nI nP) (hP2 : nP ≤ 10) (Q : zO → zH → Prop) (g : Nat) (D : Nat → Nat → Nat) (hD : ∀ a b, D a b ≤ 100000000) (hDa : ∀ a, D a a = 0) (K : ∀ h, FrW h0 h → TD h nP (dF D nP) → ∀ z y x, Wp l mX14_ways 2 273 [some (Vq (some (1, 0))), some (Vq (some (g, 0))), z, y, x] [] h Q) : ∀ kk s : Nat, s + kk = nP → ∀ h, FrW h0 h → TD h nP (dF D s) → ∀ y x, Wp l mX14_ways 2 174 [some (Vq (some (1, 0))), some (Vq (some (g, 0))), some (Vi (nI s)), y, x] [] h Q := by
  intro kk
  induction kk with
  | zero =>
    intro s hs h hF hT y x
    have hg : h.2.2 = h0.2.2 := congrArg Prod.snd hF.1
    have hWM := Wm.same hg hWM0
    have hP : zI h 1 0 4 = nI nP := by rw [hF.2 1 (by decide) (by decide)]; exact hP0
    refine w_iload_n (zat TX14_ways_1 47 rfl) rfl ?_
    refine w_aload_n (zat TX14_ways_1 48 rfl) rfl ?_
    refine y_getI (v := nI nP) (zat TX14_ways_1 49 rfl) fX14_106 s1 (by decide) (by decide) rfl hP ?_
    refine w_icmp_ge 273 (zat TX14_ways_1 50 rfl) (by decide) (fun Hc179 => ?_) (fun Hc179 => ?_)
    · have e : s = nP := by omega
      subst e
      exact K h hF hT _ _ _
    · exact absurd (nI_le (by omega) (by omega)) Hc179
  | succ kk ih =>
    intro s hs h hF hT y x
    have hg : h.2.2 = h0.2.2 := congrArg Prod.snd hF.1
    have hWM := Wm.same hg hWM0
    have hP : zI h 1 0 4 = nI nP := by rw [hF.2 1 (by decide) (by decide)]; exact hP0
    refine w_iload_n (zat TX14_ways_1 47 rfl) rfl ?_
    refine w_aload_n (zat TX14_ways_1 48 rfl) rfl ?_
    refine y_getI (v := nI nP) (zat TX14_ways_1 49 rfl) fX14_106 s1 (by decide) (by decide) rfl hP ?_
    refine w_icmp_ge 273 (zat TX14_ways_1 50 rfl) (by decide) (fun Hc179 => ?_) (fun Hc179 => ?_)
    · exact absurd Hc179 (nI_ge (by omega) (by omega))
    · refine w_iconst (v := 0) (zat TX14_ways_1 51 rfl) (by decide) ?_
      refine x_istore_n (ls2 := [_, _, _, _, _]) (zat TX14_ways_1 52 rfl) (by decide) rfl ?_
      refine lX14_ways_184 l h0 hWM0 nP hP0 hP2 Q g (dF D s) (dF_le hD s) s (by omega) (dF_aa hDa s s) (fun h hF hT x => ?_) nP 0 (by omega) h hF hT.none x
      refine x_iinc (v := nI (s + 1)) (ls2 := [_, _, _, _, _]) (zat TX14_ways_2 41 rfl) rfl (nI_inc s) rfl ?_
      refine w_goto 174 (zat TX14_ways_2 42 rfl) (by decide) ?_
      exact ih (s + 1) (by omega) h hF hT _ _
