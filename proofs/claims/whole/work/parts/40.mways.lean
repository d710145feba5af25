-- ways of the model: the table of distances, by program (wip/gen/p40.py)
theorem nI_t10 (a b : Nat) : (10 : Int32) * nI a + nI b = nI (10 * a + b) := by
  rw [← nI_add]
  refine congrArg (· + nI b) ?_
  exact (Int32.ofNat_mul 10 a).symm
theorem nI_min {a b : Nat} (ha : a < 2 ^ 31) (hb : b < 2 ^ 31) : (if nI b < nI a then nI b else nI a) = nI (min a b) := by
  by_cases q : b < a
  · rw [if_pos ((nI_ltI hb ha).mpr q), Nat.min_eq_right (by omega)]
  · rw [if_neg (fun z => q ((nI_ltI hb ha).mp z)), Nat.min_eq_left (by omega)]
def FrW (h h' : zH) : Prop := h'.2 = h.2 ∧ ∀ k, k ≠ 23 → k ≠ 24 → zI h' k = zI h k
theorem FrW.rf (h : zH) : FrW h h := ⟨rfl, fun _ _ _ => rfl⟩
theorem FrW.w1 {a b : zH} (x : FrW a b) (n : Nat) (v : Int32) : FrW a (zsI b 23 0 n v) := ⟨x.1, fun k h1 h2 => by
  rw [← x.2 k h1 h2]
  funext i j
  exact if_neg (fun z => h1 z.1)⟩
theorem FrW.w2 {a b : zH} (x : FrW a b) (n : Nat) (v : Int32) : FrW a (zsI b 24 0 n v) := ⟨x.1, fun k h1 h2 => by
  rw [← x.2 k h1 h2]
  funext i j
  exact if_neg (fun z => h2 z.1)⟩
/-- the table holds D -/
def TD (h : zH) (n : Nat) (D : Nat → Nat → Nat) : Prop := ∀ a b, a < n → b < n → zI h 23 0 (10 * a + b) = nI (D a b)
def d0 (a b : Nat) : Nat := if a = b then 0 else 100000000
/-- a border laid into the table -/
def dE (D : Nat → Nat → Nat) (p q c a b : Nat) : Nat := if a = p ∧ b = q ∨ a = q ∧ b = p then min (D a b) c else D a b
/-- one more province between -/
def dK (D : Nat → Nat → Nat) (k a b : Nat) : Nat := min (D a b) (D a k + D k b)
/-- done up to (a, b), by rows -/
def upTo (a b a' b' : Nat) : Prop := a' < a ∨ a' = a ∧ b' < b
def mixD (D D' : Nat → Nat → Nat) (a b a' b' : Nat) : Nat := if a' < a ∨ a' = a ∧ b' < b then D' a' b' else D a' b'
theorem TD.step {h : zH} {n a b : Nat} {D D' : Nat → Nat → Nat} (hn : n ≤ 10) (hb : b < n) (x : TD h n (mixD D D' a b)) : TD (zsI h 23 0 (10 * a + b) (nI (D' a b))) n (mixD D D' a (b + 1)) := by
  intro a' b' ha' hb'
  by_cases e : a' = a ∧ b' = b
  · rw [e.1, e.2, zI_same]
    unfold mixD
    rw [if_pos (Or.inr ⟨rfl, by omega⟩)]
  · rw [zI_oth _ _ _ _ _ (by omega), x a' b' ha' hb']
    unfold mixD
    by_cases q : a' < a ∨ a' = a ∧ b' < b
    · rw [if_pos q, if_pos (by omega)]
    · rw [if_neg q, if_neg (by omega)]
theorem TD.row {h : zH} {n a : Nat} {D D' : Nat → Nat → Nat} (x : TD h n (mixD D D' a n)) : TD h n (mixD D D' (a + 1) 0) := by
  intro a' b' ha' hb'
  rw [x a' b' ha' hb']
  unfold mixD
  by_cases q : a' < a ∨ a' = a ∧ b' < n
  · rw [if_pos q, if_pos (by omega)]
  · rw [if_neg q, if_neg (by omega)]
theorem TD.all {h : zH} {n : Nat} {D D' : Nat → Nat → Nat} (x : TD h n (mixD D D' n 0)) : TD h n D' := by
  intro a b ha hb
  rw [x a b ha hb]
  unfold mixD
  rw [if_pos (Or.inl ha)]
theorem TD.none {h : zH} {n : Nat} {D D' : Nat → Nat → Nat} (x : TD h n D) : TD h n (mixD D D' 0 0) := by
  intro a b ha hb
  rw [x a b ha hb]
  unfold mixD
  rw [if_neg (by omega)]
/-- the part of the table that the first loop has laid -/
def TI (h : zH) (n a b : Nat) : Prop := ∀ a' b', a' < n → b' < n → upTo a b a' b' → zI h 23 0 (10 * a' + b') = nI (d0 a' b')
theorem TI.step {h : zH} {n a b : Nat} (hn : n ≤ 10) (hb : b < n) (x : TI h n a b) : TI (zsI h 23 0 (10 * a + b) (nI (d0 a b))) n a (b + 1) := by
  intro a' b' ha' hb' hu
  by_cases e : a' = a ∧ b' = b
  · rw [e.1, e.2, zI_same]
  · rw [zI_oth _ _ _ _ _ (by omega)]
    unfold upTo at hu
    exact x a' b' ha' hb' (by unfold upTo; omega)
theorem TI.row {h : zH} {n a : Nat} (x : TI h n a n) : TI h n (a + 1) 0 := by
  intro a' b' ha' hb' hu
  unfold upTo at hu
  exact x a' b' ha' hb' (by unfold upTo; omega)
theorem qX14_costOf (l : Launch) (h : zH) (hWM : Wm h) (j : Nat) (m : Int32) (hj : j < 16) : Cx l 1 mX14_costOf [Vq (some (1, 0)), Vi (nI j), Vi m] h (Rv (Vi (zI h 14 0 j + m * zI h 1 0 7))) h := by
  refine Ct.in 0 kX14_costOf (plainFor_of_name rfl) (Nat.le_of_ble_eq_true rfl) ?_
  refine w_aload_n (zat TX14_costOf 0 rfl) rfl ?_
  refine w_getR (zat TX14_costOf 1 rfl) fX14_29 s1 (by decide) (by decide) rfl (wmr hWM 4 rfl) ?_
  refine w_iload_n (zat TX14_costOf 2 rfl) rfl ?_
  refine x_iaload _ _ (zat TX14_costOf 3 rfl) s14 (by decide) (wmn hWM 4 rfl) (by decide) rfl hj ?_
  refine w_iload_n (zat TX14_costOf 4 rfl) rfl ?_
  refine w_aload_n (zat TX14_costOf 5 rfl) rfl ?_
  refine w_getI (zat TX14_costOf 6 rfl) fX14_13 s1 (by decide) (by decide) rfl ?_
  refine w_imul (zat TX14_costOf 7 rfl) ?_
  refine w_iadd (zat TX14_costOf 8 rfl) ?_
  refine w_ireturn (zat TX14_costOf 9 rfl) rfl rfl ?_
  exact ⟨rfl, rfl⟩
theorem lX14_ways_12 (l : Launch) (h0 : zH) (hWM0 : Wm h0) (nP : Nat) (hP0 : zI h0 1 0 4 = nI nP) (hP2 : nP ≤ 10) (Q : zO → zH → Prop) (g : Nat) (a : Nat) (ha : a < nP) (x : Option zV) (K : ∀ h, FrW h0 h → TI h nP (a + 1) 0 → Wp l mX14_ways 2 49 [some (Vq (some (1, 0))), some (Vq (some (g, 0))), some (Vi (nI a)), some (Vi (nI nP)), x] [] h Q) : ∀ kk s : Nat, s + kk = nP → ∀ h, FrW h0 h → TI h nP a s → Wp l mX14_ways 2 12 [some (Vq (some (1, 0))), some (Vq (some (g, 0))), some (Vi (nI a)), some (Vi (nI s)), x] [] h Q := by
  intro kk
  induction kk with
  | zero =>
    intro s hs h hF hI
    have hg : h.2.2 = h0.2.2 := congrArg Prod.snd hF.1
    have hWM := Wm.same hg hWM0
    have hP : zI h 1 0 4 = nI nP := by rw [hF.2 1 (by decide) (by decide)]; exact hP0
    refine w_iload_n (zat TX14_ways_0 8 rfl) rfl ?_
    refine w_aload_n (zat TX14_ways_0 9 rfl) rfl ?_
    refine y_getI (v := nI nP) (zat TX14_ways_0 10 rfl) fX14_106 s1 (by decide) (by decide) rfl hP ?_
    refine w_icmp_ge 49 (zat TX14_ways_0 11 rfl) (by decide) (fun Hc17 => ?_) (fun Hc17 => ?_)
    · have e : s = nP := by omega
      subst e
      exact K h hF hI.row
    · exact absurd (nI_le (by omega) (by omega)) Hc17
  | succ kk ih =>
    intro s hs h hF hI
    have hg : h.2.2 = h0.2.2 := congrArg Prod.snd hF.1
    have hWM := Wm.same hg hWM0
    have hP : zI h 1 0 4 = nI nP := by rw [hF.2 1 (by decide) (by decide)]; exact hP0
    refine w_iload_n (zat TX14_ways_0 8 rfl) rfl ?_
    refine w_aload_n (zat TX14_ways_0 9 rfl) rfl ?_
    refine y_getI (v := nI nP) (zat TX14_ways_0 10 rfl) fX14_106 s1 (by decide) (by decide) rfl hP ?_
    refine w_icmp_ge 49 (zat TX14_ways_0 11 rfl) (by decide) (fun Hc17 => ?_) (fun Hc17 => ?_)
    · exact absurd Hc17 (nI_ge (by omega) (by omega))
    · refine w_aload_n (zat TX14_ways_0 12 rfl) rfl ?_
      refine w_getR (zat TX14_ways_0 13 rfl) fX14_66 s1 (by decide) (by decide) rfl (wmr hWM 12 rfl) ?_
      refine w_bipush (v := 10) (zat TX14_ways_0 14 rfl) (by decide) ?_
      refine w_iload_n (zat TX14_ways_0 15 rfl) rfl ?_
      refine w_imul (zat TX14_ways_0 16 rfl) ?_
      refine w_iload_n (zat TX14_ways_0 17 rfl) rfl ?_
      refine w_iadd (zat TX14_ways_0 18 rfl) ?_
      refine w_iload_n (zat TX14_ways_0 19 rfl) rfl ?_
      refine w_iload_n (zat TX14_ways_0 20 rfl) rfl ?_
      refine w_icmp_ne 39 (zat TX14_ways_0 21 rfl) (by decide) (fun Hc32 => ?_) (fun Hc32 => ?_)
      · refine w_ldcw (v := 100000000) (zat TX14_ways_0 24 rfl) zw1369 ?_
        refine x_iastore (10 * a + s) _ (zat TX14_ways_0 25 rfl) s23 (by decide) (wmn hWM 11 rfl) (by decide) (nI_t10 a s) (by omega) ?_
        refine x_iinc (v := nI (s + 1)) (ls2 := [_, _, _, _, _]) (zat TX14_ways_0 26 rfl) rfl (nI_inc s) rfl ?_
        refine w_goto 12 (zat TX14_ways_0 27 rfl) (by decide) ?_
        refine ih (s + 1) (by omega) _ (hF.w1 _ _) ?_
        have Hi := TI.step hP2 (show s < nP by omega) hI
        first | (rw [show d0 a s = 100000000 from if_neg (fun q => Hc32 (congrArg nI q))] at Hi; exact Hi) | (rw [show d0 a s = 0 from if_pos (nIe (by omega) (by omega) Hc32)] at Hi; exact Hi)
      · refine w_iconst (v := 0) (zat TX14_ways_0 22 rfl) (by decide) ?_
        refine w_goto 42 (zat TX14_ways_0 23 rfl) (by decide) ?_
        refine x_iastore (10 * a + s) _ (zat TX14_ways_0 25 rfl) s23 (by decide) (wmn hWM 11 rfl) (by decide) (nI_t10 a s) (by omega) ?_
        refine x_iinc (v := nI (s + 1)) (ls2 := [_, _, _, _, _]) (zat TX14_ways_0 26 rfl) rfl (nI_inc s) rfl ?_
        refine w_goto 12 (zat TX14_ways_0 27 rfl) (by decide) ?_
        refine ih (s + 1) (by omega) _ (hF.w1 _ _) ?_
        have Hi := TI.step hP2 (show s < nP by omega) hI
        first | (rw [show d0 a s = 100000000 from if_neg (fun q => Hc32 (congrArg nI q))] at Hi; exact Hi) | (rw [show d0 a s = 0 from if_pos (nIe (by omega) (by omega) Hc32)] at Hi; exact Hi)
theorem lX14_ways_2 (l : Launch) (h0 : zH) (hWM0 : Wm h0) (nP : Nat) (hP0 : zI h0 1 0 4 = nI nP) (hP2 : nP ≤ 10) (Q : zO → zH → Prop) (g : Nat) (x : Option zV) (K : ∀ h, FrW h0 h → TD h nP d0 → ∀ y z, Wp l mX14_ways 2 55 [some (Vq (some (1, 0))), some (Vq (some (g, 0))), y, z, x] [] h Q) : ∀ kk s : Nat, s + kk = nP → ∀ h, FrW h0 h → TI h nP s 0 → ∀ y, Wp l mX14_ways 2 2 [some (Vq (some (1, 0))), some (Vq (some (g, 0))), some (Vi (nI s)), y, x] [] h Q := by
  intro kk
  induction kk with
  | zero =>
    intro s hs h hF hI y
    have hg : h.2.2 = h0.2.2 := congrArg Prod.snd hF.1
    have hWM := Wm.same hg hWM0
    have hP : zI h 1 0 4 = nI nP := by rw [hF.2 1 (by decide) (by decide)]; exact hP0
    refine w_iload_n (zat TX14_ways_0 2 rfl) rfl ?_
    refine w_aload_n (zat TX14_ways_0 3 rfl) rfl ?_
    refine y_getI (v := nI nP) (zat TX14_ways_0 4 rfl) fX14_106 s1 (by decide) (by decide) rfl hP ?_
    refine w_icmp_ge 55 (zat TX14_ways_0 5 rfl) (by decide) (fun Hc7 => ?_) (fun Hc7 => ?_)
    · exact K h hF (fun a b ha hb => hI a b ha hb (Or.inl (by omega))) _ _
    · exact absurd (nI_le (by omega) (by omega)) Hc7
  | succ kk ih =>
    intro s hs h hF hI y
    have hg : h.2.2 = h0.2.2 := congrArg Prod.snd hF.1
    have hWM := Wm.same hg hWM0
    have hP : zI h 1 0 4 = nI nP := by rw [hF.2 1 (by decide) (by decide)]; exact hP0
    refine w_iload_n (zat TX14_ways_0 2 rfl) rfl ?_
    refine w_aload_n (zat TX14_ways_0 3 rfl) rfl ?_
    refine y_getI (v := nI nP) (zat TX14_ways_0 4 rfl) fX14_106 s1 (by decide) (by decide) rfl hP ?_
    refine w_icmp_ge 55 (zat TX14_ways_0 5 rfl) (by decide) (fun Hc7 => ?_) (fun Hc7 => ?_)
    · exact absurd Hc7 (nI_ge (by omega) (by omega))
    · refine w_iconst (v := 0) (zat TX14_ways_0 6 rfl) (by decide) ?_
      refine x_istore_n (ls2 := [_, _, _, _, _]) (zat TX14_ways_0 7 rfl) (by decide) rfl ?_
      refine lX14_ways_12 l h0 hWM0 nP hP0 hP2 Q g s (by omega) x (fun h hF hI => ?_) nP 0 (by omega) h hF hI
      refine x_iinc (v := nI (s + 1)) (ls2 := [_, _, _, _, _]) (zat TX14_ways_0 28 rfl) rfl (nI_inc s) rfl ?_
      refine w_goto 2 (zat TX14_ways_0 29 rfl) (by decide) ?_
      exact ih (s + 1) (by omega) h hF hI _
