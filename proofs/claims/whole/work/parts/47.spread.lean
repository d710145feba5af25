-- spread of the class, by program (wip/gen/p47.py)
def upN (F : Nat → Nat) (i v : Nat) (j : Nat) : Nat := if j = i then v else F j
/-- one border: the new costs -/
def bS (p q w : Nat) (F : Nat → Nat) : Nat → Nat := if F p + w < F q then upN F q (F p + w) else if F q + w < F p then upN F p (F q + w) else F
def bC (p q w : Nat) (F : Nat → Nat) : Bool := decide (F p + w < F q ∨ F q + w < F p)
/-- a round over the first k borders -/
def bG (on ot w : Nat → Nat) (F : Nat → Nat) : Nat → Nat → Nat
  | 0 => F
  | k + 1 => bS (on k) (ot k) (w k) (bG on ot w F k)
def bD (on ot w : Nat → Nat) (F : Nat → Nat) : Nat → Bool
  | 0 => false
  | k + 1 => bD on ot w F k || bC (on k) (ot k) (w k) (bG on ot w F k)
/-- r rounds, no more than are needed -/
def bL (on ot w : Nat → Nat) (nB : Nat) : Nat → (Nat → Nat) → Nat → Nat
  | 0, F => F
  | r + 1, F => if bD on ot w F nB then bL on ot w nB r (bG on ot w F nB) else bG on ot w F nB
theorem bS_le (p q w : Nat) (F : Nat → Nat) (j : Nat) : bS p q w F j ≤ F j := by
  unfold bS
  split
  · unfold upN
    split
    · rename_i h1 h2
      rw [h2]; omega
    · exact Nat.le_refl _
  · split
    · unfold upN
      split
      · rename_i h1 h2 h3
        rw [h3]; omega
      · exact Nat.le_refl _
    · exact Nat.le_refl _
theorem bG_le (on ot w : Nat → Nat) (F : Nat → Nat) (j : Nat) : ∀ k, bG on ot w F k j ≤ F j
  | 0 => Nat.le_refl _
  | k + 1 => Nat.le_trans (bS_le _ _ _ _ j) (bG_le on ot w F j k)
def FrG (g : Nat) (h h' : zH) : Prop := h'.2 = h.2 ∧ ∀ k, k ≠ g → zI h' k = zI h k
theorem FrG.rf (g : Nat) (h : zH) : FrG g h h := ⟨rfl, fun _ _ => rfl⟩
theorem FrG.w {g : Nat} {a b : zH} (x : FrG g a b) (n : Nat) (v : Int32) : FrG g a (zsI b g 0 n v) := ⟨x.1, fun k h1 => by
  rw [← x.2 k h1]
  funext i j
  exact if_neg (fun z => h1 z.1)⟩
def CF (h : zH) (g n : Nat) (F : Nat → Nat) : Prop := ∀ j, j < n → zI h g 0 j = nI (F j)
theorem CF.w {h : zH} {g n : Nat} {F : Nat → Nat} (x : CF h g n F) (i v : Nat) : CF (zsI h g 0 i (nI v)) g n (upN F i v) := by
  intro j hj
  unfold upN
  by_cases e : j = i
  · rw [e, zI_same, if_pos rfl]
  · rw [zI_oth _ _ _ _ _ e, if_neg e]
    exact x j hj
/-- the borders as the market holds them -/
def BJ (h : zH) (nP nB : Nat) (bits : Int32) (on ot w : Nat → Nat) : Prop := ∀ k, k < nB → zI h 70 0 k = nI (on k) ∧ zI h 71 0 k = nI (ot k) ∧ on k < nP ∧ ot k < nP ∧ zI h 72 0 k <<< (bits &&& 31) = nI (w k) ∧ w k ≤ 2000000
theorem lX3_spread_23 (l : Launch) (h0 : zH) (hW0 : Wc h0) (nP : Nat) (hP0 : zI h0 56 0 9 = nI nP) (hP2 : nP ≤ 10) (nB : Nat) (hB0 : zI h0 56 0 10 = nI nB) (hB2 : nB ≤ 16) (g : Nat) (hgs : zshp g = 100) (hgr : g < 900) (hgN : zN h0 g 0 = 10) (hg1 : g ≠ 56) (hg2 : g ≠ 70) (hg3 : g ≠ 71) (hg4 : g ≠ 72) (bits : Int32) (on ot w : Nat → Nat) (hBJ : BJ h0 nP nB bits on ot w) (Q : zO → zH → Prop) (F : Nat → Nat) (hFl : ∀ j, j < nP → F j ≤ 2000000) (r : Nat) (K : ∀ h, FrG g h0 h → CF h g nP (bG on ot w F nB) → ∀ x5 x6 x7 x8, Wp l mX3_spread 1 124 [some (Vq (some (56, 0))), some (Vq (some (g, 0))), some (Vi bits), some (Vi (zB (bD on ot w F nB))), some (Vi (nI r)), x5, x6, x7, x8] [] h Q) : ∀ kk s : Nat, s + kk = nB → ∀ h, FrG g h0 h → CF h g nP (bG on ot w F s) → ∀ x6 x7 x8, Wp l mX3_spread 1 23 [some (Vq (some (56, 0))), some (Vq (some (g, 0))), some (Vi bits), some (Vi (zB (bD on ot w F s))), some (Vi (nI r)), some (Vi (nI s)), x6, x7, x8] [] h Q := by
  intro kk
  induction kk with
  | zero =>
    intro s hs h hF hC x6 x7 x8
    have hg : h.2.2 = h0.2.2 := congrArg Prod.snd hF.1
    have hW := Wc.same hg hW0
    have hP : zI h 56 0 9 = nI nP := by rw [hF.2 56 (Ne.symm hg1)]; exact hP0
    have hB : zI h 56 0 10 = nI nB := by rw [hF.2 56 (Ne.symm hg1)]; exact hB0
    have hgN2 : zN h g 0 = 10 := by unfold zN; rw [hg]; exact hgN
    refine w_iload (zat TX3_spread_0 14 rfl) rfl ?_
    refine w_aload_n (zat TX3_spread_0 15 rfl) rfl ?_
    refine y_getI (v := nI nB) (zat TX3_spread_0 16 rfl) fX3_44 s56 (by decide) (by decide) rfl hB ?_
    refine w_icmp_ge 124 (zat TX3_spread_0 17 rfl) (by decide) (fun Hc29 => ?_) (fun Hc29 => ?_)
    · have e : s = nB := by omega
      subst e
      exact K h hF hC _ _ _ _
    · exact absurd (nI_le (by omega) (by omega)) Hc29
  | succ kk ih =>
    intro s hs h hF hC x6 x7 x8
    have hg : h.2.2 = h0.2.2 := congrArg Prod.snd hF.1
    have hW := Wc.same hg hW0
    have hP : zI h 56 0 9 = nI nP := by rw [hF.2 56 (Ne.symm hg1)]; exact hP0
    have hB : zI h 56 0 10 = nI nB := by rw [hF.2 56 (Ne.symm hg1)]; exact hB0
    have hgN2 : zN h g 0 = 10 := by unfold zN; rw [hg]; exact hgN
    obtain ⟨b1, b2, b3, b4, b5, b6⟩ := hBJ s (by omega)
    rw [← hF.2 70 (Ne.symm hg2)] at b1
    rw [← hF.2 71 (Ne.symm hg3)] at b2
    rw [← hF.2 72 (Ne.symm hg4)] at b5
    have t1 := hC (on s) b3
    have t2 := hC (ot s) b4
    have u1 := Nat.le_trans (bG_le on ot w F (on s) s) (hFl (on s) b3)
    have u2 := Nat.le_trans (bG_le on ot w F (ot s) s) (hFl (ot s) b4)
    have ih2 := ih (s + 1) (by omega)
    rw [show bG on ot w F (s + 1) = bS (on s) (ot s) (w s) (bG on ot w F s) from rfl, show bD on ot w F (s + 1) = (bD on ot w F s || bC (on s) (ot s) (w s) (bG on ot w F s)) from rfl] at ih2
    generalize (bG on ot w F s) = G at t1 t2 u1 u2 hC ih2
    refine w_iload (zat TX3_spread_0 14 rfl) rfl ?_
    refine w_aload_n (zat TX3_spread_0 15 rfl) rfl ?_
    refine y_getI (v := nI nB) (zat TX3_spread_0 16 rfl) fX3_44 s56 (by decide) (by decide) rfl hB ?_
    refine w_icmp_ge 124 (zat TX3_spread_0 17 rfl) (by decide) (fun Hc29 => ?_) (fun Hc29 => ?_)
    · exact absurd Hc29 (nI_ge (by omega) (by omega))
    · refine w_aload_n (zat TX3_spread_0 18 rfl) rfl ?_
      refine w_getR (zat TX3_spread_0 19 rfl) fX3_31 s56 (by decide) (by decide) rfl (wcr hW 19 rfl) ?_
      refine w_iload (zat TX3_spread_0 20 rfl) rfl ?_
      refine y_iaload _ _ (v := nI (on s)) (zat TX3_spread_0 21 rfl) s70 (by decide) (wcn hW 10 rfl) (by decide) rfl (by omega) b1 ?_
      refine x_istore (ls2 := [_, _, _, _, _, _, _, _, _]) (zat TX3_spread_0 22 rfl) (by decide) rfl ?_
      refine w_aload_n (zat TX3_spread_0 23 rfl) rfl ?_
      refine w_getR (zat TX3_spread_0 24 rfl) fX3_34 s56 (by decide) (by decide) rfl (wcr hW 20 rfl) ?_
      refine w_iload (zat TX3_spread_0 25 rfl) rfl ?_
      refine y_iaload _ _ (v := nI (ot s)) (zat TX3_spread_0 26 rfl) s71 (by decide) (wcn hW 11 rfl) (by decide) rfl (by omega) b2 ?_
      refine x_istore (ls2 := [_, _, _, _, _, _, _, _, _]) (zat TX3_spread_0 27 rfl) (by decide) rfl ?_
      refine w_aload_n (zat TX3_spread_0 28 rfl) rfl ?_
      refine w_getR (zat TX3_spread_0 29 rfl) fX3_37 s56 (by decide) (by decide) rfl (wcr hW 21 rfl) ?_
      refine w_iload (zat TX3_spread_0 30 rfl) rfl ?_
      refine y_iaload _ _ (v := zI h 72 0 s) (zat TX3_spread_0 31 rfl) s72 (by decide) (wcn hW 12 rfl) (by decide) rfl (by omega) rfl ?_
      refine w_iload_n (zat TX3_spread_0 32 rfl) rfl ?_
      refine w_ishl (zat TX3_spread_0 33 rfl) ?_
      rw [b5]
      refine x_istore (ls2 := [_, _, _, _, _, _, _, _, _]) (zat TX3_spread_0 34 rfl) (by decide) rfl ?_
      refine w_aload_n (zat TX3_spread_0 35 rfl) rfl ?_
      refine w_iload (zat TX3_spread_0 36 rfl) rfl ?_
      refine y_iaload (on s) _ (v := nI (G (on s))) (zat TX3_spread_0 37 rfl) hgs hgr hgN2 (by decide) rfl (by omega) t1 ?_
      refine w_iload (zat TX3_spread_0 38 rfl) rfl ?_
      refine w_iadd (zat TX3_spread_0 39 rfl) ?_
      refine w_aload_n (zat TX3_spread_0 40 rfl) rfl ?_
      refine w_iload (zat TX3_spread_0 41 rfl) rfl ?_
      refine y_iaload (ot s) _ (v := nI (G (ot s))) (zat TX3_spread_0 42 rfl) hgs hgr hgN2 (by decide) rfl (by omega) t2 ?_
      rw [nI_add]
      refine w_icmp_ge 91 (zat TX3_spread_0 43 rfl) (by decide) (fun Hc72 => ?_) (fun Hc72 => ?_)
      · rw [nI_leI (by omega) (by omega)] at Hc72
        refine w_aload_n (zat TX3_spread_0 55 rfl) rfl ?_
        refine w_iload (zat TX3_spread_0 56 rfl) rfl ?_
        refine y_iaload (ot s) _ (v := nI (G (ot s))) (zat TX3_spread_0 57 rfl) hgs hgr hgN2 (by decide) rfl (by omega) t2 ?_
        refine w_iload (zat TX3_spread_0 58 rfl) rfl ?_
        refine w_iadd (zat TX3_spread_0 59 rfl) ?_
        refine w_aload_n (zat TX3_spread_1 0 rfl) rfl ?_
        refine w_iload (zat TX3_spread_1 1 rfl) rfl ?_
        refine y_iaload (on s) _ (v := nI (G (on s))) (zat TX3_spread_1 2 rfl) hgs hgr hgN2 (by decide) rfl (by omega) t1 ?_
        rw [nI_add]
        refine w_icmp_ge 118 (zat TX3_spread_1 3 rfl) (by decide) (fun Hc102 => ?_) (fun Hc102 => ?_)
        · rw [nI_leI (by omega) (by omega)] at Hc102
          refine x_iinc (v := nI (s + 1)) (ls2 := [_, _, _, _, _, _, _, _, _]) (zat TX3_spread_1 14 rfl) rfl (nI_inc s) rfl ?_
          refine w_goto 23 (zat TX3_spread_1 15 rfl) (by decide) ?_
          first
            | (rw [show bS (on s) (ot s) (w s) G = upN G (ot s) (G (on s) + w s) from if_pos (by omega), show bC (on s) (ot s) (w s) G = true from decide_eq_true (Or.inl (by omega)), Bool.or_true] at ih2
               exact ih2 _ (hF.w _ _) (hC.w _ _) _ _ _)
            | (rw [show bS (on s) (ot s) (w s) G = upN G (on s) (G (ot s) + w s) from (if_neg (by omega)).trans (if_pos (by omega)), show bC (on s) (ot s) (w s) G = true from decide_eq_true (Or.inr (by omega)), Bool.or_true] at ih2
               exact ih2 _ (hF.w _ _) (hC.w _ _) _ _ _)
            | (rw [show bS (on s) (ot s) (w s) G = G from (if_neg (by omega)).trans (if_neg (by omega)), show bC (on s) (ot s) (w s) G = false from decide_eq_false (by omega), Bool.or_false] at ih2
               exact ih2 _ hF hC _ _ _)
        · rw [nI_leI (by omega) (by omega)] at Hc102
          refine w_aload_n (zat TX3_spread_1 4 rfl) rfl ?_
          refine w_iload (zat TX3_spread_1 5 rfl) rfl ?_
          refine w_aload_n (zat TX3_spread_1 6 rfl) rfl ?_
          refine w_iload (zat TX3_spread_1 7 rfl) rfl ?_
          refine y_iaload (ot s) _ (v := nI (G (ot s))) (zat TX3_spread_1 8 rfl) hgs hgr hgN2 (by decide) rfl (by omega) t2 ?_
          refine w_iload (zat TX3_spread_1 9 rfl) rfl ?_
          refine w_iadd (zat TX3_spread_1 10 rfl) ?_
          rw [nI_add]
          refine x_iastore (on s) _ (zat TX3_spread_1 11 rfl) hgs hgr hgN2 (by decide) rfl (by omega) ?_
          refine w_iconst (v := 1) (zat TX3_spread_1 12 rfl) (by decide) ?_
          refine x_istore_n (ls2 := [_, _, _, _, _, _, _, _, _]) (zat TX3_spread_1 13 rfl) (by decide) rfl ?_
          refine x_iinc (v := nI (s + 1)) (ls2 := [_, _, _, _, _, _, _, _, _]) (zat TX3_spread_1 14 rfl) rfl (nI_inc s) rfl ?_
          refine w_goto 23 (zat TX3_spread_1 15 rfl) (by decide) ?_
          first
            | (rw [show bS (on s) (ot s) (w s) G = upN G (ot s) (G (on s) + w s) from if_pos (by omega), show bC (on s) (ot s) (w s) G = true from decide_eq_true (Or.inl (by omega)), Bool.or_true] at ih2
               exact ih2 _ (hF.w _ _) (hC.w _ _) _ _ _)
            | (rw [show bS (on s) (ot s) (w s) G = upN G (on s) (G (ot s) + w s) from (if_neg (by omega)).trans (if_pos (by omega)), show bC (on s) (ot s) (w s) G = true from decide_eq_true (Or.inr (by omega)), Bool.or_true] at ih2
               exact ih2 _ (hF.w _ _) (hC.w _ _) _ _ _)
            | (rw [show bS (on s) (ot s) (w s) G = G from (if_neg (by omega)).trans (if_neg (by omega)), show bC (on s) (ot s) (w s) G = false from decide_eq_false (by omega), Bool.or_false] at ih2
               exact ih2 _ hF hC _ _ _)
      · rw [nI_leI (by omega) (by omega)] at Hc72
        refine w_aload_n (zat TX3_spread_0 44 rfl) rfl ?_
        refine w_iload (zat TX3_spread_0 45 rfl) rfl ?_
        refine w_aload_n (zat TX3_spread_0 46 rfl) rfl ?_
        refine w_iload (zat TX3_spread_0 47 rfl) rfl ?_
        refine y_iaload (on s) _ (v := nI (G (on s))) (zat TX3_spread_0 48 rfl) hgs hgr hgN2 (by decide) rfl (by omega) t1 ?_
        refine w_iload (zat TX3_spread_0 49 rfl) rfl ?_
        refine w_iadd (zat TX3_spread_0 50 rfl) ?_
        rw [nI_add]
        refine x_iastore (ot s) _ (zat TX3_spread_0 51 rfl) hgs hgr hgN2 (by decide) rfl (by omega) ?_
        refine w_iconst (v := 1) (zat TX3_spread_0 52 rfl) (by decide) ?_
        refine x_istore_n (ls2 := [_, _, _, _, _, _, _, _, _]) (zat TX3_spread_0 53 rfl) (by decide) rfl ?_
        refine w_goto 118 (zat TX3_spread_0 54 rfl) (by decide) ?_
        refine x_iinc (v := nI (s + 1)) (ls2 := [_, _, _, _, _, _, _, _, _]) (zat TX3_spread_1 14 rfl) rfl (nI_inc s) rfl ?_
        refine w_goto 23 (zat TX3_spread_1 15 rfl) (by decide) ?_
        first
          | (rw [show bS (on s) (ot s) (w s) G = upN G (ot s) (G (on s) + w s) from if_pos (by omega), show bC (on s) (ot s) (w s) G = true from decide_eq_true (Or.inl (by omega)), Bool.or_true] at ih2
             exact ih2 _ (hF.w _ _) (hC.w _ _) _ _ _)
          | (rw [show bS (on s) (ot s) (w s) G = upN G (on s) (G (ot s) + w s) from (if_neg (by omega)).trans (if_pos (by omega)), show bC (on s) (ot s) (w s) G = true from decide_eq_true (Or.inr (by omega)), Bool.or_true] at ih2
             exact ih2 _ (hF.w _ _) (hC.w _ _) _ _ _)
          | (rw [show bS (on s) (ot s) (w s) G = G from (if_neg (by omega)).trans (if_neg (by omega)), show bC (on s) (ot s) (w s) G = false from decide_eq_false (by omega), Bool.or_false] at ih2
             exact ih2 _ hF hC _ _ _)
