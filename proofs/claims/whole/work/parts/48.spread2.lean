-- spread of the class: the rounds, by program (wip/gen/p48.py)
theorem lX3_spread_5 (l : Launch) (h0 : zH) (hW0 : Wc h0) (nP : Nat) (hP0 : zI h0 56 0 9 = nI nP) (hP2 : nP ≤ 10) (nB : Nat) (hB0 : zI h0 56 0 10 = nI nB) (hB2 : nB ≤ 16) (g : Nat) (hgs : zshp g = 100) (hgr : g < 900) (hgN : zN h0 g 0 = 10) (hg1 : g ≠ 56) (hg2 : g ≠ 70) (hg3 : g ≠ 71) (hg4 : g ≠ 72) (bits : Int32) (on ot w : Nat → Nat) (hBJ : BJ h0 nP nB bits on ot w) : ∀ kk r : Nat, r + kk = nP → ∀ (ch : Bool) (F : Nat → Nat), (∀ j, j < nP → F j ≤ 2000000) → ∀ h, FrG g h0 h → CF h g nP F → ∀ x5 x6 x7 x8, Wp l mX3_spread 1 5 [some (Vq (some (56, 0))), some (Vq (some (g, 0))), some (Vi bits), some (Vi (zB ch)), some (Vi (nI r)), x5, x6, x7, x8] [] h (fun o h' => o = R0 ∧ FrG g h0 h' ∧ CF h' g nP (if ch then bL on ot w nB kk F else F)) := by
  intro kk
  induction kk with
  | zero =>
    intro r hr ch F hFl h hF hC x5 x6 x7 x8
    have hg : h.2.2 = h0.2.2 := congrArg Prod.snd hF.1
    have hW := Wc.same hg hW0
    have hP : zI h 56 0 9 = nI nP := by rw [hF.2 56 (Ne.symm hg1)]; exact hP0
    have hB : zI h 56 0 10 = nI nB := by rw [hF.2 56 (Ne.symm hg1)]; exact hB0
    have hgN2 : zN h g 0 = 10 := by unfold zN; rw [hg]; exact hgN
    cases ch
    · skip
      refine w_iload_n (zat TX3_spread_0 4 rfl) rfl ?_
      refine w_if_eq 130 (zat TX3_spread_0 5 rfl) (by decide) (fun Hc6 => ?_) (fun Hc6 => ?_)
      · refine w_return (zat TX3_spread_1 18 rfl) rfl ?_
        exact ⟨rfl, hF, hC⟩
      · exact absurd rfl Hc6
    · skip
      refine w_iload_n (zat TX3_spread_0 4 rfl) rfl ?_
      refine w_if_eq 130 (zat TX3_spread_0 5 rfl) (by decide) (fun Hc6 => ?_) (fun Hc6 => ?_)
      · exact absurd Hc6 (by decide)
      · refine w_iload (zat TX3_spread_0 6 rfl) rfl ?_
        refine w_aload_n (zat TX3_spread_0 7 rfl) rfl ?_
        refine y_getI (v := nI nP) (zat TX3_spread_0 8 rfl) fX3_40 s56 (by decide) (by decide) rfl hP ?_
        refine w_icmp_ge 130 (zat TX3_spread_0 9 rfl) (by decide) (fun Hc15 => ?_) (fun Hc15 => ?_)
        · refine w_return (zat TX3_spread_1 18 rfl) rfl ?_
          exact ⟨rfl, hF, hC⟩
        · exact absurd (nI_le (by omega) (by omega)) Hc15
  | succ kk ih =>
    intro r hr ch F hFl h hF hC x5 x6 x7 x8
    have hg : h.2.2 = h0.2.2 := congrArg Prod.snd hF.1
    have hW := Wc.same hg hW0
    have hP : zI h 56 0 9 = nI nP := by rw [hF.2 56 (Ne.symm hg1)]; exact hP0
    have hB : zI h 56 0 10 = nI nB := by rw [hF.2 56 (Ne.symm hg1)]; exact hB0
    have hgN2 : zN h g 0 = 10 := by unfold zN; rw [hg]; exact hgN
    cases ch
    · skip
      refine w_iload_n (zat TX3_spread_0 4 rfl) rfl ?_
      refine w_if_eq 130 (zat TX3_spread_0 5 rfl) (by decide) (fun Hc6 => ?_) (fun Hc6 => ?_)
      · refine w_return (zat TX3_spread_1 18 rfl) rfl ?_
        exact ⟨rfl, hF, hC⟩
      · exact absurd rfl Hc6
    · skip
      refine w_iload_n (zat TX3_spread_0 4 rfl) rfl ?_
      refine w_if_eq 130 (zat TX3_spread_0 5 rfl) (by decide) (fun Hc6 => ?_) (fun Hc6 => ?_)
      · exact absurd Hc6 (by decide)
      · refine w_iload (zat TX3_spread_0 6 rfl) rfl ?_
        refine w_aload_n (zat TX3_spread_0 7 rfl) rfl ?_
        refine y_getI (v := nI nP) (zat TX3_spread_0 8 rfl) fX3_40 s56 (by decide) (by decide) rfl hP ?_
        refine w_icmp_ge 130 (zat TX3_spread_0 9 rfl) (by decide) (fun Hc15 => ?_) (fun Hc15 => ?_)
        · exact absurd Hc15 (nI_ge (by omega) (by omega))
        · refine w_iconst (v := 0) (zat TX3_spread_0 10 rfl) (by decide) ?_
          refine x_istore_n (ls2 := [_, _, _, _, _, _, _, _, _]) (zat TX3_spread_0 11 rfl) (by decide) rfl ?_
          refine w_iconst (v := 0) (zat TX3_spread_0 12 rfl) (by decide) ?_
          refine x_istore (ls2 := [_, _, _, _, _, _, _, _, _]) (zat TX3_spread_0 13 rfl) (by decide) rfl ?_
          refine lX3_spread_23 l h0 hW0 nP hP0 hP2 nB hB0 hB2 g hgs hgr hgN hg1 hg2 hg3 hg4 bits on ot w hBJ _ F hFl r (fun h hF hC x5 x6 x7 x8 => ?_) nB 0 (by omega) h hF hC _ _ _
          refine x_iinc (v := nI (r + 1)) (ls2 := [_, _, _, _, _, _, _, _, _]) (zat TX3_spread_1 16 rfl) rfl (nI_inc r) rfl ?_
          refine w_goto 5 (zat TX3_spread_1 17 rfl) (by decide) ?_
          exact ih (r + 1) (by omega) (bD on ot w F nB) (bG on ot w F nB) (fun j hj => Nat.le_trans (bG_le on ot w F j nB) (hFl j hj)) h hF hC _ _ _ _
theorem qX3_spread (l : Launch) (h0 : zH) (hW0 : Wc h0) (nP : Nat) (hP0 : zI h0 56 0 9 = nI nP) (hP2 : nP ≤ 10) (nB : Nat) (hB0 : zI h0 56 0 10 = nI nB) (hB2 : nB ≤ 16) (g : Nat) (hgs : zshp g = 100) (hgr : g < 900) (hgN : zN h0 g 0 = 10) (hg1 : g ≠ 56) (hg2 : g ≠ 70) (hg3 : g ≠ 71) (hg4 : g ≠ 72) (bits : Int32) (on ot w : Nat → Nat) (hBJ : BJ h0 nP nB bits on ot w) (F : Nat → Nat) (hFl : ∀ j, j < nP → F j ≤ 2000000) (hC : CF h0 g nP F) : Ct l 1 mX3_spread [Vq (some (56, 0)), Vq (some (g, 0)), Vi bits] h0 (fun o h' => o = R0 ∧ FrG g h0 h' ∧ CF h' g nP (bL on ot w nB nP F)) := by
  refine Ct.in 6 kX3_spread (plainFor_of_name rfl) (Nat.le_of_ble_eq_true rfl) ?_
  refine w_iconst (v := 1) (zat TX3_spread_0 0 rfl) (by decide) ?_
  refine x_istore_n (ls2 := [_, _, _, _, _, _, _, _, _]) (zat TX3_spread_0 1 rfl) (by decide) rfl ?_
  refine w_iconst (v := 0) (zat TX3_spread_0 2 rfl) (by decide) ?_
  refine x_istore (ls2 := [_, _, _, _, _, _, _, _, _]) (zat TX3_spread_0 3 rfl) (by decide) rfl ?_
  exact lX3_spread_5 l h0 hW0 nP hP0 hP2 nB hB0 hB2 g hgs hgr hgN hg1 hg2 hg3 hg4 bits on ot w hBJ nP 0 (by omega) true F hFl h0 (FrG.rf g h0) hC _ _ _ _
