-- THE MODEL'S LOOPS, by program (wip/gen/p21.py)
theorem nI_inc (a : Nat) : nI a + Int32.ofInt 1 = nI (a + 1) := nI_1 a
theorem lc_le {x y : Int64} : lg_cmp x y ≤ 0 ↔ ¬ y < x := by rw [← lc_gt, Int32.not_lt]
theorem i_le {x y : Int32} : ¬ (x ≤ y) ↔ y < x := Int32.not_le
theorem nI_ne2 (j : Nat) (h : j < 2 ^ 31) : ¬ nI j = -2 := by
  intro q
  have h1 := congrArg Int32.toInt q
  rw [nI_toInt h] at h1
  have h2 : (-2 : Int32).toInt = -2 := by decide
  rw [h2] at h1
  omega
theorem nI_ne1 (j : Nat) (h : j < 2 ^ 31) : ¬ nI j = -1 := by
  intro q
  have h1 := congrArg Int32.toInt q
  rw [nI_toInt h] at h1
  have h2 : (-1 : Int32).toInt = -1 := by decide
  rw [h2] at h1
  omega
/-- the worst of the first s stores -/
def mW (Z : Nat → Int64) : Nat → Int32
  | 0 => -2
  | s + 1 => if 0 < Z s ∧ (mW Z s = -2 ∨ Z (mW Z s).toNatClampNeg < Z s) then nI s else mW Z s
theorem mW_ix (Z : Nat → Int64) : ∀ s, s < 1000 → mW Z s = -2 ∨ ∃ j, j < s ∧ mW Z s = nI j
  | 0, _ => Or.inl rfl
  | s + 1, h => by
    unfold mW
    split
    · exact Or.inr ⟨s, Nat.lt_succ_self s, rfl⟩
    · rcases mW_ix Z s (by omega) with q | ⟨j, h1, h2⟩
      · exact Or.inl q
      · exact Or.inr ⟨j, by omega, h2⟩
theorem lX14_worst (l : Launch) (h : zH) (hWM : Wm h) (nS : Nat) (hS : zI h 1 0 40 = nI nS) (hS2 : nS ≤ 8) : ∀ kk s : Nat, s + kk = nS → Wp l mX14_worst 1 10 [some (Vq (some (1, 0))), some (Vi (mW (zL h 33 0) s)), some (Vi (nI s))] [] (zsI h 1 0 0 0) (fun o h' => o = Rv (Vi (mW (zL h 33 0) nS)) ∧ h' = (zsI h 1 0 0 0)) := by
  intro kk
  induction kk with
  | zero =>
    intro s hs
    refine w_iload_n (zat TX14_worst 7 rfl) rfl ?_
    refine w_aload_n (zat TX14_worst 8 rfl) rfl ?_
    refine y_getI (v := nI nS) (zat TX14_worst 9 rfl) fX14_367 s1 (by decide) (by decide) rfl hS ?_
    refine w_icmp_ge 59 (zat TX14_worst 10 rfl) (by decide) (fun Hc15 => ?_) (fun Hc15 => ?_)
    · refine w_iload_n (zat TX14_worst 35 rfl) rfl ?_
      refine w_ireturn (zat TX14_worst 36 rfl) rfl rfl ?_
      exact ⟨by rw [show s = nS by omega], rfl⟩
    · exact absurd (nI_le (by omega) (by omega)) Hc15
  | succ kk ih =>
    intro s hs
    refine w_iload_n (zat TX14_worst 7 rfl) rfl ?_
    refine w_aload_n (zat TX14_worst 8 rfl) rfl ?_
    refine y_getI (v := nI nS) (zat TX14_worst 9 rfl) fX14_367 s1 (by decide) (by decide) rfl hS ?_
    refine w_icmp_ge 59 (zat TX14_worst 10 rfl) (by decide) (fun Hc15 => ?_) (fun Hc15 => ?_)
    · exact absurd Hc15 (nI_ge (by omega) (by omega))
    · refine w_aload_n (zat TX14_worst 11 rfl) rfl ?_
      refine w_getR (zat TX14_worst 12 rfl) fX14_96 s1 (by decide) (by decide) rfl (wmr hWM 22 rfl) ?_
      refine w_iload_n (zat TX14_worst 13 rfl) rfl ?_
      refine y_laload _ _ (v := zL h 33 0 s) (zat TX14_worst 14 rfl) s33 (by decide) (wmn hWM 21 rfl) (by decide) rfl (by omega) rfl ?_
      refine w_lconst (v := 0) (zat TX14_worst 15 rfl) (by decide) ?_
      refine w_lcmp (zat TX14_worst 16 rfl) ?_
      refine w_if_le 53 (zat TX14_worst 17 rfl) (by decide) (fun Hc26 => ?_) (fun Hc26 => ?_)
      · rw [lc_le] at Hc26
        have Hm : mW (zL h 33 0) (s + 1) = mW (zL h 33 0) s := by rw [mW, if_neg (fun q => Hc26 q.1)]
        refine x_iinc (v := nI (s + 1)) (ls2 := [_, _, _]) (zat TX14_worst 33 rfl) rfl (nI_inc s) rfl ?_
        refine w_goto 10 (zat TX14_worst 34 rfl) (by decide) ?_
        rw [← Hm]
        exact ih (s + 1) (by omega)
      · rw [lc_le, Decidable.not_not] at Hc26
        refine w_iload_n (zat TX14_worst 18 rfl) rfl ?_
        refine w_bipush (v := -2) (zat TX14_worst 19 rfl) (by decide) ?_
        refine w_icmp_eq 51 (zat TX14_worst 20 rfl) (by decide) (fun Hc32 => ?_) (fun Hc32 => ?_)
        · have Hm : mW (zL h 33 0) (s + 1) = nI s := by rw [mW, if_pos ⟨Hc26, Or.inl Hc32⟩]
          refine w_iload_n (zat TX14_worst 31 rfl) rfl ?_
          refine x_istore_n (ls2 := [_, _, _]) (zat TX14_worst 32 rfl) (by decide) rfl ?_
          refine x_iinc (v := nI (s + 1)) (ls2 := [_, _, _]) (zat TX14_worst 33 rfl) rfl (nI_inc s) rfl ?_
          refine w_goto 10 (zat TX14_worst 34 rfl) (by decide) ?_
          rw [← Hm]
          exact ih (s + 1) (by omega)
        · obtain ⟨j, Hj1, Hj2⟩ := (mW_ix (zL h 33 0) s (by omega)).resolve_left Hc32
          refine w_aload_n (zat TX14_worst 21 rfl) rfl ?_
          refine w_getR (zat TX14_worst 22 rfl) fX14_96 s1 (by decide) (by decide) rfl (wmr hWM 22 rfl) ?_
          refine w_iload_n (zat TX14_worst 23 rfl) rfl ?_
          refine y_laload _ _ (v := zL h 33 0 s) (zat TX14_worst 24 rfl) s33 (by decide) (wmn hWM 21 rfl) (by decide) rfl (by omega) rfl ?_
          refine w_aload_n (zat TX14_worst 25 rfl) rfl ?_
          refine w_getR (zat TX14_worst 26 rfl) fX14_96 s1 (by decide) (by decide) rfl (wmr hWM 22 rfl) ?_
          refine w_iload_n (zat TX14_worst 27 rfl) rfl ?_
          refine y_laload j _ (v := zL h 33 0 j) (zat TX14_worst 28 rfl) s33 (by decide) (wmn hWM 21 rfl) (by decide) Hj2 (by omega) rfl ?_
          refine w_lcmp (zat TX14_worst 29 rfl) ?_
          refine w_if_le 53 (zat TX14_worst 30 rfl) (by decide) (fun Hc48 => ?_) (fun Hc48 => ?_)
          · rw [lc_le] at Hc48
            have Hm : mW (zL h 33 0) (s + 1) = mW (zL h 33 0) s := by rw [mW, if_neg (fun q => q.2.elim Hc32 (fun z => Hc48 (by rw [Hj2, nI_clamp (by omega)] at z; exact z)))]
            refine x_iinc (v := nI (s + 1)) (ls2 := [_, _, _]) (zat TX14_worst 33 rfl) rfl (nI_inc s) rfl ?_
            refine w_goto 10 (zat TX14_worst 34 rfl) (by decide) ?_
            rw [← Hm]
            exact ih (s + 1) (by omega)
          · rw [lc_le, Decidable.not_not] at Hc48
            have Hm : mW (zL h 33 0) (s + 1) = nI s := by rw [mW, if_pos ⟨Hc26, Or.inr (by rw [Hj2, nI_clamp (by omega)]; exact Hc48)⟩]
            refine w_iload_n (zat TX14_worst 31 rfl) rfl ?_
            refine x_istore_n (ls2 := [_, _, _]) (zat TX14_worst 32 rfl) (by decide) rfl ?_
            refine x_iinc (v := nI (s + 1)) (ls2 := [_, _, _]) (zat TX14_worst 33 rfl) rfl (nI_inc s) rfl ?_
            refine w_goto 10 (zat TX14_worst 34 rfl) (by decide) ?_
            rw [← Hm]
            exact ih (s + 1) (by omega)
theorem qX14_worst (l : Launch) (h : zH) (hWM : Wm h) (nS : Nat) (hS : zI h 1 0 40 = nI nS) (hS2 : nS ≤ 8) : Cx l 1 mX14_worst [Vq (some (1, 0))] h (Rv (Vi (mW (zL h 33 0) nS))) (zsI h 1 0 0 0) := by
  refine Ct.in 2 kX14_worst (plainFor_of_name rfl) (Nat.le_of_ble_eq_true rfl) ?_
  refine w_aload_n (zat TX14_worst 0 rfl) rfl ?_
  refine w_iconst (v := 0) (zat TX14_worst 1 rfl) (by decide) ?_
  refine w_putI (zat TX14_worst 2 rfl) gX14_worst_100 s1 (by decide) (by decide) rfl ⟨rfl, rfl⟩ ?_
  refine w_bipush (v := -2) (zat TX14_worst 3 rfl) (by decide) ?_
  refine x_istore_n (ls2 := [_, _, _]) (zat TX14_worst 4 rfl) (by decide) rfl ?_
  refine w_iconst (v := 0) (zat TX14_worst 5 rfl) (by decide) ?_
  refine x_istore_n (ls2 := [_, _, _]) (zat TX14_worst 6 rfl) (by decide) rfl ?_
  exact lX14_worst l h hWM nS hS hS2 nS 0 (by omega)
def mG (f : Nat → Int32) : Nat → Int32
  | 0 => 0
  | s + 1 => mG f s + f s
theorem lX14_count (l : Launch) (h : zH) (hWM : Wm h) (w : Int32) (nB : Nat) (hB : zI h 1 0 5 = nI nB) (hB2 : nB ≤ 16) : ∀ kk s : Nat, s + kk = nB → Wp l mX14_count 1 82 [some (Vq (some (1, 0))), some (Vi w), some (Vi (mG (zI h 15 0) s)), some (Vi (nI s))] [] (zsI h 1 0 0 0) (fun o h' => o = Rv (Vi (mG (zI h 15 0) nB)) ∧ h' = (zsI h 1 0 0 0)) := by
  intro kk
  induction kk with
  | zero =>
    intro s hs
    refine w_iload_n (zat TX14_count 27 rfl) rfl ?_
    refine w_aload_n (zat TX14_count 28 rfl) rfl ?_
    refine y_getI (v := nI nB) (zat TX14_count 29 rfl) fX14_109 s1 (by decide) (by decide) rfl hB ?_
    refine w_icmp_ge 105 (zat TX14_count 30 rfl) (by decide) (fun Hc87 => ?_) (fun Hc87 => ?_)
    · refine w_iload_n (zat TX14_count 40 rfl) rfl ?_
      refine w_ireturn (zat TX14_count 41 rfl) rfl rfl ?_
      exact ⟨by rw [show s = nB by omega], rfl⟩
    · exact absurd (nI_le (by omega) (by omega)) Hc87
  | succ kk ih =>
    intro s hs
    refine w_iload_n (zat TX14_count 27 rfl) rfl ?_
    refine w_aload_n (zat TX14_count 28 rfl) rfl ?_
    refine y_getI (v := nI nB) (zat TX14_count 29 rfl) fX14_109 s1 (by decide) (by decide) rfl hB ?_
    refine w_icmp_ge 105 (zat TX14_count 30 rfl) (by decide) (fun Hc87 => ?_) (fun Hc87 => ?_)
    · exact absurd Hc87 (nI_ge (by omega) (by omega))
    · refine w_iload_n (zat TX14_count 31 rfl) rfl ?_
      refine w_aload_n (zat TX14_count 32 rfl) rfl ?_
      refine w_getR (zat TX14_count 33 rfl) fX14_32 s1 (by decide) (by decide) rfl (wmr hWM 5 rfl) ?_
      refine w_iload_n (zat TX14_count 34 rfl) rfl ?_
      refine y_iaload _ _ (v := zI h 15 0 s) (zat TX14_count 35 rfl) s15 (by decide) (wmn hWM 5 rfl) (by decide) rfl (by omega) rfl ?_
      refine w_iadd (zat TX14_count 36 rfl) ?_
      refine x_istore_n (ls2 := [_, _, _, _]) (zat TX14_count 37 rfl) (by decide) rfl ?_
      refine x_iinc (v := nI (s + 1)) (ls2 := [_, _, _, _]) (zat TX14_count 38 rfl) rfl (nI_inc s) rfl ?_
      refine w_goto 82 (zat TX14_count 39 rfl) (by decide) ?_
      exact ih (s + 1) (by omega)
def mCount (h : zH) (nB : Nat) (w : Int32) : Int32 := if w = 0 then zI h 1 0 4 else if w = 1 then zI h 1 0 5 else if w = 2 then zI h 1 0 14 else if w = 3 then zI h 1 0 6 else if w = 4 then zI h 1 0 40 else if w = 5 then zI h 1 0 19 else if w = 6 then mG (zI h 15 0) nB else -1
theorem qX14_count (l : Launch) (h : zH) (hWM : Wm h) (w : Int32) (nB : Nat) (hB : zI h 1 0 5 = nI nB) (hB2 : nB ≤ 16) : Cx l 1 mX14_count [Vq (some (1, 0)), Vi w] h (Rv (Vi (mCount h nB w))) (zsI h 1 0 0 0) := by
  refine Ct.in 2 kX14_count (plainFor_of_name rfl) (Nat.le_of_ble_eq_true rfl) ?_
  refine w_aload_n (zat TX14_count 0 rfl) rfl ?_
  refine w_iconst (v := 0) (zat TX14_count 1 rfl) (by decide) ?_
  refine w_putI (zat TX14_count 2 rfl) gX14_count_100 s1 (by decide) (by decide) rfl ⟨rfl, rfl⟩ ?_
  refine w_iload_n (zat TX14_count 3 rfl) rfl ?_
  by_cases Hw0 : w = 0
  · subst Hw0
    refine w_tableIn 48 (zat TX14_count 4 rfl) (by decide) (by decide) rfl (by decide) ?_
    refine w_aload_n (zat TX14_count 5 rfl) rfl ?_
    refine y_getI (v := zI h 1 0 4) (zat TX14_count 6 rfl) fX14_106 s1 (by decide) (by decide) rfl rfl ?_
    refine w_ireturn (zat TX14_count 7 rfl) rfl rfl ?_
    exact ⟨by simp only [mCount]; rfl, rfl⟩
  · skip
    by_cases Hw1 : w = 1
    · subst Hw1
      refine w_tableIn 53 (zat TX14_count 4 rfl) (by decide) (by decide) rfl (by decide) ?_
      refine w_aload_n (zat TX14_count 8 rfl) rfl ?_
      refine y_getI (v := zI h 1 0 5) (zat TX14_count 9 rfl) fX14_109 s1 (by decide) (by decide) rfl rfl ?_
      refine w_ireturn (zat TX14_count 10 rfl) rfl rfl ?_
      exact ⟨by simp only [mCount]; rfl, rfl⟩
    · skip
      by_cases Hw2 : w = 2
      · subst Hw2
        refine w_tableIn 58 (zat TX14_count 4 rfl) (by decide) (by decide) rfl (by decide) ?_
        refine w_aload_n (zat TX14_count 11 rfl) rfl ?_
        refine y_getI (v := zI h 1 0 14) (zat TX14_count 12 rfl) fX14_272 s1 (by decide) (by decide) rfl rfl ?_
        refine w_ireturn (zat TX14_count 13 rfl) rfl rfl ?_
        exact ⟨by simp only [mCount]; rfl, rfl⟩
      · skip
        by_cases Hw3 : w = 3
        · subst Hw3
          refine w_tableIn 63 (zat TX14_count 4 rfl) (by decide) (by decide) rfl (by decide) ?_
          refine w_aload_n (zat TX14_count 14 rfl) rfl ?_
          refine y_getI (v := zI h 1 0 6) (zat TX14_count 15 rfl) fX14_324 s1 (by decide) (by decide) rfl rfl ?_
          refine w_ireturn (zat TX14_count 16 rfl) rfl rfl ?_
          exact ⟨by simp only [mCount]; rfl, rfl⟩
        · skip
          by_cases Hw4 : w = 4
          · subst Hw4
            refine w_tableIn 68 (zat TX14_count 4 rfl) (by decide) (by decide) rfl (by decide) ?_
            refine w_aload_n (zat TX14_count 17 rfl) rfl ?_
            refine y_getI (v := zI h 1 0 40) (zat TX14_count 18 rfl) fX14_367 s1 (by decide) (by decide) rfl rfl ?_
            refine w_ireturn (zat TX14_count 19 rfl) rfl rfl ?_
            exact ⟨by simp only [mCount]; rfl, rfl⟩
          · skip
            by_cases Hw5 : w = 5
            · subst Hw5
              refine w_tableIn 73 (zat TX14_count 4 rfl) (by decide) (by decide) rfl (by decide) ?_
              refine w_aload_n (zat TX14_count 20 rfl) rfl ?_
              refine y_getI (v := zI h 1 0 19) (zat TX14_count 21 rfl) fX14_263 s1 (by decide) (by decide) rfl rfl ?_
              refine w_ireturn (zat TX14_count 22 rfl) rfl rfl ?_
              exact ⟨by simp only [mCount]; rfl, rfl⟩
            · skip
              by_cases Hw6 : w = 6
              · subst Hw6
                refine w_tableIn 78 (zat TX14_count 4 rfl) (by decide) (by decide) rfl (by decide) ?_
                refine w_iconst (v := 0) (zat TX14_count 23 rfl) (by decide) ?_
                refine x_istore_n (ls2 := [_, _, _, _]) (zat TX14_count 24 rfl) (by decide) rfl ?_
                refine w_iconst (v := 0) (zat TX14_count 25 rfl) (by decide) ?_
                refine x_istore_n (ls2 := [_, _, _, _]) (zat TX14_count 26 rfl) (by decide) rfl ?_
                exact (lX14_count l h hWM 6 nB hB hB2 nB 0 (by omega)).imp (fun o h2 q => ⟨q.1.trans (by simp only [mCount]; rfl), q.2⟩)
              · skip
                have Hout : w.toInt < 0 ∨ 6 < w.toInt := by
                  rcases Int.lt_or_le w.toInt 0 with q | q
                  · exact Or.inl q
                  · rcases Int.lt_or_le 6 w.toInt with q2 | q2
                    · exact Or.inr q2
                    · exfalso
                      have Hz : w = Int32.ofInt w.toInt := (Int32.ofInt_toInt w).symm
                      rcases (show w.toInt = 0 ∨ w.toInt = 1 ∨ w.toInt = 2 ∨ w.toInt = 3 ∨ w.toInt = 4 ∨ w.toInt = 5 ∨ w.toInt = 6 by omega) with e | e | e | e | e | e | e <;> rw [e] at Hz
                      · exact Hw0 Hz
                      · exact Hw1 Hz
                      · exact Hw2 Hz
                      · exact Hw3 Hz
                      · exact Hw4 Hz
                      · exact Hw5 Hz
                      · exact Hw6 Hz
                refine w_tableOut 107 (zat TX14_count 4 rfl) Hout (by decide) ?_
                refine w_iconst (v := -1) (zat TX14_count 42 rfl) (by decide) ?_
                refine w_ireturn (zat TX14_count 43 rfl) rfl rfl ?_
                exact ⟨by rw [mCount, if_neg Hw0, if_neg Hw1, if_neg Hw2, if_neg Hw3, if_neg Hw4, if_neg Hw5, if_neg Hw6], rfl⟩
