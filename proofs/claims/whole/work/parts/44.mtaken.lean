-- restOf, takenOf, crownOf of the model, by program (wip/gen/p44.py)
/-- pounds over and above the duty -/
def mRest (h : zH) (j : Nat) : Int64 := (zI h 10 0 j).toInt64 * (zI h 11 0 j - zI h 22 0 j).toInt64
/-- what province j takes, of the first q provinces -/
def mTk (h : zH) (j : Nat) : Nat → Int64
  | 0 => (zI h 10 0 j).toInt64 * (zI h 22 0 j).toInt64 * (zI h 21 0 j).toInt64
  | q + 1 => mTk h j q + (if zI h 24 0 q = nI j then mRest h q * (zI h 21 0 j).toInt64 else 0)
def mCr (h : zH) (nP : Nat) : Nat → Int64
  | 0 => 0
  | p + 1 => mCr h nP p + mTk h p nP
theorem qX14_restOf (l : Launch) (h : zH) (hWM : Wm h) (j : Nat) (hj : j < 10) : Cx l 1 mX14_restOf [Vq (some (1, 0)), Vi (nI j)] h (Rv (Vj (mRest h j))) h := by
  refine Ct.in 0 kX14_restOf (plainFor_of_name rfl) (Nat.le_of_ble_eq_true rfl) ?_
  refine w_aload_n (zat TX14_restOf 0 rfl) rfl ?_
  refine w_getR (zat TX14_restOf 1 rfl) fX14_16 s1 (by decide) (by decide) rfl (wmr hWM 0 rfl) ?_
  refine w_iload_n (zat TX14_restOf 2 rfl) rfl ?_
  refine x_iaload _ _ (zat TX14_restOf 3 rfl) s10 (by decide) (wmn hWM 0 rfl) (by decide) rfl hj ?_
  refine w_i2l (zat TX14_restOf 4 rfl) ?_
  refine w_aload_n (zat TX14_restOf 5 rfl) rfl ?_
  refine w_getR (zat TX14_restOf 6 rfl) fX14_20 s1 (by decide) (by decide) rfl (wmr hWM 1 rfl) ?_
  refine w_iload_n (zat TX14_restOf 7 rfl) rfl ?_
  refine x_iaload _ _ (zat TX14_restOf 8 rfl) s11 (by decide) (wmn hWM 1 rfl) (by decide) rfl hj ?_
  refine w_aload_n (zat TX14_restOf 9 rfl) rfl ?_
  refine w_getR (zat TX14_restOf 10 rfl) fX14_63 s1 (by decide) (by decide) rfl (wmr hWM 11 rfl) ?_
  refine w_iload_n (zat TX14_restOf 11 rfl) rfl ?_
  refine x_iaload _ _ (zat TX14_restOf 12 rfl) s22 (by decide) (wmn hWM 10 rfl) (by decide) rfl hj ?_
  refine w_isub (zat TX14_restOf 13 rfl) ?_
  refine w_i2l (zat TX14_restOf 14 rfl) ?_
  refine w_lmul (zat TX14_restOf 15 rfl) ?_
  refine w_lreturn (zat TX14_restOf 16 rfl) rfl ?_
  exact ⟨rfl, rfl⟩
theorem lX14_takenOf (l : Launch) (h : zH) (hWM : Wm h) (j : Nat) (hj : j < 10) (nP : Nat) (hP : zI h 1 0 4 = nI nP) (hP2 : nP ≤ 10) : ∀ kk s : Nat, s + kk = nP → Wp l mX14_takenOf 2 27 [some (Vq (some (1, 0))), some (Vi (nI j)), some (Vj (mTk h j s)), none, some (Vi (nI s))] [] h (fun o h' => o = Rv (Vj (mTk h j nP)) ∧ h' = h) := by
  intro kk
  induction kk with
  | zero =>
    intro s hs
    refine w_iload (zat TX14_takenOf 20 rfl) rfl ?_
    refine w_aload_n (zat TX14_takenOf 21 rfl) rfl ?_
    refine y_getI (v := nI nP) (zat TX14_takenOf 22 rfl) fX14_106 s1 (by decide) (by decide) rfl hP ?_
    refine w_icmp_ge 74 (zat TX14_takenOf 23 rfl) (by decide) (fun Hc33 => ?_) (fun Hc33 => ?_)
    · refine w_lload_n (zat TX14_takenOf 46 rfl) rfl ?_
      refine w_lreturn (zat TX14_takenOf 47 rfl) rfl ?_
      have e : s = nP := by omega
      subst e
      exact ⟨rfl, rfl⟩
    · exact absurd (nI_le (by omega) (by omega)) Hc33
  | succ kk ih =>
    intro s hs
    refine w_iload (zat TX14_takenOf 20 rfl) rfl ?_
    refine w_aload_n (zat TX14_takenOf 21 rfl) rfl ?_
    refine y_getI (v := nI nP) (zat TX14_takenOf 22 rfl) fX14_106 s1 (by decide) (by decide) rfl hP ?_
    refine w_icmp_ge 74 (zat TX14_takenOf 23 rfl) (by decide) (fun Hc33 => ?_) (fun Hc33 => ?_)
    · exact absurd Hc33 (nI_ge (by omega) (by omega))
    · refine w_lload_n (zat TX14_takenOf 24 rfl) rfl ?_
      refine w_aload_n (zat TX14_takenOf 25 rfl) rfl ?_
      refine w_getR (zat TX14_takenOf 26 rfl) fX14_69 s1 (by decide) (by decide) rfl (wmr hWM 13 rfl) ?_
      refine w_iload (zat TX14_takenOf 27 rfl) rfl ?_
      refine y_iaload _ _ (v := zI h 24 0 s) (zat TX14_takenOf 28 rfl) s24 (by decide) (wmn hWM 12 rfl) (by decide) rfl (by omega) rfl ?_
      refine w_iload_n (zat TX14_takenOf 29 rfl) rfl ?_
      refine w_icmp_ne 65 (zat TX14_takenOf 30 rfl) (by decide) (fun Hc45 => ?_) (fun Hc45 => ?_)
      · refine w_lconst (v := 0) (zat TX14_takenOf 41 rfl) (by decide) ?_
        refine w_ladd (zat TX14_takenOf 42 rfl) ?_
        refine x_lstore_n (ls2 := [_, _, _, _, _]) (zat TX14_takenOf 43 rfl) (by decide) rfl ?_
        refine x_iinc (v := nI (s + 1)) (ls2 := [_, _, _, _, _]) (zat TX14_takenOf 44 rfl) rfl (nI_inc s) rfl ?_
        refine w_goto 27 (zat TX14_takenOf 45 rfl) (by decide) ?_
        have Hi := ih (s + 1) (by omega)
        first | rw [mTk, if_pos Hc45] at Hi | rw [mTk, if_neg Hc45] at Hi
        exact Hi
      · refine w_aload_n (zat TX14_takenOf 31 rfl) rfl ?_
        refine w_iload (zat TX14_takenOf 32 rfl) rfl ?_
        refine x_callv2 (qX14_restOf l h hWM s (by omega)) (by decide) kX14_restOf (rdy_V (zat TX14_takenOf 33 rfl) kX14_restOf pX14_restOf zw1391 zw1393 zw57 (zrc (by decide) (by decide) rfl)) (Nat.le_of_ble_eq_true rfl) rfl rfl ?_
        refine w_aload_n (zat TX14_takenOf 34 rfl) rfl ?_
        refine w_getR (zat TX14_takenOf 35 rfl) fX14_60 s1 (by decide) (by decide) rfl (wmr hWM 10 rfl) ?_
        refine w_iload_n (zat TX14_takenOf 36 rfl) rfl ?_
        refine x_iaload _ _ (zat TX14_takenOf 37 rfl) s21 (by decide) (wmn hWM 9 rfl) (by decide) rfl hj ?_
        refine w_i2l (zat TX14_takenOf 38 rfl) ?_
        refine w_lmul (zat TX14_takenOf 39 rfl) ?_
        refine w_goto 66 (zat TX14_takenOf 40 rfl) (by decide) ?_
        refine w_ladd (zat TX14_takenOf 42 rfl) ?_
        refine x_lstore_n (ls2 := [_, _, _, _, _]) (zat TX14_takenOf 43 rfl) (by decide) rfl ?_
        refine x_iinc (v := nI (s + 1)) (ls2 := [_, _, _, _, _]) (zat TX14_takenOf 44 rfl) rfl (nI_inc s) rfl ?_
        refine w_goto 27 (zat TX14_takenOf 45 rfl) (by decide) ?_
        have Hi := ih (s + 1) (by omega)
        first | rw [mTk, if_pos Hc45] at Hi | rw [mTk, if_neg Hc45] at Hi
        exact Hi
theorem qX14_takenOf (l : Launch) (h : zH) (hWM : Wm h) (j : Nat) (hj : j < 10) (nP : Nat) (hP : zI h 1 0 4 = nI nP) (hP2 : nP ≤ 10) : Cx l 2 mX14_takenOf [Vq (some (1, 0)), Vi (nI j)] h (Rv (Vj (mTk h j nP))) h := by
  refine Ct.in 3 kX14_takenOf (plainFor_of_name rfl) (Nat.le_of_ble_eq_true rfl) ?_
  refine w_aload_n (zat TX14_takenOf 0 rfl) rfl ?_
  refine w_getR (zat TX14_takenOf 1 rfl) fX14_16 s1 (by decide) (by decide) rfl (wmr hWM 0 rfl) ?_
  refine w_iload_n (zat TX14_takenOf 2 rfl) rfl ?_
  refine x_iaload _ _ (zat TX14_takenOf 3 rfl) s10 (by decide) (wmn hWM 0 rfl) (by decide) rfl hj ?_
  refine w_i2l (zat TX14_takenOf 4 rfl) ?_
  refine w_aload_n (zat TX14_takenOf 5 rfl) rfl ?_
  refine w_getR (zat TX14_takenOf 6 rfl) fX14_63 s1 (by decide) (by decide) rfl (wmr hWM 11 rfl) ?_
  refine w_iload_n (zat TX14_takenOf 7 rfl) rfl ?_
  refine x_iaload _ _ (zat TX14_takenOf 8 rfl) s22 (by decide) (wmn hWM 10 rfl) (by decide) rfl hj ?_
  refine w_i2l (zat TX14_takenOf 9 rfl) ?_
  refine w_lmul (zat TX14_takenOf 10 rfl) ?_
  refine w_aload_n (zat TX14_takenOf 11 rfl) rfl ?_
  refine w_getR (zat TX14_takenOf 12 rfl) fX14_60 s1 (by decide) (by decide) rfl (wmr hWM 10 rfl) ?_
  refine w_iload_n (zat TX14_takenOf 13 rfl) rfl ?_
  refine x_iaload _ _ (zat TX14_takenOf 14 rfl) s21 (by decide) (wmn hWM 9 rfl) (by decide) rfl hj ?_
  refine w_i2l (zat TX14_takenOf 15 rfl) ?_
  refine w_lmul (zat TX14_takenOf 16 rfl) ?_
  refine x_lstore_n (ls2 := [_, _, _, _, _]) (zat TX14_takenOf 17 rfl) (by decide) rfl ?_
  refine w_iconst (v := 0) (zat TX14_takenOf 18 rfl) (by decide) ?_
  refine x_istore (ls2 := [_, _, _, _, _]) (zat TX14_takenOf 19 rfl) (by decide) rfl ?_
  exact lX14_takenOf l h hWM j hj nP hP hP2 nP 0 (by omega)
theorem lX14_crownOf (l : Launch) (h : zH) (hWM : Wm h) (nP : Nat) (hP : zI h 1 0 4 = nI nP) (hP2 : nP ≤ 10) : ∀ kk s : Nat, s + kk = nP → Wp l mX14_crownOf 3 4 [some (Vq (some (1, 0))), some (Vj (mCr h nP s)), none, some (Vi (nI s))] [] h (fun o h' => o = Rv (Vj (mCr h nP nP)) ∧ h' = h) := by
  intro kk
  induction kk with
  | zero =>
    intro s hs
    refine w_iload_n (zat TX14_crownOf 4 rfl) rfl ?_
    refine w_aload_n (zat TX14_crownOf 5 rfl) rfl ?_
    refine y_getI (v := nI nP) (zat TX14_crownOf 6 rfl) fX14_106 s1 (by decide) (by decide) rfl hP ?_
    refine w_icmp_ge 26 (zat TX14_crownOf 7 rfl) (by decide) (fun Hc9 => ?_) (fun Hc9 => ?_)
    · refine w_lload_n (zat TX14_crownOf 16 rfl) rfl ?_
      refine w_lreturn (zat TX14_crownOf 17 rfl) rfl ?_
      have e : s = nP := by omega
      subst e
      exact ⟨rfl, rfl⟩
    · exact absurd (nI_le (by omega) (by omega)) Hc9
  | succ kk ih =>
    intro s hs
    refine w_iload_n (zat TX14_crownOf 4 rfl) rfl ?_
    refine w_aload_n (zat TX14_crownOf 5 rfl) rfl ?_
    refine y_getI (v := nI nP) (zat TX14_crownOf 6 rfl) fX14_106 s1 (by decide) (by decide) rfl hP ?_
    refine w_icmp_ge 26 (zat TX14_crownOf 7 rfl) (by decide) (fun Hc9 => ?_) (fun Hc9 => ?_)
    · exact absurd Hc9 (nI_ge (by omega) (by omega))
    · refine w_lload_n (zat TX14_crownOf 8 rfl) rfl ?_
      refine w_aload_n (zat TX14_crownOf 9 rfl) rfl ?_
      refine w_iload_n (zat TX14_crownOf 10 rfl) rfl ?_
      refine x_callv2 (qX14_takenOf l h hWM s (by omega) nP hP hP2) (by decide) kX14_takenOf (rdy_V (zat TX14_crownOf 11 rfl) kX14_takenOf pX14_takenOf zw1387 zw1389 zw56 (zrc (by decide) (by decide) rfl)) (Nat.le_of_ble_eq_true rfl) rfl rfl ?_
      refine w_ladd (zat TX14_crownOf 12 rfl) ?_
      refine x_lstore_n (ls2 := [_, _, _, _]) (zat TX14_crownOf 13 rfl) (by decide) rfl ?_
      refine x_iinc (v := nI (s + 1)) (ls2 := [_, _, _, _]) (zat TX14_crownOf 14 rfl) rfl (nI_inc s) rfl ?_
      refine w_goto 4 (zat TX14_crownOf 15 rfl) (by decide) ?_
      exact ih (s + 1) (by omega)
theorem qX14_crownOf (l : Launch) (h : zH) (hWM : Wm h) (nP : Nat) (hP : zI h 1 0 4 = nI nP) (hP2 : nP ≤ 10) : Cx l 3 mX14_crownOf [Vq (some (1, 0))] h (Rv (Vj (mCr h nP nP))) h := by
  refine Ct.in 3 kX14_crownOf (plainFor_of_name rfl) (Nat.le_of_ble_eq_true rfl) ?_
  refine w_lconst (v := 0) (zat TX14_crownOf 0 rfl) (by decide) ?_
  refine x_lstore_n (ls2 := [_, _, _, _]) (zat TX14_crownOf 1 rfl) (by decide) rfl ?_
  refine w_iconst (v := 0) (zat TX14_crownOf 2 rfl) (by decide) ?_
  refine x_istore_n (ls2 := [_, _, _, _]) (zat TX14_crownOf 3 rfl) (by decide) rfl ?_
  exact lX14_crownOf l h hWM nP hP hP2 nP 0 (by omega)
