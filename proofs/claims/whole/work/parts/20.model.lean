-- THE MODEL'S SMALL METHODS, by program (wip/gen/p20.py)
section zROWS
variable {l : Launch} {M M2 : zM} {d d2 pc nx : Nat} {ls ls2 : List (Option zV)} {st : List zV} {h h2 h' : zH} {Q : zO → zH → Prop}
theorem y_getI {index ci j k i : Nat} {v : Int32} (hd : zAt M pc (.getfield index) 3 nx) (hf : zFld (zMy M).cls index ci j) (hs : zshp k = ci) (hc : ci < 100) (hr : k < 900) (ht : zkd (zty ci j) = 0) (hv : zI h k i j = v) (kk : Wp l M d nx ls (Vi v :: st) h Q) : Wp l M d pc ls (Vq (some (k, i)) :: st) h Q := w_getI hd hf hs hc hr ht (hv ▸ kk)
theorem y_getL {index ci j k i : Nat} {v : Int64} (hd : zAt M pc (.getfield index) 3 nx) (hf : zFld (zMy M).cls index ci j) (hs : zshp k = ci) (hc : ci < 100) (hr : k < 900) (ht : zkd (zty ci j) = 1) (hv : zL h k i j = v) (kk : Wp l M d nx ls (Vj v :: st) h Q) : Wp l M d pc ls (Vq (some (k, i)) :: st) h Q := w_getL hd hf hs hc hr ht (hv ▸ kk)
theorem y_iaload {k i : Nat} {x v : Int32} (n L : Nat) (hd : zAt M pc .iaload 1 nx) (hs : zshp k = 100) (hr : k < 900) (hL : zN h k i = L) (hb : L < 2 ^ 31) (hx : x = nI n) (hn : n < L) (hv : zI h k i n = v) (kk : Wp l M d nx ls (Vi v :: st) h Q) : Wp l M d pc ls (Vi x :: Vq (some (k, i)) :: st) h Q := x_iaload n L hd hs hr hL hb hx hn (hv ▸ kk)
theorem y_baload {k i : Nat} {x v : Int32} (n L : Nat) (hd : zAt M pc .baload 1 nx) (hs : zshp k = 102) (hr : k < 900) (hL : zN h k i = L) (hb : L < 2 ^ 31) (hx : x = nI n) (hn : n < L) (hv : zI h k i n = v) (kk : Wp l M d nx ls (Vi v :: st) h Q) : Wp l M d pc ls (Vi x :: Vq (some (k, i)) :: st) h Q := x_baload n L hd hs hr hL hb hx hn (hv ▸ kk)
theorem y_zaload {k i : Nat} {x v : Int32} (n L : Nat) (hd : zAt M pc .baload 1 nx) (hs : zshp k = 103) (hr : k < 900) (hL : zN h k i = L) (hb : L < 2 ^ 31) (hx : x = nI n) (hn : n < L) (hv : zI h k i n = v) (kk : Wp l M d nx ls (Vi v :: st) h Q) : Wp l M d pc ls (Vi x :: Vq (some (k, i)) :: st) h Q := x_zaload n L hd hs hr hL hb hx hn (hv ▸ kk)
theorem y_laload {k i : Nat} {x : Int32} {v : Int64} (n L : Nat) (hd : zAt M pc .laload 1 nx) (hs : zshp k = 101) (hr : k < 900) (hL : zN h k i = L) (hb : L < 2 ^ 31) (hx : x = nI n) (hn : n < L) (hv : zL h k i n = v) (kk : Wp l M d nx ls (Vj v :: st) h Q) : Wp l M d pc ls (Vi x :: Vq (some (k, i)) :: st) h Q := x_laload n L hd hs hr hL hb hx hn (hv ▸ kk)
end zROWS
/-- an index that the machine has tested -/
theorem ixN {x : Int32} {n : Nat} (hn : n < 2 ^ 31) (h : 0 ≤ x ∧ x < nI n) : ∃ j : Nat, j < n ∧ x = nI j := by
  rcases pk_ix x hn with q | q | q
  · exact absurd h.1 (by rw [Int32.le_iff_toInt_le]; rw [Int32.lt_iff_toInt_lt] at q; omega)
  · exact absurd h.2 (by rw [Int32.lt_iff_toInt_lt]; rw [Int32.le_iff_toInt_le] at q; omega)
  · exact q
theorem nIe {a b : Nat} (ha : a < 2 ^ 31) (hb : b < 2 ^ 31) (h : nI a = nI b) : a = b := (nI_eq ha hb).mp h
theorem nIlt {a b : Nat} (hb : b < 2 ^ 31) (ha : a < 2 ^ 31) (h : nI a < nI b) : a < b := (nI_ltI ha hb).mp h
def mRef (h : zH) (w : Int32) : zH := zsI (zsI h 1 0 1 w) 1 0 2 (-1)
theorem qX14_refused (l : Launch) (h : zH) (w : Int32) : Cx l 1 mX14_refused [Vq (some (1, 0)), Vi w] h (Rv (Vi (-1))) (mRef h w) := by
  refine Ct.in 0 kX14_refused (plainFor_of_name rfl) (Nat.le_of_ble_eq_true rfl) ?_
  refine w_aload_n (zat TX14_refused 0 rfl) rfl ?_
  refine w_iload_n (zat TX14_refused 1 rfl) rfl ?_
  refine w_putI (zat TX14_refused 2 rfl) gX14_refused_103 s1 (by decide) (by decide) rfl ⟨rfl, rfl⟩ ?_
  refine w_aload_n (zat TX14_refused 3 rfl) rfl ?_
  refine w_iconst (v := -1) (zat TX14_refused 4 rfl) (by decide) ?_
  refine w_putI (zat TX14_refused 5 rfl) gX14_refused_9 s1 (by decide) (by decide) rfl ⟨rfl, rfl⟩ ?_
  refine w_iconst (v := -1) (zat TX14_refused 6 rfl) (by decide) ?_
  refine w_ireturn (zat TX14_refused 7 rfl) rfl rfl ?_
  exact ⟨rfl, rfl⟩
theorem qX14_denied (l : Launch) (h : zH) (w : Int32) : Cx l 1 mX14_denied [Vq (some (1, 0)), Vi w] h (Rv (Vi 0)) (mRef h w) := by
  refine Ct.in 0 kX14_denied (plainFor_of_name rfl) (Nat.le_of_ble_eq_true rfl) ?_
  refine w_aload_n (zat TX14_denied 0 rfl) rfl ?_
  refine w_iload_n (zat TX14_denied 1 rfl) rfl ?_
  refine w_putI (zat TX14_denied 2 rfl) gX14_denied_103 s1 (by decide) (by decide) rfl ⟨rfl, rfl⟩ ?_
  refine w_aload_n (zat TX14_denied 3 rfl) rfl ?_
  refine w_iconst (v := -1) (zat TX14_denied 4 rfl) (by decide) ?_
  refine w_putI (zat TX14_denied 5 rfl) gX14_denied_9 s1 (by decide) (by decide) rfl ⟨rfl, rfl⟩ ?_
  refine w_iconst (v := 0) (zat TX14_denied 6 rfl) (by decide) ?_
  refine w_ireturn (zat TX14_denied 7 rfl) rfl rfl ?_
  exact ⟨rfl, rfl⟩
theorem qX14_done (l : Launch) (h : zH) (w : Int32) : Cx l 1 mX14_done [Vq (some (1, 0)), Vi w] h (Rv (Vi w)) (mRef h 0) := by
  refine Ct.in 0 kX14_done (plainFor_of_name rfl) (Nat.le_of_ble_eq_true rfl) ?_
  refine w_aload_n (zat TX14_done 0 rfl) rfl ?_
  refine w_iconst (v := 0) (zat TX14_done 1 rfl) (by decide) ?_
  refine w_putI (zat TX14_done 2 rfl) gX14_done_103 s1 (by decide) (by decide) rfl ⟨rfl, rfl⟩ ?_
  refine w_aload_n (zat TX14_done 3 rfl) rfl ?_
  refine w_iconst (v := -1) (zat TX14_done 4 rfl) (by decide) ?_
  refine w_putI (zat TX14_done 5 rfl) gX14_done_9 s1 (by decide) (by decide) rfl ⟨rfl, rfl⟩ ?_
  refine w_iload_n (zat TX14_done 6 rfl) rfl ?_
  refine w_ireturn (zat TX14_done 7 rfl) rfl rfl ?_
  exact ⟨rfl, rfl⟩
theorem qX14_granted (l : Launch) (h : zH) : Cx l 1 mX14_granted [Vq (some (1, 0))] h (Rv (Vi 1)) (mRef h 0) := by
  refine Ct.in 0 kX14_granted (plainFor_of_name rfl) (Nat.le_of_ble_eq_true rfl) ?_
  refine w_aload_n (zat TX14_granted 0 rfl) rfl ?_
  refine w_iconst (v := 0) (zat TX14_granted 1 rfl) (by decide) ?_
  refine w_putI (zat TX14_granted 2 rfl) gX14_granted_103 s1 (by decide) (by decide) rfl ⟨rfl, rfl⟩ ?_
  refine w_aload_n (zat TX14_granted 3 rfl) rfl ?_
  refine w_iconst (v := -1) (zat TX14_granted 4 rfl) (by decide) ?_
  refine w_putI (zat TX14_granted 5 rfl) gX14_granted_9 s1 (by decide) (by decide) rfl ⟨rfl, rfl⟩ ?_
  refine w_iconst (v := 1) (zat TX14_granted 6 rfl) (by decide) ?_
  refine w_ireturn (zat TX14_granted 7 rfl) rfl rfl ?_
  exact ⟨rfl, rfl⟩
theorem qX14_isProvince (l : Launch) (h : zH) (p : Int32) (nP : Nat) (hv : zI h 1 0 4 = nI nP) : Cx l 1 mX14_isProvince [Vq (some (1, 0)), Vi p] h (Rv (Vi (zb (0 ≤ p ∧ p < nI nP)))) h := by
  refine Ct.in 0 kX14_isProvince (plainFor_of_name rfl) (Nat.le_of_ble_eq_true rfl) ?_
  refine w_iload_n (zat TX14_isProvince 0 rfl) rfl ?_
  refine w_if_lt 16 (zat TX14_isProvince 1 rfl) (by decide) (fun Hc1 => ?_) (fun Hc1 => ?_)
  · refine w_iconst (v := 0) (zat TX14_isProvince 8 rfl) (by decide) ?_
    refine w_ireturn (zat TX14_isProvince 9 rfl) rfl rfl ?_
    refine ⟨congrArg (fun x => Rv (Vi x)) ?_, rfl⟩
    simp only [zb, Int32.le_iff_toInt_le, Int32.lt_iff_toInt_lt] at *
    first | rw [if_pos (by omega)] | rw [if_neg (by omega)]
  · refine w_iload_n (zat TX14_isProvince 2 rfl) rfl ?_
    refine w_aload_n (zat TX14_isProvince 3 rfl) rfl ?_
    refine y_getI (v := nI nP) (zat TX14_isProvince 4 rfl) fX14_106 s1 (by decide) (by decide) rfl hv ?_
    refine w_icmp_ge 16 (zat TX14_isProvince 5 rfl) (by decide) (fun Hc9 => ?_) (fun Hc9 => ?_)
    · refine w_iconst (v := 0) (zat TX14_isProvince 8 rfl) (by decide) ?_
      refine w_ireturn (zat TX14_isProvince 9 rfl) rfl rfl ?_
      refine ⟨congrArg (fun x => Rv (Vi x)) ?_, rfl⟩
      simp only [zb, Int32.le_iff_toInt_le, Int32.lt_iff_toInt_lt] at *
      first | rw [if_pos (by omega)] | rw [if_neg (by omega)]
    · refine w_iconst (v := 1) (zat TX14_isProvince 6 rfl) (by decide) ?_
      refine w_goto 17 (zat TX14_isProvince 7 rfl) (by decide) ?_
      refine w_ireturn (zat TX14_isProvince 9 rfl) rfl rfl ?_
      refine ⟨congrArg (fun x => Rv (Vi x)) ?_, rfl⟩
      simp only [zb, Int32.le_iff_toInt_le, Int32.lt_iff_toInt_lt] at *
      first | rw [if_pos (by omega)] | rw [if_neg (by omega)]
theorem qX14_isBorder (l : Launch) (h : zH) (p : Int32) (nB : Nat) (hv : zI h 1 0 5 = nI nB) : Cx l 1 mX14_isBorder [Vq (some (1, 0)), Vi p] h (Rv (Vi (zb (0 ≤ p ∧ p < nI nB)))) h := by
  refine Ct.in 0 kX14_isBorder (plainFor_of_name rfl) (Nat.le_of_ble_eq_true rfl) ?_
  refine w_iload_n (zat TX14_isBorder 0 rfl) rfl ?_
  refine w_if_lt 16 (zat TX14_isBorder 1 rfl) (by decide) (fun Hc1 => ?_) (fun Hc1 => ?_)
  · refine w_iconst (v := 0) (zat TX14_isBorder 8 rfl) (by decide) ?_
    refine w_ireturn (zat TX14_isBorder 9 rfl) rfl rfl ?_
    refine ⟨congrArg (fun x => Rv (Vi x)) ?_, rfl⟩
    simp only [zb, Int32.le_iff_toInt_le, Int32.lt_iff_toInt_lt] at *
    first | rw [if_pos (by omega)] | rw [if_neg (by omega)]
  · refine w_iload_n (zat TX14_isBorder 2 rfl) rfl ?_
    refine w_aload_n (zat TX14_isBorder 3 rfl) rfl ?_
    refine y_getI (v := nI nB) (zat TX14_isBorder 4 rfl) fX14_109 s1 (by decide) (by decide) rfl hv ?_
    refine w_icmp_ge 16 (zat TX14_isBorder 5 rfl) (by decide) (fun Hc9 => ?_) (fun Hc9 => ?_)
    · refine w_iconst (v := 0) (zat TX14_isBorder 8 rfl) (by decide) ?_
      refine w_ireturn (zat TX14_isBorder 9 rfl) rfl rfl ?_
      refine ⟨congrArg (fun x => Rv (Vi x)) ?_, rfl⟩
      simp only [zb, Int32.le_iff_toInt_le, Int32.lt_iff_toInt_lt] at *
      first | rw [if_pos (by omega)] | rw [if_neg (by omega)]
    · refine w_iconst (v := 1) (zat TX14_isBorder 6 rfl) (by decide) ?_
      refine w_goto 17 (zat TX14_isBorder 7 rfl) (by decide) ?_
      refine w_ireturn (zat TX14_isBorder 9 rfl) rfl rfl ?_
      refine ⟨congrArg (fun x => Rv (Vi x)) ?_, rfl⟩
      simp only [zb, Int32.le_iff_toInt_le, Int32.lt_iff_toInt_lt] at *
      first | rw [if_pos (by omega)] | rw [if_neg (by omega)]
theorem qX14_isStore (l : Launch) (h : zH) (p : Int32) (nS : Nat) (hv : zI h 1 0 40 = nI nS) : Cx l 1 mX14_isStore [Vq (some (1, 0)), Vi p] h (Rv (Vi (zb (0 ≤ p ∧ p < nI nS)))) h := by
  refine Ct.in 0 kX14_isStore (plainFor_of_name rfl) (Nat.le_of_ble_eq_true rfl) ?_
  refine w_iload_n (zat TX14_isStore 0 rfl) rfl ?_
  refine w_if_lt 16 (zat TX14_isStore 1 rfl) (by decide) (fun Hc1 => ?_) (fun Hc1 => ?_)
  · refine w_iconst (v := 0) (zat TX14_isStore 8 rfl) (by decide) ?_
    refine w_ireturn (zat TX14_isStore 9 rfl) rfl rfl ?_
    refine ⟨congrArg (fun x => Rv (Vi x)) ?_, rfl⟩
    simp only [zb, Int32.le_iff_toInt_le, Int32.lt_iff_toInt_lt] at *
    first | rw [if_pos (by omega)] | rw [if_neg (by omega)]
  · refine w_iload_n (zat TX14_isStore 2 rfl) rfl ?_
    refine w_aload_n (zat TX14_isStore 3 rfl) rfl ?_
    refine y_getI (v := nI nS) (zat TX14_isStore 4 rfl) fX14_367 s1 (by decide) (by decide) rfl hv ?_
    refine w_icmp_ge 16 (zat TX14_isStore 5 rfl) (by decide) (fun Hc9 => ?_) (fun Hc9 => ?_)
    · refine w_iconst (v := 0) (zat TX14_isStore 8 rfl) (by decide) ?_
      refine w_ireturn (zat TX14_isStore 9 rfl) rfl rfl ?_
      refine ⟨congrArg (fun x => Rv (Vi x)) ?_, rfl⟩
      simp only [zb, Int32.le_iff_toInt_le, Int32.lt_iff_toInt_lt] at *
      first | rw [if_pos (by omega)] | rw [if_neg (by omega)]
    · refine w_iconst (v := 1) (zat TX14_isStore 6 rfl) (by decide) ?_
      refine w_goto 17 (zat TX14_isStore 7 rfl) (by decide) ?_
      refine w_ireturn (zat TX14_isStore 9 rfl) rfl rfl ?_
      refine ⟨congrArg (fun x => Rv (Vi x)) ?_, rfl⟩
      simp only [zb, Int32.le_iff_toInt_le, Int32.lt_iff_toInt_lt] at *
      first | rw [if_pos (by omega)] | rw [if_neg (by omega)]
def mWeight (h : zH) (v : Int32) : Int32 × zH := if 0 ≤ v ∧ v ≤ 200 then (1, mRef (zsI (zsI h 1 0 0 0) 1 0 7 v) 0) else (0, mRef (zsI h 1 0 0 0) 2)
theorem qX14_weight (l : Launch) (h : zH) (v : Int32) : Cx l 2 mX14_weight [Vq (some (1, 0)), Vi v] h (Rv (Vi (mWeight h v).1)) (mWeight h v).2 := by
  refine Ct.in 0 kX14_weight (plainFor_of_name rfl) (Nat.le_of_ble_eq_true rfl) ?_
  refine w_aload_n (zat TX14_weight 0 rfl) rfl ?_
  refine w_iconst (v := 0) (zat TX14_weight 1 rfl) (by decide) ?_
  refine w_putI (zat TX14_weight 2 rfl) gX14_weight_100 s1 (by decide) (by decide) rfl ⟨rfl, rfl⟩ ?_
  refine w_iload_n (zat TX14_weight 3 rfl) rfl ?_
  refine w_iconst (v := 0) (zat TX14_weight 4 rfl) (by decide) ?_
  refine w_sipush (v := 200) (zat TX14_weight 5 rfl) (by decide) ?_
  refine x_callv3 (qX14_in l _ _ _ _) (by decide) kX14_in (rdy_S (zat TX14_weight 6 rfl) kX14_in pX14_in zw1185 zw1186) (Nat.le_of_ble_eq_true rfl) rfl rfl ?_
  refine w_if_ne 22 (zat TX14_weight 7 rfl) (by decide) (fun Hc13 => ?_) (fun Hc13 => ?_)
  · refine w_aload_n (zat TX14_weight 12 rfl) rfl ?_
    refine w_iload_n (zat TX14_weight 13 rfl) rfl ?_
    refine w_putI (zat TX14_weight 14 rfl) gX14_weight_13 s1 (by decide) (by decide) rfl ⟨rfl, rfl⟩ ?_
    refine w_aload_n (zat TX14_weight 15 rfl) rfl ?_
    refine x_callv1 (qX14_granted l _) (by decide) kX14_granted (rdy_V (zat TX14_weight 16 rfl) kX14_granted pX14_granted zw1208 zw1210 zw35 (Or.inl ⟨by decide, by decide, rfl⟩)) (Nat.le_of_ble_eq_true rfl) rfl rfl ?_
    refine w_ireturn (zat TX14_weight 17 rfl) rfl rfl ?_
    simp only [zb_0, Decidable.not_not] at *
    exact ⟨by simp only [mWeight, *, if_true, if_false, and_self, not_true_eq_false, not_false_eq_true, and_false, false_and, true_and, and_true], by simp only [mWeight, *, if_true, if_false, and_self, not_true_eq_false, not_false_eq_true, and_false, false_and, true_and, and_true]⟩
  · refine w_aload_n (zat TX14_weight 8 rfl) rfl ?_
    refine w_iconst (v := 2) (zat TX14_weight 9 rfl) (by decide) ?_
    refine x_callv2 (qX14_denied l _ _) (by decide) kX14_denied (rdy_V (zat TX14_weight 10 rfl) kX14_denied pX14_denied zw1204 zw1206 zw34 (Or.inl ⟨by decide, by decide, rfl⟩)) (Nat.le_of_ble_eq_true rfl) rfl rfl ?_
    refine w_ireturn (zat TX14_weight 11 rfl) rfl rfl ?_
    simp only [zb_0, Decidable.not_not] at *
    exact ⟨by simp only [mWeight, *, if_true, if_false, and_self, not_true_eq_false, not_false_eq_true, and_false, false_and, true_and, and_true], by simp only [mWeight, *, if_true, if_false, and_self, not_true_eq_false, not_false_eq_true, and_false, false_and, true_and, and_true]⟩
