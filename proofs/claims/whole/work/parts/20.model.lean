-- THE MODEL'S SMALL METHODS, by program (wip/gen/p20.py)
section zROWS
variable {l : Launch} {M M2 : zM} {d d2 pc nx : Nat} {ls ls2 : List (Option zV)} {st : List zV} {h h2 h' : zH} {Q : zO → zH → Prop}
theorem y_getI {index ci j k i : Nat} {v : Int32} (hd : zAt M pc (.getfield index) 3 nx) (hf : zFld (zMy M).cls index ci j) (hs : zshp k = ci) (hc : ci < 100) (hr : k < 900) (ht : zkd (zty ci j) = 0) (hv : zI h k i j = v) (kk : Wp l M d nx ls (Vi v :: st) h Q) : Wp l M d pc ls (Vq (some (k, i)) :: st) h Q := w_getI hd hf hs hc hr ht (hv ▸ kk)
theorem y_getL {index ci j k i : Nat} {v : Int64} (hd : zAt M pc (.getfield index) 3 nx) (hf : zFld (zMy M).cls index ci j) (hs : zshp k = ci) (hc : ci < 100) (hr : k < 900) (ht : zkd (zty ci j) = 1) (hv : zL h k i j = v) (kk : Wp l M d nx ls (Vj v :: st) h Q) : Wp l M d pc ls (Vq (some (k, i)) :: st) h Q := w_getL hd hf hs hc hr ht (hv ▸ kk)
theorem y_iaload {k i : Nat} {x v : Int32} (n L : Nat) (hd : zAt M pc .iaload 1 nx) (hs : zshp k = 100) (hr : k < 900) (hL : zN h k i = L) (hb : L < 2 ^ 31) (hx : x = nI n) (hn : n < L) (hv : zI h k i n = v) (kk : Wp l M d nx ls (Vi v :: st) h Q) : Wp l M d pc ls (Vi x :: Vq (some (k, i)) :: st) h Q := x_iaload n L hd hs hr hL hb hx hn (hv ▸ kk)
theorem y_baload {k i : Nat} {x v : Int32} (n L : Nat) (hd : zAt M pc .baload 1 nx) (hs : zshp k = 102) (hr : k < 900) (hL : zN h k i = L) (hb : L < 2 ^ 31) (hx : x = nI n) (hn : n < L) (hv : zI h k i n = v) (kk : Wp l M d nx ls (Vi v :: st) h Q) : Wp l M d pc ls (Vi x :: Vq (some (k, i)) :: st) h Q := x_baload n L hd hs hr hL hb hx hn (hv ▸ kk)
theorem y_zaload {k i : Nat} {x v : Int32} (n L : Nat) (hd : zAt M pc .baload 1 nx) (hs : zshp k = 103) (hr : k < 900) (hL : zN h k i = L) (hb : L < 2 ^ 31) (hx : x = nI n) (hn : n < L) (hv : zI h k i n = v) (kk : Wp l M d nx ls (Vi v :: st) h Q) : Wp l M d pc ls (Vi x :: Vq (some (k, i)) :: st) h Q := x_zaload n L hd hs hr hL hb hx hn (hv ▸ kk)
theorem y_laload {k i : Nat} {x : Int32} {v : Int64} (n L : Nat) (hd : zAt M pc .laload 1 nx) (hs : zshp k = 101) (hr : k < 900) (hL : zN h k i = L) (hb : L < 2 ^ 31) (hx : x = nI n) (hn : n < L) (hv : zL h k i n = v) (kk : Wp l M d nx ls (Vj v :: st) h Q) : Wp l M d pc ls (Vi x :: Vq (some (k, i)) :: st) h Q := x_laload n L hd hs hr hL hb hx hn (hv ▸ kk)
end zROWS
/-- an index that the machine has tested -/
theorem ixN {x : Int32} {n : Nat} (hn : n < 2 ^ 31) (h : 0 ≤ x ∧ x < nI n) : ∃ j : Nat, j < n ∧ x = nI j := by
  rcases pk_ix x hn with q | q | q
  · exact absurd h.1 (by rw [Int32.le_iff_toInt_le]; rw [Int32.lt_iff_toInt_lt] at q; omega)
  · exact absurd h.2 (by rw [Int32.lt_iff_toInt_lt]; rw [Int32.le_iff_toInt_le] at q; omega)
  · exact q
theorem nIe {a b : Nat} (ha : a < 2 ^ 31) (hb : b < 2 ^ 31) (h : nI a = nI b) : a = b := (nI_eq ha hb).mp h
theorem nIlt {a b : Nat} (hb : b < 2 ^ 31) (ha : a < 2 ^ 31) (h : nI a < nI b) : a < b := (nI_ltI ha hb).mp h
theorem ixC {x : Int32} {n : Nat} (hn : n < 2 ^ 31) (h : 0 ≤ x ∧ x < nI n) : x = nI x.toNatClampNeg ∧ x.toNatClampNeg < n := by
  obtain ⟨j, h1, h2⟩ := ixN hn h
  rw [h2, nI_clamp (by omega)]
  exact ⟨rfl, h1⟩
def mRef (h : zH) (w : Int32) : zH := zsI (zsI h 1 0 1 w) 1 0 2 (-1)
theorem qX14_refused (l : Launch) (h : zH) (w : Int32) : Cx l 1 mX14_refused [Vq (some (1, 0)), Vi w] h (Rv (Vi (-1))) (mRef h w) := by
  refine Ct.in 0 kX14_refused (plainFor_of_name rfl) (Nat.le_of_ble_eq_true rfl) ?_
  refine w_aload_n (zat TX14_refused 0 rfl) rfl ?_
  refine w_iload_n (zat TX14_refused 1 rfl) rfl ?_
  refine w_putI (zat TX14_refused 2 rfl) gX14_refused_103 s1 (by decide) (by decide) rfl ⟨rfl, rfl⟩ ?_
  refine w_aload_n (zat TX14_refused 3 rfl) rfl ?_
  refine w_iconst (v := -1) (zat TX14_refused 4 rfl) (by decide) ?_
  refine w_putI (zat TX14_refused 5 rfl) gX14_refused_9 s1 (by decide) (by decide) rfl ⟨rfl, rfl⟩ ?_
  refine w_iconst (v := -1) (zat TX14_refused 6 rfl) (by decide) ?_
  refine w_ireturn (zat TX14_refused 7 rfl) rfl rfl ?_
  exact ⟨rfl, rfl⟩
theorem qX14_denied (l : Launch) (h : zH) (w : Int32) : Cx l 1 mX14_denied [Vq (some (1, 0)), Vi w] h (Rv (Vi 0)) (mRef h w) := by
  refine Ct.in 0 kX14_denied (plainFor_of_name rfl) (Nat.le_of_ble_eq_true rfl) ?_
  refine w_aload_n (zat TX14_denied 0 rfl) rfl ?_
  refine w_iload_n (zat TX14_denied 1 rfl) rfl ?_
  refine w_putI (zat TX14_denied 2 rfl) gX14_denied_103 s1 (by decide) (by decide) rfl ⟨rfl, rfl⟩ ?_
  refine w_aload_n (zat TX14_denied 3 rfl) rfl ?_
  refine w_iconst (v := -1) (zat TX14_denied 4 rfl) (by decide) ?_
  refine w_putI (zat TX14_denied 5 rfl) gX14_denied_9 s1 (by decide) (by decide) rfl ⟨rfl, rfl⟩ ?_
  refine w_iconst (v := 0) (zat TX14_denied 6 rfl) (by decide) ?_
  refine w_ireturn (zat TX14_denied 7 rfl) rfl rfl ?_
  exact ⟨rfl, rfl⟩
theorem qX14_done (l : Launch) (h : zH) (w : Int32) : Cx l 1 mX14_done [Vq (some (1, 0)), Vi w] h (Rv (Vi w)) (mRef h 0) := by
  refine Ct.in 0 kX14_done (plainFor_of_name rfl) (Nat.le_of_ble_eq_true rfl) ?_
  refine w_aload_n (zat TX14_done 0 rfl) rfl ?_
  refine w_iconst (v := 0) (zat TX14_done 1 rfl) (by decide) ?_
  refine w_putI (zat TX14_done 2 rfl) gX14_done_103 s1 (by decide) (by decide) rfl ⟨rfl, rfl⟩ ?_
  refine w_aload_n (zat TX14_done 3 rfl) rfl ?_
  refine w_iconst (v := -1) (zat TX14_done 4 rfl) (by decide) ?_
  refine w_putI (zat TX14_done 5 rfl) gX14_done_9 s1 (by decide) (by decide) rfl ⟨rfl, rfl⟩ ?_
  refine w_iload_n (zat TX14_done 6 rfl) rfl ?_
  refine w_ireturn (zat TX14_done 7 rfl) rfl rfl ?_
  exact ⟨rfl, rfl⟩
theorem qX14_granted (l : Launch) (h : zH) : Cx l 1 mX14_granted [Vq (some (1, 0))] h (Rv (Vi 1)) (mRef h 0) := by
  refine Ct.in 0 kX14_granted (plainFor_of_name rfl) (Nat.le_of_ble_eq_true rfl) ?_
  refine w_aload_n (zat TX14_granted 0 rfl) rfl ?_
  refine w_iconst (v := 0) (zat TX14_granted 1 rfl) (by decide) ?_
  refine w_putI (zat TX14_granted 2 rfl) gX14_granted_103 s1 (by decide) (by decide) rfl ⟨rfl, rfl⟩ ?_
  refine w_aload_n (zat TX14_granted 3 rfl) rfl ?_
  refine w_iconst (v := -1) (zat TX14_granted 4 rfl) (by decide) ?_
  refine w_putI (zat TX14_granted 5 rfl) gX14_granted_9 s1 (by decide) (by decide) rfl ⟨rfl, rfl⟩ ?_
  refine w_iconst (v := 1) (zat TX14_granted 6 rfl) (by decide) ?_
  refine w_ireturn (zat TX14_granted 7 rfl) rfl rfl ?_
  exact ⟨rfl, rfl⟩
theorem qX14_isProvince (l : Launch) (h : zH) (p : Int32) (nP : Nat) (hv : zI h 1 0 4 = nI nP) : Cx l 1 mX14_isProvince [Vq (some (1, 0)), Vi p] h (Rv (Vi (zb (0 ≤ p ∧ p < nI nP)))) h := by
  refine Ct.in 0 kX14_isProvince (plainFor_of_name rfl) (Nat.le_of_ble_eq_true rfl) ?_
  refine w_iload_n (zat TX14_isProvince 0 rfl) rfl ?_
  refine w_if_lt 16 (zat TX14_isProvince 1 rfl) (by decide) (fun Hc1 => ?_) (fun Hc1 => ?_)
  · refine w_iconst (v := 0) (zat TX14_isProvince 8 rfl) (by decide) ?_
    refine w_ireturn (zat TX14_isProvince 9 rfl) rfl rfl ?_
    refine ⟨congrArg (fun x => Rv (Vi x)) ?_, rfl⟩
    simp only [zb, Int32.le_iff_toInt_le, Int32.lt_iff_toInt_lt] at *
    first | rw [if_pos (by omega)] | rw [if_neg (by omega)]
  · refine w_iload_n (zat TX14_isProvince 2 rfl) rfl ?_
    refine w_aload_n (zat TX14_isProvince 3 rfl) rfl ?_
    refine y_getI (v := nI nP) (zat TX14_isProvince 4 rfl) fX14_106 s1 (by decide) (by decide) rfl hv ?_
    refine w_icmp_ge 16 (zat TX14_isProvince 5 rfl) (by decide) (fun Hc9 => ?_) (fun Hc9 => ?_)
    · refine w_iconst (v := 0) (zat TX14_isProvince 8 rfl) (by decide) ?_
      refine w_ireturn (zat TX14_isProvince 9 rfl) rfl rfl ?_
      refine ⟨congrArg (fun x => Rv (Vi x)) ?_, rfl⟩
      simp only [zb, Int32.le_iff_toInt_le, Int32.lt_iff_toInt_lt] at *
      first | rw [if_pos (by omega)] | rw [if_neg (by omega)]
    · refine w_iconst (v := 1) (zat TX14_isProvince 6 rfl) (by decide) ?_
      refine w_goto 17 (zat TX14_isProvince 7 rfl) (by decide) ?_
      refine w_ireturn (zat TX14_isProvince 9 rfl) rfl rfl ?_
      refine ⟨congrArg (fun x => Rv (Vi x)) ?_, rfl⟩
      simp only [zb, Int32.le_iff_toInt_le, Int32.lt_iff_toInt_lt] at *
      first | rw [if_pos (by omega)] | rw [if_neg (by omega)]
theorem qX14_isBorder (l : Launch) (h : zH) (p : Int32) (nB : Nat) (hv : zI h 1 0 5 = nI nB) : Cx l 1 mX14_isBorder [Vq (some (1, 0)), Vi p] h (Rv (Vi (zb (0 ≤ p ∧ p < nI nB)))) h := by
  refine Ct.in 0 kX14_isBorder (plainFor_of_name rfl) (Nat.le_of_ble_eq_true rfl) ?_
  refine w_iload_n (zat TX14_isBorder 0 rfl) rfl ?_
  refine w_if_lt 16 (zat TX14_isBorder 1 rfl) (by decide) (fun Hc1 => ?_) (fun Hc1 => ?_)
  · refine w_iconst (v := 0) (zat TX14_isBorder 8 rfl) (by decide) ?_
    refine w_ireturn (zat TX14_isBorder 9 rfl) rfl rfl ?_
    refine ⟨congrArg (fun x => Rv (Vi x)) ?_, rfl⟩
    simp only [zb, Int32.le_iff_toInt_le, Int32.lt_iff_toInt_lt] at *
    first | rw [if_pos (by omega)] | rw [if_neg (by omega)]
  · refine w_iload_n (zat TX14_isBorder 2 rfl) rfl ?_
    refine w_aload_n (zat TX14_isBorder 3 rfl) rfl ?_
    refine y_getI (v := nI nB) (zat TX14_isBorder 4 rfl) fX14_109 s1 (by decide) (by decide) rfl hv ?_
    refine w_icmp_ge 16 (zat TX14_isBorder 5 rfl) (by decide) (fun Hc9 => ?_) (fun Hc9 => ?_)
    · refine w_iconst (v := 0) (zat TX14_isBorder 8 rfl) (by decide) ?_
      refine w_ireturn (zat TX14_isBorder 9 rfl) rfl rfl ?_
      refine ⟨congrArg (fun x => Rv (Vi x)) ?_, rfl⟩
      simp only [zb, Int32.le_iff_toInt_le, Int32.lt_iff_toInt_lt] at *
      first | rw [if_pos (by omega)] | rw [if_neg (by omega)]
    · refine w_iconst (v := 1) (zat TX14_isBorder 6 rfl) (by decide) ?_
      refine w_goto 17 (zat TX14_isBorder 7 rfl) (by decide) ?_
      refine w_ireturn (zat TX14_isBorder 9 rfl) rfl rfl ?_
      refine ⟨congrArg (fun x => Rv (Vi x)) ?_, rfl⟩
      simp only [zb, Int32.le_iff_toInt_le, Int32.lt_iff_toInt_lt] at *
      first | rw [if_pos (by omega)] | rw [if_neg (by omega)]
theorem qX14_isStore (l : Launch) (h : zH) (p : Int32) (nS : Nat) (hv : zI h 1 0 40 = nI nS) : Cx l 1 mX14_isStore [Vq (some (1, 0)), Vi p] h (Rv (Vi (zb (0 ≤ p ∧ p < nI nS)))) h := by
  refine Ct.in 0 kX14_isStore (plainFor_of_name rfl) (Nat.le_of_ble_eq_true rfl) ?_
  refine w_iload_n (zat TX14_isStore 0 rfl) rfl ?_
  refine w_if_lt 16 (zat TX14_isStore 1 rfl) (by decide) (fun Hc1 => ?_) (fun Hc1 => ?_)
  · refine w_iconst (v := 0) (zat TX14_isStore 8 rfl) (by decide) ?_
    refine w_ireturn (zat TX14_isStore 9 rfl) rfl rfl ?_
    refine ⟨congrArg (fun x => Rv (Vi x)) ?_, rfl⟩
    simp only [zb, Int32.le_iff_toInt_le, Int32.lt_iff_toInt_lt] at *
    first | rw [if_pos (by omega)] | rw [if_neg (by omega)]
  · refine w_iload_n (zat TX14_isStore 2 rfl) rfl ?_
    refine w_aload_n (zat TX14_isStore 3 rfl) rfl ?_
    refine y_getI (v := nI nS) (zat TX14_isStore 4 rfl) fX14_367 s1 (by decide) (by decide) rfl hv ?_
    refine w_icmp_ge 16 (zat TX14_isStore 5 rfl) (by decide) (fun Hc9 => ?_) (fun Hc9 => ?_)
    · refine w_iconst (v := 0) (zat TX14_isStore 8 rfl) (by decide) ?_
      refine w_ireturn (zat TX14_isStore 9 rfl) rfl rfl ?_
      refine ⟨congrArg (fun x => Rv (Vi x)) ?_, rfl⟩
      simp only [zb, Int32.le_iff_toInt_le, Int32.lt_iff_toInt_lt] at *
      first | rw [if_pos (by omega)] | rw [if_neg (by omega)]
    · refine w_iconst (v := 1) (zat TX14_isStore 6 rfl) (by decide) ?_
      refine w_goto 17 (zat TX14_isStore 7 rfl) (by decide) ?_
      refine w_ireturn (zat TX14_isStore 9 rfl) rfl rfl ?_
      refine ⟨congrArg (fun x => Rv (Vi x)) ?_, rfl⟩
      simp only [zb, Int32.le_iff_toInt_le, Int32.lt_iff_toInt_lt] at *
      first | rw [if_pos (by omega)] | rw [if_neg (by omega)]
def mWeight (h : zH) (v : Int32) : Int32 × zH := if 0 ≤ v ∧ v ≤ 200 then (1, mRef (zsI (zsI h 1 0 0 0) 1 0 7 v) 0) else (0, mRef (zsI h 1 0 0 0) 2)
theorem qX14_weight (l : Launch) (h : zH) (v : Int32) : Cx l 2 mX14_weight [Vq (some (1, 0)), Vi v] h (Rv (Vi (mWeight h v).1)) (mWeight h v).2 := by
  refine Ct.in 0 kX14_weight (plainFor_of_name rfl) (Nat.le_of_ble_eq_true rfl) ?_
  refine w_aload_n (zat TX14_weight 0 rfl) rfl ?_
  refine w_iconst (v := 0) (zat TX14_weight 1 rfl) (by decide) ?_
  refine w_putI (zat TX14_weight 2 rfl) gX14_weight_100 s1 (by decide) (by decide) rfl ⟨rfl, rfl⟩ ?_
  refine w_iload_n (zat TX14_weight 3 rfl) rfl ?_
  refine w_iconst (v := 0) (zat TX14_weight 4 rfl) (by decide) ?_
  refine w_sipush (v := 200) (zat TX14_weight 5 rfl) (by decide) ?_
  refine x_callv3 (qX14_in l _ _ _ _) (by decide) kX14_in (rdy_S (zat TX14_weight 6 rfl) kX14_in pX14_in zw1185 zw1186) (Nat.le_of_ble_eq_true rfl) rfl rfl ?_
  refine w_if_ne 22 (zat TX14_weight 7 rfl) (by decide) (fun Hc13 => ?_) (fun Hc13 => ?_)
  · refine w_aload_n (zat TX14_weight 12 rfl) rfl ?_
    refine w_iload_n (zat TX14_weight 13 rfl) rfl ?_
    refine w_putI (zat TX14_weight 14 rfl) gX14_weight_13 s1 (by decide) (by decide) rfl ⟨rfl, rfl⟩ ?_
    refine w_aload_n (zat TX14_weight 15 rfl) rfl ?_
    refine x_callv1 (qX14_granted l _) (by decide) kX14_granted (rdy_V (zat TX14_weight 16 rfl) kX14_granted pX14_granted zw1208 zw1210 zw35 (zrc (by decide) (by decide) rfl)) (Nat.le_of_ble_eq_true rfl) rfl rfl ?_
    refine w_ireturn (zat TX14_weight 17 rfl) rfl rfl ?_
    try simp only [zb_0, Decidable.not_not] at Hc13
    exact ⟨by simp only [mWeight, Hc13, if_true, if_false, and_self, not_true_eq_false, not_false_eq_true, and_false, false_and, true_and, and_true], by simp only [mWeight, Hc13, if_true, if_false, and_self, not_true_eq_false, not_false_eq_true, and_false, false_and, true_and, and_true]⟩
  · refine w_aload_n (zat TX14_weight 8 rfl) rfl ?_
    refine w_iconst (v := 2) (zat TX14_weight 9 rfl) (by decide) ?_
    refine x_callv2 (qX14_denied l _ _) (by decide) kX14_denied (rdy_V (zat TX14_weight 10 rfl) kX14_denied pX14_denied zw1204 zw1206 zw34 (zrc (by decide) (by decide) rfl)) (Nat.le_of_ble_eq_true rfl) rfl rfl ?_
    refine w_ireturn (zat TX14_weight 11 rfl) rfl rfl ?_
    try simp only [zb_0, Decidable.not_not] at Hc13
    exact ⟨by simp only [mWeight, Hc13, if_true, if_false, and_self, not_true_eq_false, not_false_eq_true, and_false, false_and, true_and, and_true], by simp only [mWeight, Hc13, if_true, if_false, and_self, not_true_eq_false, not_false_eq_true, and_false, false_and, true_and, and_true]⟩
def mProvince (h : zH) (nP : Nat) (a b : Int32) : Int32 × zH := if (0 ≤ a ∧ a ≤ 100000) ∧ (0 ≤ b ∧ b ≤ 50) then (if nP = 10 then (-1, mRef (zsI h 1 0 0 0) 3) else (nI nP, mRef (zsI (zsI (zsI (zsI h 1 0 0 0) 10 0 nP a) 11 0 nP b) 1 0 4 (nI (nP + 1))) 0)) else (-1, mRef (zsI h 1 0 0 0) 2)
theorem qX14_province (l : Launch) (h : zH) (hWM : Wm h) (a b : Int32) (nP : Nat) (hP : zI h 1 0 4 = nI nP) (hP2 : nP ≤ 10) : Cx l 2 mX14_province [Vq (some (1, 0)), Vi a, Vi b] h (Rv (Vi (mProvince h nP a b).1)) (mProvince h nP a b).2 := by
  refine Ct.in 0 kX14_province (plainFor_of_name rfl) (Nat.le_of_ble_eq_true rfl) ?_
  refine w_aload_n (zat TX14_province 0 rfl) rfl ?_
  refine w_iconst (v := 0) (zat TX14_province 1 rfl) (by decide) ?_
  refine w_putI (zat TX14_province 2 rfl) gX14_province_100 s1 (by decide) (by decide) rfl ⟨rfl, rfl⟩ ?_
  refine w_iload_n (zat TX14_province 3 rfl) rfl ?_
  refine w_iconst (v := 0) (zat TX14_province 4 rfl) (by decide) ?_
  refine w_ldc (v := 100000) (zat TX14_province 5 rfl) zw1184 ?_
  refine x_callv3 (qX14_in l _ _ _ _) (by decide) kX14_in (rdy_S (zat TX14_province 6 rfl) kX14_in pX14_in zw1185 zw1186) (Nat.le_of_ble_eq_true rfl) rfl rfl ?_
  refine w_if_eq 25 (zat TX14_province 7 rfl) (by decide) (fun Hc12 => ?_) (fun Hc12 => ?_)
  · refine w_aload_n (zat TX14_province 13 rfl) rfl ?_
    refine w_iconst (v := 2) (zat TX14_province 14 rfl) (by decide) ?_
    refine x_callv2 (qX14_refused l _ _) (by decide) kX14_refused (rdy_V (zat TX14_province 15 rfl) kX14_refused pX14_refused zw1188 zw1190 zw31 (zrc (by decide) (by decide) rfl)) (Nat.le_of_ble_eq_true rfl) rfl rfl ?_
    refine w_ireturn (zat TX14_province 16 rfl) rfl rfl ?_
    try simp only [zb_0, Decidable.not_not] at Hc12
    exact ⟨by simp only [mProvince, Hc12, if_true, if_false, and_self, not_true_eq_false, not_false_eq_true, and_false, false_and, true_and, and_true], by simp only [mProvince, Hc12, if_true, if_false, and_self, not_true_eq_false, not_false_eq_true, and_false, false_and, true_and, and_true]⟩
  · refine w_iload_n (zat TX14_province 8 rfl) rfl ?_
    refine w_iconst (v := 0) (zat TX14_province 9 rfl) (by decide) ?_
    refine w_bipush (v := 50) (zat TX14_province 10 rfl) (by decide) ?_
    refine x_callv3 (qX14_in l _ _ _ _) (by decide) kX14_in (rdy_S (zat TX14_province 11 rfl) kX14_in pX14_in zw1185 zw1186) (Nat.le_of_ble_eq_true rfl) rfl rfl ?_
    refine w_if_ne 31 (zat TX14_province 12 rfl) (by decide) (fun Hc22 => ?_) (fun Hc22 => ?_)
    · refine w_aload_n (zat TX14_province 17 rfl) rfl ?_
      refine y_getI (v := nI nP) (zat TX14_province 18 rfl) fX14_106 s1 (by decide) (by decide) rfl hP ?_
      refine w_bipush (v := 10) (zat TX14_province 19 rfl) (by decide) ?_
      refine w_icmp_ne 46 (zat TX14_province 20 rfl) (by decide) (fun Hc37 => ?_) (fun Hc37 => ?_)
      · replace Hc37 : ¬ nP = 10 := fun q => Hc37 (by rw [q]; rfl)
        refine w_aload_n (zat TX14_province 25 rfl) rfl ?_
        refine w_getR (zat TX14_province 26 rfl) fX14_16 s1 (by decide) (by decide) rfl (wmr hWM 0 rfl) ?_
        refine w_aload_n (zat TX14_province 27 rfl) rfl ?_
        refine y_getI (v := nI nP) (zat TX14_province 28 rfl) fX14_106 s1 (by decide) (by decide) rfl hP ?_
        refine w_iload_n (zat TX14_province 29 rfl) rfl ?_
        refine x_iastore _ _ (zat TX14_province 30 rfl) s10 (by decide) (wmn hWM 0 rfl) (by decide) rfl (by omega) ?_
        refine w_aload_n (zat TX14_province 31 rfl) rfl ?_
        refine w_getR (zat TX14_province 32 rfl) fX14_20 s1 (by decide) (by decide) rfl (wmr hWM 1 rfl) ?_
        refine w_aload_n (zat TX14_province 33 rfl) rfl ?_
        refine y_getI (v := nI nP) (zat TX14_province 34 rfl) fX14_106 s1 (by decide) (by decide) rfl hP ?_
        refine w_iload_n (zat TX14_province 35 rfl) rfl ?_
        refine x_iastore _ _ (zat TX14_province 36 rfl) s11 (by decide) (wmn hWM 1 rfl) (by decide) rfl (by omega) ?_
        refine w_aload_n (zat TX14_province 37 rfl) rfl ?_
        refine w_dup (zat TX14_province 38 rfl) rfl ?_
        refine y_getI (v := nI nP) (zat TX14_province 39 rfl) fX14_106 s1 (by decide) (by decide) rfl hP ?_
        refine w_iconst (v := 1) (zat TX14_province 40 rfl) (by decide) ?_
        refine w_iadd (zat TX14_province 41 rfl) ?_
        rw [nI_1]
        refine w_putI (zat TX14_province 42 rfl) gX14_province_106 s1 (by decide) (by decide) rfl ⟨rfl, rfl⟩ ?_
        refine w_aload_n (zat TX14_province 43 rfl) rfl ?_
        refine w_aload_n (zat TX14_province 44 rfl) rfl ?_
        refine y_getI (v := nI (nP + 1)) (zat TX14_province 45 rfl) fX14_106 s1 (by decide) (by decide) rfl rfl ?_
        refine w_iconst (v := 1) (zat TX14_province 46 rfl) (by decide) ?_
        refine w_isub (zat TX14_province 47 rfl) ?_
        rw [show nI (nP + 1) - 1 = nI nP from nI_pred nP]
        refine x_callv2 (qX14_done l _ _) (by decide) kX14_done (rdy_V (zat TX14_province 48 rfl) kX14_done pX14_done zw1192 zw1194 zw32 (zrc (by decide) (by decide) rfl)) (Nat.le_of_ble_eq_true rfl) rfl rfl ?_
        refine w_ireturn (zat TX14_province 49 rfl) rfl rfl ?_
        try simp only [zb_0, Decidable.not_not] at Hc12 Hc22 Hc37
        exact ⟨by simp only [mProvince, Hc12, Hc22, Hc37, if_true, if_false, and_self, not_true_eq_false, not_false_eq_true, and_false, false_and, true_and, and_true], by simp only [mProvince, Hc12, Hc22, Hc37, if_true, if_false, and_self, not_true_eq_false, not_false_eq_true, and_false, false_and, true_and, and_true]⟩
      · replace Hc37 : nP = 10 := nIe (by omega) (by decide) Hc37
        refine w_aload_n (zat TX14_province 21 rfl) rfl ?_
        refine w_iconst (v := 3) (zat TX14_province 22 rfl) (by decide) ?_
        refine x_callv2 (qX14_refused l _ _) (by decide) kX14_refused (rdy_V (zat TX14_province 23 rfl) kX14_refused pX14_refused zw1188 zw1190 zw31 (zrc (by decide) (by decide) rfl)) (Nat.le_of_ble_eq_true rfl) rfl rfl ?_
        refine w_ireturn (zat TX14_province 24 rfl) rfl rfl ?_
        try simp only [zb_0, Decidable.not_not] at Hc12 Hc22 Hc37
        exact ⟨by simp only [mProvince, Hc12, Hc22, Hc37, if_true, if_false, and_self, not_true_eq_false, not_false_eq_true, and_false, false_and, true_and, and_true], by simp only [mProvince, Hc12, Hc22, Hc37, if_true, if_false, and_self, not_true_eq_false, not_false_eq_true, and_false, false_and, true_and, and_true]⟩
    · refine w_aload_n (zat TX14_province 13 rfl) rfl ?_
      refine w_iconst (v := 2) (zat TX14_province 14 rfl) (by decide) ?_
      refine x_callv2 (qX14_refused l _ _) (by decide) kX14_refused (rdy_V (zat TX14_province 15 rfl) kX14_refused pX14_refused zw1188 zw1190 zw31 (zrc (by decide) (by decide) rfl)) (Nat.le_of_ble_eq_true rfl) rfl rfl ?_
      refine w_ireturn (zat TX14_province 16 rfl) rfl rfl ?_
      try simp only [zb_0, Decidable.not_not] at Hc12 Hc22
      exact ⟨by simp only [mProvince, Hc12, Hc22, if_true, if_false, and_self, not_true_eq_false, not_false_eq_true, and_false, false_and, true_and, and_true], by simp only [mProvince, Hc12, Hc22, if_true, if_false, and_self, not_true_eq_false, not_false_eq_true, and_false, false_and, true_and, and_true]⟩
def mPeople (h : zH) (nP : Nat) (p a b : Int32) : Int32 × zH := if 0 ≤ p ∧ p < nI nP then (if (0 ≤ a ∧ a ≤ 100000) ∧ (0 ≤ b ∧ b ≤ 50) then (1, mRef (zsI (zsI (zsI h 1 0 0 0) 10 0 p.toNatClampNeg a) 11 0 p.toNatClampNeg b) 0) else (0, mRef (zsI h 1 0 0 0) 2)) else (0, mRef (zsI h 1 0 0 0) 1)
theorem qX14_people (l : Launch) (h : zH) (hWM : Wm h) (p a b : Int32) (nP : Nat) (hP : zI h 1 0 4 = nI nP) (hP2 : nP ≤ 10) : Cx l 2 mX14_people [Vq (some (1, 0)), Vi p, Vi a, Vi b] h (Rv (Vi (mPeople h nP p a b).1)) (mPeople h nP p a b).2 := by
  refine Ct.in 0 kX14_people (plainFor_of_name rfl) (Nat.le_of_ble_eq_true rfl) ?_
  refine w_aload_n (zat TX14_people 0 rfl) rfl ?_
  refine w_iconst (v := 0) (zat TX14_people 1 rfl) (by decide) ?_
  refine w_putI (zat TX14_people 2 rfl) gX14_people_100 s1 (by decide) (by decide) rfl ⟨rfl, rfl⟩ ?_
  refine w_aload_n (zat TX14_people 3 rfl) rfl ?_
  refine w_iload_n (zat TX14_people 4 rfl) rfl ?_
  refine x_callv2 (qX14_isProvince l _ _ nP hP) (by decide) kX14_isProvince (rdy_V (zat TX14_people 5 rfl) kX14_isProvince pX14_isProvince zw1200 zw1202 zw33 (zrc (by decide) (by decide) rfl)) (Nat.le_of_ble_eq_true rfl) rfl rfl ?_
  refine w_if_ne 19 (zat TX14_people 6 rfl) (by decide) (fun Hc10 => ?_) (fun Hc10 => ?_)
  · obtain ⟨Hx, Hn⟩ := ixC (n := nP) (by omega) (zb_n.mp Hc10)
    refine w_iload_n (zat TX14_people 11 rfl) rfl ?_
    refine w_iconst (v := 0) (zat TX14_people 12 rfl) (by decide) ?_
    refine w_ldc (v := 100000) (zat TX14_people 13 rfl) zw1184 ?_
    refine x_callv3 (qX14_in l _ _ _ _) (by decide) kX14_in (rdy_S (zat TX14_people 14 rfl) kX14_in pX14_in zw1185 zw1186) (Nat.le_of_ble_eq_true rfl) rfl rfl ?_
    refine w_if_eq 39 (zat TX14_people 15 rfl) (by decide) (fun Hc26 => ?_) (fun Hc26 => ?_)
    · refine w_aload_n (zat TX14_people 21 rfl) rfl ?_
      refine w_iconst (v := 2) (zat TX14_people 22 rfl) (by decide) ?_
      refine x_callv2 (qX14_denied l _ _) (by decide) kX14_denied (rdy_V (zat TX14_people 23 rfl) kX14_denied pX14_denied zw1204 zw1206 zw34 (zrc (by decide) (by decide) rfl)) (Nat.le_of_ble_eq_true rfl) rfl rfl ?_
      refine w_ireturn (zat TX14_people 24 rfl) rfl rfl ?_
      try simp only [zb_0, Decidable.not_not] at Hc10 Hc26
      exact ⟨by simp only [mPeople, Hc10, Hc26, if_true, if_false, and_self, not_true_eq_false, not_false_eq_true, and_false, false_and, true_and, and_true], by simp only [mPeople, Hc10, Hc26, if_true, if_false, and_self, not_true_eq_false, not_false_eq_true, and_false, false_and, true_and, and_true]⟩
    · refine w_iload_n (zat TX14_people 16 rfl) rfl ?_
      refine w_iconst (v := 0) (zat TX14_people 17 rfl) (by decide) ?_
      refine w_bipush (v := 50) (zat TX14_people 18 rfl) (by decide) ?_
      refine x_callv3 (qX14_in l _ _ _ _) (by decide) kX14_in (rdy_S (zat TX14_people 19 rfl) kX14_in pX14_in zw1185 zw1186) (Nat.le_of_ble_eq_true rfl) rfl rfl ?_
      refine w_if_ne 45 (zat TX14_people 20 rfl) (by decide) (fun Hc36 => ?_) (fun Hc36 => ?_)
      · refine w_aload_n (zat TX14_people 25 rfl) rfl ?_
        refine w_getR (zat TX14_people 26 rfl) fX14_16 s1 (by decide) (by decide) rfl (wmr hWM 0 rfl) ?_
        refine w_iload_n (zat TX14_people 27 rfl) rfl ?_
        refine w_iload_n (zat TX14_people 28 rfl) rfl ?_
        refine x_iastore _ _ (zat TX14_people 29 rfl) s10 (by decide) (wmn hWM 0 rfl) (by decide) Hx (by omega) ?_
        refine w_aload_n (zat TX14_people 30 rfl) rfl ?_
        refine w_getR (zat TX14_people 31 rfl) fX14_20 s1 (by decide) (by decide) rfl (wmr hWM 1 rfl) ?_
        refine w_iload_n (zat TX14_people 32 rfl) rfl ?_
        refine w_iload_n (zat TX14_people 33 rfl) rfl ?_
        refine x_iastore _ _ (zat TX14_people 34 rfl) s11 (by decide) (wmn hWM 1 rfl) (by decide) Hx (by omega) ?_
        refine w_aload_n (zat TX14_people 35 rfl) rfl ?_
        refine x_callv1 (qX14_granted l _) (by decide) kX14_granted (rdy_V (zat TX14_people 36 rfl) kX14_granted pX14_granted zw1208 zw1210 zw35 (zrc (by decide) (by decide) rfl)) (Nat.le_of_ble_eq_true rfl) rfl rfl ?_
        refine w_ireturn (zat TX14_people 37 rfl) rfl rfl ?_
        try simp only [zb_0, Decidable.not_not] at Hc10 Hc26 Hc36
        exact ⟨by simp only [mPeople, Hc10, Hc26, Hc36, if_true, if_false, and_self, not_true_eq_false, not_false_eq_true, and_false, false_and, true_and, and_true], by simp only [mPeople, Hc10, Hc26, Hc36, if_true, if_false, and_self, not_true_eq_false, not_false_eq_true, and_false, false_and, true_and, and_true]⟩
      · refine w_aload_n (zat TX14_people 21 rfl) rfl ?_
        refine w_iconst (v := 2) (zat TX14_people 22 rfl) (by decide) ?_
        refine x_callv2 (qX14_denied l _ _) (by decide) kX14_denied (rdy_V (zat TX14_people 23 rfl) kX14_denied pX14_denied zw1204 zw1206 zw34 (zrc (by decide) (by decide) rfl)) (Nat.le_of_ble_eq_true rfl) rfl rfl ?_
        refine w_ireturn (zat TX14_people 24 rfl) rfl rfl ?_
        try simp only [zb_0, Decidable.not_not] at Hc10 Hc26 Hc36
        exact ⟨by simp only [mPeople, Hc10, Hc26, Hc36, if_true, if_false, and_self, not_true_eq_false, not_false_eq_true, and_false, false_and, true_and, and_true], by simp only [mPeople, Hc10, Hc26, Hc36, if_true, if_false, and_self, not_true_eq_false, not_false_eq_true, and_false, false_and, true_and, and_true]⟩
  · refine w_aload_n (zat TX14_people 7 rfl) rfl ?_
    refine w_iconst (v := 1) (zat TX14_people 8 rfl) (by decide) ?_
    refine x_callv2 (qX14_denied l _ _) (by decide) kX14_denied (rdy_V (zat TX14_people 9 rfl) kX14_denied pX14_denied zw1204 zw1206 zw34 (zrc (by decide) (by decide) rfl)) (Nat.le_of_ble_eq_true rfl) rfl rfl ?_
    refine w_ireturn (zat TX14_people 10 rfl) rfl rfl ?_
    try simp only [zb_0, Decidable.not_not] at Hc10
    exact ⟨by simp only [mPeople, Hc10, if_true, if_false, and_self, not_true_eq_false, not_false_eq_true, and_false, false_and, true_and, and_true], by simp only [mPeople, Hc10, if_true, if_false, and_self, not_true_eq_false, not_false_eq_true, and_false, false_and, true_and, and_true]⟩
def mBorder (h : zH) (nP nB : Nat) (a b r : Int32) : Int32 × zH := if (0 ≤ a ∧ a < nI nP) ∧ (0 ≤ b ∧ b < nI nP) ∧ ¬ a = b then (if 1 ≤ r ∧ r ≤ 500 then (if nB = 16 then (-1, mRef (zsI h 1 0 0 0) 3) else (nI nB, mRef (zsI (zsI (zsI (zsI (zsI h 1 0 0 0) 12 0 nB a) 13 0 nB b) 14 0 nB r) 1 0 5 (nI (nB + 1))) 0)) else (-1, mRef (zsI h 1 0 0 0) 2)) else (-1, mRef (zsI h 1 0 0 0) 1)
theorem qX14_border (l : Launch) (h : zH) (hWM : Wm h) (a b r : Int32) (nP : Nat) (hP : zI h 1 0 4 = nI nP) (hP2 : nP ≤ 10) (nB : Nat) (hB : zI h 1 0 5 = nI nB) (hB2 : nB ≤ 16) : Cx l 2 mX14_border [Vq (some (1, 0)), Vi a, Vi b, Vi r] h (Rv (Vi (mBorder h nP nB a b r).1)) (mBorder h nP nB a b r).2 := by
  refine Ct.in 0 kX14_border (plainFor_of_name rfl) (Nat.le_of_ble_eq_true rfl) ?_
  refine w_aload_n (zat TX14_border_0 0 rfl) rfl ?_
  refine w_iconst (v := 0) (zat TX14_border_0 1 rfl) (by decide) ?_
  refine w_putI (zat TX14_border_0 2 rfl) gX14_border_100 s1 (by decide) (by decide) rfl ⟨rfl, rfl⟩ ?_
  refine w_aload_n (zat TX14_border_0 3 rfl) rfl ?_
  refine w_iload_n (zat TX14_border_0 4 rfl) rfl ?_
  refine x_callv2 (qX14_isProvince l _ _ nP hP) (by decide) kX14_isProvince (rdy_V (zat TX14_border_0 5 rfl) kX14_isProvince pX14_isProvince zw1200 zw1202 zw33 (zrc (by decide) (by decide) rfl)) (Nat.le_of_ble_eq_true rfl) rfl rfl ?_
  refine w_if_eq 26 (zat TX14_border_0 6 rfl) (by decide) (fun Hc10 => ?_) (fun Hc10 => ?_)
  · refine w_aload_n (zat TX14_border_0 14 rfl) rfl ?_
    refine w_iconst (v := 1) (zat TX14_border_0 15 rfl) (by decide) ?_
    refine x_callv2 (qX14_refused l _ _) (by decide) kX14_refused (rdy_V (zat TX14_border_0 16 rfl) kX14_refused pX14_refused zw1188 zw1190 zw31 (zrc (by decide) (by decide) rfl)) (Nat.le_of_ble_eq_true rfl) rfl rfl ?_
    refine w_ireturn (zat TX14_border_0 17 rfl) rfl rfl ?_
    try simp only [zb_0, Decidable.not_not] at Hc10
    exact ⟨by simp only [mBorder, Hc10, if_true, if_false, and_self, not_true_eq_false, not_false_eq_true, and_false, false_and, true_and, and_true], by simp only [mBorder, Hc10, if_true, if_false, and_self, not_true_eq_false, not_false_eq_true, and_false, false_and, true_and, and_true]⟩
  · refine w_aload_n (zat TX14_border_0 7 rfl) rfl ?_
    refine w_iload_n (zat TX14_border_0 8 rfl) rfl ?_
    refine x_callv2 (qX14_isProvince l _ _ nP hP) (by decide) kX14_isProvince (rdy_V (zat TX14_border_0 9 rfl) kX14_isProvince pX14_isProvince zw1200 zw1202 zw33 (zrc (by decide) (by decide) rfl)) (Nat.le_of_ble_eq_true rfl) rfl rfl ?_
    refine w_if_eq 26 (zat TX14_border_0 10 rfl) (by decide) (fun Hc18 => ?_) (fun Hc18 => ?_)
    · refine w_aload_n (zat TX14_border_0 14 rfl) rfl ?_
      refine w_iconst (v := 1) (zat TX14_border_0 15 rfl) (by decide) ?_
      refine x_callv2 (qX14_refused l _ _) (by decide) kX14_refused (rdy_V (zat TX14_border_0 16 rfl) kX14_refused pX14_refused zw1188 zw1190 zw31 (zrc (by decide) (by decide) rfl)) (Nat.le_of_ble_eq_true rfl) rfl rfl ?_
      refine w_ireturn (zat TX14_border_0 17 rfl) rfl rfl ?_
      try simp only [zb_0, Decidable.not_not] at Hc10 Hc18
      exact ⟨by simp only [mBorder, Hc10, Hc18, if_true, if_false, and_self, not_true_eq_false, not_false_eq_true, and_false, false_and, true_and, and_true], by simp only [mBorder, Hc10, Hc18, if_true, if_false, and_self, not_true_eq_false, not_false_eq_true, and_false, false_and, true_and, and_true]⟩
    · refine w_iload_n (zat TX14_border_0 11 rfl) rfl ?_
      refine w_iload_n (zat TX14_border_0 12 rfl) rfl ?_
      refine w_icmp_ne 32 (zat TX14_border_0 13 rfl) (by decide) (fun Hc23 => ?_) (fun Hc23 => ?_)
      · refine w_iload_n (zat TX14_border_0 18 rfl) rfl ?_
        refine w_iconst (v := 1) (zat TX14_border_0 19 rfl) (by decide) ?_
        refine w_sipush (v := 500) (zat TX14_border_0 20 rfl) (by decide) ?_
        refine x_callv3 (qX14_in l _ _ _ _) (by decide) kX14_in (rdy_S (zat TX14_border_0 21 rfl) kX14_in pX14_in zw1185 zw1186) (Nat.le_of_ble_eq_true rfl) rfl rfl ?_
        refine w_if_ne 49 (zat TX14_border_0 22 rfl) (by decide) (fun Hc40 => ?_) (fun Hc40 => ?_)
        · refine w_aload_n (zat TX14_border_0 27 rfl) rfl ?_
          refine y_getI (v := nI nB) (zat TX14_border_0 28 rfl) fX14_109 s1 (by decide) (by decide) rfl hB ?_
          refine w_bipush (v := 16) (zat TX14_border_0 29 rfl) (by decide) ?_
          refine w_icmp_ne 64 (zat TX14_border_0 30 rfl) (by decide) (fun Hc55 => ?_) (fun Hc55 => ?_)
          · replace Hc55 : ¬ nB = 16 := fun q => Hc55 (by rw [q]; rfl)
            refine w_aload_n (zat TX14_border_0 35 rfl) rfl ?_
            refine w_getR (zat TX14_border_0 36 rfl) fX14_23 s1 (by decide) (by decide) rfl (wmr hWM 2 rfl) ?_
            refine w_aload_n (zat TX14_border_0 37 rfl) rfl ?_
            refine y_getI (v := nI nB) (zat TX14_border_0 38 rfl) fX14_109 s1 (by decide) (by decide) rfl hB ?_
            refine w_iload_n (zat TX14_border_0 39 rfl) rfl ?_
            refine x_iastore _ _ (zat TX14_border_0 40 rfl) s12 (by decide) (wmn hWM 2 rfl) (by decide) rfl (by omega) ?_
            refine w_aload_n (zat TX14_border_0 41 rfl) rfl ?_
            refine w_getR (zat TX14_border_0 42 rfl) fX14_26 s1 (by decide) (by decide) rfl (wmr hWM 3 rfl) ?_
            refine w_aload_n (zat TX14_border_0 43 rfl) rfl ?_
            refine y_getI (v := nI nB) (zat TX14_border_0 44 rfl) fX14_109 s1 (by decide) (by decide) rfl hB ?_
            refine w_iload_n (zat TX14_border_0 45 rfl) rfl ?_
            refine x_iastore _ _ (zat TX14_border_0 46 rfl) s13 (by decide) (wmn hWM 3 rfl) (by decide) rfl (by omega) ?_
            refine w_aload_n (zat TX14_border_0 47 rfl) rfl ?_
            refine w_getR (zat TX14_border_0 48 rfl) fX14_29 s1 (by decide) (by decide) rfl (wmr hWM 4 rfl) ?_
            refine w_aload_n (zat TX14_border_0 49 rfl) rfl ?_
            refine y_getI (v := nI nB) (zat TX14_border_0 50 rfl) fX14_109 s1 (by decide) (by decide) rfl hB ?_
            refine w_iload_n (zat TX14_border_0 51 rfl) rfl ?_
            refine x_iastore _ _ (zat TX14_border_0 52 rfl) s14 (by decide) (wmn hWM 4 rfl) (by decide) rfl (by omega) ?_
            refine w_aload_n (zat TX14_border_0 53 rfl) rfl ?_
            refine w_dup (zat TX14_border_0 54 rfl) rfl ?_
            refine y_getI (v := nI nB) (zat TX14_border_0 55 rfl) fX14_109 s1 (by decide) (by decide) rfl hB ?_
            refine w_iconst (v := 1) (zat TX14_border_0 56 rfl) (by decide) ?_
            refine w_iadd (zat TX14_border_0 57 rfl) ?_
            rw [nI_1]
            refine w_putI (zat TX14_border_0 58 rfl) gX14_border_109 s1 (by decide) (by decide) rfl ⟨rfl, rfl⟩ ?_
            refine w_aload_n (zat TX14_border_0 59 rfl) rfl ?_
            refine w_aload_n (zat TX14_border_1 0 rfl) rfl ?_
            refine y_getI (v := nI (nB + 1)) (zat TX14_border_1 1 rfl) fX14_109 s1 (by decide) (by decide) rfl rfl ?_
            refine w_iconst (v := 1) (zat TX14_border_1 2 rfl) (by decide) ?_
            refine w_isub (zat TX14_border_1 3 rfl) ?_
            rw [show nI (nB + 1) - 1 = nI nB from nI_pred nB]
            refine x_callv2 (qX14_done l _ _) (by decide) kX14_done (rdy_V (zat TX14_border_1 4 rfl) kX14_done pX14_done zw1192 zw1194 zw32 (zrc (by decide) (by decide) rfl)) (Nat.le_of_ble_eq_true rfl) rfl rfl ?_
            refine w_ireturn (zat TX14_border_1 5 rfl) rfl rfl ?_
            try simp only [zb_0, Decidable.not_not] at Hc10 Hc18 Hc23 Hc40 Hc55
            exact ⟨by simp only [mBorder, Hc10, Hc18, Hc23, Hc40, Hc55, if_true, if_false, and_self, not_true_eq_false, not_false_eq_true, and_false, false_and, true_and, and_true], by simp only [mBorder, Hc10, Hc18, Hc23, Hc40, Hc55, if_true, if_false, and_self, not_true_eq_false, not_false_eq_true, and_false, false_and, true_and, and_true]⟩
          · replace Hc55 : nB = 16 := nIe (by omega) (by decide) Hc55
            refine w_aload_n (zat TX14_border_0 31 rfl) rfl ?_
            refine w_iconst (v := 3) (zat TX14_border_0 32 rfl) (by decide) ?_
            refine x_callv2 (qX14_refused l _ _) (by decide) kX14_refused (rdy_V (zat TX14_border_0 33 rfl) kX14_refused pX14_refused zw1188 zw1190 zw31 (zrc (by decide) (by decide) rfl)) (Nat.le_of_ble_eq_true rfl) rfl rfl ?_
            refine w_ireturn (zat TX14_border_0 34 rfl) rfl rfl ?_
            try simp only [zb_0, Decidable.not_not] at Hc10 Hc18 Hc23 Hc40 Hc55
            exact ⟨by simp only [mBorder, Hc10, Hc18, Hc23, Hc40, Hc55, if_true, if_false, and_self, not_true_eq_false, not_false_eq_true, and_false, false_and, true_and, and_true], by simp only [mBorder, Hc10, Hc18, Hc23, Hc40, Hc55, if_true, if_false, and_self, not_true_eq_false, not_false_eq_true, and_false, false_and, true_and, and_true]⟩
        · refine w_aload_n (zat TX14_border_0 23 rfl) rfl ?_
          refine w_iconst (v := 2) (zat TX14_border_0 24 rfl) (by decide) ?_
          refine x_callv2 (qX14_refused l _ _) (by decide) kX14_refused (rdy_V (zat TX14_border_0 25 rfl) kX14_refused pX14_refused zw1188 zw1190 zw31 (zrc (by decide) (by decide) rfl)) (Nat.le_of_ble_eq_true rfl) rfl rfl ?_
          refine w_ireturn (zat TX14_border_0 26 rfl) rfl rfl ?_
          try simp only [zb_0, Decidable.not_not] at Hc10 Hc18 Hc23 Hc40
          exact ⟨by simp only [mBorder, Hc10, Hc18, Hc23, Hc40, if_true, if_false, and_self, not_true_eq_false, not_false_eq_true, and_false, false_and, true_and, and_true], by simp only [mBorder, Hc10, Hc18, Hc23, Hc40, if_true, if_false, and_self, not_true_eq_false, not_false_eq_true, and_false, false_and, true_and, and_true]⟩
      · refine w_aload_n (zat TX14_border_0 14 rfl) rfl ?_
        refine w_iconst (v := 1) (zat TX14_border_0 15 rfl) (by decide) ?_
        refine x_callv2 (qX14_refused l _ _) (by decide) kX14_refused (rdy_V (zat TX14_border_0 16 rfl) kX14_refused pX14_refused zw1188 zw1190 zw31 (zrc (by decide) (by decide) rfl)) (Nat.le_of_ble_eq_true rfl) rfl rfl ?_
        refine w_ireturn (zat TX14_border_0 17 rfl) rfl rfl ?_
        try simp only [zb_0, Decidable.not_not] at Hc10 Hc18 Hc23
        exact ⟨by simp only [mBorder, Hc10, Hc18, Hc23, if_true, if_false, and_self, not_true_eq_false, not_false_eq_true, and_false, false_and, true_and, and_true], by simp only [mBorder, Hc10, Hc18, Hc23, if_true, if_false, and_self, not_true_eq_false, not_false_eq_true, and_false, false_and, true_and, and_true]⟩
def mGuard (h : zH) (nB : Nat) (b g : Int32) : Int32 × zH := if 0 ≤ b ∧ b < nI nB then (if 0 ≤ g ∧ g ≤ 9 then (1, mRef (zsI (zsI h 1 0 0 0) 15 0 b.toNatClampNeg g) 0) else (0, mRef (zsI h 1 0 0 0) 2)) else (0, mRef (zsI h 1 0 0 0) 1)
theorem qX14_guard (l : Launch) (h : zH) (hWM : Wm h) (b g : Int32) (nB : Nat) (hB : zI h 1 0 5 = nI nB) (hB2 : nB ≤ 16) : Cx l 2 mX14_guard [Vq (some (1, 0)), Vi b, Vi g] h (Rv (Vi (mGuard h nB b g).1)) (mGuard h nB b g).2 := by
  refine Ct.in 0 kX14_guard (plainFor_of_name rfl) (Nat.le_of_ble_eq_true rfl) ?_
  refine w_aload_n (zat TX14_guard 0 rfl) rfl ?_
  refine w_iconst (v := 0) (zat TX14_guard 1 rfl) (by decide) ?_
  refine w_putI (zat TX14_guard 2 rfl) gX14_guard_100 s1 (by decide) (by decide) rfl ⟨rfl, rfl⟩ ?_
  refine w_aload_n (zat TX14_guard 3 rfl) rfl ?_
  refine w_iload_n (zat TX14_guard 4 rfl) rfl ?_
  refine x_callv2 (qX14_isBorder l _ _ nB hB) (by decide) kX14_isBorder (rdy_V (zat TX14_guard 5 rfl) kX14_isBorder pX14_isBorder zw1220 zw1222 zw36 (zrc (by decide) (by decide) rfl)) (Nat.le_of_ble_eq_true rfl) rfl rfl ?_
  refine w_if_ne 19 (zat TX14_guard 6 rfl) (by decide) (fun Hc10 => ?_) (fun Hc10 => ?_)
  · obtain ⟨Hx, Hn⟩ := ixC (n := nB) (by omega) (zb_n.mp Hc10)
    refine w_iload_n (zat TX14_guard 11 rfl) rfl ?_
    refine w_iconst (v := 0) (zat TX14_guard 12 rfl) (by decide) ?_
    refine w_bipush (v := 9) (zat TX14_guard 13 rfl) (by decide) ?_
    refine x_callv3 (qX14_in l _ _ _ _) (by decide) kX14_in (rdy_S (zat TX14_guard 14 rfl) kX14_in pX14_in zw1185 zw1186) (Nat.le_of_ble_eq_true rfl) rfl rfl ?_
    refine w_if_ne 35 (zat TX14_guard 15 rfl) (by decide) (fun Hc26 => ?_) (fun Hc26 => ?_)
    · refine w_aload_n (zat TX14_guard 20 rfl) rfl ?_
      refine w_getR (zat TX14_guard 21 rfl) fX14_32 s1 (by decide) (by decide) rfl (wmr hWM 5 rfl) ?_
      refine w_iload_n (zat TX14_guard 22 rfl) rfl ?_
      refine w_iload_n (zat TX14_guard 23 rfl) rfl ?_
      refine x_iastore _ _ (zat TX14_guard 24 rfl) s15 (by decide) (wmn hWM 5 rfl) (by decide) Hx (by omega) ?_
      refine w_aload_n (zat TX14_guard 25 rfl) rfl ?_
      refine x_callv1 (qX14_granted l _) (by decide) kX14_granted (rdy_V (zat TX14_guard 26 rfl) kX14_granted pX14_granted zw1208 zw1210 zw35 (zrc (by decide) (by decide) rfl)) (Nat.le_of_ble_eq_true rfl) rfl rfl ?_
      refine w_ireturn (zat TX14_guard 27 rfl) rfl rfl ?_
      try simp only [zb_0, Decidable.not_not] at Hc10 Hc26
      exact ⟨by simp only [mGuard, Hc10, Hc26, if_true, if_false, and_self, not_true_eq_false, not_false_eq_true, and_false, false_and, true_and, and_true], by simp only [mGuard, Hc10, Hc26, if_true, if_false, and_self, not_true_eq_false, not_false_eq_true, and_false, false_and, true_and, and_true]⟩
    · refine w_aload_n (zat TX14_guard 16 rfl) rfl ?_
      refine w_iconst (v := 2) (zat TX14_guard 17 rfl) (by decide) ?_
      refine x_callv2 (qX14_denied l _ _) (by decide) kX14_denied (rdy_V (zat TX14_guard 18 rfl) kX14_denied pX14_denied zw1204 zw1206 zw34 (zrc (by decide) (by decide) rfl)) (Nat.le_of_ble_eq_true rfl) rfl rfl ?_
      refine w_ireturn (zat TX14_guard 19 rfl) rfl rfl ?_
      try simp only [zb_0, Decidable.not_not] at Hc10 Hc26
      exact ⟨by simp only [mGuard, Hc10, Hc26, if_true, if_false, and_self, not_true_eq_false, not_false_eq_true, and_false, false_and, true_and, and_true], by simp only [mGuard, Hc10, Hc26, if_true, if_false, and_self, not_true_eq_false, not_false_eq_true, and_false, false_and, true_and, and_true]⟩
  · refine w_aload_n (zat TX14_guard 7 rfl) rfl ?_
    refine w_iconst (v := 1) (zat TX14_guard 8 rfl) (by decide) ?_
    refine x_callv2 (qX14_denied l _ _) (by decide) kX14_denied (rdy_V (zat TX14_guard 9 rfl) kX14_denied pX14_denied zw1204 zw1206 zw34 (zrc (by decide) (by decide) rfl)) (Nat.le_of_ble_eq_true rfl) rfl rfl ?_
    refine w_ireturn (zat TX14_guard 10 rfl) rfl rfl ?_
    try simp only [zb_0, Decidable.not_not] at Hc10
    exact ⟨by simp only [mGuard, Hc10, if_true, if_false, and_self, not_true_eq_false, not_false_eq_true, and_false, false_and, true_and, and_true], by simp only [mGuard, Hc10, if_true, if_false, and_self, not_true_eq_false, not_false_eq_true, and_false, false_and, true_and, and_true]⟩
theorem qX14_fault (l : Launch) (h : zH) : Cx l 1 mX14_fault [Vq (some (1, 0))] h (Rv (Vi (zI h 1 0 3))) (zsI h 1 0 0 0) := by
  refine Ct.in 0 kX14_fault (plainFor_of_name rfl) (Nat.le_of_ble_eq_true rfl) ?_
  refine w_aload_n (zat TX14_fault 0 rfl) rfl ?_
  refine w_iconst (v := 0) (zat TX14_fault 1 rfl) (by decide) ?_
  refine w_putI (zat TX14_fault 2 rfl) gX14_fault_100 s1 (by decide) (by decide) rfl ⟨rfl, rfl⟩ ?_
  refine w_aload_n (zat TX14_fault 3 rfl) rfl ?_
  refine y_getI (v := zI h 1 0 3) (zat TX14_fault 4 rfl) fX14_266 s1 (by decide) (by decide) rfl rfl ?_
  refine w_ireturn (zat TX14_fault 5 rfl) rfl rfl ?_
  exact ⟨rfl, rfl⟩
theorem qX14_where (l : Launch) (h : zH) : Cx l 1 mX14_where [Vq (some (1, 0))] h (Rv (Vi (zI h 1 0 2))) (zsI h 1 0 0 0) := by
  refine Ct.in 0 kX14_where (plainFor_of_name rfl) (Nat.le_of_ble_eq_true rfl) ?_
  refine w_aload_n (zat TX14_where 0 rfl) rfl ?_
  refine w_iconst (v := 0) (zat TX14_where 1 rfl) (by decide) ?_
  refine w_putI (zat TX14_where 2 rfl) gX14_where_100 s1 (by decide) (by decide) rfl ⟨rfl, rfl⟩ ?_
  refine w_aload_n (zat TX14_where 3 rfl) rfl ?_
  refine y_getI (v := zI h 1 0 2) (zat TX14_where 4 rfl) fX14_9 s1 (by decide) (by decide) rfl rfl ?_
  refine w_ireturn (zat TX14_where 5 rfl) rfl rfl ?_
  exact ⟨rfl, rfl⟩
theorem qX14_trouble (l : Launch) (h : zH) : Cx l 1 mX14_trouble [Vq (some (1, 0))] h (Rv (Vi (zI h 1 0 1))) (zsI h 1 0 0 0) := by
  refine Ct.in 0 kX14_trouble (plainFor_of_name rfl) (Nat.le_of_ble_eq_true rfl) ?_
  refine w_aload_n (zat TX14_trouble 0 rfl) rfl ?_
  refine w_iconst (v := 0) (zat TX14_trouble 1 rfl) (by decide) ?_
  refine w_putI (zat TX14_trouble 2 rfl) gX14_trouble_100 s1 (by decide) (by decide) rfl ⟨rfl, rfl⟩ ?_
  refine w_aload_n (zat TX14_trouble 3 rfl) rfl ?_
  refine y_getI (v := zI h 1 0 1) (zat TX14_trouble 4 rfl) fX14_103 s1 (by decide) (by decide) rfl rfl ?_
  refine w_ireturn (zat TX14_trouble 5 rfl) rfl rfl ?_
  exact ⟨rfl, rfl⟩
def mStore (h : zH) (nP nS : Nat) (p a : Int32) : Int32 × zH := if 0 ≤ p ∧ p < nI nP then (if 0 ≤ a ∧ a ≤ 1000000 then (if nS = 8 then (-1, mRef (zsI h 1 0 0 0) 3) else (nI nS, mRef (zsI (zsI (zsI (zsI (zsI h 1 0 0 0) 32 0 nS p) 28 0 nS a) 31 0 nS (-1)) 1 0 40 (nI (nS + 1))) 0)) else (-1, mRef (zsI h 1 0 0 0) 2)) else (-1, mRef (zsI h 1 0 0 0) 1)
theorem qX14_store (l : Launch) (h : zH) (hWM : Wm h) (p a : Int32) (nP : Nat) (hP : zI h 1 0 4 = nI nP) (hP2 : nP ≤ 10) (nS : Nat) (hS : zI h 1 0 40 = nI nS) (hS2 : nS ≤ 8) : Cx l 2 mX14_store [Vq (some (1, 0)), Vi p, Vi a] h (Rv (Vi (mStore h nP nS p a).1)) (mStore h nP nS p a).2 := by
  refine Ct.in 0 kX14_store (plainFor_of_name rfl) (Nat.le_of_ble_eq_true rfl) ?_
  refine w_aload_n (zat TX14_store 0 rfl) rfl ?_
  refine w_iconst (v := 0) (zat TX14_store 1 rfl) (by decide) ?_
  refine w_putI (zat TX14_store 2 rfl) gX14_store_100 s1 (by decide) (by decide) rfl ⟨rfl, rfl⟩ ?_
  refine w_aload_n (zat TX14_store 3 rfl) rfl ?_
  refine w_iload_n (zat TX14_store 4 rfl) rfl ?_
  refine x_callv2 (qX14_isProvince l _ _ nP hP) (by decide) kX14_isProvince (rdy_V (zat TX14_store 5 rfl) kX14_isProvince pX14_isProvince zw1200 zw1202 zw33 (zrc (by decide) (by decide) rfl)) (Nat.le_of_ble_eq_true rfl) rfl rfl ?_
  refine w_if_ne 19 (zat TX14_store 6 rfl) (by decide) (fun Hc10 => ?_) (fun Hc10 => ?_)
  · refine w_iload_n (zat TX14_store 11 rfl) rfl ?_
    refine w_iconst (v := 0) (zat TX14_store 12 rfl) (by decide) ?_
    refine w_ldcw (v := 1000000) (zat TX14_store 13 rfl) zw1447 ?_
    refine x_callv3 (qX14_in l _ _ _ _) (by decide) kX14_in (rdy_S (zat TX14_store 14 rfl) kX14_in pX14_in zw1185 zw1186) (Nat.le_of_ble_eq_true rfl) rfl rfl ?_
    refine w_if_ne 36 (zat TX14_store 15 rfl) (by decide) (fun Hc27 => ?_) (fun Hc27 => ?_)
    · refine w_aload_n (zat TX14_store 20 rfl) rfl ?_
      refine y_getI (v := nI nS) (zat TX14_store 21 rfl) fX14_367 s1 (by decide) (by decide) rfl hS ?_
      refine w_bipush (v := 8) (zat TX14_store 22 rfl) (by decide) ?_
      refine w_icmp_ne 51 (zat TX14_store 23 rfl) (by decide) (fun Hc42 => ?_) (fun Hc42 => ?_)
      · replace Hc42 : ¬ nS = 8 := fun q => Hc42 (by rw [q]; rfl)
        refine w_aload_n (zat TX14_store 28 rfl) rfl ?_
        refine w_getR (zat TX14_store 29 rfl) fX14_93 s1 (by decide) (by decide) rfl (wmr hWM 21 rfl) ?_
        refine w_aload_n (zat TX14_store 30 rfl) rfl ?_
        refine y_getI (v := nI nS) (zat TX14_store 31 rfl) fX14_367 s1 (by decide) (by decide) rfl hS ?_
        refine w_iload_n (zat TX14_store 32 rfl) rfl ?_
        refine x_iastore _ _ (zat TX14_store 33 rfl) s32 (by decide) (wmn hWM 20 rfl) (by decide) rfl (by omega) ?_
        refine w_aload_n (zat TX14_store 34 rfl) rfl ?_
        refine w_getR (zat TX14_store 35 rfl) fX14_81 s1 (by decide) (by decide) rfl (wmr hWM 17 rfl) ?_
        refine w_aload_n (zat TX14_store 36 rfl) rfl ?_
        refine y_getI (v := nI nS) (zat TX14_store 37 rfl) fX14_367 s1 (by decide) (by decide) rfl hS ?_
        refine w_iload_n (zat TX14_store 38 rfl) rfl ?_
        refine x_iastore _ _ (zat TX14_store 39 rfl) s28 (by decide) (wmn hWM 16 rfl) (by decide) rfl (by omega) ?_
        refine w_aload_n (zat TX14_store 40 rfl) rfl ?_
        refine w_getR (zat TX14_store 41 rfl) fX14_90 s1 (by decide) (by decide) rfl (wmr hWM 20 rfl) ?_
        refine w_aload_n (zat TX14_store 42 rfl) rfl ?_
        refine y_getI (v := nI nS) (zat TX14_store 43 rfl) fX14_367 s1 (by decide) (by decide) rfl hS ?_
        refine w_iconst (v := -1) (zat TX14_store 44 rfl) (by decide) ?_
        refine x_iastore _ _ (zat TX14_store 45 rfl) s31 (by decide) (wmn hWM 19 rfl) (by decide) rfl (by omega) ?_
        refine w_aload_n (zat TX14_store 46 rfl) rfl ?_
        refine w_dup (zat TX14_store 47 rfl) rfl ?_
        refine y_getI (v := nI nS) (zat TX14_store 48 rfl) fX14_367 s1 (by decide) (by decide) rfl hS ?_
        refine w_iconst (v := 1) (zat TX14_store 49 rfl) (by decide) ?_
        refine w_iadd (zat TX14_store 50 rfl) ?_
        rw [nI_1]
        refine w_putI (zat TX14_store 51 rfl) gX14_store_367 s1 (by decide) (by decide) rfl ⟨rfl, rfl⟩ ?_
        refine w_aload_n (zat TX14_store 52 rfl) rfl ?_
        refine w_aload_n (zat TX14_store 53 rfl) rfl ?_
        refine y_getI (v := nI (nS + 1)) (zat TX14_store 54 rfl) fX14_367 s1 (by decide) (by decide) rfl rfl ?_
        refine w_iconst (v := 1) (zat TX14_store 55 rfl) (by decide) ?_
        refine w_isub (zat TX14_store 56 rfl) ?_
        rw [show nI (nS + 1) - 1 = nI nS from nI_pred nS]
        refine x_callv2 (qX14_done l _ _) (by decide) kX14_done (rdy_V (zat TX14_store 57 rfl) kX14_done pX14_done zw1192 zw1194 zw32 (zrc (by decide) (by decide) rfl)) (Nat.le_of_ble_eq_true rfl) rfl rfl ?_
        refine w_ireturn (zat TX14_store 58 rfl) rfl rfl ?_
        try simp only [zb_0, Decidable.not_not] at Hc10 Hc27 Hc42
        exact ⟨by simp only [mStore, Hc10, Hc27, Hc42, if_true, if_false, and_self, not_true_eq_false, not_false_eq_true, and_false, false_and, true_and, and_true], by simp only [mStore, Hc10, Hc27, Hc42, if_true, if_false, and_self, not_true_eq_false, not_false_eq_true, and_false, false_and, true_and, and_true]⟩
      · replace Hc42 : nS = 8 := nIe (by omega) (by decide) Hc42
        refine w_aload_n (zat TX14_store 24 rfl) rfl ?_
        refine w_iconst (v := 3) (zat TX14_store 25 rfl) (by decide) ?_
        refine x_callv2 (qX14_refused l _ _) (by decide) kX14_refused (rdy_V (zat TX14_store 26 rfl) kX14_refused pX14_refused zw1188 zw1190 zw31 (zrc (by decide) (by decide) rfl)) (Nat.le_of_ble_eq_true rfl) rfl rfl ?_
        refine w_ireturn (zat TX14_store 27 rfl) rfl rfl ?_
        try simp only [zb_0, Decidable.not_not] at Hc10 Hc27 Hc42
        exact ⟨by simp only [mStore, Hc10, Hc27, Hc42, if_true, if_false, and_self, not_true_eq_false, not_false_eq_true, and_false, false_and, true_and, and_true], by simp only [mStore, Hc10, Hc27, Hc42, if_true, if_false, and_self, not_true_eq_false, not_false_eq_true, and_false, false_and, true_and, and_true]⟩
    · refine w_aload_n (zat TX14_store 16 rfl) rfl ?_
      refine w_iconst (v := 2) (zat TX14_store 17 rfl) (by decide) ?_
      refine x_callv2 (qX14_refused l _ _) (by decide) kX14_refused (rdy_V (zat TX14_store 18 rfl) kX14_refused pX14_refused zw1188 zw1190 zw31 (zrc (by decide) (by decide) rfl)) (Nat.le_of_ble_eq_true rfl) rfl rfl ?_
      refine w_ireturn (zat TX14_store 19 rfl) rfl rfl ?_
      try simp only [zb_0, Decidable.not_not] at Hc10 Hc27
      exact ⟨by simp only [mStore, Hc10, Hc27, if_true, if_false, and_self, not_true_eq_false, not_false_eq_true, and_false, false_and, true_and, and_true], by simp only [mStore, Hc10, Hc27, if_true, if_false, and_self, not_true_eq_false, not_false_eq_true, and_false, false_and, true_and, and_true]⟩
  · refine w_aload_n (zat TX14_store 7 rfl) rfl ?_
    refine w_iconst (v := 1) (zat TX14_store 8 rfl) (by decide) ?_
    refine x_callv2 (qX14_refused l _ _) (by decide) kX14_refused (rdy_V (zat TX14_store 9 rfl) kX14_refused pX14_refused zw1188 zw1190 zw31 (zrc (by decide) (by decide) rfl)) (Nat.le_of_ble_eq_true rfl) rfl rfl ?_
    refine w_ireturn (zat TX14_store 10 rfl) rfl rfl ?_
    try simp only [zb_0, Decidable.not_not] at Hc10
    exact ⟨by simp only [mStore, Hc10, if_true, if_false, and_self, not_true_eq_false, not_false_eq_true, and_false, false_and, true_and, and_true], by simp only [mStore, Hc10, if_true, if_false, and_self, not_true_eq_false, not_false_eq_true, and_false, false_and, true_and, and_true]⟩
def mMoves (h : zH) (nS : Nat) (s a z : Int32) : Int32 × zH := if 0 ≤ s ∧ s < nI nS then (if z = 0 then (if (1 ≤ a ∧ a ≤ 1000000) ∧ zI h 29 0 s.toNatClampNeg + a ≤ 1000000000 then (zI h 29 0 s.toNatClampNeg + a, mRef (zsI (zsI h 1 0 0 0) 29 0 s.toNatClampNeg (zI h 29 0 s.toNatClampNeg + a)) 0) else (-1, mRef (zsI h 1 0 0 0) 2))
  else (if (1 ≤ a ∧ a ≤ 1000000) ∧ zI h 30 0 s.toNatClampNeg + a ≤ 1000000000 then (zI h 30 0 s.toNatClampNeg + a, mRef (zsI (zsI h 1 0 0 0) 30 0 s.toNatClampNeg (zI h 30 0 s.toNatClampNeg + a)) 0) else (-1, mRef (zsI h 1 0 0 0) 2))) else (-1, mRef (zsI h 1 0 0 0) 1)
theorem qX14_moves (l : Launch) (h : zH) (hWM : Wm h) (s a z : Int32) (nS : Nat) (hS : zI h 1 0 40 = nI nS) (hS2 : nS ≤ 8) : Cx l 2 mX14_moves [Vq (some (1, 0)), Vi s, Vi a, Vi z] h (Rv (Vi (mMoves h nS s a z).1)) (mMoves h nS s a z).2 := by
  refine Ct.in 1 kX14_moves (plainFor_of_name rfl) (Nat.le_of_ble_eq_true rfl) ?_
  refine w_aload_n (zat TX14_moves_0 0 rfl) rfl ?_
  refine w_iconst (v := 0) (zat TX14_moves_0 1 rfl) (by decide) ?_
  refine w_putI (zat TX14_moves_0 2 rfl) gX14_moves_100 s1 (by decide) (by decide) rfl ⟨rfl, rfl⟩ ?_
  refine w_aload_n (zat TX14_moves_0 3 rfl) rfl ?_
  refine w_iload_n (zat TX14_moves_0 4 rfl) rfl ?_
  refine x_callv2 (qX14_isStore l _ _ nS hS) (by decide) kX14_isStore (rdy_V (zat TX14_moves_0 5 rfl) kX14_isStore pX14_isStore zw1452 zw1454 zw62 (zrc (by decide) (by decide) rfl)) (Nat.le_of_ble_eq_true rfl) rfl rfl ?_
  refine w_if_ne 19 (zat TX14_moves_0 6 rfl) (by decide) (fun Hc10 => ?_) (fun Hc10 => ?_)
  · obtain ⟨Hx, Hn⟩ := ixC (n := nS) (by omega) (zb_n.mp Hc10)
    refine w_iload_n (zat TX14_moves_0 11 rfl) rfl ?_
    refine w_if_eq 32 (zat TX14_moves_0 12 rfl) (by decide) (fun Hc20 => ?_) (fun Hc20 => ?_)
    · refine w_aload_n (zat TX14_moves_0 18 rfl) rfl ?_
      refine w_getR (zat TX14_moves_0 19 rfl) fX14_84 s1 (by decide) (by decide) rfl (wmr hWM 18 rfl) ?_
      refine w_iload_n (zat TX14_moves_0 20 rfl) rfl ?_
      refine y_iaload _ _ (v := zI h 29 0 s.toNatClampNeg) (zat TX14_moves_0 21 rfl) s29 (by decide) (wmn hWM 17 rfl) (by decide) Hx (by omega) rfl ?_
      refine x_istore (ls2 := [_, _, _, _, _]) (zat TX14_moves_0 22 rfl) (by decide) rfl ?_
      refine w_iload_n (zat TX14_moves_0 23 rfl) rfl ?_
      refine w_iconst (v := 1) (zat TX14_moves_0 24 rfl) (by decide) ?_
      refine w_ldcw (v := 1000000) (zat TX14_moves_0 25 rfl) zw1447 ?_
      refine x_callv3 (qX14_in l _ _ _ _) (by decide) kX14_in (rdy_S (zat TX14_moves_0 26 rfl) kX14_in pX14_in zw1185 zw1186) (Nat.le_of_ble_eq_true rfl) rfl rfl ?_
      refine w_if_eq 61 (zat TX14_moves_0 27 rfl) (by decide) (fun Hc48 => ?_) (fun Hc48 => ?_)
      · refine w_aload_n (zat TX14_moves_0 33 rfl) rfl ?_
        refine w_iconst (v := 2) (zat TX14_moves_0 34 rfl) (by decide) ?_
        refine x_callv2 (qX14_refused l _ _) (by decide) kX14_refused (rdy_V (zat TX14_moves_0 35 rfl) kX14_refused pX14_refused zw1188 zw1190 zw31 (zrc (by decide) (by decide) rfl)) (Nat.le_of_ble_eq_true rfl) rfl rfl ?_
        refine w_ireturn (zat TX14_moves_0 36 rfl) rfl rfl ?_
        try simp only [zb_0, Decidable.not_not] at Hc10 Hc20 Hc48
        exact ⟨by simp only [mMoves, Hc10, Hc20, Hc48, if_true, if_false, and_self, not_true_eq_false, not_false_eq_true, and_false, false_and, true_and, and_true], by simp only [mMoves, Hc10, Hc20, Hc48, if_true, if_false, and_self, not_true_eq_false, not_false_eq_true, and_false, false_and, true_and, and_true]⟩
      · refine w_iload (zat TX14_moves_0 28 rfl) rfl ?_
        refine w_iload_n (zat TX14_moves_0 29 rfl) rfl ?_
        refine w_iadd (zat TX14_moves_0 30 rfl) ?_
        refine w_ldcw (v := 1000000000) (zat TX14_moves_0 31 rfl) zw1456 ?_
        refine w_icmp_le 67 (zat TX14_moves_0 32 rfl) (by decide) (fun Hc58 => ?_) (fun Hc58 => ?_)
        · refine w_iload_n (zat TX14_moves_0 37 rfl) rfl ?_
          refine w_if_eq 84 (zat TX14_moves_0 38 rfl) (by decide) (fun Hc68 => ?_) (fun Hc68 => ?_)
          · refine w_aload_n (zat TX14_moves_0 48 rfl) rfl ?_
            refine w_getR (zat TX14_moves_0 49 rfl) fX14_84 s1 (by decide) (by decide) rfl (wmr hWM 18 rfl) ?_
            refine w_iload_n (zat TX14_moves_0 50 rfl) rfl ?_
            refine w_dup2 (zat TX14_moves_0 51 rfl) rfl rfl ?_
            refine y_iaload _ _ (v := zI h 29 0 s.toNatClampNeg) (zat TX14_moves_0 52 rfl) s29 (by decide) (wmn hWM 17 rfl) (by decide) Hx (by omega) rfl ?_
            refine w_iload_n (zat TX14_moves_0 53 rfl) rfl ?_
            refine w_iadd (zat TX14_moves_0 54 rfl) ?_
            refine x_iastore _ _ (zat TX14_moves_0 55 rfl) s29 (by decide) (wmn hWM 17 rfl) (by decide) Hx (by omega) ?_
            refine w_aload_n (zat TX14_moves_0 56 rfl) rfl ?_
            refine w_iload (zat TX14_moves_0 57 rfl) rfl ?_
            refine w_iload_n (zat TX14_moves_0 58 rfl) rfl ?_
            refine w_iadd (zat TX14_moves_0 59 rfl) ?_
            refine x_callv2 (qX14_done l _ _) (by decide) kX14_done (rdy_V (zat TX14_moves_1 0 rfl) kX14_done pX14_done zw1192 zw1194 zw32 (zrc (by decide) (by decide) rfl)) (Nat.le_of_ble_eq_true rfl) rfl rfl ?_
            refine w_ireturn (zat TX14_moves_1 1 rfl) rfl rfl ?_
            try simp only [zb_0, Decidable.not_not] at Hc10 Hc20 Hc48 Hc58 Hc68
            exact ⟨by simp only [mMoves, Hc10, Hc20, Hc48, Hc58, Hc68, if_true, if_false, and_self, not_true_eq_false, not_false_eq_true, and_false, false_and, true_and, and_true], by simp only [mMoves, Hc10, Hc20, Hc48, Hc58, Hc68, if_true, if_false, and_self, not_true_eq_false, not_false_eq_true, and_false, false_and, true_and, and_true]⟩
          · exact absurd Hc20 Hc68
        · refine w_aload_n (zat TX14_moves_0 33 rfl) rfl ?_
          refine w_iconst (v := 2) (zat TX14_moves_0 34 rfl) (by decide) ?_
          refine x_callv2 (qX14_refused l _ _) (by decide) kX14_refused (rdy_V (zat TX14_moves_0 35 rfl) kX14_refused pX14_refused zw1188 zw1190 zw31 (zrc (by decide) (by decide) rfl)) (Nat.le_of_ble_eq_true rfl) rfl rfl ?_
          refine w_ireturn (zat TX14_moves_0 36 rfl) rfl rfl ?_
          try simp only [zb_0, Decidable.not_not] at Hc10 Hc20 Hc48 Hc58
          exact ⟨by simp only [mMoves, Hc10, Hc20, Hc48, Hc58, if_true, if_false, and_self, not_true_eq_false, not_false_eq_true, and_false, false_and, true_and, and_true], by simp only [mMoves, Hc10, Hc20, Hc48, Hc58, if_true, if_false, and_self, not_true_eq_false, not_false_eq_true, and_false, false_and, true_and, and_true]⟩
    · refine w_aload_n (zat TX14_moves_0 13 rfl) rfl ?_
      refine w_getR (zat TX14_moves_0 14 rfl) fX14_87 s1 (by decide) (by decide) rfl (wmr hWM 19 rfl) ?_
      refine w_iload_n (zat TX14_moves_0 15 rfl) rfl ?_
      refine y_iaload _ _ (v := zI h 30 0 s.toNatClampNeg) (zat TX14_moves_0 16 rfl) s30 (by decide) (wmn hWM 18 rfl) (by decide) Hx (by omega) rfl ?_
      refine w_goto 38 (zat TX14_moves_0 17 rfl) (by decide) ?_
      refine x_istore (ls2 := [_, _, _, _, _]) (zat TX14_moves_0 22 rfl) (by decide) rfl ?_
      refine w_iload_n (zat TX14_moves_0 23 rfl) rfl ?_
      refine w_iconst (v := 1) (zat TX14_moves_0 24 rfl) (by decide) ?_
      refine w_ldcw (v := 1000000) (zat TX14_moves_0 25 rfl) zw1447 ?_
      refine x_callv3 (qX14_in l _ _ _ _) (by decide) kX14_in (rdy_S (zat TX14_moves_0 26 rfl) kX14_in pX14_in zw1185 zw1186) (Nat.le_of_ble_eq_true rfl) rfl rfl ?_
      refine w_if_eq 61 (zat TX14_moves_0 27 rfl) (by decide) (fun Hc48 => ?_) (fun Hc48 => ?_)
      · refine w_aload_n (zat TX14_moves_0 33 rfl) rfl ?_
        refine w_iconst (v := 2) (zat TX14_moves_0 34 rfl) (by decide) ?_
        refine x_callv2 (qX14_refused l _ _) (by decide) kX14_refused (rdy_V (zat TX14_moves_0 35 rfl) kX14_refused pX14_refused zw1188 zw1190 zw31 (zrc (by decide) (by decide) rfl)) (Nat.le_of_ble_eq_true rfl) rfl rfl ?_
        refine w_ireturn (zat TX14_moves_0 36 rfl) rfl rfl ?_
        try simp only [zb_0, Decidable.not_not] at Hc10 Hc20 Hc48
        exact ⟨by simp only [mMoves, Hc10, Hc20, Hc48, if_true, if_false, and_self, not_true_eq_false, not_false_eq_true, and_false, false_and, true_and, and_true], by simp only [mMoves, Hc10, Hc20, Hc48, if_true, if_false, and_self, not_true_eq_false, not_false_eq_true, and_false, false_and, true_and, and_true]⟩
      · refine w_iload (zat TX14_moves_0 28 rfl) rfl ?_
        refine w_iload_n (zat TX14_moves_0 29 rfl) rfl ?_
        refine w_iadd (zat TX14_moves_0 30 rfl) ?_
        refine w_ldcw (v := 1000000000) (zat TX14_moves_0 31 rfl) zw1456 ?_
        refine w_icmp_le 67 (zat TX14_moves_0 32 rfl) (by decide) (fun Hc58 => ?_) (fun Hc58 => ?_)
        · refine w_iload_n (zat TX14_moves_0 37 rfl) rfl ?_
          refine w_if_eq 84 (zat TX14_moves_0 38 rfl) (by decide) (fun Hc68 => ?_) (fun Hc68 => ?_)
          · exact absurd Hc68 Hc20
          · refine w_aload_n (zat TX14_moves_0 39 rfl) rfl ?_
            refine w_getR (zat TX14_moves_0 40 rfl) fX14_87 s1 (by decide) (by decide) rfl (wmr hWM 19 rfl) ?_
            refine w_iload_n (zat TX14_moves_0 41 rfl) rfl ?_
            refine w_dup2 (zat TX14_moves_0 42 rfl) rfl rfl ?_
            refine y_iaload _ _ (v := zI h 30 0 s.toNatClampNeg) (zat TX14_moves_0 43 rfl) s30 (by decide) (wmn hWM 18 rfl) (by decide) Hx (by omega) rfl ?_
            refine w_iload_n (zat TX14_moves_0 44 rfl) rfl ?_
            refine w_iadd (zat TX14_moves_0 45 rfl) ?_
            refine x_iastore _ _ (zat TX14_moves_0 46 rfl) s30 (by decide) (wmn hWM 18 rfl) (by decide) Hx (by omega) ?_
            refine w_goto 94 (zat TX14_moves_0 47 rfl) (by decide) ?_
            refine w_aload_n (zat TX14_moves_0 56 rfl) rfl ?_
            refine w_iload (zat TX14_moves_0 57 rfl) rfl ?_
            refine w_iload_n (zat TX14_moves_0 58 rfl) rfl ?_
            refine w_iadd (zat TX14_moves_0 59 rfl) ?_
            refine x_callv2 (qX14_done l _ _) (by decide) kX14_done (rdy_V (zat TX14_moves_1 0 rfl) kX14_done pX14_done zw1192 zw1194 zw32 (zrc (by decide) (by decide) rfl)) (Nat.le_of_ble_eq_true rfl) rfl rfl ?_
            refine w_ireturn (zat TX14_moves_1 1 rfl) rfl rfl ?_
            try simp only [zb_0, Decidable.not_not] at Hc10 Hc20 Hc48 Hc58 Hc68
            exact ⟨by simp only [mMoves, Hc10, Hc20, Hc48, Hc58, Hc68, if_true, if_false, and_self, not_true_eq_false, not_false_eq_true, and_false, false_and, true_and, and_true], by simp only [mMoves, Hc10, Hc20, Hc48, Hc58, Hc68, if_true, if_false, and_self, not_true_eq_false, not_false_eq_true, and_false, false_and, true_and, and_true]⟩
        · refine w_aload_n (zat TX14_moves_0 33 rfl) rfl ?_
          refine w_iconst (v := 2) (zat TX14_moves_0 34 rfl) (by decide) ?_
          refine x_callv2 (qX14_refused l _ _) (by decide) kX14_refused (rdy_V (zat TX14_moves_0 35 rfl) kX14_refused pX14_refused zw1188 zw1190 zw31 (zrc (by decide) (by decide) rfl)) (Nat.le_of_ble_eq_true rfl) rfl rfl ?_
          refine w_ireturn (zat TX14_moves_0 36 rfl) rfl rfl ?_
          try simp only [zb_0, Decidable.not_not] at Hc10 Hc20 Hc48 Hc58
          exact ⟨by simp only [mMoves, Hc10, Hc20, Hc48, Hc58, if_true, if_false, and_self, not_true_eq_false, not_false_eq_true, and_false, false_and, true_and, and_true], by simp only [mMoves, Hc10, Hc20, Hc48, Hc58, if_true, if_false, and_self, not_true_eq_false, not_false_eq_true, and_false, false_and, true_and, and_true]⟩
  · refine w_aload_n (zat TX14_moves_0 7 rfl) rfl ?_
    refine w_iconst (v := 1) (zat TX14_moves_0 8 rfl) (by decide) ?_
    refine x_callv2 (qX14_refused l _ _) (by decide) kX14_refused (rdy_V (zat TX14_moves_0 9 rfl) kX14_refused pX14_refused zw1188 zw1190 zw31 (zrc (by decide) (by decide) rfl)) (Nat.le_of_ble_eq_true rfl) rfl rfl ?_
    refine w_ireturn (zat TX14_moves_0 10 rfl) rfl rfl ?_
    try simp only [zb_0, Decidable.not_not] at Hc10
    exact ⟨by simp only [mMoves, Hc10, if_true, if_false, and_self, not_true_eq_false, not_false_eq_true, and_false, false_and, true_and, and_true], by simp only [mMoves, Hc10, if_true, if_false, and_self, not_true_eq_false, not_false_eq_true, and_false, false_and, true_and, and_true]⟩
theorem qX14_missingNow (l : Launch) (h : zH) (hWM : Wm h) (s : Int32) (n : Nat) (Hx : s = nI n) (Hn : n < 8) : Cx l 1 mX14_missingNow [Vq (some (1, 0)), Vi s] h (Rv (Vi (zI h 28 0 n + zI h 29 0 n - zI h 30 0 n - zI h 31 0 n))) h := by
  refine Ct.in 0 kX14_missingNow (plainFor_of_name rfl) (Nat.le_of_ble_eq_true rfl) ?_
  refine w_aload_n (zat TX14_missingNow 0 rfl) rfl ?_
  refine w_getR (zat TX14_missingNow 1 rfl) fX14_81 s1 (by decide) (by decide) rfl (wmr hWM 17 rfl) ?_
  refine w_iload_n (zat TX14_missingNow 2 rfl) rfl ?_
  refine x_iaload _ _ (zat TX14_missingNow 3 rfl) s28 (by decide) (wmn hWM 16 rfl) (by decide) Hx Hn ?_
  refine w_aload_n (zat TX14_missingNow 4 rfl) rfl ?_
  refine w_getR (zat TX14_missingNow 5 rfl) fX14_84 s1 (by decide) (by decide) rfl (wmr hWM 18 rfl) ?_
  refine w_iload_n (zat TX14_missingNow 6 rfl) rfl ?_
  refine x_iaload _ _ (zat TX14_missingNow 7 rfl) s29 (by decide) (wmn hWM 17 rfl) (by decide) Hx Hn ?_
  refine w_iadd (zat TX14_missingNow 8 rfl) ?_
  refine w_aload_n (zat TX14_missingNow 9 rfl) rfl ?_
  refine w_getR (zat TX14_missingNow 10 rfl) fX14_87 s1 (by decide) (by decide) rfl (wmr hWM 19 rfl) ?_
  refine w_iload_n (zat TX14_missingNow 11 rfl) rfl ?_
  refine x_iaload _ _ (zat TX14_missingNow 12 rfl) s30 (by decide) (wmn hWM 18 rfl) (by decide) Hx Hn ?_
  refine w_isub (zat TX14_missingNow 13 rfl) ?_
  refine w_aload_n (zat TX14_missingNow 14 rfl) rfl ?_
  refine w_getR (zat TX14_missingNow 15 rfl) fX14_90 s1 (by decide) (by decide) rfl (wmr hWM 20 rfl) ?_
  refine w_iload_n (zat TX14_missingNow 16 rfl) rfl ?_
  refine x_iaload _ _ (zat TX14_missingNow 17 rfl) s31 (by decide) (wmn hWM 19 rfl) (by decide) Hx Hn ?_
  refine w_isub (zat TX14_missingNow 18 rfl) ?_
  refine w_ireturn (zat TX14_missingNow 19 rfl) rfl rfl ?_
  exact ⟨rfl, rfl⟩
def mCounted (h : zH) (nS : Nat) (s a : Int32) : Int32 × zH := if 0 ≤ s ∧ s < nI nS then (if 0 ≤ a ∧ a ≤ 1000000000 then (zI h 28 0 s.toNatClampNeg + zI h 29 0 s.toNatClampNeg - zI h 30 0 s.toNatClampNeg - a, mRef (zsI (zsI h 1 0 0 0) 31 0 s.toNatClampNeg a) 0) else (-1, mRef (zsI h 1 0 0 0) 2)) else (-1, mRef (zsI h 1 0 0 0) 1)
theorem qX14_counted (l : Launch) (h : zH) (hWM : Wm h) (s a : Int32) (nS : Nat) (hS : zI h 1 0 40 = nI nS) (hS2 : nS ≤ 8) : Cx l 2 mX14_counted [Vq (some (1, 0)), Vi s, Vi a] h (Rv (Vi (mCounted h nS s a).1)) (mCounted h nS s a).2 := by
  refine Ct.in 0 kX14_counted (plainFor_of_name rfl) (Nat.le_of_ble_eq_true rfl) ?_
  refine w_aload_n (zat TX14_counted 0 rfl) rfl ?_
  refine w_iconst (v := 0) (zat TX14_counted 1 rfl) (by decide) ?_
  refine w_putI (zat TX14_counted 2 rfl) gX14_counted_100 s1 (by decide) (by decide) rfl ⟨rfl, rfl⟩ ?_
  refine w_aload_n (zat TX14_counted 3 rfl) rfl ?_
  refine w_iload_n (zat TX14_counted 4 rfl) rfl ?_
  refine x_callv2 (qX14_isStore l _ _ nS hS) (by decide) kX14_isStore (rdy_V (zat TX14_counted 5 rfl) kX14_isStore pX14_isStore zw1452 zw1454 zw62 (zrc (by decide) (by decide) rfl)) (Nat.le_of_ble_eq_true rfl) rfl rfl ?_
  refine w_if_ne 19 (zat TX14_counted 6 rfl) (by decide) (fun Hc10 => ?_) (fun Hc10 => ?_)
  · obtain ⟨Hx, Hn⟩ := ixC (n := nS) (by omega) (zb_n.mp Hc10)
    refine w_iload_n (zat TX14_counted 11 rfl) rfl ?_
    refine w_iconst (v := 0) (zat TX14_counted 12 rfl) (by decide) ?_
    refine w_ldcw (v := 1000000000) (zat TX14_counted 13 rfl) zw1456 ?_
    refine x_callv3 (qX14_in l _ _ _ _) (by decide) kX14_in (rdy_S (zat TX14_counted 14 rfl) kX14_in pX14_in zw1185 zw1186) (Nat.le_of_ble_eq_true rfl) rfl rfl ?_
    refine w_if_ne 36 (zat TX14_counted 15 rfl) (by decide) (fun Hc27 => ?_) (fun Hc27 => ?_)
    · refine w_aload_n (zat TX14_counted 20 rfl) rfl ?_
      refine w_getR (zat TX14_counted 21 rfl) fX14_90 s1 (by decide) (by decide) rfl (wmr hWM 20 rfl) ?_
      refine w_iload_n (zat TX14_counted 22 rfl) rfl ?_
      refine w_iload_n (zat TX14_counted 23 rfl) rfl ?_
      refine x_iastore _ _ (zat TX14_counted 24 rfl) s31 (by decide) (wmn hWM 19 rfl) (by decide) Hx (by omega) ?_
      refine w_aload_n (zat TX14_counted 25 rfl) rfl ?_
      refine w_aload_n (zat TX14_counted 26 rfl) rfl ?_
      refine w_iload_n (zat TX14_counted 27 rfl) rfl ?_
      refine x_callv2 (qX14_missingNow l (zsI (zsI h 1 0 0 0) 31 0 s.toNatClampNeg a) hWM _ _ Hx (by omega)) (by decide) kX14_missingNow (rdy_V (zat TX14_counted 28 rfl) kX14_missingNow pX14_missingNow zw1439 zw1441 zw61 (zrc (by decide) (by decide) rfl)) (Nat.le_of_ble_eq_true rfl) rfl rfl ?_
      rw [show zI (zsI (zsI h 1 0 0 0) 31 0 s.toNatClampNeg a) 28 0 s.toNatClampNeg = zI h 28 0 s.toNatClampNeg from rfl, show zI (zsI (zsI h 1 0 0 0) 31 0 s.toNatClampNeg a) 29 0 s.toNatClampNeg = zI h 29 0 s.toNatClampNeg from rfl, show zI (zsI (zsI h 1 0 0 0) 31 0 s.toNatClampNeg a) 30 0 s.toNatClampNeg = zI h 30 0 s.toNatClampNeg from rfl, zI_same]
      refine x_callv2 (qX14_done l _ _) (by decide) kX14_done (rdy_V (zat TX14_counted 29 rfl) kX14_done pX14_done zw1192 zw1194 zw32 (zrc (by decide) (by decide) rfl)) (Nat.le_of_ble_eq_true rfl) rfl rfl ?_
      refine w_ireturn (zat TX14_counted 30 rfl) rfl rfl ?_
      try simp only [zb_0, Decidable.not_not] at Hc10 Hc27
      exact ⟨by simp only [mCounted, Hc10, Hc27, if_true, if_false, and_self, not_true_eq_false, not_false_eq_true, and_false, false_and, true_and, and_true], by simp only [mCounted, Hc10, Hc27, if_true, if_false, and_self, not_true_eq_false, not_false_eq_true, and_false, false_and, true_and, and_true]⟩
    · refine w_aload_n (zat TX14_counted 16 rfl) rfl ?_
      refine w_iconst (v := 2) (zat TX14_counted 17 rfl) (by decide) ?_
      refine x_callv2 (qX14_refused l _ _) (by decide) kX14_refused (rdy_V (zat TX14_counted 18 rfl) kX14_refused pX14_refused zw1188 zw1190 zw31 (zrc (by decide) (by decide) rfl)) (Nat.le_of_ble_eq_true rfl) rfl rfl ?_
      refine w_ireturn (zat TX14_counted 19 rfl) rfl rfl ?_
      try simp only [zb_0, Decidable.not_not] at Hc10 Hc27
      exact ⟨by simp only [mCounted, Hc10, Hc27, if_true, if_false, and_self, not_true_eq_false, not_false_eq_true, and_false, false_and, true_and, and_true], by simp only [mCounted, Hc10, Hc27, if_true, if_false, and_self, not_true_eq_false, not_false_eq_true, and_false, false_and, true_and, and_true]⟩
  · refine w_aload_n (zat TX14_counted 7 rfl) rfl ?_
    refine w_iconst (v := 1) (zat TX14_counted 8 rfl) (by decide) ?_
    refine x_callv2 (qX14_refused l _ _) (by decide) kX14_refused (rdy_V (zat TX14_counted 9 rfl) kX14_refused pX14_refused zw1188 zw1190 zw31 (zrc (by decide) (by decide) rfl)) (Nat.le_of_ble_eq_true rfl) rfl rfl ?_
    refine w_ireturn (zat TX14_counted 10 rfl) rfl rfl ?_
    try simp only [zb_0, Decidable.not_not] at Hc10
    exact ⟨by simp only [mCounted, Hc10, if_true, if_false, and_self, not_true_eq_false, not_false_eq_true, and_false, false_and, true_and, and_true], by simp only [mCounted, Hc10, if_true, if_false, and_self, not_true_eq_false, not_false_eq_true, and_false, false_and, true_and, and_true]⟩
def mMissing (h : zH) (nS : Nat) (s : Int32) : Int64 := if 0 ≤ s ∧ s < nI nS then zL h 33 0 s.toNatClampNeg else 0
theorem qX14_missing (l : Launch) (h : zH) (hWM : Wm h) (s : Int32) (nS : Nat) (hS : zI h 1 0 40 = nI nS) (hS2 : nS ≤ 8) : Cx l 2 mX14_missing [Vq (some (1, 0)), Vi s] h (Rv (Vj (mMissing h nS s))) (zsI h 1 0 0 0) := by
  refine Ct.in 0 kX14_missing (plainFor_of_name rfl) (Nat.le_of_ble_eq_true rfl) ?_
  refine w_aload_n (zat TX14_missing 0 rfl) rfl ?_
  refine w_iconst (v := 0) (zat TX14_missing 1 rfl) (by decide) ?_
  refine w_putI (zat TX14_missing 2 rfl) gX14_missing_100 s1 (by decide) (by decide) rfl ⟨rfl, rfl⟩ ?_
  refine w_aload_n (zat TX14_missing 3 rfl) rfl ?_
  refine w_iload_n (zat TX14_missing 4 rfl) rfl ?_
  refine x_callv2 (qX14_isStore l _ _ nS hS) (by decide) kX14_isStore (rdy_V (zat TX14_missing 5 rfl) kX14_isStore pX14_isStore zw1452 zw1454 zw62 (zrc (by decide) (by decide) rfl)) (Nat.le_of_ble_eq_true rfl) rfl rfl ?_
  refine w_if_eq 22 (zat TX14_missing 6 rfl) (by decide) (fun Hc10 => ?_) (fun Hc10 => ?_)
  · refine w_lconst (v := 0) (zat TX14_missing 12 rfl) (by decide) ?_
    refine w_lreturn (zat TX14_missing 13 rfl) rfl ?_
    try simp only [zb_0, Decidable.not_not] at Hc10
    exact ⟨by simp only [mMissing, Hc10, if_true, if_false, and_self, not_true_eq_false, not_false_eq_true, and_false, false_and, true_and, and_true], rfl⟩
  · obtain ⟨Hx, Hn⟩ := ixC (n := nS) (by omega) (zb_n.mp Hc10)
    refine w_aload_n (zat TX14_missing 7 rfl) rfl ?_
    refine w_getR (zat TX14_missing 8 rfl) fX14_96 s1 (by decide) (by decide) rfl (wmr hWM 22 rfl) ?_
    refine w_iload_n (zat TX14_missing 9 rfl) rfl ?_
    refine y_laload _ _ (v := zL h 33 0 s.toNatClampNeg) (zat TX14_missing 10 rfl) s33 (by decide) (wmn hWM 21 rfl) (by decide) Hx (by omega) rfl ?_
    refine w_goto 23 (zat TX14_missing 11 rfl) (by decide) ?_
    refine w_lreturn (zat TX14_missing 13 rfl) rfl ?_
    try simp only [zb_0, Decidable.not_not] at Hc10
    exact ⟨by simp only [mMissing, Hc10, if_true, if_false, and_self, not_true_eq_false, not_false_eq_true, and_false, false_and, true_and, and_true], rfl⟩
def mStand (h : zH) (nT : Nat) (b : Int32) : Int32 := if 0 ≤ b ∧ b < nI nT then zI h 27 0 b.toNatClampNeg else -1
theorem qX14_stand (l : Launch) (h : zH) (hWM : Wm h) (b : Int32) (nT : Nat) (hT : zI h 1 0 39 = nI nT) (hT2 : nT ≤ 16) : Cx l 1 mX14_stand [Vq (some (1, 0)), Vi b] h (Rv (Vi (mStand h nT b))) (zsI h 1 0 0 0) := by
  refine Ct.in 0 kX14_stand (plainFor_of_name rfl) (Nat.le_of_ble_eq_true rfl) ?_
  refine w_aload_n (zat TX14_stand 0 rfl) rfl ?_
  refine w_iconst (v := 0) (zat TX14_stand 1 rfl) (by decide) ?_
  refine w_putI (zat TX14_stand 2 rfl) gX14_stand_100 s1 (by decide) (by decide) rfl ⟨rfl, rfl⟩ ?_
  refine w_iload_n (zat TX14_stand 3 rfl) rfl ?_
  refine w_if_lt 26 (zat TX14_stand 4 rfl) (by decide) (fun Hc6 => ?_) (fun Hc6 => ?_)
  · refine w_iconst (v := -1) (zat TX14_stand 14 rfl) (by decide) ?_
    refine w_ireturn (zat TX14_stand 15 rfl) rfl rfl ?_
    exact ⟨by rw [mStand, if_neg (fun q => Int32.not_le.mpr Hc6 q.1)], rfl⟩
  · have Hb : 0 ≤ b := by rw [Int32.le_iff_toInt_le]; rw [Int32.lt_iff_toInt_lt] at Hc6; omega
    refine w_iload_n (zat TX14_stand 5 rfl) rfl ?_
    refine w_aload_n (zat TX14_stand 6 rfl) rfl ?_
    refine y_getI (v := nI nT) (zat TX14_stand 7 rfl) fX14_364 s1 (by decide) (by decide) rfl hT ?_
    refine w_icmp_ge 26 (zat TX14_stand 8 rfl) (by decide) (fun Hc14 => ?_) (fun Hc14 => ?_)
    · refine w_iconst (v := -1) (zat TX14_stand 14 rfl) (by decide) ?_
      refine w_ireturn (zat TX14_stand 15 rfl) rfl rfl ?_
      exact ⟨by rw [mStand, if_neg (fun q => Int32.not_lt.mpr Hc14 q.2)], rfl⟩
    · have Hb2 : 0 ≤ b ∧ b < nI nT := ⟨Hb, by rw [Int32.lt_iff_toInt_lt]; rw [Int32.le_iff_toInt_le] at Hc14; omega⟩
      obtain ⟨Hx, Hn⟩ := ixC (n := nT) (by omega) Hb2
      refine w_aload_n (zat TX14_stand 9 rfl) rfl ?_
      refine w_getR (zat TX14_stand 10 rfl) fX14_78 s1 (by decide) (by decide) rfl (wmr hWM 16 rfl) ?_
      refine w_iload_n (zat TX14_stand 11 rfl) rfl ?_
      refine y_iaload _ _ (v := zI h 27 0 b.toNatClampNeg) (zat TX14_stand 12 rfl) s27 (by decide) (wmn hWM 15 rfl) (by decide) Hx (by omega) rfl ?_
      refine w_goto 27 (zat TX14_stand 13 rfl) (by decide) ?_
      refine w_ireturn (zat TX14_stand 15 rfl) rfl rfl ?_
      exact ⟨by rw [mStand, if_pos Hb2], rfl⟩
