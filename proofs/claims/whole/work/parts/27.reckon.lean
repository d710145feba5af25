-- RECKONING, leaves, by program (wip/gen/p27.py)
theorem qX6_push (l : Launch) (h : zH) (hW : Wc h) (n : Nat) (hn : zI h 63 0 1 = nI n) (h2 : n < 32) (v : Int32) : Cx l 1 mX6_push [Vq (some (63, 0)), Vi v] h R0 (zsI (zsI h 78 0 n v) 63 0 1 (nI (n + 1))) := by
  refine Ct.in 0 kX6_push (plainFor_of_name rfl) (Nat.le_of_ble_eq_true rfl) ?_
  refine w_aload_n (zat TX6_push 0 rfl) rfl ?_
  refine y_getI (v := nI n) (zat TX6_push 1 rfl) fX6_15 s63 (by decide) (by decide) rfl hn ?_
  refine w_aload_n (zat TX6_push 2 rfl) rfl ?_
  refine w_getR (zat TX6_push 3 rfl) fX6_11 s63 (by decide) (by decide) rfl (wcr hW 24 rfl) ?_
  refine w_alen (zat TX6_push 4 rfl) (by decide) (by decide) (congrArg nI (wcn hW 14 rfl)) ?_
  refine w_icmp_ge 32 (zat TX6_push 5 rfl) (by decide) (fun Hc9 => ?_) (fun Hc9 => ?_)
  · exact absurd Hc9 (nI_ge h2 (by decide))
  · refine w_aload_n (zat TX6_push 6 rfl) rfl ?_
    refine w_getR (zat TX6_push 7 rfl) fX6_11 s63 (by decide) (by decide) rfl (wcr hW 24 rfl) ?_
    refine w_aload_n (zat TX6_push 8 rfl) rfl ?_
    refine y_getI (v := nI n) (zat TX6_push 9 rfl) fX6_15 s63 (by decide) (by decide) rfl hn ?_
    refine w_iload_n (zat TX6_push 10 rfl) rfl ?_
    refine x_iastore _ _ (zat TX6_push 11 rfl) s78 (by decide) (wcn hW 14 rfl) (by decide) rfl h2 ?_
    refine w_aload_n (zat TX6_push 12 rfl) rfl ?_
    refine w_dup (zat TX6_push 13 rfl) rfl ?_
    refine y_getI (v := nI n) (zat TX6_push 14 rfl) fX6_15 s63 (by decide) (by decide) rfl hn ?_
    refine w_iconst (v := 1) (zat TX6_push 15 rfl) (by decide) ?_
    refine w_iadd (zat TX6_push 16 rfl) ?_
    rw [nI_1]
    refine w_putI (zat TX6_push 17 rfl) gX6_push_15 s63 (by decide) (by decide) rfl ⟨rfl, rfl⟩ ?_
    refine w_return (zat TX6_push 18 rfl) rfl ?_
    exact ⟨rfl, rfl⟩
theorem qX6_pop (l : Launch) (h : zH) (hW : Wc h) (n : Nat) (hn : zI h 63 0 1 = nI (n + 1)) (h2 : n < 32) : Cx l 1 mX6_pop [Vq (some (63, 0))] h (Rv (Vi (zI h 78 0 n))) (zsI h 63 0 1 (nI n)) := by
  refine Ct.in 0 kX6_pop (plainFor_of_name rfl) (Nat.le_of_ble_eq_true rfl) ?_
  refine w_aload_n (zat TX6_pop 0 rfl) rfl ?_
  refine y_getI (v := nI (n + 1)) (zat TX6_pop 1 rfl) fX6_15 s63 (by decide) (by decide) rfl hn ?_
  refine w_if_gt 9 (zat TX6_pop 2 rfl) (by decide) (fun Hc4 => ?_) (fun Hc4 => ?_)
  · refine w_aload_n (zat TX6_pop 5 rfl) rfl ?_
    refine w_dup (zat TX6_pop 6 rfl) rfl ?_
    refine y_getI (v := nI (n + 1)) (zat TX6_pop 7 rfl) fX6_15 s63 (by decide) (by decide) rfl hn ?_
    refine w_iconst (v := 1) (zat TX6_pop 8 rfl) (by decide) ?_
    refine w_isub (zat TX6_pop 9 rfl) ?_
    rw [show nI (n + 1) - 1 = nI n from nI_pred n]
    refine w_putI (zat TX6_pop 10 rfl) gX6_pop_15 s63 (by decide) (by decide) rfl ⟨rfl, rfl⟩ ?_
    refine w_aload_n (zat TX6_pop 11 rfl) rfl ?_
    refine w_getR (zat TX6_pop 12 rfl) fX6_11 s63 (by decide) (by decide) rfl (wcr hW 24 rfl) ?_
    refine w_aload_n (zat TX6_pop 13 rfl) rfl ?_
    refine y_getI (v := nI n) (zat TX6_pop 14 rfl) fX6_15 s63 (by decide) (by decide) rfl (zI_same _ 63 0 1 _) ?_
    refine y_iaload _ _ (v := zI h 78 0 n) (zat TX6_pop 15 rfl) s78 (by decide) (wcn hW 14 rfl) (by decide) rfl h2 rfl ?_
    refine w_ireturn (zat TX6_pop 16 rfl) rfl rfl ?_
    exact ⟨rfl, rfl⟩
  · exact absurd (show 0 < nI (n + 1) from nI_lt (a := 0) (by omega) (by omega)) Hc4
def enN : Nat → Int32
  | 0 => -6
  | 1 => -7
  | 2 => -8
  | _ => -9
theorem qX6_named (l : Launch) (h : zH) (k : Nat) (hk : k < 4) : Cx l 1 mX6_named [Vq (some (63, 0)), Vi (enN k)] h (Rv (Vi (zI h 63 0 (2 + k)))) h := by
  match k, hk with
  | 0, _ =>
    refine Ct.in 0 kX6_named (plainFor_of_name rfl) (Nat.le_of_ble_eq_true rfl) ?_
    refine w_iload_n (zat TX6_named 0 rfl) rfl ?_
    refine w_tableIn 28 (zat TX6_named 1 rfl) (by decide) (by decide) rfl (by decide) ?_
    refine w_aload_n (zat TX6_named 2 rfl) rfl ?_
    refine w_getI (zat TX6_named 3 rfl) fX6_19 s63 (by decide) (by decide) rfl ?_
    refine w_ireturn (zat TX6_named 4 rfl) rfl rfl ?_
    exact ⟨rfl, rfl⟩
  | 1, _ =>
    refine Ct.in 0 kX6_named (plainFor_of_name rfl) (Nat.le_of_ble_eq_true rfl) ?_
    refine w_iload_n (zat TX6_named 0 rfl) rfl ?_
    refine w_tableIn 33 (zat TX6_named 1 rfl) (by decide) (by decide) rfl (by decide) ?_
    refine w_aload_n (zat TX6_named 5 rfl) rfl ?_
    refine w_getI (zat TX6_named 6 rfl) fX6_22 s63 (by decide) (by decide) rfl ?_
    refine w_ireturn (zat TX6_named 7 rfl) rfl rfl ?_
    exact ⟨rfl, rfl⟩
  | 2, _ =>
    refine Ct.in 0 kX6_named (plainFor_of_name rfl) (Nat.le_of_ble_eq_true rfl) ?_
    refine w_iload_n (zat TX6_named 0 rfl) rfl ?_
    refine w_tableIn 38 (zat TX6_named 1 rfl) (by decide) (by decide) rfl (by decide) ?_
    refine w_aload_n (zat TX6_named 8 rfl) rfl ?_
    refine w_getI (zat TX6_named 9 rfl) fX6_25 s63 (by decide) (by decide) rfl ?_
    refine w_ireturn (zat TX6_named 10 rfl) rfl rfl ?_
    exact ⟨rfl, rfl⟩
  | 3, _ =>
    refine Ct.in 0 kX6_named (plainFor_of_name rfl) (Nat.le_of_ble_eq_true rfl) ?_
    refine w_iload_n (zat TX6_named 0 rfl) rfl ?_
    refine w_tableOut 43 (zat TX6_named 1 rfl) (Or.inl (by decide)) (by decide) ?_
    refine w_aload_n (zat TX6_named 11 rfl) rfl ?_
    refine w_getI (zat TX6_named 12 rfl) fX6_28 s63 (by decide) (by decide) rfl ?_
    refine w_ireturn (zat TX6_named 13 rfl) rfl rfl ?_
    exact ⟨rfl, rfl⟩
theorem qX6_compares_6 (l : Launch) (h : zH) (a b : Int32) : Cx l 1 mX6_compares [Vi (-11), Vi a, Vi b] h (Rv (Vi (zb (a < b)))) h := by
  refine Ct.in 0 kX6_compares (plainFor_of_name rfl) (Nat.le_of_ble_eq_true rfl) ?_
  refine w_iload_n (zat TX6_compares 0 rfl) rfl ?_
  refine w_lookup 28 (zat TX6_compares 1 rfl) (by decide) (off := 27) (by decide) (by decide) ?_
  refine w_iload_n (zat TX6_compares 2 rfl) rfl ?_
  refine w_iload_n (zat TX6_compares 3 rfl) rfl ?_
  refine w_icmp_ge 37 (zat TX6_compares 4 rfl) (by decide) (fun Hc30 => ?_) (fun Hc30 => ?_)
  · refine w_iconst (v := 0) (zat TX6_compares 7 rfl) (by decide) ?_
    refine w_ireturn (zat TX6_compares 8 rfl) rfl rfl ?_
    exact ⟨by rw [zb_f (Int32.not_lt.mpr Hc30)], rfl⟩
  · refine w_iconst (v := 1) (zat TX6_compares 5 rfl) (by decide) ?_
    refine w_goto 38 (zat TX6_compares 6 rfl) (by decide) ?_
    refine w_ireturn (zat TX6_compares 8 rfl) rfl rfl ?_
    exact ⟨by rw [zb_t (Int32.not_le.mp Hc30)], rfl⟩
theorem qX6_compares_7 (l : Launch) (h : zH) (a b : Int32) : Cx l 1 mX6_compares [Vi (-12), Vi a, Vi b] h (Rv (Vi (zb (b < a)))) h := by
  refine Ct.in 0 kX6_compares (plainFor_of_name rfl) (Nat.le_of_ble_eq_true rfl) ?_
  refine w_iload_n (zat TX6_compares 0 rfl) rfl ?_
  refine w_lookup 39 (zat TX6_compares 1 rfl) (by decide) (off := 38) (by decide) (by decide) ?_
  refine w_iload_n (zat TX6_compares 9 rfl) rfl ?_
  refine w_iload_n (zat TX6_compares 10 rfl) rfl ?_
  refine w_icmp_le 48 (zat TX6_compares 11 rfl) (by decide) (fun Hc41 => ?_) (fun Hc41 => ?_)
  · refine w_iconst (v := 0) (zat TX6_compares 14 rfl) (by decide) ?_
    refine w_ireturn (zat TX6_compares 15 rfl) rfl rfl ?_
    exact ⟨by rw [zb_f (Int32.not_lt.mpr Hc41)], rfl⟩
  · refine w_iconst (v := 1) (zat TX6_compares 12 rfl) (by decide) ?_
    refine w_goto 49 (zat TX6_compares 13 rfl) (by decide) ?_
    refine w_ireturn (zat TX6_compares 15 rfl) rfl rfl ?_
    exact ⟨by rw [zb_t (Int32.not_le.mp Hc41)], rfl⟩
theorem qX6_compares_8 (l : Launch) (h : zH) (a b : Int32) : Cx l 1 mX6_compares [Vi (-13), Vi a, Vi b] h (Rv (Vi (zb (a = b)))) h := by
  refine Ct.in 0 kX6_compares (plainFor_of_name rfl) (Nat.le_of_ble_eq_true rfl) ?_
  refine w_iload_n (zat TX6_compares 0 rfl) rfl ?_
  refine w_lookup 50 (zat TX6_compares 1 rfl) (by decide) (off := 49) (by decide) (by decide) ?_
  refine w_iload_n (zat TX6_compares 16 rfl) rfl ?_
  refine w_iload_n (zat TX6_compares 17 rfl) rfl ?_
  refine w_icmp_ne 59 (zat TX6_compares 18 rfl) (by decide) (fun Hc52 => ?_) (fun Hc52 => ?_)
  · refine w_iconst (v := 0) (zat TX6_compares 21 rfl) (by decide) ?_
    refine w_ireturn (zat TX6_compares 22 rfl) rfl rfl ?_
    exact ⟨by rw [zb_f Hc52], rfl⟩
  · refine w_iconst (v := 1) (zat TX6_compares 19 rfl) (by decide) ?_
    refine w_goto 60 (zat TX6_compares 20 rfl) (by decide) ?_
    refine w_ireturn (zat TX6_compares 22 rfl) rfl rfl ?_
    exact ⟨by rw [zb_t Hc52], rfl⟩
def jn (s : Nat) (a b : Int64) : Int64 := if s = 2 then a + b else if s = 3 then a - b else if s = 4 then a * b else if b = 0 then 0 else a / b
def bnd (v : Int64) (lo hi : Int32) : Int32 := (if lo.toInt64 < (if v < hi.toInt64 then v else hi.toInt64) then (if v < hi.toInt64 then v else hi.toInt64) else lo.toInt64).toInt32
theorem bnd_0 : bnd 0 (-1000000) 1000000 = 0 := by decide
def opv (s : Nat) (a b : Int32) : Int32 := bnd (jn s a.toInt64 b.toInt64) (-1000000) 1000000
theorem qX6_joined_2 (l : Launch) (h : zH) (a b : Int64) : Cx l 1 mX6_joined [Vi (-14), Vj a, Vj b] h (Rv (Vj (jn 2 a b))) h := by
  refine Ct.in 0 kX6_joined (plainFor_of_name rfl) (Nat.le_of_ble_eq_true rfl) ?_
  refine w_iload_n (zat TX6_joined 0 rfl) rfl ?_
  refine w_tableIn 28 (zat TX6_joined 1 rfl) (by decide) (by decide) rfl (by decide) ?_
  refine w_lload_n (zat TX6_joined 2 rfl) rfl ?_
  refine w_lload_n (zat TX6_joined 3 rfl) rfl ?_
  refine w_ladd (zat TX6_joined 4 rfl) ?_
  refine w_lreturn (zat TX6_joined 5 rfl) rfl ?_
  exact ⟨rfl, rfl⟩
theorem qX6_joined_3 (l : Launch) (h : zH) (a b : Int64) : Cx l 1 mX6_joined [Vi (-15), Vj a, Vj b] h (Rv (Vj (jn 3 a b))) h := by
  refine Ct.in 0 kX6_joined (plainFor_of_name rfl) (Nat.le_of_ble_eq_true rfl) ?_
  refine w_iload_n (zat TX6_joined 0 rfl) rfl ?_
  refine w_tableIn 32 (zat TX6_joined 1 rfl) (by decide) (by decide) rfl (by decide) ?_
  refine w_lload_n (zat TX6_joined 6 rfl) rfl ?_
  refine w_lload_n (zat TX6_joined 7 rfl) rfl ?_
  refine w_lsub (zat TX6_joined 8 rfl) ?_
  refine w_lreturn (zat TX6_joined 9 rfl) rfl ?_
  exact ⟨rfl, rfl⟩
theorem qX6_joined_4 (l : Launch) (h : zH) (a b : Int64) : Cx l 1 mX6_joined [Vi (-16), Vj a, Vj b] h (Rv (Vj (jn 4 a b))) h := by
  refine Ct.in 0 kX6_joined (plainFor_of_name rfl) (Nat.le_of_ble_eq_true rfl) ?_
  refine w_iload_n (zat TX6_joined 0 rfl) rfl ?_
  refine w_tableIn 36 (zat TX6_joined 1 rfl) (by decide) (by decide) rfl (by decide) ?_
  refine w_lload_n (zat TX6_joined 10 rfl) rfl ?_
  refine w_lload_n (zat TX6_joined 11 rfl) rfl ?_
  refine w_lmul (zat TX6_joined 12 rfl) ?_
  refine w_lreturn (zat TX6_joined 13 rfl) rfl ?_
  exact ⟨rfl, rfl⟩
theorem qX6_joined_5 (l : Launch) (h : zH) (a b : Int64) : Cx l 1 mX6_joined [Vi (-17), Vj a, Vj b] h (Rv (Vj (jn 5 a b))) h := by
  refine Ct.in 0 kX6_joined (plainFor_of_name rfl) (Nat.le_of_ble_eq_true rfl) ?_
  refine w_iload_n (zat TX6_joined 0 rfl) rfl ?_
  refine w_tableOut 40 (zat TX6_joined 1 rfl) (Or.inl (by decide)) (by decide) ?_
  refine w_lload_n (zat TX6_joined 14 rfl) rfl ?_
  refine w_lconst (v := 0) (zat TX6_joined 15 rfl) (by decide) ?_
  refine w_lcmp (zat TX6_joined 16 rfl) ?_
  refine w_if_ne 50 (zat TX6_joined 17 rfl) (by decide) (fun Hc43 => ?_) (fun Hc43 => ?_)
  · rw [lc_eq] at Hc43
    refine w_lload_n (zat TX6_joined 20 rfl) rfl ?_
    refine w_lload_n (zat TX6_joined 21 rfl) rfl ?_
    refine w_ldiv (zat TX6_joined 22 rfl) Hc43 ?_
    refine w_lreturn (zat TX6_joined 23 rfl) rfl ?_
    exact ⟨by rw [jn, if_neg (by decide), if_neg (by decide), if_neg (by decide), if_neg Hc43], rfl⟩
  · rw [lc_eq] at Hc43
    refine w_lconst (v := 0) (zat TX6_joined 18 rfl) (by decide) ?_
    refine w_goto 53 (zat TX6_joined 19 rfl) (by decide) ?_
    refine w_lreturn (zat TX6_joined 23 rfl) rfl ?_
    exact ⟨by simp only [jn, Hc43]; rfl, rfl⟩
theorem qX11_bound (l : Launch) (h : zH) (v : Int64) (lo hi : Int32) : Cx l 2 mX11_bound [Vj v, Vi lo, Vi hi] h (Rv (Vi (bnd v lo hi))) h := by
  refine Ct.in 0 kX11_bound (plainFor_of_name rfl) (Nat.le_of_ble_eq_true rfl) ?_
  refine w_iload_n (zat TX11_bound 0 rfl) rfl ?_
  refine w_i2l (zat TX11_bound 1 rfl) ?_
  refine w_iload_n (zat TX11_bound 2 rfl) rfl ?_
  refine w_i2l (zat TX11_bound 3 rfl) ?_
  refine w_lload_n (zat TX11_bound 4 rfl) rfl ?_
  refine x_callv2 (qJ9_min_f86c9 l _ _ _) (by decide) kJ9_min_f86c9 (rdy_S (zat TX11_bound 5 rfl) kJ9_min_f86c9 pJ9_min_f86c9 zw693 zw694) (Nat.le_of_ble_eq_true rfl) rfl rfl ?_
  refine x_callv2 (qJ9_max_f86c9 l _ _ _) (by decide) kJ9_max_f86c9 (rdy_S (zat TX11_bound 6 rfl) kJ9_max_f86c9 pJ9_max_f86c9 zw696 zw697) (Nat.le_of_ble_eq_true rfl) rfl rfl ?_
  refine w_l2i (zat TX11_bound 7 rfl) ?_
  refine w_ireturn (zat TX11_bound 8 rfl) rfl rfl ?_
  exact ⟨rfl, rfl⟩
theorem qX14_bound (l : Launch) (h : zH) (v : Int64) : Cx l 2 mX14_bound [Vj v] h (Rv (Vi (bnd v (-1000000) 1000000))) h := by
  refine Ct.in 0 kX14_bound (plainFor_of_name rfl) (Nat.le_of_ble_eq_true rfl) ?_
  refine w_ldc2 (v := -1000000) (zat TX14_bound 0 rfl) zw1343 ?_
  refine w_ldc2 (v := 1000000) (zat TX14_bound 1 rfl) zw1344 ?_
  refine w_lload_n (zat TX14_bound 2 rfl) rfl ?_
  refine x_callv2 (qJ9_min_f86c9 l _ _ _) (by decide) kJ9_min_f86c9 (rdy_S (zat TX14_bound 3 rfl) kJ9_min_f86c9 pJ9_min_f86c9 zw1345 zw694) (Nat.le_of_ble_eq_true rfl) rfl rfl ?_
  refine x_callv2 (qJ9_max_f86c9 l _ _ _) (by decide) kJ9_max_f86c9 (rdy_S (zat TX14_bound 4 rfl) kJ9_max_f86c9 pJ9_max_f86c9 zw1346 zw697) (Nat.le_of_ble_eq_true rfl) rfl rfl ?_
  refine w_l2i (zat TX14_bound 5 rfl) ?_
  refine w_ireturn (zat TX14_bound 6 rfl) rfl rfl ?_
  exact ⟨rfl, rfl⟩
theorem qX14_both_2 (l : Launch) (h : zH) (a b : Int64) : Cx l 3 mX14_both [Vi 2, Vj a, Vj b] h (Rv (Vi (bnd (jn 2 a b) (-1000000) 1000000))) h := by
  refine Ct.in 0 kX14_both (plainFor_of_name rfl) (Nat.le_of_ble_eq_true rfl) ?_
  refine w_iload_n (zat TX14_both 0 rfl) rfl ?_
  refine w_tableIn 28 (zat TX14_both 1 rfl) (by decide) (by decide) rfl (by decide) ?_
  refine w_lload_n (zat TX14_both 2 rfl) rfl ?_
  refine w_lload_n (zat TX14_both 3 rfl) rfl ?_
  refine w_ladd (zat TX14_both 4 rfl) ?_
  refine x_callv1 (qX14_bound l _ _) (by decide) kX14_bound (rdy_S (zat TX14_both 5 rfl) kX14_bound pX14_bound zw1340 zw1341) (Nat.le_of_ble_eq_true rfl) rfl rfl ?_
  refine w_ireturn (zat TX14_both 6 rfl) rfl rfl ?_
  exact ⟨rfl, rfl⟩
theorem qX14_both_3 (l : Launch) (h : zH) (a b : Int64) : Cx l 3 mX14_both [Vi 3, Vj a, Vj b] h (Rv (Vi (bnd (jn 3 a b) (-1000000) 1000000))) h := by
  refine Ct.in 0 kX14_both (plainFor_of_name rfl) (Nat.le_of_ble_eq_true rfl) ?_
  refine w_iload_n (zat TX14_both 0 rfl) rfl ?_
  refine w_tableIn 35 (zat TX14_both 1 rfl) (by decide) (by decide) rfl (by decide) ?_
  refine w_lload_n (zat TX14_both 7 rfl) rfl ?_
  refine w_lload_n (zat TX14_both 8 rfl) rfl ?_
  refine w_lsub (zat TX14_both 9 rfl) ?_
  refine x_callv1 (qX14_bound l _ _) (by decide) kX14_bound (rdy_S (zat TX14_both 10 rfl) kX14_bound pX14_bound zw1340 zw1341) (Nat.le_of_ble_eq_true rfl) rfl rfl ?_
  refine w_ireturn (zat TX14_both 11 rfl) rfl rfl ?_
  exact ⟨rfl, rfl⟩
theorem qX14_both_4 (l : Launch) (h : zH) (a b : Int64) : Cx l 3 mX14_both [Vi 4, Vj a, Vj b] h (Rv (Vi (bnd (jn 4 a b) (-1000000) 1000000))) h := by
  refine Ct.in 0 kX14_both (plainFor_of_name rfl) (Nat.le_of_ble_eq_true rfl) ?_
  refine w_iload_n (zat TX14_both 0 rfl) rfl ?_
  refine w_tableIn 42 (zat TX14_both 1 rfl) (by decide) (by decide) rfl (by decide) ?_
  refine w_lload_n (zat TX14_both 12 rfl) rfl ?_
  refine w_lload_n (zat TX14_both 13 rfl) rfl ?_
  refine w_lmul (zat TX14_both 14 rfl) ?_
  refine x_callv1 (qX14_bound l _ _) (by decide) kX14_bound (rdy_S (zat TX14_both 15 rfl) kX14_bound pX14_bound zw1340 zw1341) (Nat.le_of_ble_eq_true rfl) rfl rfl ?_
  refine w_ireturn (zat TX14_both 16 rfl) rfl rfl ?_
  exact ⟨rfl, rfl⟩
theorem qX14_both_5 (l : Launch) (h : zH) (a b : Int64) : Cx l 3 mX14_both [Vi 5, Vj a, Vj b] h (Rv (Vi (bnd (jn 5 a b) (-1000000) 1000000))) h := by
  refine Ct.in 0 kX14_both (plainFor_of_name rfl) (Nat.le_of_ble_eq_true rfl) ?_
  refine w_iload_n (zat TX14_both 0 rfl) rfl ?_
  refine w_tableOut 49 (zat TX14_both 1 rfl) (Or.inr (by decide)) (by decide) ?_
  refine w_lload_n (zat TX14_both 17 rfl) rfl ?_
  refine w_lconst (v := 0) (zat TX14_both 18 rfl) (by decide) ?_
  refine w_lcmp (zat TX14_both 19 rfl) ?_
  refine w_if_ne 59 (zat TX14_both 20 rfl) (by decide) (fun Hc52 => ?_) (fun Hc52 => ?_)
  · rw [lc_eq] at Hc52
    refine w_lload_n (zat TX14_both 23 rfl) rfl ?_
    refine w_lload_n (zat TX14_both 24 rfl) rfl ?_
    refine w_ldiv (zat TX14_both 25 rfl) Hc52 ?_
    refine x_callv1 (qX14_bound l _ _) (by decide) kX14_bound (rdy_S (zat TX14_both 26 rfl) kX14_bound pX14_bound zw1340 zw1341) (Nat.le_of_ble_eq_true rfl) rfl rfl ?_
    refine w_ireturn (zat TX14_both 27 rfl) rfl rfl ?_
    exact ⟨by rw [jn, if_neg (by decide), if_neg (by decide), if_neg (by decide), if_neg Hc52], rfl⟩
  · rw [lc_eq] at Hc52
    refine w_iconst (v := 0) (zat TX14_both 21 rfl) (by decide) ?_
    refine w_goto 65 (zat TX14_both 22 rfl) (by decide) ?_
    refine w_ireturn (zat TX14_both 27 rfl) rfl rfl ?_
    exact ⟨by rw [jn, if_neg (by decide), if_neg (by decide), if_neg (by decide), if_pos Hc52, bnd_0], rfl⟩
