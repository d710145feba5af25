-- LEAVES, by program (wip/gen/p19.py)
theorem zrc {k i : Nat} {C : String} (h1 : k < 900) (h2 : zshp k < 100) (h3 : (zcl[zshp k]?.map (fun q => q.1)) = some C) : zRc (k, i) C := Or.inl ⟨h1, h2, h3⟩
theorem lc_lt {x y : Int64} : lg_cmp x y < 0 ↔ x < y := by
  unfold lg_cmp
  by_cases h1 : y < x
  · rw [if_pos h1]
    exact ⟨fun q => absurd q (by decide), fun q => by rw [Int64.lt_iff_toInt_lt] at *; omega⟩
  · rw [if_neg h1]
    by_cases h2 : x = y
    · rw [if_pos h2]
      exact ⟨fun q => absurd q (by decide), fun q => by rw [h2, Int64.lt_iff_toInt_lt] at q; omega⟩
    · rw [if_neg h2]
      refine ⟨fun _ => ?_, fun _ => by decide⟩
      rw [Int64.lt_iff_toInt_lt] at *
      have : x.toInt ≠ y.toInt := fun q => h2 (Int64.toInt_inj.mp q)
      omega
theorem lc_gt {x y : Int64} : 0 < lg_cmp x y ↔ y < x := by
  unfold lg_cmp
  by_cases h1 : y < x
  · rw [if_pos h1]
    exact ⟨fun _ => h1, fun _ => by decide⟩
  · rw [if_neg h1]
    by_cases h2 : x = y
    · rw [if_pos h2]
      exact ⟨fun q => absurd q (by decide), fun q => absurd q h1⟩
    · rw [if_neg h2]
      exact ⟨fun q => absurd q (by decide), fun q => absurd q h1⟩
theorem lc_eq {x y : Int64} : lg_cmp x y = 0 ↔ x = y := by
  unfold lg_cmp
  by_cases h1 : y < x
  · rw [if_pos h1]
    exact ⟨fun q => absurd q (by decide), fun q => by rw [q, Int64.lt_iff_toInt_lt] at h1; omega⟩
  · rw [if_neg h1]
    by_cases h2 : x = y
    · rw [if_pos h2]
      exact ⟨fun _ => h2, fun _ => rfl⟩
    · rw [if_neg h2]
      exact ⟨fun q => absurd q (by decide), fun q => absurd q h2⟩
theorem qX11_within (l : Launch) (h : zH) (a b c : Int32) : Cx l 1 mX11_within [Vi a, Vi b, Vi c] h (Rv (Vi (zb (b ≤ a ∧ a ≤ c)))) h := by
  refine Ct.in 0 kX11_within (plainFor_of_name rfl) (Nat.le_of_ble_eq_true rfl) ?_
  refine w_iload_n (zat TX11_within 0 rfl) rfl ?_
  refine w_iload_n (zat TX11_within 1 rfl) rfl ?_
  refine w_icmp_lt 14 (zat TX11_within 2 rfl) (by decide) (fun Hc2 => ?_) (fun Hc2 => ?_)
  · refine w_iconst (v := 0) (zat TX11_within 8 rfl) (by decide) ?_
    refine w_ireturn (zat TX11_within 9 rfl) rfl rfl ?_
    refine ⟨congrArg (fun x => Rv (Vi x)) ?_, rfl⟩
    simp only [zb, Int32.le_iff_toInt_le, Int32.lt_iff_toInt_lt] at *
    first | rw [if_pos (by omega)] | rw [if_neg (by omega)]
  · refine w_iload_n (zat TX11_within 3 rfl) rfl ?_
    refine w_iload_n (zat TX11_within 4 rfl) rfl ?_
    refine w_icmp_gt 14 (zat TX11_within 5 rfl) (by decide) (fun Hc7 => ?_) (fun Hc7 => ?_)
    · refine w_iconst (v := 0) (zat TX11_within 8 rfl) (by decide) ?_
      refine w_ireturn (zat TX11_within 9 rfl) rfl rfl ?_
      refine ⟨congrArg (fun x => Rv (Vi x)) ?_, rfl⟩
      simp only [zb, Int32.le_iff_toInt_le, Int32.lt_iff_toInt_lt] at *
      first | rw [if_pos (by omega)] | rw [if_neg (by omega)]
    · refine w_iconst (v := 1) (zat TX11_within 6 rfl) (by decide) ?_
      refine w_goto 15 (zat TX11_within 7 rfl) (by decide) ?_
      refine w_ireturn (zat TX11_within 9 rfl) rfl rfl ?_
      refine ⟨congrArg (fun x => Rv (Vi x)) ?_, rfl⟩
      simp only [zb, Int32.le_iff_toInt_le, Int32.lt_iff_toInt_lt] at *
      first | rw [if_pos (by omega)] | rw [if_neg (by omega)]
theorem qX14_in (l : Launch) (h : zH) (a b c : Int32) : Cx l 1 mX14_in [Vi a, Vi b, Vi c] h (Rv (Vi (zb (b ≤ a ∧ a ≤ c)))) h := by
  refine Ct.in 0 kX14_in (plainFor_of_name rfl) (Nat.le_of_ble_eq_true rfl) ?_
  refine w_iload_n (zat TX14_in 0 rfl) rfl ?_
  refine w_iload_n (zat TX14_in 1 rfl) rfl ?_
  refine w_icmp_lt 14 (zat TX14_in 2 rfl) (by decide) (fun Hc2 => ?_) (fun Hc2 => ?_)
  · refine w_iconst (v := 0) (zat TX14_in 8 rfl) (by decide) ?_
    refine w_ireturn (zat TX14_in 9 rfl) rfl rfl ?_
    refine ⟨congrArg (fun x => Rv (Vi x)) ?_, rfl⟩
    simp only [zb, Int32.le_iff_toInt_le, Int32.lt_iff_toInt_lt] at *
    first | rw [if_pos (by omega)] | rw [if_neg (by omega)]
  · refine w_iload_n (zat TX14_in 3 rfl) rfl ?_
    refine w_iload_n (zat TX14_in 4 rfl) rfl ?_
    refine w_icmp_gt 14 (zat TX14_in 5 rfl) (by decide) (fun Hc7 => ?_) (fun Hc7 => ?_)
    · refine w_iconst (v := 0) (zat TX14_in 8 rfl) (by decide) ?_
      refine w_ireturn (zat TX14_in 9 rfl) rfl rfl ?_
      refine ⟨congrArg (fun x => Rv (Vi x)) ?_, rfl⟩
      simp only [zb, Int32.le_iff_toInt_le, Int32.lt_iff_toInt_lt] at *
      first | rw [if_pos (by omega)] | rw [if_neg (by omega)]
    · refine w_iconst (v := 1) (zat TX14_in 6 rfl) (by decide) ?_
      refine w_goto 15 (zat TX14_in 7 rfl) (by decide) ?_
      refine w_ireturn (zat TX14_in 9 rfl) rfl rfl ?_
      refine ⟨congrArg (fun x => Rv (Vi x)) ?_, rfl⟩
      simp only [zb, Int32.le_iff_toInt_le, Int32.lt_iff_toInt_lt] at *
      first | rw [if_pos (by omega)] | rw [if_neg (by omega)]
theorem qJ9_max_7cf53 (l : Launch) (h : zH) (a b : Int32) : Cx l 1 mJ9_max_7cf53 [Vi a, Vi b] h (Rv (Vi (if a < b then b else a))) h := by
  refine Ct.in 0 kJ9_max_7cf53 pnJ9_max_7cf53 (Nat.le_of_ble_eq_true rfl) ?_
  refine w_iload_n (zat TJ9_max_7cf53 0 rfl) rfl ?_
  refine w_iload_n (zat TJ9_max_7cf53 1 rfl) rfl ?_
  refine w_icmp_lt 9 (zat TJ9_max_7cf53 2 rfl) (by decide) (fun Hc2 => ?_) (fun Hc2 => ?_)
  · refine w_iload_n (zat TJ9_max_7cf53 5 rfl) rfl ?_
    refine w_ireturn (zat TJ9_max_7cf53 6 rfl) rfl rfl ?_
    refine ⟨congrArg (fun x => Rv (Vi x)) ?_, rfl⟩
    first | rw [if_pos Hc2] | rw [if_neg Hc2]
  · refine w_iload_n (zat TJ9_max_7cf53 3 rfl) rfl ?_
    refine w_goto 10 (zat TJ9_max_7cf53 4 rfl) (by decide) ?_
    refine w_ireturn (zat TJ9_max_7cf53 6 rfl) rfl rfl ?_
    refine ⟨congrArg (fun x => Rv (Vi x)) ?_, rfl⟩
    first | rw [if_pos Hc2] | rw [if_neg Hc2]
theorem qJ9_min_7cf53 (l : Launch) (h : zH) (a b : Int32) : Cx l 1 mJ9_min_7cf53 [Vi a, Vi b] h (Rv (Vi (if b < a then b else a))) h := by
  refine Ct.in 0 kJ9_min_7cf53 pnJ9_min_7cf53 (Nat.le_of_ble_eq_true rfl) ?_
  refine w_iload_n (zat TJ9_min_7cf53 0 rfl) rfl ?_
  refine w_iload_n (zat TJ9_min_7cf53 1 rfl) rfl ?_
  refine w_icmp_gt 9 (zat TJ9_min_7cf53 2 rfl) (by decide) (fun Hc2 => ?_) (fun Hc2 => ?_)
  · refine w_iload_n (zat TJ9_min_7cf53 5 rfl) rfl ?_
    refine w_ireturn (zat TJ9_min_7cf53 6 rfl) rfl rfl ?_
    refine ⟨congrArg (fun x => Rv (Vi x)) ?_, rfl⟩
    first | rw [if_pos Hc2] | rw [if_neg Hc2]
  · refine w_iload_n (zat TJ9_min_7cf53 3 rfl) rfl ?_
    refine w_goto 10 (zat TJ9_min_7cf53 4 rfl) (by decide) ?_
    refine w_ireturn (zat TJ9_min_7cf53 6 rfl) rfl rfl ?_
    refine ⟨congrArg (fun x => Rv (Vi x)) ?_, rfl⟩
    first | rw [if_pos Hc2] | rw [if_neg Hc2]
theorem qJ9_max_f86c9 (l : Launch) (h : zH) (a b : Int64) : Cx l 1 mJ9_max_f86c9 [Vj a, Vj b] h (Rv (Vj (if a < b then b else a))) h := by
  refine Ct.in 0 kJ9_max_f86c9 pnJ9_max_f86c9 (Nat.le_of_ble_eq_true rfl) ?_
  refine w_lload_n (zat TJ9_max_f86c9 0 rfl) rfl ?_
  refine w_lload_n (zat TJ9_max_f86c9 1 rfl) rfl ?_
  refine w_lcmp (zat TJ9_max_f86c9 2 rfl) ?_
  refine w_if_lt 10 (zat TJ9_max_f86c9 3 rfl) (by decide) (fun Hc3 => ?_) (fun Hc3 => ?_)
  · refine w_lload_n (zat TJ9_max_f86c9 6 rfl) rfl ?_
    refine w_lreturn (zat TJ9_max_f86c9 7 rfl) rfl ?_
    refine ⟨congrArg (fun x => Rv (Vj x)) ?_, rfl⟩
    rw [lc_lt] at Hc3
    first | rw [if_pos Hc3] | rw [if_neg Hc3]
  · refine w_lload_n (zat TJ9_max_f86c9 4 rfl) rfl ?_
    refine w_goto 11 (zat TJ9_max_f86c9 5 rfl) (by decide) ?_
    refine w_lreturn (zat TJ9_max_f86c9 7 rfl) rfl ?_
    refine ⟨congrArg (fun x => Rv (Vj x)) ?_, rfl⟩
    rw [lc_lt] at Hc3
    first | rw [if_pos Hc3] | rw [if_neg Hc3]
theorem qJ9_min_f86c9 (l : Launch) (h : zH) (a b : Int64) : Cx l 1 mJ9_min_f86c9 [Vj a, Vj b] h (Rv (Vj (if b < a then b else a))) h := by
  refine Ct.in 0 kJ9_min_f86c9 pnJ9_min_f86c9 (Nat.le_of_ble_eq_true rfl) ?_
  refine w_lload_n (zat TJ9_min_f86c9 0 rfl) rfl ?_
  refine w_lload_n (zat TJ9_min_f86c9 1 rfl) rfl ?_
  refine w_lcmp (zat TJ9_min_f86c9 2 rfl) ?_
  refine w_if_gt 10 (zat TJ9_min_f86c9 3 rfl) (by decide) (fun Hc3 => ?_) (fun Hc3 => ?_)
  · refine w_lload_n (zat TJ9_min_f86c9 6 rfl) rfl ?_
    refine w_lreturn (zat TJ9_min_f86c9 7 rfl) rfl ?_
    refine ⟨congrArg (fun x => Rv (Vj x)) ?_, rfl⟩
    rw [lc_gt] at Hc3
    first | rw [if_pos Hc3] | rw [if_neg Hc3]
  · refine w_lload_n (zat TJ9_min_f86c9 4 rfl) rfl ?_
    refine w_goto 11 (zat TJ9_min_f86c9 5 rfl) (by decide) ?_
    refine w_lreturn (zat TJ9_min_f86c9 7 rfl) rfl ?_
    refine ⟨congrArg (fun x => Rv (Vj x)) ?_, rfl⟩
    rw [lc_gt] at Hc3
    first | rw [if_pos Hc3] | rw [if_neg Hc3]
theorem qX11_refuse (l : Launch) (h : zH) (w : Int32) : Cx l 1 mX11_refuse [Vq (some (0, 0)), Vi w] h (Rv (Vi (-1))) (zsI h 0 0 13 w) := by
  refine Ct.in 0 kX11_refuse (plainFor_of_name rfl) (Nat.le_of_ble_eq_true rfl) ?_
  refine w_aload_n (zat TX11_refuse 0 rfl) rfl ?_
  refine w_iload_n (zat TX11_refuse 1 rfl) rfl ?_
  refine w_putI (zat TX11_refuse 2 rfl) gX11_refuse_78 s0 (by decide) (by decide) rfl ⟨rfl, rfl⟩ ?_
  refine w_iconst (v := -1) (zat TX11_refuse 3 rfl) (by decide) ?_
  refine w_ireturn (zat TX11_refuse 4 rfl) rfl rfl ?_
  exact ⟨rfl, rfl⟩
theorem qX11_grant (l : Launch) (h : zH) (w : Int32) : Cx l 1 mX11_grant [Vq (some (0, 0)), Vi w] h (Rv (Vi w)) (zsI h 0 0 13 0) := by
  refine Ct.in 0 kX11_grant (plainFor_of_name rfl) (Nat.le_of_ble_eq_true rfl) ?_
  refine w_aload_n (zat TX11_grant 0 rfl) rfl ?_
  refine w_iconst (v := 0) (zat TX11_grant 1 rfl) (by decide) ?_
  refine w_putI (zat TX11_grant 2 rfl) gX11_grant_78 s0 (by decide) (by decide) rfl ⟨rfl, rfl⟩ ?_
  refine w_iload_n (zat TX11_grant 3 rfl) rfl ?_
  refine w_ireturn (zat TX11_grant 4 rfl) rfl rfl ?_
  exact ⟨rfl, rfl⟩
theorem qX11_deny (l : Launch) (h : zH) (w : Int32) : Cx l 1 mX11_deny [Vq (some (0, 0)), Vi w] h (Rv (Vi 0)) (zsI h 0 0 13 w) := by
  refine Ct.in 0 kX11_deny (plainFor_of_name rfl) (Nat.le_of_ble_eq_true rfl) ?_
  refine w_aload_n (zat TX11_deny 0 rfl) rfl ?_
  refine w_iload_n (zat TX11_deny 1 rfl) rfl ?_
  refine w_putI (zat TX11_deny 2 rfl) gX11_deny_78 s0 (by decide) (by decide) rfl ⟨rfl, rfl⟩ ?_
  refine w_iconst (v := 0) (zat TX11_deny 3 rfl) (by decide) ?_
  refine w_ireturn (zat TX11_deny 4 rfl) rfl rfl ?_
  exact ⟨rfl, rfl⟩
theorem qX11_allow (l : Launch) (h : zH) : Cx l 1 mX11_allow [Vq (some (0, 0))] h (Rv (Vi 1)) (zsI h 0 0 13 0) := by
  refine Ct.in 0 kX11_allow (plainFor_of_name rfl) (Nat.le_of_ble_eq_true rfl) ?_
  refine w_aload_n (zat TX11_allow 0 rfl) rfl ?_
  refine w_iconst (v := 0) (zat TX11_allow 1 rfl) (by decide) ?_
  refine w_putI (zat TX11_allow 2 rfl) gX11_allow_78 s0 (by decide) (by decide) rfl ⟨rfl, rfl⟩ ?_
  refine w_iconst (v := 1) (zat TX11_allow 3 rfl) (by decide) ?_
  refine w_ireturn (zat TX11_allow 4 rfl) rfl rfl ?_
  exact ⟨rfl, rfl⟩
theorem qX11_fitsPeople (l : Launch) (h : zH) (a b : Int32) : Cx l 2 mX11_fitsPeople [Vi a, Vi b] h (Rv (Vi (zb ((0 ≤ a ∧ a ≤ 100000) ∧ (0 ≤ b ∧ b ≤ 50))))) h := by
  refine Ct.in 0 kX11_fitsPeople (plainFor_of_name rfl) (Nat.le_of_ble_eq_true rfl) ?_
  refine w_iload_n (zat TX11_fitsPeople 0 rfl) rfl ?_
  refine w_iconst (v := 0) (zat TX11_fitsPeople 1 rfl) (by decide) ?_
  refine w_ldcw (v := 100000) (zat TX11_fitsPeople 2 rfl) zw340 ?_
  refine x_callv3 (qX11_within l _ _ _ _) (by decide) kX11_within (rdy_S (zat TX11_fitsPeople 3 rfl) kX11_within pX11_within zw341 zw342) (Nat.le_of_ble_eq_true rfl) rfl rfl ?_
  refine w_if_eq 25 (zat TX11_fitsPeople 4 rfl) (by decide) (fun Hc8 => ?_) (fun Hc8 => ?_)
  · refine w_iconst (v := 0) (zat TX11_fitsPeople 12 rfl) (by decide) ?_
    refine w_ireturn (zat TX11_fitsPeople 13 rfl) rfl rfl ?_
    refine ⟨congrArg (fun x => Rv (Vi x)) ?_, rfl⟩
    simp only [zb_0, Decidable.not_not] at *
    first | exact (zb_t ⟨by assumption, by assumption⟩).symm | exact (zb_f (fun q => by first | exact absurd q.1 (by assumption) | exact absurd q.2 (by assumption))).symm
  · refine w_iload_n (zat TX11_fitsPeople 5 rfl) rfl ?_
    refine w_iconst (v := 0) (zat TX11_fitsPeople 6 rfl) (by decide) ?_
    refine w_bipush (v := 50) (zat TX11_fitsPeople 7 rfl) (by decide) ?_
    refine x_callv3 (qX11_within l _ _ _ _) (by decide) kX11_within (rdy_S (zat TX11_fitsPeople 8 rfl) kX11_within pX11_within zw341 zw342) (Nat.le_of_ble_eq_true rfl) rfl rfl ?_
    refine w_if_eq 25 (zat TX11_fitsPeople 9 rfl) (by decide) (fun Hc18 => ?_) (fun Hc18 => ?_)
    · refine w_iconst (v := 0) (zat TX11_fitsPeople 12 rfl) (by decide) ?_
      refine w_ireturn (zat TX11_fitsPeople 13 rfl) rfl rfl ?_
      refine ⟨congrArg (fun x => Rv (Vi x)) ?_, rfl⟩
      simp only [zb_0, Decidable.not_not] at *
      first | exact (zb_t ⟨by assumption, by assumption⟩).symm | exact (zb_f (fun q => by first | exact absurd q.1 (by assumption) | exact absurd q.2 (by assumption))).symm
    · refine w_iconst (v := 1) (zat TX11_fitsPeople 10 rfl) (by decide) ?_
      refine w_goto 26 (zat TX11_fitsPeople 11 rfl) (by decide) ?_
      refine w_ireturn (zat TX11_fitsPeople 13 rfl) rfl rfl ?_
      refine ⟨congrArg (fun x => Rv (Vi x)) ?_, rfl⟩
      simp only [zb_0, Decidable.not_not] at *
      first | exact (zb_t ⟨by assumption, by assumption⟩).symm | exact (zb_f (fun q => by first | exact absurd q.1 (by assumption) | exact absurd q.2 (by assumption))).symm
