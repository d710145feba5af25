-- RECKONING of the class: step, tell, by program (wip/gen/p28.py)
theorem qX6_step_num (l : Launch) (h : zH) (hW : Wc h) (n : Nat) (hn : zI h 63 0 1 = nI n) (h2 : n < 32) (v : Int32) (hv : 0 ≤ v) : Cx l 2 mX6_step [Vq (some (63, 0)), Vi v] h (Rv (Vi 1)) (zsI (zsI h 78 0 n v) 63 0 1 (nI (n + 1))) := by
  refine Ct.in 2 kX6_step (plainFor_of_name rfl) (Nat.le_of_ble_eq_true rfl) ?_
  refine w_iload_n (zat TX6_step 0 rfl) rfl ?_
  refine w_if_lt 11 (zat TX6_step 1 rfl) (by decide) (fun Hc1 => ?_) (fun Hc1 => ?_)
  · exact absurd Hc1 (Int32.not_lt.mpr hv)
  · refine w_aload_n (zat TX6_step 2 rfl) rfl ?_
    refine w_iload_n (zat TX6_step 3 rfl) rfl ?_
    refine x_callu2 (qX6_push l _ hW n hn h2 _) (by decide) kX6_push (rdy_V (zat TX6_step 4 rfl) kX6_push pX6_push zw674 zw676 zw19 (zrc (by decide) (by decide) rfl)) (Nat.le_of_ble_eq_true rfl) rfl rfl ?_
    refine w_iconst (v := 1) (zat TX6_step 5 rfl) (by decide) ?_
    refine w_ireturn (zat TX6_step 6 rfl) rfl rfl ?_
    exact ⟨rfl, rfl⟩
theorem qX6_step_name (l : Launch) (h : zH) (hW : Wc h) (n : Nat) (hn : zI h 63 0 1 = nI n) (h2 : n < 32) (k : Nat) (hk : k < 4) : Cx l 2 mX6_step [Vq (some (63, 0)), Vi (enN k)] h (Rv (Vi 1)) (zsI (zsI h 78 0 n (zI h 63 0 (2 + k))) 63 0 1 (nI (n + 1))) := by
  match k, hk with
  | 0, _ =>
    refine Ct.in 2 kX6_step (plainFor_of_name rfl) (Nat.le_of_ble_eq_true rfl) ?_
    refine w_iload_n (zat TX6_step 0 rfl) rfl ?_
    refine w_if_lt 11 (zat TX6_step 1 rfl) (by decide) (fun Hc1 => ?_) (fun Hc1 => ?_)
    · refine w_iload_n (zat TX6_step 7 rfl) rfl ?_
      refine w_bipush (v := -6) (zat TX6_step 8 rfl) (by decide) ?_
      refine w_icmp_gt 34 (zat TX6_step 9 rfl) (by decide) (fun Hc14 => ?_) (fun Hc14 => ?_)
      · exact absurd Hc14 (by decide)
      · refine w_iload_n (zat TX6_step 10 rfl) rfl ?_
        refine w_bipush (v := -9) (zat TX6_step 11 rfl) (by decide) ?_
        refine w_icmp_lt 34 (zat TX6_step 12 rfl) (by decide) (fun Hc20 => ?_) (fun Hc20 => ?_)
        · exact absurd Hc20 (by decide)
        · refine w_aload_n (zat TX6_step 13 rfl) rfl ?_
          refine w_aload_n (zat TX6_step 14 rfl) rfl ?_
          refine w_iload_n (zat TX6_step 15 rfl) rfl ?_
          refine x_callv2 (qX6_named l _ 0 (by decide)) (by decide) kX6_named (rdy_V (zat TX6_step 16 rfl) kX6_named pX6_named zw678 zw680 zw20 (zrc (by decide) (by decide) rfl)) (Nat.le_of_ble_eq_true rfl) rfl rfl ?_
          refine x_callu2 (qX6_push l _ hW n hn h2 _) (by decide) kX6_push (rdy_V (zat TX6_step 17 rfl) kX6_push pX6_push zw674 zw676 zw19 (zrc (by decide) (by decide) rfl)) (Nat.le_of_ble_eq_true rfl) rfl rfl ?_
          refine w_iconst (v := 1) (zat TX6_step 18 rfl) (by decide) ?_
          refine w_ireturn (zat TX6_step 19 rfl) rfl rfl ?_
          exact ⟨rfl, rfl⟩
    · exact absurd (by decide) Hc1
  | 1, _ =>
    refine Ct.in 2 kX6_step (plainFor_of_name rfl) (Nat.le_of_ble_eq_true rfl) ?_
    refine w_iload_n (zat TX6_step 0 rfl) rfl ?_
    refine w_if_lt 11 (zat TX6_step 1 rfl) (by decide) (fun Hc1 => ?_) (fun Hc1 => ?_)
    · refine w_iload_n (zat TX6_step 7 rfl) rfl ?_
      refine w_bipush (v := -6) (zat TX6_step 8 rfl) (by decide) ?_
      refine w_icmp_gt 34 (zat TX6_step 9 rfl) (by decide) (fun Hc14 => ?_) (fun Hc14 => ?_)
      · exact absurd Hc14 (by decide)
      · refine w_iload_n (zat TX6_step 10 rfl) rfl ?_
        refine w_bipush (v := -9) (zat TX6_step 11 rfl) (by decide) ?_
        refine w_icmp_lt 34 (zat TX6_step 12 rfl) (by decide) (fun Hc20 => ?_) (fun Hc20 => ?_)
        · exact absurd Hc20 (by decide)
        · refine w_aload_n (zat TX6_step 13 rfl) rfl ?_
          refine w_aload_n (zat TX6_step 14 rfl) rfl ?_
          refine w_iload_n (zat TX6_step 15 rfl) rfl ?_
          refine x_callv2 (qX6_named l _ 1 (by decide)) (by decide) kX6_named (rdy_V (zat TX6_step 16 rfl) kX6_named pX6_named zw678 zw680 zw20 (zrc (by decide) (by decide) rfl)) (Nat.le_of_ble_eq_true rfl) rfl rfl ?_
          refine x_callu2 (qX6_push l _ hW n hn h2 _) (by decide) kX6_push (rdy_V (zat TX6_step 17 rfl) kX6_push pX6_push zw674 zw676 zw19 (zrc (by decide) (by decide) rfl)) (Nat.le_of_ble_eq_true rfl) rfl rfl ?_
          refine w_iconst (v := 1) (zat TX6_step 18 rfl) (by decide) ?_
          refine w_ireturn (zat TX6_step 19 rfl) rfl rfl ?_
          exact ⟨rfl, rfl⟩
    · exact absurd (by decide) Hc1
  | 2, _ =>
    refine Ct.in 2 kX6_step (plainFor_of_name rfl) (Nat.le_of_ble_eq_true rfl) ?_
    refine w_iload_n (zat TX6_step 0 rfl) rfl ?_
    refine w_if_lt 11 (zat TX6_step 1 rfl) (by decide) (fun Hc1 => ?_) (fun Hc1 => ?_)
    · refine w_iload_n (zat TX6_step 7 rfl) rfl ?_
      refine w_bipush (v := -6) (zat TX6_step 8 rfl) (by decide) ?_
      refine w_icmp_gt 34 (zat TX6_step 9 rfl) (by decide) (fun Hc14 => ?_) (fun Hc14 => ?_)
      · exact absurd Hc14 (by decide)
      · refine w_iload_n (zat TX6_step 10 rfl) rfl ?_
        refine w_bipush (v := -9) (zat TX6_step 11 rfl) (by decide) ?_
        refine w_icmp_lt 34 (zat TX6_step 12 rfl) (by decide) (fun Hc20 => ?_) (fun Hc20 => ?_)
        · exact absurd Hc20 (by decide)
        · refine w_aload_n (zat TX6_step 13 rfl) rfl ?_
          refine w_aload_n (zat TX6_step 14 rfl) rfl ?_
          refine w_iload_n (zat TX6_step 15 rfl) rfl ?_
          refine x_callv2 (qX6_named l _ 2 (by decide)) (by decide) kX6_named (rdy_V (zat TX6_step 16 rfl) kX6_named pX6_named zw678 zw680 zw20 (zrc (by decide) (by decide) rfl)) (Nat.le_of_ble_eq_true rfl) rfl rfl ?_
          refine x_callu2 (qX6_push l _ hW n hn h2 _) (by decide) kX6_push (rdy_V (zat TX6_step 17 rfl) kX6_push pX6_push zw674 zw676 zw19 (zrc (by decide) (by decide) rfl)) (Nat.le_of_ble_eq_true rfl) rfl rfl ?_
          refine w_iconst (v := 1) (zat TX6_step 18 rfl) (by decide) ?_
          refine w_ireturn (zat TX6_step 19 rfl) rfl rfl ?_
          exact ⟨rfl, rfl⟩
    · exact absurd (by decide) Hc1
  | 3, _ =>
    refine Ct.in 2 kX6_step (plainFor_of_name rfl) (Nat.le_of_ble_eq_true rfl) ?_
    refine w_iload_n (zat TX6_step 0 rfl) rfl ?_
    refine w_if_lt 11 (zat TX6_step 1 rfl) (by decide) (fun Hc1 => ?_) (fun Hc1 => ?_)
    · refine w_iload_n (zat TX6_step 7 rfl) rfl ?_
      refine w_bipush (v := -6) (zat TX6_step 8 rfl) (by decide) ?_
      refine w_icmp_gt 34 (zat TX6_step 9 rfl) (by decide) (fun Hc14 => ?_) (fun Hc14 => ?_)
      · exact absurd Hc14 (by decide)
      · refine w_iload_n (zat TX6_step 10 rfl) rfl ?_
        refine w_bipush (v := -9) (zat TX6_step 11 rfl) (by decide) ?_
        refine w_icmp_lt 34 (zat TX6_step 12 rfl) (by decide) (fun Hc20 => ?_) (fun Hc20 => ?_)
        · exact absurd Hc20 (by decide)
        · refine w_aload_n (zat TX6_step 13 rfl) rfl ?_
          refine w_aload_n (zat TX6_step 14 rfl) rfl ?_
          refine w_iload_n (zat TX6_step 15 rfl) rfl ?_
          refine x_callv2 (qX6_named l _ 3 (by decide)) (by decide) kX6_named (rdy_V (zat TX6_step 16 rfl) kX6_named pX6_named zw678 zw680 zw20 (zrc (by decide) (by decide) rfl)) (Nat.le_of_ble_eq_true rfl) rfl rfl ?_
          refine x_callu2 (qX6_push l _ hW n hn h2 _) (by decide) kX6_push (rdy_V (zat TX6_step 17 rfl) kX6_push pX6_push zw674 zw676 zw19 (zrc (by decide) (by decide) rfl)) (Nat.le_of_ble_eq_true rfl) rfl rfl ?_
          refine w_iconst (v := 1) (zat TX6_step 18 rfl) (by decide) ?_
          refine w_ireturn (zat TX6_step 19 rfl) rfl rfl ?_
          exact ⟨rfl, rfl⟩
    · exact absurd (by decide) Hc1
theorem qX6_step_6 (l : Launch) (h : zH) (hW : Wc h) (n : Nat) (hn : zI h 63 0 1 = nI (n + 2)) (h2 : n + 2 ≤ 32) : Cx l 2 mX6_step [Vq (some (63, 0)), Vi (-11)] h (Rv (Vi (zb (zI h 78 0 n < zI h 78 0 (n + 1))))) (zsI (zsI h 63 0 1 (nI (n + 1))) 63 0 1 (nI n)) := by
  refine Ct.in 2 kX6_step (plainFor_of_name rfl) (Nat.le_of_ble_eq_true rfl) ?_
  refine w_iload_n (zat TX6_step 0 rfl) rfl ?_
  refine w_if_lt 11 (zat TX6_step 1 rfl) (by decide) (fun Hc1 => ?_) (fun Hc1 => ?_)
  · refine w_iload_n (zat TX6_step 7 rfl) rfl ?_
    refine w_bipush (v := -6) (zat TX6_step 8 rfl) (by decide) ?_
    refine w_icmp_gt 34 (zat TX6_step 9 rfl) (by decide) (fun Hc14 => ?_) (fun Hc14 => ?_)
    · exact absurd Hc14 (by decide)
    · refine w_iload_n (zat TX6_step 10 rfl) rfl ?_
      refine w_bipush (v := -9) (zat TX6_step 11 rfl) (by decide) ?_
      refine w_icmp_lt 34 (zat TX6_step 12 rfl) (by decide) (fun Hc20 => ?_) (fun Hc20 => ?_)
      · refine w_aload_n (zat TX6_step 20 rfl) rfl ?_
        refine x_callv1 (qX6_pop l h hW (n + 1) hn (by omega)) (by decide) kX6_pop (rdy_V (zat TX6_step 21 rfl) kX6_pop pX6_pop zw666 zw668 zw17 (zrc (by decide) (by decide) rfl)) (Nat.le_of_ble_eq_true rfl) rfl rfl ?_
        refine x_istore_n (ls2 := [_, _, _, _]) (zat TX6_step 22 rfl) (by decide) rfl ?_
        refine w_aload_n (zat TX6_step 23 rfl) rfl ?_
        refine x_callv1 (qX6_pop l (zsI h 63 0 1 (nI (n + 1))) hW n (zI_same _ 63 0 1 _) (by omega)) (by decide) kX6_pop (rdy_V (zat TX6_step 24 rfl) kX6_pop pX6_pop zw666 zw668 zw17 (zrc (by decide) (by decide) rfl)) (Nat.le_of_ble_eq_true rfl) rfl rfl ?_
        rw [show zI (zsI h 63 0 1 (nI (n + 1))) 78 0 n = zI h 78 0 n from rfl]
        refine x_istore_n (ls2 := [_, _, _, _]) (zat TX6_step 25 rfl) (by decide) rfl ?_
        refine w_iload_n (zat TX6_step 26 rfl) rfl ?_
        refine w_bipush (v := -11) (zat TX6_step 27 rfl) (by decide) ?_
        refine w_icmp_gt 63 (zat TX6_step 28 rfl) (by decide) (fun Hc47 => ?_) (fun Hc47 => ?_)
        · exact absurd Hc47 (by decide)
        · refine w_iload_n (zat TX6_step 29 rfl) rfl ?_
          refine w_bipush (v := -13) (zat TX6_step 30 rfl) (by decide) ?_
          refine w_icmp_lt 63 (zat TX6_step 31 rfl) (by decide) (fun Hc53 => ?_) (fun Hc53 => ?_)
          · exact absurd Hc53 (by decide)
          · refine w_iload_n (zat TX6_step 32 rfl) rfl ?_
            refine w_iload_n (zat TX6_step 33 rfl) rfl ?_
            refine w_iload_n (zat TX6_step 34 rfl) rfl ?_
            refine x_callv3 (qX6_compares_6 l _ _ _) (by decide) kX6_compares (rdy_S (zat TX6_step 35 rfl) kX6_compares pX6_compares zw682 zw683) (Nat.le_of_ble_eq_true rfl) rfl rfl ?_
            refine w_ireturn (zat TX6_step 36 rfl) rfl zb_nar ?_
            exact ⟨rfl, rfl⟩
      · exact absurd (by decide) Hc20
  · exact absurd (by decide) Hc1
theorem qX6_step_7 (l : Launch) (h : zH) (hW : Wc h) (n : Nat) (hn : zI h 63 0 1 = nI (n + 2)) (h2 : n + 2 ≤ 32) : Cx l 2 mX6_step [Vq (some (63, 0)), Vi (-12)] h (Rv (Vi (zb (zI h 78 0 (n + 1) < zI h 78 0 n)))) (zsI (zsI h 63 0 1 (nI (n + 1))) 63 0 1 (nI n)) := by
  refine Ct.in 2 kX6_step (plainFor_of_name rfl) (Nat.le_of_ble_eq_true rfl) ?_
  refine w_iload_n (zat TX6_step 0 rfl) rfl ?_
  refine w_if_lt 11 (zat TX6_step 1 rfl) (by decide) (fun Hc1 => ?_) (fun Hc1 => ?_)
  · refine w_iload_n (zat TX6_step 7 rfl) rfl ?_
    refine w_bipush (v := -6) (zat TX6_step 8 rfl) (by decide) ?_
    refine w_icmp_gt 34 (zat TX6_step 9 rfl) (by decide) (fun Hc14 => ?_) (fun Hc14 => ?_)
    · exact absurd Hc14 (by decide)
    · refine w_iload_n (zat TX6_step 10 rfl) rfl ?_
      refine w_bipush (v := -9) (zat TX6_step 11 rfl) (by decide) ?_
      refine w_icmp_lt 34 (zat TX6_step 12 rfl) (by decide) (fun Hc20 => ?_) (fun Hc20 => ?_)
      · refine w_aload_n (zat TX6_step 20 rfl) rfl ?_
        refine x_callv1 (qX6_pop l h hW (n + 1) hn (by omega)) (by decide) kX6_pop (rdy_V (zat TX6_step 21 rfl) kX6_pop pX6_pop zw666 zw668 zw17 (zrc (by decide) (by decide) rfl)) (Nat.le_of_ble_eq_true rfl) rfl rfl ?_
        refine x_istore_n (ls2 := [_, _, _, _]) (zat TX6_step 22 rfl) (by decide) rfl ?_
        refine w_aload_n (zat TX6_step 23 rfl) rfl ?_
        refine x_callv1 (qX6_pop l (zsI h 63 0 1 (nI (n + 1))) hW n (zI_same _ 63 0 1 _) (by omega)) (by decide) kX6_pop (rdy_V (zat TX6_step 24 rfl) kX6_pop pX6_pop zw666 zw668 zw17 (zrc (by decide) (by decide) rfl)) (Nat.le_of_ble_eq_true rfl) rfl rfl ?_
        rw [show zI (zsI h 63 0 1 (nI (n + 1))) 78 0 n = zI h 78 0 n from rfl]
        refine x_istore_n (ls2 := [_, _, _, _]) (zat TX6_step 25 rfl) (by decide) rfl ?_
        refine w_iload_n (zat TX6_step 26 rfl) rfl ?_
        refine w_bipush (v := -11) (zat TX6_step 27 rfl) (by decide) ?_
        refine w_icmp_gt 63 (zat TX6_step 28 rfl) (by decide) (fun Hc47 => ?_) (fun Hc47 => ?_)
        · exact absurd Hc47 (by decide)
        · refine w_iload_n (zat TX6_step 29 rfl) rfl ?_
          refine w_bipush (v := -13) (zat TX6_step 30 rfl) (by decide) ?_
          refine w_icmp_lt 63 (zat TX6_step 31 rfl) (by decide) (fun Hc53 => ?_) (fun Hc53 => ?_)
          · exact absurd Hc53 (by decide)
          · refine w_iload_n (zat TX6_step 32 rfl) rfl ?_
            refine w_iload_n (zat TX6_step 33 rfl) rfl ?_
            refine w_iload_n (zat TX6_step 34 rfl) rfl ?_
            refine x_callv3 (qX6_compares_7 l _ _ _) (by decide) kX6_compares (rdy_S (zat TX6_step 35 rfl) kX6_compares pX6_compares zw682 zw683) (Nat.le_of_ble_eq_true rfl) rfl rfl ?_
            refine w_ireturn (zat TX6_step 36 rfl) rfl zb_nar ?_
            exact ⟨rfl, rfl⟩
      · exact absurd (by decide) Hc20
  · exact absurd (by decide) Hc1
theorem qX6_step_8 (l : Launch) (h : zH) (hW : Wc h) (n : Nat) (hn : zI h 63 0 1 = nI (n + 2)) (h2 : n + 2 ≤ 32) : Cx l 2 mX6_step [Vq (some (63, 0)), Vi (-13)] h (Rv (Vi (zb (zI h 78 0 n = zI h 78 0 (n + 1))))) (zsI (zsI h 63 0 1 (nI (n + 1))) 63 0 1 (nI n)) := by
  refine Ct.in 2 kX6_step (plainFor_of_name rfl) (Nat.le_of_ble_eq_true rfl) ?_
  refine w_iload_n (zat TX6_step 0 rfl) rfl ?_
  refine w_if_lt 11 (zat TX6_step 1 rfl) (by decide) (fun Hc1 => ?_) (fun Hc1 => ?_)
  · refine w_iload_n (zat TX6_step 7 rfl) rfl ?_
    refine w_bipush (v := -6) (zat TX6_step 8 rfl) (by decide) ?_
    refine w_icmp_gt 34 (zat TX6_step 9 rfl) (by decide) (fun Hc14 => ?_) (fun Hc14 => ?_)
    · exact absurd Hc14 (by decide)
    · refine w_iload_n (zat TX6_step 10 rfl) rfl ?_
      refine w_bipush (v := -9) (zat TX6_step 11 rfl) (by decide) ?_
      refine w_icmp_lt 34 (zat TX6_step 12 rfl) (by decide) (fun Hc20 => ?_) (fun Hc20 => ?_)
      · refine w_aload_n (zat TX6_step 20 rfl) rfl ?_
        refine x_callv1 (qX6_pop l h hW (n + 1) hn (by omega)) (by decide) kX6_pop (rdy_V (zat TX6_step 21 rfl) kX6_pop pX6_pop zw666 zw668 zw17 (zrc (by decide) (by decide) rfl)) (Nat.le_of_ble_eq_true rfl) rfl rfl ?_
        refine x_istore_n (ls2 := [_, _, _, _]) (zat TX6_step 22 rfl) (by decide) rfl ?_
        refine w_aload_n (zat TX6_step 23 rfl) rfl ?_
        refine x_callv1 (qX6_pop l (zsI h 63 0 1 (nI (n + 1))) hW n (zI_same _ 63 0 1 _) (by omega)) (by decide) kX6_pop (rdy_V (zat TX6_step 24 rfl) kX6_pop pX6_pop zw666 zw668 zw17 (zrc (by decide) (by decide) rfl)) (Nat.le_of_ble_eq_true rfl) rfl rfl ?_
        rw [show zI (zsI h 63 0 1 (nI (n + 1))) 78 0 n = zI h 78 0 n from rfl]
        refine x_istore_n (ls2 := [_, _, _, _]) (zat TX6_step 25 rfl) (by decide) rfl ?_
        refine w_iload_n (zat TX6_step 26 rfl) rfl ?_
        refine w_bipush (v := -11) (zat TX6_step 27 rfl) (by decide) ?_
        refine w_icmp_gt 63 (zat TX6_step 28 rfl) (by decide) (fun Hc47 => ?_) (fun Hc47 => ?_)
        · exact absurd Hc47 (by decide)
        · refine w_iload_n (zat TX6_step 29 rfl) rfl ?_
          refine w_bipush (v := -13) (zat TX6_step 30 rfl) (by decide) ?_
          refine w_icmp_lt 63 (zat TX6_step 31 rfl) (by decide) (fun Hc53 => ?_) (fun Hc53 => ?_)
          · exact absurd Hc53 (by decide)
          · refine w_iload_n (zat TX6_step 32 rfl) rfl ?_
            refine w_iload_n (zat TX6_step 33 rfl) rfl ?_
            refine w_iload_n (zat TX6_step 34 rfl) rfl ?_
            refine x_callv3 (qX6_compares_8 l _ _ _) (by decide) kX6_compares (rdy_S (zat TX6_step 35 rfl) kX6_compares pX6_compares zw682 zw683) (Nat.le_of_ble_eq_true rfl) rfl rfl ?_
            refine w_ireturn (zat TX6_step 36 rfl) rfl zb_nar ?_
            exact ⟨rfl, rfl⟩
      · exact absurd (by decide) Hc20
  · exact absurd (by decide) Hc1
theorem qX6_step_2 (l : Launch) (h : zH) (hW : Wc h) (n : Nat) (hn : zI h 63 0 1 = nI (n + 2)) (h2 : n + 2 ≤ 32) : Cx l 3 mX6_step [Vq (some (63, 0)), Vi (-14)] h (Rv (Vi 1)) (zsI (zsI (zsI (zsI h 63 0 1 (nI (n + 1))) 63 0 1 (nI n)) 78 0 n (opv 2 (zI h 78 0 n) (zI h 78 0 (n + 1)))) 63 0 1 (nI (n + 1))) := by
  refine Ct.in 2 kX6_step (plainFor_of_name rfl) (Nat.le_of_ble_eq_true rfl) ?_
  refine w_iload_n (zat TX6_step 0 rfl) rfl ?_
  refine w_if_lt 11 (zat TX6_step 1 rfl) (by decide) (fun Hc1 => ?_) (fun Hc1 => ?_)
  · refine w_iload_n (zat TX6_step 7 rfl) rfl ?_
    refine w_bipush (v := -6) (zat TX6_step 8 rfl) (by decide) ?_
    refine w_icmp_gt 34 (zat TX6_step 9 rfl) (by decide) (fun Hc14 => ?_) (fun Hc14 => ?_)
    · exact absurd Hc14 (by decide)
    · refine w_iload_n (zat TX6_step 10 rfl) rfl ?_
      refine w_bipush (v := -9) (zat TX6_step 11 rfl) (by decide) ?_
      refine w_icmp_lt 34 (zat TX6_step 12 rfl) (by decide) (fun Hc20 => ?_) (fun Hc20 => ?_)
      · refine w_aload_n (zat TX6_step 20 rfl) rfl ?_
        refine x_callv1 (qX6_pop l h hW (n + 1) hn (by omega)) (by decide) kX6_pop (rdy_V (zat TX6_step 21 rfl) kX6_pop pX6_pop zw666 zw668 zw17 (zrc (by decide) (by decide) rfl)) (Nat.le_of_ble_eq_true rfl) rfl rfl ?_
        refine x_istore_n (ls2 := [_, _, _, _]) (zat TX6_step 22 rfl) (by decide) rfl ?_
        refine w_aload_n (zat TX6_step 23 rfl) rfl ?_
        refine x_callv1 (qX6_pop l (zsI h 63 0 1 (nI (n + 1))) hW n (zI_same _ 63 0 1 _) (by omega)) (by decide) kX6_pop (rdy_V (zat TX6_step 24 rfl) kX6_pop pX6_pop zw666 zw668 zw17 (zrc (by decide) (by decide) rfl)) (Nat.le_of_ble_eq_true rfl) rfl rfl ?_
        rw [show zI (zsI h 63 0 1 (nI (n + 1))) 78 0 n = zI h 78 0 n from rfl]
        refine x_istore_n (ls2 := [_, _, _, _]) (zat TX6_step 25 rfl) (by decide) rfl ?_
        refine w_iload_n (zat TX6_step 26 rfl) rfl ?_
        refine w_bipush (v := -11) (zat TX6_step 27 rfl) (by decide) ?_
        refine w_icmp_gt 63 (zat TX6_step 28 rfl) (by decide) (fun Hc47 => ?_) (fun Hc47 => ?_)
        · exact absurd Hc47 (by decide)
        · refine w_iload_n (zat TX6_step 29 rfl) rfl ?_
          refine w_bipush (v := -13) (zat TX6_step 30 rfl) (by decide) ?_
          refine w_icmp_lt 63 (zat TX6_step 31 rfl) (by decide) (fun Hc53 => ?_) (fun Hc53 => ?_)
          · refine w_aload_n (zat TX6_step 37 rfl) rfl ?_
            refine w_iload_n (zat TX6_step 38 rfl) rfl ?_
            refine w_iload_n (zat TX6_step 39 rfl) rfl ?_
            refine w_i2l (zat TX6_step 40 rfl) ?_
            refine w_iload_n (zat TX6_step 41 rfl) rfl ?_
            refine w_i2l (zat TX6_step 42 rfl) ?_
            refine x_callv3 (qX6_joined_2 l _ _ _) (by decide) kX6_joined (rdy_S (zat TX6_step 43 rfl) kX6_joined pX6_joined zw685 zw686) (Nat.le_of_ble_eq_true rfl) rfl rfl ?_
            refine w_ldc (v := -1000000) (zat TX6_step 44 rfl) zw688 ?_
            refine w_ldc (v := 1000000) (zat TX6_step 45 rfl) zw689 ?_
            refine x_callv3 (qX11_bound l _ _ _ _) (by decide) kX11_bound (rdy_SN (zat TX6_step 46 rfl) kX11_bound pX11_bound zw690 zw691) (Nat.le_of_ble_eq_true rfl) rfl rfl ?_
            refine x_callu2 (qX6_push l (zsI (zsI h 63 0 1 (nI (n + 1))) 63 0 1 (nI n)) hW n (zI_same _ 63 0 1 _) (by omega) _) (by decide) kX6_push (rdy_V (zat TX6_step 47 rfl) kX6_push pX6_push zw674 zw676 zw19 (zrc (by decide) (by decide) rfl)) (Nat.le_of_ble_eq_true rfl) rfl rfl ?_
            refine w_iconst (v := 1) (zat TX6_step 48 rfl) (by decide) ?_
            refine w_ireturn (zat TX6_step 49 rfl) rfl rfl ?_
            exact ⟨rfl, rfl⟩
          · exact absurd (by decide) Hc53
      · exact absurd (by decide) Hc20
  · exact absurd (by decide) Hc1
theorem qX6_step_3 (l : Launch) (h : zH) (hW : Wc h) (n : Nat) (hn : zI h 63 0 1 = nI (n + 2)) (h2 : n + 2 ≤ 32) : Cx l 3 mX6_step [Vq (some (63, 0)), Vi (-15)] h (Rv (Vi 1)) (zsI (zsI (zsI (zsI h 63 0 1 (nI (n + 1))) 63 0 1 (nI n)) 78 0 n (opv 3 (zI h 78 0 n) (zI h 78 0 (n + 1)))) 63 0 1 (nI (n + 1))) := by
  refine Ct.in 2 kX6_step (plainFor_of_name rfl) (Nat.le_of_ble_eq_true rfl) ?_
  refine w_iload_n (zat TX6_step 0 rfl) rfl ?_
  refine w_if_lt 11 (zat TX6_step 1 rfl) (by decide) (fun Hc1 => ?_) (fun Hc1 => ?_)
  · refine w_iload_n (zat TX6_step 7 rfl) rfl ?_
    refine w_bipush (v := -6) (zat TX6_step 8 rfl) (by decide) ?_
    refine w_icmp_gt 34 (zat TX6_step 9 rfl) (by decide) (fun Hc14 => ?_) (fun Hc14 => ?_)
    · exact absurd Hc14 (by decide)
    · refine w_iload_n (zat TX6_step 10 rfl) rfl ?_
      refine w_bipush (v := -9) (zat TX6_step 11 rfl) (by decide) ?_
      refine w_icmp_lt 34 (zat TX6_step 12 rfl) (by decide) (fun Hc20 => ?_) (fun Hc20 => ?_)
      · refine w_aload_n (zat TX6_step 20 rfl) rfl ?_
        refine x_callv1 (qX6_pop l h hW (n + 1) hn (by omega)) (by decide) kX6_pop (rdy_V (zat TX6_step 21 rfl) kX6_pop pX6_pop zw666 zw668 zw17 (zrc (by decide) (by decide) rfl)) (Nat.le_of_ble_eq_true rfl) rfl rfl ?_
        refine x_istore_n (ls2 := [_, _, _, _]) (zat TX6_step 22 rfl) (by decide) rfl ?_
        refine w_aload_n (zat TX6_step 23 rfl) rfl ?_
        refine x_callv1 (qX6_pop l (zsI h 63 0 1 (nI (n + 1))) hW n (zI_same _ 63 0 1 _) (by omega)) (by decide) kX6_pop (rdy_V (zat TX6_step 24 rfl) kX6_pop pX6_pop zw666 zw668 zw17 (zrc (by decide) (by decide) rfl)) (Nat.le_of_ble_eq_true rfl) rfl rfl ?_
        rw [show zI (zsI h 63 0 1 (nI (n + 1))) 78 0 n = zI h 78 0 n from rfl]
        refine x_istore_n (ls2 := [_, _, _, _]) (zat TX6_step 25 rfl) (by decide) rfl ?_
        refine w_iload_n (zat TX6_step 26 rfl) rfl ?_
        refine w_bipush (v := -11) (zat TX6_step 27 rfl) (by decide) ?_
        refine w_icmp_gt 63 (zat TX6_step 28 rfl) (by decide) (fun Hc47 => ?_) (fun Hc47 => ?_)
        · exact absurd Hc47 (by decide)
        · refine w_iload_n (zat TX6_step 29 rfl) rfl ?_
          refine w_bipush (v := -13) (zat TX6_step 30 rfl) (by decide) ?_
          refine w_icmp_lt 63 (zat TX6_step 31 rfl) (by decide) (fun Hc53 => ?_) (fun Hc53 => ?_)
          · refine w_aload_n (zat TX6_step 37 rfl) rfl ?_
            refine w_iload_n (zat TX6_step 38 rfl) rfl ?_
            refine w_iload_n (zat TX6_step 39 rfl) rfl ?_
            refine w_i2l (zat TX6_step 40 rfl) ?_
            refine w_iload_n (zat TX6_step 41 rfl) rfl ?_
            refine w_i2l (zat TX6_step 42 rfl) ?_
            refine x_callv3 (qX6_joined_3 l _ _ _) (by decide) kX6_joined (rdy_S (zat TX6_step 43 rfl) kX6_joined pX6_joined zw685 zw686) (Nat.le_of_ble_eq_true rfl) rfl rfl ?_
            refine w_ldc (v := -1000000) (zat TX6_step 44 rfl) zw688 ?_
            refine w_ldc (v := 1000000) (zat TX6_step 45 rfl) zw689 ?_
            refine x_callv3 (qX11_bound l _ _ _ _) (by decide) kX11_bound (rdy_SN (zat TX6_step 46 rfl) kX11_bound pX11_bound zw690 zw691) (Nat.le_of_ble_eq_true rfl) rfl rfl ?_
            refine x_callu2 (qX6_push l (zsI (zsI h 63 0 1 (nI (n + 1))) 63 0 1 (nI n)) hW n (zI_same _ 63 0 1 _) (by omega) _) (by decide) kX6_push (rdy_V (zat TX6_step 47 rfl) kX6_push pX6_push zw674 zw676 zw19 (zrc (by decide) (by decide) rfl)) (Nat.le_of_ble_eq_true rfl) rfl rfl ?_
            refine w_iconst (v := 1) (zat TX6_step 48 rfl) (by decide) ?_
            refine w_ireturn (zat TX6_step 49 rfl) rfl rfl ?_
            exact ⟨rfl, rfl⟩
          · exact absurd (by decide) Hc53
      · exact absurd (by decide) Hc20
  · exact absurd (by decide) Hc1
theorem qX6_step_4 (l : Launch) (h : zH) (hW : Wc h) (n : Nat) (hn : zI h 63 0 1 = nI (n + 2)) (h2 : n + 2 ≤ 32) : Cx l 3 mX6_step [Vq (some (63, 0)), Vi (-16)] h (Rv (Vi 1)) (zsI (zsI (zsI (zsI h 63 0 1 (nI (n + 1))) 63 0 1 (nI n)) 78 0 n (opv 4 (zI h 78 0 n) (zI h 78 0 (n + 1)))) 63 0 1 (nI (n + 1))) := by
  refine Ct.in 2 kX6_step (plainFor_of_name rfl) (Nat.le_of_ble_eq_true rfl) ?_
  refine w_iload_n (zat TX6_step 0 rfl) rfl ?_
  refine w_if_lt 11 (zat TX6_step 1 rfl) (by decide) (fun Hc1 => ?_) (fun Hc1 => ?_)
  · refine w_iload_n (zat TX6_step 7 rfl) rfl ?_
    refine w_bipush (v := -6) (zat TX6_step 8 rfl) (by decide) ?_
    refine w_icmp_gt 34 (zat TX6_step 9 rfl) (by decide) (fun Hc14 => ?_) (fun Hc14 => ?_)
    · exact absurd Hc14 (by decide)
    · refine w_iload_n (zat TX6_step 10 rfl) rfl ?_
      refine w_bipush (v := -9) (zat TX6_step 11 rfl) (by decide) ?_
      refine w_icmp_lt 34 (zat TX6_step 12 rfl) (by decide) (fun Hc20 => ?_) (fun Hc20 => ?_)
      · refine w_aload_n (zat TX6_step 20 rfl) rfl ?_
        refine x_callv1 (qX6_pop l h hW (n + 1) hn (by omega)) (by decide) kX6_pop (rdy_V (zat TX6_step 21 rfl) kX6_pop pX6_pop zw666 zw668 zw17 (zrc (by decide) (by decide) rfl)) (Nat.le_of_ble_eq_true rfl) rfl rfl ?_
        refine x_istore_n (ls2 := [_, _, _, _]) (zat TX6_step 22 rfl) (by decide) rfl ?_
        refine w_aload_n (zat TX6_step 23 rfl) rfl ?_
        refine x_callv1 (qX6_pop l (zsI h 63 0 1 (nI (n + 1))) hW n (zI_same _ 63 0 1 _) (by omega)) (by decide) kX6_pop (rdy_V (zat TX6_step 24 rfl) kX6_pop pX6_pop zw666 zw668 zw17 (zrc (by decide) (by decide) rfl)) (Nat.le_of_ble_eq_true rfl) rfl rfl ?_
        rw [show zI (zsI h 63 0 1 (nI (n + 1))) 78 0 n = zI h 78 0 n from rfl]
        refine x_istore_n (ls2 := [_, _, _, _]) (zat TX6_step 25 rfl) (by decide) rfl ?_
        refine w_iload_n (zat TX6_step 26 rfl) rfl ?_
        refine w_bipush (v := -11) (zat TX6_step 27 rfl) (by decide) ?_
        refine w_icmp_gt 63 (zat TX6_step 28 rfl) (by decide) (fun Hc47 => ?_) (fun Hc47 => ?_)
        · exact absurd Hc47 (by decide)
        · refine w_iload_n (zat TX6_step 29 rfl) rfl ?_
          refine w_bipush (v := -13) (zat TX6_step 30 rfl) (by decide) ?_
          refine w_icmp_lt 63 (zat TX6_step 31 rfl) (by decide) (fun Hc53 => ?_) (fun Hc53 => ?_)
          · refine w_aload_n (zat TX6_step 37 rfl) rfl ?_
            refine w_iload_n (zat TX6_step 38 rfl) rfl ?_
            refine w_iload_n (zat TX6_step 39 rfl) rfl ?_
            refine w_i2l (zat TX6_step 40 rfl) ?_
            refine w_iload_n (zat TX6_step 41 rfl) rfl ?_
            refine w_i2l (zat TX6_step 42 rfl) ?_
            refine x_callv3 (qX6_joined_4 l _ _ _) (by decide) kX6_joined (rdy_S (zat TX6_step 43 rfl) kX6_joined pX6_joined zw685 zw686) (Nat.le_of_ble_eq_true rfl) rfl rfl ?_
            refine w_ldc (v := -1000000) (zat TX6_step 44 rfl) zw688 ?_
            refine w_ldc (v := 1000000) (zat TX6_step 45 rfl) zw689 ?_
            refine x_callv3 (qX11_bound l _ _ _ _) (by decide) kX11_bound (rdy_SN (zat TX6_step 46 rfl) kX11_bound pX11_bound zw690 zw691) (Nat.le_of_ble_eq_true rfl) rfl rfl ?_
            refine x_callu2 (qX6_push l (zsI (zsI h 63 0 1 (nI (n + 1))) 63 0 1 (nI n)) hW n (zI_same _ 63 0 1 _) (by omega) _) (by decide) kX6_push (rdy_V (zat TX6_step 47 rfl) kX6_push pX6_push zw674 zw676 zw19 (zrc (by decide) (by decide) rfl)) (Nat.le_of_ble_eq_true rfl) rfl rfl ?_
            refine w_iconst (v := 1) (zat TX6_step 48 rfl) (by decide) ?_
            refine w_ireturn (zat TX6_step 49 rfl) rfl rfl ?_
            exact ⟨rfl, rfl⟩
          · exact absurd (by decide) Hc53
      · exact absurd (by decide) Hc20
  · exact absurd (by decide) Hc1
theorem qX6_step_5 (l : Launch) (h : zH) (hW : Wc h) (n : Nat) (hn : zI h 63 0 1 = nI (n + 2)) (h2 : n + 2 ≤ 32) : Cx l 3 mX6_step [Vq (some (63, 0)), Vi (-17)] h (Rv (Vi 1)) (zsI (zsI (zsI (zsI h 63 0 1 (nI (n + 1))) 63 0 1 (nI n)) 78 0 n (opv 5 (zI h 78 0 n) (zI h 78 0 (n + 1)))) 63 0 1 (nI (n + 1))) := by
  refine Ct.in 2 kX6_step (plainFor_of_name rfl) (Nat.le_of_ble_eq_true rfl) ?_
  refine w_iload_n (zat TX6_step 0 rfl) rfl ?_
  refine w_if_lt 11 (zat TX6_step 1 rfl) (by decide) (fun Hc1 => ?_) (fun Hc1 => ?_)
  · refine w_iload_n (zat TX6_step 7 rfl) rfl ?_
    refine w_bipush (v := -6) (zat TX6_step 8 rfl) (by decide) ?_
    refine w_icmp_gt 34 (zat TX6_step 9 rfl) (by decide) (fun Hc14 => ?_) (fun Hc14 => ?_)
    · exact absurd Hc14 (by decide)
    · refine w_iload_n (zat TX6_step 10 rfl) rfl ?_
      refine w_bipush (v := -9) (zat TX6_step 11 rfl) (by decide) ?_
      refine w_icmp_lt 34 (zat TX6_step 12 rfl) (by decide) (fun Hc20 => ?_) (fun Hc20 => ?_)
      · refine w_aload_n (zat TX6_step 20 rfl) rfl ?_
        refine x_callv1 (qX6_pop l h hW (n + 1) hn (by omega)) (by decide) kX6_pop (rdy_V (zat TX6_step 21 rfl) kX6_pop pX6_pop zw666 zw668 zw17 (zrc (by decide) (by decide) rfl)) (Nat.le_of_ble_eq_true rfl) rfl rfl ?_
        refine x_istore_n (ls2 := [_, _, _, _]) (zat TX6_step 22 rfl) (by decide) rfl ?_
        refine w_aload_n (zat TX6_step 23 rfl) rfl ?_
        refine x_callv1 (qX6_pop l (zsI h 63 0 1 (nI (n + 1))) hW n (zI_same _ 63 0 1 _) (by omega)) (by decide) kX6_pop (rdy_V (zat TX6_step 24 rfl) kX6_pop pX6_pop zw666 zw668 zw17 (zrc (by decide) (by decide) rfl)) (Nat.le_of_ble_eq_true rfl) rfl rfl ?_
        rw [show zI (zsI h 63 0 1 (nI (n + 1))) 78 0 n = zI h 78 0 n from rfl]
        refine x_istore_n (ls2 := [_, _, _, _]) (zat TX6_step 25 rfl) (by decide) rfl ?_
        refine w_iload_n (zat TX6_step 26 rfl) rfl ?_
        refine w_bipush (v := -11) (zat TX6_step 27 rfl) (by decide) ?_
        refine w_icmp_gt 63 (zat TX6_step 28 rfl) (by decide) (fun Hc47 => ?_) (fun Hc47 => ?_)
        · exact absurd Hc47 (by decide)
        · refine w_iload_n (zat TX6_step 29 rfl) rfl ?_
          refine w_bipush (v := -13) (zat TX6_step 30 rfl) (by decide) ?_
          refine w_icmp_lt 63 (zat TX6_step 31 rfl) (by decide) (fun Hc53 => ?_) (fun Hc53 => ?_)
          · refine w_aload_n (zat TX6_step 37 rfl) rfl ?_
            refine w_iload_n (zat TX6_step 38 rfl) rfl ?_
            refine w_iload_n (zat TX6_step 39 rfl) rfl ?_
            refine w_i2l (zat TX6_step 40 rfl) ?_
            refine w_iload_n (zat TX6_step 41 rfl) rfl ?_
            refine w_i2l (zat TX6_step 42 rfl) ?_
            refine x_callv3 (qX6_joined_5 l _ _ _) (by decide) kX6_joined (rdy_S (zat TX6_step 43 rfl) kX6_joined pX6_joined zw685 zw686) (Nat.le_of_ble_eq_true rfl) rfl rfl ?_
            refine w_ldc (v := -1000000) (zat TX6_step 44 rfl) zw688 ?_
            refine w_ldc (v := 1000000) (zat TX6_step 45 rfl) zw689 ?_
            refine x_callv3 (qX11_bound l _ _ _ _) (by decide) kX11_bound (rdy_SN (zat TX6_step 46 rfl) kX11_bound pX11_bound zw690 zw691) (Nat.le_of_ble_eq_true rfl) rfl rfl ?_
            refine x_callu2 (qX6_push l (zsI (zsI h 63 0 1 (nI (n + 1))) 63 0 1 (nI n)) hW n (zI_same _ 63 0 1 _) (by omega) _) (by decide) kX6_push (rdy_V (zat TX6_step 47 rfl) kX6_push pX6_push zw674 zw676 zw19 (zrc (by decide) (by decide) rfl)) (Nat.le_of_ble_eq_true rfl) rfl rfl ?_
            refine w_iconst (v := 1) (zat TX6_step 48 rfl) (by decide) ?_
            refine w_ireturn (zat TX6_step 49 rfl) rfl rfl ?_
            exact ⟨rfl, rfl⟩
          · exact absurd (by decide) Hc53
      · exact absurd (by decide) Hc20
  · exact absurd (by decide) Hc1
/-- an item of a line: sign and value -/
def enI (it : Nat × Int32) : Int32 := if it.1 = 0 then it.2 else if it.1 = 1 then enN it.2.toNatClampNeg else if it.1 = 2 then -14 else if it.1 = 3 then -15 else if it.1 = 4 then -16 else if it.1 = 5 then -17 else if it.1 = 6 then -11 else if it.1 = 7 then -12 else -13
def okI (it : Nat × Int32) : Prop := (it.1 = 0 ∧ 0 ≤ it.2 ∧ it.2 ≤ 9999) ∨ (it.1 = 1 ∧ ∃ k, k < 4 ∧ it.2 = nI k) ∨ (2 ≤ it.1 ∧ it.1 ≤ 8)
def vlI (env : Nat → Int32) (it : Nat × Int32) : Int32 := if it.1 = 0 then it.2 else env it.2.toNatClampNeg
def cpB (s : Nat) (a b : Int32) : Bool := if s = 6 then decide (a < b) else if s = 7 then decide (b < a) else decide (a = b)
def stp (env : Nat → Int32) (it : Nat × Int32) (st : List Int32 × Bool) : List Int32 × Bool := if it.1 ≤ 1 then (vlI env it :: st.1, st.2) else match st.1 with
  | b :: a :: r => if 6 ≤ it.1 then (r, st.2 && cpB it.1 a b) else (opv it.1 a b :: r, st.2)
  | _ => st
/-- how deep the pile is behind an item; none where it doesn't fit -/
def dp (n : Nat) (it : Nat × Int32) : Option Nat := if it.1 ≤ 1 then (if n < 30 then some (n + 1) else none) else if 6 ≤ it.1 then (if n = 2 then some 0 else none) else (if 2 ≤ n then some (n - 1) else none)
def dps (n : Nat) : List (Nat × Int32) → Option Nat
  | [] => some n
  | it :: t => (dp n it).bind (fun m => dps m t)
def runI (env : Nat → Int32) (its : List (Nat × Int32)) (st : List Int32 × Bool) : List Int32 × Bool := its.foldl (fun s it => stp env it s) st
def SR (h : zH) (L : List Int32) : Prop := zI h 63 0 1 = nI L.length ∧ ∀ i v, L.reverse[i]? = some v → zI h 78 0 i = v
def envR (h : zH) (k : Nat) : Int32 := zI h 63 0 (2 + k)
def FrR (h h' : zH) : Prop := h'.2 = h.2 ∧ (∀ k, k ≠ 63 → k ≠ 78 → zI h' k = zI h k) ∧ ∀ j, j ≠ 1 → zI h' 63 0 j = zI h 63 0 j
theorem FrR.rf (h : zH) : FrR h h := ⟨rfl, fun _ _ _ => rfl, fun _ _ => rfl⟩
theorem FrR.tr {a b c : zH} (x : FrR a b) (y : FrR b c) : FrR a c := ⟨y.1.trans x.1, fun k h1 h2 => (y.2.1 k h1 h2).trans (x.2.1 k h1 h2), fun j hj => (y.2.2 j hj).trans (x.2.2 j hj)⟩
theorem FrR.env {a b : zH} (x : FrR a b) : envR b = envR a := funext (fun k => x.2.2 (2 + k) (by omega))
theorem FrR.w {a b : zH} (x : FrR a b) (n : Nat) (v : Int32) : FrR a (zsI b 78 0 n v) := ⟨x.1, fun k h1 h2 => by
  rw [← x.2.1 k h1 h2]
  funext i j
  exact if_neg (fun z => h2 z.1), fun j hj => x.2.2 j hj⟩
theorem FrR.s {a b : zH} (x : FrR a b) (v : Int32) : FrR a (zsI b 63 0 1 v) := ⟨x.1, fun k h1 h2 => by
  rw [← x.2.1 k h1 h2]
  funext i j
  exact if_neg (fun z => h1 z.1), fun j hj => (zI_oth b 63 0 1 v hj).trans (x.2.2 j hj)⟩
theorem SR.push {h : zH} {L : List Int32} (x : SR h L) (v : Int32) : SR (zsI (zsI h 78 0 L.length v) 63 0 1 (nI (L.length + 1))) (v :: L) := by
  refine ⟨zI_same _ 63 0 1 _, fun i w hi => ?_⟩
  show zI (zsI h 78 0 L.length v) 78 0 i = w
  rw [List.reverse_cons] at hi
  by_cases e : i = L.length
  · subst e
    rw [List.getElem?_append_right (by simp)] at hi
    simp at hi
    rw [zI_same]; exact hi
  · have hlt : i < L.length := by
      have := (List.getElem?_eq_some_iff.mp hi).1
      simp at this
      omega
    rw [List.getElem?_append_left (by simpa using hlt)] at hi
    rw [zI_oth _ _ _ _ _ e]
    exact x.2 i w hi
theorem SR.top2 {h : zH} {a b : Int32} {r : List Int32} (x : SR h (b :: a :: r)) : zI h 78 0 r.length = a ∧ zI h 78 0 (r.length + 1) = b := by
  constructor
  · refine x.2 _ _ ?_
    simp
  · refine x.2 _ _ ?_
    simp
theorem SR.drop {h : zH} {a b : Int32} {r : List Int32} (x : SR h (b :: a :: r)) (w : Int32) : SR (zsI (zsI h 63 0 1 w) 63 0 1 (nI r.length)) r := by
  refine ⟨zI_same _ 63 0 1 _, fun i v hi => ?_⟩
  show zI h 78 0 i = v
  have hlt : i < r.length := by
    have := (List.getElem?_eq_some_iff.mp hi).1
    simpa using this
  refine x.2 i v ?_
  rw [List.reverse_cons, List.reverse_cons, List.append_assoc, List.getElem?_append_left (by simpa using hlt)]
  exact hi
theorem zCtm {l : Launch} {d : Nat} {M : zM} {as : List zV} {h : zH} {o : zO} {h2 : zH} {Q : zO → zH → Prop} (k : Cx l d M as h o h2) (q : Q o h2) : Ct l d M as h Q := Ct.mono k (fun o' h' e => by rw [e.1, e.2]; exact q)
/-- a step's contract -/
theorem qX6_step (l : Launch) (h : zH) (hW : Wc h) (it : Nat × Int32) (hok : okI it) (L : List Int32) (hS : SR h L) (hL30 : L.length ≤ 30) (m : Nat) (hd : dp L.length it = some m) : ∃ d, d ≤ 3 ∧ Ct l d mX6_step [Vq (some (63, 0)), Vi (enI it)] h (fun o h' => o = Rv (Vi (zb ((stp (envR h) it (L, true)).2 = true))) ∧ SR h' (stp (envR h) it (L, true)).1 ∧ FrR h h') := by
  obtain ⟨s, v⟩ := it
  rcases hok with ⟨h0, h1, h2⟩ | ⟨h0, k, hk, h1⟩ | ⟨h0, h1⟩
  · dsimp only at h0 h1 h2
    subst h0
    exact ⟨2, by decide, zCtm (qX6_step_num l h hW L.length hS.1 (by omega) v h1) ⟨rfl, hS.push v, ((FrR.rf h).w _ _).s _⟩⟩
  · dsimp only at h0 h1
    subst h0; subst h1
    have hc : (nI k).toNatClampNeg = k := nI_clamp (by omega)
    have hv : vlI (envR h) (1, nI k) = zI h 63 0 (2 + k) := by
      show (if (1 : Nat) = 0 then nI k else envR h (nI k).toNatClampNeg) = _
      rw [if_neg (by decide), hc]; rfl
    have he : enI (1, nI k) = enN k := by
      unfold enI
      dsimp only
      rw [if_neg (by decide), if_pos rfl, hc]
    rw [he]
    refine ⟨2, by decide, zCtm (qX6_step_name l h hW L.length hS.1 (by omega) k hk) ⟨rfl, ?_, ((FrR.rf h).w _ _).s _⟩⟩
    show SR _ (vlI (envR h) (1, nI k) :: L)
    rw [hv]
    exact hS.push _
  · dsimp only at h0 h1
    have hL : ∃ b a r, L = b :: a :: r := by
      unfold dp at hd
      dsimp only at hd
      rw [if_neg (by omega)] at hd
      have : 2 ≤ L.length := by
        split at hd
        · split at hd
          · omega
          · cases hd
        · split at hd
          · assumption
          · cases hd
      match L, this with
      | b :: a :: r, _ => exact ⟨b, a, r, rfl⟩
    obtain ⟨b, a, r, rfl⟩ := hL
    have ht := hS.top2
    have hn : zI h 63 0 1 = nI (r.length + 2) := hS.1
    have hl : r.length + 2 ≤ 32 := by
      have : (b :: a :: r).length = r.length + 2 := rfl
      omega
    rcases (show s = 2 ∨ s = 3 ∨ s = 4 ∨ s = 5 ∨ s = 6 ∨ s = 7 ∨ s = 8 by omega) with e | e | e | e | e | e | e
    · subst e
      have hq := qX6_step_2 l h hW r.length hn hl
      rw [ht.1, ht.2] at hq
      refine ⟨3, by decide, zCtm hq ⟨rfl, ?_, (((((FrR.rf h).s _).s _).w _ _).s _)⟩⟩
      exact (hS.drop _).push _
    · subst e
      have hq := qX6_step_3 l h hW r.length hn hl
      rw [ht.1, ht.2] at hq
      refine ⟨3, by decide, zCtm hq ⟨rfl, ?_, (((((FrR.rf h).s _).s _).w _ _).s _)⟩⟩
      exact (hS.drop _).push _
    · subst e
      have hq := qX6_step_4 l h hW r.length hn hl
      rw [ht.1, ht.2] at hq
      refine ⟨3, by decide, zCtm hq ⟨rfl, ?_, (((((FrR.rf h).s _).s _).w _ _).s _)⟩⟩
      exact (hS.drop _).push _
    · subst e
      have hq := qX6_step_5 l h hW r.length hn hl
      rw [ht.1, ht.2] at hq
      refine ⟨3, by decide, zCtm hq ⟨rfl, ?_, (((((FrR.rf h).s _).s _).w _ _).s _)⟩⟩
      exact (hS.drop _).push _
    · subst e
      have hq := qX6_step_6 l h hW r.length hn hl
      rw [ht.1, ht.2] at hq
      refine ⟨2, by decide, zCtm hq ⟨?_, hS.drop _, ((FrR.rf h).s _).s _⟩⟩
      exact congrArg (fun x => Rv (Vi x)) (zb_c (by show _ ↔ (true && cpB 6 a b) = true; rw [Bool.true_and]; unfold cpB; simp))
    · subst e
      have hq := qX6_step_7 l h hW r.length hn hl
      rw [ht.1, ht.2] at hq
      refine ⟨2, by decide, zCtm hq ⟨?_, hS.drop _, ((FrR.rf h).s _).s _⟩⟩
      exact congrArg (fun x => Rv (Vi x)) (zb_c (by show _ ↔ (true && cpB 7 a b) = true; rw [Bool.true_and]; unfold cpB; simp))
    · subst e
      have hq := qX6_step_8 l h hW r.length hn hl
      rw [ht.1, ht.2] at hq
      refine ⟨2, by decide, zCtm hq ⟨?_, hS.drop _, ((FrR.rf h).s _).s _⟩⟩
      exact congrArg (fun x => Rv (Vi x)) (zb_c (by show _ ↔ (true && cpB 8 a b) = true; rw [Bool.true_and]; unfold cpB; simp))
