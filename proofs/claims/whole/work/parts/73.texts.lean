-- the texts; leaves of the scanner, by program (wip/gen/p73.py)
theorem qJ0_coder (l : Launch) (h : zH) (j : Nat) (hj : j < 9) : Cx l 1 mJ0_coder_7d493 [Vq (some (1000 + j, 0))] h (Rv (Vi 0)) h := by
  refine Ct.in 0 kJ0_coder_7d493 pnJ0_coder_7d493 (Nat.le_of_ble_eq_true rfl) ?_
  refine w_getsC (zat TJ0_coder_7d493 0 rfl) zw498 ?_
  refine w_if_eq 13 (zat TJ0_coder_7d493 1 rfl) (by decide) (fun Hc3 => ?_) (fun Hc3 => ?_)
  · exact absurd Hc3 (by decide)
  · refine w_aload_n (zat TJ0_coder_7d493 2 rfl) rfl ?_
    refine w_getSc _ hj (zat TJ0_coder_7d493 3 rfl) zw1479 ?_
    refine w_goto 14 (zat TJ0_coder_7d493 4 rfl) (by decide) ?_
    refine w_ireturn (zat TJ0_coder_7d493 6 rfl) rfl rfl ?_
    exact ⟨rfl, rfl⟩
theorem qJ0_isLatin1 (l : Launch) (h : zH) (j : Nat) (hj : j < 9) : Cx l 1 mJ0_isLatin1_aae02 [Vq (some (1000 + j, 0))] h (Rv (Vi 1)) h := by
  refine Ct.in 0 kJ0_isLatin1_aae02 pnJ0_isLatin1_aae02 (Nat.le_of_ble_eq_true rfl) ?_
  refine w_getsC (zat TJ0_isLatin1_aae02 0 rfl) zw498 ?_
  refine w_if_eq 17 (zat TJ0_isLatin1_aae02 1 rfl) (by decide) (fun Hc3 => ?_) (fun Hc3 => ?_)
  · exact absurd Hc3 (by decide)
  · refine w_aload_n (zat TJ0_isLatin1_aae02 2 rfl) rfl ?_
    refine w_getSc _ hj (zat TJ0_isLatin1_aae02 3 rfl) zw1479 ?_
    refine w_if_ne 17 (zat TJ0_isLatin1_aae02 4 rfl) (by decide) (fun Hc10 => ?_) (fun Hc10 => ?_)
    · exact absurd rfl Hc10
    · refine w_iconst (v := 1) (zat TJ0_isLatin1_aae02 5 rfl) (by decide) ?_
      refine w_goto 18 (zat TJ0_isLatin1_aae02 6 rfl) (by decide) ?_
      refine w_ireturn (zat TJ0_isLatin1_aae02 8 rfl) rfl rfl ?_
      exact ⟨rfl, rfl⟩
theorem slen_shr : ∀ j, j < 9 → nI (zlen.getD j 0) >>> ((0 : Int32) &&& 31) = nI (zlen.getD j 0) := by decide
theorem slen_lt : ∀ j, j < 9 → zlen.getD j 0 ≤ 6 ∧ 2 ≤ zlen.getD j 0 := by decide
theorem sbyt_c : ∀ j, j < 9 → ∀ n, n < zlen.getD j 0 → (((zbyt.getD j []).getD n 0 &&& 255).toUInt32 % 65536).toInt32 = (zbyt.getD j []).getD n 0 := by decide
theorem qJ0_length (l : Launch) (h : zH) (j : Nat) (hj : j < 9) : Cx l 2 mJ0_length_8abf5 [Vq (some (1000 + j, 0))] h (Rv (Vi (nI (zlen.getD j 0)))) h := by
  refine Ct.in 0 kJ0_length_8abf5 pnJ0_length_8abf5 (Nat.le_of_ble_eq_true rfl) ?_
  refine w_aload_n (zat TJ0_length_8abf5 0 rfl) rfl ?_
  refine w_getSv _ hj (zat TJ0_length_8abf5 1 rfl) zw1478 ?_
  refine w_Slen _ hj (zat TJ0_length_8abf5 2 rfl) ?_
  refine w_aload_n (zat TJ0_length_8abf5 3 rfl) rfl ?_
  refine x_callv1 (qJ0_coder l h j hj) (by decide) kJ0_coder_7d493 (rdy_V (zat TJ0_length_8abf5 4 rfl) kJ0_coder_7d493 pJ0_coder_7d493 zw494 zw495 zw496 (Or.inr ⟨Nat.le_add_right _ _, by omega, rfl, rfl⟩)) (Nat.le_of_ble_eq_true rfl) rfl rfl ?_
  refine w_ishr (zat TJ0_length_8abf5 5 rfl) ?_
  rw [slen_shr j hj]
  refine w_ireturn (zat TJ0_length_8abf5 6 rfl) rfl rfl ?_
  exact ⟨rfl, rfl⟩
theorem qJ3_checkIndex (l : Launch) (h : zH) (n L : Nat) (q : Option zRf) (hn : n < L) (hL : L < 2 ^ 31) : Cx l 1 mJ3_checkIndex_8e157 [Vi (nI n), Vi (nI L), Vq q] h (Rv (Vi (nI n))) h := by
  refine Ct.in 0 kJ3_checkIndex_8e157 pnJ3_checkIndex_8e157 (Nat.le_of_ble_eq_true rfl) ?_
  refine w_iload_n (zat TJ3_checkIndex_8e157 0 rfl) rfl ?_
  refine w_if_lt 9 (zat TJ3_checkIndex_8e157 1 rfl) (by decide) (fun Hc1 => ?_) (fun Hc1 => ?_)
  · exact absurd (nI_pos' (by omega)) (Int32.not_le.mpr Hc1)
  · refine w_iload_n (zat TJ3_checkIndex_8e157 2 rfl) rfl ?_
    refine w_iload_n (zat TJ3_checkIndex_8e157 3 rfl) rfl ?_
    refine w_icmp_lt 16 (zat TJ3_checkIndex_8e157 4 rfl) (by decide) (fun Hc6 => ?_) (fun Hc6 => ?_)
    · refine w_iload_n (zat TJ3_checkIndex_8e157 10 rfl) rfl ?_
      refine w_ireturn (zat TJ3_checkIndex_8e157 11 rfl) rfl rfl ?_
      exact ⟨rfl, rfl⟩
    · exact absurd (nI_lt (by omega) (by omega)) Hc6
theorem qJ0_checkIndex (l : Launch) (h : zH) (n L : Nat) (hn : n < L) (hL : L < 2 ^ 31) : Cx l 2 mJ0_checkIndex_df160 [Vi (nI n), Vi (nI L)] h R0 h := by
  refine Ct.in 0 kJ0_checkIndex_df160 pnJ0_checkIndex_df160 (Nat.le_of_ble_eq_true rfl) ?_
  refine w_iload_n (zat TJ0_checkIndex_df160 0 rfl) rfl ?_
  refine w_iload_n (zat TJ0_checkIndex_df160 1 rfl) rfl ?_
  refine w_getsU 2 (by decide) (zat TJ0_checkIndex_df160 2 rfl) zw514 ?_
  refine x_callv3 (qJ3_checkIndex l h n L _ hn hL) (by decide) kJ3_checkIndex_8e157 (rdy_S (zat TJ0_checkIndex_df160 3 rfl) kJ3_checkIndex_8e157 pJ3_checkIndex_8e157 zw516 zw517) (Nat.le_of_ble_eq_true rfl) rfl rfl ?_
  refine w_pop (zat TJ0_checkIndex_df160 4 rfl) rfl ?_
  refine w_return (zat TJ0_checkIndex_df160 5 rfl) rfl ?_
  exact ⟨rfl, rfl⟩
theorem schr_all : ∀ j, j < 9 → ∀ n, n < zlen.getD j 0 → 97 ≤ (zbyt.getD j []).getD n 0 ∧ (zbyt.getD j []).getD n 0 ≤ 122 ∧ (((zbyt.getD j []).getD n 0).toUInt32 % 65536).toInt32 = (zbyt.getD j []).getD n 0 := by decide
theorem schr (j : Nat) (hj : j < 9) (n : Nat) (hn : n < zlen.getD j 0) : narrow .char (.int ((zbyt.getD j []).getD n 0)) = .int ((zbyt.getD j []).getD n 0) := by
  show Value.int _ = _
  exact congrArg Value.int (schr_all j hj n hn).2.2
theorem qJ1_charAt (l : Launch) (h : zH) (j : Nat) (hj : j < 9) (n : Nat) (hn : n < zlen.getD j 0) : Cx l 3 mJ1_charAt_3b067 [Vq (some (1100 + j, 0)), Vi (nI n)] h (Rv (Vi ((zbyt.getD j []).getD n 0))) h := by
  have hL : zlen.getD j 0 < 2 ^ 31 := by have := slen_lt j hj; omega
  refine Ct.in 0 kJ1_charAt_3b067 pnJ1_charAt_3b067 (Nat.le_of_ble_eq_true rfl) ?_
  refine w_iload_n (zat TJ1_charAt_3b067 0 rfl) rfl ?_
  refine w_aload_n (zat TJ1_charAt_3b067 1 rfl) rfl ?_
  refine w_Slen _ hj (zat TJ1_charAt_3b067 2 rfl) ?_
  refine x_callu2 (qJ0_checkIndex l h n _ hn hL) (by decide) kJ0_checkIndex_df160 (rdy_S (zat TJ1_charAt_3b067 3 rfl) kJ0_checkIndex_df160 pJ0_checkIndex_df160 zw511 zw512) (Nat.le_of_ble_eq_true rfl) rfl rfl ?_
  refine w_aload_n (zat TJ1_charAt_3b067 4 rfl) rfl ?_
  refine w_iload_n (zat TJ1_charAt_3b067 5 rfl) rfl ?_
  refine w_Sbaload _ _ hj rfl hn hL (zat TJ1_charAt_3b067 6 rfl) ?_
  refine w_sipush (v := 255) (zat TJ1_charAt_3b067 7 rfl) (by decide) ?_
  refine w_iand (zat TJ1_charAt_3b067 8 rfl) ?_
  refine w_i2c (zat TJ1_charAt_3b067 9 rfl) ?_
  rw [sbyt_c j hj n hn]
  refine w_ireturn (zat TJ1_charAt_3b067 10 rfl) rfl (schr j hj n hn) ?_
  exact ⟨rfl, rfl⟩
theorem qJ0_charAt (l : Launch) (h : zH) (j : Nat) (hj : j < 9) (n : Nat) (hn : n < zlen.getD j 0) : Cx l 4 mJ0_charAt_5068e [Vq (some (1000 + j, 0)), Vi (nI n)] h (Rv (Vi ((zbyt.getD j []).getD n 0))) h := by
  refine Ct.in 0 kJ0_charAt_5068e pnJ0_charAt_5068e (Nat.le_of_ble_eq_true rfl) ?_
  refine w_aload_n (zat TJ0_charAt_5068e 0 rfl) rfl ?_
  refine x_callv1 (qJ0_isLatin1 l h j hj) (by decide) kJ0_isLatin1_aae02 (rdy_V (zat TJ0_charAt_5068e 1 rfl) kJ0_isLatin1_aae02 pJ0_isLatin1_aae02 zw504 zw505 zw506 (Or.inr ⟨Nat.le_add_right _ _, by omega, rfl, rfl⟩)) (Nat.le_of_ble_eq_true rfl) rfl rfl ?_
  refine w_if_eq 16 (zat TJ0_charAt_5068e 2 rfl) (by decide) (fun Hc4 => ?_) (fun Hc4 => ?_)
  · exact absurd Hc4 (by decide)
  · refine w_aload_n (zat TJ0_charAt_5068e 3 rfl) rfl ?_
    refine w_getSv _ hj (zat TJ0_charAt_5068e 4 rfl) zw1478 ?_
    refine w_iload_n (zat TJ0_charAt_5068e 5 rfl) rfl ?_
    refine x_callv2 (qJ1_charAt l h j hj n hn) (by decide) kJ1_charAt_3b067 (rdy_S (zat TJ0_charAt_5068e 6 rfl) kJ1_charAt_3b067 pJ1_charAt_3b067 zw508 zw509) (Nat.le_of_ble_eq_true rfl) rfl rfl ?_
    refine w_ireturn (zat TJ0_charAt_5068e 7 rfl) rfl (schr j hj n hn) ?_
    exact ⟨rfl, rfl⟩
/-- a byte as the machine has it -/
def sg (b : Nat) : Int32 := if b < 128 then nI b else nI b - 256
theorem sg_all : ∀ b : Fin 256, ((97 ≤ sg b.1 ∧ sg b.1 ≤ 122) ↔ (97 ≤ b.1 ∧ b.1 ≤ 122)) ∧ ((48 ≤ sg b.1 ∧ sg b.1 ≤ 57) ↔ (48 ≤ b.1 ∧ b.1 ≤ 57)) ∧ (sg b.1 = 32 ↔ b.1 = 32) ∧ sg b.1 &&& 255 = nI b.1 ∧ (sg b.1).toInt = (if b.1 < 128 then (b.1 : Int) else (b.1 : Int) - 256) := by decide +kernel
abbrev isL (b : Nat) : Prop := 97 ≤ b ∧ b ≤ 122
abbrev isD (b : Nat) : Prop := 48 ≤ b ∧ b ≤ 57
theorem sg_L {b : Nat} (h : b < 256) : (97 ≤ sg b ∧ sg b ≤ 122) ↔ isL b := (sg_all ⟨b, h⟩).1
theorem sg_D {b : Nat} (h : b < 256) : (48 ≤ sg b ∧ sg b ≤ 57) ↔ isD b := (sg_all ⟨b, h⟩).2.1
theorem sg_sp {b : Nat} (h : b < 256) : sg b = 32 ↔ b = 32 := (sg_all ⟨b, h⟩).2.2.1
theorem sg_and {b : Nat} (h : b < 256) : sg b &&& 255 = nI b := (sg_all ⟨b, h⟩).2.2.2.1
theorem sg_int {b : Nat} (h : b < 256) : (sg b).toInt = (if b < 128 then (b : Int) else (b : Int) - 256) := (sg_all ⟨b, h⟩).2.2.2.2
theorem sg_lo {b : Nat} (h : b < 128) : sg b = nI b := if_pos h
theorem qX9_isLetter (l : Launch) (h : zH) (x : Int32) : Cx l 1 mX9_isLetter [Vi x] h (Rv (Vi (zb (97 ≤ x ∧ x ≤ 122)))) h := by
  refine Ct.in 0 kX9_isLetter (plainFor_of_name rfl) (Nat.le_of_ble_eq_true rfl) ?_
  refine w_iload_n (zat TX9_isLetter 0 rfl) rfl ?_
  refine w_bipush (v := 97) (zat TX9_isLetter 1 rfl) (by decide) ?_
  refine w_icmp_lt 16 (zat TX9_isLetter 2 rfl) (by decide) (fun Hc3 => ?_) (fun Hc3 => ?_)
  · refine w_iconst (v := 0) (zat TX9_isLetter 8 rfl) (by decide) ?_
    refine w_ireturn (zat TX9_isLetter 9 rfl) rfl rfl ?_
    exact ⟨congrArg (fun x => Rv (Vi x)) (zb_f (fun z => absurd Hc3 (Int32.not_lt.mpr z.1))).symm, rfl⟩
  · refine w_iload_n (zat TX9_isLetter 3 rfl) rfl ?_
    refine w_bipush (v := 122) (zat TX9_isLetter 4 rfl) (by decide) ?_
    refine w_icmp_gt 16 (zat TX9_isLetter 5 rfl) (by decide) (fun Hc9 => ?_) (fun Hc9 => ?_)
    · refine w_iconst (v := 0) (zat TX9_isLetter 8 rfl) (by decide) ?_
      refine w_ireturn (zat TX9_isLetter 9 rfl) rfl rfl ?_
      exact ⟨congrArg (fun x => Rv (Vi x)) (zb_f (fun z => absurd Hc9 (Int32.not_lt.mpr z.2))).symm, rfl⟩
    · refine w_iconst (v := 1) (zat TX9_isLetter 6 rfl) (by decide) ?_
      refine w_goto 17 (zat TX9_isLetter 7 rfl) (by decide) ?_
      refine w_ireturn (zat TX9_isLetter 9 rfl) rfl rfl ?_
      exact ⟨congrArg (fun x => Rv (Vi x)) (zb_t ⟨Int32.not_lt.mp Hc3, Int32.not_lt.mp Hc9⟩).symm, rfl⟩
theorem qX9_isDigit (l : Launch) (h : zH) (x : Int32) : Cx l 1 mX9_isDigit [Vi x] h (Rv (Vi (zb (48 ≤ x ∧ x ≤ 57)))) h := by
  refine Ct.in 0 kX9_isDigit (plainFor_of_name rfl) (Nat.le_of_ble_eq_true rfl) ?_
  refine w_iload_n (zat TX9_isDigit 0 rfl) rfl ?_
  refine w_bipush (v := 48) (zat TX9_isDigit 1 rfl) (by decide) ?_
  refine w_icmp_lt 16 (zat TX9_isDigit 2 rfl) (by decide) (fun Hc3 => ?_) (fun Hc3 => ?_)
  · refine w_iconst (v := 0) (zat TX9_isDigit 8 rfl) (by decide) ?_
    refine w_ireturn (zat TX9_isDigit 9 rfl) rfl rfl ?_
    exact ⟨congrArg (fun x => Rv (Vi x)) (zb_f (fun z => absurd Hc3 (Int32.not_lt.mpr z.1))).symm, rfl⟩
  · refine w_iload_n (zat TX9_isDigit 3 rfl) rfl ?_
    refine w_bipush (v := 57) (zat TX9_isDigit 4 rfl) (by decide) ?_
    refine w_icmp_gt 16 (zat TX9_isDigit 5 rfl) (by decide) (fun Hc9 => ?_) (fun Hc9 => ?_)
    · refine w_iconst (v := 0) (zat TX9_isDigit 8 rfl) (by decide) ?_
      refine w_ireturn (zat TX9_isDigit 9 rfl) rfl rfl ?_
      exact ⟨congrArg (fun x => Rv (Vi x)) (zb_f (fun z => absurd Hc9 (Int32.not_lt.mpr z.2))).symm, rfl⟩
    · refine w_iconst (v := 1) (zat TX9_isDigit 6 rfl) (by decide) ?_
      refine w_goto 17 (zat TX9_isDigit 7 rfl) (by decide) ?_
      refine w_ireturn (zat TX9_isDigit 9 rfl) rfl rfl ?_
      exact ⟨congrArg (fun x => Rv (Vi x)) (zb_t ⟨Int32.not_lt.mp Hc3, Int32.not_lt.mp Hc9⟩).symm, rfl⟩
/-- the sign that a byte is -/
def sgT (b : Nat) : Int32 := if b = 60 then -11 else if b = 62 then -12 else if b = 61 then -13 else if b = 43 then -14 else if b = 45 then -15 else if b = 42 then -16 else if b = 47 then -17 else if b = 40 then -18 else if b = 41 then -19 else if b = 59 then -20 else -22
theorem sgo_all : ∀ t : Fin 23, ¬ t.1 + 40 = 60 → ¬ t.1 + 40 = 62 → ¬ t.1 + 40 = 61 → ¬ t.1 + 40 = 43 → ¬ t.1 + 40 = 45 → ¬ t.1 + 40 = 42 → ¬ t.1 + 40 = 47 → ¬ t.1 + 40 = 40 → ¬ t.1 + 40 = 41 → ¬ t.1 + 40 = 59 → (#[128, 131, 122, 116, 137, 119, 137, 125, 137, 137, 137, 137, 137, 137, 137, 137, 137, 137, 137, 134, 107, 113, 110] : Array Int)[t.1]? = some 137 := by decide
theorem sgo (b : Nat) (h1 : 40 ≤ b) (h2 : b ≤ 62) (e60 : ¬ b = 60) (e62 : ¬ b = 62) (e61 : ¬ b = 61) (e43 : ¬ b = 43) (e45 : ¬ b = 45) (e42 : ¬ b = 42) (e47 : ¬ b = 47) (e40 : ¬ b = 40) (e41 : ¬ b = 41) (e59 : ¬ b = 59) : (#[128, 131, 122, 116, 137, 119, 137, 125, 137, 137, 137, 137, 137, 137, 137, 137, 137, 137, 137, 134, 107, 113, 110] : Array Int)[b - 40]? = some 137 :=
  sgo_all ⟨b - 40, by omega⟩ (by show ¬ b - 40 + 40 = 60; omega) (by show ¬ b - 40 + 40 = 62; omega) (by show ¬ b - 40 + 40 = 61; omega) (by show ¬ b - 40 + 40 = 43; omega) (by show ¬ b - 40 + 40 = 45; omega) (by show ¬ b - 40 + 40 = 42; omega) (by show ¬ b - 40 + 40 = 47; omega) (by show ¬ b - 40 + 40 = 40; omega) (by show ¬ b - 40 + 40 = 41; omega) (by show ¬ b - 40 + 40 = 59; omega)
theorem qX9_signOf (l : Launch) (h : zH) (b : Nat) (hb : b < 256) : Cx l 1 mX9_signOf [Vi (sg b)] h (Rv (Vi (sgT b))) h := by
  refine Ct.in 0 kX9_signOf (plainFor_of_name rfl) (Nat.le_of_ble_eq_true rfl) ?_
  refine w_iload_n (zat TX9_signOf 0 rfl) rfl ?_
  by_cases e60 : b = 60
  · subst e60
    refine w_tableIn (off := 107) 108 (zat TX9_signOf 1 rfl) (by decide) (by decide) (by decide) (by decide) ?_
    refine w_bipush (v := -11) (zat TX9_signOf 2 rfl) (by decide) ?_
    refine w_ireturn (zat TX9_signOf 3 rfl) rfl rfl ?_
    exact ⟨rfl, rfl⟩
  · skip
    by_cases e62 : b = 62
    · subst e62
      refine w_tableIn (off := 110) 111 (zat TX9_signOf 1 rfl) (by decide) (by decide) (by decide) (by decide) ?_
      refine w_bipush (v := -12) (zat TX9_signOf 4 rfl) (by decide) ?_
      refine w_ireturn (zat TX9_signOf 5 rfl) rfl rfl ?_
      exact ⟨rfl, rfl⟩
    · skip
      by_cases e61 : b = 61
      · subst e61
        refine w_tableIn (off := 113) 114 (zat TX9_signOf 1 rfl) (by decide) (by decide) (by decide) (by decide) ?_
        refine w_bipush (v := -13) (zat TX9_signOf 6 rfl) (by decide) ?_
        refine w_ireturn (zat TX9_signOf 7 rfl) rfl rfl ?_
        exact ⟨rfl, rfl⟩
      · skip
        by_cases e43 : b = 43
        · subst e43
          refine w_tableIn (off := 116) 117 (zat TX9_signOf 1 rfl) (by decide) (by decide) (by decide) (by decide) ?_
          refine w_bipush (v := -14) (zat TX9_signOf 8 rfl) (by decide) ?_
          refine w_ireturn (zat TX9_signOf 9 rfl) rfl rfl ?_
          exact ⟨rfl, rfl⟩
        · skip
          by_cases e45 : b = 45
          · subst e45
            refine w_tableIn (off := 119) 120 (zat TX9_signOf 1 rfl) (by decide) (by decide) (by decide) (by decide) ?_
            refine w_bipush (v := -15) (zat TX9_signOf 10 rfl) (by decide) ?_
            refine w_ireturn (zat TX9_signOf 11 rfl) rfl rfl ?_
            exact ⟨rfl, rfl⟩
          · skip
            by_cases e42 : b = 42
            · subst e42
              refine w_tableIn (off := 122) 123 (zat TX9_signOf 1 rfl) (by decide) (by decide) (by decide) (by decide) ?_
              refine w_bipush (v := -16) (zat TX9_signOf 12 rfl) (by decide) ?_
              refine w_ireturn (zat TX9_signOf 13 rfl) rfl rfl ?_
              exact ⟨rfl, rfl⟩
            · skip
              by_cases e47 : b = 47
              · subst e47
                refine w_tableIn (off := 125) 126 (zat TX9_signOf 1 rfl) (by decide) (by decide) (by decide) (by decide) ?_
                refine w_bipush (v := -17) (zat TX9_signOf 14 rfl) (by decide) ?_
                refine w_ireturn (zat TX9_signOf 15 rfl) rfl rfl ?_
                exact ⟨rfl, rfl⟩
              · skip
                by_cases e40 : b = 40
                · subst e40
                  refine w_tableIn (off := 128) 129 (zat TX9_signOf 1 rfl) (by decide) (by decide) (by decide) (by decide) ?_
                  refine w_bipush (v := -18) (zat TX9_signOf 16 rfl) (by decide) ?_
                  refine w_ireturn (zat TX9_signOf 17 rfl) rfl rfl ?_
                  exact ⟨rfl, rfl⟩
                · skip
                  by_cases e41 : b = 41
                  · subst e41
                    refine w_tableIn (off := 131) 132 (zat TX9_signOf 1 rfl) (by decide) (by decide) (by decide) (by decide) ?_
                    refine w_bipush (v := -19) (zat TX9_signOf 18 rfl) (by decide) ?_
                    refine w_ireturn (zat TX9_signOf 19 rfl) rfl rfl ?_
                    exact ⟨rfl, rfl⟩
                  · skip
                    by_cases e59 : b = 59
                    · subst e59
                      refine w_tableIn (off := 134) 135 (zat TX9_signOf 1 rfl) (by decide) (by decide) (by decide) (by decide) ?_
                      refine w_bipush (v := -20) (zat TX9_signOf 20 rfl) (by decide) ?_
                      refine w_ireturn (zat TX9_signOf 21 rfl) rfl rfl ?_
                      exact ⟨rfl, rfl⟩
                    · skip
                      have hs : sgT b = -22 := by unfold sgT; simp only [if_neg e60, if_neg e62, if_neg e61, if_neg e43, if_neg e45, if_neg e42, if_neg e47, if_neg e40, if_neg e41, if_neg e59]
                      rw [hs]
                      by_cases hr : (sg b).toInt < 40 ∨ 62 < (sg b).toInt
                      · refine w_tableOut 138 (zat TX9_signOf 1 rfl) hr (by decide) ?_
                        refine w_bipush (v := -22) (zat TX9_signOf 22 rfl) (by decide) ?_
                        refine w_ireturn (zat TX9_signOf 23 rfl) rfl rfl ?_
                        exact ⟨rfl, rfl⟩
                      · have hi := sg_int hb
                        have hb2 : b < 128 := by
                          apply Decidable.byContradiction
                          intro z
                          rw [if_neg z] at hi
                          omega
                        rw [if_pos hb2] at hi
                        have ho : (#[128, 131, 122, 116, 137, 119, 137, 125, 137, 137, 137, 137, 137, 137, 137, 137, 137, 137, 137, 134, 107, 113, 110] : Array Int)[((sg b).toInt - 40).toNat]? = some 137 := by
                          rw [hi, show ((b : Int) - 40).toNat = b - 40 by omega]
                          exact sgo b (by omega) (by omega) e60 e62 e61 e43 e45 e42 e47 e40 e41 e59
                        refine w_tableIn (off := 137) 138 (zat TX9_signOf 1 rfl) (by omega) (by omega) ho (by decide) ?_
                        refine w_bipush (v := -22) (zat TX9_signOf 22 rfl) (by decide) ?_
                        refine w_ireturn (zat TX9_signOf 23 rfl) rfl rfl ?_
                        exact ⟨rfl, rfl⟩
