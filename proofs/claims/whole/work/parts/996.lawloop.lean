-- the law: its loop, by program (wip/gen/p996.py)
theorem and31 (x : Int32) : ∃ k : Nat, k < 32 ∧ x &&& 31 = nI k := by
  refine ⟨(x.toBitVec &&& 31#32).toNat, ?_, ?_⟩
  · rw [BitVec.toNat_and]
    have : x.toBitVec.toNat &&& (31#32).toNat ≤ 31 := Nat.and_le_right
    omega
  · rw [← Int32.toBitVec_inj]
    show x.toBitVec &&& 31#32 = BitVec.ofNat 32 (x.toBitVec &&& 31#32).toNat
    rw [BitVec.ofNat_toNat, BitVec.setWidth_eq]
theorem lp_end {L i : Nat} (hL : L ≤ 3072) (hi : i ≤ 4000) : nI L - 6 < nI i ↔ L < i + 6 := by
  have h1 : (nI L - 6).toInt = (L : Int) - 6 := by
    rw [Int32.toInt_sub, nI_toInt (by omega), show (6 : Int32).toInt = 6 by decide]
    rw [Int.bmod_eq_of_le] <;> omega
  rw [Int32.lt_iff_toInt_lt, h1, nI_toInt (by omega)]
  omega
theorem lw_loop (l : Launch) (Q : zO → zH → Prop) (L : Nat) (hB : L ≤ 3072) (hQ : ∀ h, Inv h → Q (Rv (Vi 1)) h) : ∀ (n i : Nat) (h : zH), Inv h → zN h 999 0 = L → L ≤ i + n → i ≤ L + 6 → Wp l mL_law 41 18 [some (Vq (some (999, 0))), some (Vq (some (0, 0))), some (Vq (some (1, 0))), some (Vi (nI i))] [] h Q := by
  intro n
  induction n with
  | zero =>
    intro i h hI hL hn hi6
    refine w_iload_n (zat TL_law_0 10 rfl) rfl ?_
    refine w_aload_n (zat TL_law_0 11 rfl) rfl ?_
    refine w_slen (zat TL_law_0 12 rfl) ?_
    refine w_bipush (v := 6) (zat TL_law_0 13 rfl) (by decide) ?_
    refine w_isub (zat TL_law_0 14 rfl) ?_
    refine w_icmp_gt 1042 (zat TL_law_0 15 rfl) (by decide) (fun Hc => ?_) (fun Hc => ?_)
    · refine w_iconst (v := 1) (zat TL_law_11 36 rfl) (by decide) ?_
      refine w_ireturn (zat TL_law_11 37 rfl) rfl rfl ?_
      exact hQ h hI
    · rw [hL, lp_end hB (by omega)] at Hc
      omega
  | succ n ih =>
    intro i h hI hL hn hi6
    refine w_iload_n (zat TL_law_0 10 rfl) rfl ?_
    refine w_aload_n (zat TL_law_0 11 rfl) rfl ?_
    refine w_slen (zat TL_law_0 12 rfl) ?_
    refine w_bipush (v := 6) (zat TL_law_0 13 rfl) (by decide) ?_
    refine w_isub (zat TL_law_0 14 rfl) ?_
    refine w_icmp_gt 1042 (zat TL_law_0 15 rfl) (by decide) (fun Hc => ?_) (fun Hc => ?_)
    · refine w_iconst (v := 1) (zat TL_law_11 36 rfl) (by decide) ?_
      refine w_ireturn (zat TL_law_11 37 rfl) rfl rfl ?_
      exact hQ h hI
    · rw [hL, lp_end hB (by omega)] at Hc
      have hi : i + 6 ≤ L := by omega
      have K : ∀ h2, Inv h2 → Sc h h2 → Wp l mL_law 41 1036 [some (Vq (some (999, 0))), some (Vq (some (0, 0))), some (Vq (some (1, 0))), some (Vi (nI i))] [] h2 Q := fun h2 hI2 hs2 => by
        refine x_iinc (v := nI (i + 6)) (ls2 := [_, _, _, _]) (zat TL_law_11 34 rfl) rfl (nI_add i 6) rfl ?_
        refine w_goto 18 (zat TL_law_11 35 rfl) (by decide) ?_
        exact ih (i + 6) h2 hI2 (hs2.2.trans hL) (by omega) (by omega)
      refine w_aload_n (zat TL_law_0 16 rfl) rfl ?_
      refine w_iload_n (zat TL_law_0 17 rfl) rfl ?_
      refine w_sld i rfl (by rw [hL]; omega) (by rw [hL]; omega) (zat TL_law_0 18 rfl) ?_
      refine w_bipush (v := 31) (zat TL_law_0 19 rfl) (by decide) ?_
      refine w_iand (zat TL_law_0 20 rfl) ?_
      obtain ⟨k, hk, ek⟩ := and31 (zI h 999 0 i)
      rw [ek]
      have hk2 : k = 0 ∨ k = 1 ∨ k = 2 ∨ k = 3 ∨ k = 4 ∨ k = 5 ∨ k = 6 ∨ k = 7 ∨ k = 8 ∨ k = 9 ∨ k = 10 ∨ k = 11 ∨ k = 12 ∨ k = 13 ∨ k = 14 ∨ k = 15 ∨ k = 16 ∨ k = 17 ∨ k = 18 ∨ k = 19 ∨ k = 20 ∨ k = 21 ∨ k = 22 ∨ k = 23 ∨ k = 24 ∨ k = 25 ∨ k = 26 ∨ k = 27 ∨ k = 28 ∨ k = 29 ∨ k = 30 ∨ k = 31 := by omega
      rcases hk2 with rfl | rfl | rfl | rfl | rfl | rfl | rfl | rfl | rfl | rfl | rfl | rfl | rfl | rfl | rfl | rfl | rfl | rfl | rfl | rfl | rfl | rfl | rfl | rfl | rfl | rfl | rfl | rfl | rfl | rfl | rfl | rfl
      · refine w_tableIn 168 (zat TL_law_0 21 rfl) (by decide) (by decide) rfl (by decide) ?_
        exact cs_province l Q h hI i L hL hi hB K
      · refine w_tableIn 201 (zat TL_law_0 21 rfl) (by decide) (by decide) rfl (by decide) ?_
        exact cs_people l Q h hI i L hL hi hB K
      · refine w_tableIn 244 (zat TL_law_0 21 rfl) (by decide) (by decide) rfl (by decide) ?_
        exact cs_border l Q h hI i L hL hi hB K
      · refine w_tableIn 287 (zat TL_law_0 21 rfl) (by decide) (by decide) rfl (by decide) ?_
        exact cs_guard l Q h hI i L hL hi hB K
      · refine w_tableIn 320 (zat TL_law_0 21 rfl) (by decide) (by decide) rfl (by decide) ?_
        exact cs_weight l Q h hI i L hL hi hB K
      · refine w_tableIn 343 (zat TL_law_0 21 rfl) (by decide) (by decide) rfl (by decide) ?_
        exact cs_feed l Q h hI i L hL hi hB K
      · refine w_tableIn 406 (zat TL_law_0 21 rfl) (by decide) (by decide) rfl (by decide) ?_
        exact cs_edict l Q h hI i L hL hi hB K
      · refine w_tableIn 449 (zat TL_law_0 21 rfl) (by decide) (by decide) rfl (by decide) ?_
        exact cs_fault l Q h hI i L hL hi hB K
      · refine w_tableIn 462 (zat TL_law_0 21 rfl) (by decide) (by decide) rfl (by decide) ?_
        exact cs_where l Q h hI i L hL hi hB K
      · refine w_tableIn 475 (zat TL_law_0 21 rfl) (by decide) (by decide) rfl (by decide) ?_
        exact cs_force l Q h hI i L hL hi hB K
      · refine w_tableIn 508 (zat TL_law_0 21 rfl) (by decide) (by decide) rfl (by decide) ?_
        exact cs_price l Q h hI i L hL hi hB K
      · refine w_tableIn 567 (zat TL_law_0 21 rfl) (by decide) (by decide) rfl (by decide) ?_
        exact cs_brought l Q h hI i L hL hi hB K
      · refine w_tableIn 600 (zat TL_law_0 21 rfl) (by decide) (by decide) rfl (by decide) ?_
        exact cs_cheap l Q h hI i L hL hi hB K
      · refine w_tableIn 623 (zat TL_law_0 21 rfl) (by decide) (by decide) rfl (by decide) ?_
        exact cs_source l Q h hI i L hL hi hB K
      · refine w_tableIn 646 (zat TL_law_0 21 rfl) (by decide) (by decide) rfl (by decide) ?_
        exact cs_taken l Q h hI i L hL hi hB K
      · refine w_tableIn 670 (zat TL_law_0 21 rfl) (by decide) (by decide) rfl (by decide) ?_
        exact cs_crown l Q h hI i L hL hi hB K
      · refine w_tableIn 684 (zat TL_law_0 21 rfl) (by decide) (by decide) rfl (by decide) ?_
        exact cs_lost l Q h hI i L hL hi hB K
      · refine w_tableIn 698 (zat TL_law_0 21 rfl) (by decide) (by decide) rfl (by decide) ?_
        exact cs_carried l Q h hI i L hL hi hB K
      · refine w_tableIn 722 (zat TL_law_0 21 rfl) (by decide) (by decide) rfl (by decide) ?_
        exact cs_way l Q h hI i L hL hi hB K
      · refine w_tableIn 745 (zat TL_law_0 21 rfl) (by decide) (by decide) rfl (by decide) ?_
        exact cs_wayAt l Q h hI i L hL hi hB K
      · refine w_tableIn 778 (zat TL_law_0 21 rfl) (by decide) (by decide) rfl (by decide) ?_
        exact cs_best l Q h hI i L hL hi hB K
      · refine w_tableIn 802 (zat TL_law_0 21 rfl) (by decide) (by decide) rfl (by decide) ?_
        exact cs_stand l Q h hI i L hL hi hB K
      · refine w_tableIn 825 (zat TL_law_0 21 rfl) (by decide) (by decide) rfl (by decide) ?_
        exact cs_pass l Q h hI i L hL hi hB K
      · refine w_tableIn 838 (zat TL_law_0 21 rfl) (by decide) (by decide) rfl (by decide) ?_
        exact cs_store l Q h hI i L hL hi hB K
      · refine w_tableIn 871 (zat TL_law_0 21 rfl) (by decide) (by decide) rfl (by decide) ?_
        exact cs_moves l Q h hI i L hL hi hB K
      · refine w_tableIn 930 (zat TL_law_0 21 rfl) (by decide) (by decide) rfl (by decide) ?_
        exact cs_counted l Q h hI i L hL hi hB K
      · refine w_tableIn 963 (zat TL_law_0 21 rfl) (by decide) (by decide) rfl (by decide) ?_
        exact cs_missing l Q h hI i L hL hi hB K
      · refine w_tableIn 987 (zat TL_law_0 21 rfl) (by decide) (by decide) rfl (by decide) ?_
        exact cs_worst l Q h hI i L hL hi hB K
      · refine w_tableIn 1000 (zat TL_law_0 21 rfl) (by decide) (by decide) rfl (by decide) ?_
        exact cs_count l Q h hI i L hL hi hB K
      · refine w_tableIn 1023 (zat TL_law_0 21 rfl) (by decide) (by decide) rfl (by decide) ?_
        exact cs_trouble l Q h hI i L hL hi hB K
      · refine w_tableOut 1036 (zat TL_law_0 21 rfl) (Or.inr (by decide)) (by decide) ?_
        exact K h hI ⟨rfl, rfl⟩
      · refine w_tableOut 1036 (zat TL_law_0 21 rfl) (Or.inr (by decide)) (by decide) ?_
        exact K h hI ⟨rfl, rfl⟩
