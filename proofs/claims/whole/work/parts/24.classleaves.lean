-- THE CLASS'S LEAVES, by program (wip/gen/p24.py)
theorem wi_iff {p : Int32} {n : Nat} (hn : n < 1000) : (0 ≤ p ∧ p ≤ nI n - 1) ↔ (0 ≤ p ∧ p < nI n) := by
  have h1 : (nI n - 1).toInt = (n : Int) - 1 := pk_sub_toInt (a := n) (b := 1) (by omega) (by decide)
  simp only [Int32.le_iff_toInt_le, Int32.lt_iff_toInt_lt, h1, nI_toInt (show n < 2 ^ 31 by omega)]
  constructor <;> rintro ⟨a, b⟩ <;> exact ⟨a, by omega⟩
theorem ixI {j n : Nat} (hj : j < n) (hn : n < 1000) : 0 ≤ nI j ∧ nI j < nI n := ⟨nI_pos' (by omega), nI_lt hj (by omega)⟩
theorem qX11_provinceAt_s (l : Launch) (h : zH) (hW : Wc h) (nP : Nat) (hv : zI h 0 0 8 = nI nP) (h2 : nP ≤ 10) (h3 : zC h 58 = nP) (p : Int32) (j : Nat) (hx : p = nI j) (hj : j < nP) : Cx l 2 mX11_provinceAt [Vq (some (0, 0)), Vi p] h (Rv (Vq (some (58, j)))) h := by
  refine Ct.in 0 kX11_provinceAt (plainFor_of_name rfl) (Nat.le_of_ble_eq_true rfl) ?_
  refine w_iload_n (zat TX11_provinceAt 0 rfl) rfl ?_
  refine w_iconst (v := 0) (zat TX11_provinceAt 1 rfl) (by decide) ?_
  refine w_aload_n (zat TX11_provinceAt 2 rfl) rfl ?_
  refine y_getI (v := nI nP) (zat TX11_provinceAt 3 rfl) fX11_62 s0 (by decide) (by decide) rfl hv ?_
  refine w_iconst (v := 1) (zat TX11_provinceAt 4 rfl) (by decide) ?_
  refine w_isub (zat TX11_provinceAt 5 rfl) ?_
  refine x_callv3 (qX11_within l _ _ _ _) (by decide) kX11_within (rdy_S (zat TX11_provinceAt 6 rfl) kX11_within pX11_within zw341 zw342) (Nat.le_of_ble_eq_true rfl) rfl rfl ?_
  refine w_if_eq 23 (zat TX11_provinceAt 7 rfl) (by decide) (fun Hc11 => ?_) (fun Hc11 => ?_)
  · rw [zb_0, wi_iff (by omega), hx] at Hc11
    exact absurd (ixI hj (by omega)) Hc11
  · refine w_aload_n (zat TX11_provinceAt 8 rfl) rfl ?_
    refine w_getR (zat TX11_provinceAt 9 rfl) fX11_11 s0 (by decide) (by decide) rfl (wcr hW 0 rfl) ?_
    refine w_iload_n (zat TX11_provinceAt 10 rfl) rfl ?_
    refine x_aaload _ _ (zat TX11_provinceAt 11 rfl) (by decide) (by decide) ⟨_, rfl⟩ (wcn hW 0 rfl) (by decide) hx (by omega) ((hW.2.2.1.2.2 j (by omega)).1) ?_
    refine w_goto 24 (zat TX11_provinceAt 12 rfl) (by decide) ?_
    refine w_areturn (zat TX11_provinceAt 14 rfl) rfl (Or.inl ⟨_, rfl⟩) ?_
    exact ⟨rfl, rfl⟩
theorem qX11_provinceAt_n (l : Launch) (h : zH) (hW : Wc h) (nP : Nat) (hv : zI h 0 0 8 = nI nP) (h2 : nP ≤ 10) (h3 : zC h 58 = nP) (p : Int32) (hx : ¬ (0 ≤ p ∧ p < nI nP)) : Cx l 2 mX11_provinceAt [Vq (some (0, 0)), Vi p] h (Rv (Vq none)) h := by
  refine Ct.in 0 kX11_provinceAt (plainFor_of_name rfl) (Nat.le_of_ble_eq_true rfl) ?_
  refine w_iload_n (zat TX11_provinceAt 0 rfl) rfl ?_
  refine w_iconst (v := 0) (zat TX11_provinceAt 1 rfl) (by decide) ?_
  refine w_aload_n (zat TX11_provinceAt 2 rfl) rfl ?_
  refine y_getI (v := nI nP) (zat TX11_provinceAt 3 rfl) fX11_62 s0 (by decide) (by decide) rfl hv ?_
  refine w_iconst (v := 1) (zat TX11_provinceAt 4 rfl) (by decide) ?_
  refine w_isub (zat TX11_provinceAt 5 rfl) ?_
  refine x_callv3 (qX11_within l _ _ _ _) (by decide) kX11_within (rdy_S (zat TX11_provinceAt 6 rfl) kX11_within pX11_within zw341 zw342) (Nat.le_of_ble_eq_true rfl) rfl rfl ?_
  refine w_if_eq 23 (zat TX11_provinceAt 7 rfl) (by decide) (fun Hc11 => ?_) (fun Hc11 => ?_)
  · refine w_null (zat TX11_provinceAt 13 rfl) ?_
    refine w_areturn (zat TX11_provinceAt 14 rfl) rfl (Or.inl ⟨_, rfl⟩) ?_
    exact ⟨rfl, rfl⟩
  · rw [zb_0, Decidable.not_not, wi_iff (by omega)] at Hc11
    exact absurd Hc11 hx
theorem qX11_borderAt_s (l : Launch) (h : zH) (hW : Wc h) (nB : Nat) (hv : zI h 0 0 9 = nI nB) (h2 : nB ≤ 16) (h3 : zC h 59 = nB) (p : Int32) (j : Nat) (hx : p = nI j) (hj : j < nB) : Cx l 2 mX11_borderAt [Vq (some (0, 0)), Vi p] h (Rv (Vq (some (59, j)))) h := by
  refine Ct.in 0 kX11_borderAt (plainFor_of_name rfl) (Nat.le_of_ble_eq_true rfl) ?_
  refine w_iload_n (zat TX11_borderAt 0 rfl) rfl ?_
  refine w_iconst (v := 0) (zat TX11_borderAt 1 rfl) (by decide) ?_
  refine w_aload_n (zat TX11_borderAt 2 rfl) rfl ?_
  refine y_getI (v := nI nB) (zat TX11_borderAt 3 rfl) fX11_66 s0 (by decide) (by decide) rfl hv ?_
  refine w_iconst (v := 1) (zat TX11_borderAt 4 rfl) (by decide) ?_
  refine w_isub (zat TX11_borderAt 5 rfl) ?_
  refine x_callv3 (qX11_within l _ _ _ _) (by decide) kX11_within (rdy_S (zat TX11_borderAt 6 rfl) kX11_within pX11_within zw341 zw342) (Nat.le_of_ble_eq_true rfl) rfl rfl ?_
  refine w_if_eq 23 (zat TX11_borderAt 7 rfl) (by decide) (fun Hc11 => ?_) (fun Hc11 => ?_)
  · rw [zb_0, wi_iff (by omega), hx] at Hc11
    exact absurd (ixI hj (by omega)) Hc11
  · refine w_aload_n (zat TX11_borderAt 8 rfl) rfl ?_
    refine w_getR (zat TX11_borderAt 9 rfl) fX11_17 s0 (by decide) (by decide) rfl (wcr hW 1 rfl) ?_
    refine w_iload_n (zat TX11_borderAt 10 rfl) rfl ?_
    refine x_aaload _ _ (zat TX11_borderAt 11 rfl) (by decide) (by decide) ⟨_, rfl⟩ (wcn hW 1 rfl) (by decide) hx (by omega) (hW.2.2.2.1 j (by omega)) ?_
    refine w_goto 24 (zat TX11_borderAt 12 rfl) (by decide) ?_
    refine w_areturn (zat TX11_borderAt 14 rfl) rfl (Or.inl ⟨_, rfl⟩) ?_
    exact ⟨rfl, rfl⟩
theorem qX11_borderAt_n (l : Launch) (h : zH) (hW : Wc h) (nB : Nat) (hv : zI h 0 0 9 = nI nB) (h2 : nB ≤ 16) (h3 : zC h 59 = nB) (p : Int32) (hx : ¬ (0 ≤ p ∧ p < nI nB)) : Cx l 2 mX11_borderAt [Vq (some (0, 0)), Vi p] h (Rv (Vq none)) h := by
  refine Ct.in 0 kX11_borderAt (plainFor_of_name rfl) (Nat.le_of_ble_eq_true rfl) ?_
  refine w_iload_n (zat TX11_borderAt 0 rfl) rfl ?_
  refine w_iconst (v := 0) (zat TX11_borderAt 1 rfl) (by decide) ?_
  refine w_aload_n (zat TX11_borderAt 2 rfl) rfl ?_
  refine y_getI (v := nI nB) (zat TX11_borderAt 3 rfl) fX11_66 s0 (by decide) (by decide) rfl hv ?_
  refine w_iconst (v := 1) (zat TX11_borderAt 4 rfl) (by decide) ?_
  refine w_isub (zat TX11_borderAt 5 rfl) ?_
  refine x_callv3 (qX11_within l _ _ _ _) (by decide) kX11_within (rdy_S (zat TX11_borderAt 6 rfl) kX11_within pX11_within zw341 zw342) (Nat.le_of_ble_eq_true rfl) rfl rfl ?_
  refine w_if_eq 23 (zat TX11_borderAt 7 rfl) (by decide) (fun Hc11 => ?_) (fun Hc11 => ?_)
  · refine w_null (zat TX11_borderAt 13 rfl) ?_
    refine w_areturn (zat TX11_borderAt 14 rfl) rfl (Or.inl ⟨_, rfl⟩) ?_
    exact ⟨rfl, rfl⟩
  · rw [zb_0, Decidable.not_not, wi_iff (by omega)] at Hc11
    exact absurd Hc11 hx
theorem qX11_storeAt_s (l : Launch) (h : zH) (hW : Wc h) (nS : Nat) (hv : zI h 0 0 10 = nI nS) (h2 : nS ≤ 8) (h3 : zC h 61 = nS) (p : Int32) (j : Nat) (hx : p = nI j) (hj : j < nS) : Cx l 2 mX11_storeAt [Vq (some (0, 0)), Vi p] h (Rv (Vq (some (61, j)))) h := by
  refine Ct.in 0 kX11_storeAt (plainFor_of_name rfl) (Nat.le_of_ble_eq_true rfl) ?_
  refine w_iload_n (zat TX11_storeAt 0 rfl) rfl ?_
  refine w_iconst (v := 0) (zat TX11_storeAt 1 rfl) (by decide) ?_
  refine w_aload_n (zat TX11_storeAt 2 rfl) rfl ?_
  refine y_getI (v := nI nS) (zat TX11_storeAt 3 rfl) fX11_69 s0 (by decide) (by decide) rfl hv ?_
  refine w_iconst (v := 1) (zat TX11_storeAt 4 rfl) (by decide) ?_
  refine w_isub (zat TX11_storeAt 5 rfl) ?_
  refine x_callv3 (qX11_within l _ _ _ _) (by decide) kX11_within (rdy_S (zat TX11_storeAt 6 rfl) kX11_within pX11_within zw341 zw342) (Nat.le_of_ble_eq_true rfl) rfl rfl ?_
  refine w_if_eq 23 (zat TX11_storeAt 7 rfl) (by decide) (fun Hc11 => ?_) (fun Hc11 => ?_)
  · rw [zb_0, wi_iff (by omega), hx] at Hc11
    exact absurd (ixI hj (by omega)) Hc11
  · refine w_aload_n (zat TX11_storeAt 8 rfl) rfl ?_
    refine w_getR (zat TX11_storeAt 9 rfl) fX11_23 s0 (by decide) (by decide) rfl (wcr hW 2 rfl) ?_
    refine w_iload_n (zat TX11_storeAt 10 rfl) rfl ?_
    refine x_aaload _ _ (zat TX11_storeAt 11 rfl) (by decide) (by decide) ⟨_, rfl⟩ (wcn hW 2 rfl) (by decide) hx (by omega) (hW.2.2.2.2.1 j (by omega)) ?_
    refine w_goto 24 (zat TX11_storeAt 12 rfl) (by decide) ?_
    refine w_areturn (zat TX11_storeAt 14 rfl) rfl (Or.inl ⟨_, rfl⟩) ?_
    exact ⟨rfl, rfl⟩
theorem qX11_storeAt_n (l : Launch) (h : zH) (hW : Wc h) (nS : Nat) (hv : zI h 0 0 10 = nI nS) (h2 : nS ≤ 8) (h3 : zC h 61 = nS) (p : Int32) (hx : ¬ (0 ≤ p ∧ p < nI nS)) : Cx l 2 mX11_storeAt [Vq (some (0, 0)), Vi p] h (Rv (Vq none)) h := by
  refine Ct.in 0 kX11_storeAt (plainFor_of_name rfl) (Nat.le_of_ble_eq_true rfl) ?_
  refine w_iload_n (zat TX11_storeAt 0 rfl) rfl ?_
  refine w_iconst (v := 0) (zat TX11_storeAt 1 rfl) (by decide) ?_
  refine w_aload_n (zat TX11_storeAt 2 rfl) rfl ?_
  refine y_getI (v := nI nS) (zat TX11_storeAt 3 rfl) fX11_69 s0 (by decide) (by decide) rfl hv ?_
  refine w_iconst (v := 1) (zat TX11_storeAt 4 rfl) (by decide) ?_
  refine w_isub (zat TX11_storeAt 5 rfl) ?_
  refine x_callv3 (qX11_within l _ _ _ _) (by decide) kX11_within (rdy_S (zat TX11_storeAt 6 rfl) kX11_within pX11_within zw341 zw342) (Nat.le_of_ble_eq_true rfl) rfl rfl ?_
  refine w_if_eq 23 (zat TX11_storeAt 7 rfl) (by decide) (fun Hc11 => ?_) (fun Hc11 => ?_)
  · refine w_null (zat TX11_storeAt 13 rfl) ?_
    refine w_areturn (zat TX11_storeAt 14 rfl) rfl (Or.inl ⟨_, rfl⟩) ?_
    exact ⟨rfl, rfl⟩
  · rw [zb_0, Decidable.not_not, wi_iff (by omega)] at Hc11
    exact absurd Hc11 hx
def pNew (h : zH) (i : Nat) (a b : Int32) : zH := zsI (zsI (zsI (zsR (znew (zsR (znew h 76 100 100) 58 i 2 (some (76, zC h 76))) 77 100 100) 58 i 3 (some (77, zC h 77))) 58 i 4 0) 58 i 0 a) 58 i 1 b
def bNew (h : zH) (i : Nat) (a b r : Int32) : zH := zsI (zsI (zsI (zsI h 59 i 3 0) 59 i 0 a) 59 i 1 b) 59 i 2 r
def sNew (h : zH) (i : Nat) (a : Int32) : zH := zsI (zsL (zsI (zsI (zsI (zsI h 61 i 1 0) 61 i 2 0) 61 i 3 0) 61 i 4 0) 61 i 5 0) 61 i 0 a
def eNew (h : zH) (i : Nat) (p y : Int32) (r : zRf) : zH := zsR (zsI (zsI h 60 i 0 p) 60 i 1 y) 60 i 2 (some r)
theorem qX5_init (l : Launch) (h : zH) (i : Nat) (a b : Int32) : Cx l 1 mX5_init [Vq (some (58, i)), Vi a, Vi b] h R0 (pNew h i a b) := by
  refine Ct.in 0 kX5_init (plainFor_of_name rfl) (Nat.le_of_ble_eq_true rfl) ?_
  refine w_aload_n (zat TX5_init 0 rfl) rfl ?_
  refine w_objInit (zat TX5_init 1 rfl) zw352 zw94 zw95 (Nat.le_of_ble_eq_true rfl) (by decide) ?_
  refine w_aload_n (zat TX5_init 2 rfl) rfl ?_
  refine w_bipush (v := 100) (zat TX5_init 3 rfl) (by decide) ?_
  refine w_newarr 76 100 (zat TX5_init 4 rfl) s76 (Or.inl rfl) (by decide) rfl zw143 (by decide) (by decide) ?_
  refine w_putR (zat TX5_init 5 rfl) gX5_init_9 s58 (by decide) (by decide) rfl (fun x => by cases x <;> exact ⟨rfl, rfl⟩) ?_
  refine w_aload_n (zat TX5_init 6 rfl) rfl ?_
  refine w_bipush (v := 100) (zat TX5_init 7 rfl) (by decide) ?_
  refine w_newarr 77 100 (zat TX5_init 8 rfl) s77 (Or.inl rfl) (by decide) rfl zw143 (by decide) (by decide) ?_
  refine w_putR (zat TX5_init 9 rfl) gX5_init_15 s58 (by decide) (by decide) rfl (fun x => by cases x <;> exact ⟨rfl, rfl⟩) ?_
  refine w_aload_n (zat TX5_init 10 rfl) rfl ?_
  refine w_iconst (v := 0) (zat TX5_init 11 rfl) (by decide) ?_
  refine w_putI (zat TX5_init 12 rfl) gX5_init_18 s58 (by decide) (by decide) rfl ⟨rfl, rfl⟩ ?_
  refine w_aload_n (zat TX5_init 13 rfl) rfl ?_
  refine w_iload_n (zat TX5_init 14 rfl) rfl ?_
  refine w_putI (zat TX5_init 15 rfl) gX5_init_22 s58 (by decide) (by decide) rfl ⟨rfl, rfl⟩ ?_
  refine w_aload_n (zat TX5_init 16 rfl) rfl ?_
  refine w_iload_n (zat TX5_init 17 rfl) rfl ?_
  refine w_putI (zat TX5_init 18 rfl) gX5_init_25 s58 (by decide) (by decide) rfl ⟨rfl, rfl⟩ ?_
  refine w_return (zat TX5_init 19 rfl) rfl ?_
  exact ⟨rfl, rfl⟩
theorem qX0_init (l : Launch) (h : zH) (i : Nat) (a b r : Int32) : Cx l 1 mX0_init [Vq (some (59, i)), Vi a, Vi b, Vi r] h R0 (bNew h i a b r) := by
  refine Ct.in 0 kX0_init (plainFor_of_name rfl) (Nat.le_of_ble_eq_true rfl) ?_
  refine w_aload_n (zat TX0_init 0 rfl) rfl ?_
  refine w_objInit (zat TX0_init 1 rfl) zw417 zw94 zw95 (Nat.le_of_ble_eq_true rfl) (by decide) ?_
  refine w_aload_n (zat TX0_init 2 rfl) rfl ?_
  refine w_iconst (v := 0) (zat TX0_init 3 rfl) (by decide) ?_
  refine w_putI (zat TX0_init 4 rfl) gX0_init_7 s59 (by decide) (by decide) rfl ⟨rfl, rfl⟩ ?_
  refine w_aload_n (zat TX0_init 5 rfl) rfl ?_
  refine w_iload_n (zat TX0_init 6 rfl) rfl ?_
  refine w_putI (zat TX0_init 7 rfl) gX0_init_13 s59 (by decide) (by decide) rfl ⟨rfl, rfl⟩ ?_
  refine w_aload_n (zat TX0_init 8 rfl) rfl ?_
  refine w_iload_n (zat TX0_init 9 rfl) rfl ?_
  refine w_putI (zat TX0_init 10 rfl) gX0_init_16 s59 (by decide) (by decide) rfl ⟨rfl, rfl⟩ ?_
  refine w_aload_n (zat TX0_init 11 rfl) rfl ?_
  refine w_iload_n (zat TX0_init 12 rfl) rfl ?_
  refine w_putI (zat TX0_init 13 rfl) gX0_init_19 s59 (by decide) (by decide) rfl ⟨rfl, rfl⟩ ?_
  refine w_return (zat TX0_init 14 rfl) rfl ?_
  exact ⟨rfl, rfl⟩
theorem qX7_init (l : Launch) (h : zH) (i : Nat) (a : Int32) : Cx l 1 mX7_init [Vq (some (61, i)), Vi a] h R0 (sNew h i a) := by
  refine Ct.in 0 kX7_init (plainFor_of_name rfl) (Nat.le_of_ble_eq_true rfl) ?_
  refine w_aload_n (zat TX7_init 0 rfl) rfl ?_
  refine w_objInit (zat TX7_init 1 rfl) zw857 zw94 zw95 (Nat.le_of_ble_eq_true rfl) (by decide) ?_
  refine w_aload_n (zat TX7_init 2 rfl) rfl ?_
  refine w_iconst (v := 0) (zat TX7_init 3 rfl) (by decide) ?_
  refine w_putI (zat TX7_init 4 rfl) gX7_init_7 s61 (by decide) (by decide) rfl ⟨rfl, rfl⟩ ?_
  refine w_aload_n (zat TX7_init 5 rfl) rfl ?_
  refine w_iconst (v := 0) (zat TX7_init 6 rfl) (by decide) ?_
  refine w_putI (zat TX7_init 7 rfl) gX7_init_13 s61 (by decide) (by decide) rfl ⟨rfl, rfl⟩ ?_
  refine w_aload_n (zat TX7_init 8 rfl) rfl ?_
  refine w_iconst (v := 0) (zat TX7_init 9 rfl) (by decide) ?_
  refine w_putI (zat TX7_init 10 rfl) gX7_init_16 s61 (by decide) (by decide) rfl ⟨rfl, rfl⟩ ?_
  refine w_aload_n (zat TX7_init 11 rfl) rfl ?_
  refine w_iconst (v := 0) (zat TX7_init 12 rfl) (by decide) ?_
  refine w_putI (zat TX7_init 13 rfl) gX7_init_19 s61 (by decide) (by decide) rfl ⟨rfl, rfl⟩ ?_
  refine w_aload_n (zat TX7_init 14 rfl) rfl ?_
  refine w_lconst (v := 0) (zat TX7_init 15 rfl) (by decide) ?_
  refine w_putL (zat TX7_init 16 rfl) gX7_init_23 s61 (by decide) (by decide) rfl ⟨rfl, rfl⟩ ?_
  refine w_aload_n (zat TX7_init 17 rfl) rfl ?_
  refine w_iload_n (zat TX7_init 18 rfl) rfl ?_
  refine w_putI (zat TX7_init 19 rfl) gX7_init_27 s61 (by decide) (by decide) rfl ⟨rfl, rfl⟩ ?_
  refine w_return (zat TX7_init 20 rfl) rfl ?_
  exact ⟨rfl, rfl⟩
theorem qX1_init (l : Launch) (h : zH) (i : Nat) (p y : Int32) (r : zRf) : Cx l 1 mX1_init [Vq (some (60, i)), Vi p, Vi y, Vq (some r)] h R0 (eNew h i p y r) := by
  refine Ct.in 0 kX1_init (plainFor_of_name rfl) (Nat.le_of_ble_eq_true rfl) ?_
  refine w_aload_n (zat TX1_init 0 rfl) rfl ?_
  refine w_objInit (zat TX1_init 1 rfl) zw614 zw94 zw95 (Nat.le_of_ble_eq_true rfl) (by decide) ?_
  refine w_aload_n (zat TX1_init 2 rfl) rfl ?_
  refine w_iload_n (zat TX1_init 3 rfl) rfl ?_
  refine w_putI (zat TX1_init 4 rfl) gX1_init_7 s60 (by decide) (by decide) rfl ⟨rfl, rfl⟩ ?_
  refine w_aload_n (zat TX1_init 5 rfl) rfl ?_
  refine w_iload_n (zat TX1_init 6 rfl) rfl ?_
  refine w_putI (zat TX1_init 7 rfl) gX1_init_13 s60 (by decide) (by decide) rfl ⟨rfl, rfl⟩ ?_
  refine w_aload_n (zat TX1_init 8 rfl) rfl ?_
  refine w_aload_n (zat TX1_init 9 rfl) rfl ?_
  refine w_putR (zat TX1_init 10 rfl) gX1_init_16 s60 (by decide) (by decide) rfl (fun x => by cases x <;> exact ⟨rfl, rfl⟩) ?_
  refine w_return (zat TX1_init 11 rfl) rfl ?_
  exact ⟨rfl, rfl⟩
theorem qX5_forgetFrom (l : Launch) (h : zH) (i : Nat) (y : Int32) : Cx l 2 mX5_forgetFrom [Vq (some (58, i)), Vi y] h R0 (zsI h 58 i 4 (if y < zI h 58 i 4 then y else zI h 58 i 4)) := by
  refine Ct.in 0 kX5_forgetFrom (plainFor_of_name rfl) (Nat.le_of_ble_eq_true rfl) ?_
  refine w_aload_n (zat TX5_forgetFrom 0 rfl) rfl ?_
  refine w_aload_n (zat TX5_forgetFrom 1 rfl) rfl ?_
  refine w_getI (zat TX5_forgetFrom 2 rfl) fX5_18 s58 (by decide) (by decide) rfl ?_
  refine w_iload_n (zat TX5_forgetFrom 3 rfl) rfl ?_
  refine x_callv2 (qJ9_min_7cf53 l _ _ _) (by decide) kJ9_min_7cf53 (rdy_S (zat TX5_forgetFrom 4 rfl) kJ9_min_7cf53 pJ9_min_7cf53 zw402 zw403) (Nat.le_of_ble_eq_true rfl) rfl rfl ?_
  refine w_putI (zat TX5_forgetFrom 5 rfl) gX5_forgetFrom_18 s58 (by decide) (by decide) rfl ⟨rfl, rfl⟩ ?_
  refine w_return (zat TX5_forgetFrom 6 rfl) rfl ?_
  exact ⟨rfl, rfl⟩
def sMis (h : zH) (i : Nat) : Int32 := zI h 61 i 0 + zI h 61 i 1 - zI h 61 i 2 - zI h 61 i 3
theorem qX7_missingThisYear (l : Launch) (h : zH) (i : Nat) : Cx l 1 mX7_missingThisYear [Vq (some (61, i))] h (Rv (Vi (sMis h i))) h := by
  refine Ct.in 0 kX7_missingThisYear (plainFor_of_name rfl) (Nat.le_of_ble_eq_true rfl) ?_
  refine w_aload_n (zat TX7_missingThisYear 0 rfl) rfl ?_
  refine w_getI (zat TX7_missingThisYear 1 rfl) fX7_27 s61 (by decide) (by decide) rfl ?_
  refine w_aload_n (zat TX7_missingThisYear 2 rfl) rfl ?_
  refine w_getI (zat TX7_missingThisYear 3 rfl) fX7_7 s61 (by decide) (by decide) rfl ?_
  refine w_iadd (zat TX7_missingThisYear 4 rfl) ?_
  refine w_aload_n (zat TX7_missingThisYear 5 rfl) rfl ?_
  refine w_getI (zat TX7_missingThisYear 6 rfl) fX7_13 s61 (by decide) (by decide) rfl ?_
  refine w_isub (zat TX7_missingThisYear 7 rfl) ?_
  refine w_aload_n (zat TX7_missingThisYear 8 rfl) rfl ?_
  refine w_getI (zat TX7_missingThisYear 9 rfl) fX7_16 s61 (by decide) (by decide) rfl ?_
  refine w_isub (zat TX7_missingThisYear 10 rfl) ?_
  refine w_ireturn (zat TX7_missingThisYear 11 rfl) rfl rfl ?_
  exact ⟨rfl, rfl⟩
def sClose (h : zH) (i : Nat) : zH := zsI (zsI (zsI (zsI (zsL h 61 i 5 (zL h 61 i 5 + (sMis h i).toInt64)) 61 i 0 (zI h 61 i 3)) 61 i 1 0) 61 i 2 0) 61 i 4 0
theorem qX7_closeYear (l : Launch) (h : zH) (i : Nat) : Cx l 2 mX7_closeYear [Vq (some (61, i))] h R0 (sClose h i) := by
  refine Ct.in 0 kX7_closeYear (plainFor_of_name rfl) (Nat.le_of_ble_eq_true rfl) ?_
  refine w_aload_n (zat TX7_closeYear 0 rfl) rfl ?_
  refine w_dup (zat TX7_closeYear 1 rfl) rfl ?_
  refine w_getL (zat TX7_closeYear 2 rfl) fX7_23 s61 (by decide) (by decide) rfl ?_
  refine w_aload_n (zat TX7_closeYear 3 rfl) rfl ?_
  refine x_callv1 (qX7_missingThisYear l _ _) (by decide) kX7_missingThisYear (rdy_V (zat TX7_closeYear 4 rfl) kX7_missingThisYear pX7_missingThisYear zw844 zw845 zw846 (zrc (by decide) (by decide) rfl)) (Nat.le_of_ble_eq_true rfl) rfl rfl ?_
  refine w_i2l (zat TX7_closeYear 5 rfl) ?_
  refine w_ladd (zat TX7_closeYear 6 rfl) ?_
  refine w_putL (zat TX7_closeYear 7 rfl) gX7_closeYear_23 s61 (by decide) (by decide) rfl ⟨rfl, rfl⟩ ?_
  refine w_aload_n (zat TX7_closeYear 8 rfl) rfl ?_
  refine w_aload_n (zat TX7_closeYear 9 rfl) rfl ?_
  refine y_getI (v := zI h 61 i 3) (zat TX7_closeYear 10 rfl) fX7_16 s61 (by decide) (by decide) rfl rfl ?_
  refine w_putI (zat TX7_closeYear 11 rfl) gX7_closeYear_27 s61 (by decide) (by decide) rfl ⟨rfl, rfl⟩ ?_
  refine w_aload_n (zat TX7_closeYear 12 rfl) rfl ?_
  refine w_iconst (v := 0) (zat TX7_closeYear 13 rfl) (by decide) ?_
  refine w_putI (zat TX7_closeYear 14 rfl) gX7_closeYear_7 s61 (by decide) (by decide) rfl ⟨rfl, rfl⟩ ?_
  refine w_aload_n (zat TX7_closeYear 15 rfl) rfl ?_
  refine w_iconst (v := 0) (zat TX7_closeYear 16 rfl) (by decide) ?_
  refine w_putI (zat TX7_closeYear 17 rfl) gX7_closeYear_13 s61 (by decide) (by decide) rfl ⟨rfl, rfl⟩ ?_
  refine w_aload_n (zat TX7_closeYear 18 rfl) rfl ?_
  refine w_iconst (v := 0) (zat TX7_closeYear 19 rfl) (by decide) ?_
  refine w_putI (zat TX7_closeYear 20 rfl) gX7_closeYear_19 s61 (by decide) (by decide) rfl ⟨rfl, rfl⟩ ?_
  refine w_return (zat TX7_closeYear 21 rfl) rfl ?_
  exact ⟨rfl, rfl⟩
theorem qX8_hasRoom (l : Launch) (h : zH) (n : Nat) (hT : zI h 53 0 1 = nI n) (hn : n ≤ 300) : Cx l 1 mX8_hasRoom [Vq (some (53, 0))] h (Rv (Vi (zb (n + 20 ≤ 300)))) h := by
  refine Ct.in 0 kX8_hasRoom (plainFor_of_name rfl) (Nat.le_of_ble_eq_true rfl) ?_
  refine w_aload_n (zat TX8_hasRoom 0 rfl) rfl ?_
  refine y_getI (v := nI n) (zat TX8_hasRoom 1 rfl) fX8_15 s53 (by decide) (by decide) rfl hT ?_
  refine w_bipush (v := 20) (zat TX8_hasRoom 2 rfl) (by decide) ?_
  refine w_iadd (zat TX8_hasRoom 3 rfl) ?_
  refine w_sipush (v := 300) (zat TX8_hasRoom 4 rfl) (by decide) ?_
  rw [show nI n + 20 = nI (n + 20) from nI_add n 20, show ((300 : Int32)) = nI 300 from rfl]
  refine w_icmp_gt 17 (zat TX8_hasRoom 5 rfl) (by decide) (fun Hc10 => ?_) (fun Hc10 => ?_)
  · rw [nI_ltI (by decide) (by omega)] at Hc10
    refine w_iconst (v := 0) (zat TX8_hasRoom 8 rfl) (by decide) ?_
    refine w_ireturn (zat TX8_hasRoom 9 rfl) rfl rfl ?_
    exact ⟨by rw [zb_f (by omega)], rfl⟩
  · rw [nI_ltI (by decide) (by omega)] at Hc10
    refine w_iconst (v := 1) (zat TX8_hasRoom 6 rfl) (by decide) ?_
    refine w_goto 18 (zat TX8_hasRoom 7 rfl) (by decide) ?_
    refine w_ireturn (zat TX8_hasRoom 9 rfl) rfl rfl ?_
    exact ⟨by rw [zb_t (by omega)], rfl⟩
def aStep (h : zH) (n : Nat) (v s : Int32) : zH := zsI (zsI h 79 0 n (vp_nar .byte (v >>> (s &&& 31)).toInt8.toInt32)) 53 0 1 (nI (n + 1))
def aH (h : zH) (n : Nat) (v : Int32) : zH := aStep (aStep (aStep (aStep h n v 24) (n + 1) v 16) (n + 2) v 8) (n + 3) v 0
theorem sX8_append (l : Launch) (h : zH) (hW : Wc h) (Q : zO → zH → Prop) (v s s2 : Int32) (n : Nat) (hT : zI h 53 0 1 = nI n) (hn : n < 300) (hs : ¬ s < 0) (he : s + Int32.ofInt (-8) = s2) (K : Wp l mX8_append 1 3 [some (Vq (some (53, 0))), some (Vi v), some (Vi s2)] [] (aStep h n v s) Q) : Wp l mX8_append 1 3 [some (Vq (some (53, 0))), some (Vi v), some (Vi s)] [] h Q := by
  refine w_iload_n (zat TX8_append 2 rfl) rfl ?_
  refine w_if_lt 46 (zat TX8_append 3 rfl) (by decide) (fun Hc4 => ?_) (fun Hc4 => ?_)
  · exact absurd Hc4 hs
  · refine w_aload_n (zat TX8_append 4 rfl) rfl ?_
    refine y_getI (v := nI n) (zat TX8_append 5 rfl) fX8_15 s53 (by decide) (by decide) rfl hT ?_
    refine w_sipush (v := 300) (zat TX8_append 6 rfl) (by decide) ?_
    rw [show ((300 : Int32)) = nI 300 from rfl]
    refine w_icmp_ge 46 (zat TX8_append 7 rfl) (by decide) (fun Hc14 => ?_) (fun Hc14 => ?_)
    · exact absurd Hc14 (nI_ge hn (by decide))
    · refine w_aload_n (zat TX8_append 8 rfl) rfl ?_
      refine w_getR (zat TX8_append 9 rfl) fX8_9 s53 (by decide) (by decide) rfl (wcr hW 8 rfl) ?_
      refine w_aload_n (zat TX8_append 10 rfl) rfl ?_
      refine y_getI (v := nI n) (zat TX8_append 11 rfl) fX8_15 s53 (by decide) (by decide) rfl hT ?_
      refine w_iload_n (zat TX8_append 12 rfl) rfl ?_
      refine w_iload_n (zat TX8_append 13 rfl) rfl ?_
      refine w_ishr (zat TX8_append 14 rfl) ?_
      refine w_i2b (zat TX8_append 15 rfl) ?_
      refine x_bastore _ _ (zat TX8_append 16 rfl) s79 (by decide) (wcn hW 15 rfl) (by decide) rfl hn ?_
      refine w_aload_n (zat TX8_append 17 rfl) rfl ?_
      refine w_dup (zat TX8_append 18 rfl) rfl ?_
      refine y_getI (v := nI n) (zat TX8_append 19 rfl) fX8_15 s53 (by decide) (by decide) rfl hT ?_
      refine w_iconst (v := 1) (zat TX8_append 20 rfl) (by decide) ?_
      refine w_iadd (zat TX8_append 21 rfl) ?_
      rw [nI_1]
      refine w_putI (zat TX8_append 22 rfl) gX8_append_15 s53 (by decide) (by decide) rfl ⟨rfl, rfl⟩ ?_
      refine x_iinc (v := s2) (ls2 := [_, _, _]) (zat TX8_append 23 rfl) rfl he rfl ?_
      refine w_goto 3 (zat TX8_append 24 rfl) (by decide) ?_
      exact K
theorem qX8_append (l : Launch) (h : zH) (hW : Wc h) (v : Int32) (n : Nat) (hT : zI h 53 0 1 = nI n) (hn : n + 4 ≤ 300) : Cx l 1 mX8_append [Vq (some (53, 0)), Vi v] h R0 (aH h n v) := by
  refine Ct.in 1 kX8_append (plainFor_of_name rfl) (Nat.le_of_ble_eq_true rfl) ?_
  refine w_bipush (v := 24) (zat TX8_append 0 rfl) (by decide) ?_
  refine x_istore_n (ls2 := [_, _, _]) (zat TX8_append 1 rfl) (by decide) rfl ?_
  refine sX8_append l h hW _ v 24 16 n hT (by omega) (by decide) (by decide) ?_
  refine sX8_append l (aStep h n v 24) hW _ v 16 8 (n + 1) (zI_same _ 53 0 1 _) (by omega) (by decide) (by decide) ?_
  refine sX8_append l (aStep (aStep h n v 24) (n + 1) v 16) hW _ v 8 0 (n + 2) (zI_same _ 53 0 1 _) (by omega) (by decide) (by decide) ?_
  refine sX8_append l (aStep (aStep (aStep h n v 24) (n + 1) v 16) (n + 2) v 8) hW _ v 0 (-8) (n + 3) (zI_same _ 53 0 1 _) (by omega) (by decide) (by decide) ?_
  refine w_iload_n (zat TX8_append 2 rfl) rfl ?_
  refine w_if_lt 46 (zat TX8_append 3 rfl) (by decide) (fun Hc4 => ?_) (fun Hc4 => ?_)
  · refine w_return (zat TX8_append 25 rfl) rfl ?_
    exact ⟨rfl, rfl⟩
  · exact absurd (by decide) Hc4
theorem qX2_isFull (l : Launch) (h : zH) (n : Nat) (hn : zI h 55 0 2 = nI n) (h2 : n ≤ 30) : Cx l 1 mX2_isFull [Vq (some (55, 0))] h (Rv (Vi (zb (n = 30)))) h := by
  refine Ct.in 0 kX2_isFull (plainFor_of_name rfl) (Nat.le_of_ble_eq_true rfl) ?_
  refine w_aload_n (zat TX2_isFull 0 rfl) rfl ?_
  refine y_getI (v := nI n) (zat TX2_isFull 1 rfl) fX2_24 s55 (by decide) (by decide) rfl hn ?_
  refine w_bipush (v := 30) (zat TX2_isFull 2 rfl) (by decide) ?_
  rw [show ((30 : Int32)) = nI 30 from rfl]
  refine w_icmp_lt 13 (zat TX2_isFull 3 rfl) (by decide) (fun Hc6 => ?_) (fun Hc6 => ?_)
  · rw [nI_ltI (by omega) (by decide)] at Hc6
    refine w_iconst (v := 0) (zat TX2_isFull 6 rfl) (by decide) ?_
    refine w_ireturn (zat TX2_isFull 7 rfl) rfl rfl ?_
    exact ⟨by rw [zb_f (by omega)], rfl⟩
  · rw [nI_ltI (by omega) (by decide)] at Hc6
    refine w_iconst (v := 1) (zat TX2_isFull 4 rfl) (by decide) ?_
    refine w_goto 14 (zat TX2_isFull 5 rfl) (by decide) ?_
    refine w_ireturn (zat TX2_isFull 7 rfl) rfl rfl ?_
    exact ⟨by rw [zb_t (by omega)], rfl⟩
theorem qX2_add (l : Launch) (h : zH) (hW : Wc h) (n i : Nat) (hn : zI h 55 0 2 = nI n) (h2 : n < 30) : Cx l 2 mX2_add [Vq (some (55, 0)), Vq (some (60, i))] h (Rv (Vi (nI n))) (zsI (zsR h 62 0 n (some (60, i))) 55 0 2 (nI (n + 1))) := by
  refine Ct.in 0 kX2_add (plainFor_of_name rfl) (Nat.le_of_ble_eq_true rfl) ?_
  refine w_aload_n (zat TX2_add 0 rfl) rfl ?_
  refine x_callv1 (qX2_isFull l _ n hn (by omega)) (by decide) kX2_isFull (rdy_V (zat TX2_add 1 rfl) kX2_isFull pX2_isFull zw632 zw599 zw600 (zrc (by decide) (by decide) rfl)) (Nat.le_of_ble_eq_true rfl) rfl rfl ?_
  refine w_if_eq 9 (zat TX2_add 2 rfl) (by decide) (fun Hc4 => ?_) (fun Hc4 => ?_)
  · refine w_aload_n (zat TX2_add 5 rfl) rfl ?_
    refine w_getR (zat TX2_add 6 rfl) fX2_11 s55 (by decide) (by decide) rfl (wcr hW 11 rfl) ?_
    refine w_aload_n (zat TX2_add 7 rfl) rfl ?_
    refine y_getI (v := nI n) (zat TX2_add 8 rfl) fX2_24 s55 (by decide) (by decide) rfl hn ?_
    refine w_aload_n (zat TX2_add 9 rfl) rfl ?_
    refine x_aastore _ _ (zat TX2_add 10 rfl) s62 (by decide) s60 (by decide) (by show 60 < 900; decide) (wcn hW 3 rfl) (by decide) rfl (by omega) ?_
    refine w_aload_n (zat TX2_add 11 rfl) rfl ?_
    refine w_dup (zat TX2_add 12 rfl) rfl ?_
    refine y_getI (v := nI n) (zat TX2_add 13 rfl) fX2_24 s55 (by decide) (by decide) rfl hn ?_
    refine w_iconst (v := 1) (zat TX2_add 14 rfl) (by decide) ?_
    refine w_iadd (zat TX2_add 15 rfl) ?_
    rw [nI_1]
    refine w_putI (zat TX2_add 16 rfl) gX2_add_24 s55 (by decide) (by decide) rfl ⟨rfl, rfl⟩ ?_
    refine w_aload_n (zat TX2_add 17 rfl) rfl ?_
    refine y_getI (v := nI (n + 1)) (zat TX2_add 18 rfl) fX2_24 s55 (by decide) (by decide) rfl (zI_same _ 55 0 2 _) ?_
    refine w_iconst (v := 1) (zat TX2_add 19 rfl) (by decide) ?_
    refine w_isub (zat TX2_add 20 rfl) ?_
    rw [show nI (n + 1) - 1 = nI n from nI_pred n]
    refine w_ireturn (zat TX2_add 21 rfl) rfl rfl ?_
    exact ⟨rfl, rfl⟩
  · exact absurd (zb_n.mp Hc4) (by omega)
def cP (h : zH) (e : Nat) : Int32 := zI h 60 e 0
def cY (h : zH) (e : Nat) : Int32 := zI h 60 e 1
def mSi (eP eY : Nat → Int32) (p y : Int32) (s : Nat) : Int32 := if mF eP eY p y s = -2 then 0 else eY (mF eP eY p y s).toNatClampNeg
theorem lX2_numberInForce (l : Launch) (h : zH) (hW : Wc h) (p y : Int32) (nE : Nat) (hE : zI h 55 0 2 = nI nE) (hE2 : nE ≤ 30) (hE3 : zC h 60 = nE) (hY : ∀ e, e < nE → 0 ≤ cY h e) : ∀ kk s : Nat, s + kk = nE → ∀ x : Option zV, Wp l mX2_numberInForce 1 9 [some (Vq (some (55, 0))), some (Vi p), some (Vi y), some (Vi (mF (cP h) (cY h) p y s)), some (Vi (mSi (cP h) (cY h) p y s)), some (Vi (nI s)), x] [] h (fun o h' => o = Rv (Vi (mF (cP h) (cY h) p y nE)) ∧ h' = h) := by
  intro kk
  induction kk with
  | zero =>
    intro s hs x
    refine w_iload (zat TX2_numberInForce 6 rfl) rfl ?_
    refine w_aload_n (zat TX2_numberInForce 7 rfl) rfl ?_
    refine y_getI (v := nI nE) (zat TX2_numberInForce 8 rfl) fX2_24 s55 (by decide) (by decide) rfl hE ?_
    refine w_icmp_ge 71 (zat TX2_numberInForce 9 rfl) (by decide) (fun Hc15 => ?_) (fun Hc15 => ?_)
    · refine w_iload_n (zat TX2_numberInForce 34 rfl) rfl ?_
      refine w_ireturn (zat TX2_numberInForce 35 rfl) rfl rfl ?_
      exact ⟨by rw [show s = nE by omega], rfl⟩
    · exact absurd (nI_le (by omega) (by omega)) Hc15
  | succ kk ih =>
    intro s hs x
    refine w_iload (zat TX2_numberInForce 6 rfl) rfl ?_
    refine w_aload_n (zat TX2_numberInForce 7 rfl) rfl ?_
    refine y_getI (v := nI nE) (zat TX2_numberInForce 8 rfl) fX2_24 s55 (by decide) (by decide) rfl hE ?_
    refine w_icmp_ge 71 (zat TX2_numberInForce 9 rfl) (by decide) (fun Hc15 => ?_) (fun Hc15 => ?_)
    · exact absurd Hc15 (nI_ge (by omega) (by omega))
    · refine w_aload_n (zat TX2_numberInForce 10 rfl) rfl ?_
      refine w_getR (zat TX2_numberInForce 11 rfl) fX2_11 s55 (by decide) (by decide) rfl (wcr hW 11 rfl) ?_
      refine w_iload (zat TX2_numberInForce 12 rfl) rfl ?_
      refine x_aaload _ _ (zat TX2_numberInForce 13 rfl) (by decide) (by decide) ⟨_, rfl⟩ (wcn hW 3 rfl) (by decide) rfl (by omega) ((hW.2.2.2.2.2.2 s (by omega)).1) ?_
      refine x_astore (ls2 := [_, _, _, _, _, _, _]) (zat TX2_numberInForce 14 rfl) (by decide) rfl ?_
      refine w_aload (zat TX2_numberInForce 15 rfl) rfl ?_
      refine y_getI (v := cP h s) (zat TX2_numberInForce 16 rfl) fX2_32 s60 (by decide) (by decide) rfl rfl ?_
      refine w_iload_n (zat TX2_numberInForce 17 rfl) rfl ?_
      refine w_icmp_ne 65 (zat TX2_numberInForce 18 rfl) (by decide) (fun Hc33 => ?_) (fun Hc33 => ?_)
      · have Hm : mF (cP h) (cY h) p y (s + 1) = mF (cP h) (cY h) p y s := by rw [mF, if_neg (fun q => Hc33 q.1)]
        have Hn : mSi (cP h) (cY h) p y (s + 1) = mSi (cP h) (cY h) p y s := by rw [mSi, mSi, Hm]
        refine x_iinc (v := nI (s + 1)) (ls2 := [_, _, _, _, _, _, _]) (zat TX2_numberInForce 32 rfl) rfl (nI_inc s) rfl ?_
        refine w_goto 9 (zat TX2_numberInForce 33 rfl) (by decide) ?_
        have Hi := ih (s + 1) (by omega) (some (Vq (some (60, s))))
        rw [Hm, Hn] at Hi
        exact Hi
      · refine w_aload (zat TX2_numberInForce 19 rfl) rfl ?_
        refine y_getI (v := cY h s) (zat TX2_numberInForce 20 rfl) fX2_35 s60 (by decide) (by decide) rfl rfl ?_
        refine w_iload_n (zat TX2_numberInForce 21 rfl) rfl ?_
        refine w_icmp_gt 65 (zat TX2_numberInForce 22 rfl) (by decide) (fun Hc42 => ?_) (fun Hc42 => ?_)
        · have Hm : mF (cP h) (cY h) p y (s + 1) = mF (cP h) (cY h) p y s := by rw [mF, if_neg (fun q => Int32.not_lt.mpr q.2.1 Hc42)]
          have Hn : mSi (cP h) (cY h) p y (s + 1) = mSi (cP h) (cY h) p y s := by rw [mSi, mSi, Hm]
          refine x_iinc (v := nI (s + 1)) (ls2 := [_, _, _, _, _, _, _]) (zat TX2_numberInForce 32 rfl) rfl (nI_inc s) rfl ?_
          refine w_goto 9 (zat TX2_numberInForce 33 rfl) (by decide) ?_
          have Hi := ih (s + 1) (by omega) (some (Vq (some (60, s))))
          rw [Hm, Hn] at Hi
          exact Hi
        · rw [Int32.not_lt] at Hc42
          refine w_aload (zat TX2_numberInForce 23 rfl) rfl ?_
          refine y_getI (v := cY h s) (zat TX2_numberInForce 24 rfl) fX2_35 s60 (by decide) (by decide) rfl rfl ?_
          refine w_iload (zat TX2_numberInForce 25 rfl) rfl ?_
          refine w_icmp_lt 65 (zat TX2_numberInForce 26 rfl) (by decide) (fun Hc52 => ?_) (fun Hc52 => ?_)
          · have Hm : mF (cP h) (cY h) p y (s + 1) = mF (cP h) (cY h) p y s := by rw [mF, if_neg (fun q => by
              have Hz := Hc52
              rw [mSi] at Hz
              rcases q.2.2 with z | z
              · rw [if_pos z] at Hz
                exact Int32.not_lt.mpr (hY s (by omega)) Hz
              · by_cases z2 : mF (cP h) (cY h) p y s = -2
                · rw [if_pos z2] at Hz
                  exact Int32.not_lt.mpr (hY s (by omega)) Hz
                · rw [if_neg z2] at Hz
                  exact Int32.not_lt.mpr z Hz)]
            have Hn : mSi (cP h) (cY h) p y (s + 1) = mSi (cP h) (cY h) p y s := by rw [mSi, mSi, Hm]
            refine x_iinc (v := nI (s + 1)) (ls2 := [_, _, _, _, _, _, _]) (zat TX2_numberInForce 32 rfl) rfl (nI_inc s) rfl ?_
            refine w_goto 9 (zat TX2_numberInForce 33 rfl) (by decide) ?_
            have Hi := ih (s + 1) (by omega) (some (Vq (some (60, s))))
            rw [Hm, Hn] at Hi
            exact Hi
          · rw [Int32.not_lt] at Hc52
            have Hz : mF (cP h) (cY h) p y s = -2 ∨ cY h (mF (cP h) (cY h) p y s).toNatClampNeg ≤ cY h s := by
              rw [mSi] at Hc52
              by_cases z2 : mF (cP h) (cY h) p y s = -2
              · exact Or.inl z2
              · rw [if_neg z2] at Hc52
                exact Or.inr Hc52
            have Hm : mF (cP h) (cY h) p y (s + 1) = nI s := by rw [mF, if_pos ⟨Hc33, Hc42, Hz⟩]
            have Hn : mSi (cP h) (cY h) p y (s + 1) = cY h s := by rw [mSi, Hm, if_neg (nI_ne2 s (by omega)), nI_clamp (by omega)]
            refine w_iload (zat TX2_numberInForce 27 rfl) rfl ?_
            refine x_istore_n (ls2 := [_, _, _, _, _, _, _]) (zat TX2_numberInForce 28 rfl) (by decide) rfl ?_
            refine w_aload (zat TX2_numberInForce 29 rfl) rfl ?_
            refine y_getI (v := cY h s) (zat TX2_numberInForce 30 rfl) fX2_35 s60 (by decide) (by decide) rfl rfl ?_
            refine x_istore (ls2 := [_, _, _, _, _, _, _]) (zat TX2_numberInForce 31 rfl) (by decide) rfl ?_
            refine x_iinc (v := nI (s + 1)) (ls2 := [_, _, _, _, _, _, _]) (zat TX2_numberInForce 32 rfl) rfl (nI_inc s) rfl ?_
            refine w_goto 9 (zat TX2_numberInForce 33 rfl) (by decide) ?_
            have Hi := ih (s + 1) (by omega) (some (Vq (some (60, s))))
            rw [Hm, Hn] at Hi
            exact Hi
theorem qX2_numberInForce (l : Launch) (h : zH) (hW : Wc h) (p y : Int32) (nE : Nat) (hE : zI h 55 0 2 = nI nE) (hE2 : nE ≤ 30) (hE3 : zC h 60 = nE) (hY : ∀ e, e < nE → 0 ≤ cY h e) : Cx l 1 mX2_numberInForce [Vq (some (55, 0)), Vi p, Vi y] h (Rv (Vi (mF (cP h) (cY h) p y nE))) h := by
  refine Ct.in 4 kX2_numberInForce (plainFor_of_name rfl) (Nat.le_of_ble_eq_true rfl) ?_
  refine w_bipush (v := -2) (zat TX2_numberInForce 0 rfl) (by decide) ?_
  refine x_istore_n (ls2 := [_, _, _, _, _, _, _]) (zat TX2_numberInForce 1 rfl) (by decide) rfl ?_
  refine w_iconst (v := 0) (zat TX2_numberInForce 2 rfl) (by decide) ?_
  refine x_istore (ls2 := [_, _, _, _, _, _, _]) (zat TX2_numberInForce 3 rfl) (by decide) rfl ?_
  refine w_iconst (v := 0) (zat TX2_numberInForce 4 rfl) (by decide) ?_
  refine x_istore (ls2 := [_, _, _, _, _, _, _]) (zat TX2_numberInForce 5 rfl) (by decide) rfl ?_
  exact lX2_numberInForce l h hW p y nE hE hE2 hE3 hY nE 0 (by omega) _
theorem lX11_guardsInAll (l : Launch) (h : zH) (hW : Wc h) (nB : Nat) (hB : zI h 0 0 9 = nI nB) (hB2 : nB ≤ 16) (hB3 : zC h 59 = nB) : ∀ kk s : Nat, s + kk = nB → Wp l mX11_guardsInAll 1 4 [some (Vq (some (0, 0))), some (Vi (mG (fun b => zI h 59 b 3) s)), some (Vi (nI s))] [] h (fun o h' => o = Rv (Vi (mG (fun b => zI h 59 b 3) nB)) ∧ h' = h) := by
  intro kk
  induction kk with
  | zero =>
    intro s hs
    refine w_iload_n (zat TX11_guardsInAll 4 rfl) rfl ?_
    refine w_aload_n (zat TX11_guardsInAll 5 rfl) rfl ?_
    refine y_getI (v := nI nB) (zat TX11_guardsInAll 6 rfl) fX11_66 s0 (by decide) (by decide) rfl hB ?_
    refine w_icmp_ge 30 (zat TX11_guardsInAll 7 rfl) (by decide) (fun Hc9 => ?_) (fun Hc9 => ?_)
    · refine w_iload_n (zat TX11_guardsInAll 18 rfl) rfl ?_
      refine w_ireturn (zat TX11_guardsInAll 19 rfl) rfl rfl ?_
      exact ⟨by rw [show s = nB by omega], rfl⟩
    · exact absurd (nI_le (by omega) (by omega)) Hc9
  | succ kk ih =>
    intro s hs
    refine w_iload_n (zat TX11_guardsInAll 4 rfl) rfl ?_
    refine w_aload_n (zat TX11_guardsInAll 5 rfl) rfl ?_
    refine y_getI (v := nI nB) (zat TX11_guardsInAll 6 rfl) fX11_66 s0 (by decide) (by decide) rfl hB ?_
    refine w_icmp_ge 30 (zat TX11_guardsInAll 7 rfl) (by decide) (fun Hc9 => ?_) (fun Hc9 => ?_)
    · exact absurd Hc9 (nI_ge (by omega) (by omega))
    · refine w_iload_n (zat TX11_guardsInAll 8 rfl) rfl ?_
      refine w_aload_n (zat TX11_guardsInAll 9 rfl) rfl ?_
      refine w_getR (zat TX11_guardsInAll 10 rfl) fX11_17 s0 (by decide) (by decide) rfl (wcr hW 1 rfl) ?_
      refine w_iload_n (zat TX11_guardsInAll 11 rfl) rfl ?_
      refine x_aaload _ _ (zat TX11_guardsInAll 12 rfl) (by decide) (by decide) ⟨_, rfl⟩ (wcn hW 1 rfl) (by decide) rfl (by omega) (hW.2.2.2.1 s (by omega)) ?_
      refine w_getI (zat TX11_guardsInAll 13 rfl) fX11_134 s59 (by decide) (by decide) rfl ?_
      refine w_iadd (zat TX11_guardsInAll 14 rfl) ?_
      refine x_istore_n (ls2 := [_, _, _]) (zat TX11_guardsInAll 15 rfl) (by decide) rfl ?_
      refine x_iinc (v := nI (s + 1)) (ls2 := [_, _, _]) (zat TX11_guardsInAll 16 rfl) rfl (nI_inc s) rfl ?_
      refine w_goto 4 (zat TX11_guardsInAll 17 rfl) (by decide) ?_
      exact ih (s + 1) (by omega)
theorem qX11_guardsInAll (l : Launch) (h : zH) (hW : Wc h) (nB : Nat) (hB : zI h 0 0 9 = nI nB) (hB2 : nB ≤ 16) (hB3 : zC h 59 = nB) : Cx l 1 mX11_guardsInAll [Vq (some (0, 0))] h (Rv (Vi (mG (fun b => zI h 59 b 3) nB))) h := by
  refine Ct.in 2 kX11_guardsInAll (plainFor_of_name rfl) (Nat.le_of_ble_eq_true rfl) ?_
  refine w_iconst (v := 0) (zat TX11_guardsInAll 0 rfl) (by decide) ?_
  refine x_istore_n (ls2 := [_, _, _]) (zat TX11_guardsInAll 1 rfl) (by decide) rfl ?_
  refine w_iconst (v := 0) (zat TX11_guardsInAll 2 rfl) (by decide) ?_
  refine x_istore_n (ls2 := [_, _, _]) (zat TX11_guardsInAll 3 rfl) (by decide) rfl ?_
  exact lX11_guardsInAll l h hW nB hB hB2 hB3 nB 0 (by omega)
