-- the reader of the model: words, leaves, by program (wip/gen/p82.py)
/-- a word as a number, base 32 -/
def hv (f : Nat → Nat) : Nat → Nat
  | 0 => 0
  | k + 1 => 32 * hv f k + f k
theorem hv_pos {f : Nat → Nat} (hf : ∀ i, 1 ≤ f i) : ∀ m, 1 ≤ m → 1 ≤ hv f m
  | 0, h => by omega
  | m + 1, _ => by
    have := hf m
    show 1 ≤ 32 * hv f m + f m
    omega
theorem hv_one {f g : Nat → Nat} : ∀ m n, (∀ i, i < m → 1 ≤ f i ∧ f i ≤ 31) → (∀ i, i < n → 1 ≤ g i ∧ g i ≤ 31) → hv f m = hv g n → m = n ∧ ∀ i, i < m → f i = g i
  | 0, 0, _, _, _ => ⟨rfl, fun i hi => by omega⟩
  | 0, n + 1, _, hg, e => by
    have := (hg n (by omega)).1
    have e' : 0 = 32 * hv g n + g n := e
    omega
  | m + 1, 0, hf, _, e => by
    have := (hf m (by omega)).1
    have e' : 32 * hv f m + f m = 0 := e
    omega
  | m + 1, n + 1, hf, hg, e => by
    have h1 := hf m (by omega)
    have h2 := hg n (by omega)
    have e' : 32 * hv f m + f m = 32 * hv g n + g n := e
    obtain ⟨i1, i2⟩ := hv_one m n (fun i hi => hf i (by omega)) (fun i hi => hg i (by omega)) (by omega)
    refine ⟨by omega, fun i hi => ?_⟩
    by_cases q : i = m
    · have e2 : hv f m = hv g n := by omega
      have e3 : f m = g n := by omega
      rw [q, e3, i1]
    · exact i2 i (by omega)
theorem hv_c {f g : Nat → Nat} : ∀ m, (∀ i, i < m → f i = g i) → hv f m = hv g m
  | 0, _ => rfl
  | m + 1, h => by
    show 32 * hv f m + f m = 32 * hv g m + g m
    rw [hv_c m (fun i hi => h i (by omega)), h m (by omega)]
theorem hv_lt {f : Nat → Nat} : ∀ m, (∀ i, i < m → f i ≤ 31) → hv f m < 32 ^ m
  | 0, _ => Nat.one_pos
  | m + 1, h => by
    have i1 := hv_lt (f := f) m (fun i hi => h i (by omega))
    have i2 := h m (by omega)
    show 32 * hv f m + f m < 32 ^ (m + 1)
    rw [Nat.pow_succ]
    omega
theorem nJ_inj {a b : Nat} (ha : a < 2 ^ 63) (hb : b < 2 ^ 63) (h : Int64.ofNat a = Int64.ofNat b) : a = b := by
  have := congrArg Int64.toInt h
  rw [Int64.toInt_ofNat_of_lt ha, Int64.toInt_ofNat_of_lt hb] at this
  omega
/-- the digits of text j -/
def wdg (j i : Nat) : Nat := ((zbyt.getD j []).getD i 0).toNatClampNeg - 96
theorem wdg_all : ∀ j, j < 9 → ∀ i, i < zlen.getD j 0 → 1 ≤ wdg j i ∧ wdg j i ≤ 31 ∧ ((zbyt.getD j []).getD i 0 - 97 + 1).toInt64 = Int64.ofNat (wdg j i) ∧ (zbyt.getD j []).getD i 0 = nI (wdg j i + 96) := by decide +kernel
theorem ltr_all : ∀ b : Fin 123, 97 ≤ b.1 → (nI b.1 - 97 + 1).toInt64 = Int64.ofNat (b.1 - 96) := by decide +kernel
theorem ltr {b : Nat} (h : isL b) : (nI b - 97 + 1).toInt64 = Int64.ofNat (b - 96) := ltr_all ⟨b, by omega⟩ h.1
def ldg (B : Nat → Nat) (s i : Nat) : Nat := B (s + i) - 96
/-- the number of a run of letters is a text's number just where it spells the text -/
theorem word_is {B : Nat → Nat} {s e j : Nat} (hj : j < 9) (hse : s ≤ e) (h8 : e - s ≤ 8) (hl : ∀ k, s ≤ k → k < e → isL (B k)) : Int64.ofNat (hv (ldg B s) (e - s)) = Int64.ofNat (hv (wdg j) (zlen.getD j 0)) ↔ spl B s e j := by
  have hlen := slen_lt j hj
  have hd : ∀ i, i < e - s → 1 ≤ ldg B s i ∧ ldg B s i ≤ 31 := fun i hi => by
    have := hl (s + i) (by omega) (by omega)
    unfold ldg
    omega
  have hw : ∀ i, i < zlen.getD j 0 → 1 ≤ wdg j i ∧ wdg j i ≤ 31 := fun i hi => ⟨(wdg_all j hj i hi).1, (wdg_all j hj i hi).2.1⟩
  have b1 : hv (ldg B s) (e - s) < 2 ^ 63 := by
    have h1 := hv_lt (f := ldg B s) (e - s) (fun i hi => (hd i hi).2)
    have h2 : 32 ^ (e - s) ≤ 32 ^ 8 := Nat.pow_le_pow_right (by omega) h8
    omega
  have b2 : hv (wdg j) (zlen.getD j 0) < 2 ^ 63 := by
    have h1 := hv_lt (f := wdg j) (zlen.getD j 0) (fun i hi => (hw i hi).2)
    have h2 : 32 ^ (zlen.getD j 0) ≤ 32 ^ 8 := Nat.pow_le_pow_right (by omega) (by omega)
    omega
  constructor
  · intro h
    obtain ⟨i1, i2⟩ := hv_one _ _ hd hw (nJ_inj b1 b2 h)
    refine ⟨by omega, fun i hi => ?_⟩
    have h3 := i2 i (by omega)
    have h4 := hl (s + i) (by omega) (by omega)
    unfold ldg at h3
    rw [(wdg_all j hj i hi).2.2.2, sg_lo (by omega)]
    have : B (s + i) = wdg j i + 96 := by omega
    rw [this]
  · intro h
    have h1 : e - s = zlen.getD j 0 := by have := h.1; omega
    rw [h1]
    refine congrArg Int64.ofNat (hv_c _ (fun i hi => ?_))
    have h2 := h.2 i hi
    have h4 := hl (s + i) (by omega) (by omega)
    rw [(wdg_all j hj i hi).2.2.2, sg_lo (by omega)] at h2
    have := nIe (by omega) (by have := (hw i hi).2; omega) h2
    unfold ldg
    omega
/-- the byte at k, or none -/
def bA (B : Nat → Nat) (n k : Nat) : Int32 := if k < n then nI (B k) else -1
theorem bA_in {B : Nat → Nat} {n k : Nat} (h : k < n) : bA B n k = nI (B k) := if_pos h
theorem bA_out {B : Nat → Nat} {n k : Nat} (h : ¬ k < n) : bA B n k = -1 := if_neg h
theorem nI_rg {b lo hi : Nat} (hb : b < 256) (h1 : lo < 256) (h2 : hi < 256) : (nI lo ≤ nI b ∧ nI b ≤ nI hi) ↔ (lo ≤ b ∧ b ≤ hi) := by
  rw [nI_leI (by omega) (by omega), nI_leI (by omega) (by omega)]
theorem bA_L {B : Nat → Nat} {n k : Nat} (hb : ∀ k, k < n → B k < 256) : (97 ≤ bA B n k ∧ bA B n k ≤ 122) ↔ (k < n ∧ isL (B k)) := by
  by_cases h : k < n
  · rw [bA_in h]
    exact (nI_rg (lo := 97) (hi := 122) (hb k h) (by omega) (by omega)).trans ⟨fun z => ⟨h, z⟩, fun z => z.2⟩
  · rw [bA_out h]
    exact ⟨fun z => absurd z.1 (by decide), fun z => absurd z.1 h⟩
theorem bA_D {B : Nat → Nat} {n k : Nat} (hb : ∀ k, k < n → B k < 256) : (48 ≤ bA B n k ∧ bA B n k ≤ 57) ↔ (k < n ∧ isD (B k)) := by
  by_cases h : k < n
  · rw [bA_in h]
    exact (nI_rg (lo := 48) (hi := 57) (hb k h) (by omega) (by omega)).trans ⟨fun z => ⟨h, z⟩, fun z => z.2⟩
  · rw [bA_out h]
    exact ⟨fun z => absurd z.1 (by decide), fun z => absurd z.1 h⟩
theorem bA_32 {B : Nat → Nat} {n k : Nat} (hb : ∀ k, k < n → B k < 256) : bA B n k = 32 ↔ (k < n ∧ B k = 32) := by
  by_cases h : k < n
  · rw [bA_in h]
    have := hb k h
    exact ⟨fun z => ⟨h, nIe (b := 32) (by omega) (by omega) z⟩, fun z => by rw [z.2]; rfl⟩
  · rw [bA_out h]
    exact ⟨fun z => absurd z (by decide), fun z => absurd z.1 h⟩
theorem qX14_byteAt (l : Launch) (h : zH) (hWM : Wm h) (n : Nat) (B : Nat → Nat) (hX : Tx h 19 n B) (hn : zI h 1 0 20 = nI n) (k : Nat) (hk : k ≤ n) : Cx l 1 mX14_byteAt [Vq (some (1, 0)), Vi (nI k)] h (Rv (Vi (bA B n k))) h := by
  have hn3 := hX.1
  refine Ct.in 0 kX14_byteAt (plainFor_of_name rfl) (Nat.le_of_ble_eq_true rfl) ?_
  refine w_iload_n (zat TX14_byteAt 0 rfl) rfl ?_
  refine w_aload_n (zat TX14_byteAt 1 rfl) rfl ?_
  refine y_getI (v := nI n) (zat TX14_byteAt 2 rfl) fX14_145 s1 (by decide) (by decide) rfl hn ?_
  refine w_icmp_ge 21 (zat TX14_byteAt 3 rfl) (by decide) (fun Hc5 => ?_) (fun Hc5 => ?_)
  · have Hk : ¬ k < n := by have := (nI_leI (by omega) (by omega)).mp Hc5; omega
    refine w_iconst (v := -1) (zat TX14_byteAt 11 rfl) (by decide) ?_
    refine w_ireturn (zat TX14_byteAt 12 rfl) rfl rfl ?_
    exact ⟨by rw [bA_out Hk], rfl⟩
  · have Hk : k < n := Nat.lt_of_not_le (fun z => Hc5 ((nI_leI (by omega) (by omega)).mpr z))
    refine w_aload_n (zat TX14_byteAt 4 rfl) rfl ?_
    refine w_getR (zat TX14_byteAt 5 rfl) fX14_53 s1 (by decide) (by decide) rfl (wmr hWM 8 rfl) ?_
    refine w_iload_n (zat TX14_byteAt 6 rfl) rfl ?_
    refine y_baload _ _ (v := sg (B k)) (zat TX14_byteAt 7 rfl) s19 (by decide) (wmn hWM 7 rfl) (by decide) rfl (by omega) (hX.2 k Hk).1 ?_
    refine w_sipush (v := 255) (zat TX14_byteAt 8 rfl) (by decide) ?_
    refine w_iand (zat TX14_byteAt 9 rfl) ?_
    refine w_goto 22 (zat TX14_byteAt 10 rfl) (by decide) ?_
    refine w_ireturn (zat TX14_byteAt 12 rfl) rfl rfl ?_
    exact ⟨by rw [bA_in Hk, sg_and (hX.2 k Hk).2], rfl⟩
theorem qX14_isLetter (l : Launch) (h : zH) (x : Int32) : Cx l 1 mX14_isLetter [Vi x] h (Rv (Vi (zb (97 ≤ x ∧ x ≤ 122)))) h := by
  refine Ct.in 0 kX14_isLetter (plainFor_of_name rfl) (Nat.le_of_ble_eq_true rfl) ?_
  refine w_iload_n (zat TX14_isLetter 0 rfl) rfl ?_
  refine w_bipush (v := 97) (zat TX14_isLetter 1 rfl) (by decide) ?_
  refine w_icmp_lt 16 (zat TX14_isLetter 2 rfl) (by decide) (fun Hc3 => ?_) (fun Hc3 => ?_)
  · refine w_iconst (v := 0) (zat TX14_isLetter 8 rfl) (by decide) ?_
    refine w_ireturn (zat TX14_isLetter 9 rfl) rfl rfl ?_
    exact ⟨congrArg (fun x => Rv (Vi x)) (zb_f (fun z => absurd Hc3 (Int32.not_lt.mpr z.1))).symm, rfl⟩
  · refine w_iload_n (zat TX14_isLetter 3 rfl) rfl ?_
    refine w_bipush (v := 122) (zat TX14_isLetter 4 rfl) (by decide) ?_
    refine w_icmp_gt 16 (zat TX14_isLetter 5 rfl) (by decide) (fun Hc9 => ?_) (fun Hc9 => ?_)
    · refine w_iconst (v := 0) (zat TX14_isLetter 8 rfl) (by decide) ?_
      refine w_ireturn (zat TX14_isLetter 9 rfl) rfl rfl ?_
      exact ⟨congrArg (fun x => Rv (Vi x)) (zb_f (fun z => absurd Hc9 (Int32.not_lt.mpr z.2))).symm, rfl⟩
    · refine w_iconst (v := 1) (zat TX14_isLetter 6 rfl) (by decide) ?_
      refine w_goto 17 (zat TX14_isLetter 7 rfl) (by decide) ?_
      refine w_ireturn (zat TX14_isLetter 9 rfl) rfl rfl ?_
      exact ⟨congrArg (fun x => Rv (Vi x)) (zb_t ⟨Int32.not_lt.mp Hc3, Int32.not_lt.mp Hc9⟩).symm, rfl⟩
theorem qX14_isDigit (l : Launch) (h : zH) (x : Int32) : Cx l 1 mX14_isDigit [Vi x] h (Rv (Vi (zb (48 ≤ x ∧ x ≤ 57)))) h := by
  refine Ct.in 0 kX14_isDigit (plainFor_of_name rfl) (Nat.le_of_ble_eq_true rfl) ?_
  refine w_iload_n (zat TX14_isDigit 0 rfl) rfl ?_
  refine w_bipush (v := 48) (zat TX14_isDigit 1 rfl) (by decide) ?_
  refine w_icmp_lt 16 (zat TX14_isDigit 2 rfl) (by decide) (fun Hc3 => ?_) (fun Hc3 => ?_)
  · refine w_iconst (v := 0) (zat TX14_isDigit 8 rfl) (by decide) ?_
    refine w_ireturn (zat TX14_isDigit 9 rfl) rfl rfl ?_
    exact ⟨congrArg (fun x => Rv (Vi x)) (zb_f (fun z => absurd Hc3 (Int32.not_lt.mpr z.1))).symm, rfl⟩
  · refine w_iload_n (zat TX14_isDigit 3 rfl) rfl ?_
    refine w_bipush (v := 57) (zat TX14_isDigit 4 rfl) (by decide) ?_
    refine w_icmp_gt 16 (zat TX14_isDigit 5 rfl) (by decide) (fun Hc9 => ?_) (fun Hc9 => ?_)
    · refine w_iconst (v := 0) (zat TX14_isDigit 8 rfl) (by decide) ?_
      refine w_ireturn (zat TX14_isDigit 9 rfl) rfl rfl ?_
      exact ⟨congrArg (fun x => Rv (Vi x)) (zb_f (fun z => absurd Hc9 (Int32.not_lt.mpr z.2))).symm, rfl⟩
    · refine w_iconst (v := 1) (zat TX14_isDigit 6 rfl) (by decide) ?_
      refine w_goto 17 (zat TX14_isDigit 7 rfl) (by decide) ?_
      refine w_ireturn (zat TX14_isDigit 9 rfl) rfl rfl ?_
      exact ⟨congrArg (fun x => Rv (Vi x)) (zb_t ⟨Int32.not_lt.mp Hc3, Int32.not_lt.mp Hc9⟩).symm, rfl⟩
theorem lX14_wordOf (l : Launch) (h : zH) (j : Nat) (hj : j < 9) : ∀ kk s : Nat, s + kk = zlen.getD j 0 → Wp l mX14_wordOf 5 4 [some (Vq (some (1000 + j, 0))), some (Vj (Int64.ofNat (hv (wdg j) s))), none, some (Vi (nI s))] [] h (fun o h' => o = Rv (Vj (Int64.ofNat (hv (wdg j) (zlen.getD j 0)))) ∧ h' = h) := by
  have hlen := slen_lt j hj
  intro kk
  induction kk with
  | zero =>
    intro s hs
    refine w_iload_n (zat TX14_wordOf 4 rfl) rfl ?_
    refine w_aload_n (zat TX14_wordOf 5 rfl) rfl ?_
    refine x_callv1 (qJ0_length l h j hj) (by decide) kJ0_length_8abf5 (rdy_V (zat TX14_wordOf 6 rfl) kJ0_length_8abf5 pJ0_length_8abf5 zw1263 zw491 zw492 (Or.inr ⟨Nat.le_add_right _ _, by omega, rfl, rfl⟩)) (Nat.le_of_ble_eq_true rfl) rfl rfl ?_
    refine w_icmp_ge 36 (zat TX14_wordOf 7 rfl) (by decide) (fun Hc9 => ?_) (fun Hc9 => ?_)
    · refine w_lload_n (zat TX14_wordOf 23 rfl) rfl ?_
      refine w_lreturn (zat TX14_wordOf 24 rfl) rfl ?_
      have e : s = zlen.getD j 0 := by omega
      subst e
      exact ⟨rfl, rfl⟩
    · exact absurd (nI_le (by omega) (by omega)) Hc9
  | succ kk ih =>
    intro s hs
    have hw := wdg_all j hj s (by omega)
    have hv1 : (32 : Int64) * Int64.ofNat (hv (wdg j) s) + ((zbyt.getD j []).getD s 0 - 97 + 1).toInt64 = Int64.ofNat (hv (wdg j) (s + 1)) := by
      rw [hw.2.2.1]
      show _ = Int64.ofNat (32 * hv (wdg j) s + wdg j s)
      rw [Int64.ofNat_add, Int64.ofNat_mul]
      rfl
    refine w_iload_n (zat TX14_wordOf 4 rfl) rfl ?_
    refine w_aload_n (zat TX14_wordOf 5 rfl) rfl ?_
    refine x_callv1 (qJ0_length l h j hj) (by decide) kJ0_length_8abf5 (rdy_V (zat TX14_wordOf 6 rfl) kJ0_length_8abf5 pJ0_length_8abf5 zw1263 zw491 zw492 (Or.inr ⟨Nat.le_add_right _ _, by omega, rfl, rfl⟩)) (Nat.le_of_ble_eq_true rfl) rfl rfl ?_
    refine w_icmp_ge 36 (zat TX14_wordOf 7 rfl) (by decide) (fun Hc9 => ?_) (fun Hc9 => ?_)
    · exact absurd Hc9 (nI_ge (by omega) (by omega))
    · refine w_ldc2 (v := 32) (zat TX14_wordOf 8 rfl) zw1251 ?_
      refine w_lload_n (zat TX14_wordOf 9 rfl) rfl ?_
      refine w_lmul (zat TX14_wordOf 10 rfl) ?_
      refine w_aload_n (zat TX14_wordOf 11 rfl) rfl ?_
      refine w_iload_n (zat TX14_wordOf 12 rfl) rfl ?_
      refine x_callv2 (qJ0_charAt l h j hj s (by omega)) (by decide) kJ0_charAt_5068e (rdy_V (zat TX14_wordOf 13 rfl) kJ0_charAt_5068e pJ0_charAt_5068e zw1264 zw501 zw502 (Or.inr ⟨Nat.le_add_right _ _, by omega, rfl, rfl⟩)) (Nat.le_of_ble_eq_true rfl) rfl rfl ?_
      refine w_bipush (v := 97) (zat TX14_wordOf 14 rfl) (by decide) ?_
      refine w_isub (zat TX14_wordOf 15 rfl) ?_
      refine w_iconst (v := 1) (zat TX14_wordOf 16 rfl) (by decide) ?_
      refine w_iadd (zat TX14_wordOf 17 rfl) ?_
      refine w_i2l (zat TX14_wordOf 18 rfl) ?_
      refine w_ladd (zat TX14_wordOf 19 rfl) ?_
      rw [hv1]
      refine x_lstore_n (ls2 := [_, _, _, _]) (zat TX14_wordOf 20 rfl) (by decide) rfl ?_
      refine x_iinc (v := nI (s + 1)) (ls2 := [_, _, _, _]) (zat TX14_wordOf 21 rfl) rfl (nI_inc s) rfl ?_
      refine w_goto 4 (zat TX14_wordOf 22 rfl) (by decide) ?_
      exact ih (s + 1) (by omega)
theorem qX14_wordOf (l : Launch) (h : zH) (j : Nat) (hj : j < 9) : Cx l 5 mX14_wordOf [Vq (some (1000 + j, 0))] h (Rv (Vj (Int64.ofNat (hv (wdg j) (zlen.getD j 0))))) h := by
  refine Ct.in 3 kX14_wordOf (plainFor_of_name rfl) (Nat.le_of_ble_eq_true rfl) ?_
  refine w_lconst (v := 0) (zat TX14_wordOf 0 rfl) (by decide) ?_
  refine x_lstore_n (ls2 := [_, _, _, _]) (zat TX14_wordOf 1 rfl) (by decide) rfl ?_
  refine w_iconst (v := 0) (zat TX14_wordOf 2 rfl) (by decide) ?_
  refine x_istore_n (ls2 := [_, _, _, _]) (zat TX14_wordOf 3 rfl) (by decide) rfl ?_
  exact lX14_wordOf l h j hj (zlen.getD j 0) 0 (by omega)
/-- the byte of a sign -/
def sbt (u : Nat) : Nat := if u = 11 then 60 else if u = 12 then 62 else if u = 13 then 61 else if u = 14 then 43 else if u = 15 then 45 else if u = 16 then 42 else if u = 17 then 47 else if u = 18 then 40 else if u = 19 then 41 else 59
/-- the model holds token u -/
def MS (h : zH) (u : Nat) : Prop := (u = 21 ∧ zI h 1 0 22 = 1) ∨ (u = 22 ∧ zI h 1 0 22 = 0) ∨ (1 ≤ u ∧ u ≤ 10 ∧ zI h 1 0 22 = 2 ∧ ∀ j, j < 9 → (zL h 1 0 28 = Int64.ofNat (hv (wdg j) (zlen.getD j 0)) ↔ u = j + 1)) ∨ (11 ≤ u ∧ u ≤ 20 ∧ zI h 1 0 22 = 4 ∧ zI h 1 0 24 = nI (sbt u)) ∨ (100 ≤ u ∧ u < 10100 ∧ zI h 1 0 22 = 3 ∧ zI h 1 0 25 = nI (u - 100))
theorem MS.srt {h : zH} {u : Nat} (x : MS h u) : (zI h 1 0 22 = 1 ↔ u = 21) ∧ (zI h 1 0 22 = 2 ↔ 1 ≤ u ∧ u ≤ 10) ∧ (zI h 1 0 22 = 4 ↔ 11 ≤ u ∧ u ≤ 20) ∧ (zI h 1 0 22 = 3 ↔ 100 ≤ u) := by
  rcases x with ⟨a, b⟩ | ⟨a, b⟩ | ⟨a, a2, b, c⟩ | ⟨a, a2, b, c⟩ | ⟨a, a2, b, c⟩
  · rw [b]; exact ⟨⟨fun _ => a, fun _ => rfl⟩, ⟨fun z => absurd z (by decide), fun z => by omega⟩, ⟨fun z => absurd z (by decide), fun z => by omega⟩, ⟨fun z => absurd z (by decide), fun z => by omega⟩⟩
  · rw [b]; exact ⟨⟨fun z => absurd z (by decide), fun z => by omega⟩, ⟨fun z => absurd z (by decide), fun z => by omega⟩, ⟨fun z => absurd z (by decide), fun z => by omega⟩, ⟨fun z => absurd z (by decide), fun z => by omega⟩⟩
  · rw [b]; exact ⟨⟨fun z => absurd z (by decide), fun z => by omega⟩, ⟨fun _ => ⟨a, a2⟩, fun _ => rfl⟩, ⟨fun z => absurd z (by decide), fun z => by omega⟩, ⟨fun z => absurd z (by decide), fun z => by omega⟩⟩
  · rw [b]; exact ⟨⟨fun z => absurd z (by decide), fun z => by omega⟩, ⟨fun z => absurd z (by decide), fun z => by omega⟩, ⟨fun _ => ⟨a, a2⟩, fun _ => rfl⟩, ⟨fun z => absurd z (by decide), fun z => by omega⟩⟩
  · rw [b]; exact ⟨⟨fun z => absurd z (by decide), fun z => by omega⟩, ⟨fun z => absurd z (by decide), fun z => by omega⟩, ⟨fun z => absurd z (by decide), fun z => by omega⟩, ⟨fun _ => a, fun _ => rfl⟩⟩
theorem sbt_all : ∀ u : Fin 10, ∀ c : Fin 10, (nI (sbt (u.1 + 11)) = nI (sbt (c.1 + 11)) ↔ u.1 = c.1) := by decide
theorem sbt_eq {u c : Nat} (h1 : 11 ≤ u) (h2 : u ≤ 20) (h3 : 11 ≤ c) (h4 : c ≤ 20) : nI (sbt u) = nI (sbt c) ↔ u = c := by
  have := sbt_all ⟨u - 11, by omega⟩ ⟨c - 11, by omega⟩
  rw [show u - 11 + 11 = u by omega, show c - 11 + 11 = c by omega] at this
  rw [this]
  show u - 11 = c - 11 ↔ u = c
  omega
theorem MS.wrd {h : zH} {u : Nat} (x : MS h u) (hu : 1 ≤ u ∧ u ≤ 10) (j : Nat) (hj : j < 9) : zL h 1 0 28 = Int64.ofNat (hv (wdg j) (zlen.getD j 0)) ↔ u = j + 1 := by
  rcases x with ⟨a, b⟩ | ⟨a, b⟩ | ⟨a, a2, b, c⟩ | ⟨a, a2, b, c⟩ | ⟨a, a2, b, c⟩
  · omega
  · omega
  · exact c j hj
  · omega
  · omega
theorem MS.mrk {h : zH} {u : Nat} (x : MS h u) (hu : 11 ≤ u ∧ u ≤ 20) : zI h 1 0 24 = nI (sbt u) := by
  rcases x with ⟨a, b⟩ | ⟨a, b⟩ | ⟨a, a2, b, c⟩ | ⟨a, a2, b, c⟩ | ⟨a, a2, b, c⟩
  · omega
  · omega
  · omega
  · exact c
  · omega
theorem MS.num {h : zH} {u : Nat} (x : MS h u) (hu : 100 ≤ u) : zI h 1 0 25 = nI (u - 100) := by
  rcases x with ⟨a, b⟩ | ⟨a, b⟩ | ⟨a, a2, b, c⟩ | ⟨a, a2, b, c⟩ | ⟨a, a2, b, c⟩
  · omega
  · omega
  · omega
  · omega
  · exact c
theorem qX14_isWord (l : Launch) (h : zH) (u : Nat) (hS : MS h u) (j : Nat) (hj : j < 9) : Cx l 6 mX14_isWord [Vq (some (1, 0)), Vq (some (1000 + j, 0))] h (Rv (Vi (zb (u = j + 1)))) h := by
  refine Ct.in 0 kX14_isWord (plainFor_of_name rfl) (Nat.le_of_ble_eq_true rfl) ?_
  refine w_aload_n (zat TX14_isWord 0 rfl) rfl ?_
  refine w_getI (zat TX14_isWord 1 rfl) fX14_166 s1 (by decide) (by decide) rfl ?_
  refine w_iconst (v := 2) (zat TX14_isWord 2 rfl) (by decide) ?_
  refine w_icmp_ne 24 (zat TX14_isWord 3 rfl) (by decide) (fun Hc5 => ?_) (fun Hc5 => ?_)
  · rw [hS.srt.2.1] at Hc5
    refine w_iconst (v := 0) (zat TX14_isWord 12 rfl) (by decide) ?_
    refine w_ireturn (zat TX14_isWord 13 rfl) rfl rfl ?_
    exact ⟨by rw [zb_f (by omega)], rfl⟩
  · rw [hS.srt.2.1] at Hc5
    refine w_aload_n (zat TX14_isWord 4 rfl) rfl ?_
    refine w_getL (zat TX14_isWord 5 rfl) fX14_175 s1 (by decide) (by decide) rfl ?_
    refine w_aload_n (zat TX14_isWord 6 rfl) rfl ?_
    refine x_callv1 (qX14_wordOf l h j hj) (by decide) kX14_wordOf (rdy_S (zat TX14_isWord 7 rfl) kX14_wordOf pX14_wordOf zw1260 zw1261) (Nat.le_of_ble_eq_true rfl) rfl rfl ?_
    refine w_lcmp (zat TX14_isWord 8 rfl) ?_
    refine w_if_ne 24 (zat TX14_isWord 9 rfl) (by decide) (fun Hc17 => ?_) (fun Hc17 => ?_)
    · rw [lc_eq, hS.wrd Hc5 j hj] at Hc17
      refine w_iconst (v := 0) (zat TX14_isWord 12 rfl) (by decide) ?_
      refine w_ireturn (zat TX14_isWord 13 rfl) rfl rfl ?_
      exact ⟨by rw [zb_f (by omega)], rfl⟩
    · rw [lc_eq, hS.wrd Hc5 j hj] at Hc17
      refine w_iconst (v := 1) (zat TX14_isWord 10 rfl) (by decide) ?_
      refine w_goto 25 (zat TX14_isWord 11 rfl) (by decide) ?_
      refine w_ireturn (zat TX14_isWord 13 rfl) rfl rfl ?_
      exact ⟨by rw [zb_t Hc17], rfl⟩
theorem qX14_is (l : Launch) (h : zH) (u : Nat) (hS : MS h u) (c : Nat) (h1 : 11 ≤ c) (h2 : c ≤ 20) (x : Int32) (hx : x = nI (sbt c)) : Cx l 1 mX14_is [Vq (some (1, 0)), Vi x] h (Rv (Vi (zb (u = c)))) h := by
  refine Ct.in 0 kX14_is (plainFor_of_name rfl) (Nat.le_of_ble_eq_true rfl) ?_
  refine w_aload_n (zat TX14_is 0 rfl) rfl ?_
  refine w_getI (zat TX14_is 1 rfl) fX14_166 s1 (by decide) (by decide) rfl ?_
  refine w_iconst (v := 4) (zat TX14_is 2 rfl) (by decide) ?_
  refine w_icmp_ne 20 (zat TX14_is 3 rfl) (by decide) (fun Hc5 => ?_) (fun Hc5 => ?_)
  · rw [hS.srt.2.2.1] at Hc5
    refine w_iconst (v := 0) (zat TX14_is 10 rfl) (by decide) ?_
    refine w_ireturn (zat TX14_is 11 rfl) rfl rfl ?_
    exact ⟨by rw [zb_f (by omega)], rfl⟩
  · rw [hS.srt.2.2.1] at Hc5
    refine w_aload_n (zat TX14_is 4 rfl) rfl ?_
    refine w_getI (zat TX14_is 5 rfl) fX14_169 s1 (by decide) (by decide) rfl ?_
    refine w_iload_n (zat TX14_is 6 rfl) rfl ?_
    refine w_icmp_ne 20 (zat TX14_is 7 rfl) (by decide) (fun Hc13 => ?_) (fun Hc13 => ?_)
    · rw [hS.mrk Hc5, hx, sbt_eq Hc5.1 Hc5.2 h1 h2] at Hc13
      refine w_iconst (v := 0) (zat TX14_is 10 rfl) (by decide) ?_
      refine w_ireturn (zat TX14_is 11 rfl) rfl rfl ?_
      exact ⟨by rw [zb_f (by omega)], rfl⟩
    · rw [hS.mrk Hc5, hx, sbt_eq Hc5.1 Hc5.2 h1 h2] at Hc13
      refine w_iconst (v := 1) (zat TX14_is 8 rfl) (by decide) ?_
      refine w_goto 21 (zat TX14_is 9 rfl) (by decide) ?_
      refine w_ireturn (zat TX14_is 11 rfl) rfl rfl ?_
      exact ⟨by rw [zb_t Hc13], rfl⟩
def mSt (h : zH) (k : Int32) : zH := zsI (zsI h 18 0 6 k) 18 0 7 (zI h 1 0 23)
theorem qX14_stop (l : Launch) (h : zH) (hWM : Wm h) (k : Int32) : Cx l 1 mX14_stop [Vq (some (1, 0)), Vi k] h (Rv (Vq (some (18, 0)))) (mSt h k) := by
  refine Ct.in 0 kX14_stop (plainFor_of_name rfl) (Nat.le_of_ble_eq_true rfl) ?_
  refine w_aload_n (zat TX14_stop 0 rfl) rfl ?_
  refine w_getR (zat TX14_stop 1 rfl) fX14_49 s1 (by decide) (by decide) rfl (wmr hWM 7 rfl) ?_
  refine w_iload_n (zat TX14_stop 2 rfl) rfl ?_
  refine w_putI (zat TX14_stop 3 rfl) gX14_stop_138 s18 (by decide) (by decide) rfl ⟨rfl, rfl⟩ ?_
  refine w_aload_n (zat TX14_stop 4 rfl) rfl ?_
  refine w_getR (zat TX14_stop 5 rfl) fX14_49 s1 (by decide) (by decide) rfl (wmr hWM 7 rfl) ?_
  refine w_aload_n (zat TX14_stop 6 rfl) rfl ?_
  refine w_getI (zat TX14_stop 7 rfl) fX14_141 s1 (by decide) (by decide) rfl ?_
  refine w_putI (zat TX14_stop 8 rfl) gX14_stop_144 s18 (by decide) (by decide) rfl ⟨rfl, rfl⟩ ?_
  refine w_aload_n (zat TX14_stop 9 rfl) rfl ?_
  refine w_getR (zat TX14_stop 10 rfl) fX14_49 s1 (by decide) (by decide) rfl (wmr hWM 7 rfl) ?_
  refine w_areturn (zat TX14_stop 11 rfl) rfl (Or.inl ⟨_, rfl⟩) ?_
  exact ⟨rfl, rfl⟩
