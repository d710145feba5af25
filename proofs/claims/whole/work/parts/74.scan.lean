-- the scanner of the class against a pure one, by program (wip/gen/p74.py)
/-- from a on as long as p holds -/
def rn (p : Nat → Bool) : Nat → Nat → Nat
  | 0, a => a
  | f + 1, a => if p a = true then rn p f (a + 1) else a
theorem rn_is {p : Nat → Bool} {n : Nat} (hp : ∀ k, n ≤ k → p k = false) : ∀ f a, n ≤ a + f → a ≤ rn p f a ∧ (∀ k, a ≤ k → k < rn p f a → p k = true) ∧ p (rn p f a) = false
  | 0, a, h => ⟨Nat.le_refl a, fun k h1 h2 => absurd h1 (Nat.not_le.mpr h2), hp a (by omega)⟩
  | f + 1, a, h => by
    unfold rn
    by_cases e : p a = true
    · rw [if_pos e]
      obtain ⟨i1, i2, i3⟩ := rn_is hp f (a + 1) (by omega)
      refine ⟨by omega, fun k h1 h2 => ?_, i3⟩
      by_cases e2 : k = a
      · rw [e2]; exact e
      · exact i2 k (by omega) h2
    · rw [if_neg e]
      exact ⟨Nat.le_refl a, fun k h1 h2 => absurd h1 (Nat.not_le.mpr h2), Bool.eq_false_iff.mpr e⟩
theorem rn_one {p : Nat → Bool} {n : Nat} (hp : ∀ k, n ≤ k → p k = false) {f a e : Nat} (hf : n ≤ a + f) (h1 : a ≤ e) (h2 : ∀ k, a ≤ k → k < e → p k = true) (h3 : p e = false) : rn p f a = e := by
  obtain ⟨i1, i2, i3⟩ := rn_is hp f a hf
  rcases Nat.lt_trichotomy (rn p f a) e with q | q | q
  · have := h2 _ i1 q
    rw [i3] at this
    cases this
  · exact q
  · have := i2 _ h1 q
    rw [h3] at this
    cases this
def pS (B : Nat → Nat) (n k : Nat) : Bool := decide (k < n ∧ B k = 32)
def pL (B : Nat → Nat) (n k : Nat) : Bool := decide (k < n ∧ isL (B k))
def pD (B : Nat → Nat) (n k : Nat) : Bool := decide (k < n ∧ isD (B k))
theorem pS_n {B : Nat → Nat} {n : Nat} (k : Nat) (h : n ≤ k) : pS B n k = false := decide_eq_false (fun z => by omega)
theorem pL_n {B : Nat → Nat} {n : Nat} (k : Nat) (h : n ≤ k) : pL B n k = false := decide_eq_false (fun z => by omega)
theorem pD_n {B : Nat → Nat} {n : Nat} (k : Nat) (h : n ≤ k) : pD B n k = false := decide_eq_false (fun z => by omega)
def lxS (B : Nat → Nat) (n a : Nat) : Nat := rn (pS B n) n a
def lxE (B : Nat → Nat) (n s : Nat) : Nat := if isL (B s) then rn (pL B n) n (s + 1) else if isD (B s) then rn (pD B n) n (s + 1) else s + 1
abbrev spl (B : Nat → Nat) (s e j : Nat) : Prop := e = s + zlen.getD j 0 ∧ ∀ i, i < zlen.getD j 0 → sg (B (s + i)) = (zbyt.getD j []).getD i 0
def nTk (B : Nat → Nat) (s e : Nat) : Int32 := if spl B s e 5 then -6 else if spl B s e 6 then -7 else if spl B s e 7 then -8 else if spl B s e 8 then -9 else -10
def wTk (B : Nat → Nat) (s e : Nat) : Int32 := if spl B s e 0 then -1 else if spl B s e 1 then -2 else if spl B s e 2 then -3 else if spl B s e 3 then -4 else if spl B s e 4 then -5 else nTk B s e
def dg (B : Nat → Nat) (s : Nat) : Nat → Nat
  | 0 => 0
  | k + 1 => dg B s k * 10 + (B (s + k) - 48)
def tkT (B : Nat → Nat) (s e : Nat) : Int32 := if isL (B s) then (if 8 < e - s then -22 else wTk B s e) else if isD (B s) then (if 4 < e - s then -22 else nI (dg B s (e - s))) else sgT (B s)
/-- the token from a on: what, where, and where it ends -/
def lx (B : Nat → Nat) (n a : Nat) : Int32 × Nat × Nat := if n ≤ lxS B n a then (-21, n, n) else (tkT B (lxS B n a) (lxE B n (lxS B n a)), lxS B n a, lxE B n (lxS B n a))
/-- all tokens, one behind the other -/
def stT (B : Nat → Nat) (n : Nat) : Nat → Int32 × Nat × Nat
  | 0 => lx B n 0
  | i + 1 => lx B n (stT B n i).2.2
theorem lxS_sp {B : Nat → Nat} {n a : Nat} (h : a < n) (hb : B a = 32) : lxS B n (a + 1) = lxS B n a := by
  obtain ⟨i1, i2, i3⟩ := rn_is (pS_n (B := B) (n := n)) n (a + 1) (by omega)
  refine (rn_one (pS_n (B := B) (n := n)) (by omega) (by omega) (fun k h1 h2 => ?_) i3).symm
  by_cases e : k = a
  · rw [e]; exact decide_eq_true ⟨h, hb⟩
  · exact i2 k (by omega) h2
theorem lx_sp {B : Nat → Nat} {n a : Nat} (h : a < n) (hb : B a = 32) : lx B n (a + 1) = lx B n a := by
  unfold lx
  rw [lxS_sp h hb]
theorem lxS_no {B : Nat → Nat} {n a : Nat} (hb : ¬ B a = 32) : lxS B n a = a := rn_one (pS_n (B := B) (n := n)) (by omega) (Nat.le_refl a) (fun k h1 h2 => absurd h1 (Nat.not_le.mpr h2)) (decide_eq_false (fun z => hb z.2))
theorem lx_no {B : Nat → Nat} {n a : Nat} (h : a < n) (hb : ¬ B a = 32) : lx B n a = (tkT B a (lxE B n a), a, lxE B n a) := by
  unfold lx
  rw [lxS_no hb, if_neg (by omega)]
theorem lx_end (B : Nat → Nat) (n : Nat) : lx B n n = (-21, n, n) := by
  unfold lx
  rw [show lxS B n n = n from rn_one (pS_n (B := B) (n := n)) (by omega) (Nat.le_refl n) (fun k h1 h2 => absurd h1 (Nat.not_le.mpr h2)) (pS_n n (Nat.le_refl n)), if_pos (Nat.le_refl n)]
theorem rn_le {p : Nat → Bool} {n : Nat} (hp : ∀ k, n ≤ k → p k = false) {f a : Nat} (hf : n ≤ a + f) (h : a ≤ n) : rn p f a ≤ n := by
  obtain ⟨i1, i2, i3⟩ := rn_is hp f a hf
  apply Decidable.byContradiction
  intro z
  have := i2 n h (by omega)
  rw [hp n (Nat.le_refl n)] at this
  cases this
theorem lxE_bd {B : Nat → Nat} {n s : Nat} (h : s < n) : s + 1 ≤ lxE B n s ∧ lxE B n s ≤ n := by
  unfold lxE
  split
  · exact ⟨(rn_is (pL_n (B := B) (n := n)) n (s + 1) (by omega)).1, rn_le (pL_n (B := B)) (by omega) h⟩
  · split
    · exact ⟨(rn_is (pD_n (B := B) (n := n)) n (s + 1) (by omega)).1, rn_le (pD_n (B := B)) (by omega) h⟩
    · omega
theorem lxE_L {B : Nat → Nat} {n s : Nat} (hs : isL (B s)) (k : Nat) (h1 : s ≤ k) (h2 : k < lxE B n s) : isL (B k) := by
  by_cases e : k = s
  · rw [e]; exact hs
  · unfold lxE at h2
    rw [if_pos hs] at h2
    exact (of_decide_eq_true ((rn_is (pL_n (B := B) (n := n)) n (s + 1) (by omega)).2.1 k (by omega) h2)).2
theorem lxE_D {B : Nat → Nat} {n s : Nat} (hL : ¬ isL (B s)) (hs : isD (B s)) (k : Nat) (h1 : s ≤ k) (h2 : k < lxE B n s) : isD (B k) := by
  by_cases e : k = s
  · rw [e]; exact hs
  · unfold lxE at h2
    rw [if_neg hL, if_pos hs] at h2
    exact (of_decide_eq_true ((rn_is (pD_n (B := B) (n := n)) n (s + 1) (by omega)).2.1 k (by omega) h2)).2
theorem dg_lt {B : Nat → Nat} {s : Nat} : ∀ k, (∀ i, i < k → isD (B (s + i))) → dg B s k < 10 ^ k
  | 0, _ => Nat.one_pos
  | k + 1, h => by
    have i1 := dg_lt (B := B) (s := s) k (fun i hi => h i (by omega))
    have i2 := h k (by omega)
    show dg B s k * 10 + (B (s + k) - 48) < 10 ^ (k + 1)
    rw [Nat.pow_succ]
    omega
theorem nTk_is (B : Nat → Nat) (s e : Nat) : nTk B s e = -6 ∨ nTk B s e = -7 ∨ nTk B s e = -8 ∨ nTk B s e = -9 ∨ nTk B s e = -10 := by
  unfold nTk
  split
  · exact Or.inl rfl
  · split
    · exact Or.inr (Or.inl rfl)
    · split
      · exact Or.inr (Or.inr (Or.inl rfl))
      · split
        · exact Or.inr (Or.inr (Or.inr (Or.inl rfl)))
        · exact Or.inr (Or.inr (Or.inr (Or.inr rfl)))
/-- the text lies in a row of bytes -/
def Tx (h : zH) (g n : Nat) (B : Nat → Nat) : Prop := n ≤ 300 ∧ ∀ k, k < n → zI h g 0 k = sg (B k) ∧ B k < 256
theorem lX9_spells (l : Launch) (h : zH) (hW : Wc h) (n : Nat) (B : Nat → Nat) (hT : Tx h 79 n B) (a e j : Nat) (hj : j < 9) (he : e ≤ n) (hl : e = a + zlen.getD j 0) : ∀ kk s : Nat, s + kk = zlen.getD j 0 → (∀ i, i < s → sg (B (a + i)) = (zbyt.getD j []).getD i 0) → Wp l mX9_spells 5 15 [some (Vq (some (79, 0))), some (Vi (nI a)), some (Vi (nI e)), some (Vq (some (1000 + j, 0))), some (Vi (nI (a + s)))] [] h (fun o h' => o = Rv (Vi (zb (spl B a e j))) ∧ h' = h) := by
  have hn3 := hT.1
  intro kk
  induction kk with
  | zero =>
    intro s hs hi
    refine w_iload (zat TX9_spells 10 rfl) rfl ?_
    refine w_iload_n (zat TX9_spells 11 rfl) rfl ?_
    refine w_icmp_ge 44 (zat TX9_spells 12 rfl) (by decide) (fun Hc18 => ?_) (fun Hc18 => ?_)
    · refine w_iconst (v := 1) (zat TX9_spells 26 rfl) (by decide) ?_
      refine w_ireturn (zat TX9_spells 27 rfl) rfl rfl ?_
      exact ⟨congrArg (fun x => Rv (Vi x)) (zb_t ⟨hl, fun i hi2 => hi i (by omega)⟩).symm, rfl⟩
    · exact absurd (nI_le (by omega) (by have := hT.1; omega)) Hc18
  | succ kk ih =>
    intro s hs hi
    have hz : a + s < n := by omega
    refine w_iload (zat TX9_spells 10 rfl) rfl ?_
    refine w_iload_n (zat TX9_spells 11 rfl) rfl ?_
    refine w_icmp_ge 44 (zat TX9_spells 12 rfl) (by decide) (fun Hc18 => ?_) (fun Hc18 => ?_)
    · exact absurd Hc18 (nI_ge (by have := hT.1; omega) (by omega))
    · refine w_aload_n (zat TX9_spells 13 rfl) rfl ?_
      refine w_iload (zat TX9_spells 14 rfl) rfl ?_
      refine y_baload (a + s) _ (v := sg (B (a + s))) (zat TX9_spells 15 rfl) s79 (by decide) (wcn hW 15 rfl) (by decide) rfl (by have := hT.1; have := hz; omega) (hT.2 _ hz).1 ?_
      refine w_aload_n (zat TX9_spells 16 rfl) rfl ?_
      refine w_iload (zat TX9_spells 17 rfl) rfl ?_
      refine w_iload_n (zat TX9_spells 18 rfl) rfl ?_
      refine w_isub (zat TX9_spells 19 rfl) ?_
      rw [nI_sub (Nat.le_add_right a s), Nat.add_sub_cancel_left]
      refine x_callv2 (qJ0_charAt l h j hj s (by omega)) (by decide) kJ0_charAt_5068e (rdy_V (zat TX9_spells 20 rfl) kJ0_charAt_5068e pJ0_charAt_5068e zw500 zw501 zw502 (Or.inr ⟨Nat.le_add_right _ _, by omega, rfl, rfl⟩)) (Nat.le_of_ble_eq_true rfl) rfl rfl ?_
      refine w_icmp_eq 38 (zat TX9_spells 21 rfl) (by decide) (fun Hc33 => ?_) (fun Hc33 => ?_)
      · refine x_iinc (v := nI (a + (s + 1))) (ls2 := [_, _, _, _, _]) (zat TX9_spells 24 rfl) rfl (nI_inc (a + s)) rfl ?_
        refine w_goto 15 (zat TX9_spells 25 rfl) (by decide) ?_
        exact ih (s + 1) (by omega) (fun i hi2 => by
          by_cases e : i = s
          · rw [e]; exact Hc33
          · exact hi i (by omega))
      · refine w_iconst (v := 0) (zat TX9_spells 22 rfl) (by decide) ?_
        refine w_ireturn (zat TX9_spells 23 rfl) rfl rfl ?_
        exact ⟨congrArg (fun x => Rv (Vi x)) (zb_f (fun z => Hc33 (z.2 s (by omega)))).symm, rfl⟩
theorem qX9_spells (l : Launch) (h : zH) (hW : Wc h) (n : Nat) (B : Nat → Nat) (hT : Tx h 79 n B) (a e j : Nat) (hj : j < 9) (he : e ≤ n) (hae : a ≤ e) : Cx l 5 mX9_spells [Vq (some (79, 0)), Vi (nI a), Vi (nI e), Vq (some (1000 + j, 0))] h (Rv (Vi (zb (spl B a e j)))) h := by
  have hn := hT.1
  have hlen := slen_lt j hj
  refine Ct.in 1 kX9_spells (plainFor_of_name rfl) (Nat.le_of_ble_eq_true rfl) ?_
  refine w_iload_n (zat TX9_spells 0 rfl) rfl ?_
  refine w_iload_n (zat TX9_spells 1 rfl) rfl ?_
  refine w_isub (zat TX9_spells 2 rfl) ?_
  refine w_aload_n (zat TX9_spells 3 rfl) rfl ?_
  refine x_callv1 (qJ0_length l h j hj) (by decide) kJ0_length_8abf5 (rdy_V (zat TX9_spells 4 rfl) kJ0_length_8abf5 pJ0_length_8abf5 zw490 zw491 zw492 (Or.inr ⟨Nat.le_add_right _ _, by omega, rfl, rfl⟩)) (Nat.le_of_ble_eq_true rfl) rfl rfl ?_
  rw [nI_sub hae]
  refine w_icmp_eq 12 (zat TX9_spells 5 rfl) (by decide) (fun Hc7 => ?_) (fun Hc7 => ?_)
  · have Hl : e = a + zlen.getD j 0 := by have := nIe (by omega) (by omega) Hc7; omega
    refine w_iload_n (zat TX9_spells 8 rfl) rfl ?_
    refine x_istore (ls2 := [_, _, _, _, _]) (zat TX9_spells 9 rfl) (by decide) rfl ?_
    exact lX9_spells l h hW n B hT a e j hj he Hl (zlen.getD j 0) 0 (by omega) (fun i hi => by omega)
  · refine w_iconst (v := 0) (zat TX9_spells 6 rfl) (by decide) ?_
    refine w_ireturn (zat TX9_spells 7 rfl) rfl rfl ?_
    exact ⟨congrArg (fun x => Rv (Vi x)) (zb_f (fun z => Hc7 (by rw [z.1, Nat.add_sub_cancel_left]))).symm, rfl⟩
theorem qX9_nameOf (l : Launch) (h : zH) (hW : Wc h) (n : Nat) (B : Nat → Nat) (hT : Tx h 79 n B) (a e : Nat) (he : e ≤ n) (hae : a ≤ e) : Cx l 6 mX9_nameOf [Vq (some (79, 0)), Vi (nI a), Vi (nI e)] h (Rv (Vi (nTk B a e))) h := by
  refine Ct.in 0 kX9_nameOf (plainFor_of_name rfl) (Nat.le_of_ble_eq_true rfl) ?_
  refine w_aload_n (zat TX9_nameOf 0 rfl) rfl ?_
  refine w_iload_n (zat TX9_nameOf 1 rfl) rfl ?_
  refine w_iload_n (zat TX9_nameOf 2 rfl) rfl ?_
  refine w_ldcS (tx := "year") 5 (zat TX9_nameOf 3 rfl) (by decide +kernel) ?_
  refine x_callv4 (qX9_spells l h hW n B hT a e 5 (by decide) he hae) (by decide) kX9_spells (rdy_S (zat TX9_nameOf 4 rfl) kX9_spells pX9_spells zw487 zw488) (Nat.le_of_ble_eq_true rfl) rfl rfl ?_
  refine w_if_eq 14 (zat TX9_nameOf 5 rfl) (by decide) (fun Hc8 => ?_) (fun Hc8 => ?_)
  · rw [zb_0] at Hc8
    refine w_aload_n (zat TX9_nameOf 8 rfl) rfl ?_
    refine w_iload_n (zat TX9_nameOf 9 rfl) rfl ?_
    refine w_iload_n (zat TX9_nameOf 10 rfl) rfl ?_
    refine w_ldcS (tx := "mouths") 6 (zat TX9_nameOf 11 rfl) (by decide +kernel) ?_
    refine x_callv4 (qX9_spells l h hW n B hT a e 6 (by decide) he hae) (by decide) kX9_spells (rdy_S (zat TX9_nameOf 12 rfl) kX9_spells pX9_spells zw487 zw488) (Nat.le_of_ble_eq_true rfl) rfl rfl ?_
    refine w_if_eq 28 (zat TX9_nameOf 13 rfl) (by decide) (fun Hc22 => ?_) (fun Hc22 => ?_)
    · rw [zb_0] at Hc22
      refine w_aload_n (zat TX9_nameOf 16 rfl) rfl ?_
      refine w_iload_n (zat TX9_nameOf 17 rfl) rfl ?_
      refine w_iload_n (zat TX9_nameOf 18 rfl) rfl ?_
      refine w_ldcS (tx := "need") 7 (zat TX9_nameOf 19 rfl) (by decide +kernel) ?_
      refine x_callv4 (qX9_spells l h hW n B hT a e 7 (by decide) he hae) (by decide) kX9_spells (rdy_S (zat TX9_nameOf 20 rfl) kX9_spells pX9_spells zw487 zw488) (Nat.le_of_ble_eq_true rfl) rfl rfl ?_
      refine w_if_eq 42 (zat TX9_nameOf 21 rfl) (by decide) (fun Hc36 => ?_) (fun Hc36 => ?_)
      · rw [zb_0] at Hc36
        refine w_aload_n (zat TX9_nameOf 24 rfl) rfl ?_
        refine w_iload_n (zat TX9_nameOf 25 rfl) rfl ?_
        refine w_iload_n (zat TX9_nameOf 26 rfl) rfl ?_
        refine w_ldcS (tx := "old") 8 (zat TX9_nameOf 27 rfl) (by decide +kernel) ?_
        refine x_callv4 (qX9_spells l h hW n B hT a e 8 (by decide) he hae) (by decide) kX9_spells (rdy_S (zat TX9_nameOf 28 rfl) kX9_spells pX9_spells zw487 zw488) (Nat.le_of_ble_eq_true rfl) rfl rfl ?_
        refine w_if_eq 56 (zat TX9_nameOf 29 rfl) (by decide) (fun Hc50 => ?_) (fun Hc50 => ?_)
        · rw [zb_0] at Hc50
          refine w_bipush (v := -10) (zat TX9_nameOf 32 rfl) (by decide) ?_
          refine w_ireturn (zat TX9_nameOf 33 rfl) rfl rfl ?_
          exact ⟨congrArg (fun x => Rv (Vi x)) (by unfold nTk; rw [if_neg Hc8, if_neg Hc22, if_neg Hc36, if_neg Hc50]), rfl⟩
        · rw [zb_0, Decidable.not_not] at Hc50
          refine w_bipush (v := -9) (zat TX9_nameOf 30 rfl) (by decide) ?_
          refine w_ireturn (zat TX9_nameOf 31 rfl) rfl rfl ?_
          exact ⟨congrArg (fun x => Rv (Vi x)) (by unfold nTk; rw [if_neg Hc8, if_neg Hc22, if_neg Hc36, if_pos Hc50]), rfl⟩
      · rw [zb_0, Decidable.not_not] at Hc36
        refine w_bipush (v := -8) (zat TX9_nameOf 22 rfl) (by decide) ?_
        refine w_ireturn (zat TX9_nameOf 23 rfl) rfl rfl ?_
        exact ⟨congrArg (fun x => Rv (Vi x)) (by unfold nTk; rw [if_neg Hc8, if_neg Hc22, if_pos Hc36]), rfl⟩
    · rw [zb_0, Decidable.not_not] at Hc22
      refine w_bipush (v := -7) (zat TX9_nameOf 14 rfl) (by decide) ?_
      refine w_ireturn (zat TX9_nameOf 15 rfl) rfl rfl ?_
      exact ⟨congrArg (fun x => Rv (Vi x)) (by unfold nTk; rw [if_neg Hc8, if_pos Hc22]), rfl⟩
  · rw [zb_0, Decidable.not_not] at Hc8
    refine w_bipush (v := -6) (zat TX9_nameOf 6 rfl) (by decide) ?_
    refine w_ireturn (zat TX9_nameOf 7 rfl) rfl rfl ?_
    exact ⟨congrArg (fun x => Rv (Vi x)) (by unfold nTk; rw [if_pos Hc8]), rfl⟩
theorem qX9_wordOf (l : Launch) (h : zH) (hW : Wc h) (n : Nat) (B : Nat → Nat) (hT : Tx h 79 n B) (a e : Nat) (he : e ≤ n) (hae : a ≤ e) : Cx l 7 mX9_wordOf [Vq (some (79, 0)), Vi (nI a), Vi (nI e)] h (Rv (Vi (wTk B a e))) h := by
  refine Ct.in 0 kX9_wordOf (plainFor_of_name rfl) (Nat.le_of_ble_eq_true rfl) ?_
  refine w_aload_n (zat TX9_wordOf 0 rfl) rfl ?_
  refine w_iload_n (zat TX9_wordOf 1 rfl) rfl ?_
  refine w_iload_n (zat TX9_wordOf 2 rfl) rfl ?_
  refine w_ldcS (tx := "price") 0 (zat TX9_wordOf 3 rfl) (by decide +kernel) ?_
  refine x_callv4 (qX9_spells l h hW n B hT a e 0 (by decide) he hae) (by decide) kX9_spells (rdy_S (zat TX9_wordOf 4 rfl) kX9_spells pX9_spells zw487 zw488) (Nat.le_of_ble_eq_true rfl) rfl rfl ?_
  refine w_if_eq 13 (zat TX9_wordOf 5 rfl) (by decide) (fun Hc8 => ?_) (fun Hc8 => ?_)
  · rw [zb_0] at Hc8
    refine w_aload_n (zat TX9_wordOf 8 rfl) rfl ?_
    refine w_iload_n (zat TX9_wordOf 9 rfl) rfl ?_
    refine w_iload_n (zat TX9_wordOf 10 rfl) rfl ?_
    refine w_ldcS (tx := "duty") 1 (zat TX9_wordOf 11 rfl) (by decide +kernel) ?_
    refine x_callv4 (qX9_spells l h hW n B hT a e 1 (by decide) he hae) (by decide) kX9_spells (rdy_S (zat TX9_wordOf 12 rfl) kX9_spells pX9_spells zw487 zw488) (Nat.le_of_ble_eq_true rfl) rfl rfl ?_
    refine w_if_eq 27 (zat TX9_wordOf 13 rfl) (by decide) (fun Hc21 => ?_) (fun Hc21 => ?_)
    · rw [zb_0] at Hc21
      refine w_aload_n (zat TX9_wordOf 16 rfl) rfl ?_
      refine w_iload_n (zat TX9_wordOf 17 rfl) rfl ?_
      refine w_iload_n (zat TX9_wordOf 18 rfl) rfl ?_
      refine w_ldcS (tx := "when") 2 (zat TX9_wordOf 19 rfl) (by decide +kernel) ?_
      refine x_callv4 (qX9_spells l h hW n B hT a e 2 (by decide) he hae) (by decide) kX9_spells (rdy_S (zat TX9_wordOf 20 rfl) kX9_spells pX9_spells zw487 zw488) (Nat.le_of_ble_eq_true rfl) rfl rfl ?_
      refine w_if_eq 41 (zat TX9_wordOf 21 rfl) (by decide) (fun Hc35 => ?_) (fun Hc35 => ?_)
      · rw [zb_0] at Hc35
        refine w_aload_n (zat TX9_wordOf 24 rfl) rfl ?_
        refine w_iload_n (zat TX9_wordOf 25 rfl) rfl ?_
        refine w_iload_n (zat TX9_wordOf 26 rfl) rfl ?_
        refine w_ldcS (tx := "and") 3 (zat TX9_wordOf 27 rfl) (by decide +kernel) ?_
        refine x_callv4 (qX9_spells l h hW n B hT a e 3 (by decide) he hae) (by decide) kX9_spells (rdy_S (zat TX9_wordOf 28 rfl) kX9_spells pX9_spells zw487 zw488) (Nat.le_of_ble_eq_true rfl) rfl rfl ?_
        refine w_if_eq 55 (zat TX9_wordOf 29 rfl) (by decide) (fun Hc49 => ?_) (fun Hc49 => ?_)
        · rw [zb_0] at Hc49
          refine w_aload_n (zat TX9_wordOf 32 rfl) rfl ?_
          refine w_iload_n (zat TX9_wordOf 33 rfl) rfl ?_
          refine w_iload_n (zat TX9_wordOf 34 rfl) rfl ?_
          refine w_ldcS (tx := "is") 4 (zat TX9_wordOf 35 rfl) (by decide +kernel) ?_
          refine x_callv4 (qX9_spells l h hW n B hT a e 4 (by decide) he hae) (by decide) kX9_spells (rdy_S (zat TX9_wordOf 36 rfl) kX9_spells pX9_spells zw487 zw488) (Nat.le_of_ble_eq_true rfl) rfl rfl ?_
          refine w_if_eq 69 (zat TX9_wordOf 37 rfl) (by decide) (fun Hc63 => ?_) (fun Hc63 => ?_)
          · rw [zb_0] at Hc63
            refine w_aload_n (zat TX9_wordOf 40 rfl) rfl ?_
            refine w_iload_n (zat TX9_wordOf 41 rfl) rfl ?_
            refine w_iload_n (zat TX9_wordOf 42 rfl) rfl ?_
            refine x_callv3 (qX9_nameOf l h hW n B hT a e he hae) (by decide) kX9_nameOf (rdy_S (zat TX9_wordOf 43 rfl) kX9_nameOf pX9_nameOf zw542 zw543) (Nat.le_of_ble_eq_true rfl) rfl rfl ?_
            refine w_ireturn (zat TX9_wordOf 44 rfl) rfl rfl ?_
            exact ⟨congrArg (fun x => Rv (Vi x)) (by unfold wTk; rw [if_neg Hc8, if_neg Hc21, if_neg Hc35, if_neg Hc49, if_neg Hc63]), rfl⟩
          · rw [zb_0, Decidable.not_not] at Hc63
            refine w_bipush (v := -5) (zat TX9_wordOf 38 rfl) (by decide) ?_
            refine w_ireturn (zat TX9_wordOf 39 rfl) rfl rfl ?_
            exact ⟨congrArg (fun x => Rv (Vi x)) (by unfold wTk; rw [if_neg Hc8, if_neg Hc21, if_neg Hc35, if_neg Hc49, if_pos Hc63]), rfl⟩
        · rw [zb_0, Decidable.not_not] at Hc49
          refine w_bipush (v := -4) (zat TX9_wordOf 30 rfl) (by decide) ?_
          refine w_ireturn (zat TX9_wordOf 31 rfl) rfl rfl ?_
          exact ⟨congrArg (fun x => Rv (Vi x)) (by unfold wTk; rw [if_neg Hc8, if_neg Hc21, if_neg Hc35, if_pos Hc49]), rfl⟩
      · rw [zb_0, Decidable.not_not] at Hc35
        refine w_bipush (v := -3) (zat TX9_wordOf 22 rfl) (by decide) ?_
        refine w_ireturn (zat TX9_wordOf 23 rfl) rfl rfl ?_
        exact ⟨congrArg (fun x => Rv (Vi x)) (by unfold wTk; rw [if_neg Hc8, if_neg Hc21, if_pos Hc35]), rfl⟩
    · rw [zb_0, Decidable.not_not] at Hc21
      refine w_bipush (v := -2) (zat TX9_wordOf 14 rfl) (by decide) ?_
      refine w_ireturn (zat TX9_wordOf 15 rfl) rfl rfl ?_
      exact ⟨congrArg (fun x => Rv (Vi x)) (by unfold wTk; rw [if_neg Hc8, if_pos Hc21]), rfl⟩
  · rw [zb_0, Decidable.not_not] at Hc8
    refine w_iconst (v := -1) (zat TX9_wordOf 6 rfl) (by decide) ?_
    refine w_ireturn (zat TX9_wordOf 7 rfl) rfl rfl ?_
    exact ⟨congrArg (fun x => Rv (Vi x)) (by unfold wTk; rw [if_pos Hc8]), rfl⟩
theorem lX9_numberOf (l : Launch) (h : zH) (hW : Wc h) (n : Nat) (B : Nat → Nat) (hT : Tx h 79 n B) (a e : Nat) (he : e ≤ n) (hae : a ≤ e) (hd : ∀ k, a ≤ k → k < e → isD (B k)) : ∀ kk s : Nat, a + s + kk = e → Wp l mX9_numberOf 1 5 [some (Vq (some (79, 0))), some (Vi (nI a)), some (Vi (nI e)), some (Vi (nI (dg B a s))), some (Vi (nI (a + s)))] [] h (fun o h' => o = Rv (Vi (nI (dg B a (e - a)))) ∧ h' = h) := by
  have hn3 := hT.1
  intro kk
  induction kk with
  | zero =>
    intro s hs
    refine w_iload (zat TX9_numberOf 4 rfl) rfl ?_
    refine w_iload_n (zat TX9_numberOf 5 rfl) rfl ?_
    refine w_icmp_ge 30 (zat TX9_numberOf 6 rfl) (by decide) (fun Hc8 => ?_) (fun Hc8 => ?_)
    · refine w_iload_n (zat TX9_numberOf 19 rfl) rfl ?_
      refine w_ireturn (zat TX9_numberOf 20 rfl) rfl rfl ?_
      have e1 : s = e - a := by omega
      subst e1
      exact ⟨rfl, rfl⟩
    · exact absurd (nI_le (by omega) (by have := hT.1; omega)) Hc8
  | succ kk ih =>
    intro s hs
    have hz : a + s < n := by omega
    have hdk := hd (a + s) (by omega) (by omega)
    have hv : nI (dg B a s) * 10 + (sg (B (a + s)) - 48) = nI (dg B a (s + 1)) := by
      rw [sg_lo (by omega), show (48 : Int32) = nI 48 from rfl, nI_sub hdk.1, show (10 : Int32) = nI 10 from rfl, nI_mul2, nI_add]
      rfl
    refine w_iload (zat TX9_numberOf 4 rfl) rfl ?_
    refine w_iload_n (zat TX9_numberOf 5 rfl) rfl ?_
    refine w_icmp_ge 30 (zat TX9_numberOf 6 rfl) (by decide) (fun Hc8 => ?_) (fun Hc8 => ?_)
    · exact absurd Hc8 (nI_ge (by have := hT.1; omega) (by omega))
    · refine w_iload_n (zat TX9_numberOf 7 rfl) rfl ?_
      refine w_bipush (v := 10) (zat TX9_numberOf 8 rfl) (by decide) ?_
      refine w_imul (zat TX9_numberOf 9 rfl) ?_
      refine w_aload_n (zat TX9_numberOf 10 rfl) rfl ?_
      refine w_iload (zat TX9_numberOf 11 rfl) rfl ?_
      refine y_baload (a + s) _ (v := sg (B (a + s))) (zat TX9_numberOf 12 rfl) s79 (by decide) (wcn hW 15 rfl) (by decide) rfl (by have := hT.1; have := hz; omega) (hT.2 _ hz).1 ?_
      refine w_bipush (v := 48) (zat TX9_numberOf 13 rfl) (by decide) ?_
      refine w_isub (zat TX9_numberOf 14 rfl) ?_
      refine w_iadd (zat TX9_numberOf 15 rfl) ?_
      rw [hv]
      refine x_istore_n (ls2 := [_, _, _, _, _]) (zat TX9_numberOf 16 rfl) (by decide) rfl ?_
      refine x_iinc (v := nI (a + (s + 1))) (ls2 := [_, _, _, _, _]) (zat TX9_numberOf 17 rfl) rfl (nI_inc (a + s)) rfl ?_
      refine w_goto 5 (zat TX9_numberOf 18 rfl) (by decide) ?_
      exact ih (s + 1) (by omega)
theorem qX9_numberOf (l : Launch) (h : zH) (hW : Wc h) (n : Nat) (B : Nat → Nat) (hT : Tx h 79 n B) (a e : Nat) (he : e ≤ n) (hae : a ≤ e) (hd : ∀ k, a ≤ k → k < e → isD (B k)) : Cx l 1 mX9_numberOf [Vq (some (79, 0)), Vi (nI a), Vi (nI e)] h (Rv (Vi (nI (dg B a (e - a))))) h := by
  refine Ct.in 2 kX9_numberOf (plainFor_of_name rfl) (Nat.le_of_ble_eq_true rfl) ?_
  refine w_iconst (v := 0) (zat TX9_numberOf 0 rfl) (by decide) ?_
  refine x_istore_n (ls2 := [_, _, _, _, _]) (zat TX9_numberOf 1 rfl) (by decide) rfl ?_
  refine w_iload_n (zat TX9_numberOf 2 rfl) rfl ?_
  refine x_istore (ls2 := [_, _, _, _, _]) (zat TX9_numberOf 3 rfl) (by decide) rfl ?_
  exact lX9_numberOf l h hW n B hT a e he hae hd (e - a) 0 (by omega)
theorem lX9_endOfRun_13 (l : Launch) (h : zH) (hW : Wc h) (n : Nat) (B : Nat → Nat) (hT : Tx h 79 n B) (a : Nat) : ∀ kk s : Nat, s + kk = n → a + 1 ≤ s → (∀ k, a + 1 ≤ k → k < s → pL B n k = true) → Wp l mX9_endOfRun 2 13 [some (Vq (some (79, 0))), some (Vi (nI a)), some (Vi (nI n)), some (Vi (nI s))] [] h (fun o h' => o = Rv (Vi (nI (rn (pL B n) n (a + 1)))) ∧ h' = h) := by
  have hn3 := hT.1
  intro kk
  induction kk with
  | zero =>
    intro s hs hs2 hi
    refine w_iload_n (zat TX9_endOfRun 9 rfl) rfl ?_
    refine w_iload_n (zat TX9_endOfRun 10 rfl) rfl ?_
    refine w_icmp_ge 62 (zat TX9_endOfRun 11 rfl) (by decide) (fun Hc15 => ?_) (fun Hc15 => ?_)
    · refine w_iload_n (zat TX9_endOfRun 34 rfl) rfl ?_
      refine w_ireturn (zat TX9_endOfRun 35 rfl) rfl rfl ?_
      exact ⟨congrArg (fun x => Rv (Vi (nI x))) (rn_one (pL_n (B := B) (n := n)) (by omega) hs2 hi (pL_n s (by omega))).symm, rfl⟩
    · exact absurd (nI_le (by omega) (by have := hT.1; omega)) Hc15
  | succ kk ih =>
    intro s hs hs2 hi
    have hz : s < n := by omega
    have hb := (hT.2 s hz).2
    refine w_iload_n (zat TX9_endOfRun 9 rfl) rfl ?_
    refine w_iload_n (zat TX9_endOfRun 10 rfl) rfl ?_
    refine w_icmp_ge 62 (zat TX9_endOfRun 11 rfl) (by decide) (fun Hc15 => ?_) (fun Hc15 => ?_)
    · exact absurd Hc15 (nI_ge (by have := hT.1; omega) (by omega))
    · refine w_aload_n (zat TX9_endOfRun 12 rfl) rfl ?_
      refine w_iload_n (zat TX9_endOfRun 13 rfl) rfl ?_
      refine y_baload _ _ (v := sg (B (s))) (zat TX9_endOfRun 14 rfl) s79 (by decide) (wcn hW 15 rfl) (by decide) rfl (by have := hT.1; have := hz; omega) (hT.2 _ hz).1 ?_
      refine x_callv1 (qX9_isLetter l h _) (by decide) kX9_isLetter (rdy_S (zat TX9_endOfRun 15 rfl) kX9_isLetter pX9_isLetter zw474 zw475) (Nat.le_of_ble_eq_true rfl) rfl rfl ?_
      refine w_if_eq 62 (zat TX9_endOfRun 16 rfl) (by decide) (fun Hc24 => ?_) (fun Hc24 => ?_)
      · rw [zb_0, sg_L hb] at Hc24
        refine w_iload_n (zat TX9_endOfRun 34 rfl) rfl ?_
        refine w_ireturn (zat TX9_endOfRun 35 rfl) rfl rfl ?_
        exact ⟨congrArg (fun x => Rv (Vi (nI x))) (rn_one (pL_n (B := B) (n := n)) (by omega) hs2 hi (decide_eq_false (fun z => Hc24 z.2))).symm, rfl⟩
      · rw [zb_0, sg_L hb, Decidable.not_not] at Hc24
        refine x_iinc (v := nI (s + 1)) (ls2 := [_, _, _, _]) (zat TX9_endOfRun 17 rfl) rfl (nI_inc s) rfl ?_
        refine w_goto 13 (zat TX9_endOfRun 18 rfl) (by decide) ?_
        exact ih (s + 1) (by omega) (by omega) (fun k h1 h2 => by
          by_cases e : k = s
          · rw [e]; exact decide_eq_true ⟨hz, Hc24⟩
          · exact hi k h1 (by omega))
theorem lX9_endOfRun_42 (l : Launch) (h : zH) (hW : Wc h) (n : Nat) (B : Nat → Nat) (hT : Tx h 79 n B) (a : Nat) : ∀ kk s : Nat, s + kk = n → a + 1 ≤ s → (∀ k, a + 1 ≤ k → k < s → pD B n k = true) → Wp l mX9_endOfRun 2 42 [some (Vq (some (79, 0))), some (Vi (nI a)), some (Vi (nI n)), some (Vi (nI s))] [] h (fun o h' => o = Rv (Vi (nI (rn (pD B n) n (a + 1)))) ∧ h' = h) := by
  have hn3 := hT.1
  intro kk
  induction kk with
  | zero =>
    intro s hs hs2 hi
    refine w_iload_n (zat TX9_endOfRun 24 rfl) rfl ?_
    refine w_iload_n (zat TX9_endOfRun 25 rfl) rfl ?_
    refine w_icmp_ge 62 (zat TX9_endOfRun 26 rfl) (by decide) (fun Hc44 => ?_) (fun Hc44 => ?_)
    · refine w_iload_n (zat TX9_endOfRun 34 rfl) rfl ?_
      refine w_ireturn (zat TX9_endOfRun 35 rfl) rfl rfl ?_
      exact ⟨congrArg (fun x => Rv (Vi (nI x))) (rn_one (pD_n (B := B) (n := n)) (by omega) hs2 hi (pD_n s (by omega))).symm, rfl⟩
    · exact absurd (nI_le (by omega) (by have := hT.1; omega)) Hc44
  | succ kk ih =>
    intro s hs hs2 hi
    have hz : s < n := by omega
    have hb := (hT.2 s hz).2
    refine w_iload_n (zat TX9_endOfRun 24 rfl) rfl ?_
    refine w_iload_n (zat TX9_endOfRun 25 rfl) rfl ?_
    refine w_icmp_ge 62 (zat TX9_endOfRun 26 rfl) (by decide) (fun Hc44 => ?_) (fun Hc44 => ?_)
    · exact absurd Hc44 (nI_ge (by have := hT.1; omega) (by omega))
    · refine w_aload_n (zat TX9_endOfRun 27 rfl) rfl ?_
      refine w_iload_n (zat TX9_endOfRun 28 rfl) rfl ?_
      refine y_baload _ _ (v := sg (B (s))) (zat TX9_endOfRun 29 rfl) s79 (by decide) (wcn hW 15 rfl) (by decide) rfl (by have := hT.1; have := hz; omega) (hT.2 _ hz).1 ?_
      refine x_callv1 (qX9_isDigit l h _) (by decide) kX9_isDigit (rdy_S (zat TX9_endOfRun 30 rfl) kX9_isDigit pX9_isDigit zw477 zw478) (Nat.le_of_ble_eq_true rfl) rfl rfl ?_
      refine w_if_eq 62 (zat TX9_endOfRun 31 rfl) (by decide) (fun Hc53 => ?_) (fun Hc53 => ?_)
      · rw [zb_0, sg_D hb] at Hc53
        refine w_iload_n (zat TX9_endOfRun 34 rfl) rfl ?_
        refine w_ireturn (zat TX9_endOfRun 35 rfl) rfl rfl ?_
        exact ⟨congrArg (fun x => Rv (Vi (nI x))) (rn_one (pD_n (B := B) (n := n)) (by omega) hs2 hi (decide_eq_false (fun z => Hc53 z.2))).symm, rfl⟩
      · rw [zb_0, sg_D hb, Decidable.not_not] at Hc53
        refine x_iinc (v := nI (s + 1)) (ls2 := [_, _, _, _]) (zat TX9_endOfRun 32 rfl) rfl (nI_inc s) rfl ?_
        refine w_goto 42 (zat TX9_endOfRun 33 rfl) (by decide) ?_
        exact ih (s + 1) (by omega) (by omega) (fun k h1 h2 => by
          by_cases e : k = s
          · rw [e]; exact decide_eq_true ⟨hz, Hc53⟩
          · exact hi k h1 (by omega))
theorem qX9_endOfRun (l : Launch) (h : zH) (hW : Wc h) (n : Nat) (B : Nat → Nat) (hT : Tx h 79 n B) (a : Nat) (ha : a < n) : Cx l 2 mX9_endOfRun [Vq (some (79, 0)), Vi (nI a), Vi (nI n)] h (Rv (Vi (nI (lxE B n a)))) h := by
  have hn3 := hT.1
  have hb := (hT.2 a ha).2
  refine Ct.in 1 kX9_endOfRun (plainFor_of_name rfl) (Nat.le_of_ble_eq_true rfl) ?_
  refine w_iload_n (zat TX9_endOfRun 0 rfl) rfl ?_
  refine w_iconst (v := 1) (zat TX9_endOfRun 1 rfl) (by decide) ?_
  refine w_iadd (zat TX9_endOfRun 2 rfl) ?_
  rw [nI_1]
  refine x_istore_n (ls2 := [_, _, _, _]) (zat TX9_endOfRun 3 rfl) (by decide) rfl ?_
  refine w_aload_n (zat TX9_endOfRun 4 rfl) rfl ?_
  refine w_iload_n (zat TX9_endOfRun 5 rfl) rfl ?_
  refine y_baload _ _ (v := sg (B (a))) (zat TX9_endOfRun 6 rfl) s79 (by decide) (wcn hW 15 rfl) (by decide) rfl (by have := hT.1; have := ha; omega) (hT.2 _ ha).1 ?_
  refine x_callv1 (qX9_isLetter l h _) (by decide) kX9_isLetter (rdy_S (zat TX9_endOfRun 7 rfl) kX9_isLetter pX9_isLetter zw474 zw475) (Nat.le_of_ble_eq_true rfl) rfl rfl ?_
  refine w_if_eq 33 (zat TX9_endOfRun 8 rfl) (by decide) (fun Hc10 => ?_) (fun Hc10 => ?_)
  · rw [zb_0, sg_L hb] at Hc10
    refine w_aload_n (zat TX9_endOfRun 19 rfl) rfl ?_
    refine w_iload_n (zat TX9_endOfRun 20 rfl) rfl ?_
    refine y_baload _ _ (v := sg (B (a))) (zat TX9_endOfRun 21 rfl) s79 (by decide) (wcn hW 15 rfl) (by decide) rfl (by have := hT.1; have := ha; omega) (hT.2 _ ha).1 ?_
    refine x_callv1 (qX9_isDigit l h _) (by decide) kX9_isDigit (rdy_S (zat TX9_endOfRun 22 rfl) kX9_isDigit pX9_isDigit zw477 zw478) (Nat.le_of_ble_eq_true rfl) rfl rfl ?_
    refine w_if_eq 62 (zat TX9_endOfRun 23 rfl) (by decide) (fun Hc39 => ?_) (fun Hc39 => ?_)
    · rw [zb_0, sg_D hb] at Hc39
      unfold lxE
      rw [if_neg Hc10, if_neg Hc39]
      refine w_iload_n (zat TX9_endOfRun 34 rfl) rfl ?_
      refine w_ireturn (zat TX9_endOfRun 35 rfl) rfl rfl ?_
      exact ⟨rfl, rfl⟩
    · rw [zb_0, sg_D hb, Decidable.not_not] at Hc39
      unfold lxE
      rw [if_neg Hc10, if_pos Hc39]
      exact lX9_endOfRun_42 l h hW n B hT a (n - (a + 1)) (a + 1) (by omega) (Nat.le_refl _) (fun k h1 h2 => by omega)
  · rw [zb_0, sg_L hb, Decidable.not_not] at Hc10
    unfold lxE
    rw [if_pos Hc10]
    exact lX9_endOfRun_13 l h hW n B hT a (n - (a + 1)) (a + 1) (by omega) (Nat.le_refl _) (fun k h1 h2 => by omega)
theorem qX9_tokenOf (l : Launch) (h : zH) (hW : Wc h) (n : Nat) (B : Nat → Nat) (hT : Tx h 79 n B) (a : Nat) (ha : a < n) : Cx l 8 mX9_tokenOf [Vq (some (79, 0)), Vi (nI a), Vi (nI (lxE B n a))] h (Rv (Vi (tkT B a (lxE B n a)))) h := by
  have hb := (hT.2 a ha).2
  have hbd := lxE_bd (B := B) ha
  have hn := hT.1
  have hD := lxE_D (B := B) (n := n) (s := a)
  refine Ct.in 0 kX9_tokenOf (plainFor_of_name rfl) (Nat.le_of_ble_eq_true rfl) ?_
  refine w_aload_n (zat TX9_tokenOf 0 rfl) rfl ?_
  refine w_iload_n (zat TX9_tokenOf 1 rfl) rfl ?_
  refine y_baload _ _ (v := sg (B (a))) (zat TX9_tokenOf 2 rfl) s79 (by decide) (wcn hW 15 rfl) (by decide) rfl (by have := hT.1; have := ha; omega) (hT.2 _ ha).1 ?_
  refine x_callv1 (qX9_isLetter l h _) (by decide) kX9_isLetter (rdy_S (zat TX9_tokenOf 3 rfl) kX9_isLetter pX9_isLetter zw474 zw475) (Nat.le_of_ble_eq_true rfl) rfl rfl ?_
  refine w_if_eq 29 (zat TX9_tokenOf 4 rfl) (by decide) (fun Hc6 => ?_) (fun Hc6 => ?_)
  · rw [zb_0, sg_L hb] at Hc6
    refine w_aload_n (zat TX9_tokenOf 17 rfl) rfl ?_
    refine w_iload_n (zat TX9_tokenOf 18 rfl) rfl ?_
    refine y_baload _ _ (v := sg (B (a))) (zat TX9_tokenOf 19 rfl) s79 (by decide) (wcn hW 15 rfl) (by decide) rfl (by have := hT.1; have := ha; omega) (hT.2 _ ha).1 ?_
    refine x_callv1 (qX9_isDigit l h _) (by decide) kX9_isDigit (rdy_S (zat TX9_tokenOf 20 rfl) kX9_isDigit pX9_isDigit zw477 zw478) (Nat.le_of_ble_eq_true rfl) rfl rfl ?_
    refine w_if_eq 57 (zat TX9_tokenOf 21 rfl) (by decide) (fun Hc35 => ?_) (fun Hc35 => ?_)
    · rw [zb_0, sg_D hb] at Hc35
      refine w_aload_n (zat TX9_tokenOf 34 rfl) rfl ?_
      refine w_iload_n (zat TX9_tokenOf 35 rfl) rfl ?_
      refine y_baload _ _ (v := sg (B (a))) (zat TX9_tokenOf 36 rfl) s79 (by decide) (wcn hW 15 rfl) (by decide) rfl (by have := hT.1; have := ha; omega) (hT.2 _ ha).1 ?_
      refine x_callv1 (qX9_signOf l h _ hb) (by decide) kX9_signOf (rdy_S (zat TX9_tokenOf 37 rfl) kX9_signOf pX9_signOf zw552 zw553) (Nat.le_of_ble_eq_true rfl) rfl rfl ?_
      refine w_ireturn (zat TX9_tokenOf 38 rfl) rfl rfl ?_
      exact ⟨congrArg (fun x => Rv (Vi x)) (by unfold tkT; rw [if_neg Hc6, if_neg Hc35]), rfl⟩
    · rw [zb_0, sg_D hb, Decidable.not_not] at Hc35
      refine w_iload_n (zat TX9_tokenOf 22 rfl) rfl ?_
      refine w_iload_n (zat TX9_tokenOf 23 rfl) rfl ?_
      refine w_isub (zat TX9_tokenOf 24 rfl) ?_
      refine w_iconst (v := 4) (zat TX9_tokenOf 25 rfl) (by decide) ?_
      rw [nI_sub (by omega)]
      refine w_icmp_le 50 (zat TX9_tokenOf 26 rfl) (by decide) (fun Hc42 => ?_) (fun Hc42 => ?_)
      · have Hz : ¬ 4 < (lxE B n a) - a := by have := (nI_leI (b := 4) (by omega) (by omega)).mp Hc42; omega
        refine w_aload_n (zat TX9_tokenOf 29 rfl) rfl ?_
        refine w_iload_n (zat TX9_tokenOf 30 rfl) rfl ?_
        refine w_iload_n (zat TX9_tokenOf 31 rfl) rfl ?_
        refine x_callv3 (qX9_numberOf l h hW n B hT a (lxE B n a) (by omega) (by omega) (hD Hc6 Hc35)) (by decide) kX9_numberOf (rdy_S (zat TX9_tokenOf 32 rfl) kX9_numberOf pX9_numberOf zw549 zw550) (Nat.le_of_ble_eq_true rfl) rfl rfl ?_
        refine w_ireturn (zat TX9_tokenOf 33 rfl) rfl rfl ?_
        exact ⟨congrArg (fun x => Rv (Vi x)) (by unfold tkT; rw [if_neg Hc6, if_pos Hc35, if_neg Hz]), rfl⟩
      · have Hz : 4 < (lxE B n a) - a := by
          apply Decidable.byContradiction
          intro z
          exact Hc42 ((nI_leI (b := 4) (by omega) (by omega)).mpr (by omega))
        refine w_bipush (v := -22) (zat TX9_tokenOf 27 rfl) (by decide) ?_
        refine w_goto 56 (zat TX9_tokenOf 28 rfl) (by decide) ?_
        refine w_ireturn (zat TX9_tokenOf 33 rfl) rfl rfl ?_
        exact ⟨congrArg (fun x => Rv (Vi x)) (by unfold tkT; rw [if_neg Hc6, if_pos Hc35, if_pos Hz]), rfl⟩
  · rw [zb_0, sg_L hb, Decidable.not_not] at Hc6
    refine w_iload_n (zat TX9_tokenOf 5 rfl) rfl ?_
    refine w_iload_n (zat TX9_tokenOf 6 rfl) rfl ?_
    refine w_isub (zat TX9_tokenOf 7 rfl) ?_
    refine w_bipush (v := 8) (zat TX9_tokenOf 8 rfl) (by decide) ?_
    rw [nI_sub (by omega)]
    refine w_icmp_le 22 (zat TX9_tokenOf 9 rfl) (by decide) (fun Hc14 => ?_) (fun Hc14 => ?_)
    · have Hz : ¬ 8 < (lxE B n a) - a := by have := (nI_leI (b := 8) (by omega) (by omega)).mp Hc14; omega
      refine w_aload_n (zat TX9_tokenOf 12 rfl) rfl ?_
      refine w_iload_n (zat TX9_tokenOf 13 rfl) rfl ?_
      refine w_iload_n (zat TX9_tokenOf 14 rfl) rfl ?_
      refine x_callv3 (qX9_wordOf l h hW n B hT a (lxE B n a) (by omega) (by omega)) (by decide) kX9_wordOf (rdy_S (zat TX9_tokenOf 15 rfl) kX9_wordOf pX9_wordOf zw483 zw484) (Nat.le_of_ble_eq_true rfl) rfl rfl ?_
      refine w_ireturn (zat TX9_tokenOf 16 rfl) rfl rfl ?_
      exact ⟨congrArg (fun x => Rv (Vi x)) (by unfold tkT; rw [if_pos Hc6, if_neg Hz]), rfl⟩
    · have Hz : 8 < (lxE B n a) - a := by
        apply Decidable.byContradiction
        intro z
        exact Hc14 ((nI_leI (b := 8) (by omega) (by omega)).mpr (by omega))
      refine w_bipush (v := -22) (zat TX9_tokenOf 10 rfl) (by decide) ?_
      refine w_goto 28 (zat TX9_tokenOf 11 rfl) (by decide) ?_
      refine w_ireturn (zat TX9_tokenOf 16 rfl) rfl rfl ?_
      exact ⟨congrArg (fun x => Rv (Vi x)) (by unfold tkT; rw [if_pos Hc6, if_pos Hz]), rfl⟩
def tAdd (h : zH) (i : Nat) (t p : Int32) : zH := zsI (zsI (zsI h 80 0 i t) 81 0 i p) 73 0 2 (nI (i + 1))
theorem qX9_add (l : Launch) (h : zH) (hW : Wc h) (i : Nat) (hi : zI h 73 0 2 = nI i) (hi2 : i < 301) (t p : Int32) : Cx l 1 mX9_add [Vq (some (73, 0)), Vi t, Vi p] h R0 (tAdd h i t p) := by
  refine Ct.in 0 kX9_add (plainFor_of_name rfl) (Nat.le_of_ble_eq_true rfl) ?_
  refine w_aload_n (zat TX9_add 0 rfl) rfl ?_
  refine y_getI (v := nI i) (zat TX9_add 1 rfl) fX9_18 s73 (by decide) (by decide) rfl hi ?_
  refine w_aload_n (zat TX9_add 2 rfl) rfl ?_
  refine w_getR (zat TX9_add 3 rfl) fX9_9 s73 (by decide) (by decide) rfl (wcr hW 25 rfl) ?_
  refine w_alen (zat TX9_add 4 rfl) (by decide) (by decide) (congrArg nI (wcn hW 16 rfl)) ?_
  refine w_icmp_ge 42 (zat TX9_add 5 rfl) (by decide) (fun Hc9 => ?_) (fun Hc9 => ?_)
  · exact absurd Hc9 (nI_ge (b := 301) (by omega) (by omega))
  · refine w_aload_n (zat TX9_add 6 rfl) rfl ?_
    refine w_getR (zat TX9_add 7 rfl) fX9_9 s73 (by decide) (by decide) rfl (wcr hW 25 rfl) ?_
    refine w_aload_n (zat TX9_add 8 rfl) rfl ?_
    refine y_getI (v := nI i) (zat TX9_add 9 rfl) fX9_18 s73 (by decide) (by decide) rfl hi ?_
    refine w_iload_n (zat TX9_add 10 rfl) rfl ?_
    refine x_iastore _ _ (zat TX9_add 11 rfl) s80 (by decide) (wcn hW 16 rfl) (by decide) rfl (by omega) ?_
    refine w_aload_n (zat TX9_add 12 rfl) rfl ?_
    refine w_getR (zat TX9_add 13 rfl) fX9_15 s73 (by decide) (by decide) rfl (wcr hW 26 rfl) ?_
    refine w_aload_n (zat TX9_add 14 rfl) rfl ?_
    refine y_getI (v := nI i) (zat TX9_add 15 rfl) fX9_18 s73 (by decide) (by decide) rfl ((zI_st _ 80 0 _ _ (by decide) 0 2).trans hi) ?_
    refine w_iload_n (zat TX9_add 16 rfl) rfl ?_
    refine x_iastore _ _ (zat TX9_add 17 rfl) s81 (by decide) (wcn hW 17 rfl) (by decide) rfl (by omega) ?_
    refine w_aload_n (zat TX9_add 18 rfl) rfl ?_
    refine w_dup (zat TX9_add 19 rfl) rfl ?_
    refine y_getI (v := nI i) (zat TX9_add 20 rfl) fX9_18 s73 (by decide) (by decide) rfl ((zI_st _ 81 0 _ _ (by decide) 0 2).trans ((zI_st _ 80 0 _ _ (by decide) 0 2).trans hi)) ?_
    refine w_iconst (v := 1) (zat TX9_add 21 rfl) (by decide) ?_
    refine w_iadd (zat TX9_add 22 rfl) ?_
    rw [nI_1]
    refine w_putI (zat TX9_add 23 rfl) gX9_add_18 s73 (by decide) (by decide) rfl ⟨rfl, rfl⟩ ?_
    refine w_return (zat TX9_add 24 rfl) rfl ?_
    exact ⟨rfl, rfl⟩
