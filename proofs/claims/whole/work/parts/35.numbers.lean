-- NUMBERS (the first rows are pasted from kit/laws/COUNTS.to-paste, as it allows; wip/gen/p35.py)
theorem fb_rng (x : Int32) : -2147483648 ≤ x.toInt ∧ x.toInt < 2147483648 := by
  have h1 := Int32.le_toInt x
  have h2 := Int32.toInt_lt x
  omega
theorem fb_bmod {z : Int} (h1 : -2147483648 ≤ z) (h2 : z < 2147483648) : z.bmod (2 ^ 32) = z := by
  rw [Int.bmod_eq_of_le (by omega) (by omega)]
theorem fb_addI {x y : Int32} (h1 : -2147483648 ≤ x.toInt + y.toInt) (h2 : x.toInt + y.toInt < 2147483648) : (x + y).toInt = x.toInt + y.toInt := by
  rw [Int32.toInt_add, fb_bmod h1 h2]
theorem fb_subI {x y : Int32} (h1 : -2147483648 ≤ x.toInt - y.toInt) (h2 : x.toInt - y.toInt < 2147483648) : (x - y).toInt = x.toInt - y.toInt := by
  rw [Int32.toInt_sub, fb_bmod h1 h2]
theorem fb_mulI {x y : Int32} (h1 : -2147483648 ≤ x.toInt * y.toInt) (h2 : x.toInt * y.toInt < 2147483648) : (x * y).toInt = x.toInt * y.toInt := by
  rw [Int32.toInt_mul, fb_bmod h1 h2]
theorem fb_negI {x : Int32} (h : x.toInt ≠ -2147483648) : (-x).toInt = -x.toInt := by
  have := fb_rng x
  rw [Int32.toInt_neg, fb_bmod (by omega) (by omega)]
theorem fb_ofI {z : Int} (h1 : -2147483648 ≤ z) (h2 : z < 2147483648) : (Int32.ofInt z).toInt = z := by
  rw [Int32.toInt_ofInt, fb_bmod h1 h2]
theorem fb_asI (x : Int32) : Int32.ofInt x.toInt = x := Int32.ofInt_toInt x
theorem fb_rngL (x : Int64) : -9223372036854775808 ≤ x.toInt ∧ x.toInt < 9223372036854775808 := by
  have h1 := Int64.le_toInt x
  have h2 := Int64.toInt_lt x
  omega
theorem fb_bmodL {z : Int} (h1 : -9223372036854775808 ≤ z) (h2 : z < 9223372036854775808) : z.bmod (2 ^ 64) = z := by
  rw [Int.bmod_eq_of_le (by omega) (by omega)]
theorem fb_addL {x y : Int64} (h1 : -9223372036854775808 ≤ x.toInt + y.toInt) (h2 : x.toInt + y.toInt < 9223372036854775808) : (x + y).toInt = x.toInt + y.toInt := by
  rw [Int64.toInt_add, fb_bmodL h1 h2]
theorem fb_subL {x y : Int64} (h1 : -9223372036854775808 ≤ x.toInt - y.toInt) (h2 : x.toInt - y.toInt < 9223372036854775808) : (x - y).toInt = x.toInt - y.toInt := by
  rw [Int64.toInt_sub, fb_bmodL h1 h2]
theorem fb_mulL {x y : Int64} (h1 : -9223372036854775808 ≤ x.toInt * y.toInt) (h2 : x.toInt * y.toInt < 9223372036854775808) : (x * y).toInt = x.toInt * y.toInt := by
  rw [Int64.toInt_mul, fb_bmodL h1 h2]
theorem bnd_toInt (v : Int64) (lo hi : Int32) (h : lo.toInt ≤ hi.toInt) : (bnd v lo hi).toInt = max lo.toInt (min hi.toInt v.toInt) := by
  have r1 := fb_rng lo
  have r2 := fb_rng hi
  have key : ∀ x : Int64, x.toInt = max lo.toInt (min hi.toInt v.toInt) → x.toInt32.toInt = max lo.toInt (min hi.toInt v.toInt) := fun x hx => by
    rw [Int64.toInt_toInt32, hx, fb_bmod (by omega) (by omega)]
  unfold bnd
  apply key
  by_cases h1 : v < hi.toInt64
  · rw [if_pos h1]
    rw [Int64.lt_iff_toInt_lt, Int32.toInt_toInt64] at h1
    by_cases h2 : lo.toInt64 < v
    · rw [if_pos h2]
      rw [Int64.lt_iff_toInt_lt, Int32.toInt_toInt64] at h2
      omega
    · rw [if_neg h2, Int32.toInt_toInt64]
      rw [Int64.lt_iff_toInt_lt, Int32.toInt_toInt64] at h2
      omega
  · rw [if_neg h1]
    rw [Int64.lt_iff_toInt_lt, Int32.toInt_toInt64] at h1
    by_cases h2 : lo.toInt64 < hi.toInt64
    · rw [if_pos h2, Int32.toInt_toInt64]
      rw [Int64.lt_iff_toInt_lt, Int32.toInt_toInt64, Int32.toInt_toInt64] at h2
      omega
    · rw [if_neg h2, Int32.toInt_toInt64]
      rw [Int64.lt_iff_toInt_lt, Int32.toInt_toInt64, Int32.toInt_toInt64] at h2
      omega
theorem i32_inj {a b : Int32} (h : a.toInt = b.toInt) : a = b := Int32.toInt_inj.mp h
theorem clampEq (v lim : Int32) (hl : 0 ≤ lim) : (if 0 < (if v < lim then v else lim) then (if v < lim then v else lim) else 0) = bnd v.toInt64 0 lim := by
  have z0 : (0 : Int32).toInt = 0 := by decide
  rw [Int32.le_iff_toInt_le, z0] at hl
  apply i32_inj
  rw [bnd_toInt _ _ _ (by rw [z0]; exact hl), Int32.toInt_toInt64, z0]
  by_cases h1 : v < lim
  · rw [if_pos h1]
    rw [Int32.lt_iff_toInt_lt] at h1
    by_cases h2 : 0 < v
    · rw [if_pos h2]
      rw [Int32.lt_iff_toInt_lt, z0] at h2
      omega
    · rw [if_neg h2, z0]
      rw [Int32.lt_iff_toInt_lt, z0] at h2
      omega
  · rw [if_neg h1]
    rw [Int32.lt_iff_toInt_lt] at h1
    by_cases h2 : 0 < lim
    · rw [if_pos h2]
      rw [Int32.lt_iff_toInt_lt, z0] at h2
      omega
    · rw [if_neg h2, z0]
      rw [Int32.lt_iff_toInt_lt, z0] at h2
      omega
/-- what stands on the pile is never below -1,000,000 -/
theorem opv_lo (s : Nat) (a b : Int32) : -1000000 ≤ (opv s a b).toInt := by
  unfold opv
  rw [bnd_toInt _ _ _ (by decide)]
  have : (-1000000 : Int32).toInt = -1000000 := by decide
  omega
theorem stp_lo {env : Nat → Int32} (he : ∀ k, k < 4 → -1000000 ≤ (env k).toInt) {it : Nat × Int32} (hok : okI it) {L : List Int32} {b : Bool} (hL : ∀ x ∈ L, -1000000 ≤ x.toInt) : ∀ x ∈ (stp env it (L, b)).1, -1000000 ≤ x.toInt := by
  unfold stp
  by_cases h1 : it.1 ≤ 1
  · rw [if_pos h1]
    intro x hx
    rcases List.mem_cons.mp hx with e | e
    · subst e
      unfold vlI
      rcases hok with ⟨h0, h2, -⟩ | ⟨h0, k, hk, hv⟩ | ⟨h0, -⟩
      · rw [if_pos h0]
        rw [Int32.le_iff_toInt_le] at h2
        have : (0 : Int32).toInt = 0 := by decide
        omega
      · rw [if_neg (by omega), hv, nI_clamp (by omega)]
        exact he k hk
      · omega
    · exact hL x e
  · rw [if_neg h1]
    dsimp only
    split
    · rename_i b2 a r
      split
      · exact fun x hx => hL x (List.mem_cons_of_mem _ (List.mem_cons_of_mem _ hx))
      · intro x hx
        rcases List.mem_cons.mp hx with e | e
        · subst e; exact opv_lo _ _ _
        · exact hL x (List.mem_cons_of_mem _ (List.mem_cons_of_mem _ e))
    · exact hL
theorem runI_lo {env : Nat → Int32} (he : ∀ k, k < 4 → -1000000 ≤ (env k).toInt) : ∀ {its : List (Nat × Int32)}, (∀ it ∈ its, okI it) → ∀ {L : List Int32} {b : Bool}, (∀ x ∈ L, -1000000 ≤ x.toInt) → ∀ x ∈ (runI env its (L, b)).1, -1000000 ≤ x.toInt
  | [], _, _, _, hL => hL
  | it :: t, hok, L, b, hL => by
    show ∀ x ∈ (runI env t (stp env it (L, b))).1, -1000000 ≤ x.toInt
    have h1 := stp_lo he (hok it List.mem_cons_self) (b := b) hL
    obtain ⟨L', b', hs⟩ : ∃ L' b', stp env it (L, b) = (L', b') := ⟨_, _, rfl⟩
    rw [hs] at h1 ⊢
    exact runI_lo he (fun it' h => hok it' (List.mem_cons_of_mem _ h)) h1
theorem lnV_lo {env : Nat → Int32} (he : ∀ k, k < 4 → -1000000 ≤ (env k).toInt) {its : List (Nat × Int32)} (hok : ∀ it ∈ its, okI it) {v : Int32} (h : lnV env its = some v) : -1000000 ≤ v := by
  unfold lnV at h
  have h1 := runI_lo he hok (L := []) (b := true) (fun x hx => by cases hx)
  obtain ⟨L', b', hs⟩ : ∃ L' b', runI env its ([], true) = (L', b') := ⟨_, _, rfl⟩
  rw [hs] at h h1
  match L', b', h with
  | w :: r, true, h =>
    cases h
    rw [Int32.le_iff_toInt_le]
    have : (-1000000 : Int32).toInt = -1000000 := by decide
    have := h1 v List.mem_cons_self
    omega
