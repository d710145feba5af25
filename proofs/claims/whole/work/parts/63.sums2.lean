-- the sums on the heap (wip/gen/p63.py)
def mDu (h : zH) (p : Nat) : Int64 := (zI h 10 0 p).toInt64 * (zI h 22 0 p).toInt64
def mPe (h : zH) (p : Nat) : Int64 := (zI h 21 0 p).toInt64
def cPe (h : zH) (p : Nat) : Int64 := (zI h 64 0 p).toInt64
theorem mTk_eq {h : zH} {so : Nat → Nat} {j : Nat} (hj : j < 1000) : ∀ n, (∀ q, q < n → zI h 24 0 q = nI (so q) ∧ so q < 1000) → mTk h j n = tM (mDu h) (mRest h) (mPe h) so j n
  | 0, _ => rfl
  | n + 1, hs => by
    have h1 := hs n (by omega)
    have ih := mTk_eq hj n (fun q hq => hs q (by omega))
    show mTk h j n + (if zI h 24 0 n = nI j then mRest h n * mPe h j else 0) = tM (mDu h) (mRest h) (mPe h) so j n + (if so n = j then mRest h n * mPe h j else 0)
    rw [ih, h1.1]
    by_cases e : so n = j
    · rw [if_pos e, if_pos (congrArg nI e)]
    · rw [if_neg e, if_neg (fun z => e (nIe (by omega) (by omega) z))]
theorem mCr_eq {h : zH} {so : Nat → Nat} {n : Nat} (hn : n < 1000) (hs : ∀ q, q < n → zI h 24 0 q = nI (so q) ∧ so q < 1000) : ∀ k, k ≤ n → mCr h n k = sM (mDu h) (mRest h) (mPe h) so n k
  | 0, _ => rfl
  | k + 1, hk => by
    show mCr h n k + mTk h k n = sM (mDu h) (mRest h) (mPe h) so n k + tM (mDu h) (mRest h) (mPe h) so k n
    rw [mCr_eq hn hs k (by omega), mTk_eq (so := so) (by omega) n hs]
theorem cTk_eq (h : zH) (so : Nat → Nat) (j : Nat) : ∀ n, cTk h so j n = tC (zL h 65 0) (zL h 66 0) so j n
  | 0 => rfl
  | n + 1 => by
    show (if so n = j then cTk h so j n + zL h 66 0 n else cTk h so j n) = (if so n = j then tC (zL h 65 0) (zL h 66 0) so j n + zL h 66 0 n else tC (zL h 65 0) (zL h 66 0) so j n)
    rw [cTk_eq h so j n]
theorem cCr_eq (h : zH) (so : Nat → Nat) : ∀ n, cCr h so n = sC (zL h 65 0) (zL h 66 0) (cPe h) so n
  | 0 => rfl
  | n + 1 => by
    show cCr h so n + (zL h 65 0 n * cPe h n + zL h 66 0 n * cPe h (so n)) = sC (zL h 65 0) (zL h 66 0) (cPe h) so n + (zL h 65 0 n * cPe h n + zL h 66 0 n * cPe h (so n))
    rw [cCr_eq h so n]
theorem tC_congr {due rest due' rest' : Nat → Int64} {so so' : Nat → Nat} {j : Nat} (hj : due j = due' j) : ∀ n, (∀ q, q < n → rest q = rest' q ∧ so q = so' q) → tC due rest so j n = tC due' rest' so' j n
  | 0, _ => hj
  | n + 1, h => by
    show (if so n = j then tC due rest so j n + rest n else tC due rest so j n) = (if so' n = j then tC due' rest' so' j n + rest' n else tC due' rest' so' j n)
    rw [tC_congr hj n (fun q hq => h q (by omega)), (h n (by omega)).1, (h n (by omega)).2]
theorem sC_congr {due rest pe due' rest' pe' : Nat → Int64} {so so' : Nat → Nat} {N : Nat} (h : ∀ q, q < N → due q = due' q ∧ rest q = rest' q ∧ pe q = pe' q ∧ so q = so' q ∧ so q < N) : ∀ n, n ≤ N → sC due rest pe so n = sC due' rest' pe' so' n
  | 0, _ => rfl
  | n + 1, hn => by
    obtain ⟨h1, h2, h3, h4, h5⟩ := h n (by omega)
    have h6 := (h (so n) h5).2.2.1
    show sC due rest pe so n + (due n * pe n + rest n * pe (so n)) = sC due' rest' pe' so' n + (due' n * pe' n + rest' n * pe' (so' n))
    rw [sC_congr h n (by omega), h1, h2, h3, h6, h4]
theorem lo_congr {h h' : zH} {so so' : Nat → Nat} {N : Nat} (hh : ∀ q, q < N → mRest h q = zL h' 66 0 q ∧ zI h 21 0 q = zI h' 64 0 q ∧ so q = so' q ∧ so q < N) : ∀ n, n ≤ N → mLo h so n = cLo h' so' n
  | 0, _ => rfl
  | n + 1, hn => by
    obtain ⟨h1, h2, h3, h4⟩ := hh n (by omega)
    have h5 := (hh (so n) h4).2.1
    show mLo h so n + mRest h n * (zI h 21 0 n - zI h 21 0 (so n)).toInt64 = cLo h' so' n + zL h' 66 0 n * (zI h' 64 0 n - zI h' 64 0 (so' n)).toInt64
    rw [lo_congr hh n (by omega), h1, h2, h5, h3]
/-- what the crown takes, and each province: the same on both sides -/
theorem cr_both {h h' : zH} {so so' : Nat → Nat} {N : Nat} (hN : N ≤ 10) (hs : ∀ q, q < N → zI h 24 0 q = nI (so q) ∧ so q < N) (hh : ∀ q, q < N → mDu h q = zL h' 65 0 q ∧ mRest h q = zL h' 66 0 q ∧ zI h 21 0 q = zI h' 64 0 q ∧ so q = so' q) : mCr h N N = cCr h' so' N ∧ ∀ j, j < N → mTk h j N = cTk h' so' j N * (zI h' 64 0 j).toInt64 := by
  have hs2 : ∀ q, q < N → zI h 24 0 q = nI (so q) ∧ so q < 1000 := fun q hq => ⟨(hs q hq).1, by have := (hs q hq).2; omega⟩
  refine ⟨?_, fun j hj => ?_⟩
  · rw [mCr_eq (by omega) hs2 N (Nat.le_refl _), sM_sC _ _ _ _ N (fun q hq => (hs q hq).2), cCr_eq]
    exact sC_congr (N := N) (fun q hq => by
      obtain ⟨h1, h2, h3, h4⟩ := hh q hq
      exact ⟨h1, h2, by unfold mPe cPe; rw [h3], h4, (hs q hq).2⟩) N (Nat.le_refl _)
  · rw [mTk_eq (so := so) (by omega) N hs2, tM_tC, cTk_eq, tC_congr (hh j hj).1 N (fun q hq => ⟨(hh q hq).2.1, (hh q hq).2.2.2⟩)]
    unfold mPe
    rw [(hh j hj).2.2.1]
