-- the sums of the market (wip/gen/p62.py)
section
variable (due rest pe : Nat → Int64) (so : Nat → Nat)
def tM (j : Nat) : Nat → Int64
  | 0 => due j * pe j
  | q + 1 => tM j q + (if so q = j then rest q * pe j else 0)
def tC (j : Nat) : Nat → Int64
  | 0 => due j
  | q + 1 => if so q = j then tC j q + rest q else tC j q
def sM (n : Nat) : Nat → Int64
  | 0 => 0
  | p + 1 => sM n p + tM due rest pe so p n
def sA : Nat → Int64
  | 0 => 0
  | p + 1 => sA p + due p * pe p
def sB (k : Nat) : Nat → Int64
  | 0 => 0
  | q + 1 => sB k q + (if so q < k then rest q * pe (so q) else 0)
def sC : Nat → Int64
  | 0 => 0
  | q + 1 => sC q + (due q * pe q + rest q * pe (so q))
theorem tM_tC (j : Nat) : ∀ n, tM due rest pe so j n = tC due rest so j n * pe j
  | 0 => rfl
  | n + 1 => by
    show tM due rest pe so j n + (if so n = j then rest n * pe j else 0) = (if so n = j then tC due rest so j n + rest n else tC due rest so j n) * pe j
    rw [tM_tC j n]
    by_cases e : so n = j
    · rw [if_pos e, if_pos e, Int64.add_mul]
    · rw [if_neg e, if_neg e, Int64.add_zero]
theorem sM_0 : ∀ k, sM due rest pe so 0 k = sA due pe k
  | 0 => rfl
  | k + 1 => by
    show sM due rest pe so 0 k + due k * pe k = sA due pe k + due k * pe k
    rw [sM_0 k]
theorem sM_s (n : Nat) : ∀ k, sM due rest pe so (n + 1) k = sM due rest pe so n k + (if so n < k then rest n * pe (so n) else 0)
  | 0 => by
    rw [if_neg (by omega)]
    exact (Int64.add_zero _).symm
  | k + 1 => by
    show sM due rest pe so (n + 1) k + (tM due rest pe so k n + (if so n = k then rest n * pe k else 0)) = sM due rest pe so n k + tM due rest pe so k n + (if so n < k + 1 then rest n * pe (so n) else 0)
    rw [sM_s n k]
    by_cases e : so n = k
    · rw [if_pos e, if_neg (by omega), if_pos (by omega), e, Int64.add_zero, Int64.add_assoc]
    · rw [if_neg e, Int64.add_zero]
      by_cases e2 : so n < k
      · rw [if_pos e2, if_pos (by omega), Int64.add_assoc, Int64.add_assoc, Int64.add_comm (tM due rest pe so k n)]
      · rw [if_neg e2, if_neg (by omega), Int64.add_zero, Int64.add_zero]
theorem sM_AB (k : Nat) : ∀ n, sM due rest pe so n k = sA due pe k + sB rest pe so k n
  | 0 => by
    rw [sM_0]
    exact (Int64.add_zero _).symm
  | n + 1 => by
    rw [sM_s, sM_AB k n, Int64.add_assoc]
    rfl
theorem sC_AB (k : Nat) : ∀ n, (∀ q, q < n → so q < k) → sC due rest pe so n = sA due pe n + sB rest pe so k n
  | 0, _ => (Int64.add_zero _).symm
  | n + 1, h => by
    show sC due rest pe so n + (due n * pe n + rest n * pe (so n)) = (sA due pe n + due n * pe n) + (sB rest pe so k n + (if so n < k then rest n * pe (so n) else 0))
    rw [sC_AB k n (fun q hq => h q (by omega)), if_pos (h n (by omega))]
    generalize sA due pe n = A
    generalize sB rest pe so k n = B
    generalize due n * pe n = C
    generalize rest n * pe (so n) = E
    rw [Int64.add_assoc, Int64.add_assoc, ← Int64.add_assoc B C E, Int64.add_comm B C, Int64.add_assoc C B E]
theorem sM_sC (n : Nat) (h : ∀ q, q < n → so q < n) : sM due rest pe so n n = sC due rest pe so n := by
  rw [sM_AB, sC_AB due rest pe so n n h]
end
