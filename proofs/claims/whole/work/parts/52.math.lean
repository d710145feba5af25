-- the mathematics of the ways (wip/gen/p52.py)
theorem dF_anti (D : Nat → Nat → Nat) (k a b : Nat) : ∀ j, dF D (k + j) a b ≤ dF D k a b
  | 0 => Nat.le_refl _
  | j + 1 => Nat.le_trans (Nat.min_le_left _ _) (dF_anti D k a b j)
/-- each province between that was tried keeps the triangle -/
theorem dF_tri {D : Nat → Nat → Nat} (hD : ∀ a, D a a = 0) : ∀ k c a b, c < k → dF D k a b ≤ dF D k a c + dF D k c b
  | 0, c, a, b, h => by omega
  | k + 1, c, a, b, h => by
    have hk := dF_aa hD k k
    show dK (dF D k) k a b ≤ dK (dF D k) k a c + dK (dF D k) k c b
    by_cases e : c = k
    · subst e
      unfold dK
      rw [hk]
      omega
    · have i1 := dF_tri hD k c a b (by omega)
      have i2 := dF_tri hD k c k b (by omega)
      have i3 := dF_tri hD k c a k (by omega)
      unfold dK
      omega
/-- what is still under every border is under every way -/
theorem dF_pot {D : Nat → Nat → Nat} {F : Nat → Nat} {s n : Nat} (hD : ∀ a b, a < n → b < n → F b ≤ F a + s * D a b) : ∀ k, k ≤ n → ∀ a b, a < n → b < n → F b ≤ F a + s * dF D k a b
  | 0, _, a, b, ha, hb => hD a b ha hb
  | k + 1, hk, a, b, ha, hb => by
    have i1 := dF_pot hD k (by omega) a b ha hb
    have i2 := dF_pot hD k (by omega) a k ha (by omega)
    have i3 := dF_pot hD k (by omega) k b (by omega) hb
    show F b ≤ F a + s * min (dF D k a b) (dF D k a k + dF D k k b)
    rcases Nat.le_total (dF D k a b) (dF D k a k + dF D k k b) with q | q
    · rw [Nat.min_eq_left q]; exact i1
    · rw [Nat.min_eq_right q, Nat.mul_add]; omega
/-- the table of the borders lies under each border -/
theorem dEs_edge (on ot c : Nat → Nat) : ∀ nB k, k < nB → dEs on ot c nB (on k) (ot k) ≤ c k ∧ dEs on ot c nB (ot k) (on k) ≤ c k
  | 0, k, h => by omega
  | nB + 1, k, h => by
    show dE _ _ _ _ _ _ ≤ _ ∧ dE _ _ _ _ _ _ ≤ _
    by_cases e : k = nB
    · subst e
      unfold dE
      rw [if_pos (Or.inl ⟨rfl, rfl⟩), if_pos (Or.inr ⟨rfl, rfl⟩)]
      exact ⟨Nat.min_le_right _ _, Nat.min_le_right _ _⟩
    · have ih := dEs_edge on ot c nB k (by omega)
      unfold dE
      refine ⟨?_, ?_⟩
      · split
        · exact Nat.le_trans (Nat.min_le_left _ _) ih.1
        · exact ih.1
      · split
        · exact Nat.le_trans (Nat.min_le_left _ _) ih.2
        · exact ih.2
/-- an entry of the table is nought on the diagonal, the cost of a border, or far -/
theorem dEs_is (on ot c : Nat → Nat) (a b : Nat) : ∀ nB, dEs on ot c nB a b = d0 a b ∨ ∃ k, k < nB ∧ (a = on k ∧ b = ot k ∨ a = ot k ∧ b = on k) ∧ dEs on ot c nB a b = c k
  | 0 => Or.inl rfl
  | nB + 1 => by
    have ih : dEs on ot c nB a b = d0 a b ∨ ∃ k, k < nB + 1 ∧ (a = on k ∧ b = ot k ∨ a = ot k ∧ b = on k) ∧ dEs on ot c nB a b = c k := by
      rcases dEs_is on ot c a b nB with q | ⟨k, h1, h2, h3⟩
      · exact Or.inl q
      · exact Or.inr ⟨k, by omega, h2, h3⟩
    show dE _ _ _ _ a b = d0 a b ∨ ∃ k, k < nB + 1 ∧ (a = on k ∧ b = ot k ∨ a = ot k ∧ b = on k) ∧ dE _ _ _ _ a b = c k
    unfold dE
    by_cases e : a = on nB ∧ b = ot nB ∨ a = ot nB ∧ b = on nB
    · rw [if_pos e]
      rcases Nat.le_total (dEs on ot c nB a b) (c nB) with q | q
      · rw [Nat.min_eq_left q]; exact ih
      · rw [Nat.min_eq_right q]; exact Or.inr ⟨nB, by omega, e, rfl⟩
    · rw [if_neg e]; exact ih
/-- the borders of the land, costs and the like -/
def LB (nP nB : Nat) (on ot c : Nat → Nat) : Prop := ∀ k, k < nB → on k < nP ∧ ot k < nP ∧ on k ≠ ot k ∧ 1 ≤ c k ∧ c k < 3000
theorem dW_aa {on ot c : Nat → Nat} {nB nP : Nat} (hL : LB nP nB on ot c) (a : Nat) : dW on ot c nB nP a a = 0 := dF_aa (fun a => dEs_aa on ot c a nB (fun i hi => (hL i hi).2.2.1)) nP a
theorem dW_tri {on ot c : Nat → Nat} {nB nP : Nat} (hL : LB nP nB on ot c) {x : Nat} (hx : x < nP) (a b : Nat) : dW on ot c nB nP a b ≤ dW on ot c nB nP a x + dW on ot c nB nP x b := dF_tri (fun a => dEs_aa on ot c a nB (fun i hi => (hL i hi).2.2.1)) nP x a b hx
theorem dW_edge (on ot c : Nat → Nat) (nB nP : Nat) {k : Nat} (hk : k < nB) : dW on ot c nB nP (on k) (ot k) ≤ c k ∧ dW on ot c nB nP (ot k) (on k) ≤ c k := by
  have h1 := dF_anti (dEs on ot c nB) 0 (on k) (ot k) nP
  have h2 := dF_anti (dEs on ot c nB) 0 (ot k) (on k) nP
  rw [Nat.zero_add] at h1 h2
  have := dEs_edge on ot c nB k hk
  exact ⟨Nat.le_trans h1 this.1, Nat.le_trans h2 this.2⟩
/-- a way that is not too far ends with a border -/
theorem dW_last {on ot c : Nat → Nat} {nB nP : Nat} (hL : LB nP nB on ot c) : ∀ k, k ≤ nP → ∀ a b, a ≠ b → dF (dEs on ot c nB) k a b < 100000000 → ∃ i u, i < nB ∧ (u = on i ∧ b = ot i ∨ u = ot i ∧ b = on i) ∧ dW on ot c nB nP a u + c i ≤ dF (dEs on ot c nB) k a b
  | 0, _, a, b, hab, hlt => by
    have hlt' : dEs on ot c nB a b < 100000000 := hlt
    rcases dEs_is on ot c a b nB with q | ⟨i, h1, h2, h3⟩
    · rw [q, d0, if_neg hab] at hlt'
      omega
    · refine ⟨i, a, h1, h2, ?_⟩
      show _ ≤ dEs on ot c nB a b
      rw [dW_aa hL, h3]
      omega
  | k + 1, hk, a, b, hab, hlt => by
    have hkk : dF (dEs on ot c nB) k k k = 0 := dF_aa (fun a => dEs_aa on ot c a nB (fun i hi => (hL i hi).2.2.1)) k k
    have e : dF (dEs on ot c nB) (k + 1) a b = min (dF (dEs on ot c nB) k a b) (dF (dEs on ot c nB) k a k + dF (dEs on ot c nB) k k b) := rfl
    rw [e] at hlt ⊢
    rcases Nat.le_total (dF (dEs on ot c nB) k a b) (dF (dEs on ot c nB) k a k + dF (dEs on ot c nB) k k b) with q | q
    · rw [Nat.min_eq_left q] at hlt ⊢
      exact dW_last hL k (by omega) a b hab hlt
    · rw [Nat.min_eq_right q] at hlt ⊢
      by_cases eb : b = k
      · subst eb
        rw [hkk, Nat.add_zero] at hlt ⊢
        exact dW_last hL b (by omega) a b hab hlt
      · obtain ⟨i, u, h1, h2, h3⟩ := dW_last hL k (by omega) k b (fun z => eb z.symm) (by omega)
        refine ⟨i, u, h1, h2, ?_⟩
        have t := dW_tri hL (show k < nP by omega) a u
        have m := dF_anti (dEs on ot c nB) k a k (nP - k)
        rw [show k + (nP - k) = nP by omega] at m
        have m2 : dW on ot c nB nP a k ≤ dF (dEs on ot c nB) k a k := m
        omega
