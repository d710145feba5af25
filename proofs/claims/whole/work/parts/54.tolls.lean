-- the tolls to a province: the class's rounds against the model's table (wip/gen/p54.py)
theorem dEs_sym (on ot c : Nat → Nat) : ∀ nB a b, dEs on ot c nB a b = dEs on ot c nB b a
  | 0, a, b => by
    show d0 a b = d0 b a
    unfold d0
    by_cases e : a = b
    · rw [if_pos e, if_pos e.symm]
    · rw [if_neg e, if_neg (Ne.symm e)]
  | nB + 1, a, b => by
    have ih := dEs_sym on ot c nB a b
    show dE _ _ _ _ a b = dE _ _ _ _ b a
    unfold dE
    rw [ih]
    by_cases e : a = on nB ∧ b = ot nB ∨ a = ot nB ∧ b = on nB
    · rw [if_pos e, if_pos (by omega)]
    · rw [if_neg e, if_neg (by omega)]
theorem dF_sym {D : Nat → Nat → Nat} (hD : ∀ a b, D a b = D b a) : ∀ k a b, dF D k a b = dF D k b a
  | 0, a, b => hD a b
  | k + 1, a, b => by
    show min (dF D k a b) (dF D k a k + dF D k k b) = min (dF D k b a) (dF D k b k + dF D k k a)
    rw [dF_sym hD k a b, dF_sym hD k a k, dF_sym hD k k b, Nat.add_comm]
theorem dW_sym (on ot c : Nat → Nat) (nB nP a b : Nat) : dW on ot c nB nP a b = dW on ot c nB nP b a := dF_sym (dEs_sym on ot c nB) nP a b
section
variable {on ot c : Nat → Nat} {nP nB : Nat}
theorem dW_pre (hL : LB nP nB on ot c) {a b : Nat} (hab : a ≠ b) (hlt : dW on ot c nB nP a b < 100000000) : ∃ i u, i < nB ∧ u < nP ∧ (u = on i ∧ b = ot i ∨ u = ot i ∧ b = on i) ∧ 1 ≤ c i ∧ c i < 3000 ∧ dW on ot c nB nP a u + c i ≤ dW on ot c nB nP a b := by
  obtain ⟨i, u, h1, h2, h3⟩ := dW_last hL nP (Nat.le_refl _) a b hab hlt
  obtain ⟨l1, l2, l3, l4, l5⟩ := hL i h1
  exact ⟨i, u, h1, by omega, h2, l4, l5, h3⟩
theorem dW_step (hL : LB nP nB on ot c) {i : Nat} (hi : i < nB) (a : Nat) : dW on ot c nB nP a (ot i) ≤ dW on ot c nB nP a (on i) + c i ∧ dW on ot c nB nP a (on i) ≤ dW on ot c nB nP a (ot i) + c i := by
  obtain ⟨l1, l2, l3, l4, l5⟩ := hL i hi
  have t1 := dW_tri hL l1 a (ot i)
  have t2 := dW_tri hL l2 a (on i)
  have e := dW_edge on ot c nB nP hi
  omega
theorem dW_near (hL : LB nP nB on ot c) {a : Nat} : ∀ g b, b < nP → dW on ot c nB nP a b ≤ g → dW on ot c nB nP a b < 100000000 → dW on ot c nB nP a b ≤ 3000 * rk (dW on ot c nB nP a) nP b
  | g, b, hb, hg, hlt => by
    by_cases hab : a = b
    · subst hab
      rw [dW_aa hL]
      omega
    · obtain ⟨i, u, h1, h2, h3, h4, h5, h6⟩ := dW_pre hL hab hlt
      have hs := dW_step hL h1 a
      have hx : dW on ot c nB nP a b ≤ dW on ot c nB nP a u + c i := by
        rcases h3 with ⟨e1, e2⟩ | ⟨e1, e2⟩
        · rw [e1, e2]; exact hs.1
        · rw [e1, e2]; exact hs.2
      have hr := rk_ord (G := dW on ot c nB nP a) (n := nP) h2 (show dW on ot c nB nP a u < dW on ot c nB nP a b by omega)
      cases g with
      | zero => omega
      | succ g =>
        have ih := dW_near hL (a := a) g u h2 (by omega) (by omega)
        omega
/-- what is not far is near -/
theorem dW_far (hL : LB nP nB on ot c) {a b : Nat} (hP : nP ≤ 10) (hb : b < nP) (hlt : dW on ot c nB nP a b < 100000000) : dW on ot c nB nP a b < 1000000 := by
  have h1 := dW_near hL _ b hb (Nat.le_refl _) hlt
  have h2 := rk_lt (G := dW on ot c nB nP a) hb
  omega
theorem tolls_eq (hL : LB nP nB on ot c) {p : Nat} (v : Nat) (hv : v < nP) : bL on ot c nB nP (tF p) v = min 1000000 (dW on ot c nB nP p v) := by
  refine bL_eq (G := fun v => min 1000000 (dW on ot c nB nP p v)) (fun i hi => (hL i hi).2.2.1) (fun i hi => ?_) (fun i hi => ⟨(hL i hi).1, (hL i hi).2.1⟩) (tF p) (fun v hv => ?_) (fun v hv => ?_) v hv
  · have := dW_step hL hi p
    show min 1000000 (dW on ot c nB nP p (ot i)) ≤ min 1000000 (dW on ot c nB nP p (on i)) + c i ∧ min 1000000 (dW on ot c nB nP p (on i)) ≤ min 1000000 (dW on ot c nB nP p (ot i)) + c i
    omega
  · show min 1000000 (dW on ot c nB nP p v) ≤ tF p v
    unfold tF
    by_cases e : v = p
    · rw [if_pos e, e, dW_aa hL]; omega
    · rw [if_neg e]; omega
  · by_cases e : v = p
    · refine Or.inl ?_
      unfold tF
      rw [if_pos e]; omega
    · by_cases q : 1000000 ≤ dW on ot c nB nP p v
      · refine Or.inl ?_
        show tF p v ≤ min 1000000 (dW on ot c nB nP p v)
        unfold tF
        rw [if_neg e]; omega
      · obtain ⟨i, u, h1, h2, h3, h4, h5, h6⟩ := dW_pre hL (Ne.symm e) (show dW on ot c nB nP p v < 100000000 by omega)
        refine Or.inr ⟨i, u, h1, h2, h3, h4, ?_⟩
        show min 1000000 (dW on ot c nB nP p u) + c i ≤ min 1000000 (dW on ot c nB nP p v)
        omega
end
