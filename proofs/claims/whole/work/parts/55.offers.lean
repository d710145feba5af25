-- the offers: the class's rounds against the model's sources (wip/gen/p55.py)
/-- the least offer that reaches v, of the first k provinces and v itself -/
def oM (pr : Nat → Nat) (D : Nat → Nat → Nat) (v : Nat) : Nat → Nat
  | 0 => 16 * pr v + v
  | q + 1 => min (oM pr D v q) (16 * (pr q + D q v) + q)
theorem oM_le (pr : Nat → Nat) (D : Nat → Nat → Nat) (v : Nat) : ∀ n, oM pr D v n ≤ 16 * pr v + v ∧ ∀ q, q < n → oM pr D v n ≤ 16 * (pr q + D q v) + q
  | 0 => ⟨Nat.le_refl _, fun q h => by omega⟩
  | n + 1 => by
    obtain ⟨i1, i2⟩ := oM_le pr D v n
    show min _ _ ≤ _ ∧ ∀ q, q < n + 1 → min _ _ ≤ _
    refine ⟨by omega, fun q hq => ?_⟩
    by_cases e : q = n
    · subst e; omega
    · have := i2 q (by omega)
      omega
theorem oM_is (pr : Nat → Nat) (D : Nat → Nat → Nat) (v : Nat) : ∀ n, oM pr D v n = 16 * pr v + v ∨ ∃ q, q < n ∧ oM pr D v n = 16 * (pr q + D q v) + q
  | 0 => Or.inl rfl
  | n + 1 => by
    show min _ _ = _ ∨ ∃ q, q < n + 1 ∧ min _ _ = _
    rcases Nat.le_total (oM pr D v n) (16 * (pr n + D n v) + n) with q | q
    · rw [Nat.min_eq_left q]
      rcases oM_is pr D v n with h | ⟨k, h1, h2⟩
      · exact Or.inl h
      · exact Or.inr ⟨k, by omega, h2⟩
    · rw [Nat.min_eq_right q]
      exact Or.inr ⟨n, by omega, rfl⟩
theorem offers_eq {on ot c : Nat → Nat} {nP nB : Nat} (hL : LB nP nB on ot c) (hP : nP ≤ 10) (pr : Nat → Nat) (hpr : ∀ p, p < nP → pr p ≤ 1000) (v : Nat) (hv : v < nP) : bL on ot (fun k => 16 * c k) nB nP (oF pr) v = oM pr (dW on ot c nB nP) v nP := by
  refine bL_eq (G := fun v => oM pr (dW on ot c nB nP) v nP) (fun i hi => (hL i hi).2.2.1) (fun i hi => ?_) (fun i hi => ⟨(hL i hi).1, (hL i hi).2.1⟩) (oF pr) (fun v hv => (oM_le pr _ v nP).1) (fun v hv => ?_) v hv
  · obtain ⟨l1, l2, l3, l4, l5⟩ := hL i hi
    have key : ∀ a b, a < nP → (∀ q, dW on ot c nB nP q b ≤ dW on ot c nB nP q a + c i) → oM pr (dW on ot c nB nP) b nP ≤ oM pr (dW on ot c nB nP) a nP + 16 * c i := fun a b ha hq => by
      rcases oM_is pr (dW on ot c nB nP) a nP with h | ⟨q, h1, h2⟩
      · have h3 := (oM_le pr (dW on ot c nB nP) b nP).2 a ha
        have h4 := hq a
        rw [dW_aa hL] at h4
        rw [h]
        omega
      · have h3 := (oM_le pr (dW on ot c nB nP) b nP).2 q h1
        have h4 := hq q
        rw [h2]
        omega
    exact ⟨key _ _ l1 (fun q => (dW_step hL hi q).1), key _ _ l2 (fun q => (dW_step hL hi q).2)⟩
  · rcases oM_is pr (dW on ot c nB nP) v nP with h | ⟨q, h1, h2⟩
    · exact Or.inl (Nat.le_of_eq h.symm)
    · by_cases e : q = v
      · refine Or.inl ?_
        show 16 * pr v + v ≤ oM pr (dW on ot c nB nP) v nP
        rw [h2, e]
        omega
      · have h3 := (oM_le pr (dW on ot c nB nP) v nP).1
        have h4 := hpr v hv
        obtain ⟨i, u, g1, g2, g3, g4, g5, g6⟩ := dW_pre hL e (show dW on ot c nB nP q v < 100000000 by omega)
        refine Or.inr ⟨i, u, g1, g2, g3, by show 1 ≤ 16 * c i; omega, ?_⟩
        show oM pr (dW on ot c nB nP) u nP + 16 * c i ≤ oM pr (dW on ot c nB nP) v nP
        have h5 := (oM_le pr (dW on ot c nB nP) u nP).2 q h1
        rw [h2]
        omega
/-- what the source of p is, of the first n -/
theorem sr_is (pr : Nat → Nat) (D : Nat → Nat → Nat) (p : Nat) : ∀ n, (pr (sr pr D p n) + D (sr pr D p n) p ≤ pr p + D p p) ∧ (∀ q, q < n → pr (sr pr D p n) + D (sr pr D p n) p ≤ pr q + D q p) ∧ (sr pr D p n = p ∨ sr pr D p n < n ∧ pr (sr pr D p n) + D (sr pr D p n) p < pr p + D p p ∧ ∀ q, q < sr pr D p n → pr (sr pr D p n) + D (sr pr D p n) p < pr q + D q p)
  | 0 => ⟨Nat.le_refl _, fun q h => by omega, Or.inl rfl⟩
  | n + 1 => by
    obtain ⟨i1, i2, i3⟩ := sr_is pr D p n
    by_cases e : pr n + D n p < pr (sr pr D p n) + D (sr pr D p n) p
    · rw [show sr pr D p (n + 1) = n from if_pos e]
      refine ⟨by omega, fun q hq => ?_, Or.inr ⟨by omega, by omega, fun q hq => ?_⟩⟩
      · by_cases e2 : q = n
        · rw [e2]; exact Nat.le_refl _
        · have := i2 q (by omega)
          omega
      · have := i2 q hq
        omega
    · rw [show sr pr D p (n + 1) = sr pr D p n from if_neg e]
      refine ⟨i1, fun q hq => ?_, ?_⟩
      · by_cases e2 : q = n
        · rw [e2]; omega
        · exact i2 q (by omega)
      · rcases i3 with h | ⟨h1, h2, h3⟩
        · exact Or.inl h
        · exact Or.inr ⟨by omega, h2, h3⟩
/-- the offer's source is the model's source, and its cost the model's cost -/
theorem oS_sr {pr : Nat → Nat} {D : Nat → Nat → Nat} {n v : Nat} (hn : n ≤ 10) (hv : v < n) (hD : D v v = 0) : oS pr (fun v => oM pr D v n) v = sr pr D v n ∧ oM pr D v n / 16 = pr (sr pr D v n) + D (sr pr D v n) v := by
  obtain ⟨i1, i2, i3⟩ := sr_is pr D v n
  obtain ⟨o1, o2⟩ := oM_le pr D v n
  have hlt := sr_lt pr D hv n (Nat.le_refl _)
  rw [hD, Nat.add_zero] at i1 i3
  have ex : ∃ q, q < n ∧ oM pr D v n = 16 * (pr q + D q v) + q := by
    rcases oM_is pr D v n with h | h
    · exact ⟨v, hv, by rw [h, hD]; omega⟩
    · exact h
  obtain ⟨q, q1, q2⟩ := ex
  have a1 := i2 q q1
  have a2 := o2 _ hlt
  have hc : oM pr D v n / 16 = pr (sr pr D v n) + D (sr pr D v n) v := by omega
  refine ⟨?_, hc⟩
  show (if oM pr D v n / 16 = pr v then v else oM pr D v n % 16) = _
  rw [hc]
  rcases i3 with h | ⟨h1, h2, h3⟩
  · rw [if_pos (by rw [h, hD]; omega), h]
  · rw [if_neg (by omega)]
    by_cases e : q < sr pr D v n
    · have := h3 q e
      omega
    · omega
