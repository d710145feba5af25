-- the rounds reach the least costs (wip/gen/p53.py)
def cn (p : Nat → Bool) : Nat → Nat
  | 0 => 0
  | n + 1 => cn p n + (if p n then 1 else 0)
theorem cn_le (p : Nat → Bool) : ∀ n, cn p n ≤ n
  | 0 => Nat.le_refl _
  | n + 1 => by
    have := cn_le p n
    show cn p n + _ ≤ n + 1
    split <;> omega
theorem cn_mono {p q : Nat → Bool} : ∀ n, (∀ u, u < n → p u = true → q u = true) → cn p n ≤ cn q n
  | 0, _ => Nat.le_refl _
  | n + 1, h => by
    have ih := cn_mono n (fun u hu => h u (by omega))
    have hn := h n (by omega)
    show cn p n + _ ≤ cn q n + _
    by_cases e : p n = true
    · rw [if_pos e, if_pos (hn e)]; omega
    · rw [if_neg e]; omega
theorem cn_lt {p q : Nat → Bool} {v : Nat} (hp : p v = false) (hq : q v = true) : ∀ n, v < n → (∀ u, u < n → p u = true → q u = true) → cn p n < cn q n
  | 0, h, _ => by omega
  | n + 1, hv, h => by
    show cn p n + _ < cn q n + _
    by_cases e : v = n
    · subst e
      have ih := cn_mono v (fun u hu => h u (by omega))
      rw [hp, hq, if_neg (by decide), if_pos rfl]
      omega
    · have ih := cn_lt hp hq n (by omega) (fun u hu => h u (by omega))
      have hn := h n (by omega)
      by_cases e2 : p n = true
      · rw [if_pos e2, if_pos (hn e2)]; omega
      · rw [if_neg e2]; omega
theorem cn_all : ∀ n, cn (fun _ => true) n = n
  | 0 => rfl
  | n + 1 => by
    show cn _ n + (if true = true then 1 else 0) = n + 1
    rw [cn_all n, if_pos rfl]
/-- how many stand lower -/
def rk (G : Nat → Nat) (n v : Nat) : Nat := cn (fun u => decide (G u < G v)) n
theorem rk_lt {G : Nat → Nat} {n v : Nat} (hv : v < n) : rk G n v < n := by
  have := cn_lt (p := fun u => decide (G u < G v)) (q := fun _ => true) (v := v) (decide_eq_false (Nat.lt_irrefl _)) rfl n hv (fun _ _ _ => rfl)
  rw [cn_all] at this
  exact this
theorem rk_ord {G : Nat → Nat} {n u v : Nat} (hu : u < n) (h : G u < G v) : rk G n u < rk G n v :=
  cn_lt (p := fun x => decide (G x < G u)) (q := fun x => decide (G x < G v)) (v := u) (decide_eq_false (Nat.lt_irrefl _)) (decide_eq_true h) n hu (fun x _ hx => decide_eq_true (Nat.lt_trans (of_decide_eq_true hx) h))
theorem bS_q {p q : Nat} (hpq : p ≠ q) (w : Nat) (F : Nat → Nat) : bS p q w F q ≤ F p + w ∧ bS p q w F p ≤ F q + w := by
  unfold bS
  by_cases e : F p + w < F q
  · rw [if_pos e]
    unfold upN
    rw [if_pos rfl, if_neg hpq]
    omega
  · rw [if_neg e]
    by_cases e2 : F q + w < F p
    · rw [if_pos e2]
      unfold upN
      rw [if_pos rfl, if_neg (Ne.symm hpq)]
      omega
    · rw [if_neg e2]; omega
theorem bS_lo {p q w : Nat} {F G : Nat → Nat} (h1 : G q ≤ G p + w) (h2 : G p ≤ G q + w) (hp : G p ≤ F p) (hq : G q ≤ F q) (v : Nat) (hv : G v ≤ F v) : G v ≤ bS p q w F v := by
  unfold bS
  by_cases e : F p + w < F q
  · rw [if_pos e]
    unfold upN
    by_cases e3 : v = q
    · rw [if_pos e3, e3]; omega
    · rw [if_neg e3]; exact hv
  · rw [if_neg e]
    by_cases e2 : F q + w < F p
    · rw [if_pos e2]
      unfold upN
      by_cases e3 : v = p
      · rw [if_pos e3, e3]; omega
      · rw [if_neg e3]; exact hv
    · rw [if_neg e2]; exact hv
theorem bS_no {p q w : Nat} {F : Nat → Nat} (h : bC p q w F = false) : bS p q w F = F := by
  have := of_decide_eq_false h
  unfold bS
  rw [if_neg (fun z => this (Or.inl z)), if_neg (fun z => this (Or.inr z))]
section
variable {on ot w : Nat → Nat} {n nB : Nat} {G : Nat → Nat}
theorem bG_anti (F : Nat → Nat) (v k : Nat) : ∀ j, bG on ot w F (k + j) v ≤ bG on ot w F k v
  | 0 => Nat.le_refl _
  | j + 1 => Nat.le_trans (bS_le _ _ _ _ v) (bG_anti F v k j)
theorem bG_no (F : Nat → Nat) : ∀ k, bD on ot w F k = false → bG on ot w F k = F
  | 0, _ => rfl
  | k + 1, h => by
    have h' : (bD on ot w F k || bC (on k) (ot k) (w k) (bG on ot w F k)) = false := h
    rw [Bool.or_eq_false_iff] at h'
    show bS _ _ _ (bG on ot w F k) = F
    rw [bS_no h'.2]
    exact bG_no F k h'.1
theorem bG_edge (hne : ∀ i, i < nB → on i ≠ ot i) (F : Nat → Nat) {i : Nat} (hi : i < nB) : bG on ot w F nB (ot i) ≤ F (on i) + w i ∧ bG on ot w F nB (on i) ≤ F (ot i) + w i := by
  have h1 := bS_q (hne i hi) (w i) (bG on ot w F i)
  have a1 := bG_anti (on := on) (ot := ot) (w := w) F (ot i) (i + 1) (nB - (i + 1))
  have a2 := bG_anti (on := on) (ot := ot) (w := w) F (on i) (i + 1) (nB - (i + 1))
  rw [show i + 1 + (nB - (i + 1)) = nB by omega] at a1 a2
  have b1 := bG_le on ot w F (on i) i
  have b2 := bG_le on ot w F (ot i) i
  have c1 : bG on ot w F (i + 1) (ot i) ≤ bG on ot w F i (on i) + w i := h1.1
  have c2 : bG on ot w F (i + 1) (on i) ≤ bG on ot w F i (ot i) + w i := h1.2
  omega
theorem bG_lo (hG : ∀ i, i < nB → G (ot i) ≤ G (on i) + w i ∧ G (on i) ≤ G (ot i) + w i) (hlt : ∀ i, i < nB → on i < n ∧ ot i < n) (F : Nat → Nat) (hF : ∀ v, v < n → G v ≤ F v) : ∀ k, k ≤ nB → ∀ v, v < n → G v ≤ bG on ot w F k v
  | 0, _, v, hv => hF v hv
  | k + 1, hk, v, hv => by
    have ih := bG_lo hG hlt F hF k (by omega)
    have hl := hlt k (by omega)
    exact bS_lo (hG k (by omega)).1 (hG k (by omega)).2 (ih _ hl.1) (ih _ hl.2) v (ih v hv)
theorem bL_lo (hG : ∀ i, i < nB → G (ot i) ≤ G (on i) + w i ∧ G (on i) ≤ G (ot i) + w i) (hlt : ∀ i, i < nB → on i < n ∧ ot i < n) : ∀ r F, (∀ v, v < n → G v ≤ F v) → ∀ v, v < n → G v ≤ bL on ot w nB r F v
  | 0, F, hF, v, hv => hF v hv
  | r + 1, F, hF, v, hv => by
    have hb := bG_lo hG hlt F hF nB (Nat.le_refl _)
    show G v ≤ (if bD on ot w F nB then bL on ot w nB r (bG on ot w F nB) else bG on ot w F nB) v
    split
    · exact bL_lo hG hlt r _ hb v hv
    · exact hb v hv
/-- v is low already, or a border leads to it from a lower province -/
def PD (on ot w : Nat → Nat) (n nB : Nat) (G F : Nat → Nat) (v : Nat) : Prop := F v ≤ G v ∨ ∃ i u, i < nB ∧ u < n ∧ (u = on i ∧ v = ot i ∨ u = ot i ∧ v = on i) ∧ 1 ≤ w i ∧ G u + w i ≤ G v
theorem bL_hi (hne : ∀ i, i < nB → on i ≠ ot i) : ∀ r m F, (∀ v, v < n → PD on ot w n nB G F v) → (∀ v, v < n → rk G n v < m → F v ≤ G v) → ∀ v, v < n → rk G n v < m + r → bL on ot w nB r F v ≤ G v
  | 0, m, F, _, hm, v, hv, hr => hm v hv (by omega)
  | r + 1, m, F, hP, hm, v, hv, hr => by
    have step : ∀ i u v, i < nB → (u = on i ∧ v = ot i ∨ u = ot i ∧ v = on i) → bG on ot w F nB v ≤ F u + w i := fun i u v hi huv => by
      have he := bG_edge (w := w) hne F hi
      rcases huv with ⟨e1, e2⟩ | ⟨e1, e2⟩
      · rw [e1, e2]; exact he.1
      · rw [e1, e2]; exact he.2
    show (if bD on ot w F nB then bL on ot w nB r (bG on ot w F nB) else bG on ot w F nB) v ≤ G v
    by_cases e : bD on ot w F nB = true
    · rw [if_pos e]
      refine bL_hi hne r (m + 1) _ (fun v hv => ?_) (fun v hv hr => ?_) v hv (by omega)
      · rcases hP v hv with q | q
        · exact Or.inl (Nat.le_trans (bG_le on ot w F v nB) q)
        · exact Or.inr q
      · rcases hP v hv with q | ⟨i, u, hi, hu, huv, h1, h2⟩
        · exact Nat.le_trans (bG_le on ot w F v nB) q
        · have ho := rk_ord (G := G) (n := n) hu (show G u < G v by omega)
          have hs := step i u v hi huv
          have hf := hm u hu (by omega)
          omega
    · rw [if_neg e]
      have ef := bG_no F nB (by cases h : bD on ot w F nB; rfl; exact absurd h e)
      rw [ef] at step ⊢
      have all : ∀ g v, v < n → G v ≤ g → F v ≤ G v := by
        intro g
        induction g with
        | zero =>
          intro v hv hg
          rcases hP v hv with q | ⟨i, u, hi, hu, huv, h1, h2⟩
          · exact q
          · omega
        | succ g ih =>
          intro v hv hg
          rcases hP v hv with q | ⟨i, u, hi, hu, huv, h1, h2⟩
          · exact q
          · have := ih u hu (by omega)
            have hs := step i u v hi huv
            omega
      exact all _ v hv (Nat.le_refl _)
/-- the rounds end at G -/
theorem bL_eq (hne : ∀ i, i < nB → on i ≠ ot i) (hG : ∀ i, i < nB → G (ot i) ≤ G (on i) + w i ∧ G (on i) ≤ G (ot i) + w i) (hlt : ∀ i, i < nB → on i < n ∧ ot i < n) (F : Nat → Nat) (hF : ∀ v, v < n → G v ≤ F v) (hP : ∀ v, v < n → PD on ot w n nB G F v) (v : Nat) (hv : v < n) : bL on ot w nB n F v = G v :=
  Nat.le_antisymm (bL_hi hne n 0 F hP (fun _ _ h => by omega) v hv (by have := rk_lt (G := G) hv; omega)) (bL_lo hG hlt n F hF v hv)
end
