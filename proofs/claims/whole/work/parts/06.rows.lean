-- ROWS THAT LEAVE THE HEAP
def zcat (v : zV) : Nat := match v with
  | .inr (.inl _) => 2
  | _ => 1
theorem zcat_enc (ad : zRf → Nat) (v : zV) : (zenc ad v).category = zcat v := by
  rcases v with i | j | q
  · rfl
  · rfl
  · cases q <;> rfl
def zlv (ad : zRf → Nat) (nL : Nat) (ls : List (Option zV)) : List (Nat × Value) := (List.range nL).filterMap (fun i => (ls[i]?.join).map (fun v => (i, zenc ad v)))
theorem zlv_mem {ad : zRf → Nat} {nL i : Nat} {ls : List (Option zV)} {v : zV} (hi : i < nL) (h : ls[i]? = some (some v)) : (i, zenc ad v) ∈ zlv ad nL ls :=
  List.mem_filterMap.mpr ⟨i, List.mem_range.mpr hi, by rw [h]; rfl⟩
theorem zlv_of {ad : zRf → Nat} {nL : Nat} {ls : List (Option zV)} {q : Nat × Value} (h : q ∈ zlv ad nL ls) : ∃ v, ls[q.1]? = some (some v) ∧ q.2 = zenc ad v := by
  obtain ⟨i, -, hi⟩ := List.mem_filterMap.mp h
  cases hj : ls[i]? with
  | none => rw [hj] at hi; cases hi
  | some o =>
    cases o with
    | none => rw [hj] at hi; cases hi
    | some v => rw [hj] at hi; cases hi; exact ⟨v, hj, rfl⟩
theorem zLo.has {ad : zRf → Nat} {nL : Nat} {ls : List (Option zV)} {la : Array Slot} (x : zLo ad nL ls la) : lv_has la nL (zlv ad nL ls) :=
  ⟨x.1, x.2.1, fun q hq => by obtain ⟨v, h1, h2⟩ := zlv_of hq; rw [h2]; exact x.2.2 _ v h1⟩
/-- locals behind a store: a long ahead of the place is gone, and what a long lies over -/
def zput (ls : List (Option zV)) (i : Nat) (v : zV) : List (Option zV) :=
  let l1 := ls.set i (some v)
  let l2 := if zcat v = 2 then l1.set (i + 1) none else l1
  match i with
  | 0 => l2
  | j + 1 => match ls[j]? with
    | some (some w) => if zcat w = 2 then l2.set j none else l2
    | _ => l2
theorem zput_get {ls : List (Option zV)} {i : Nat} {v : zV} {k : Nat} {w : zV} (h : (zput ls i v)[k]? = some (some w)) : (k = i ∧ w = v) ∨ (k ≠ i ∧ ls[k]? = some (some w) ∧ ¬ (k + 1 = i ∧ zcat w = 2) ∧ ¬ (k = i + 1 ∧ zcat v = 2)) := by
  have key : ∀ l2 : List (Option zV), (l2 = if zcat v = 2 then (ls.set i (some v)).set (i + 1) none else ls.set i (some v)) → l2[k]? = some (some w) → (k = i ∧ w = v) ∨ (k ≠ i ∧ ls[k]? = some (some w) ∧ ¬ (k = i + 1 ∧ zcat v = 2)) := by
    intro l2 e hk
    by_cases hv : zcat v = 2
    · rw [if_pos hv] at e
      subst e
      by_cases h1 : k = i + 1
      · subst h1
        rw [List.getElem?_set] at hk
        simp at hk
      · rw [List.getElem?_set_ne (fun q => h1 q.symm)] at hk
        by_cases h2 : k = i
        · subst h2
          rw [List.getElem?_set] at hk
          simp at hk
          exact Or.inl ⟨rfl, hk.2.symm⟩
        · rw [List.getElem?_set_ne (fun q => h2 q.symm)] at hk
          exact Or.inr ⟨h2, hk, fun q => h1 q.1⟩
    · rw [if_neg hv] at e
      subst e
      by_cases h2 : k = i
      · subst h2
        rw [List.getElem?_set] at hk
        simp at hk
        exact Or.inl ⟨rfl, hk.2.symm⟩
      · rw [List.getElem?_set_ne (fun q => h2 q.symm)] at hk
        exact Or.inr ⟨h2, hk, fun q => hv q.2⟩
  cases i with
  | zero =>
    rcases key _ rfl h with q | ⟨q1, q2, q3⟩
    · exact Or.inl q
    · exact Or.inr ⟨q1, q2, fun z => by omega, q3⟩
  | succ j =>
    unfold zput at h
    dsimp only at h
    cases hj : ls[j]? with
    | none =>
      rw [hj] at h
      rcases key _ rfl h with q | ⟨q1, q2, q3⟩
      · exact Or.inl q
      · refine Or.inr ⟨q1, q2, fun z => ?_, q3⟩
        have : k = j := by omega
        subst this
        rw [hj] at q2; cases q2
    | some ow =>
      cases ow with
      | none =>
        rw [hj] at h
        rcases key _ rfl h with q | ⟨q1, q2, q3⟩
        · exact Or.inl q
        · refine Or.inr ⟨q1, q2, fun z => ?_, q3⟩
          have : k = j := by omega
          subst this
          rw [hj] at q2; cases q2
      | some w' =>
        rw [hj] at h
        dsimp only at h
        by_cases hw : zcat w' = 2
        · rw [if_pos hw] at h
          by_cases hkj : k = j
          · subst hkj
            rw [List.getElem?_set] at h
            simp at h
          · rw [List.getElem?_set_ne (fun q => hkj q.symm)] at h
            rcases key _ rfl h with q | ⟨q1, q2, q3⟩
            · exact Or.inl q
            · exact Or.inr ⟨q1, q2, fun z => hkj (by omega), q3⟩
        · rw [if_neg hw] at h
          rcases key _ rfl h with q | ⟨q1, q2, q3⟩
          · exact Or.inl q
          · refine Or.inr ⟨q1, q2, fun z => ?_, q3⟩
            have : k = j := by omega
            subst this
            rw [hj] at q2; cases q2
            exact hw z.2
theorem zput_al {h : zH} {ls : List (Option zV)} {i : Nat} {v : zV} (a : ∀ w, some w ∈ ls → zalV h w) (b : zalV h v) : ∀ w, some w ∈ zput ls i v → zalV h w := by
  intro w hw
  obtain ⟨k, hk⟩ := List.getElem?_of_mem hw
  rcases zput_get hk with ⟨-, rfl⟩ | ⟨-, q, -⟩
  · exact b
  · exact a w (List.mem_of_getElem? q)
theorem zLo.lt {ad : zRf → Nat} {nL i : Nat} {ls : List (Option zV)} {la : Array Slot} {v : zV} (x : zLo ad nL ls la) (h : ls[i]? = some (some v)) : i < nL := by
  have h1 := x.2.2 i v h
  rw [← x.1]
  exact (Array.getElem?_eq_some_iff.mp h1).1
theorem zLo.put1 {ad : zRf → Nat} {nL i : Nat} {ls : List (Option zV)} {la la' : Array Slot} {v : zV} (x0 : zLo ad nL ls la) (x : lv_has la' nL ((i, zenc ad v) :: (zlv ad nL ls).filter (fun q => !(q.1 == i) && !(q.1 + 1 == i && q.2.category == 2)))) : zLo ad nL (zput ls i v) la' := by
  refine ⟨x.1, x.2.1, fun k w hk => ?_⟩
  rcases zput_get hk with ⟨rfl, rfl⟩ | ⟨q1, q2, q3, -⟩
  · exact x.2.2 _ List.mem_cons_self
  · refine x.2.2 (k, zenc ad w) (List.mem_cons_of_mem _ (List.mem_filter.mpr ⟨zlv_mem (x0.lt q2) q2, ?_⟩))
    simp only [zcat_enc]
    simp only [Bool.and_eq_true, Bool.not_eq_true', beq_eq_false_iff_ne, ne_eq, Bool.and_eq_false_iff]
    refine ⟨q1, ?_⟩
    by_cases h1 : k + 1 = i
    · exact Or.inr (fun h2 => q3 ⟨h1, h2⟩)
    · exact Or.inl h1
theorem zLo.put2 {ad : zRf → Nat} {nL i : Nat} {ls : List (Option zV)} {la la' : Array Slot} {v : zV} (x0 : zLo ad nL ls la) (hv : zcat v = 2) (x : lv_has la' nL ((i, zenc ad v) :: (zlv ad nL ls).filter (fun q => !(q.1 == i) && (!(q.1 == i + 1) && !(q.1 + 1 == i && q.2.category == 2))))) : zLo ad nL (zput ls i v) la' := by
  refine ⟨x.1, x.2.1, fun k w hk => ?_⟩
  rcases zput_get hk with ⟨rfl, rfl⟩ | ⟨q1, q2, q3, q4⟩
  · exact x.2.2 _ List.mem_cons_self
  · refine x.2.2 (k, zenc ad w) (List.mem_cons_of_mem _ (List.mem_filter.mpr ⟨zlv_mem (x0.lt q2) q2, ?_⟩))
    simp only [zcat_enc]
    simp only [Bool.and_eq_true, Bool.not_eq_true', beq_eq_false_iff_ne, ne_eq, Bool.and_eq_false_iff]
    refine ⟨q1, fun h => q4 ⟨h, hv⟩, ?_⟩
    by_cases h1 : k + 1 = i
    · exact Or.inr (fun h2 => q3 ⟨h1, h2⟩)
    · exact Or.inl h1
