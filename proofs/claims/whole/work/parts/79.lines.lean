-- the pure parser: tests, lines, texts, by program (wip/gen/p79.py)
section
variable (tk : Nat → Nat)
def testsP : Nat → List (Nat × Int32) → Nat → Nat → PR
  | 0, _, i, _ => .inl (3, i)
  | f + 1, ys, i, s => if fo (tk (i + 1)) = 0 then
      (if f = 0 then .inl (3, i + 1) else
        (match sumD tk 8 (i + 1) s with
          | .inl e => .inl e
          | .inr (y1, j, s1) => if 11 ≤ tk j ∧ tk j ≤ 13 then
              (match sumD tk 8 (j + 1) s1 with
                | .inl e => .inl e
                | .inr (y2, j2, s2) => if tk j2 = 4 then testsP f (ys ++ y1 ++ y2 ++ [opN (tk j)]) j2 s2 else .inr (ys ++ y1 ++ y2 ++ [opN (tk j)], j2, s2))
            else .inl (1, j)))
    else .inl (fo (tk (i + 1)), i + 1)
/-- the end of a line, from `is` on -/
def lineE (ys : List (Nat × Int32)) (j s : Nat) : PR := if tk j = 5 then
    (match sumD tk 8 (j + 1) s with
      | .inl e => .inl e
      | .inr (zs, j2, s2) => .inr (ys ++ zs, j2, s2))
  else .inl (1, j)
def lineP (num i s : Nat) : PR := if tk i = 1 ∨ tk i = 2 then
    (if 12 < num then .inl (3, i) else
      (if tk (i + 1) = 3 then
        (match testsP tk 5 [] (i + 1) s with
          | .inl e => .inl e
          | .inr (ys, j, s1) => lineE tk ys j s1)
      else lineE tk [] (i + 1) s))
  else .inl (1, i)
def progP : Nat → List (Bool × List (Nat × Int32)) → Nat → Nat → (Nat × Nat) ⊕ List (Bool × List (Nat × Int32))
  | 0, _, i, _ => .inl (3, i)
  | f + 1, ps, i, s => match lineP tk (13 - f) i s with
    | .inl e => .inl e
    | .inr (ys, j, s') => if tk j = 21 then .inr (ps ++ [(decide (tk i = 2), ys)]) else if tk j = 20 then progP f (ps ++ [(decide (tk i = 2), ys)]) (j + 1) s' else .inl (1, j)
end
/-- what a result of tests or of a line is worth: x more tokens than items, D deep at the end -/
def PrT (N i s x D : Nat) : PR → Prop
  | .inl (k, j) => j < N ∧ 1 ≤ k ∧ k ≤ 3
  | .inr (ys, j, s') => j < N ∧ i + ys.length + x ≤ j ∧ s ≤ s' ∧ s' ≤ 60 ∧ (∀ it ∈ ys, okI it) ∧ dps 0 ys = some D
theorem fo_bd {u : Nat} (h : ¬ fo u = 0) : 1 ≤ fo u ∧ fo u ≤ 3 := by
  have := fo_le u
  omega
theorem testsP_ok {tk : Nat → Nat} {N : Nat} (hT : Tkk tk N) (i0 s0 : Nat) : ∀ f ys i s, i < N → (tk i = 3 ∨ tk i = 4) → i0 + ys.length ≤ i → s0 ≤ s → s ≤ 60 → (∀ it ∈ ys, okI it) → dps 0 ys = some 0 → PrT N i0 s0 0 0 (testsP tk f ys i s)
  | 0, ys, i, s, hi, _, _, _, _, _, _ => ⟨hi, by omega, by omega⟩
  | f + 1, ys, i, s, hi, hw, hl, h0, h6, hok, hd => by
    have hon := hT.on hi (by omega) (by omega)
    unfold testsP
    by_cases h1 : fo (tk (i + 1)) = 0
    · rw [if_pos h1]
      by_cases h2 : f = 0
      · rw [if_pos h2]
        exact ⟨hon, by omega, by omega⟩
      · rw [if_neg h2]
        have hf := sumD_ok hT 8 (i + 1) s hon h6
        cases hr : sumD tk 8 (i + 1) s with
        | inl e => rw [hr] at hf; exact hf
        | inr r =>
          obtain ⟨y1, j, s1⟩ := r
          rw [hr] at hf
          obtain ⟨q1, q2, q3, q4, q5, q6⟩ := hf
          show PrT N i0 s0 0 0 (if 11 ≤ tk j ∧ tk j ≤ 13 then (match sumD tk 8 (j + 1) s1 with
                | .inl e => .inl e
                | .inr (y2, j2, s2) => if tk j2 = 4 then testsP tk f (ys ++ y1 ++ y2 ++ [opN (tk j)]) j2 s2 else .inr (ys ++ y1 ++ y2 ++ [opN (tk j)], j2, s2)) else .inl (1, j))
          by_cases h3 : 11 ≤ tk j ∧ tk j ≤ 13
          · rw [if_pos h3]
            have hon2 := hT.on q1 (by omega) (by omega)
            have hf := sumD_ok hT 8 (j + 1) s1 hon2 q4
            cases hr2 : sumD tk 8 (j + 1) s1 with
            | inl e => rw [hr2] at hf; exact hf
            | inr r =>
              obtain ⟨y2, j2, s2⟩ := r
              rw [hr2] at hf
              obtain ⟨p1, p2, p3, p4, p5, p6⟩ := hf
              have hop := ok_cmp h3
              have hlen : (ys ++ y1 ++ y2 ++ [opN (tk j)]).length = ys.length + y1.length + y2.length + 1 := by
                rw [List.length_append, List.length_append, List.length_append]
                rfl
              have hall : ∀ it ∈ ys ++ y1 ++ y2 ++ [opN (tk j)], okI it := by
                intro it hit
                rcases List.mem_append.mp hit with hit | hit
                · rcases List.mem_append.mp hit with hit | hit
                  · rcases List.mem_append.mp hit with hit | hit
                    · exact hok it hit
                    · exact q5 it hit
                  · exact p5 it hit
                · rw [List.mem_singleton] at hit
                  rw [hit]
                  exact hop.1
              have hdd : dps 0 (ys ++ y1 ++ y2 ++ [opN (tk j)]) = some 0 := by
                rw [dps_app, dps_app, dps_app, hd]
                show (((dps 0 y1).bind fun m => dps m y2).bind fun m => dps m [opN (tk j)]) = _
                rw [q6 0 (by omega)]
                show ((dps (0 + 1) y2).bind fun m => dps m [opN (tk j)]) = _
                rw [p6 (0 + 1) (by omega)]
                show (dp (0 + 1 + 1) (opN (tk j))).bind (fun m => some m) = some 0
                unfold dp
                rw [if_neg (by omega), if_pos (by omega), if_pos rfl]
                rfl
              show PrT N i0 s0 0 0 (if tk j2 = 4 then testsP tk f (ys ++ y1 ++ y2 ++ [opN (tk j)]) j2 s2 else .inr (ys ++ y1 ++ y2 ++ [opN (tk j)], j2, s2))
              by_cases h4 : tk j2 = 4
              · rw [if_pos h4]
                exact testsP_ok hT i0 s0 f _ j2 s2 p1 (Or.inr h4) (by rw [hlen]; omega) (by omega) p4 hall hdd
              · rw [if_neg h4]
                exact ⟨p1, by rw [hlen]; omega, by omega, p4, hall, hdd⟩
          · rw [if_neg h3]
            exact ⟨q1, by omega, by omega⟩
    · rw [if_neg h1]
      exact ⟨hon, fo_bd h1⟩
theorem lineE_ok {tk : Nat → Nat} {N : Nat} (hT : Tkk tk N) {i0 s0 : Nat} {ys : List (Nat × Int32)} {j s : Nat} (hj : j < N) (hl : i0 + ys.length + 1 ≤ j) (h0 : s0 ≤ s) (h6 : s ≤ 60) (hok : ∀ it ∈ ys, okI it) (hd : dps 0 ys = some 0) : PrT N i0 s0 2 1 (lineE tk ys j s) := by
  unfold lineE
  by_cases h1 : tk j = 5
  · rw [if_pos h1]
    have hon := hT.on hj (by omega) (by omega)
    have hf := sumD_ok hT 8 (j + 1) s hon h6
    cases hr : sumD tk 8 (j + 1) s with
    | inl e => rw [hr] at hf; exact hf
    | inr r =>
      obtain ⟨zs, j2, s2⟩ := r
      rw [hr] at hf
      obtain ⟨q1, q2, q3, q4, q5, q6⟩ := hf
      refine ⟨q1, by rw [List.length_append]; omega, by omega, q4, fun it hit => ?_, ?_⟩
      · rcases List.mem_append.mp hit with hit | hit
        · exact hok it hit
        · exact q5 it hit
      · rw [dps_app, hd]
        exact q6 0 (by omega)
  · rw [if_neg h1]
    exact ⟨hj, by omega, by omega⟩
theorem lineP_ok {tk : Nat → Nat} {N : Nat} (hT : Tkk tk N) (num i s : Nat) (hi : i < N) (h6 : s ≤ 60) : PrT N i s 2 1 (lineP tk num i s) := by
  unfold lineP
  by_cases h1 : tk i = 1 ∨ tk i = 2
  · rw [if_pos h1]
    have hon := hT.on hi (by omega) (by omega)
    by_cases h2 : 12 < num
    · rw [if_pos h2]
      exact ⟨hi, by omega, by omega⟩
    · rw [if_neg h2]
      by_cases h3 : tk (i + 1) = 3
      · rw [if_pos h3]
        have hf := testsP_ok hT (i + 1) s 5 [] (i + 1) s hon (Or.inl h3) (by show i + 1 + 0 ≤ i + 1; omega) (Nat.le_refl _) h6 (fun it hit => by cases hit) rfl
        cases hr : testsP tk 5 [] (i + 1) s with
        | inl e => rw [hr] at hf; exact hf
        | inr r =>
          obtain ⟨ys, j, s1⟩ := r
          rw [hr] at hf
          obtain ⟨q1, q2, q3, q4, q5, q6⟩ := hf
          exact lineE_ok hT q1 (by omega) q3 q4 q5 q6
      · rw [if_neg h3]
        exact lineE_ok hT hon (by show i + 0 + 1 ≤ i + 1; omega) (Nat.le_refl _) h6 (fun it hit => by cases hit) rfl
  · rw [if_neg h1]
    exact ⟨hi, by omega, by omega⟩
theorem lineP_12 {tk : Nat → Nat} {num i s : Nat} {r : List (Nat × Int32) × Nat × Nat} (h : lineP tk num i s = .inr r) : (tk i = 1 ∨ tk i = 2) ∧ num ≤ 12 := by
  unfold lineP at h
  by_cases h1 : tk i = 1 ∨ tk i = 2
  · rw [if_pos h1] at h
    by_cases h2 : 12 < num
    · rw [if_pos h2] at h
      cases h
    · exact ⟨h1, by omega⟩
  · rw [if_neg h1] at h
    cases h
theorem enP_app (ps : List (Bool × List (Nat × Int32))) (ln : Bool × List (Nat × Int32)) : enP (ps ++ [ln]) = enP ps ++ enL ln := by
  unfold enP
  rw [List.flatMap_append]
  show _ ++ (enL ln ++ []) = _
  rw [List.append_nil]
/-- a text that is sound -/
def PrP (N : Nat) : (Nat × Nat) ⊕ List (Bool × List (Nat × Int32)) → Prop
  | .inl (k, j) => j < N ∧ 1 ≤ k ∧ k ≤ 3
  | .inr ps => ps.length ≤ 12 ∧ (∀ ln ∈ ps, okL ln) ∧ (enP ps).length ≤ N
theorem progP_ok {tk : Nat → Nat} {N : Nat} (hT : Tkk tk N) : ∀ f ps i s, ps.length + f = 13 → i < N → s ≤ 60 → (∀ ln ∈ ps, okL ln) → (enP ps).length ≤ i → PrP N (progP tk f ps i s)
  | 0, ps, i, s, _, hi, _, _, _ => ⟨hi, by omega, by omega⟩
  | f + 1, ps, i, s, hf, hi, h6, hok, hl => by
    unfold progP
    have hp := lineP_ok hT (13 - f) i s hi h6
    cases hr : lineP tk (13 - f) i s with
    | inl e => rw [hr] at hp; exact hp
    | inr r =>
      obtain ⟨ys, j, s'⟩ := r
      have h12 := lineP_12 hr
      rw [hr] at hp
      obtain ⟨q1, q2, q3, q4, q5, q6⟩ := hp
      have hlen : (enP (ps ++ [(decide (tk i = 2), ys)])).length = (enP ps).length + ys.length + 2 := by
        rw [enP_app, List.length_append, enL_len]
        rfl
      have hall : ∀ ln ∈ ps ++ [(decide (tk i = 2), ys)], okL ln := by
        intro ln hln
        rcases List.mem_append.mp hln with h | h
        · exact hok ln h
        · rw [List.mem_singleton] at h
          rw [h]
          exact ⟨q5, q6⟩
      have hpl : (ps ++ [(decide (tk i = 2), ys)]).length = ps.length + 1 := by rw [List.length_append]; rfl
      show PrP N (if tk j = 21 then .inr (ps ++ [(decide (tk i = 2), ys)]) else if tk j = 20 then progP tk f (ps ++ [(decide (tk i = 2), ys)]) (j + 1) s' else .inl (1, j))
      by_cases h1 : tk j = 21
      · rw [if_pos h1]
        exact ⟨by rw [hpl]; omega, hall, by rw [hlen]; omega⟩
      · rw [if_neg h1]
        by_cases h2 : tk j = 20
        · rw [if_pos h2]
          exact progP_ok hT f _ (j + 1) s' (by rw [hpl]; omega) (hT.on q1 (by omega) (by omega)) q4 hall (by rw [hlen]; omega)
        · rw [if_neg h2]
          exact ⟨q1, by omega, by omega⟩
/-- the tokens of a text as numbers -/
noncomputable def un (t : Int32) : Nat := @dite Nat (∃ u, uok u ∧ t = t32 u) (Classical.propDecidable _) (fun h => h.choose) (fun _ => 0)
theorem un_is {t : Int32} (h : ∃ u, uok u ∧ t = t32 u) : uok (un t) ∧ t = t32 (un t) := by
  unfold un
  rw [dif_pos h]
  exact h.choose_spec
theorem un_c1 : ∀ k, k < 10 → (-1 - nI k) = t32 (k + 1) := by decide
theorem un_c2 : ∀ k, k < 10 → (-11 - nI k) = t32 (11 + k) := by decide
theorem lx_tok (B : Nat → Nat) (n a : Nat) : ∃ u, uok u ∧ (lx B n a).1 = t32 u := by
  unfold lx
  by_cases h : n ≤ lxS B n a
  · rw [if_pos h]
    exact ⟨21, Or.inl (by omega), by show (-21 : Int32) = t32 21; decide⟩
  · rw [if_neg h]
    show ∃ u, uok u ∧ tkT B (lxS B n a) (lxE B n (lxS B n a)) = t32 u
    generalize lxS B n a = a
    unfold tkT
    by_cases h1 : isL (B a)
    · rw [if_pos h1]
      by_cases h2 : 8 < lxE B n a - a
      · rw [if_pos h2]; exact ⟨22, Or.inl (by omega), by decide⟩
      · rw [if_neg h2]
        obtain ⟨k, k1, k2⟩ := wTk_is B a (lxE B n a)
        rw [k2]
        exact ⟨k + 1, Or.inl (by omega), un_c1 k k1⟩
    · rw [if_neg h1]
      by_cases h2 : isD (B a)
      · rw [if_pos h2]
        by_cases h3 : 4 < lxE B n a - a
        · rw [if_pos h3]; exact ⟨22, Or.inl (by omega), by decide⟩
        · rw [if_neg h3]
          have := dg_le h1 h2 h3
          refine ⟨100 + dg B a (lxE B n a - a), Or.inr (by omega), ?_⟩
          unfold t32
          rw [if_neg (by omega), Nat.add_sub_cancel_left]
      · rw [if_neg h2]
        rcases sgT_is (B a) with ⟨k, k1, k2⟩ | q
        · rw [k2]; exact ⟨11 + k, Or.inl (by omega), un_c2 k k1⟩
        · rw [q]; exact ⟨22, Or.inl (by omega), by decide⟩
noncomputable def tkB (B : Nat → Nat) (n k : Nat) : Nat := un (stT B n k).1
def plB (B : Nat → Nat) (n k : Nat) : Nat := (stT B n k).2.1
theorem tkB_is (B : Nat → Nat) (n k : Nat) : uok (tkB B n k) ∧ (stT B n k).1 = t32 (tkB B n k) := by
  cases k with
  | zero => exact un_is (lx_tok B n 0)
  | succ k => exact un_is (lx_tok B n (stT B n k).2.2)
/-- N tokens, as the scanner finds them -/
def NTk (B : Nat → Nat) (n N : Nat) : Prop := 1 ≤ N ∧ N ≤ n + 1 ∧ (∀ k, k + 1 < N → ¬ (stT B n k).1 = -21 ∧ ¬ (stT B n k).1 = -22) ∧ ((stT B n (N - 1)).1 = -21 ∨ (stT B n (N - 1)).1 = -22)
theorem NTk.k {B : Nat → Nat} {n N : Nat} (hn : n ≤ 300) (h : NTk B n N) : Tkk (tkB B n) N := by
  obtain ⟨h1, h2, h3, h4⟩ := h
  refine ⟨h1, by omega, fun k _ => (tkB_is B n k).1, ?_⟩
  obtain ⟨a, b⟩ := tkB_is B n (N - 1)
  rw [b, tq21 a, tq22 a] at h4
  exact h4
theorem TkN.H {h : zH} {B : Nat → Nat} {n N : Nat} (x : TkN h B n N) : TkH h (tkB B n) (plB B n) N := ⟨x.1.1, fun k hk => ⟨(x.1.2 k hk).1.trans (tkB_is B n k).2, (x.1.2 k hk).2⟩⟩
/-- what a text of n bytes B says -/
noncomputable def txtP (B : Nat → Nat) (n : Nat) : (Nat × Nat) ⊕ List (Bool × List (Nat × Int32)) := progP (tkB B n) 13 [] 0 0
