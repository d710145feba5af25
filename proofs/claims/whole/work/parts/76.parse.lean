-- the pure parser, by program (wip/gen/p76.py)
/-- a token as a number: 1 .. 22 stand for -1 .. -22, 100 + v for v -/
def t32 (u : Nat) : Int32 := if u < 100 then -(nI u) else nI (u - 100)
def uok (u : Nat) : Prop := (1 ≤ u ∧ u ≤ 22) ∨ (100 ≤ u ∧ u < 10100)
theorem t32_neg : ∀ u : Fin 23, (-(nI u.1)).toInt = -(u.1 : Int) := by decide
theorem t32_int {u : Nat} (h : uok u) : (t32 u).toInt = if u < 100 then -(u : Int) else (u : Int) - 100 := by
  unfold t32
  rcases h with h | h
  · rw [if_pos (by omega), if_pos (by omega)]
    exact t32_neg ⟨u, by omega⟩
  · rw [if_neg (by omega), if_neg (by omega), nI_toInt (by omega)]
    omega
theorem t32_eq {u : Nat} (h : uok u) {x : Int32} {c : Nat} (hx : x.toInt = -(c : Int)) (hc : 1 ≤ c) (hc2 : c ≤ 22) : t32 u = x ↔ u = c := by
  have hi := t32_int h
  constructor
  · intro e
    rw [e, hx] at hi
    unfold uok at h
    split at hi <;> omega
  · intro e
    apply Int32.toInt_inj.mp
    rw [hi, hx, if_pos (by omega), e]
theorem t32_ge {u : Nat} (h : uok u) : 0 ≤ t32 u ↔ 100 ≤ u := by
  have hi := t32_int h
  have z0 : (0 : Int32).toInt = 0 := by decide
  rw [Int32.le_iff_toInt_le, hi, z0]
  unfold uok at h
  split <;> omega
theorem tq1 {u : Nat} (h : uok u) : t32 u = (-1 : Int32) ↔ u = 1 := t32_eq h (c := 1) (by decide) (by omega) (by omega)
theorem tq2 {u : Nat} (h : uok u) : t32 u = (-2 : Int32) ↔ u = 2 := t32_eq h (c := 2) (by decide) (by omega) (by omega)
theorem tq3 {u : Nat} (h : uok u) : t32 u = (-3 : Int32) ↔ u = 3 := t32_eq h (c := 3) (by decide) (by omega) (by omega)
theorem tq4 {u : Nat} (h : uok u) : t32 u = (-4 : Int32) ↔ u = 4 := t32_eq h (c := 4) (by decide) (by omega) (by omega)
theorem tq5 {u : Nat} (h : uok u) : t32 u = (-5 : Int32) ↔ u = 5 := t32_eq h (c := 5) (by decide) (by omega) (by omega)
theorem tq6 {u : Nat} (h : uok u) : t32 u = (-6 : Int32) ↔ u = 6 := t32_eq h (c := 6) (by decide) (by omega) (by omega)
theorem tq7 {u : Nat} (h : uok u) : t32 u = (-7 : Int32) ↔ u = 7 := t32_eq h (c := 7) (by decide) (by omega) (by omega)
theorem tq8 {u : Nat} (h : uok u) : t32 u = (-8 : Int32) ↔ u = 8 := t32_eq h (c := 8) (by decide) (by omega) (by omega)
theorem tq9 {u : Nat} (h : uok u) : t32 u = (-9 : Int32) ↔ u = 9 := t32_eq h (c := 9) (by decide) (by omega) (by omega)
theorem tq10 {u : Nat} (h : uok u) : t32 u = (-10 : Int32) ↔ u = 10 := t32_eq h (c := 10) (by decide) (by omega) (by omega)
theorem tq11 {u : Nat} (h : uok u) : t32 u = (-11 : Int32) ↔ u = 11 := t32_eq h (c := 11) (by decide) (by omega) (by omega)
theorem tq12 {u : Nat} (h : uok u) : t32 u = (-12 : Int32) ↔ u = 12 := t32_eq h (c := 12) (by decide) (by omega) (by omega)
theorem tq13 {u : Nat} (h : uok u) : t32 u = (-13 : Int32) ↔ u = 13 := t32_eq h (c := 13) (by decide) (by omega) (by omega)
theorem tq14 {u : Nat} (h : uok u) : t32 u = (-14 : Int32) ↔ u = 14 := t32_eq h (c := 14) (by decide) (by omega) (by omega)
theorem tq15 {u : Nat} (h : uok u) : t32 u = (-15 : Int32) ↔ u = 15 := t32_eq h (c := 15) (by decide) (by omega) (by omega)
theorem tq16 {u : Nat} (h : uok u) : t32 u = (-16 : Int32) ↔ u = 16 := t32_eq h (c := 16) (by decide) (by omega) (by omega)
theorem tq17 {u : Nat} (h : uok u) : t32 u = (-17 : Int32) ↔ u = 17 := t32_eq h (c := 17) (by decide) (by omega) (by omega)
theorem tq18 {u : Nat} (h : uok u) : t32 u = (-18 : Int32) ↔ u = 18 := t32_eq h (c := 18) (by decide) (by omega) (by omega)
theorem tq19 {u : Nat} (h : uok u) : t32 u = (-19 : Int32) ↔ u = 19 := t32_eq h (c := 19) (by decide) (by omega) (by omega)
theorem tq20 {u : Nat} (h : uok u) : t32 u = (-20 : Int32) ↔ u = 20 := t32_eq h (c := 20) (by decide) (by omega) (by omega)
theorem tq21 {u : Nat} (h : uok u) : t32 u = (-21 : Int32) ↔ u = 21 := t32_eq h (c := 21) (by decide) (by omega) (by omega)
theorem tq22 {u : Nat} (h : uok u) : t32 u = (-22 : Int32) ↔ u = 22 := t32_eq h (c := 22) (by decide) (by omega) (by omega)
theorem tle6 {u : Nat} (h : uok u) : t32 u ≤ (-6 : Int32) ↔ 6 ≤ u ∧ u ≤ 22 := by
  have hi := t32_int h
  have z0 : (-6 : Int32).toInt = -6 := by decide
  rw [Int32.le_iff_toInt_le, hi, z0]
  unfold uok at h
  split <;> omega
theorem tge9 {u : Nat} (h : uok u) : (-9 : Int32) ≤ t32 u ↔ u ≤ 9 ∨ 100 ≤ u := by
  have hi := t32_int h
  have z0 : (-9 : Int32).toInt = -9 := by decide
  rw [Int32.le_iff_toInt_le, hi, z0]
  unfold uok at h
  split <;> omega
abbrev PR : Type := (Nat × Nat) ⊕ (List (Nat × Int32) × Nat × Nat)
/-- what is wrong with a token as the first of a sum: 0 nothing, 1 form, 2 no such name -/
def fo (u : Nat) : Nat := if u = 10 then 2 else if 100 ≤ u ∨ (6 ≤ u ∧ u ≤ 9) ∨ u = 18 then 0 else 1
def itO (u : Nat) : Nat × Int32 := if 100 ≤ u then (0, nI (u - 100)) else (1, nI (u - 6))
def opN (u : Nat) : Nat × Int32 := if u = 14 then (2, 0) else if u = 15 then (3, 0) else if u = 16 then (4, 0) else if u = 17 then (5, 0) else if u = 11 then (6, 0) else if u = 12 then (7, 0) else (8, 0)
theorem en_itO {u : Nat} (h : 100 ≤ u ∨ (6 ≤ u ∧ u ≤ 9)) : enI (itO u) = t32 u := by
  unfold itO t32
  rcases h with h | h
  · rw [if_pos h, if_neg (by omega)]
    rfl
  · rw [if_neg (by omega), if_pos (by omega)]
    have : u = 6 ∨ u = 7 ∨ u = 8 ∨ u = 9 := by omega
    rcases this with e | e | e | e <;> subst e <;> decide
theorem en_opN {u : Nat} (h : 11 ≤ u ∧ u ≤ 17) : enI (opN u) = t32 u := by
  have : u = 11 ∨ u = 12 ∨ u = 13 ∨ u = 14 ∨ u = 15 ∨ u = 16 ∨ u = 17 := by omega
  rcases this with e | e | e | e | e | e | e <;> subst e <;> decide
theorem ok_itO {u : Nat} (hu : uok u) (h : 100 ≤ u ∨ (6 ≤ u ∧ u ≤ 9)) : okI (itO u) ∧ (itO u).1 ≤ 1 := by
  unfold itO
  unfold uok at hu
  by_cases e : 100 ≤ u
  · rw [if_pos e]
    refine ⟨Or.inl ⟨rfl, nI_pos' (by omega), ?_⟩, Nat.zero_le _⟩
    exact (nI_leI (b := 9999) (by omega) (by omega)).mpr (by omega)
  · rw [if_neg e]
    exact ⟨Or.inr (Or.inl ⟨rfl, u - 6, by omega, rfl⟩), Nat.le_refl _⟩
theorem ok_opN {u : Nat} (h : 14 ≤ u ∧ u ≤ 17) : okI (opN u) ∧ 2 ≤ (opN u).1 ∧ (opN u).1 ≤ 5 := by
  have : u = 14 ∨ u = 15 ∨ u = 16 ∨ u = 17 := by omega
  rcases this with e | e | e | e <;> subst e <;> exact ⟨Or.inr (Or.inr (by decide)), by decide⟩
theorem ok_cmp {u : Nat} (h : 11 ≤ u ∧ u ≤ 13) : okI (opN u) ∧ 6 ≤ (opN u).1 := by
  have : u = 11 ∨ u = 12 ∨ u = 13 := by omega
  rcases this with e | e | e <;> subst e <;> exact ⟨Or.inr (Or.inr (by decide)), by decide⟩
section
variable (tk : Nat → Nat)
def oneP (sub : Option (Nat → Nat → PR)) (i s : Nat) : PR :=
  if fo (tk i) = 0 then
    (if tk i = 18 then
      (match sub with
        | none => .inl (3, i)
        | some f => match f (i + 1) s with
          | .inl e => .inl e
          | .inr (ys, j, s') => if tk j = 19 then .inr (ys, j + 1, s') else .inl (1, j))
    else .inr ([itO (tk i)], i + 1, s))
  else .inl (fo (tk i), i)
def opL (sub : Nat → Nat → PR) (a b : Nat) : Nat → List (Nat × Int32) → Nat → Nat → PR
  | 0, _, i, _ => .inl (3, i)
  | f + 1, ys, i, s => if tk i = a ∨ tk i = b then
      (if s < 60 then
        (match sub (i + 1) (s + 1) with
          | .inl e => .inl e
          | .inr (zs, j, s') => opL sub a b f (ys ++ zs ++ [opN (tk i)]) j s')
      else .inl (3, i))
    else .inr (ys, i, s)
def chP (sub : Nat → Nat → PR) (a b i s : Nat) : PR := match sub i s with
  | .inl e => .inl e
  | .inr (ys, j, s') => opL tk sub a b 61 ys j s'
def sumD : Nat → Nat → Nat → PR
  | 0 => chP tk (chP tk (oneP tk none) 16 17) 14 15
  | d + 1 => chP tk (chP tk (oneP tk (some (sumD d))) 16 17) 14 15
def oneD (d : Nat) : Nat → Nat → PR := match d with
  | 0 => oneP tk none
  | d + 1 => oneP tk (some (sumD tk d))
def termD (d : Nat) : Nat → Nat → PR := chP tk (oneD tk d) 16 17
theorem sumD_eq (d : Nat) : sumD tk d = chP tk (termD tk d) 14 15 := by
  cases d <;> rfl
end
theorem dps_app : ∀ (xs ys : List (Nat × Int32)) (n : Nat), dps n (xs ++ ys) = (dps n xs).bind (fun m => dps m ys)
  | [], ys, n => rfl
  | x :: xs, ys, n => by
    show (dp n x).bind (fun m => dps m (xs ++ ys)) = ((dp n x).bind (fun m => dps m xs)).bind (fun m => dps m ys)
    cases dp n x with
    | none => rfl
    | some m => exact dps_app xs ys m
/-- what a result is worth: from i and s on, N tokens in all, E deep -/
def PrG (N i s E : Nat) : PR → Prop
  | .inl (k, j) => j < N ∧ 1 ≤ k ∧ k ≤ 3
  | .inr (ys, j, s') => j < N ∧ i + ys.length ≤ j ∧ s ≤ s' ∧ s' ≤ 60 ∧ (∀ it ∈ ys, okI it) ∧ ∀ k, k + E ≤ 30 → dps k ys = some (k + 1)
/-- the tokens: all of them tokens, the last is the end or none -/
def Tkk (tk : Nat → Nat) (N : Nat) : Prop := 1 ≤ N ∧ N ≤ 301 ∧ (∀ k, k < N → uok (tk k)) ∧ (tk (N - 1) = 21 ∨ tk (N - 1) = 22)
theorem Tkk.on {tk : Nat → Nat} {N : Nat} (h : Tkk tk N) {i : Nat} (hi : i < N) (h1 : tk i ≠ 21) (h2 : tk i ≠ 22) : i + 1 < N := by
  obtain ⟨a, b, c, d⟩ := h
  apply Decidable.byContradiction
  intro z
  have e : i = N - 1 := by omega
  rw [e] at h1 h2
  rcases d with d | d
  · exact h1 d
  · exact h2 d
theorem oneP_ok {tk : Nat → Nat} {N : Nat} (hT : Tkk tk N) (sub : Option (Nat → Nat → PR)) (E : Nat) (hE : 1 ≤ E) (hs : ∀ f, sub = some f → ∀ i s, i < N → s ≤ 60 → PrG N i s E (f i s)) (i s : Nat) (hi : i < N) (h6 : s ≤ 60) : PrG N i s E (oneP tk sub i s) := by
  unfold oneP
  by_cases h1 : fo (tk i) = 0
  · rw [if_pos h1]
    have hfo : 100 ≤ tk i ∨ (6 ≤ tk i ∧ tk i ≤ 9) ∨ tk i = 18 := by
      apply Decidable.byContradiction
      intro z
      unfold fo at h1
      rw [if_neg z] at h1
      split at h1 <;> omega
    have hon := hT.on hi (by omega) (by omega)
    by_cases h2 : tk i = 18
    · rw [if_pos h2]
      cases sub with
      | none => exact ⟨hi, by omega, by omega⟩
      | some f =>
        have hf := hs f rfl (i + 1) s hon h6
        show PrG N i s E (match f (i + 1) s with
          | .inl e => .inl e
          | .inr (ys, j, s') => if tk j = 19 then .inr (ys, j + 1, s') else .inl (1, j))
        cases hr : f (i + 1) s with
        | inl e => rw [hr] at hf; exact hf
        | inr r =>
          obtain ⟨ys, j, s'⟩ := r
          rw [hr] at hf
          obtain ⟨q1, q2, q3, q4, q5, q6⟩ := hf
          show PrG N i s E (if tk j = 19 then .inr (ys, j + 1, s') else .inl (1, j))
          by_cases h3 : tk j = 19
          · rw [if_pos h3]
            exact ⟨hT.on q1 (by omega) (by omega), by omega, q3, q4, q5, q6⟩
          · rw [if_neg h3]
            exact ⟨q1, by omega, by omega⟩
    · rw [if_neg h2]
      have ho := ok_itO (hT.2.2.1 i hi) (by omega)
      refine ⟨hon, by show i + 1 ≤ i + 1; omega, Nat.le_refl _, h6, fun it hit => ?_, fun k hk => ?_⟩
      · rw [List.mem_singleton] at hit
        rw [hit]
        exact ho.1
      · show (dp k (itO (tk i))).bind (fun m => some m) = some (k + 1)
        unfold dp
        rw [if_pos ho.2, if_pos (by omega)]
        rfl
  · rw [if_neg h1]
    refine ⟨hi, by omega, ?_⟩
    unfold fo
    split
    · omega
    · split <;> omega
theorem opL_ok {tk : Nat → Nat} {N : Nat} (hT : Tkk tk N) {sub : Nat → Nat → PR} {a b E : Nat} (hab : 14 ≤ a ∧ a ≤ 17 ∧ 14 ≤ b ∧ b ≤ 17) (hs : ∀ i s, i < N → s ≤ 60 → PrG N i s E (sub i s)) (i0 s0 : Nat) : ∀ f ys i s, i < N → i0 + ys.length ≤ i → s0 ≤ s → s ≤ 60 → (∀ it ∈ ys, okI it) → (∀ k, k + (E + 1) ≤ 30 → dps k ys = some (k + 1)) → PrG N i0 s0 (E + 1) (opL tk sub a b f ys i s)
  | 0, ys, i, s, hi, _, _, _, _, _ => ⟨hi, by omega, by omega⟩
  | f + 1, ys, i, s, hi, hl, h0, h6, hok, hd => by
    unfold opL
    by_cases h1 : tk i = a ∨ tk i = b
    · rw [if_pos h1]
      have hon := hT.on hi (by omega) (by omega)
      by_cases h2 : s < 60
      · rw [if_pos h2]
        have hf := hs (i + 1) (s + 1) hon (by omega)
        cases hr : sub (i + 1) (s + 1) with
        | inl e => rw [hr] at hf; exact hf
        | inr r =>
          obtain ⟨zs, j, s'⟩ := r
          rw [hr] at hf
          obtain ⟨q1, q2, q3, q4, q5, q6⟩ := hf
          have hop := ok_opN (u := tk i) (by omega)
          refine opL_ok hT hab hs i0 s0 f (ys ++ zs ++ [opN (tk i)]) j s' q1 ?_ (by omega) q4 ?_ ?_
          · rw [List.length_append, List.length_append]
            show i0 + (ys.length + zs.length + 1) ≤ j
            omega
          · intro it hit
            rcases List.mem_append.mp hit with hit | hit
            · rcases List.mem_append.mp hit with hit | hit
              · exact hok it hit
              · exact q5 it hit
            · rw [List.mem_singleton] at hit
              rw [hit]
              exact hop.1
          · intro k hk
            rw [dps_app, dps_app, hd k hk]
            show ((dps (k + 1) zs).bind fun m => dps m [opN (tk i)]) = _
            rw [q6 (k + 1) (by omega)]
            show (dp (k + 1 + 1) (opN (tk i))).bind (fun m => some m) = some (k + 1)
            unfold dp
            rw [if_neg (by omega), if_neg (by omega), if_pos (by omega)]
            rfl
      · rw [if_neg h2]
        exact ⟨hi, by omega, by omega⟩
    · rw [if_neg h1]
      exact ⟨hi, hl, h0, h6, hok, hd⟩
theorem chP_ok {tk : Nat → Nat} {N : Nat} (hT : Tkk tk N) {sub : Nat → Nat → PR} {a b E : Nat} (hab : 14 ≤ a ∧ a ≤ 17 ∧ 14 ≤ b ∧ b ≤ 17) (hs : ∀ i s, i < N → s ≤ 60 → PrG N i s E (sub i s)) (i s : Nat) (hi : i < N) (h6 : s ≤ 60) : PrG N i s (E + 1) (chP tk sub a b i s) := by
  unfold chP
  have hf := hs i s hi h6
  cases hr : sub i s with
  | inl e => rw [hr] at hf; exact hf
  | inr r =>
    obtain ⟨ys, j, s'⟩ := r
    rw [hr] at hf
    obtain ⟨q1, q2, q3, q4, q5, q6⟩ := hf
    exact opL_ok hT hab hs i s 61 ys j s' q1 q2 q3 q4 q5 (fun k hk => q6 k (by omega))
theorem sumD_ok {tk : Nat → Nat} {N : Nat} (hT : Tkk tk N) : ∀ d i s, i < N → s ≤ 60 → PrG N i s (2 * d + 3) (sumD tk d i s)
  | 0 => chP_ok hT (by omega) (chP_ok hT (by omega) (oneP_ok hT none 1 (by omega) (fun f hf => by cases hf)))
  | d + 1 => by
    have h1 := oneP_ok hT (some (sumD tk d)) (2 * d + 3) (by omega) (fun f hf => by cases hf; exact sumD_ok hT d)
    exact chP_ok hT (by omega) (chP_ok hT (by omega) h1)
theorem oneD_ok {tk : Nat → Nat} {N : Nat} (hT : Tkk tk N) (d : Nat) : ∀ i s, i < N → s ≤ 60 → PrG N i s (2 * d + 1) (oneD tk d i s) := by
  cases d with
  | zero => exact oneP_ok hT none 1 (by omega) (fun f hf => by cases hf)
  | succ d => exact oneP_ok hT (some (sumD tk d)) (2 * d + 3) (by omega) (fun f hf => by cases hf; exact sumD_ok hT d)
theorem termD_ok {tk : Nat → Nat} {N : Nat} (hT : Tkk tk N) (d : Nat) : ∀ i s, i < N → s ≤ 60 → PrG N i s (2 * d + 2) (termD tk d i s) := chP_ok hT (by omega) (oneD_ok hT d)
