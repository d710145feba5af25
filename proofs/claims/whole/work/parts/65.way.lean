-- the way as a list of borders, by program (wip/gen/p65.py)
theorem zI_st (h : zH) (k i j : Nat) (v : Int32) {k' : Nat} (e : k' ≠ k) (i' j' : Nat) : zI (zsI h k i j v) k' i' j' = zI h k' i' j' := if_neg (fun z => e z.1)
theorem least1 {P : Nat → Prop} : ∀ k, P k → ∃ j, j ≤ k ∧ P j ∧ ∀ i, i < j → ¬ P i := by
  intro k
  induction k using Nat.strongRecOn with
  | _ k ih =>
    intro hk
    by_cases e : ∃ i, i < k ∧ P i
    · obtain ⟨i, h1, h2⟩ := e
      obtain ⟨j, g1, g2, g3⟩ := ih i h1 h2
      exact ⟨j, by omega, g2, g3⟩
    · exact ⟨k, Nat.le_refl k, hk, fun i h1 h2 => e ⟨i, h1, h2⟩⟩
/-- ks is the way from v to p, by the tolls d -/
def Wy (on ot c d : Nat → Nat) (nB p : Nat) : List Nat → Nat → Prop
  | [] => fun v => v = p
  | k :: ks => fun v => v ≠ p ∧ fst1 on ot c d nB v k ∧ Wy on ot c d nB p ks (ow on ot k v)
theorem ow_lt {on ot c : Nat → Nat} {nP nB : Nat} (hL : LB nP nB on ot c) {k : Nat} (hk : k < nB) (v : Nat) : ow on ot k v < nP := by
  obtain ⟨l1, l2, l3, l4, l5⟩ := hL k hk
  unfold ow
  split
  · exact l2
  · exact l1
theorem Wy_ex {on ot c : Nat → Nat} {nP nB : Nat} (hL : LB nP nB on ot c) {p : Nat} : ∀ g v, v < nP → dW on ot c nB nP p v ≤ g → dW on ot c nB nP p v < 100000000 → ∃ ks : List Nat, ks.length ≤ rk (dW on ot c nB nP p) nP v ∧ Wy on ot c (dW on ot c nB nP p) nB p ks v
  | g, v, hv, hg, hlt => by
    by_cases hab : p = v
    · exact ⟨[], Nat.zero_le _, hab.symm⟩
    · obtain ⟨i, u, h1, h2, h3, h4, h5, h6⟩ := dW_pre hL hab hlt
      have hs := dW_step hL h1 p
      obtain ⟨l1, l2, l3, l4, l5⟩ := hL i h1
      have hpk : pk1 on ot c (dW on ot c nB nP p) v i := by
        rcases h3 with ⟨e1, e2⟩ | ⟨e1, e2⟩
        · refine ⟨Or.inr e2.symm, ?_⟩
          rw [show ow on ot i v = on i from if_neg (by omega)]
          rw [e1] at h6
          rw [e2] at h6 ⊢
          omega
        · refine ⟨Or.inl e2.symm, ?_⟩
          rw [show ow on ot i v = ot i from if_pos e2.symm]
          rw [e1] at h6
          rw [e2] at h6 ⊢
          omega
      obtain ⟨k, k1, k2, k3⟩ := least1 (P := pk1 on ot c (dW on ot c nB nP p) v) i hpk
      have hk : k < nB := by omega
      have hc := (hL k hk).2.2.2.1
      have hw := ow_lt hL hk v
      have e := k2.2
      have hr := rk_ord (G := dW on ot c nB nP p) (n := nP) hw (show dW on ot c nB nP p (ow on ot k v) < dW on ot c nB nP p v by omega)
      cases g with
      | zero => omega
      | succ g =>
        obtain ⟨ks, q1, q2⟩ := Wy_ex hL (p := p) g (ow on ot k v) hw (by omega) (by omega)
        exact ⟨k :: ks, by rw [List.length_cons]; omega, fun z => hab z.symm, ⟨hk, k2, k3⟩, q2⟩
/-- the same way by tolls that are cut off far above -/
theorem Wy_cut {on ot c d d' : Nat → Nat} {nP nB p : Nat} (hL : LB nP nB on ot c) (hd : ∀ v, v < nP → d' v = min 1000000 (d v)) : ∀ ks v, v < nP → d v < 1000000 → Wy on ot c d nB p ks v → Wy on ot c d' nB p ks v
  | [], v, _, _, h => h
  | k :: ks, v, hv, hlt, h => by
    obtain ⟨h1, ⟨h2, h3, h4⟩, h5⟩ := h
    have hw := ow_lt hL h2 v
    have e := h3.2
    have e1 := hd v hv
    refine ⟨h1, ⟨h2, ⟨h3.1, ?_⟩, fun i hi z => h4 i hi ⟨z.1, ?_⟩⟩, Wy_cut hL hd ks _ hw (by omega) h5⟩
    · have e2 := hd _ hw
      omega
    · have e2 := hd _ (ow_lt hL (show i < nB by omega) v)
      have e3 := z.2
      omega
theorem Wy_lt {on ot c d : Nat → Nat} {nB p : Nat} : ∀ ks v, Wy on ot c d nB p ks v → ∀ k, k ∈ ks → k < nB
  | [], v, _, k, hk => by cases hk
  | x :: ks, v, h, k, hk => by
    rcases List.mem_cons.mp hk with e | e
    · rw [e]; exact h.2.1.1
    · exact Wy_lt ks _ h.2.2 k e
/-- the way is one -/
theorem Wy_one {on ot c d : Nat → Nat} {nB p : Nat} : ∀ ks ks' v, Wy on ot c d nB p ks v → Wy on ot c d nB p ks' v → ks = ks'
  | [], [], _, _, _ => rfl
  | [], k :: ks, v, h, h' => absurd h h'.1
  | k :: ks, [], v, h, h' => absurd h' h.1
  | k :: ks, k' :: ks', v, h, h' => by
    have e : k = k' := by
      rcases Nat.lt_trichotomy k k' with q | q | q
      · exact absurd h.2.1.2.1 (h'.2.1.2.2 k q)
      · exact q
      · exact absurd h'.2.1.2.1 (h.2.1.2.2 k' q)
    subst e
    rw [Wy_one ks ks' _ h.2.2 h'.2.2]
/-- a list of numbers lies in a row of ints, its length in a field -/
def Lw (h : zH) (ob sl g : Nat) (ks : List Nat) : Prop := zI h ob 0 sl = nI ks.length ∧ ∀ (i : Nat) (x : Nat), ks[i]? = some x → zI h g 0 i = nI x
theorem Lw.more {h : zH} {ob sl g : Nat} {ks : List Nat} (hg : g ≠ ob) (x : Lw h ob sl g ks) (k : Nat) : Lw (zsI (zsI h g 0 ks.length (nI k)) ob 0 sl (nI (ks.length + 1))) ob sl g (ks ++ [k]) := by
  refine ⟨by rw [zI_same, List.length_append]; rfl, fun i y hy => ?_⟩
  have e0 : zI (zsI (zsI h g 0 ks.length (nI k)) ob 0 sl (nI (ks.length + 1))) g 0 i = zI (zsI h g 0 ks.length (nI k)) g 0 i := if_neg (fun z => hg z.1)
  rw [e0]
  rcases Nat.lt_trichotomy i ks.length with q | q | q
  · rw [List.getElem?_append_left q] at hy
    rw [zI_oth _ _ _ _ _ (by omega)]
    exact x.2 i y hy
  · subst q
    rw [List.getElem?_append_right (Nat.le_refl _), Nat.sub_self] at hy
    cases hy
    exact zI_same _ _ _ _ _
  · rw [List.getElem?_eq_none (by rw [List.length_append]; show ks.length + 1 ≤ i; omega)] at hy
    cases hy
