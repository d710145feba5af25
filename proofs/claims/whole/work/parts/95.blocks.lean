-- blocks carried from heap to heap; pass, feed, by program (wip/gen/p95.py)
theorem iK.c {h h' : zH} {nP nB nE nS : Nat} (x : iK h nP nB nE nS) (e : h'.2.2 = h.2.2) : iK h' nP nB nE nS := by
  obtain ⟨x1, x2, x3⟩ := x
  refine ⟨Wc.same e x1, Wm.same e x2, ?_⟩
  unfold zC zc zs
  rw [e]
  exact x3
theorem iN1.c {h h' : zH} {nP nB nE nS Y : Nat} (x : iN1 h nP nB nE nS Y) (e0 : ∀ j, 8 ≤ j → j ≤ 11 → zI h' 0 0 j = zI h 0 0 j) (e1 : ∀ j, j = 4 ∨ j = 5 ∨ j = 6 ∨ j = 14 ∨ j = 40 → zI h' 1 0 j = zI h 1 0 j) (e2 : zI h' 55 0 2 = zI h 55 0 2) : iN1 h' nP nB nE nS Y := by
  unfold iN1
  rw [e0 8 (by omega) (by omega), e0 9 (by omega) (by omega), e0 10 (by omega) (by omega), e0 11 (by omega) (by omega), e1 4 (by omega), e1 5 (by omega), e1 6 (by omega), e1 14 (by omega), e1 40 (by omega), e2]
  exact x
theorem iN2.c {h h' : zH} (x : iN2 h) (e0 : zI h' 0 0 12 = zI h 0 0 12) (e1 : zI h' 1 0 7 = zI h 1 0 7) : iN2 h' := by
  unfold iN2
  rw [e0, e1]
  exact x
theorem iN3.c {h h' : zH} (x : iN3 h) (e0 : ∀ j, 13 ≤ j → j ≤ 15 → zI h' 0 0 j = zI h 0 0 j) (e1 : ∀ j, 1 ≤ j → j ≤ 3 → zI h' 1 0 j = zI h 1 0 j) : iN3 h' := by
  unfold iN3
  rw [e0 13 (by omega) (by omega), e0 14 (by omega) (by omega), e0 15 (by omega) (by omega), e1 1 (by omega) (by omega), e1 2 (by omega) (by omega), e1 3 (by omega) (by omega)]
  exact x
theorem iP.c {h h' : zH} {nP : Nat} (x : iP h nP) (e0 : ∀ p j, j ≤ 1 → zI h' 58 p j = zI h 58 p j) (e1 : zI h' 10 = zI h 10) (e2 : zI h' 11 = zI h 11) : iP h' nP := by
  intro p hp
  rw [e0 p 0 (by omega), e0 p 1 (by omega), e1, e2]
  exact x p hp
theorem iB.c {h h' : zH} {nP nB : Nat} (x : iB h nP nB) (e0 : zI h' 59 = zI h 59) (e1 : zI h' 12 = zI h 12) (e2 : zI h' 13 = zI h 13) (e3 : zI h' 14 = zI h 14) (e4 : zI h' 15 = zI h 15) : iB h' nP nB := by
  unfold iB
  rw [e0, e1, e2, e3, e4]
  exact x
theorem iS.c {h h' : zH} {nS : Nat} (x : iS h nS) (e0 : zI h' 61 = zI h 61) (e1 : zL h' 61 = zL h 61) (e2 : zI h' 28 = zI h 28) (e3 : zI h' 29 = zI h 29) (e4 : zI h' 30 = zI h 30) (e5 : zI h' 31 = zI h 31) (e6 : zL h' 33 = zL h 33) : iS h' nS := by
  unfold iS iS1
  rw [e0, e1, e2, e3, e4, e5, e6]
  exact x
theorem iT.c {h h' : zH} {N : Nat} (x : iT h N) (e0 : zI h' 53 = zI h 53) (e1 : zI h' 1 0 19 = zI h 1 0 19) (e2 : zI h' 79 = zI h 79) (e3 : zI h' 19 = zI h 19) : iT h' N := by
  unfold iT
  rw [e0, e1, e2, e3]
  exact x
theorem iW.c {h h' : zH} {nT : Nat} (x : iW h nT) (e0 : zI h' 57 = zI h 57) (e1 : zI h' 1 0 39 = zI h 1 0 39) (e2 : zI h' 83 = zI h 83) (e3 : zI h' 27 = zI h 27) : iW h' nT := by
  unfold iW
  rw [e0, e1, e2, e3]
  exact x
theorem CR.c {h h' : zH} {e : Nat} {p : List (Bool × List (Nat × Int32))} (x : CR h e p) (e0 : zN h' 75 e = zN h 75 e) (e1 : zI h' 75 e = zI h 75 e) : CR h' e p := by
  unfold CR
  rw [e0, e1]
  exact x
theorem MR.c {h h' : zH} {e : Nat} {p : List (Bool × List (Nat × Int32))} (x : MR h e p) (e0 : zI h' 17 e 2 = zI h 17 e 2) (e1 : zI h' 35 e = zI h 35 e) (e2 : zI h' 37 e = zI h 37 e) (e3 : zI h' 38 e = zI h 38 e) (e4 : zI h' 39 e = zI h 39 e) (e5 : zI h' 40 e = zI h 40 e) : MR h' e p := by
  unfold MR
  rw [e0, e1, e2, e3, e4, e5]
  exact x
theorem iE.c {h h' : zH} {nE : Nat} {pg : Nat → List (Bool × List (Nat × Int32))} (x : iE h nE pg) (e0 : zN h' 75 = zN h 75) (e1 : zI h' 75 = zI h 75) (e2 : zI h' 60 = zI h 60) (e3 : zI h' 17 = zI h 17) (e4 : zI h' 35 = zI h 35) (e5 : zI h' 37 = zI h 37) (e6 : zI h' 38 = zI h 38) (e7 : zI h' 39 = zI h 39) (e8 : zI h' 40 = zI h 40) : iE h' nE pg := by
  intro e he
  obtain ⟨x1, x2, x3⟩ := x e he
  refine ⟨x1.c (by rw [e0]) (by rw [e1]), x2.c (by rw [e3]) (by rw [e4]) (by rw [e5]) (by rw [e6]) (by rw [e7]) (by rw [e8]), ?_⟩
  rw [e2, e3]
  exact x3
theorem iM.c {h h' : zH} {nP nE : Nat} {pg : Nat → List (Bool × List (Nat × Int32))} (x : iM h nP nE pg) (e0 : zI h' 58 = zI h 58) (e1 : zI h' 60 = zI h 60) (e2 : zI h' 76 = zI h 76) (e3 : zI h' 77 = zI h 77) : iM h' nP nE pg := by
  unfold iM MO MM
  rw [show cP h' = cP h by unfold cP; rw [e1], show cY h' = cY h by unfold cY; rw [e1], e0, e2, e3]
  exact x
theorem mAl_c {f g : Nat → Int32} : ∀ n, (∀ k, k < n → (f k = -1 ↔ g k = -1)) → (mAl f n ↔ mAl g n)
  | 0, _ => Iff.rfl
  | n + 1, h => by
    show mAl f n ∧ ¬ f n = -1 ↔ mAl g n ∧ ¬ g n = -1
    rw [mAl_c n (fun k hk => h k (by omega)), h n (by omega)]
theorem mAlb_c {f g : Nat → Int32} {n : Nat} (h : ∀ k, k < n → (f k = -1 ↔ g k = -1)) : mAlb f n = mAlb g n := by
  by_cases e : mAl f n
  · rw [mAlb_t e, mAlb_t ((mAl_c n h).mp e)]
  · rw [mAlb_f e, mAlb_f (fun z => e ((mAl_c n h).mpr z))]
theorem mAlb_all {f : Nat → Int32} {n : Nat} (h : ¬ mAlb f n = 0) : ∀ k, k < n → ¬ f k = -1 := by
  have h1 : mAl f n := by
    apply Classical.byContradiction
    intro z
    exact h (mAlb_f z)
  exact mAl_all h1
theorem cpH_f (h : zH) : ∀ n, (∀ k, k ≠ 61 → zI (cpH h n) k = zI h k ∧ zL (cpH h n) k = zL h k)
  | 0, _, _ => ⟨rfl, rfl⟩
  | n + 1, k, hk => by
    obtain ⟨i1, i2⟩ := cpH_f h n k hk
    rw [← i1, ← i2]
    constructor
    · show zI (sClose (cpH h n) n) k = _
      unfold sClose
      exact funext (fun a => funext (fun b => (if_neg (fun z => hk z.1)).trans ((if_neg (fun z => hk z.1)).trans ((if_neg (fun z => hk z.1)).trans (if_neg (fun z => hk z.1))))))
    · show zL (sClose (cpH h n) n) k = _
      unfold sClose
      exact funext (fun a => funext (fun b => if_neg (fun z => hk z.1)))
theorem pH_f (h : zH) : ∀ n, (∀ k, (k < 28 ∨ 31 < k) → zI (pH h n) k = zI h k) ∧ ∀ k, k ≠ 33 → zL (pH h n) k = zL h k
  | 0 => ⟨fun _ _ => rfl, fun _ _ => rfl⟩
  | n + 1 => by
    obtain ⟨i1, i2⟩ := pH_f h n
    refine ⟨fun k hk => ?_, fun k hk => ?_⟩
    · rw [← i1 k hk]
      exact funext (fun a => funext (fun b => (if_neg (fun z => by omega)).trans ((if_neg (fun z => by omega)).trans ((if_neg (fun z => by omega)).trans (if_neg (fun z => by omega))))))
    · rw [← i2 k hk]
      exact funext (fun a => funext (fun b => if_neg (fun z => hk z.1)))
