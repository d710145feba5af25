-- the coupling of class and model; the small pairs, by program (wip/gen/p91.py)
def iK (h : zH) (nP nB nE nS : Nat) : Prop := Wc h ∧ Wm h ∧ zC h 58 = nP ∧ zC h 59 = nB ∧ zC h 60 = nE ∧ zC h 61 = nS ∧ zC h 17 = nE + 1 ∧ zc h ≤ 200 + 3 * nP + nB + nS + 9 * nE ∧ zs h ≤ 20000 + 205 * nP + 4 * nB + 6 * nS + 1100 * nE
def iN1 (h : zH) (nP nB nE nS Y : Nat) : Prop := (zI h 0 0 8 = nI nP ∧ zI h 1 0 4 = nI nP ∧ nP ≤ 10) ∧ (zI h 0 0 9 = nI nB ∧ zI h 1 0 5 = nI nB ∧ nB ≤ 16) ∧ (zI h 0 0 10 = nI nS ∧ zI h 1 0 40 = nI nS ∧ nS ≤ 8) ∧ (zI h 0 0 11 = nI Y ∧ zI h 1 0 6 = nI Y ∧ Y ≤ 99) ∧ (zI h 55 0 2 = nI nE ∧ zI h 1 0 14 = nI nE ∧ nE ≤ 30)
def iN2 (h : zH) : Prop := ∃ w, w ≤ 200 ∧ zI h 0 0 12 = nI w ∧ zI h 1 0 7 = nI w
def iN3 (h : zH) : Prop := zI h 0 0 13 = zI h 1 0 1 ∧ zI h 0 0 14 = zI h 1 0 3 ∧ (zI h 0 0 13 = 4 → zI h 0 0 15 = zI h 1 0 2) ∧ (¬ zI h 0 0 13 = 4 → zI h 1 0 2 = -1)
def iP (h : zH) (nP : Nat) : Prop := ∀ p, p < nP → ∃ m k, m ≤ 100000 ∧ k ≤ 50 ∧ zI h 58 p 0 = nI m ∧ zI h 10 0 p = nI m ∧ zI h 58 p 1 = nI k ∧ zI h 11 0 p = nI k
def iB (h : zH) (nP nB : Nat) : Prop := (∀ k, k < nB → ∃ a b r g, a < nP ∧ b < nP ∧ a ≠ b ∧ 1 ≤ r ∧ r ≤ 500 ∧ g ≤ 9 ∧ (zI h 59 k 0 = nI a ∧ zI h 12 0 k = nI a) ∧ (zI h 59 k 1 = nI b ∧ zI h 13 0 k = nI b) ∧ (zI h 59 k 2 = nI r ∧ zI h 14 0 k = nI r) ∧ zI h 59 k 3 = nI g ∧ zI h 15 0 k = nI g) ∧ ∀ k, nB ≤ k → zI h 15 0 k = 0
def iE (h : zH) (nE : Nat) (pg : Nat → List (Bool × List (Nat × Int32))) : Prop := ∀ e, e < nE → CR h e (pg e) ∧ MR h e (pg e) ∧ zI h 60 e 0 = zI h 17 e 0 ∧ zI h 60 e 1 = zI h 17 e 1 ∧ ∃ y, y ≤ 99 ∧ zI h 60 e 1 = nI y
def iM (h : zH) (nP nE : Nat) (pg : Nat → List (Bool × List (Nat × Int32))) : Prop := MO h nP (pfC (cP h) (cY h) nE pg) (fun p => zI h 58 p 0) (fun p => zI h 58 p 1)
/-- a store on both sides -/
def iS1 (h : zH) (s : Nat) : Prop := ∃ a b c, a ≤ 1000000000 ∧ b ≤ 1000000000 ∧ c ≤ 1000000000 ∧ (zI h 61 s 0 = nI a ∧ zI h 28 0 s = nI a) ∧ (zI h 61 s 1 = nI b ∧ zI h 29 0 s = nI b) ∧ (zI h 61 s 2 = nI c ∧ zI h 30 0 s = nI c) ∧ zL h 61 s 5 = zL h 33 0 s ∧ ((zI h 61 s 4 = 0 ∧ zI h 31 0 s = -1) ∨ (zI h 61 s 4 = 1 ∧ ∃ d, d ≤ 1000000000 ∧ zI h 61 s 3 = nI d ∧ zI h 31 0 s = nI d))
def iS (h : zH) (nS : Nat) : Prop := (∀ s, s < nS → iS1 h s) ∧ ∀ s, nS ≤ s → zI h 29 0 s = 0 ∧ zI h 30 0 s = 0 ∧ zL h 33 0 s = 0
def iT (h : zH) (N : Nat) : Prop := N ≤ 300 ∧ zI h 53 0 1 = nI N ∧ zI h 1 0 19 = nI N ∧ ∀ k, k < N → ∃ b, b < 256 ∧ zI h 79 0 k = sg b ∧ zI h 19 0 k = sg b
def iW (h : zH) (nT : Nat) : Prop := nT ≤ 16 ∧ zI h 57 0 2 = nI nT ∧ zI h 1 0 39 = nI nT ∧ ∀ k, k < 16 → zI h 83 0 k = zI h 27 0 k
/-- ALL THAT HOLDS BETWEEN TWO CALLS -/
def Inv (h : zH) : Prop := ∃ (nP nB nE nS Y N nT : Nat) (pg : Nat → List (Bool × List (Nat × Int32))), iK h nP nB nE nS ∧ iN1 h nP nB nE nS Y ∧ iN2 h ∧ iN3 h ∧ iP h nP ∧ iB h nP nB ∧ iE h nE pg ∧ iM h nP nE pg ∧ iS h nS ∧ iT h N ∧ iW h nT
/-- the script is as it was -/
def Sc (h h' : zH) : Prop := zI h' 999 0 = zI h 999 0 ∧ zN h' 999 0 = zN h 999 0
theorem Sc.tr {a b c : zH} (x : Sc a b) (y : Sc b c) : Sc a c := ⟨y.1.trans x.1, y.2.trans x.2⟩
/-- an answer of the method's kind -/
def kd (v : zV) (M : zM) : Bool := match zMr M, v with
  | some .long, .inr (.inl _) => true
  | some .long, _ => false
  | _, .inl _ => true
  | _, _ => false
theorem kd_I {v : zV} {M : zM} (h : kd v M = true) (hm : zMr M = some .int ∨ zMr M = some .boolean) : ∃ x, v = Vi x := by
  unfold kd at h
  rcases hm with e | e <;> rw [e] at h <;> rcases v with x | x | x
  · exact ⟨x, rfl⟩
  · exact absurd h Bool.false_ne_true
  · exact absurd h Bool.false_ne_true
  · exact ⟨x, rfl⟩
  · exact absurd h Bool.false_ne_true
  · exact absurd h Bool.false_ne_true
theorem kd_J {v : zV} {M : zM} (h : kd v M = true) (hm : zMr M = some .long) : ∃ x, v = Vj x := by
  unfold kd at h
  rw [hm] at h
  rcases v with x | x | x
  · exact absurd h Bool.false_ne_true
  · exact ⟨x, rfl⟩
  · exact absurd h Bool.false_ne_true
/-- a call on the class, then on the model: the same answer, and the coupling holds behind -/
def Pr (l : Launch) (dc dm : Nat) (Mc Mm : zM) (as : List zV) (h : zH) : Prop := Ct l dc Mc (Vq (some (0, 0)) :: as) h (fun o h1 => ∃ v, o = Rv v ∧ kd v Mc = true ∧ Sc h h1 ∧ Ct l dm Mm (Vq (some (1, 0)) :: as) h1 (fun o2 h2 => o2 = Rv v ∧ Sc h h2 ∧ Inv h2))
theorem Pr.x {l : Launch} {dc dm : Nat} {Mc Mm : zM} {as : List zV} {h h1 h2 : zH} {v w : zV} (x : Cx l dc Mc (Vq (some (0, 0)) :: as) h (Rv v) h1) (y : Cx l dm Mm (Vq (some (1, 0)) :: as) h1 (Rv w) h2) (e : w = v) (k : Inv h2) (s1 : Sc h h1 := by exact ⟨rfl, rfl⟩) (s2 : Sc h h2 := by exact ⟨rfl, rfl⟩) (kk : kd v Mc = true := by rfl) : Pr l dc dm Mc Mm as h := by
  refine Ct.mono x (fun o h' hq => ?_)
  obtain ⟨q1, q2⟩ := hq
  rw [q2]
  refine ⟨v, q1, kk, s1, Ct.mono y (fun o2 h3 hz => ?_)⟩
  obtain ⟨z1, z2⟩ := hz
  rw [z2, z1, e]
  exact ⟨rfl, s2, k⟩
theorem mG_c {f g : Nat → Int32} : ∀ n, (∀ k, k < n → f k = g k) → mG f n = mG g n
  | 0, _ => rfl
  | n + 1, h => by
    show mG f n + f n = mG g n + g n
    rw [mG_c n (fun k hk => h k (by omega)), h n (by omega)]
theorem mW_c {f g : Nat → Int64} (N : Nat) (hN : N < 1000) (h : ∀ k, k < N → f k = g k) : ∀ n, n ≤ N → mW f n = mW g n
  | 0, _ => rfl
  | n + 1, hn => by
    have ih := mW_c N hN h n (by omega)
    unfold mW
    rw [ih, h n (by omega)]
    rcases mW_ix g n (by omega) with q | ⟨j, j1, j2⟩
    · rw [q]
      by_cases e : 0 < g n
      · rw [if_pos ⟨e, Or.inl rfl⟩, if_pos ⟨e, Or.inl rfl⟩]
      · rw [if_neg (fun z => e z.1), if_neg (fun z => e z.1)]
    · rw [j2, nI_clamp (by omega), h j (by omega)]
theorem mF_c {eP eY eP' eY' : Nat → Int32} {p y : Int32} : ∀ n, (∀ k, k < n → eP k = eP' k ∧ eY k = eY' k) → n < 1000 → mF eP eY p y n = mF eP' eY' p y n
  | 0, _, _ => rfl
  | n + 1, h, hn => by
    have ih := mF_c (p := p) (y := y) n (fun k hk => h k (by omega)) (by omega)
    unfold mF
    rw [ih, (h n (by omega)).1, (h n (by omega)).2]
    rcases mF_ix eP' eY' p y n (by omega) with q | ⟨j, j1, j2⟩
    · rw [q]
      by_cases e : eP' n = p ∧ eY' n ≤ y
      · rw [if_pos ⟨e.1, e.2, Or.inl rfl⟩, if_pos ⟨e.1, e.2, Or.inl rfl⟩]
      · rw [if_neg (fun z => e ⟨z.1, z.2.1⟩), if_neg (fun z => e ⟨z.1, z.2.1⟩)]
    · rw [j2, nI_clamp (by omega), (h j (by omega)).2]
theorem pr_fault (l : Launch) (h : zH) (hI : Inv h) : Pr l 1 1 mX11_fault mX14_fault [] h := by
  obtain ⟨nP, nB, nE, nS, Y, N, nT, pg, hK, hN1, hN2, hN3, hP, hB, hE, hM, hS, hT, hW⟩ := hI
  obtain ⟨kC, kM, k58, k59, k60, k61, k17, kz, ks⟩ := id hK
  obtain ⟨⟨p0, p1, p2⟩, ⟨b0, b1, b2⟩, ⟨s0, s1x, s2⟩, ⟨y0, y1, y2⟩, ⟨e0, e1, e2⟩⟩ := id hN1
  exact Pr.x (qX11_fault l h) (qX14_fault l h) (congrArg Vi hN3.2.1.symm) ⟨nP, nB, nE, nS, Y, N, nT, pg, hK, hN1, hN2, hN3, hP, hB, hE, hM, hS, hT, hW⟩
theorem pr_trouble (l : Launch) (h : zH) (hI : Inv h) : Pr l 1 1 mX11_trouble mX14_trouble [] h := by
  obtain ⟨nP, nB, nE, nS, Y, N, nT, pg, hK, hN1, hN2, hN3, hP, hB, hE, hM, hS, hT, hW⟩ := hI
  obtain ⟨kC, kM, k58, k59, k60, k61, k17, kz, ks⟩ := id hK
  obtain ⟨⟨p0, p1, p2⟩, ⟨b0, b1, b2⟩, ⟨s0, s1x, s2⟩, ⟨y0, y1, y2⟩, ⟨e0, e1, e2⟩⟩ := id hN1
  exact Pr.x (qX11_trouble l h) (qX14_trouble l h) (congrArg Vi hN3.1.symm) ⟨nP, nB, nE, nS, Y, N, nT, pg, hK, hN1, hN2, hN3, hP, hB, hE, hM, hS, hT, hW⟩
theorem pr_where (l : Launch) (h : zH) (hI : Inv h) : Pr l 1 1 mX11_where mX14_where [] h := by
  obtain ⟨nP, nB, nE, nS, Y, N, nT, pg, hK, hN1, hN2, hN3, hP, hB, hE, hM, hS, hT, hW⟩ := hI
  obtain ⟨kC, kM, k58, k59, k60, k61, k17, kz, ks⟩ := id hK
  obtain ⟨⟨p0, p1, p2⟩, ⟨b0, b1, b2⟩, ⟨s0, s1x, s2⟩, ⟨y0, y1, y2⟩, ⟨e0, e1, e2⟩⟩ := id hN1
  refine Pr.x (qX11_where l h) (qX14_where l h) (congrArg Vi ?_) ⟨nP, nB, nE, nS, Y, N, nT, pg, hK, hN1, hN2, hN3, hP, hB, hE, hM, hS, hT, hW⟩
  by_cases e : zI h 0 0 13 = 4
  · rw [if_pos e]; exact (hN3.2.2.1 e).symm
  · rw [if_neg e]; exact hN3.2.2.2 e
theorem pr_missing (l : Launch) (h : zH) (hI : Inv h) (p : Int32) : Pr l 3 2 mX11_missing mX14_missing [Vi p] h := by
  obtain ⟨nP, nB, nE, nS, Y, N, nT, pg, hK, hN1, hN2, hN3, hP, hB, hE, hM, hS, hT, hW⟩ := hI
  obtain ⟨kC, kM, k58, k59, k60, k61, k17, kz, ks⟩ := id hK
  obtain ⟨⟨p0, p1, p2⟩, ⟨b0, b1, b2⟩, ⟨s0, s1x, s2⟩, ⟨y0, y1, y2⟩, ⟨e0, e1, e2⟩⟩ := id hN1
  refine Pr.x (qX11_missing l h kC p nS s0 s2 k61) (qX14_missing l h kM p nS s1x s2) (congrArg Vj ?_) ⟨nP, nB, nE, nS, Y, N, nT, pg, hK, hN1, hN2, hN3, hP, hB, hE, hM, hS, hT, hW⟩
  unfold mMissing
  by_cases e : 0 ≤ p ∧ p < nI nS
  · rw [if_pos e, if_pos e]
    obtain ⟨e1, e2⟩ := ixC (n := nS) (by omega) e
    obtain ⟨a, b, c, -, -, -, -, -, -, q, -⟩ := hS.1 _ e2
    exact q.symm
  · rw [if_neg e, if_neg e]
theorem pr_worst (l : Launch) (h : zH) (hI : Inv h) : Pr l 1 1 mX11_worst mX14_worst [] h := by
  obtain ⟨nP, nB, nE, nS, Y, N, nT, pg, hK, hN1, hN2, hN3, hP, hB, hE, hM, hS, hT, hW⟩ := hI
  obtain ⟨kC, kM, k58, k59, k60, k61, k17, kz, ks⟩ := id hK
  obtain ⟨⟨p0, p1, p2⟩, ⟨b0, b1, b2⟩, ⟨s0, s1x, s2⟩, ⟨y0, y1, y2⟩, ⟨e0, e1, e2⟩⟩ := id hN1
  refine Pr.x (qX11_worst l h kC nS s0 s2 k61) (qX14_worst l h kM nS s1x s2) (congrArg Vi ?_) ⟨nP, nB, nE, nS, Y, N, nT, pg, hK, hN1, hN2, hN3, hP, hB, hE, hM, hS, hT, hW⟩
  refine mW_c nS (by omega) (fun k hk => ?_) nS (Nat.le_refl _)
  obtain ⟨a, b, c, -, -, -, -, -, -, q, -⟩ := hS.1 _ hk
  exact q.symm
theorem pr_stand (l : Launch) (h : zH) (hI : Inv h) (p : Int32) : Pr l 2 1 mX11_stand mX14_stand [Vi p] h := by
  obtain ⟨nP, nB, nE, nS, Y, N, nT, pg, hK, hN1, hN2, hN3, hP, hB, hE, hM, hS, hT, hW⟩ := hI
  obtain ⟨kC, kM, k58, k59, k60, k61, k17, kz, ks⟩ := id hK
  obtain ⟨⟨p0, p1, p2⟩, ⟨b0, b1, b2⟩, ⟨s0, s1x, s2⟩, ⟨y0, y1, y2⟩, ⟨e0, e1, e2⟩⟩ := id hN1
  refine Pr.x (qX11_stand l h kC p nT hW.2.1 hW.1) (qX14_stand l h kM p nT hW.2.2.1 hW.1) (congrArg Vi ?_) ⟨nP, nB, nE, nS, Y, N, nT, pg, hK, hN1, hN2, hN3, hP, hB, hE, hM, hS, hT, hW⟩
  unfold mStand
  have hT2 := hW.1
  by_cases e : 0 ≤ p ∧ p < nI nT
  · rw [if_pos e, if_pos e]
    obtain ⟨e1, e2⟩ := ixC (n := nT) (by omega) e
    exact (hW.2.2.2 _ (by omega)).symm
  · rw [if_neg e, if_neg e]
theorem pr_count (l : Launch) (h : zH) (hI : Inv h) (w : Int32) : Pr l 2 1 mX11_count mX14_count [Vi w] h := by
  obtain ⟨nP, nB, nE, nS, Y, N, nT, pg, hK, hN1, hN2, hN3, hP, hB, hE, hM, hS, hT, hW⟩ := hI
  obtain ⟨kC, kM, k58, k59, k60, k61, k17, kz, ks⟩ := id hK
  obtain ⟨⟨p0, p1, p2⟩, ⟨b0, b1, b2⟩, ⟨s0, s1x, s2⟩, ⟨y0, y1, y2⟩, ⟨e0, e1, e2⟩⟩ := id hN1
  refine Pr.x (qX11_count l h kC w nB b0 b2 k59) (qX14_count l h kM w nB b1 b2) (congrArg Vi ?_) ⟨nP, nB, nE, nS, Y, N, nT, pg, hK, hN1, hN2, hN3, hP, hB, hE, hM, hS, hT, hW⟩
  unfold mCount cCount
  rw [p0, p1, b0, b1, e0, e1, y0, y1, s0, s1x, hT.2.1, hT.2.2.1, mG_c (f := zI h 15 0) (g := fun b => zI h 59 b 3) nB (fun k hk => by
    obtain ⟨a, b, r, g, -, -, -, -, -, -, -, -, -, q1, q2⟩ := hB.1 k hk
    rw [q1, q2])]
theorem pr_force (l : Launch) (h : zH) (hI : Inv h) (p y : Int32) : Pr l 3 2 mX11_force mX14_force [Vi p, Vi y] h := by
  obtain ⟨nP, nB, nE, nS, Y, N, nT, pg, hK, hN1, hN2, hN3, hP, hB, hE, hM, hS, hT, hW⟩ := hI
  obtain ⟨kC, kM, k58, k59, k60, k61, k17, kz, ks⟩ := id hK
  obtain ⟨⟨p0, p1, p2⟩, ⟨b0, b1, b2⟩, ⟨s0, s1x, s2⟩, ⟨y0, y1, y2⟩, ⟨e0, e1, e2⟩⟩ := id hN1
  refine Pr.x (qX11_force l h kC p y nP p0 p2 k58 nE e0 e2 k60 (fun e he => by obtain ⟨-, -, -, -, y, h1, h2⟩ := hE e he; unfold cY; rw [h2]; exact nI_pos' (by omega))) (qX14_force l h kM p y nP p1 p2 nE e1 e2 k17) (congrArg Vi ?_) ⟨nP, nB, nE, nS, Y, N, nT, pg, hK, hN1, hN2, hN3, hP, hB, hE, hM, hS, hT, hW⟩
  unfold mForce
  rw [mF_c (eP := eP h) (eY := eY h) (eP' := cP h) (eY' := cY h) nE (fun k hk => ⟨(hE k hk).2.2.1.symm, (hE k hk).2.2.2.1.symm⟩) (by omega)]
theorem pr_weight (l : Launch) (h : zH) (hI : Inv h) (v : Int32) : Pr l 2 2 mX11_weight mX14_weight [Vi v] h := by
  obtain ⟨nP, nB, nE, nS, Y, N, nT, pg, hK, hN1, hN2, hN3, hP, hB, hE, hM, hS, hT, hW⟩ := hI
  obtain ⟨kC, kM, k58, k59, k60, k61, k17, kz, ks⟩ := id hK
  obtain ⟨⟨p0, p1, p2⟩, ⟨b0, b1, b2⟩, ⟨s0, s1x, s2⟩, ⟨y0, y1, y2⟩, ⟨e0, e1, e2⟩⟩ := id hN1
  refine Pr.x (qX11_weight l h v) (qX14_weight l _ v) ?_ ?_ ?_ ?_
  · unfold cWeight mWeight
    split <;> rfl
  · unfold cWeight mWeight
    by_cases e : 0 ≤ v ∧ v ≤ 200
    · rw [if_pos e, if_pos e]
      obtain ⟨w, w1, w2⟩ := ixN (n := 201) (by omega) ⟨e.1, by rw [Int32.lt_iff_toInt_lt]; have := Int32.le_iff_toInt_le.mp e.2; rw [show (nI 201).toInt = 201 by decide]; rw [show (200 : Int32).toInt = 200 by decide] at this; omega⟩
      exact ⟨nP, nB, nE, nS, Y, N, nT, pg, hK, hN1, ⟨w, by omega, w2, w2⟩, ⟨rfl, hN3.2.1, fun z => absurd (show (0 : Int32) = 4 from z) (by decide), fun _ => rfl⟩, hP, hB, hE, hM, hS, hT, hW⟩
    · rw [if_neg e, if_neg e]
      exact ⟨nP, nB, nE, nS, Y, N, nT, pg, hK, hN1, hN2, ⟨rfl, hN3.2.1, fun z => absurd (show (2 : Int32) = 4 from z) (by decide), fun _ => rfl⟩, hP, hB, hE, hM, hS, hT, hW⟩
  · unfold cWeight
    by_cases e : 0 ≤ v ∧ v ≤ 200
    · rw [if_pos e]; exact ⟨rfl, rfl⟩
    · rw [if_neg e]; exact ⟨rfl, rfl⟩
  · unfold cWeight mWeight
    by_cases e : 0 ≤ v ∧ v ≤ 200
    · rw [if_pos e, if_pos e]; exact ⟨rfl, rfl⟩
    · rw [if_neg e, if_neg e]; exact ⟨rfl, rfl⟩
