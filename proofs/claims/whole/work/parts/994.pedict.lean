-- pairs: edict, by program (wip/gen/p994.py)
theorem cE1_f {h h1 : zH} (f : FrE h h1) : (cE1 h1).2 = h.2 ∧ (∀ k, k ≠ 0 → k ≠ 53 → k ≠ 54 → k ≠ 73 → k ≠ 74 → k ≠ 80 → k ≠ 81 → zI (cE1 h1) k = zI h k) ∧ (∀ i, i < 14 → zI (cE1 h1) 0 0 i = zI h 0 0 i) ∧ zI (cE1 h1) 53 0 1 = 0 ∧ zI (cE1 h1) 0 0 14 = zI h1 54 0 5 ∧ zI (cE1 h1) 0 0 15 = zI h1 54 0 6 ∧ zI (cE1 h1) 74 = zI h1 74 := by
  refine ⟨f.1, fun k h0 h53 h54 h73 h74 h80 h81 => ?_, fun i hi => ?_, ?_, ?_, ?_, ?_⟩ <;> unfold cE1
  · rw [zI_ss _ 0 0 15 _ h0, zI_ss _ 0 0 14 _ h0, zI_ss _ 53 0 1 _ h53]
    exact f.2 k h54 h74 h73 h80 h81
  · rw [zI_oth _ 0 0 15 _ (by omega), zI_oth _ 0 0 14 _ (by omega), zI_ss _ 53 0 1 _ (by decide), f.2 0 (by decide) (by decide) (by decide) (by decide) (by decide)]
  · rw [zI_ss _ 0 0 15 _ (by decide), zI_ss _ 0 0 14 _ (by decide)]
    exact zI_same _ 53 0 1 _
  · rw [zI_oth _ 0 0 15 _ (by decide)]
    exact zI_same _ 0 0 14 _
  · exact zI_same _ 0 0 15 _
  · rw [zI_ss _ 0 0 15 _ (by decide), zI_ss _ 0 0 14 _ (by decide), zI_ss _ 53 0 1 _ (by decide)]
theorem mE_f {g h3 : zH} {n e : Nat} (f : FrRd e (mE0 g n) h3) : h3.2.2 = g.2.2 ∧ (∀ k, k ≠ 1 → k ≠ 17 → k ≠ 18 → (k < 35 ∨ 40 < k) → zI h3 k = zI g k) ∧ (∀ i, 3 < i → i ≠ 19 → i ≠ 20 → (i < 21 ∨ 27 < i) → zI h3 1 0 i = zI g 1 0 i) ∧ zI h3 1 0 19 = 0 ∧ zI h3 1 0 3 = 0 ∧ (∀ k i, k ≠ 1 → k ≠ 18 → i ≠ e → zI h3 k i = zI g k i) ∧ ∀ k, k ≠ 1 → zL h3 k = zL g k := by
  obtain ⟨f1, f2, f3, f4, f5⟩ := f
  have hk : ∀ k, k ≠ 1 → zI (mE0 g n) k = zI g k := fun k h1 => by
    unfold mE0
    rw [zI_ss _ 1 0 3 _ h1, zI_ss _ 1 0 21 _ h1, zI_ss _ 1 0 19 _ h1, zI_ss _ 1 0 20 _ h1, zI_ss _ 1 0 0 _ h1]
  refine ⟨f1, fun k h1 h17 h18 h35 => ?_, fun i h3 h19 h20 h21 => ?_, ?_, ?_, fun k i h1 h18 hi => ?_, fun k h1 => ?_⟩
  · exact (f2 k h1 h17 h18 (by omega) (by omega) (by omega) (by omega) (by omega) (by omega)).trans (hk k h1)
  · rw [f3 0 i h21]
    unfold mE0
    rw [zI_oth _ 1 0 3 _ (by omega), zI_oth _ 1 0 21 _ (by omega), zI_oth _ 1 0 19 _ h19, zI_oth _ 1 0 20 _ h20, zI_oth _ 1 0 0 _ (by omega)]
  · rw [f3 0 19 (by omega)]
    rfl
  · rw [f3 0 3 (by omega)]
    rfl
  · funext j
    rw [f4 k i j h1 h18 hi, hk k h1]
  · funext i j
    exact f5 k i j (fun z => h1 z.1)
theorem ed_inv {h h2 h4 : zH} {nP nB nE nS Y nT : Nat} {pg : Nat → List (Bool × List (Nat × Int32))} (hK : iK h nP nB nE nS) (hN1 : iN1 h nP nB nE nS Y) (hN2 : iN2 h) (hP : iP h nP) (hB : iB h nP nB) (hE : iE h nE pg) (hM : iM h nP nE pg) (hS : iS h nS) (hW : iW h nT) (c1 : h2.2 = h.2) (c2 : ∀ k, k ≠ 0 → k ≠ 53 → k ≠ 54 → k ≠ 73 → k ≠ 74 → k ≠ 80 → k ≠ 81 → zI h2 k = zI h k) (c3 : ∀ i, i < 13 → zI h2 0 0 i = zI h 0 0 i) (c4 : zI h2 53 0 1 = 0) (m1 : h4.2.2 = h2.2.2) (m2 : ∀ k, k ≠ 1 → k ≠ 17 → k ≠ 18 → (k < 35 ∨ 40 < k) → zI h4 k = zI h2 k) (m3 : ∀ i, 3 < i → i ≠ 19 → i ≠ 20 → (i < 21 ∨ 27 < i) → zI h4 1 0 i = zI h2 1 0 i) (m4 : zI h4 1 0 19 = 0) (m5 : ∀ k i, k ≠ 1 → k ≠ 18 → i ≠ nE → zI h4 k i = zI h2 k i) (m6 : ∀ k, k ≠ 1 → zL h4 k = zL h2 k) (hN3 : iN3 h4) : Inv h4 := by
  have g : ∀ k, (10 ≤ k ∧ k ≤ 15 ∨ k = 19 ∨ 27 ≤ k ∧ k ≤ 31 ∨ k = 55 ∨ 57 ≤ k ∧ k ≤ 61 ∨ 75 ≤ k ∧ k ≤ 79 ∨ k = 83) → zI h4 k = zI h k := fun k hk => (m2 k (by omega) (by omega) (by omega) (by omega)).trans (c2 k (by omega) (by omega) (by omega) (by omega) (by omega) (by omega) (by omega))
  have g0 : ∀ i, i < 13 → zI h4 0 0 i = zI h 0 0 i := fun i hi => by rw [m2 0 (by decide) (by decide) (by decide) (by decide)]; exact c3 i hi
  have g1 : ∀ i, 3 < i → i ≠ 19 → i ≠ 20 → (i < 21 ∨ 27 < i) → zI h4 1 0 i = zI h 1 0 i := fun i h1 h2 h3 h4 => (m3 i h1 h2 h3 h4).trans (by rw [c2 1 (by decide) (by decide) (by decide) (by decide) (by decide) (by decide) (by decide)])
  have gL : ∀ k, k ≠ 1 → zL h4 k = zL h k := fun k hk => (m6 k hk).trans (by unfold zL; rw [c1])
  have ge : ∀ k i, (k = 17 ∨ 35 ≤ k ∧ k ≤ 40) → i < nE → zI h4 k i = zI h k i := fun k i hk hi => (m5 k i (by omega) (by omega) (by omega)).trans (by rw [c2 k (by omega) (by omega) (by omega) (by omega) (by omega) (by omega) (by omega)])
  have q : h4.2.2 = h.2.2 := m1.trans (congrArg Prod.snd c1)
  refine ⟨nP, nB, nE, nS, Y, 0, nT, pg, hK.c q, hN1.c (fun j h1 h2 => g0 j (by omega)) (fun j hj => g1 j (by omega) (by omega) (by omega) (by omega)) (by rw [g 55 (by decide)]), hN2.c (g0 12 (by decide)) (g1 7 (by decide) (by decide) (by decide) (by decide)), hN3, hP.c (fun p j _ => by rw [g 58 (by decide)]) (g 10 (by decide)) (g 11 (by decide)), hB.c (g 59 (by decide)) (g 12 (by decide)) (g 13 (by decide)) (g 14 (by decide)) (g 15 (by decide)), fun e he => ?_, hM.c (g 58 (by decide)) (g 60 (by decide)) (g 76 (by decide)) (g 77 (by decide)), hS.c (g 61 (by decide)) (gL 61 (by decide)) (g 28 (by decide)) (g 29 (by decide)) (g 30 (by decide)) (g 31 (by decide)) (gL 33 (by decide)), ⟨by omega, ?_, m4, fun k hk => by omega⟩, hW.c (g 57 (by decide)) (g1 39 (by decide) (by decide) (by decide) (by decide)) (g 83 (by decide)) (g 27 (by decide))⟩
  · obtain ⟨x1, x2, x3, x4, x5⟩ := hE e he
    refine ⟨x1.c (by unfold zN; rw [q]) (by rw [g 75 (by decide)]), x2.c (by rw [ge 17 e (by decide) he]) (ge 35 e (by decide) he) (ge 37 e (by decide) he) (ge 38 e (by decide) he) (ge 39 e (by decide) he) (ge 40 e (by decide) he), ?_, ?_, ?_⟩
    · rw [g 60 (by decide), ge 17 e (by decide) he]; exact x3
    · rw [g 60 (by decide), ge 17 e (by decide) he]; exact x4
    · rw [g 60 (by decide)]; exact x5
  · rw [m2 53 (by decide) (by decide) (by decide) (by decide)]; exact c4
theorem ed_new {h h1 h3 : zH} {nP nB nE nS Y nT n j y : Nat} {pg : Nat → List (Bool × List (Nat × Int32))} {ps : List (Bool × List (Nat × Int32))} {its : List (Nat × Int32)} (hK : iK h nP nB nE nS) (hN1 : iN1 h nP nB nE nS Y) (hN2 : iN2 h) (hP : iP h nP) (hB : iB h nP nB) (hE : iE h nE pg) (hM : iM h nP nE pg) (hS : iS h nS) (hW : iW h nT) (hj : j < nP) (hy : y ≤ 99) (hne : nE < 30) (f : FrE h h1) (r5 : zI h1 54 0 5 = 0) (r74 : ∀ (k : Nat) (w : Int32), (enP ps)[k]? = some w → zI h1 74 0 k = w) (ok1 : ps.length ≤ 12) (ok2 : ∀ ln ∈ ps, okL ln) (ok3 : (enP ps).length ≤ 301) (fR : FrRd nE (mE0 (cE2 (cE1 h1) nE j (enP ps).length (nI y)) n) h3) (i1 : its.length ≤ 301) (i2 : Its h3 nE its) (i3 : LnI h3 nE ps its) : Inv (mE2 h3 nE j (nI y)) := by
  obtain ⟨kC, kM, k58, k59, k60, k61, k17, kz, ks⟩ := id hK
  obtain ⟨⟨p0, p1, p2⟩, ⟨b0, b1, b2⟩, ⟨s0, s1x, s2⟩, ⟨y0, y1, y2⟩, ⟨e0, e1, e2⟩⟩ := id hN1
  obtain ⟨c1, c2, c3, c4, c5, c6, c7⟩ := cE1_f f
  have q1 : (cE1 h1).2.2 = h.2.2 := congrArg Prod.snd c1
  have kC1 : Wc (cE1 h1) := Wc.same q1 kC
  have kM1 : Wm (cE1 h1) := Wm.same q1 kM
  have z60 : zC (cE1 h1) 60 = nE := (congrArg (fun t => t.2.2.1 60) q1).trans k60
  have z75 : zC (cE1 h1) 75 = nE := kC1.2.2.2.2.2.1.trans z60
  have z17 : zC (cE1 h1) 17 = nE + 1 := (congrArg (fun t => t.2.2.1 17) q1).trans k17
  have kC2 := kC1.ed j (enP ps).length (nI y) z60
  have kM2 := kM1.ed nE j (enP ps).length (nI y)
  obtain ⟨d1, d2, d3, d4, d5⟩ := cE2_I j (enP ps).length (nI y) z60 z75
  obtain ⟨u1, u2, u3⟩ := cE2_60 (g := cE1 h1) j (enP ps).length (nI y) z60
  obtain ⟨v1, v2, v3, v4⟩ := cE2_75 (g := cE1 h1) j (enP ps).length (nI y) z75
  have g2C : ∀ k, k ≠ 60 → k ≠ 75 → zC (cE2 (cE1 h1) nE j (enP ps).length (nI y)) k = zC h k := fun k h1 h2 => by
    refine Eq.trans (if_neg h2) ?_
    refine Eq.trans (if_neg h1) ?_
    exact congrArg (fun t => t.2.2.1 k) q1
  have g2c : zc (cE2 (cE1 h1) nE j (enP ps).length (nI y)) = zc h + 1 + 1 := by
    show zc (cE1 h1) + 1 + 1 = _
    rw [show zc (cE1 h1) = zc h from congrArg (fun t => t.2.2.2.1) q1]
  have g2s : zs (cE2 (cE1 h1) nE j (enP ps).length (nI y)) = zs h + 3 + (enP ps).length := by
    show zs (cE1 h1) + 3 + (enP ps).length = _
    rw [show zs (cE1 h1) = zs h from congrArg (fun t => t.2.2.2.2) q1]
  have g2C60 : zC (cE2 (cE1 h1) nE j (enP ps).length (nI y)) 60 = nE + 1 := by
    show zC (cE1 h1) 60 + 1 = _
    rw [z60]
  have g2L : ∀ k, k ≠ 60 → k ≠ 75 → zL (cE2 (cE1 h1) nE j (enP ps).length (nI y)) k = zL h k := fun k n60 n75 => by
    funext a b
    refine Eq.trans (if_neg (fun z => n75 z.1)) ?_
    refine Eq.trans (if_neg (fun z => n60 z.1)) ?_
    exact congrArg (fun t => t.1 k a b) c1
  generalize hG : cE2 (cE1 h1) nE j (enP ps).length (nI y) = h2 at *
  obtain ⟨m1, m2, m3, m4, m5, m6, m7⟩ := mE_f fR
  have z17' : zC h3 17 = nE + 1 := (congrArg (fun t => t.2.2.1 17) m1).trans ((g2C 17 (by decide) (by decide)).trans k17)
  have kC3 : Wc h3 := Wc.same m1 kC2
  have kM3 : Wm h3 := Wm.same m1 kM2
  have kC4 := kC3.ed2 nE j (nI y)
  have kM4 := kM3.ed2 j (nI y) z17'
  obtain ⟨x1, x2, x3, x4, x5, x6, x7, x8, x9, x10⟩ := mE2_I kM3 j (nI y) z17'
  have g4C : ∀ k, 40 < k → zC (mE2 h3 nE j (nI y)) k = zC h2 k := fun k hk => by
    refine Eq.trans ?_ (congrArg (fun t => t.2.2.1 k) m1)
    refine Eq.trans (if_neg (by omega)) ?_
    refine Eq.trans (if_neg (by omega)) ?_
    refine Eq.trans (if_neg (by omega)) ?_
    refine Eq.trans (if_neg (by omega)) ?_
    refine Eq.trans (if_neg (by omega)) ?_
    refine Eq.trans (if_neg (by omega)) ?_
    exact if_neg (by omega)
  have g4c : zc (mE2 h3 nE j (nI y)) = zc h2 + 1 + 1 + 1 + 1 + 1 + 1 + 1 := by
    show zc h3 + 1 + 1 + 1 + 1 + 1 + 1 + 1 = _
    rw [show zc h3 = zc h2 from congrArg (fun t => t.2.2.2.1) m1]
  have g4s : zs (mE2 h3 nE j (nI y)) = zs h2 + 10 + 12 + 12 + 12 + 12 + 320 + 320 := by
    show zs h3 + 10 + 12 + 12 + 12 + 12 + 320 + 320 = _
    rw [show zs h3 = zs h2 from congrArg (fun t => t.2.2.2.2) m1]
  have g4N : zN (mE2 h3 nE j (nI y)) 75 = zN h2 75 := Eq.trans (show zN (mE2 h3 nE j (nI y)) 75 = zN h3 75 from rfl) (congrArg (fun t => t.2.1 75) m1)
  have g417 : zC (mE2 h3 nE j (nI y)) 17 = nE + 1 + 1 := by
    show zC h3 17 + 1 = _
    rw [z17']
  generalize hH : mE2 h3 nE j (nI y) = h4 at *
  have g : ∀ k, (10 ≤ k ∧ k ≤ 15 ∨ k = 19 ∨ 27 ≤ k ∧ k ≤ 31 ∨ k = 57 ∨ k = 59 ∨ k = 61 ∨ 76 ≤ k ∧ k ≤ 79 ∨ k = 83) → zI h4 k = zI h k := fun k hk => (x1 k (by omega) (by omega) (by omega)).trans ((m2 k (by omega) (by omega) (by omega) (by omega)).trans ((d1 k (by omega) (by omega) (by omega) (by omega) (by omega)).trans (c2 k (by omega) (by omega) (by omega) (by omega) (by omega) (by omega) (by omega))))
  have g0 : ∀ i, i ≠ 13 → zI h4 0 0 i = zI (cE1 h1) 0 0 i := fun i hi => by rw [x1 0 (by decide) (by decide) (by decide), m2 0 (by decide) (by decide) (by decide) (by decide)]; exact d2 i hi
  have g0' : ∀ i, i < 13 → zI h4 0 0 i = zI h 0 0 i := fun i hi => (g0 i (by omega)).trans (c3 i (by omega))
  have w1 : ∀ i, zI h2 1 0 i = zI h 1 0 i := fun i => by rw [d1 1 (by decide) (by decide) (by decide) (by decide) (by decide), c2 1 (by decide) (by decide) (by decide) (by decide) (by decide) (by decide) (by decide)]
  have g1 : ∀ i, 3 < i → i ≠ 14 → i ≠ 19 → i ≠ 20 → (i < 21 ∨ 27 < i) → zI h4 1 0 i = zI h 1 0 i := fun i a1 a2 a3 a4 a5 => (x2 i (by omega) (by omega) a2).trans ((m3 i a1 a3 a4 a5).trans (w1 i))
  have g55 : zI h4 55 0 2 = nI (nE + 1) := by rw [x1 55 (by decide) (by decide) (by decide), m2 55 (by decide) (by decide) (by decide) (by decide)]; exact d4
  have g13 : zI h4 0 0 13 = 0 := by rw [x1 0 (by decide) (by decide) (by decide), m2 0 (by decide) (by decide) (by decide) (by decide)]; exact d3
  have g58 : zI h4 58 = zI (zsI (cE1 h1) 58 j 4 (if nI y < zI (cE1 h1) 58 j 4 then nI y else zI (cE1 h1) 58 j 4)) 58 := (x1 58 (by decide) (by decide) (by decide)).trans ((m2 58 (by decide) (by decide) (by decide) (by decide)).trans d5)
  have e58 : zI (cE1 h1) 58 = zI h 58 := c2 58 (by decide) (by decide) (by decide) (by decide) (by decide) (by decide) (by decide)
  have g58o : ∀ p i, ¬ (p = j ∧ i = 4) → zI h4 58 p i = zI h 58 p i := fun p i hx => by
    rw [g58]
    refine Eq.trans (if_neg (fun z => hx z.2)) ?_
    exact congrFun (congrFun e58 p) i
  have g58n : zI h4 58 j 4 = if nI y < zI h 58 j 4 then nI y else zI h 58 j 4 := by
    rw [g58, ← e58]
    exact zI_same _ 58 j 4 _
  have g60 : ∀ i, zI h4 60 i = zI h2 60 i := fun i => by rw [x1 60 (by decide) (by decide) (by decide), m2 60 (by decide) (by decide) (by decide) (by decide)]
  have g60o : ∀ i, i < nE → zI h4 60 i = zI h 60 i := fun i hi => (g60 i).trans ((u1 i (by omega)).trans (by rw [c2 60 (by decide) (by decide) (by decide) (by decide) (by decide) (by decide) (by decide)]))
  have g75 : ∀ i, zI h4 75 i = zI h2 75 i := fun i => by rw [x1 75 (by decide) (by decide) (by decide), m2 75 (by decide) (by decide) (by decide) (by decide)]
  have gL : ∀ k, (k = 61 ∨ k = 33) → zL h4 k = zL h k := fun k hk => (x10 k (by omega) (by omega)).trans ((m7 k (by omega)).trans (g2L k (by omega) (by omega)))
  have ge : ∀ k i, 35 ≤ k → k ≤ 40 → i < nE → zI h4 k i = zI h k i := fun k i a1 a2 hi => (x9 k i a1 a2 (by omega)).trans ((m6 k i (by omega) (by omega) (by omega)).trans (by rw [d1 k (by omega) (by omega) (by omega) (by omega) (by omega), c2 k (by omega) (by omega) (by omega) (by omega) (by omega) (by omega) (by omega)]))
  have ge17 : ∀ i t, i < nE → zI h4 17 i t = zI h 17 i t := fun i t hi => (x6 i t (by omega) (fun z => by omega)).trans (by rw [m6 17 i (by decide) (by decide) (by omega), d1 17 (by decide) (by decide) (by decide) (by decide) (by decide), c2 17 (by decide) (by decide) (by decide) (by decide) (by decide) (by decide) (by decide)])
  have hcp : ∀ k, k < nE → cP h4 k = cP h k ∧ cY h4 k = cY h k := fun k hk => by
    unfold cP cY
    rw [g60o k hk]
    exact ⟨rfl, rfl⟩
  have hcn : cP h4 nE = nI j ∧ cY h4 nE = nI y := by
    unfold cP cY
    rw [g60 nE]
    exact ⟨u2, u3⟩
  have hpg : ∀ k, k < nE → (fun e => if e = nE then ps else pg e) k = pg k := fun k hk => if_neg (by omega)
  refine ⟨nP, nB, nE + 1, nS, Y, 0, nT, fun e => if e = nE then ps else pg e, ⟨kC4, kM4, (g4C 58 (by decide)).trans ((g2C 58 (by decide) (by decide)).trans k58), (g4C 59 (by decide)).trans ((g2C 59 (by decide) (by decide)).trans k59), (g4C 60 (by decide)).trans g2C60, (g4C 61 (by decide)).trans ((g2C 61 (by decide) (by decide)).trans k61), g417, by omega, by omega⟩, ⟨⟨(g0' 8 (by decide)).trans p0, (g1 4 (by decide) (by decide) (by decide) (by decide) (by decide)).trans p1, p2⟩, ⟨(g0' 9 (by decide)).trans b0, (g1 5 (by decide) (by decide) (by decide) (by decide) (by decide)).trans b1, b2⟩, ⟨(g0' 10 (by decide)).trans s0, (g1 40 (by decide) (by decide) (by decide) (by decide) (by decide)).trans s1x, s2⟩, ⟨(g0' 11 (by decide)).trans y0, (g1 6 (by decide) (by decide) (by decide) (by decide) (by decide)).trans y1, y2⟩, ⟨g55, x3, by omega⟩⟩, hN2.c (g0' 12 (by decide)) (g1 7 (by decide) (by decide) (by decide) (by decide) (by decide)), ⟨g13.trans x4.symm, ?_, fun z => absurd (g13.symm.trans z) (by decide), fun _ => x5⟩, hP.c (fun p i hi => g58o p i (fun z => by omega)) (g 10 (by decide)) (g 11 (by decide)), hB.c (g 59 (by decide)) (g 12 (by decide)) (g 13 (by decide)) (g 14 (by decide)) (g 15 (by decide)), fun e he => ?_, fun p hp => ?_, hS.c (g 61 (by decide)) (gL 61 (by decide)) (g 28 (by decide)) (g 29 (by decide)) (g 30 (by decide)) (g 31 (by decide)) (gL 33 (by decide)), ⟨by omega, ?_, ?_, fun k hk => by omega⟩, hW.c (g 57 (by decide)) (g1 39 (by decide) (by decide) (by decide) (by decide) (by decide)) (g 83 (by decide)) (g 27 (by decide))⟩
  · rw [g0 14 (by decide), c5, r5, x2 3 (by decide) (by decide) (by decide), m5]
  · by_cases q : e = nE
    · subst q
      rw [show (fun e_1 => if e_1 = e then ps else pg e_1) e = ps from if_pos rfl]
      refine ⟨⟨?_, ok3, fun i w hi => ?_, ok2⟩, ⟨?_, ok1, ok2, fun li ln hl => ?_⟩, ?_, ?_, y, hy, ?_⟩
      · rw [g4N]; exact v4
      · obtain ⟨hi2, -⟩ := List.getElem?_eq_some_iff.mp hi
        rw [g75, v2 i hi2, c7]
        exact r74 i w hi
      · rw [x6 e 2 (by omega) (fun z => by omega)]; exact i3.1
      · obtain ⟨a, a1, a2, a3, a4, a5⟩ := i3.2 li ln hl
        refine ⟨a, ?_, ?_, ?_, by omega, fun i it hit => ?_⟩
        · rw [x9 35 e (by decide) (by decide) (by omega)]; exact a1
        · rw [x9 37 e (by decide) (by decide) (by omega)]; exact a2
        · rw [x9 38 e (by decide) (by decide) (by omega)]; exact a3
        · rw [x9 39 e (by decide) (by decide) (by omega), x9 40 e (by decide) (by decide) (by omega)]
          exact i2.2 (a + i) it (a5 i it hit)
      · exact hcn.1.trans x7.symm
      · exact hcn.2.trans x8.symm
      · exact hcn.2
    · rw [show (fun e_1 => if e_1 = nE then ps else pg e_1) e = pg e from if_neg q]
      have he2 : e < nE := by omega
      obtain ⟨t1, t2, t3, t4, t5⟩ := hE e he2
      refine ⟨t1.c ?_ ?_, t2.c (ge17 e 2 he2) (ge 35 e (by decide) (by decide) he2) (ge 37 e (by decide) (by decide) he2) (ge 38 e (by decide) (by decide) he2) (ge 39 e (by decide) (by decide) he2) (ge 40 e (by decide) (by decide) he2), ?_, ?_, ?_⟩
      · rw [g4N, v3 e q]
        exact congrArg (fun t => t.2.1 75 e) q1
      · rw [g75, v1 e q, c2 75 (by decide) (by decide) (by decide) (by decide) (by decide) (by decide) (by decide)]
      · rw [g60o e he2, ge17 e 0 he2]; exact t3
      · rw [g60o e he2, ge17 e 1 he2]; exact t4
      · rw [g60o e he2]; exact t5
  · obtain ⟨k, n1, n2, n3⟩ := hM p hp
    have o0 : zI h4 58 p 0 = zI h 58 p 0 := g58o p 0 (fun z => by omega)
    have o1 : zI h4 58 p 1 = zI h 58 p 1 := g58o p 1 (fun z => by omega)
    by_cases q : p = j
    · subst q
      refine ⟨min k y, by omega, ?_, fun z hz => ?_⟩
      · rw [g58n, n2]
        exact nI_min (by omega) (by omega)
      · rw [g 76 (by decide), g 77 (by decide)]
        show zI h 76 p z = prV _ false (zI h4 58 p 0) (zI h4 58 p 1) z ∧ zI h 77 p z = prV _ true (zI h4 58 p 0) (zI h4 58 p 1) z
        rw [o0, o1]
        have hpf : ∀ t, t ≤ z → pfC (cP h4) (cY h4) (nE + 1) (fun e => if e = nE then ps else pg e) p t = pfC (cP h) (cY h) nE pg p t := fun t ht => pfC_new (by omega) hcp hpg p t (fun w => by
          rw [hcn.2] at w
          have := (nI_leI (by omega) (by omega)).mp w.2
          omega)
        rw [prV_c false _ _ z hpf, prV_c true _ _ z hpf]
        exact n3 z (by omega)
    · refine ⟨k, n1, (g58o p 4 (fun z => q z.1)).trans n2, fun z hz => ?_⟩
      rw [g 76 (by decide), g 77 (by decide)]
      show zI h 76 p z = prV _ false (zI h4 58 p 0) (zI h4 58 p 1) z ∧ zI h 77 p z = prV _ true (zI h4 58 p 0) (zI h4 58 p 1) z
      rw [o0, o1]
      have hpf : ∀ t, t ≤ z → pfC (cP h4) (cY h4) (nE + 1) (fun e => if e = nE then ps else pg e) p t = pfC (cP h) (cY h) nE pg p t := fun t ht => pfC_new (by omega) hcp hpg p t (fun w => by
        rw [hcn.1] at w
        exact q (nIe (by omega) (by omega) w.1).symm)
      rw [prV_c false _ _ z hpf, prV_c true _ _ z hpf]
      exact n3 z hz
  · rw [x1 53 (by decide) (by decide) (by decide), m2 53 (by decide) (by decide) (by decide) (by decide), d1 53 (by decide) (by decide) (by decide) (by decide) (by decide)]
    exact c4
  · rw [x2 19 (by decide) (by decide) (by decide)]
    exact m4
theorem pr_edict (l : Launch) (h : zH) (hI : Inv h) (p y k : Int32) : Pq l mX11_edict mX14_edict [Vi p, Vi y, Vi k] h := by
  obtain ⟨nP, nB, nE, nS, Y, N, nT, pg, hK, hN1, hN2, hN3, hP, hB, hE, hM, hS, hT, hW⟩ := hI
  obtain ⟨kC, kM, k58, k59, k60, k61, k17, kz, ks⟩ := id hK
  obtain ⟨⟨p0, p1, p2⟩, ⟨b0, b1, b2⟩, ⟨s0, s1x, s2⟩, ⟨y0, y1, y2⟩, ⟨e0, e1, e2⟩⟩ := id hN1
  by_cases g1 : 0 ≤ p ∧ p < nI nP
  · by_cases g2 : (0 ≤ y ∧ y ≤ 99) ∧ (0 ≤ k ∧ k ≤ nI N)
    · obtain ⟨j, hj, q1⟩ := ixN (n := nP) (by omega) g1
      obtain ⟨y', hy, q2⟩ := toN (x := y) (n := 99) (by omega) g2.1
      have hT1 := hT.1
      obtain ⟨n, hn, q3⟩ := toN (x := k) (n := N) (by omega) g2.2
      subst q1
      subst q2
      subst q3
      have hb : ∀ t, t < n → zI h 79 0 t = sg ((fun t => (zI h 79 0 t &&& 255).toNatClampNeg) t) ∧ (fun t => (zI h 79 0 t &&& 255).toNatClampNeg) t < 256 ∧ zI h 19 0 t = zI h 79 0 t := fun t ht => by
        obtain ⟨b, b1', b2', b3'⟩ := hT.2.2.2 t (by omega)
        show zI h 79 0 t = sg (zI h 79 0 t &&& 255).toNatClampNeg ∧ (zI h 79 0 t &&& 255).toNatClampNeg < 256 ∧ zI h 19 0 t = zI h 79 0 t
        rw [b2', b3', sg_and b1', nI_clamp (by omega)]
        exact ⟨rfl, b1', rfl⟩
      generalize (fun t => (zI h 79 0 t &&& 255).toNatClampNeg) = B at hb
      have hX : Tx h 79 n B := ⟨by omega, fun t ht => ⟨(hb t ht).1, (hb t ht).2.1⟩⟩
      have hX2 : ∀ h2, zI h2 19 = zI h 19 → Tx h2 19 n B := fun h2 e => ⟨by omega, fun t ht => by rw [e, (hb t ht).2.2]; exact ⟨(hb t ht).1, (hb t ht).2.1⟩⟩
      refine ⟨32, by decide, (qX11_edict_s l h kC nP p0 p2 k58 B n hX N hT.2.1 hn hT1 j hj y' hy nE e0 e2 k60).mono (fun o h2 hq => ?_)⟩
      obtain ⟨⟨N', hNT⟩, h1, fE, hR, hq⟩ := hq
      have hTk := hNT.k (by omega : n ≤ 300)
      have hOK : PrP N' (txtP B n) := progP_ok hTk 13 [] 0 0 rfl (by have := hNT.1; omega) (by omega) (fun ln hl => by cases hl) (Nat.le_refl 0)
      obtain ⟨c1, c2, c3, c4, c5, c6, c7⟩ := cE1_f fE
      have hN' := hNT.2.1
      cases hr : txtP B n with
      | inl q =>
        rw [hr] at hR hq
        obtain ⟨o1, o2⟩ := hq
        subst o2
        have sc : Sc h (cE1 h1) := ⟨congrFun (c2 999 (by decide) (by decide) (by decide) (by decide) (by decide) (by decide) (by decide)) 0, congrArg (fun t => t.2.2.1 999 0) c1⟩
        refine ⟨_, o1, rfl, sc, 37, by decide, (qX14_edict_s l (zsI (cE1 h1) 0 0 13 4) (Wm.same (congrArg Prod.snd c1) kM) nP (Eq.trans (congrFun (congrFun (c2 1 (by decide) (by decide) (by decide) (by decide) (by decide) (by decide) (by decide)) 0) 4) p1) p2 B n (hX2 _ (c2 19 (by decide) (by decide) (by decide) (by decide) (by decide) (by decide) (by decide))) N (Eq.trans (congrFun (congrFun (c2 1 (by decide) (by decide) (by decide) (by decide) (by decide) (by decide) (by decide)) 0) 19) hT.2.2.1) hn hT1 N' hTk j hj y' hy nE (Eq.trans (congrFun (congrFun (c2 1 (by decide) (by decide) (by decide) (by decide) (by decide) (by decide) (by decide)) 0) 14) e1) e2 (Eq.trans (congrArg (fun t => t.2.2.2.1 17) c1) k17)).mono (fun o2 h4 hz => ?_)⟩
        obtain ⟨h3, fR, hz⟩ := hz
        rw [hr] at hz
        obtain ⟨z1, z2⟩ := hz
        subst z2
        obtain ⟨m1, m2, m3, m4, m5, m6, m7⟩ := mE_f fR
        refine ⟨z1, ⟨(congrFun (m2 999 (by decide) (by decide) (by decide) (by decide)) 0).trans sc.1, (congrArg (fun t => t.2.1 999 0) m1).trans sc.2⟩, ed_inv (h2 := zsI (cE1 h1) 0 0 13 4) hK hN1 hN2 hP hB hE hM hS hW c1 (fun k a0 a1 a2 a3 a4 a5 a6 => (zI_ss _ 0 0 13 _ a0).trans (c2 k a0 a1 a2 a3 a4 a5 a6)) (fun i hi => (zI_oth _ 0 0 13 _ (by omega)).trans (c3 i (by omega))) c4 m1 (fun k a1 a2 a3 a4 => (zI_ss _ 1 0 2 _ a1).trans ((zI_ss _ 1 0 1 _ a1).trans ((zI_ss _ 1 0 3 _ a1).trans (m2 k a1 a2 a3 a4)))) (fun i a1 a2 a3 a4 => (zI_oth _ 1 0 2 _ (by omega)).trans ((zI_oth _ 1 0 1 _ (by omega)).trans ((zI_oth _ 1 0 3 _ (by omega)).trans (m3 i a1 a2 a3 a4)))) m4 (fun k i a1 a2 a3 => (congrFun ((zI_ss _ 1 0 2 _ a1).trans ((zI_ss _ 1 0 1 _ a1).trans (zI_ss _ 1 0 3 _ a1))) i).trans (m6 k i a1 a2 a3)) m7 ?_⟩
        have y0' : ∀ i, zI (zsI (zsI (zsI h3 1 0 3 (nI q.1)) 1 0 1 4) 1 0 2 (nI (plB B n q.2))) 0 0 i = zI (zsI (cE1 h1) 0 0 13 4) 0 0 i := fun i => congrFun (congrFun ((zI_ss _ 1 0 2 _ (by decide)).trans ((zI_ss _ 1 0 1 _ (by decide)).trans ((zI_ss _ 1 0 3 _ (by decide)).trans (m2 0 (by decide) (by decide) (by decide) (by decide))))) 0) i
        have y13 : zI (zsI (zsI (zsI h3 1 0 3 (nI q.1)) 1 0 1 4) 1 0 2 (nI (plB B n q.2))) 0 0 13 = 4 := (y0' 13).trans (zI_same _ 0 0 13 _)
        refine ⟨y13, (y0' 14).trans ((zI_oth _ 0 0 13 _ (by decide)).trans (c5.trans hR.1)), fun _ => (y0' 15).trans ((zI_oth _ 0 0 13 _ (by decide)).trans (c6.trans hR.2)), fun z => absurd y13 z⟩
      | inr ps =>
        rw [hr] at hR hq hOK
        obtain ⟨r5, r6, r2, r74⟩ := hR
        obtain ⟨ok1, ok2, ok3⟩ := hOK
        by_cases he : nE = 30
        · replace hq : o = Rv (Vi (-1)) ∧ h2 = zsI (cE1 h1) 0 0 13 3 := by
            have t := hq
            dsimp only at t
            rw [if_pos he] at t
            exact t
          obtain ⟨o1, o2⟩ := hq
          subst o2
          have sc : Sc h (cE1 h1) := ⟨congrFun (c2 999 (by decide) (by decide) (by decide) (by decide) (by decide) (by decide) (by decide)) 0, congrArg (fun t => t.2.2.1 999 0) c1⟩
          refine ⟨_, o1, rfl, sc, 37, by decide, (qX14_edict_s l (zsI (cE1 h1) 0 0 13 3) (Wm.same (congrArg Prod.snd c1) kM) nP (Eq.trans (congrFun (congrFun (c2 1 (by decide) (by decide) (by decide) (by decide) (by decide) (by decide) (by decide)) 0) 4) p1) p2 B n (hX2 _ (c2 19 (by decide) (by decide) (by decide) (by decide) (by decide) (by decide) (by decide))) N (Eq.trans (congrFun (congrFun (c2 1 (by decide) (by decide) (by decide) (by decide) (by decide) (by decide) (by decide)) 0) 19) hT.2.2.1) hn hT1 N' hTk j hj y' hy nE (Eq.trans (congrFun (congrFun (c2 1 (by decide) (by decide) (by decide) (by decide) (by decide) (by decide) (by decide)) 0) 14) e1) e2 (Eq.trans (congrArg (fun t => t.2.2.2.1 17) c1) k17)).mono (fun o2 h4 hz => ?_)⟩
          obtain ⟨h3, fR, hz⟩ := hz
          rw [hr] at hz
          obtain ⟨-, hz⟩ := hz
          rw [if_pos he] at hz
          obtain ⟨z1, z2⟩ := hz
          subst z2
          obtain ⟨m1, m2, m3, m4, m5, m6, m7⟩ := mE_f fR
          refine ⟨z1, ⟨(congrFun (m2 999 (by decide) (by decide) (by decide) (by decide)) 0).trans sc.1, (congrArg (fun t => t.2.1 999 0) m1).trans sc.2⟩, ed_inv (h2 := zsI (cE1 h1) 0 0 13 3) hK hN1 hN2 hP hB hE hM hS hW c1 (fun k a0 a1 a2 a3 a4 a5 a6 => (zI_ss _ 0 0 13 _ a0).trans (c2 k a0 a1 a2 a3 a4 a5 a6)) (fun i hi => (zI_oth _ 0 0 13 _ (by omega)).trans (c3 i (by omega))) c4 m1 (fun k a1 a2 a3 a4 => (zI_ss _ 1 0 2 _ a1).trans ((zI_ss _ 1 0 1 _ a1).trans (m2 k a1 a2 a3 a4))) (fun i a1 a2 a3 a4 => (zI_oth _ 1 0 2 _ (by omega)).trans ((zI_oth _ 1 0 1 _ (by omega)).trans (m3 i a1 a2 a3 a4))) m4 (fun k i a1 a2 a3 => (congrFun ((zI_ss _ 1 0 2 _ a1).trans (zI_ss _ 1 0 1 _ a1)) i).trans (m6 k i a1 a2 a3)) m7 ?_⟩
          have y0' : ∀ i, zI (mRef h3 3) 0 0 i = zI (zsI (cE1 h1) 0 0 13 3) 0 0 i := fun i => congrFun (congrFun ((zI_ss _ 1 0 2 _ (by decide)).trans ((zI_ss _ 1 0 1 _ (by decide)).trans (m2 0 (by decide) (by decide) (by decide) (by decide)))) 0) i
          have y13 : zI (mRef h3 3) 0 0 13 = 3 := (y0' 13).trans (zI_same _ 0 0 13 _)
          refine ⟨y13, (y0' 14).trans ((zI_oth _ 0 0 13 _ (by decide)).trans (c5.trans (r5.trans (Eq.symm ?_)))), fun z => absurd (y13.symm.trans z) (by decide), fun _ => rfl⟩
          exact (zI_oth _ 1 0 2 _ (by decide)).trans ((zI_oth _ 1 0 1 _ (by decide)).trans m5)
        · replace hq : o = Rv (Vi (nI nE)) ∧ h2 = cE2 (cE1 h1) nE j (enP ps).length (nI y') := by
            have t := hq
            dsimp only at t
            rw [if_neg he] at t
            exact t
          obtain ⟨o1, o2⟩ := hq
          subst o2
          have q1 : (cE1 h1).2.2 = h.2.2 := congrArg Prod.snd c1
          have kM1 : Wm (cE1 h1) := Wm.same q1 kM
          have kC1 : Wc (cE1 h1) := Wc.same q1 kC
          have z60 : zC (cE1 h1) 60 = nE := (congrArg (fun t => t.2.2.1 60) q1).trans k60
          have z75 : zC (cE1 h1) 75 = nE := kC1.2.2.2.2.2.1.trans z60
          obtain ⟨d1, d2, d3, d4, d5⟩ := cE2_I j (enP ps).length (nI y') z60 z75
          have w1 : ∀ i, zI (cE2 (cE1 h1) nE j (enP ps).length (nI y')) 1 0 i = zI h 1 0 i := fun i => by rw [d1 1 (by decide) (by decide) (by decide) (by decide) (by decide), c2 1 (by decide) (by decide) (by decide) (by decide) (by decide) (by decide) (by decide)]
          have sc : Sc h (cE1 h1) := ⟨congrFun (c2 999 (by decide) (by decide) (by decide) (by decide) (by decide) (by decide) (by decide)) 0, congrArg (fun t => t.2.2.1 999 0) c1⟩
          refine ⟨_, o1, rfl, ⟨(congrFun (d1 999 (by decide) (by decide) (by decide) (by decide) (by decide)) 0).trans sc.1, sc.2⟩, 37, by decide, (qX14_edict_s l (cE2 (cE1 h1) nE j (enP ps).length (nI y')) (kM1.ed nE j (enP ps).length (nI y')) nP ((w1 4).trans p1) p2 B n (hX2 _ ((d1 19 (by decide) (by decide) (by decide) (by decide) (by decide)).trans (c2 19 (by decide) (by decide) (by decide) (by decide) (by decide) (by decide) (by decide)))) N ((w1 19).trans hT.2.2.1) hn hT1 N' hTk j hj y' hy nE ((w1 14).trans e1) e2 (Eq.trans (show zC (cE2 (cE1 h1) nE j (enP ps).length (nI y')) 17 = zC (cE1 h1) 17 from rfl) ((congrArg (fun t => t.2.2.1 17) q1).trans k17))).mono (fun o2 h4 hz => ?_)⟩
          obtain ⟨h3, fR, hz⟩ := hz
          rw [hr] at hz
          obtain ⟨⟨its, i1, i2, i3⟩, hz⟩ := hz
          rw [if_neg he] at hz
          obtain ⟨z1, z2⟩ := hz
          subst z2
          obtain ⟨m1, m2, -⟩ := mE_f fR
          exact ⟨z1, ⟨(congrFun (m2 999 (by decide) (by decide) (by decide) (by decide)) 0).trans ((congrFun (d1 999 (by decide) (by decide) (by decide) (by decide) (by decide)) 0).trans sc.1), (congrArg (fun t => t.2.1 999 0) m1).trans sc.2⟩, ed_new hK hN1 hN2 hP hB hE hM hS hW hj hy (by omega) fE r5 r74 ok1 ok2 (by omega) fR i1 i2 i3⟩
    · exact Pq.of (Pr.x (qX11_edict_m l h kC p y k nP p0 p2 k58 N hT.2.1 g1 g2) (qX14_edict_m l (zsI h 0 0 13 2) p y k nP p1 p2 N hT.2.2.1 g1 g2) rfl ⟨nP, nB, nE, nS, Y, N, nT, pg, hK, hN1, hN2, ⟨rfl, hN3.2.1, fun z => absurd (show (2 : Int32) = 4 from z) (by decide), fun _ => rfl⟩, hP, hB, hE, hM, hS, hT, hW⟩) (by decide) (by decide)
  · exact Pq.of (Pr.x (qX11_edict_n l h kC p y k nP p0 p2 k58 g1) (qX14_edict_n l (zsI h 0 0 13 1) p y k nP p1 p2 g1) rfl ⟨nP, nB, nE, nS, Y, N, nT, pg, hK, hN1, hN2, ⟨rfl, hN3.2.1, fun z => absurd (show (1 : Int32) = 4 from z) (by decide), fun _ => rfl⟩, hP, hB, hE, hM, hS, hT, hW⟩) (by decide) (by decide)
