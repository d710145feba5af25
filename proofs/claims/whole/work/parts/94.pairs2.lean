-- pairs: people, moves, counted, by program (wip/gen/p94.py)
def hPe (h : zH) (j : Nat) (a b v : Int32) : zH := zsI (zsI (zsI h 58 j 0 a) 58 j 1 b) 58 j 4 v
theorem hPe_me (h : zH) (j : Nat) (a b v : Int32) : zI (hPe h j a b v) 58 j 0 = a ∧ zI (hPe h j a b v) 58 j 1 = b ∧ zI (hPe h j a b v) 58 j 4 = v :=
  ⟨(zI_oth _ _ _ _ _ (by decide)).trans ((zI_oth _ _ _ _ _ (by decide)).trans (zI_same _ _ _ _ _)), (zI_oth _ _ _ _ _ (by decide)).trans (zI_same _ _ _ _ _), zI_same _ _ _ _ _⟩
theorem hPe_oth (h : zH) (j : Nat) (a b v : Int32) {i : Nat} (e : i ≠ j) (k : Nat) : zI (hPe h j a b v) 58 i k = zI h 58 i k := (if_neg (fun z => e z.2.1)).trans ((if_neg (fun z => e z.2.1)).trans (if_neg (fun z => e z.2.1)))
theorem iP.pe {h : zH} {nP : Nat} (x : iP h nP) {j : Nat} (hj : j < nP) {a b : Nat} (ha : a ≤ 100000) (hb : b ≤ 50) (v : Int32) : iP (zsI (zsI (hPe h j (nI a) (nI b) v) 10 0 j (nI a)) 11 0 j (nI b)) nP := by
  intro p hp
  by_cases e : p = j
  · subst e
    have hm := hPe_me h p (nI a) (nI b) v
    exact ⟨a, b, ha, hb, hm.1, zI_same (hPe h p (nI a) (nI b) v) 10 0 p _, hm.2.1, zI_same (zsI (hPe h p (nI a) (nI b) v) 10 0 p (nI a)) 11 0 p _⟩
  · obtain ⟨m, k, m1, m2, m3, m4, m5, m6⟩ := x p hp
    have ho := hPe_oth h j (nI a) (nI b) v e
    exact ⟨m, k, m1, m2, (ho 0).trans m3, (zI_oth (hPe h j (nI a) (nI b) v) 10 0 j _ e).trans m4, (ho 1).trans m5, (zI_oth (zsI (hPe h j (nI a) (nI b) v) 10 0 j (nI a)) 11 0 j _ e).trans m6⟩
theorem iM.pe {h : zH} {nP nE : Nat} {pg : Nat → List (Bool × List (Nat × Int32))} (x : iM h nP nE pg) (j : Nat) (a b : Int32) : iM (hPe h j a b (if 0 < zI h 58 j 4 then 0 else zI h 58 j 4)) nP nE pg := by
  intro p hp
  by_cases e : p = j
  · subst e
    obtain ⟨k, k1, k2, k3⟩ := x p hp
    refine ⟨0, by omega, (hPe_me h p a b _).2.2.trans ?_, fun y hy => by omega⟩
    by_cases e2 : 0 < zI h 58 p 4
    · rw [if_pos e2]; rfl
    · rw [if_neg e2, k2]
      rw [k2] at e2
      have : ¬ 0 < k := fun z => e2 (nI_lt (a := 0) (by omega) (by omega))
      rw [show k = 0 by omega]
  · obtain ⟨k, k1, k2, k3⟩ := x p hp
    have ho := hPe_oth h j a b (if 0 < zI h 58 j 4 then 0 else zI h 58 j 4) e
    refine ⟨k, k1, (ho 4).trans k2, fun y hy => ?_⟩
    have k4 := k3 y hy
    show zI h 76 p y = prV (pfC (cP h) (cY h) nE pg p) false (zI (hPe h j a b (if 0 < zI h 58 j 4 then 0 else zI h 58 j 4)) 58 p 0) (zI (hPe h j a b (if 0 < zI h 58 j 4 then 0 else zI h 58 j 4)) 58 p 1) y ∧ zI h 77 p y = prV (pfC (cP h) (cY h) nE pg p) true (zI (hPe h j a b (if 0 < zI h 58 j 4 then 0 else zI h 58 j 4)) 58 p 0) (zI (hPe h j a b (if 0 < zI h 58 j 4 then 0 else zI h 58 j 4)) 58 p 1) y
    rw [ho 0, ho 1]
    exact k4
theorem pr_people (l : Launch) (h : zH) (hI : Inv h) (p a b : Int32) : Pr l 3 2 mX11_people mX14_people [Vi p, Vi a, Vi b] h := by
  obtain ⟨nP, nB, nE, nS, Y, N, nT, pg, hK, hN1, hN2, hN3, hP, hB, hE, hM, hS, hT, hW⟩ := hI
  obtain ⟨kC, kM, k58, k59, k60, k61, k17, kz, ks⟩ := id hK
  obtain ⟨⟨p0, p1, p2⟩, ⟨b0, b1, b2⟩, ⟨s0, s1x, s2⟩, ⟨y0, y1, y2⟩, ⟨e0, e1, e2x⟩⟩ := id hN1
  by_cases e : 0 ≤ p ∧ p < nI nP
  · by_cases e2 : (0 ≤ a ∧ a ≤ 100000) ∧ (0 ≤ b ∧ b ≤ 50)
    · obtain ⟨i1, i2⟩ := ixC (n := nP) (by omega) e
      obtain ⟨a0, a1, a2⟩ := toN (n := 100000) (by omega) e2.1
      obtain ⟨c0, c1, c2⟩ := toN (n := 50) (by omega) e2.2
      have hx := hP.pe i2 a1 c1 (if 0 < zI h 58 p.toNatClampNeg 4 then 0 else zI h 58 p.toNatClampNeg 4)
      rw [← a2, ← c2] at hx
      refine Pr.x (qX11_people l h kC p a b nP p0 p2 k58) (qX14_people l _ ?_ p a b nP ?_ p2) ?_ ?_ ?_ ?_ <;> unfold cPeople <;> (try unfold mPeople) <;> (try rw [if_pos e, if_pos e2]) <;> (try rw [if_pos e, if_pos e2])
      · exact kM
      · exact p1
      · exact ⟨nP, nB, nE, nS, Y, N, nT, pg, hK, hN1, hN2, ⟨rfl, hN3.2.1, fun z => absurd (show (0 : Int32) = 4 from z) (by decide), fun _ => rfl⟩, hx, hB, hE, hM.pe p.toNatClampNeg a b, hS, hT, hW⟩
      · exact ⟨rfl, rfl⟩
      · exact ⟨rfl, rfl⟩
    · skip
      refine Pr.x (qX11_people l h kC p a b nP p0 p2 k58) (qX14_people l _ ?_ p a b nP ?_ p2) ?_ ?_ ?_ ?_ <;> unfold cPeople <;> (try unfold mPeople) <;> (try rw [if_pos e, if_neg e2]) <;> (try rw [if_pos e, if_neg e2])
      · exact kM
      · exact p1
      · exact ⟨nP, nB, nE, nS, Y, N, nT, pg, hK, hN1, hN2, ⟨rfl, hN3.2.1, fun z => absurd (show (2 : Int32) = 4 from z) (by decide), fun _ => rfl⟩, hP, hB, hE, hM, hS, hT, hW⟩
      · exact ⟨rfl, rfl⟩
      · exact ⟨rfl, rfl⟩
  · skip
    refine Pr.x (qX11_people l h kC p a b nP p0 p2 k58) (qX14_people l _ ?_ p a b nP ?_ p2) ?_ ?_ ?_ ?_ <;> unfold cPeople <;> (try unfold mPeople) <;> (try rw [if_neg e]) <;> (try rw [if_neg e])
    · exact kM
    · exact p1
    · exact ⟨nP, nB, nE, nS, Y, N, nT, pg, hK, hN1, hN2, ⟨rfl, hN3.2.1, fun z => absurd (show (1 : Int32) = 4 from z) (by decide), fun _ => rfl⟩, hP, hB, hE, hM, hS, hT, hW⟩
    · exact ⟨rfl, rfl⟩
    · exact ⟨rfl, rfl⟩

theorem iS.mv1 {h : zH} {nS : Nat} (x : iS h nS) {j v : Nat} (hj : j < nS) (hv : v ≤ 1000000000) : iS (zsI (zsI h 61 j 1 (nI v)) 29 0 j (nI v)) nS := by
  refine ⟨fun s hs => ?_, fun s hs => ?_⟩
  · obtain ⟨a, b, c, a1, a2, a3, c0, c1, c2, c3, c4⟩ := x.1 s hs
    by_cases e : s = j
    · subst e
      have ho : ∀ i, i ≠ 1 → zI (zsI (zsI h 61 s 1 (nI v)) 29 0 s (nI v)) 61 s i = zI h 61 s i := fun i hi => zI_oth h 61 s 1 _ hi
      refine ⟨a, v, c, a1, hv, a3, ⟨(ho 0 (by decide)).trans c0.1, c0.2⟩, ⟨zI_same h 61 s 1 _, zI_same (zsI h 61 s 1 (nI v)) 29 0 s _⟩, ⟨(ho 2 (by decide)).trans c2.1, c2.2⟩, c3, ?_⟩
      rcases c4 with ⟨d1, d2⟩ | ⟨d1, d, d2, d3, d4⟩
      · exact Or.inl ⟨(ho 4 (by decide)).trans d1, d2⟩
      · exact Or.inr ⟨(ho 4 (by decide)).trans d1, d, d2, (ho 3 (by decide)).trans d3, d4⟩
    · have ho : ∀ i, zI (zsI (zsI h 61 j 1 (nI v)) 29 0 j (nI v)) 61 s i = zI h 61 s i := fun i => if_neg (fun z => e z.2.1)
      have hg : zI (zsI (zsI h 61 j 1 (nI v)) 29 0 j (nI v)) 29 0 s = zI h 29 0 s := zI_oth (zsI h 61 j 1 (nI v)) 29 0 j _ e
      refine ⟨a, b, c, a1, a2, a3, ⟨(ho 0).trans c0.1, c0.2⟩, ⟨(ho 1).trans c1.1, hg.trans c1.2⟩, ⟨(ho 2).trans c2.1, c2.2⟩, c3, ?_⟩
      rcases c4 with ⟨d1, d2⟩ | ⟨d1, d, d2, d3, d4⟩
      · exact Or.inl ⟨(ho 4).trans d1, d2⟩
      · exact Or.inr ⟨(ho 4).trans d1, d, d2, (ho 3).trans d3, d4⟩
  · obtain ⟨x1, x2, x3⟩ := x.2 s hs
    have hg : zI (zsI (zsI h 61 j 1 (nI v)) 29 0 j (nI v)) 29 0 s = zI h 29 0 s := zI_oth (zsI h 61 j 1 (nI v)) 29 0 j _ (by omega)
    exact ⟨hg.trans x1, x2, x3⟩
theorem iS.mv2 {h : zH} {nS : Nat} (x : iS h nS) {j v : Nat} (hj : j < nS) (hv : v ≤ 1000000000) : iS (zsI (zsI h 61 j 2 (nI v)) 30 0 j (nI v)) nS := by
  refine ⟨fun s hs => ?_, fun s hs => ?_⟩
  · obtain ⟨a, b, c, a1, a2, a3, c0, c1, c2, c3, c4⟩ := x.1 s hs
    by_cases e : s = j
    · subst e
      have ho : ∀ i, i ≠ 2 → zI (zsI (zsI h 61 s 2 (nI v)) 30 0 s (nI v)) 61 s i = zI h 61 s i := fun i hi => zI_oth h 61 s 2 _ hi
      refine ⟨a, b, v, a1, a2, hv, ⟨(ho 0 (by decide)).trans c0.1, c0.2⟩, ⟨(ho 1 (by decide)).trans c1.1, c1.2⟩, ⟨zI_same h 61 s 2 _, zI_same (zsI h 61 s 2 (nI v)) 30 0 s _⟩, c3, ?_⟩
      rcases c4 with ⟨d1, d2⟩ | ⟨d1, d, d2, d3, d4⟩
      · exact Or.inl ⟨(ho 4 (by decide)).trans d1, d2⟩
      · exact Or.inr ⟨(ho 4 (by decide)).trans d1, d, d2, (ho 3 (by decide)).trans d3, d4⟩
    · have ho : ∀ i, zI (zsI (zsI h 61 j 2 (nI v)) 30 0 j (nI v)) 61 s i = zI h 61 s i := fun i => if_neg (fun z => e z.2.1)
      have hg : zI (zsI (zsI h 61 j 2 (nI v)) 30 0 j (nI v)) 30 0 s = zI h 30 0 s := zI_oth (zsI h 61 j 2 (nI v)) 30 0 j _ e
      refine ⟨a, b, c, a1, a2, a3, ⟨(ho 0).trans c0.1, c0.2⟩, ⟨(ho 1).trans c1.1, c1.2⟩, ⟨(ho 2).trans c2.1, hg.trans c2.2⟩, c3, ?_⟩
      rcases c4 with ⟨d1, d2⟩ | ⟨d1, d, d2, d3, d4⟩
      · exact Or.inl ⟨(ho 4).trans d1, d2⟩
      · exact Or.inr ⟨(ho 4).trans d1, d, d2, (ho 3).trans d3, d4⟩
  · obtain ⟨x1, x2, x3⟩ := x.2 s hs
    have hg : zI (zsI (zsI h 61 j 2 (nI v)) 30 0 j (nI v)) 30 0 s = zI h 30 0 s := zI_oth (zsI h 61 j 2 (nI v)) 30 0 j _ (by omega)
    exact ⟨x1, hg.trans x2, x3⟩
theorem iS.ct {h : zH} {nS : Nat} (x : iS h nS) {j v : Nat} (hj : j < nS) (hv : v ≤ 1000000000) : iS (zsI (zsI (zsI h 61 j 3 (nI v)) 61 j 4 1) 31 0 j (nI v)) nS := by
  refine ⟨fun s hs => ?_, x.2⟩
  obtain ⟨a, b, c, a1, a2, a3, c0, c1, c2, c3, c4⟩ := x.1 s hs
  by_cases e : s = j
  · subst e
    have ho : ∀ i, i ≠ 3 → i ≠ 4 → zI (zsI (zsI (zsI h 61 s 3 (nI v)) 61 s 4 1) 31 0 s (nI v)) 61 s i = zI h 61 s i := fun i h3 h4 => (zI_oth (zsI h 61 s 3 (nI v)) 61 s 4 _ h4).trans (zI_oth h 61 s 3 _ h3)
    exact ⟨a, b, c, a1, a2, a3, ⟨(ho 0 (by decide) (by decide)).trans c0.1, c0.2⟩, ⟨(ho 1 (by decide) (by decide)).trans c1.1, c1.2⟩, ⟨(ho 2 (by decide) (by decide)).trans c2.1, c2.2⟩, c3, Or.inr ⟨zI_same (zsI h 61 s 3 (nI v)) 61 s 4 _, v, hv, (zI_oth (zsI h 61 s 3 (nI v)) 61 s 4 _ (by decide)).trans (zI_same h 61 s 3 _), zI_same (zsI (zsI h 61 s 3 (nI v)) 61 s 4 1) 31 0 s _⟩⟩
  · have ho : ∀ i, zI (zsI (zsI (zsI h 61 j 3 (nI v)) 61 j 4 1) 31 0 j (nI v)) 61 s i = zI h 61 s i := fun i => Eq.trans (if_neg (fun z => e z.2.1)) (if_neg (fun z => e z.2.1))
    have hg : zI (zsI (zsI (zsI h 61 j 3 (nI v)) 61 j 4 1) 31 0 j (nI v)) 31 0 s = zI h 31 0 s := zI_oth (zsI (zsI h 61 j 3 (nI v)) 61 j 4 1) 31 0 j _ e
    refine ⟨a, b, c, a1, a2, a3, ⟨(ho 0).trans c0.1, c0.2⟩, ⟨(ho 1).trans c1.1, c1.2⟩, ⟨(ho 2).trans c2.1, c2.2⟩, c3, ?_⟩
    rcases c4 with ⟨d1, d2⟩ | ⟨d1, d, d2, d3, d4⟩
    · exact Or.inl ⟨(ho 4).trans d1, hg.trans d2⟩
    · exact Or.inr ⟨(ho 4).trans d1, d, d2, (ho 3).trans d3, hg.trans d4⟩
theorem mv_cond {x : Int32} {b : Nat} (hb : b ≤ 1000000000) (hx : 1 ≤ x ∧ x ≤ 1000000) : (x ≤ 1000000000 - nI b ↔ nI b + x ≤ 1000000000) ∧ ∃ a, a ≤ 1000000 ∧ x = nI a := by
  obtain ⟨a, a1, a2⟩ := toN (x := x) (n := 1000000) (by omega) ⟨by
    have h1 := Int32.le_iff_toInt_le.mp hx.1
    rw [Int32.le_iff_toInt_le]
    rw [show (1 : Int32).toInt = 1 by decide] at h1
    rw [show (0 : Int32).toInt = 0 by decide]
    omega, hx.2⟩
  refine ⟨?_, a, a1, a2⟩
  rw [a2, show (1000000000 : Int32) = nI 1000000000 from rfl, nI_sub hb, nI_add, nI_leI (by omega) (by omega), nI_leI (by omega) (by omega)]
  omega
theorem pr_moves (l : Launch) (h : zH) (hI : Inv h) (p a z : Int32) : Pr l 3 2 mX11_moves mX14_moves [Vi p, Vi a, Vi z] h := by
  obtain ⟨nP, nB, nE, nS, Y, N, nT, pg, hK, hN1, hN2, hN3, hP, hB, hE, hM, hS, hT, hW⟩ := hI
  obtain ⟨kC, kM, k58, k59, k60, k61, k17, kz, ks⟩ := id hK
  obtain ⟨⟨p0, p1, p2⟩, ⟨b0, b1, b2⟩, ⟨s0, s1x, s2⟩, ⟨y0, y1, y2⟩, ⟨e0, e1, e2x⟩⟩ := id hN1
  by_cases e : 0 ≤ p ∧ p < nI nS
  · obtain ⟨i1, i2⟩ := ixC (n := nS) (by omega) e
    obtain ⟨va, vb, vc, va1, vb1, vc1, c0, c1, c2, -⟩ := hS.1 _ i2
    by_cases ez : z = 0
    · skip
      by_cases e2 : (1 ≤ a ∧ a ≤ 1000000) ∧ a ≤ 1000000000 - zI h 61 p.toNatClampNeg 1
      · obtain ⟨hcd, a0, a1, a2⟩ := mv_cond (x := a) vb1 e2.1
        have e3 : (1 ≤ a ∧ a ≤ 1000000) ∧ zI h 29 0 p.toNatClampNeg + a ≤ 1000000000 := ⟨e2.1, by have q := e2.2; rw [c1.1] at q; rw [c1.2]; exact hcd.mp q⟩
        have e4 : (1 ≤ a ∧ a ≤ 1000000) ∧ zI (zsI (zsI h 61 p.toNatClampNeg 1 (zI h 61 p.toNatClampNeg 1 + a)) 0 0 13 0) 29 0 p.toNatClampNeg + a ≤ 1000000000 := e3
        have hle : vb + a0 ≤ 1000000000 := by
          have q := e3.2
          rw [c1.2, a2, nI_add] at q
          exact (nI_leI (b := 1000000000) (by omega) (by omega)).mp q
        have hx := hS.mv1 i2 hle
        rw [← nI_add, ← a2] at hx
        have hq1 : zI h 61 p.toNatClampNeg 1 + a = nI vb + a := by rw [c1.1]
        have hq2 : zI (zsI (zsI h 61 p.toNatClampNeg 1 (zI h 61 p.toNatClampNeg 1 + a)) 0 0 13 0) 29 0 p.toNatClampNeg + a = nI vb + a := by
          show zI h 29 0 p.toNatClampNeg + a = _
          rw [c1.2]
        have hcM : cMoves h nS p a z = (zI h 61 p.toNatClampNeg 1 + a, (zsI (zsI h 61 p.toNatClampNeg 1 (zI h 61 p.toNatClampNeg 1 + a)) 0 0 13 0)) := by
          unfold cMoves
          rw [if_pos e, if_pos ez, if_pos e2]
        have hmM : mMoves (zsI (zsI h 61 p.toNatClampNeg 1 (zI h 61 p.toNatClampNeg 1 + a)) 0 0 13 0) nS p a z = (zI (zsI (zsI h 61 p.toNatClampNeg 1 (zI h 61 p.toNatClampNeg 1 + a)) 0 0 13 0) 29 0 p.toNatClampNeg + a, (mRef (zsI (zsI (zsI (zsI h 61 p.toNatClampNeg 1 (zI h 61 p.toNatClampNeg 1 + a)) 0 0 13 0) 1 0 0 0) 29 0 p.toNatClampNeg (zI (zsI (zsI h 61 p.toNatClampNeg 1 (zI h 61 p.toNatClampNeg 1 + a)) 0 0 13 0) 29 0 p.toNatClampNeg + a)) 0)) := by
          unfold mMoves
          rw [if_pos e, if_pos ez, if_pos e4]
        have hc := qX11_moves l h kC p a z nS s0 s2 k61
        rw [hcM] at hc
        have hm := qX14_moves l (zsI (zsI h 61 p.toNatClampNeg 1 (zI h 61 p.toNatClampNeg 1 + a)) 0 0 13 0) kM p a z nS s1x s2
        rw [hmM] at hm
        refine Pr.x hc hm (congrArg Vi (hq2.trans hq1.symm)) ?_
        rw [hq2, hq1]
        exact ⟨nP, nB, nE, nS, Y, N, nT, pg, hK, hN1, hN2, ⟨rfl, hN3.2.1, fun z => absurd (show (0 : Int32) = 4 from z) (by decide), fun _ => rfl⟩, hP, hB, hE, hM, hx, hT, hW⟩
      · have e3 : ¬ ((1 ≤ a ∧ a ≤ 1000000) ∧ zI h 29 0 p.toNatClampNeg + a ≤ 1000000000) := fun q => e2 ⟨q.1, by
          have q2 := q.2
          rw [c1.2] at q2
          rw [c1.1]
          exact (mv_cond (x := a) vb1 q.1).1.mpr q2⟩
        have e4 : ¬ ((1 ≤ a ∧ a ≤ 1000000) ∧ zI (zsI h 0 0 13 2) 29 0 p.toNatClampNeg + a ≤ 1000000000) := e3
        have hcM : cMoves h nS p a z = (-1, (zsI h 0 0 13 2)) := by
          unfold cMoves
          rw [if_pos e, if_pos ez, if_neg e2]
        have hmM : mMoves (zsI h 0 0 13 2) nS p a z = (-1, (mRef (zsI (zsI h 0 0 13 2) 1 0 0 0) 2)) := by
          unfold mMoves
          rw [if_pos e, if_pos ez, if_neg e4]
        have hc := qX11_moves l h kC p a z nS s0 s2 k61
        rw [hcM] at hc
        have hm := qX14_moves l (zsI h 0 0 13 2) kM p a z nS s1x s2
        rw [hmM] at hm
        refine Pr.x hc hm (congrArg Vi rfl) ?_
        exact ⟨nP, nB, nE, nS, Y, N, nT, pg, hK, hN1, hN2, ⟨rfl, hN3.2.1, fun z => absurd (show (2 : Int32) = 4 from z) (by decide), fun _ => rfl⟩, hP, hB, hE, hM, hS, hT, hW⟩
    · skip
      by_cases e2 : (1 ≤ a ∧ a ≤ 1000000) ∧ a ≤ 1000000000 - zI h 61 p.toNatClampNeg 2
      · obtain ⟨hcd, a0, a1, a2⟩ := mv_cond (x := a) vc1 e2.1
        have e3 : (1 ≤ a ∧ a ≤ 1000000) ∧ zI h 30 0 p.toNatClampNeg + a ≤ 1000000000 := ⟨e2.1, by have q := e2.2; rw [c2.1] at q; rw [c2.2]; exact hcd.mp q⟩
        have e4 : (1 ≤ a ∧ a ≤ 1000000) ∧ zI (zsI (zsI h 61 p.toNatClampNeg 2 (zI h 61 p.toNatClampNeg 2 + a)) 0 0 13 0) 30 0 p.toNatClampNeg + a ≤ 1000000000 := e3
        have hle : vc + a0 ≤ 1000000000 := by
          have q := e3.2
          rw [c2.2, a2, nI_add] at q
          exact (nI_leI (b := 1000000000) (by omega) (by omega)).mp q
        have hx := hS.mv2 i2 hle
        rw [← nI_add, ← a2] at hx
        have hq1 : zI h 61 p.toNatClampNeg 2 + a = nI vc + a := by rw [c2.1]
        have hq2 : zI (zsI (zsI h 61 p.toNatClampNeg 2 (zI h 61 p.toNatClampNeg 2 + a)) 0 0 13 0) 30 0 p.toNatClampNeg + a = nI vc + a := by
          show zI h 30 0 p.toNatClampNeg + a = _
          rw [c2.2]
        have hcM : cMoves h nS p a z = (zI h 61 p.toNatClampNeg 2 + a, (zsI (zsI h 61 p.toNatClampNeg 2 (zI h 61 p.toNatClampNeg 2 + a)) 0 0 13 0)) := by
          unfold cMoves
          rw [if_pos e, if_neg ez, if_pos e2]
        have hmM : mMoves (zsI (zsI h 61 p.toNatClampNeg 2 (zI h 61 p.toNatClampNeg 2 + a)) 0 0 13 0) nS p a z = (zI (zsI (zsI h 61 p.toNatClampNeg 2 (zI h 61 p.toNatClampNeg 2 + a)) 0 0 13 0) 30 0 p.toNatClampNeg + a, (mRef (zsI (zsI (zsI (zsI h 61 p.toNatClampNeg 2 (zI h 61 p.toNatClampNeg 2 + a)) 0 0 13 0) 1 0 0 0) 30 0 p.toNatClampNeg (zI (zsI (zsI h 61 p.toNatClampNeg 2 (zI h 61 p.toNatClampNeg 2 + a)) 0 0 13 0) 30 0 p.toNatClampNeg + a)) 0)) := by
          unfold mMoves
          rw [if_pos e, if_neg ez, if_pos e4]
        have hc := qX11_moves l h kC p a z nS s0 s2 k61
        rw [hcM] at hc
        have hm := qX14_moves l (zsI (zsI h 61 p.toNatClampNeg 2 (zI h 61 p.toNatClampNeg 2 + a)) 0 0 13 0) kM p a z nS s1x s2
        rw [hmM] at hm
        refine Pr.x hc hm (congrArg Vi (hq2.trans hq1.symm)) ?_
        rw [hq2, hq1]
        exact ⟨nP, nB, nE, nS, Y, N, nT, pg, hK, hN1, hN2, ⟨rfl, hN3.2.1, fun z => absurd (show (0 : Int32) = 4 from z) (by decide), fun _ => rfl⟩, hP, hB, hE, hM, hx, hT, hW⟩
      · have e3 : ¬ ((1 ≤ a ∧ a ≤ 1000000) ∧ zI h 30 0 p.toNatClampNeg + a ≤ 1000000000) := fun q => e2 ⟨q.1, by
          have q2 := q.2
          rw [c2.2] at q2
          rw [c2.1]
          exact (mv_cond (x := a) vc1 q.1).1.mpr q2⟩
        have e4 : ¬ ((1 ≤ a ∧ a ≤ 1000000) ∧ zI (zsI h 0 0 13 2) 30 0 p.toNatClampNeg + a ≤ 1000000000) := e3
        have hcM : cMoves h nS p a z = (-1, (zsI h 0 0 13 2)) := by
          unfold cMoves
          rw [if_pos e, if_neg ez, if_neg e2]
        have hmM : mMoves (zsI h 0 0 13 2) nS p a z = (-1, (mRef (zsI (zsI h 0 0 13 2) 1 0 0 0) 2)) := by
          unfold mMoves
          rw [if_pos e, if_neg ez, if_neg e4]
        have hc := qX11_moves l h kC p a z nS s0 s2 k61
        rw [hcM] at hc
        have hm := qX14_moves l (zsI h 0 0 13 2) kM p a z nS s1x s2
        rw [hmM] at hm
        refine Pr.x hc hm (congrArg Vi rfl) ?_
        exact ⟨nP, nB, nE, nS, Y, N, nT, pg, hK, hN1, hN2, ⟨rfl, hN3.2.1, fun z => absurd (show (2 : Int32) = 4 from z) (by decide), fun _ => rfl⟩, hP, hB, hE, hM, hS, hT, hW⟩
  · skip
    have hcM : cMoves h nS p a z = (-1, (zsI h 0 0 13 1)) := by
      unfold cMoves
      rw [if_neg e]
    have hmM : mMoves (zsI h 0 0 13 1) nS p a z = (-1, (mRef (zsI (zsI h 0 0 13 1) 1 0 0 0) 1)) := by
      unfold mMoves
      rw [if_neg e]
    have hc := qX11_moves l h kC p a z nS s0 s2 k61
    rw [hcM] at hc
    have hm := qX14_moves l (zsI h 0 0 13 1) kM p a z nS s1x s2
    rw [hmM] at hm
    refine Pr.x hc hm (congrArg Vi rfl) ?_
    exact ⟨nP, nB, nE, nS, Y, N, nT, pg, hK, hN1, hN2, ⟨rfl, hN3.2.1, fun z => absurd (show (1 : Int32) = 4 from z) (by decide), fun _ => rfl⟩, hP, hB, hE, hM, hS, hT, hW⟩

theorem pr_counted (l : Launch) (h : zH) (hI : Inv h) (p a : Int32) : Pr l 3 2 mX11_counted mX14_counted [Vi p, Vi a] h := by
  obtain ⟨nP, nB, nE, nS, Y, N, nT, pg, hK, hN1, hN2, hN3, hP, hB, hE, hM, hS, hT, hW⟩ := hI
  obtain ⟨kC, kM, k58, k59, k60, k61, k17, kz, ks⟩ := id hK
  obtain ⟨⟨p0, p1, p2⟩, ⟨b0, b1, b2⟩, ⟨s0, s1x, s2⟩, ⟨y0, y1, y2⟩, ⟨e0, e1, e2x⟩⟩ := id hN1
  by_cases e : 0 ≤ p ∧ p < nI nS
  · obtain ⟨i1, i2⟩ := ixC (n := nS) (by omega) e
    obtain ⟨va, vb, vc, va1, vb1, vc1, c0, c1, c2, -⟩ := hS.1 _ i2
    by_cases e2 : 0 ≤ a ∧ a ≤ 1000000000
    · obtain ⟨a0, a1, a2⟩ := toN (n := 1000000000) (by omega) e2
      have hx := hS.ct i2 a1
      rw [← a2] at hx
      have hv : zI (zsI (zsI (zsI h 61 p.toNatClampNeg 3 a) 61 p.toNatClampNeg 4 1) 0 0 13 0) 28 0 p.toNatClampNeg + zI (zsI (zsI (zsI h 61 p.toNatClampNeg 3 a) 61 p.toNatClampNeg 4 1) 0 0 13 0) 29 0 p.toNatClampNeg - zI (zsI (zsI (zsI h 61 p.toNatClampNeg 3 a) 61 p.toNatClampNeg 4 1) 0 0 13 0) 30 0 p.toNatClampNeg - a = zI h 61 p.toNatClampNeg 0 + zI h 61 p.toNatClampNeg 1 - zI h 61 p.toNatClampNeg 2 - a := by
        show zI h 28 0 p.toNatClampNeg + zI h 29 0 p.toNatClampNeg - zI h 30 0 p.toNatClampNeg - a = _
        rw [c0.1, c0.2, c1.1, c1.2, c2.1, c2.2]
      have hcM : cCounted h nS p a = (zI h 61 p.toNatClampNeg 0 + zI h 61 p.toNatClampNeg 1 - zI h 61 p.toNatClampNeg 2 - a, (zsI (zsI (zsI h 61 p.toNatClampNeg 3 a) 61 p.toNatClampNeg 4 1) 0 0 13 0)) := by
        unfold cCounted
        rw [if_pos e, if_pos e2]
      have hmM : mCounted (zsI (zsI (zsI h 61 p.toNatClampNeg 3 a) 61 p.toNatClampNeg 4 1) 0 0 13 0) nS p a = (zI (zsI (zsI (zsI h 61 p.toNatClampNeg 3 a) 61 p.toNatClampNeg 4 1) 0 0 13 0) 28 0 p.toNatClampNeg + zI (zsI (zsI (zsI h 61 p.toNatClampNeg 3 a) 61 p.toNatClampNeg 4 1) 0 0 13 0) 29 0 p.toNatClampNeg - zI (zsI (zsI (zsI h 61 p.toNatClampNeg 3 a) 61 p.toNatClampNeg 4 1) 0 0 13 0) 30 0 p.toNatClampNeg - a, (mRef (zsI (zsI (zsI (zsI (zsI h 61 p.toNatClampNeg 3 a) 61 p.toNatClampNeg 4 1) 0 0 13 0) 1 0 0 0) 31 0 p.toNatClampNeg a) 0)) := by
        unfold mCounted
        rw [if_pos e, if_pos e2]
      have hc := qX11_counted l h kC p a nS s0 s2 k61
      rw [hcM] at hc
      have hm := qX14_counted l (zsI (zsI (zsI h 61 p.toNatClampNeg 3 a) 61 p.toNatClampNeg 4 1) 0 0 13 0) kM p a nS s1x s2
      rw [hmM] at hm
      refine Pr.x hc hm (congrArg Vi hv) ?_
      exact ⟨nP, nB, nE, nS, Y, N, nT, pg, hK, hN1, hN2, ⟨rfl, hN3.2.1, fun z => absurd (show (0 : Int32) = 4 from z) (by decide), fun _ => rfl⟩, hP, hB, hE, hM, hx, hT, hW⟩
    · skip
      have hcM : cCounted h nS p a = (-1, (zsI h 0 0 13 2)) := by
        unfold cCounted
        rw [if_pos e, if_neg e2]
      have hmM : mCounted (zsI h 0 0 13 2) nS p a = (-1, (mRef (zsI (zsI h 0 0 13 2) 1 0 0 0) 2)) := by
        unfold mCounted
        rw [if_pos e, if_neg e2]
      have hc := qX11_counted l h kC p a nS s0 s2 k61
      rw [hcM] at hc
      have hm := qX14_counted l (zsI h 0 0 13 2) kM p a nS s1x s2
      rw [hmM] at hm
      refine Pr.x hc hm (congrArg Vi rfl) ?_
      exact ⟨nP, nB, nE, nS, Y, N, nT, pg, hK, hN1, hN2, ⟨rfl, hN3.2.1, fun z => absurd (show (2 : Int32) = 4 from z) (by decide), fun _ => rfl⟩, hP, hB, hE, hM, hS, hT, hW⟩
  · skip
    have hcM : cCounted h nS p a = (-1, (zsI h 0 0 13 1)) := by
      unfold cCounted
      rw [if_neg e]
    have hmM : mCounted (zsI h 0 0 13 1) nS p a = (-1, (mRef (zsI (zsI h 0 0 13 1) 1 0 0 0) 1)) := by
      unfold mCounted
      rw [if_neg e]
    have hc := qX11_counted l h kC p a nS s0 s2 k61
    rw [hcM] at hc
    have hm := qX14_counted l (zsI h 0 0 13 1) kM p a nS s1x s2
    rw [hmM] at hm
    refine Pr.x hc hm (congrArg Vi rfl) ?_
    exact ⟨nP, nB, nE, nS, Y, N, nT, pg, hK, hN1, hN2, ⟨rfl, hN3.2.1, fun z => absurd (show (1 : Int32) = 4 from z) (by decide), fun _ => rfl⟩, hP, hB, hE, hM, hS, hT, hW⟩

