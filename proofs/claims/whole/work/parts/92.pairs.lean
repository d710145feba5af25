-- pairs of calls that change the state, by program (wip/gen/p92.py)
theorem iB.gd {h : zH} {nP nB : Nat} (x : iB h nP nB) {j g : Nat} (hj : j < nB) (hg : g ≤ 9) : iB (zsI (zsI h 59 j 3 (nI g)) 15 0 j (nI g)) nP nB := by
  refine ⟨fun k hk => ?_, fun k hk => ?_⟩
  · obtain ⟨a, b, r, g0, a1, a2, a3, a4, a5, a6, c0, c1, c2, c3, c4⟩ := x.1 k hk
    by_cases e : k = j
    · subst e
      exact ⟨a, b, r, g, a1, a2, a3, a4, a5, hg, ⟨(zI_oth h 59 k 3 _ (by decide)).trans c0.1, c0.2⟩, ⟨(zI_oth h 59 k 3 _ (by decide)).trans c1.1, c1.2⟩, ⟨(zI_oth h 59 k 3 _ (by decide)).trans c2.1, c2.2⟩, zI_same h 59 k 3 _, zI_same (zsI h 59 k 3 (nI g)) 15 0 k _⟩
    · have e59 : ∀ i, zI (zsI (zsI h 59 j 3 (nI g)) 15 0 j (nI g)) 59 k i = zI h 59 k i := fun i => (zI_st _ 15 0 j _ (by decide) k i).trans (if_neg (fun z => e z.2.1))
      exact ⟨a, b, r, g0, a1, a2, a3, a4, a5, a6, ⟨(e59 0).trans c0.1, c0.2⟩, ⟨(e59 1).trans c1.1, c1.2⟩, ⟨(e59 2).trans c2.1, c2.2⟩, (e59 3).trans c3, (zI_oth (zsI h 59 j 3 (nI g)) 15 0 j _ e).trans c4⟩
  · exact (zI_oth (zsI h 59 j 3 (nI g)) 15 0 j _ (by omega)).trans (x.2 k hk)
theorem toN {x : Int32} {n : Nat} (hn : n < 2 ^ 30) (h : 0 ≤ x ∧ x ≤ nI n) : ∃ j : Nat, j ≤ n ∧ x = nI j := by
  obtain ⟨j, h1, h2⟩ := ixN (x := x) (n := n + 1) (by omega) ⟨h.1, by
    have h3 := Int32.le_iff_toInt_le.mp h.2
    rw [Int32.lt_iff_toInt_lt, nI_toInt (by omega)]
    rw [nI_toInt (by omega)] at h3
    omega⟩
  exact ⟨j, by omega, h2⟩
theorem pr_guard (l : Launch) (h : zH) (hI : Inv h) (p g : Int32) : Pr l 3 2 mX11_guard mX14_guard [Vi p, Vi g] h := by
  obtain ⟨nP, nB, nE, nS, Y, N, nT, pg, hK, hN1, hN2, hN3, hP, hB, hE, hM, hS, hT, hW⟩ := hI
  obtain ⟨kC, kM, k58, k59, k60, k61, k17, kz, ks⟩ := id hK
  obtain ⟨⟨p0, p1, p2⟩, ⟨b0, b1, b2⟩, ⟨s0, s1x, s2⟩, ⟨y0, y1, y2⟩, ⟨e0, e1, e2⟩⟩ := id hN1
  by_cases e : 0 ≤ p ∧ p < nI nB
  · obtain ⟨i1, i2⟩ := ixC (n := nB) (by omega) e
    by_cases e2 : 0 ≤ g ∧ g ≤ 9
    · refine Pr.x (qX11_guard l h kC p g nB b0 b2 k59) (qX14_guard l _ ?_ p g nB ?_ b2) ?_ ?_ ?_ ?_ <;> unfold cGuard <;> (try unfold mGuard) <;> (try rw [if_pos e, if_pos e2]) <;> (try rw [if_pos e, if_pos e2])
      · exact kM
      · exact b1
      · obtain ⟨g0, g1, g2⟩ := toN (n := 9) (by omega) e2
        have hx := hB.gd i2 g1
        rw [← g2] at hx
        exact ⟨nP, nB, nE, nS, Y, N, nT, pg, hK, hN1, hN2, ⟨rfl, hN3.2.1, fun z => absurd (show (0 : Int32) = 4 from z) (by decide), fun _ => rfl⟩, hP, hx, hE, hM, hS, hT, hW⟩
      · exact ⟨rfl, rfl⟩
      · exact ⟨rfl, rfl⟩
    · refine Pr.x (qX11_guard l h kC p g nB b0 b2 k59) (qX14_guard l _ ?_ p g nB ?_ b2) ?_ ?_ ?_ ?_ <;> unfold cGuard <;> (try unfold mGuard) <;> (try rw [if_pos e, if_neg e2]) <;> (try rw [if_pos e, if_neg e2])
      · exact kM
      · exact b1
      · exact ⟨nP, nB, nE, nS, Y, N, nT, pg, hK, hN1, hN2, ⟨rfl, hN3.2.1, fun z => absurd (show (2 : Int32) = 4 from z) (by decide), fun _ => rfl⟩, hP, hB, hE, hM, hS, hT, hW⟩
      · exact ⟨rfl, rfl⟩
      · exact ⟨rfl, rfl⟩
  · refine Pr.x (qX11_guard l h kC p g nB b0 b2 k59) (qX14_guard l _ ?_ p g nB ?_ b2) ?_ ?_ ?_ ?_ <;> unfold cGuard <;> (try unfold mGuard) <;> (try rw [if_neg e]) <;> (try rw [if_neg e])
    · exact kM
    · exact b1
    · exact ⟨nP, nB, nE, nS, Y, N, nT, pg, hK, hN1, hN2, ⟨rfl, hN3.2.1, fun z => absurd (show (1 : Int32) = 4 from z) (by decide), fun _ => rfl⟩, hP, hB, hE, hM, hS, hT, hW⟩
    · exact ⟨rfl, rfl⟩
    · exact ⟨rfl, rfl⟩
