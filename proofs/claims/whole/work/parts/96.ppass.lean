-- pairs: pass, feed, by program (wip/gen/p96.py)
theorem cpH_s (h : zH) : ∀ n s, (s < n → zI (cpH h n) 61 s 0 = zI h 61 s 3 ∧ zI (cpH h n) 61 s 1 = 0 ∧ zI (cpH h n) 61 s 2 = 0 ∧ zI (cpH h n) 61 s 4 = 0 ∧ zL (cpH h n) 61 s 5 = zL h 61 s 5 + (sMis h s).toInt64) ∧ (n ≤ s → ∀ j, zI (cpH h n) 61 s j = zI h 61 s j ∧ zL (cpH h n) 61 s j = zL h 61 s j)
  | 0, s => ⟨fun z => by omega, fun _ j => ⟨rfl, rfl⟩⟩
  | n + 1, s => by
    obtain ⟨i1, i2⟩ := cpH_s h n s
    have hI : ∀ j, s ≠ n → zI (cpH h (n + 1)) 61 s j = zI (cpH h n) 61 s j := fun j e => (if_neg (fun z => e z.2.1)).trans ((if_neg (fun z => e z.2.1)).trans ((if_neg (fun z => e z.2.1)).trans (if_neg (fun z => e z.2.1))))
    have hL : ∀ j, s ≠ n → zL (cpH h (n + 1)) 61 s j = zL (cpH h n) 61 s j := fun j e => if_neg (fun z => e z.2.1)
    refine ⟨fun hs => ?_, fun hs j => ?_⟩
    · by_cases e : s = n
      · subst e
        have h2 := i2 (Nat.le_refl s)
        refine ⟨?_, ?_, ?_, ?_, ?_⟩
        · refine Eq.trans ((zI_oth _ 61 s 4 _ (by decide)).trans ((zI_oth _ 61 s 2 _ (by decide)).trans ((zI_oth _ 61 s 1 _ (by decide)).trans (zI_same _ 61 s 0 _)))) ?_
          exact (h2 3).1
        · exact (zI_oth _ 61 s 4 _ (by decide)).trans ((zI_oth _ 61 s 2 _ (by decide)).trans (zI_same _ 61 s 1 _))
        · exact (zI_oth _ 61 s 4 _ (by decide)).trans (zI_same _ 61 s 2 _)
        · exact zI_same _ 61 s 4 _
        · refine Eq.trans (zL_same (cpH h s) 61 s 5 _) ?_
          unfold sMis
          rw [(h2 5).2, (h2 0).1, (h2 1).1, (h2 2).1, (h2 3).1]
      · rw [hI 0 e, hI 1 e, hI 2 e, hI 4 e, hL 5 e]
        exact i1 (by omega)
    · rw [hI j (by omega), hL j (by omega)]
      exact i2 (by omega) j
theorem pH_s (h : zH) : ∀ n s, (s < n → zI (pH h n) 28 0 s = zI h 31 0 s ∧ zI (pH h n) 29 0 s = 0 ∧ zI (pH h n) 30 0 s = 0 ∧ zI (pH h n) 31 0 s = -1 ∧ zL (pH h n) 33 0 s = zL h 33 0 s + (zI h 28 0 s + zI h 29 0 s - zI h 30 0 s - zI h 31 0 s).toInt64) ∧ (n ≤ s → zI (pH h n) 28 0 s = zI h 28 0 s ∧ zI (pH h n) 29 0 s = zI h 29 0 s ∧ zI (pH h n) 30 0 s = zI h 30 0 s ∧ zI (pH h n) 31 0 s = zI h 31 0 s ∧ zL (pH h n) 33 0 s = zL h 33 0 s)
  | 0, s => ⟨fun z => by omega, fun _ => ⟨rfl, rfl, rfl, rfl, rfl⟩⟩
  | n + 1, s => by
    obtain ⟨i1, i2⟩ := pH_s h n s
    have h28 : s ≠ n → zI (pH h (n + 1)) 28 0 s = zI (pH h n) 28 0 s := fun e => zI_oth _ 28 0 n _ e
    have h29 : s ≠ n → zI (pH h (n + 1)) 29 0 s = zI (pH h n) 29 0 s := fun e => zI_oth _ 29 0 n _ e
    have h30 : s ≠ n → zI (pH h (n + 1)) 30 0 s = zI (pH h n) 30 0 s := fun e => zI_oth _ 30 0 n _ e
    have h31 : s ≠ n → zI (pH h (n + 1)) 31 0 s = zI (pH h n) 31 0 s := fun e => zI_oth _ 31 0 n _ e
    have h33 : s ≠ n → zL (pH h (n + 1)) 33 0 s = zL (pH h n) 33 0 s := fun e => zL_oth _ 33 0 n _ e
    refine ⟨fun hs => ?_, fun hs => ?_⟩
    · by_cases e : s = n
      · subst e
        obtain ⟨g1, g2, g3, g4, g5⟩ := i2 (Nat.le_refl s)
        refine ⟨?_, zI_same _ 29 0 s _, zI_same _ 30 0 s _, zI_same _ 31 0 s _, ?_⟩
        · exact (zI_same _ 28 0 s _).trans g4
        · refine Eq.trans (zL_same _ 33 0 s _) ?_
          rw [g1, g2, g3, g4, g5]
      · rw [h28 e, h29 e, h30 e, h31 e, h33 e]
        exact i1 (by omega)
    · rw [h28 (by omega), h29 (by omega), h30 (by omega), h31 (by omega), h33 (by omega)]
      exact i2 (by omega)
theorem pr_pass (l : Launch) (h : zH) (hI : Inv h) : Pr l 3 2 mX11_pass mX14_pass [] h := by
  obtain ⟨nP, nB, nE, nS, Y, N, nT, pg, hK, hN1, hN2, hN3, hP, hB, hE, hM, hS, hT, hW⟩ := hI
  obtain ⟨kC, kM, k58, k59, k60, k61, k17, kz, ks⟩ := id hK
  obtain ⟨⟨p0, p1, p2⟩, ⟨b0, b1, b2⟩, ⟨s0, s1x, s2⟩, ⟨y0, y1, y2⟩, ⟨e0, e1, e2x⟩⟩ := id hN1
  have hU : ∀ k, k < nS → (cUn h k = -1 ↔ zI h 31 0 k = -1) := fun k hk => by
    obtain ⟨a, b, c, -, -, -, -, -, -, -, c4⟩ := hS.1 k hk
    unfold cUn
    rcases c4 with ⟨d1, d2⟩ | ⟨d1, d, d2, d3, d4⟩
    · rw [if_pos d1, d2]
    · rw [if_neg (by rw [d1]; decide), d4]
      exact ⟨fun z => absurd z (by decide), fun z => absurd z (nI_ne1 d (by omega))⟩
  have hAl := mAlb_c hU
  by_cases e : mAlb (cUn h) nS = 0
  · have hc := qX11_pass l h kC nS s0 s2 k61
    rw [show cPass h nS = (-1, zsI h 0 0 13 5) by unfold cPass; rw [if_pos e]] at hc
    have hm := qX14_pass l (zsI h 0 0 13 5) kM nS s1x s2
    rw [show mPass (zsI h 0 0 13 5) nS = (-1, mRef (zsI (zsI h 0 0 13 5) 1 0 0 0) 5) by unfold mPass; rw [if_pos (show mAlb (zI (zsI h 0 0 13 5) 31 0) nS = 0 from hAl.symm.trans e)]] at hm
    exact Pr.x hc hm rfl ⟨nP, nB, nE, nS, Y, N, nT, pg, hK, hN1, hN2, ⟨rfl, hN3.2.1, fun z => absurd (show (5 : Int32) = 4 from z) (by decide), fun _ => rfl⟩, hP, hB, hE, hM, hS, hT, hW⟩
  · by_cases e2 : Y = 99
    · have hc := qX11_pass l h kC nS s0 s2 k61
      rw [show cPass h nS = (-1, zsI h 0 0 13 2) by unfold cPass; rw [if_neg e, if_pos (by rw [y0, e2]; decide)]] at hc
      have hm := qX14_pass l (zsI h 0 0 13 2) kM nS s1x s2
      rw [show mPass (zsI h 0 0 13 2) nS = (-1, mRef (zsI (zsI h 0 0 13 2) 1 0 0 0) 2) by unfold mPass; rw [if_neg (show ¬ mAlb (zI (zsI h 0 0 13 2) 31 0) nS = 0 from fun z => e (hAl.trans z)), if_pos (show zI (zsI h 0 0 13 2) 1 0 6 = 99 from y1.trans (by rw [e2]; rfl))]] at hm
      exact Pr.x hc hm rfl ⟨nP, nB, nE, nS, Y, N, nT, pg, hK, hN1, hN2, ⟨rfl, hN3.2.1, fun z => absurd (show (2 : Int32) = 4 from z) (by decide), fun _ => rfl⟩, hP, hB, hE, hM, hS, hT, hW⟩
    · have hc := qX11_pass l h kC nS s0 s2 k61
      rw [show cPass h nS = (nI Y + 1, (zsI (zsI (cpH h nS) 0 0 11 (nI Y + 1)) 0 0 13 0)) by unfold cPass; rw [if_neg e, if_neg (by rw [y0]; exact fun z => e2 (by have := (nI_leI (a := 99) (by omega) (by omega)).mp z; omega)), y0]] at hc
      obtain ⟨f1, f2⟩ := pH_f (zsI (zsI (zsI (cpH h nS) 0 0 11 (nI Y + 1)) 0 0 13 0) 1 0 0 0) nS
      have g1 := cpH_f h nS
      have hg : (zsI (zsI (cpH h nS) 0 0 11 (nI Y + 1)) 0 0 13 0).2.2 = h.2.2 := cpH_g h nS
      have hg2 : (mRef (zsI (pH (zsI (zsI (zsI (cpH h nS) 0 0 11 (nI Y + 1)) 0 0 13 0) 1 0 0 0) nS) 1 0 6 (nI Y + 1)) 0).2.2 = h.2.2 := (pH_g (zsI (zsI (zsI (cpH h nS) 0 0 11 (nI Y + 1)) 0 0 13 0) 1 0 0 0) nS).trans hg
      have kM1 : Wm (zsI (zsI (cpH h nS) 0 0 11 (nI Y + 1)) 0 0 13 0) := Wm.same hg kM
      have q31 : zI (zsI (zsI (cpH h nS) 0 0 11 (nI Y + 1)) 0 0 13 0) 31 = zI h 31 := (g1 31 (by decide)).1
      have q1 : ∀ j, zI (zsI (zsI (cpH h nS) 0 0 11 (nI Y + 1)) 0 0 13 0) 1 0 j = zI h 1 0 j := fun j => congrFun (congrFun (g1 1 (by decide)).1 0) j
      have hm := qX14_pass l (zsI (zsI (cpH h nS) 0 0 11 (nI Y + 1)) 0 0 13 0) kM1 nS ((q1 40).trans s1x) s2
      rw [show mPass (zsI (zsI (cpH h nS) 0 0 11 (nI Y + 1)) 0 0 13 0) nS = (nI Y + 1, (mRef (zsI (pH (zsI (zsI (zsI (cpH h nS) 0 0 11 (nI Y + 1)) 0 0 13 0) 1 0 0 0) nS) 1 0 6 (nI Y + 1)) 0)) by unfold mPass; rw [if_neg (by rw [q31]; exact fun z => e (hAl.trans z)), q1 6, y1, if_neg (show ¬ nI Y = (99 : Int32) from fun z => e2 (nIe (b := 99) (by omega) (by omega) z))]] at hm
      refine Pr.x hc hm rfl ?_ ⟨congrFun (g1 999 (by decide)).1 0, by unfold zN; rw [hg]⟩ ⟨congrFun ((f1 999 (by decide)).trans (g1 999 (by decide)).1) 0, by unfold zN; rw [hg2]⟩
      have r1 : ∀ j, j ≠ 0 → j ≠ 1 → j ≠ 2 → j ≠ 6 → zI (mRef (zsI (pH (zsI (zsI (zsI (cpH h nS) 0 0 11 (nI Y + 1)) 0 0 13 0) 1 0 0 0) nS) 1 0 6 (nI Y + 1)) 0) 1 0 j = zI h 1 0 j := fun j h0 h1 h2 h6 => by
        refine Eq.trans ((zI_oth _ 1 0 2 _ h2).trans ((zI_oth _ 1 0 1 _ h1).trans (zI_oth _ 1 0 6 _ h6))) ?_
        rw [f1 1 (by omega)]
        exact (zI_oth _ 1 0 0 _ h0).trans (q1 j)
      have r0 : ∀ k, k ≠ 0 → k ≠ 1 → k ≠ 61 → (k < 28 ∨ 31 < k) → zI (mRef (zsI (pH (zsI (zsI (zsI (cpH h nS) 0 0 11 (nI Y + 1)) 0 0 13 0) 1 0 0 0) nS) 1 0 6 (nI Y + 1)) 0) k = zI h k := fun k h0 h1 h61 hk => by
        refine Eq.trans ((zI_ss _ 1 0 2 _ h1).trans ((zI_ss _ 1 0 1 _ h1).trans (zI_ss _ 1 0 6 _ h1))) ?_
        rw [f1 k hk, zI_ss _ 1 0 0 _ h1, zI_ss _ 0 0 13 _ h0, zI_ss _ 0 0 11 _ h0]
        exact (g1 k h61).1
      have r00 : ∀ j, j ≠ 11 → j ≠ 13 → zI (mRef (zsI (pH (zsI (zsI (zsI (cpH h nS) 0 0 11 (nI Y + 1)) 0 0 13 0) 1 0 0 0) nS) 1 0 6 (nI Y + 1)) 0) 0 0 j = zI h 0 0 j := fun j h11 h13 => by
        refine Eq.trans ((zI_st _ 1 0 2 _ (by decide) 0 j).trans ((zI_st _ 1 0 1 _ (by decide) 0 j).trans (zI_st _ 1 0 6 _ (by decide) 0 j))) ?_
        rw [f1 0 (by omega), zI_ss _ 1 0 0 _ (k' := 0) (by decide)]
        exact (zI_oth _ 0 0 13 _ h13).trans ((zI_oth _ 0 0 11 _ h11).trans (congrFun (congrFun (g1 0 (by decide)).1 0) j))
      have r011 : zI (mRef (zsI (pH (zsI (zsI (zsI (cpH h nS) 0 0 11 (nI Y + 1)) 0 0 13 0) 1 0 0 0) nS) 1 0 6 (nI Y + 1)) 0) 0 0 11 = nI Y + 1 := by
        refine Eq.trans ((zI_st _ 1 0 2 _ (by decide) 0 11).trans ((zI_st _ 1 0 1 _ (by decide) 0 11).trans (zI_st _ 1 0 6 _ (by decide) 0 11))) ?_
        rw [f1 0 (by omega)]
        rfl
      have r013 : zI (mRef (zsI (pH (zsI (zsI (zsI (cpH h nS) 0 0 11 (nI Y + 1)) 0 0 13 0) 1 0 0 0) nS) 1 0 6 (nI Y + 1)) 0) 0 0 13 = 0 := by
        refine Eq.trans ((zI_st _ 1 0 2 _ (by decide) 0 13).trans ((zI_st _ 1 0 1 _ (by decide) 0 13).trans (zI_st _ 1 0 6 _ (by decide) 0 13))) ?_
        rw [f1 0 (by omega)]
        rfl
      have hN1' : iN1 (mRef (zsI (pH (zsI (zsI (zsI (cpH h nS) 0 0 11 (nI Y + 1)) 0 0 13 0) 1 0 0 0) nS) 1 0 6 (nI Y + 1)) 0) nP nB nE nS (Y + 1) := ⟨⟨(r00 8 (by decide) (by decide)).trans p0, (r1 4 (by decide) (by decide) (by decide) (by decide)).trans p1, p2⟩, ⟨(r00 9 (by decide) (by decide)).trans b0, (r1 5 (by decide) (by decide) (by decide) (by decide)).trans b1, b2⟩, ⟨(r00 10 (by decide) (by decide)).trans s0, (r1 40 (by decide) (by decide) (by decide) (by decide)).trans s1x, s2⟩, ⟨r011.trans (nI_1 Y), (show nI Y + 1 = nI (Y + 1) from nI_1 Y), by omega⟩, ⟨by rw [r0 55 (by decide) (by decide) (by decide) (by decide)]; exact e0, (r1 14 (by decide) (by decide) (by decide) (by decide)).trans e1, e2x⟩⟩
      have hN3' : iN3 (mRef (zsI (pH (zsI (zsI (zsI (cpH h nS) 0 0 11 (nI Y + 1)) 0 0 13 0) 1 0 0 0) nS) 1 0 6 (nI Y + 1)) 0) := ⟨r013, (r00 14 (by decide) (by decide)).trans (hN3.2.1.trans (r1 3 (by decide) (by decide) (by decide) (by decide)).symm), fun z => absurd (r013.symm.trans z) (by decide), fun _ => rfl⟩
      have hS' : iS (mRef (zsI (pH (zsI (zsI (zsI (cpH h nS) 0 0 11 (nI Y + 1)) 0 0 13 0) 1 0 0 0) nS) 1 0 6 (nI Y + 1)) 0) nS := by
        have t28 : ∀ k, 28 ≤ k → k ≤ 31 → zI (mRef (zsI (pH (zsI (zsI (zsI (cpH h nS) 0 0 11 (nI Y + 1)) 0 0 13 0) 1 0 0 0) nS) 1 0 6 (nI Y + 1)) 0) k = zI (pH (zsI (zsI (zsI (cpH h nS) 0 0 11 (nI Y + 1)) 0 0 13 0) 1 0 0 0) nS) k := fun k h1 h2 => (zI_ss _ 1 0 2 _ (by omega)).trans ((zI_ss _ 1 0 1 _ (by omega)).trans (zI_ss _ 1 0 6 _ (by omega)))
        have t61 : zI (mRef (zsI (pH (zsI (zsI (zsI (cpH h nS) 0 0 11 (nI Y + 1)) 0 0 13 0) 1 0 0 0) nS) 1 0 6 (nI Y + 1)) 0) 61 = zI (cpH h nS) 61 := by
          refine Eq.trans ((zI_ss _ 1 0 2 _ (by decide)).trans ((zI_ss _ 1 0 1 _ (by decide)).trans (zI_ss _ 1 0 6 _ (by decide)))) ?_
          rw [f1 61 (by omega)]
          rfl
        have tL61 : zL (mRef (zsI (pH (zsI (zsI (zsI (cpH h nS) 0 0 11 (nI Y + 1)) 0 0 13 0) 1 0 0 0) nS) 1 0 6 (nI Y + 1)) 0) 61 = zL (cpH h nS) 61 := by
          show zL (pH (zsI (zsI (zsI (cpH h nS) 0 0 11 (nI Y + 1)) 0 0 13 0) 1 0 0 0) nS) 61 = _
          rw [f2 61 (by decide)]
          rfl
        have m28 : ∀ k, 28 ≤ k → k ≤ 31 → zI (zsI (zsI (zsI (cpH h nS) 0 0 11 (nI Y + 1)) 0 0 13 0) 1 0 0 0) k = zI h k := fun k h1 h2 => (zI_ss _ 1 0 0 _ (by omega)).trans ((zI_ss _ 0 0 13 _ (by omega)).trans ((zI_ss _ 0 0 11 _ (by omega)).trans (g1 k (by omega)).1))
        have m33 : zL (zsI (zsI (zsI (cpH h nS) 0 0 11 (nI Y + 1)) 0 0 13 0) 1 0 0 0) 33 = zL h 33 := (g1 33 (by decide)).2
        refine ⟨fun s hs => ?_, fun s hs => ?_⟩
        · obtain ⟨a, b, c, a1, a2, a3, c0, c1, c2, c3, c4⟩ := hS.1 s hs
          obtain ⟨u0, u1, u2, u4, u5⟩ := (cpH_s h nS s).1 hs
          obtain ⟨v0, v1, v2, v3, v5⟩ := (pH_s (zsI (zsI (zsI (cpH h nS) 0 0 11 (nI Y + 1)) 0 0 13 0) 1 0 0 0) nS s).1 hs
          have hal := mAlb_all e s hs
          rcases c4 with ⟨d1, d2⟩ | ⟨d1, d, d2, d3, d4⟩
          · exact absurd ((hU s hs).mpr d2) hal
          · refine ⟨d, 0, 0, d2, by omega, by omega, ⟨?_, ?_⟩, ⟨?_, ?_⟩, ⟨?_, ?_⟩, ?_, Or.inl ⟨?_, ?_⟩⟩
            · rw [t61, u0]; exact d3
            · rw [t28 28 (by omega) (by omega), v0, m28 31 (by omega) (by omega)]; exact d4
            · rw [t61, u1]; rfl
            · rw [t28 29 (by omega) (by omega), v1]; rfl
            · rw [t61, u2]; rfl
            · rw [t28 30 (by omega) (by omega), v2]; rfl
            · rw [tL61, u5]
              show _ = zL (pH (zsI (zsI (zsI (cpH h nS) 0 0 11 (nI Y + 1)) 0 0 13 0) 1 0 0 0) nS) 33 0 s
              rw [v5, m28 28 (by omega) (by omega), m28 29 (by omega) (by omega), m28 30 (by omega) (by omega), m28 31 (by omega) (by omega), m33, c3]
              unfold sMis
              rw [c0.1, c0.2, c1.1, c1.2, c2.1, c2.2, d3, d4]
            · rw [t61, u4]
            · rw [t28 31 (by omega) (by omega), v3]
        · obtain ⟨x1, x2, x3⟩ := hS.2 s hs
          obtain ⟨v0, v1, v2, v3, v5⟩ := (pH_s (zsI (zsI (zsI (cpH h nS) 0 0 11 (nI Y + 1)) 0 0 13 0) 1 0 0 0) nS s).2 hs
          refine ⟨?_, ?_, ?_⟩
          · rw [t28 29 (by omega) (by omega), v1, m28 29 (by omega) (by omega)]; exact x1
          · rw [t28 30 (by omega) (by omega), v2, m28 30 (by omega) (by omega)]; exact x2
          · show zL (pH (zsI (zsI (zsI (cpH h nS) 0 0 11 (nI Y + 1)) 0 0 13 0) 1 0 0 0) nS) 33 0 s = 0
            rw [v5, m33]; exact x3
      have R : ∀ k, k ≠ 0 → k ≠ 1 → k ≠ 61 → (k < 28 ∨ 31 < k) → zI (mRef (zsI (pH (zsI (zsI (zsI (cpH h nS) 0 0 11 (nI Y + 1)) 0 0 13 0) 1 0 0 0) nS) 1 0 6 (nI Y + 1)) 0) k = zI h k := r0
      exact ⟨nP, nB, nE, nS, Y + 1, N, nT, pg, hK.c hg2, hN1', hN2.c (r00 12 (by decide) (by decide)) (r1 7 (by decide) (by decide) (by decide) (by decide)), hN3', hP.c (fun p j hj => by rw [R 58 (by decide) (by decide) (by decide) (by decide)]) (R 10 (by decide) (by decide) (by decide) (by decide)) (R 11 (by decide) (by decide) (by decide) (by decide)), hB.c (R 59 (by decide) (by decide) (by decide) (by decide)) (R 12 (by decide) (by decide) (by decide) (by decide)) (R 13 (by decide) (by decide) (by decide) (by decide)) (R 14 (by decide) (by decide) (by decide) (by decide)) (R 15 (by decide) (by decide) (by decide) (by decide)), hE.c (by unfold zN; rw [hg2]) (R 75 (by decide) (by decide) (by decide) (by decide)) (R 60 (by decide) (by decide) (by decide) (by decide)) (R 17 (by decide) (by decide) (by decide) (by decide)) (R 35 (by decide) (by decide) (by decide) (by decide)) (R 37 (by decide) (by decide) (by decide) (by decide)) (R 38 (by decide) (by decide) (by decide) (by decide)) (R 39 (by decide) (by decide) (by decide) (by decide)) (R 40 (by decide) (by decide) (by decide) (by decide)), hM.c (R 58 (by decide) (by decide) (by decide) (by decide)) (R 60 (by decide) (by decide) (by decide) (by decide)) (R 76 (by decide) (by decide) (by decide) (by decide)) (R 77 (by decide) (by decide) (by decide) (by decide)), hS', hT.c (R 53 (by decide) (by decide) (by decide) (by decide)) (r1 19 (by decide) (by decide) (by decide) (by decide)) (R 79 (by decide) (by decide) (by decide) (by decide)) (R 19 (by decide) (by decide) (by decide) (by decide)), hW.c (R 57 (by decide) (by decide) (by decide) (by decide)) (r1 39 (by decide) (by decide) (by decide) (by decide)) (R 83 (by decide) (by decide) (by decide) (by decide)) (R 27 (by decide) (by decide) (by decide) (by decide))⟩
