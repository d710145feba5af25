-- new provinces, borders, stores: the wiring; pairs, by program (wip/gen/p93.py)
def hPr (h : zH) (nP : Nat) (a b : Int32) : zH := zsR (pNew (znew h 58 0 5) (zC h 58) a b) 50 0 nP (some (58, zC h 58))
theorem Wc.pr {h : zH} (x : Wc h) (a b : Int32) {nP : Nat} (hk : zC h 58 = nP) : Wc (hPr h nP a b) := by
  obtain ⟨-, -, ⟨n76, n77, hp⟩, xb, xs, xe⟩ := id x
  have w0 : Wc0 (hPr h nP a b) := (((((x.o.nw 58 0 5 (by decide) (by decide)).nw 76 100 100 (by decide) (by decide)).sR 58 (zC h 58) 2 _ (by decide)).nw 77 100 100 (by decide) (by decide)).sR 58 (zC h 58) 3 _ (by decide)).sR 50 0 nP _ (by decide)
  refine ⟨w0.1, w0.2, ⟨?_, ?_, fun i hi => ?_⟩, xb, xs, xe⟩
  · show zC h 76 + 1 = zC h 58 + 1
    rw [n76]
  · show zC h 77 + 1 = zC h 58 + 1
    rw [n77]
  · replace hi : i < zC h 58 + 1 := hi
    by_cases e : i = zC h 58
    · subst e
      refine ⟨if_pos ⟨rfl, rfl, hk⟩, ?_, ?_, ?_, ?_⟩
      · refine Eq.trans (if_neg (fun z => absurd z.2.2 (by decide : ¬ 2 = 3))) ?_
        refine Eq.trans (if_pos ⟨rfl, rfl, rfl⟩) ?_
        show some (76, zC h 76) = _
        rw [n76]
      · refine Eq.trans (if_pos ⟨rfl, rfl, rfl⟩) ?_
        show some (77, zC h 77) = _
        rw [n77]
      · exact if_pos ⟨rfl, n76.symm⟩
      · exact if_pos ⟨rfl, n77.symm⟩
    · obtain ⟨q1, q2, q3, q4, q5⟩ := hp i (by omega)
      refine ⟨Eq.trans (if_neg (fun z => e (z.2.2.trans hk.symm))) q1, ?_, ?_, ?_, ?_⟩
      · refine Eq.trans (if_neg (fun z => e z.2.1)) ?_
        refine Eq.trans (if_neg (fun z => e z.2.1)) ?_
        exact Eq.trans (if_neg (fun z => e z.2)) q2
      · refine Eq.trans (if_neg (fun z => e z.2.1)) ?_
        refine Eq.trans (if_neg (fun z => e z.2.1)) ?_
        exact Eq.trans (if_neg (fun z => e z.2)) q3
      · exact Eq.trans (if_neg (fun z => e (z.2.trans n76))) q4
      · exact Eq.trans (if_neg (fun z => e (z.2.trans n77))) q5
def hBo (h : zH) (nB : Nat) (a b r : Int32) : zH := zsR (bNew (znew h 59 0 4) (zC h 59) a b r) 51 0 nB (some (59, zC h 59))
theorem Wc.bo {h : zH} (x : Wc h) (a b r : Int32) {nB : Nat} (hk : zC h 59 = nB) : Wc (hBo h nB a b r) := by
  obtain ⟨-, -, xp, xb, xs, xe⟩ := id x
  have w0 : Wc0 (hBo h nB a b r) := (x.o.nw 59 0 4 (by decide) (by decide)).sR 51 0 nB _ (by decide)
  refine ⟨w0.1, w0.2, xp, fun i hi => ?_, xs, xe⟩
  replace hi : i < zC h 59 + 1 := hi
  by_cases e : i = zC h 59
  · subst e
    exact if_pos ⟨rfl, rfl, hk⟩
  · exact Eq.trans (if_neg (fun z => e (z.2.2.trans hk.symm))) (xb i (by omega))
def hSt (h : zH) (nS : Nat) (a : Int32) : zH := zsR (sNew (znew h 61 0 6) (zC h 61) a) 52 0 nS (some (61, zC h 61))
theorem Wc.st {h : zH} (x : Wc h) (a : Int32) {nS : Nat} (hk : zC h 61 = nS) : Wc (hSt h nS a) := by
  obtain ⟨-, -, xp, xb, xs, xe⟩ := id x
  have w0 : Wc0 (hSt h nS a) := (x.o.nw 61 0 6 (by decide) (by decide)).sR 52 0 nS _ (by decide)
  refine ⟨w0.1, w0.2, xp, xb, fun i hi => ?_, xe⟩
  replace hi : i < zC h 61 + 1 := hi
  by_cases e : i = zC h 61
  · subst e
    exact if_pos ⟨rfl, rfl, hk⟩
  · exact Eq.trans (if_neg (fun z => e (z.2.2.trans hk.symm))) (xs i (by omega))
/-- the fields of a new province -/
theorem hPr_new (h : zH) (nP : Nat) (a b : Int32) : zI (hPr h nP a b) 58 (zC h 58) 0 = a ∧ zI (hPr h nP a b) 58 (zC h 58) 1 = b ∧ zI (hPr h nP a b) 58 (zC h 58) 4 = 0 := by
  refine ⟨?_, ?_, ?_⟩
  · exact Eq.trans (if_neg (fun z => absurd z.2.2 (by decide : ¬ 0 = 1))) (if_pos ⟨rfl, rfl, rfl⟩)
  · exact if_pos ⟨rfl, rfl, rfl⟩
  · exact Eq.trans (if_neg (fun z => absurd z.2.2 (by decide : ¬ 4 = 1))) (Eq.trans (if_neg (fun z => absurd z.2.2 (by decide : ¬ 4 = 0))) (if_pos ⟨rfl, rfl, rfl⟩))
theorem hPr_old (h : zH) (nP : Nat) (a b : Int32) {i : Nat} (e : i ≠ zC h 58) (j : Nat) : zI (hPr h nP a b) 58 i j = zI h 58 i j := by
  refine Eq.trans (if_neg (fun z => e z.2.1)) ?_
  refine Eq.trans (if_neg (fun z => e z.2.1)) ?_
  refine Eq.trans (if_neg (fun z => e z.2.1)) ?_
  exact if_neg (fun z => e z.2)
theorem hPr_76 (h : zH) (nP : Nat) (a b : Int32) {i : Nat} (e : i ≠ zC h 76) (j : Nat) : zI (hPr h nP a b) 76 i j = zI h 76 i j := if_neg (fun z => e z.2)
theorem hPr_77 (h : zH) (nP : Nat) (a b : Int32) {i : Nat} (e : i ≠ zC h 77) (j : Nat) : zI (hPr h nP a b) 77 i j = zI h 77 i j := if_neg (fun z => e z.2)
theorem iP.pr {h : zH} {nP : Nat} (x : iP h nP) (hk : zC h 58 = nP) {a b : Nat} (ha : a ≤ 100000) (hb : b ≤ 50) : iP (zsI (zsI (hPr h nP (nI a) (nI b)) 10 0 nP (nI a)) 11 0 nP (nI b)) (nP + 1) := by
  intro p hp
  by_cases e : p = nP
  · subst e
    have hn := hPr_new h p (nI a) (nI b)
    rw [hk] at hn
    exact ⟨a, b, ha, hb, hn.1, zI_same (hPr h p (nI a) (nI b)) 10 0 p _, hn.2.1, zI_same (zsI (hPr h p (nI a) (nI b)) 10 0 p (nI a)) 11 0 p _⟩
  · obtain ⟨m, k, m1, m2, m3, m4, m5, m6⟩ := x p (by omega)
    have ho := fun j => hPr_old h nP (nI a) (nI b) (i := p) (by omega) j
    exact ⟨m, k, m1, m2, (ho 0).trans m3, (zI_oth (hPr h nP (nI a) (nI b)) 10 0 nP _ e).trans m4, (ho 1).trans m5, (zI_oth (zsI (hPr h nP (nI a) (nI b)) 10 0 nP (nI a)) 11 0 nP _ e).trans m6⟩
theorem iM.pr {h : zH} {nP nE : Nat} {pg : Nat → List (Bool × List (Nat × Int32))} (x : iM h nP nE pg) (hk : zC h 58 = nP) (hW : Wc h) (a b : Int32) : iM (hPr h nP a b) (nP + 1) nE pg := by
  obtain ⟨n76, n77, -⟩ := hW.2.2.1
  intro p hp
  by_cases e : p = nP
  · subst e
    have hn := hPr_new h p a b
    rw [hk] at hn
    exact ⟨0, by omega, hn.2.2, fun y hy => by omega⟩
  · obtain ⟨k, k1, k2, k3⟩ := x p (by omega)
    refine ⟨k, k1, (hPr_old h nP a b (i := p) (by omega) 4).trans k2, fun y hy => ?_⟩
    rw [hPr_76 h nP a b (by omega), hPr_77 h nP a b (by omega)]
    have k4 := k3 y hy
    show zI h 76 p y = prV (pfC (cP h) (cY h) nE pg p) false (zI (hPr h nP a b) 58 p 0) (zI (hPr h nP a b) 58 p 1) y ∧ zI h 77 p y = prV (pfC (cP h) (cY h) nE pg p) true (zI (hPr h nP a b) 58 p 0) (zI (hPr h nP a b) 58 p 1) y
    rw [hPr_old h nP a b (i := p) (by omega) 0, hPr_old h nP a b (i := p) (by omega) 1]
    exact k4
theorem zR_ss (h : zH) (k i j : Nat) (v : Option (Nat × Nat)) {k' : Nat} (e : k' ≠ k) : zR (zsR h k i j v) k' = zR h k' := funext (fun a => funext (fun b => if_neg (fun z => e z.1)))
/-- the model's objects are as they were -/
def SmM (h h' : zH) : Prop := ∀ k, k < 50 → k ≠ 0 → zR h' k = zR h k ∧ zN h' k = zN h k ∧ zC h' k = zC h k
theorem SmM.rf (h : zH) : SmM h h := fun _ _ _ => ⟨rfl, rfl, rfl⟩
theorem SmM.nw {a b : zH} (x : SmM a b) (k n w : Nat) (hk : 50 ≤ k) : SmM a (znew b k n w) := fun k' h1 h2 => ⟨(zR_nw b k n w (by omega)).trans (x k' h1 h2).1, (zN_nw b k n w (by omega)).trans (x k' h1 h2).2.1, (zC_nw b k n w (by omega)).trans (x k' h1 h2).2.2⟩
theorem SmM.sR {a b : zH} (x : SmM a b) (k i j : Nat) (v : Option (Nat × Nat)) (hk : 50 ≤ k) : SmM a (zsR b k i j v) := fun k' h1 h2 => ⟨(zR_ss b k i j v (by omega)).trans (x k' h1 h2).1, (x k' h1 h2).2.1, (x k' h1 h2).2.2⟩
theorem wmR_lt : ∀ q ∈ wmR, q.1.1 < 50 ∧ q.1.1 ≠ 0 := by decide
theorem wmN_lt : ∀ q ∈ wmN, q.1 < 50 ∧ q.1 ≠ 0 := by decide
theorem SmM.wm {a b : zH} (x : SmM a b) (hW : Wm a) : Wm b := by
  obtain ⟨w1, w2, w3, w4, w5⟩ := hW
  refine ⟨fun q hq => ?_, fun q hq => ?_, ?_, ?_, ?_⟩
  · rw [(x _ (wmR_lt q hq).1 (wmR_lt q hq).2).1]; exact w1 q hq
  · rw [(x _ (wmN_lt q hq).1 (wmN_lt q hq).2).2.1]; exact w2 q hq
  · rw [(x 17 (by omega) (by omega)).2.2, (x 1 (by omega) (by omega)).1, (x 16 (by omega) (by omega)).1]; exact w3
  · rw [(x 17 (by omega) (by omega)).2.2, (x 35 (by omega) (by omega)).2.2, (x 36 (by omega) (by omega)).2.2, (x 37 (by omega) (by omega)).2.2, (x 38 (by omega) (by omega)).2.2, (x 39 (by omega) (by omega)).2.2, (x 40 (by omega) (by omega)).2.2]; exact w4
  · rw [(x 17 (by omega) (by omega)).2.2, (x 17 (by omega) (by omega)).1, (x 35 (by omega) (by omega)).2.1, (x 36 (by omega) (by omega)).2.1, (x 37 (by omega) (by omega)).2.1, (x 38 (by omega) (by omega)).2.1, (x 39 (by omega) (by omega)).2.1, (x 40 (by omega) (by omega)).2.1]; exact w5
theorem Wm.pr {h : zH} (x : Wm h) (nP : Nat) (a b : Int32) : Wm (hPr h nP a b) := (((((((SmM.rf h).nw 58 0 5 (by omega)).nw 76 100 100 (by omega)).sR 58 (zC h 58) 2 _ (by omega)).nw 77 100 100 (by omega)).sR 58 (zC h 58) 3 _ (by omega)).sR 50 0 nP _ (by omega)).wm x
theorem Wm.bo {h : zH} (x : Wm h) (nB : Nat) (a b r : Int32) : Wm (hBo h nB a b r) := (((SmM.rf h).nw 59 0 4 (by omega)).sR 51 0 nB _ (by omega)).wm x
theorem Wm.sto {h : zH} (x : Wm h) (nS : Nat) (a : Int32) : Wm (hSt h nS a) := (((SmM.rf h).nw 61 0 6 (by omega)).sR 52 0 nS _ (by omega)).wm x
theorem pr_province (l : Launch) (h : zH) (hI : Inv h) (a b : Int32) : Pr l 3 2 mX11_province mX14_province [Vi a, Vi b] h := by
  obtain ⟨nP, nB, nE, nS, Y, N, nT, pg, hK, hN1, hN2, hN3, hP, hB, hE, hM, hS, hT, hW⟩ := hI
  obtain ⟨kC, kM, k58, k59, k60, k61, k17, kz, ks⟩ := id hK
  obtain ⟨⟨p0, p1, p2⟩, ⟨b0, b1, b2⟩, ⟨s0, s1x, s2⟩, ⟨y0, y1, y2⟩, ⟨e0, e1, e2x⟩⟩ := id hN1
  by_cases e : (0 ≤ a ∧ a ≤ 100000) ∧ (0 ≤ b ∧ b ≤ 50)
  · by_cases e2 : nP = 10
    · refine Pr.x (qX11_province l h kC a b nP p0 p2 k58) (qX14_province l _ ?_ a b nP ?_ p2) ?_ ?_ ?_ ?_ <;> unfold cProvince <;> (try unfold mProvince) <;> (try rw [if_pos e, if_pos e2]) <;> (try rw [if_pos e, if_pos e2])
      · exact kM
      · exact p1
      · exact ⟨nP, nB, nE, nS, Y, N, nT, pg, hK, hN1, hN2, ⟨rfl, hN3.2.1, fun z => absurd (show (3 : Int32) = 4 from z) (by decide), fun _ => rfl⟩, hP, hB, hE, hM, hS, hT, hW⟩
      · exact ⟨rfl, rfl⟩
      · exact ⟨rfl, rfl⟩
    · obtain ⟨a0, a1, a2⟩ := toN (n := 100000) (by omega) e.1
      obtain ⟨c0, c1, c2⟩ := toN (n := 50) (by omega) e.2
      have hx := hP.pr k58 a1 c1
      rw [← a2, ← c2] at hx
      have hwc := kC.pr a b k58
      have hwm := kM.pr nP a b
      refine Pr.x (qX11_province l h kC a b nP p0 p2 k58) (qX14_province l _ ?_ a b nP ?_ p2) ?_ ?_ ?_ ?_ <;> unfold cProvince <;> (try unfold mProvince) <;> (try rw [if_pos e, if_neg e2]) <;> (try rw [if_pos e, if_neg e2])
      · exact hwm
      · exact p1
      · exact ⟨nP + 1, nB, nE, nS, Y, N, nT, pg, ⟨hwc, hwm, congrArg (· + 1) k58, k59, k60, k61, k17, by show zc h + 1 + 1 + 1 ≤ _; omega, by show zs h + 5 + 100 + 100 ≤ _; omega⟩, ⟨⟨rfl, rfl, by omega⟩, ⟨b0, b1, b2⟩, ⟨s0, s1x, s2⟩, ⟨y0, y1, y2⟩, ⟨e0, e1, e2x⟩⟩, hN2, ⟨rfl, hN3.2.1, fun z => absurd (show (0 : Int32) = 4 from z) (by decide), fun _ => rfl⟩, hx, ⟨fun k hk => by obtain ⟨u, v, r, g, u1, u2, u3⟩ := hB.1 k hk; exact ⟨u, v, r, g, by omega, by omega, u3⟩, hB.2⟩, hE, hM.pr k58 kC a b, hS, hT, hW⟩
      · exact ⟨rfl, rfl⟩
      · exact ⟨rfl, rfl⟩
  · skip
    refine Pr.x (qX11_province l h kC a b nP p0 p2 k58) (qX14_province l _ ?_ a b nP ?_ p2) ?_ ?_ ?_ ?_ <;> unfold cProvince <;> (try unfold mProvince) <;> (try rw [if_neg e]) <;> (try rw [if_neg e])
    · exact kM
    · exact p1
    · exact ⟨nP, nB, nE, nS, Y, N, nT, pg, hK, hN1, hN2, ⟨rfl, hN3.2.1, fun z => absurd (show (2 : Int32) = 4 from z) (by decide), fun _ => rfl⟩, hP, hB, hE, hM, hS, hT, hW⟩
    · exact ⟨rfl, rfl⟩
    · exact ⟨rfl, rfl⟩

theorem hBo_new (h : zH) (nB : Nat) (a b r : Int32) : zI (hBo h nB a b r) 59 (zC h 59) 0 = a ∧ zI (hBo h nB a b r) 59 (zC h 59) 1 = b ∧ zI (hBo h nB a b r) 59 (zC h 59) 2 = r ∧ zI (hBo h nB a b r) 59 (zC h 59) 3 = 0 := by
  refine ⟨?_, ?_, ?_, ?_⟩
  · exact Eq.trans (if_neg (fun z => absurd z.2.2 (by decide : ¬ 0 = 2))) (Eq.trans (if_neg (fun z => absurd z.2.2 (by decide : ¬ 0 = 1))) (if_pos ⟨rfl, rfl, rfl⟩))
  · exact Eq.trans (if_neg (fun z => absurd z.2.2 (by decide : ¬ 1 = 2))) (if_pos ⟨rfl, rfl, rfl⟩)
  · exact if_pos ⟨rfl, rfl, rfl⟩
  · exact Eq.trans (if_neg (fun z => absurd z.2.2 (by decide : ¬ 3 = 2))) (Eq.trans (if_neg (fun z => absurd z.2.2 (by decide : ¬ 3 = 1))) (Eq.trans (if_neg (fun z => absurd z.2.2 (by decide : ¬ 3 = 0))) (if_pos ⟨rfl, rfl, rfl⟩)))
theorem hBo_old (h : zH) (nB : Nat) (a b r : Int32) {i : Nat} (e : i ≠ zC h 59) (j : Nat) : zI (hBo h nB a b r) 59 i j = zI h 59 i j := by
  refine Eq.trans (if_neg (fun z => e z.2.1)) ?_
  refine Eq.trans (if_neg (fun z => e z.2.1)) ?_
  refine Eq.trans (if_neg (fun z => e z.2.1)) ?_
  refine Eq.trans (if_neg (fun z => e z.2.1)) ?_
  exact if_neg (fun z => e z.2)
theorem iB.bo {h : zH} {nP nB : Nat} (x : iB h nP nB) (hk : zC h 59 = nB) {a b r : Nat} (h1 : a < nP) (h2 : b < nP) (h3 : a ≠ b) (h4 : 1 ≤ r) (h5 : r ≤ 500) : iB (zsI (zsI (zsI (hBo h nB (nI a) (nI b) (nI r)) 12 0 nB (nI a)) 13 0 nB (nI b)) 14 0 nB (nI r)) nP (nB + 1) := by
  refine ⟨fun k hk2 => ?_, fun k hk2 => x.2 k (by omega)⟩
  by_cases e : k = nB
  · subst e
    have hn := hBo_new h k (nI a) (nI b) (nI r)
    rw [hk] at hn
    exact ⟨a, b, r, 0, h1, h2, h3, h4, h5, by omega, ⟨hn.1, zI_same (hBo h k (nI a) (nI b) (nI r)) 12 0 k _⟩, ⟨hn.2.1, zI_same (zsI (hBo h k (nI a) (nI b) (nI r)) 12 0 k (nI a)) 13 0 k _⟩, ⟨hn.2.2.1, zI_same (zsI (zsI (hBo h k (nI a) (nI b) (nI r)) 12 0 k (nI a)) 13 0 k (nI b)) 14 0 k _⟩, hn.2.2.2, x.2 k (Nat.le_refl k)⟩
  · obtain ⟨a', b', r', g, a1, a2, a3, a4, a5, a6, c0, c1, c2, c3, c4⟩ := x.1 k (by omega)
    have ho := fun j => hBo_old h nB (nI a) (nI b) (nI r) (i := k) (by omega) j
    exact ⟨a', b', r', g, a1, a2, a3, a4, a5, a6, ⟨(ho 0).trans c0.1, (zI_oth (hBo h nB (nI a) (nI b) (nI r)) 12 0 nB _ e).trans c0.2⟩, ⟨(ho 1).trans c1.1, (zI_oth (zsI (hBo h nB (nI a) (nI b) (nI r)) 12 0 nB (nI a)) 13 0 nB _ e).trans c1.2⟩, ⟨(ho 2).trans c2.1, (zI_oth (zsI (zsI (hBo h nB (nI a) (nI b) (nI r)) 12 0 nB (nI a)) 13 0 nB (nI b)) 14 0 nB _ e).trans c2.2⟩, (ho 3).trans c3, c4⟩
theorem pr_border (l : Launch) (h : zH) (hI : Inv h) (a b r : Int32) : Pr l 3 2 mX11_border mX14_border [Vi a, Vi b, Vi r] h := by
  obtain ⟨nP, nB, nE, nS, Y, N, nT, pg, hK, hN1, hN2, hN3, hP, hB, hE, hM, hS, hT, hW⟩ := hI
  obtain ⟨kC, kM, k58, k59, k60, k61, k17, kz, ks⟩ := id hK
  obtain ⟨⟨p0, p1, p2⟩, ⟨b0, b1, b2⟩, ⟨s0, s1x, s2⟩, ⟨y0, y1, y2⟩, ⟨e0, e1, e2x⟩⟩ := id hN1
  by_cases e : (0 ≤ a ∧ a < nI nP) ∧ (0 ≤ b ∧ b < nI nP) ∧ ¬ a = b
  · by_cases e2 : 1 ≤ r ∧ r ≤ 500
    · by_cases e3 : nB = 16
      · skip
        refine Pr.x (qX11_border l h kC a b r nP p0 p2 k58 nB b0 b2 k59) (qX14_border l _ ?_ a b r nP ?_ p2 nB ?_ b2) ?_ ?_ ?_ ?_ <;> unfold cBorder <;> (try unfold mBorder) <;> (try rw [if_pos e, if_pos e2, if_pos e3]) <;> (try rw [if_pos e, if_pos e2, if_pos e3])
        · exact kM
        · exact p1
        · exact b1
        · exact ⟨nP, nB, nE, nS, Y, N, nT, pg, hK, hN1, hN2, ⟨rfl, hN3.2.1, fun z => absurd (show (3 : Int32) = 4 from z) (by decide), fun _ => rfl⟩, hP, hB, hE, hM, hS, hT, hW⟩
        · exact ⟨rfl, rfl⟩
        · exact ⟨rfl, rfl⟩
      · obtain ⟨a0, a1, a2⟩ := ixN (n := nP) (by omega) e.1
        obtain ⟨c0, c1, c2⟩ := ixN (n := nP) (by omega) e.2.1
        obtain ⟨r0, r1, r2⟩ := toN (x := r) (n := 500) (by omega) ⟨by
          have h1 := Int32.le_iff_toInt_le.mp e2.1
          rw [Int32.le_iff_toInt_le]
          rw [show (1 : Int32).toInt = 1 by decide] at h1
          rw [show (0 : Int32).toInt = 0 by decide]
          omega, e2.2⟩
        have hr1 : 1 ≤ r0 := by
          have h1 := e2.1
          rw [r2] at h1
          exact (nI_leI (a := 1) (by omega) (by omega)).mp h1
        have hx := hB.bo k59 a1 c1 (fun z => e.2.2 (by rw [a2, c2, z])) hr1 r1
        rw [← a2, ← c2, ← r2] at hx
        have hwc := kC.bo a b r k59
        have hwm := kM.bo nB a b r
        refine Pr.x (qX11_border l h kC a b r nP p0 p2 k58 nB b0 b2 k59) (qX14_border l _ ?_ a b r nP ?_ p2 nB ?_ b2) ?_ ?_ ?_ ?_ <;> unfold cBorder <;> (try unfold mBorder) <;> (try rw [if_pos e, if_pos e2, if_neg e3]) <;> (try rw [if_pos e, if_pos e2, if_neg e3])
        · exact hwm
        · exact p1
        · exact b1
        · exact ⟨nP, nB + 1, nE, nS, Y, N, nT, pg, ⟨hwc, hwm, k58, congrArg (· + 1) k59, k60, k61, k17, by show zc h + 1 ≤ _; omega, by show zs h + 4 ≤ _; omega⟩, ⟨⟨p0, p1, p2⟩, ⟨rfl, rfl, by omega⟩, ⟨s0, s1x, s2⟩, ⟨y0, y1, y2⟩, ⟨e0, e1, e2x⟩⟩, hN2, ⟨rfl, hN3.2.1, fun z => absurd (show (0 : Int32) = 4 from z) (by decide), fun _ => rfl⟩, hP, hx, hE, hM, hS, hT, hW⟩
        · exact ⟨rfl, rfl⟩
        · exact ⟨rfl, rfl⟩
    · skip
      refine Pr.x (qX11_border l h kC a b r nP p0 p2 k58 nB b0 b2 k59) (qX14_border l _ ?_ a b r nP ?_ p2 nB ?_ b2) ?_ ?_ ?_ ?_ <;> unfold cBorder <;> (try unfold mBorder) <;> (try rw [if_pos e, if_neg e2]) <;> (try rw [if_pos e, if_neg e2])
      · exact kM
      · exact p1
      · exact b1
      · exact ⟨nP, nB, nE, nS, Y, N, nT, pg, hK, hN1, hN2, ⟨rfl, hN3.2.1, fun z => absurd (show (2 : Int32) = 4 from z) (by decide), fun _ => rfl⟩, hP, hB, hE, hM, hS, hT, hW⟩
      · exact ⟨rfl, rfl⟩
      · exact ⟨rfl, rfl⟩
  · skip
    refine Pr.x (qX11_border l h kC a b r nP p0 p2 k58 nB b0 b2 k59) (qX14_border l _ ?_ a b r nP ?_ p2 nB ?_ b2) ?_ ?_ ?_ ?_ <;> unfold cBorder <;> (try unfold mBorder) <;> (try rw [if_neg e]) <;> (try rw [if_neg e])
    · exact kM
    · exact p1
    · exact b1
    · exact ⟨nP, nB, nE, nS, Y, N, nT, pg, hK, hN1, hN2, ⟨rfl, hN3.2.1, fun z => absurd (show (1 : Int32) = 4 from z) (by decide), fun _ => rfl⟩, hP, hB, hE, hM, hS, hT, hW⟩
    · exact ⟨rfl, rfl⟩
    · exact ⟨rfl, rfl⟩

theorem hSt_new (h : zH) (nS : Nat) (a : Int32) : zI (hSt h nS a) 61 (zC h 61) 0 = a ∧ zI (hSt h nS a) 61 (zC h 61) 1 = 0 ∧ zI (hSt h nS a) 61 (zC h 61) 2 = 0 ∧ zI (hSt h nS a) 61 (zC h 61) 4 = 0 ∧ zL (hSt h nS a) 61 (zC h 61) 5 = 0 := by
  refine ⟨if_pos ⟨rfl, rfl, rfl⟩, ?_, ?_, ?_, if_pos ⟨rfl, rfl, rfl⟩⟩
  · exact Eq.trans (if_neg (fun z => absurd z.2.2 (by decide : ¬ 1 = 0))) (Eq.trans (if_neg (fun z => absurd z.2.2 (by decide : ¬ 1 = 4))) (Eq.trans (if_neg (fun z => absurd z.2.2 (by decide : ¬ 1 = 3))) (Eq.trans (if_neg (fun z => absurd z.2.2 (by decide : ¬ 1 = 2))) (if_pos ⟨rfl, rfl, rfl⟩))))
  · exact Eq.trans (if_neg (fun z => absurd z.2.2 (by decide : ¬ 2 = 0))) (Eq.trans (if_neg (fun z => absurd z.2.2 (by decide : ¬ 2 = 4))) (Eq.trans (if_neg (fun z => absurd z.2.2 (by decide : ¬ 2 = 3))) (if_pos ⟨rfl, rfl, rfl⟩)))
  · exact Eq.trans (if_neg (fun z => absurd z.2.2 (by decide : ¬ 4 = 0))) (if_pos ⟨rfl, rfl, rfl⟩)
theorem hSt_old (h : zH) (nS : Nat) (a : Int32) {i : Nat} (e : i ≠ zC h 61) (j : Nat) : zI (hSt h nS a) 61 i j = zI h 61 i j ∧ zL (hSt h nS a) 61 i j = zL h 61 i j := by
  constructor
  · refine Eq.trans (if_neg (fun z => e z.2.1)) ?_
    refine Eq.trans (if_neg (fun z => e z.2.1)) ?_
    refine Eq.trans (if_neg (fun z => e z.2.1)) ?_
    refine Eq.trans (if_neg (fun z => e z.2.1)) ?_
    refine Eq.trans (if_neg (fun z => e z.2.1)) ?_
    exact if_neg (fun z => e z.2)
  · refine Eq.trans (if_neg (fun z => e z.2.1)) ?_
    exact if_neg (fun z => e z.2)
theorem iS.st {h : zH} {nS : Nat} (x : iS h nS) (hk : zC h 61 = nS) {a : Nat} (h1 : a ≤ 1000000) : iS (zsI (zsI (hSt h nS (nI a)) 28 0 nS (nI a)) 31 0 nS (-1)) (nS + 1) := by
  refine ⟨fun s hs => ?_, fun s hs => x.2 s (by omega)⟩
  by_cases e : s = nS
  · subst e
    have hn := hSt_new h s (nI a)
    rw [hk] at hn
    obtain ⟨x1, x2, x3⟩ := x.2 s (Nat.le_refl s)
    exact ⟨a, 0, 0, by omega, by omega, by omega, ⟨hn.1, zI_same (hSt h s (nI a)) 28 0 s _⟩, ⟨hn.2.1, x1⟩, ⟨hn.2.2.1, x2⟩, hn.2.2.2.2.trans x3.symm, Or.inl ⟨hn.2.2.2.1, zI_same (zsI (hSt h s (nI a)) 28 0 s (nI a)) 31 0 s _⟩⟩
  · obtain ⟨a', b', c', a1, a2, a3, c0, c1, c2, c3, c4⟩ := x.1 s (by omega)
    have ho := fun j => (hSt_old h nS (nI a) (i := s) (by omega) j).1
    have hL := (hSt_old h nS (nI a) (i := s) (by omega) 5).2
    have e28 : zI (zsI (zsI (hSt h nS (nI a)) 28 0 nS (nI a)) 31 0 nS (-1)) 28 0 s = zI h 28 0 s := zI_oth (hSt h nS (nI a)) 28 0 nS _ e
    have e31 : zI (zsI (zsI (hSt h nS (nI a)) 28 0 nS (nI a)) 31 0 nS (-1)) 31 0 s = zI h 31 0 s := zI_oth (zsI (hSt h nS (nI a)) 28 0 nS (nI a)) 31 0 nS _ e
    refine ⟨a', b', c', a1, a2, a3, ⟨(ho 0).trans c0.1, e28.trans c0.2⟩, ⟨(ho 1).trans c1.1, c1.2⟩, ⟨(ho 2).trans c2.1, c2.2⟩, hL.trans c3, ?_⟩
    rcases c4 with ⟨d1, d2⟩ | ⟨d1, d, d2, d3, d4⟩
    · exact Or.inl ⟨(ho 4).trans d1, e31.trans d2⟩
    · exact Or.inr ⟨(ho 4).trans d1, d, d2, (ho 3).trans d3, e31.trans d4⟩
theorem pr_store (l : Launch) (h : zH) (hI : Inv h) (p a : Int32) : Pr l 3 2 mX11_store mX14_store [Vi p, Vi a] h := by
  obtain ⟨nP, nB, nE, nS, Y, N, nT, pg, hK, hN1, hN2, hN3, hP, hB, hE, hM, hS, hT, hW⟩ := hI
  obtain ⟨kC, kM, k58, k59, k60, k61, k17, kz, ks⟩ := id hK
  obtain ⟨⟨p0, p1, p2⟩, ⟨b0, b1, b2⟩, ⟨s0, s1x, s2⟩, ⟨y0, y1, y2⟩, ⟨e0, e1, e2x⟩⟩ := id hN1
  by_cases e : 0 ≤ p ∧ p < nI nP
  · by_cases e2 : 0 ≤ a ∧ a ≤ 1000000
    · by_cases e3 : nS = 8
      · skip
        refine Pr.x (qX11_store l h kC p a nP p0 p2 k58 nS s0 s2 k61) (qX14_store l _ ?_ p a nP ?_ p2 nS ?_ s2) ?_ ?_ ?_ ?_ <;> unfold cStore <;> (try unfold mStore) <;> (try rw [if_pos e, if_pos e2, if_pos e3]) <;> (try rw [if_pos e, if_pos e2, if_pos e3])
        · exact kM
        · exact p1
        · exact s1x
        · exact ⟨nP, nB, nE, nS, Y, N, nT, pg, hK, hN1, hN2, ⟨rfl, hN3.2.1, fun z => absurd (show (3 : Int32) = 4 from z) (by decide), fun _ => rfl⟩, hP, hB, hE, hM, hS, hT, hW⟩
        · exact ⟨rfl, rfl⟩
        · exact ⟨rfl, rfl⟩
      · obtain ⟨a0, a1, a2⟩ := toN (n := 1000000) (by omega) e2
        have hx := hS.st k61 a1
        rw [← a2] at hx
        have hwc := kC.st a k61
        have hwm := kM.sto nS a
        refine Pr.x (qX11_store l h kC p a nP p0 p2 k58 nS s0 s2 k61) (qX14_store l _ ?_ p a nP ?_ p2 nS ?_ s2) ?_ ?_ ?_ ?_ <;> unfold cStore <;> (try unfold mStore) <;> (try rw [if_pos e, if_pos e2, if_neg e3]) <;> (try rw [if_pos e, if_pos e2, if_neg e3])
        · exact hwm
        · exact p1
        · exact s1x
        · exact ⟨nP, nB, nE, nS + 1, Y, N, nT, pg, ⟨hwc, hwm, k58, k59, k60, congrArg (· + 1) k61, k17, by show zc h + 1 ≤ _; omega, by show zs h + 6 ≤ _; omega⟩, ⟨⟨p0, p1, p2⟩, ⟨b0, b1, b2⟩, ⟨rfl, rfl, by omega⟩, ⟨y0, y1, y2⟩, ⟨e0, e1, e2x⟩⟩, hN2, ⟨rfl, hN3.2.1, fun z => absurd (show (0 : Int32) = 4 from z) (by decide), fun _ => rfl⟩, hP, hB, hE, hM, hx, hT, hW⟩
        · exact ⟨rfl, rfl⟩
        · exact ⟨rfl, rfl⟩
    · skip
      refine Pr.x (qX11_store l h kC p a nP p0 p2 k58 nS s0 s2 k61) (qX14_store l _ ?_ p a nP ?_ p2 nS ?_ s2) ?_ ?_ ?_ ?_ <;> unfold cStore <;> (try unfold mStore) <;> (try rw [if_pos e, if_neg e2]) <;> (try rw [if_pos e, if_neg e2])
      · exact kM
      · exact p1
      · exact s1x
      · exact ⟨nP, nB, nE, nS, Y, N, nT, pg, hK, hN1, hN2, ⟨rfl, hN3.2.1, fun z => absurd (show (2 : Int32) = 4 from z) (by decide), fun _ => rfl⟩, hP, hB, hE, hM, hS, hT, hW⟩
      · exact ⟨rfl, rfl⟩
      · exact ⟨rfl, rfl⟩
  · skip
    refine Pr.x (qX11_store l h kC p a nP p0 p2 k58 nS s0 s2 k61) (qX14_store l _ ?_ p a nP ?_ p2 nS ?_ s2) ?_ ?_ ?_ ?_ <;> unfold cStore <;> (try unfold mStore) <;> (try rw [if_neg e]) <;> (try rw [if_neg e])
    · exact kM
    · exact p1
    · exact s1x
    · exact ⟨nP, nB, nE, nS, Y, N, nT, pg, hK, hN1, hN2, ⟨rfl, hN3.2.1, fun z => absurd (show (1 : Int32) = 4 from z) (by decide), fun _ => rfl⟩, hP, hB, hE, hM, hS, hT, hW⟩
    · exact ⟨rfl, rfl⟩
    · exact ⟨rfl, rfl⟩

