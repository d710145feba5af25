-- pairs: the frame of the market calls, price, by program (wip/gen/p98.py)
/-- what no call on the market touches -/
def kpS (k : Nat) : Prop := 10 ≤ k ∧ k ≤ 15 ∨ k = 17 ∨ k = 19 ∨ 28 ≤ k ∧ k ≤ 31 ∨ k = 35 ∨ 37 ≤ k ∧ k ≤ 40 ∨ k = 53 ∨ k = 55 ∨ 59 ≤ k ∧ k ≤ 61 ∨ k = 75 ∨ k = 79
def KP (h h' : zH) : Prop := h'.2.2 = h.2.2 ∧ (∀ k, kpS k → zI h' k = zI h k) ∧ (∀ j, 8 ≤ j → j ≤ 12 → zI h' 0 0 j = zI h 0 0 j) ∧ (∀ j, 4 ≤ j → j ≠ 35 → j ≠ 39 → zI h' 1 0 j = zI h 1 0 j) ∧ (∀ p j, j ≤ 1 → zI h' 58 p j = zI h 58 p j) ∧ zL h' 61 = zL h 61 ∧ zL h' 33 = zL h 33
theorem KP.tr {a b c : zH} (x : KP a b) (y : KP b c) : KP a c := ⟨y.1.trans x.1, fun k h => (y.2.1 k h).trans (x.2.1 k h), fun j h1 h2 => (y.2.2.1 j h1 h2).trans (x.2.2.1 j h1 h2), fun j h1 h2 h3 => (y.2.2.2.1 j h1 h2 h3).trans (x.2.2.2.1 j h1 h2 h3), fun p j h => (y.2.2.2.2.1 p j h).trans (x.2.2.2.2.1 p j h), y.2.2.2.2.2.1.trans x.2.2.2.2.2.1, y.2.2.2.2.2.2.trans x.2.2.2.2.2.2⟩
theorem FrV.KP {a b : zH} (x : FrV a b) : KP a b := ⟨x.1, fun k h => by
  unfold kpS at h
  exact x.2.1 k (by omega) (by omega) (by omega) (by omega) (by omega) (by omega) (by omega) (by omega) (by omega) (by omega) (by omega) (by omega) (by omega), fun j _ _ => by rw [x.2.1 0 (by decide) (by decide) (by decide) (by decide) (by decide) (by decide) (by decide) (by decide) (by decide) (by decide) (by decide) (by decide) (by decide)], fun j _ _ _ => by rw [x.2.1 1 (by decide) (by decide) (by decide) (by decide) (by decide) (by decide) (by decide) (by decide) (by decide) (by decide) (by decide) (by decide) (by decide)], fun p j h => x.2.2.1 p j (by omega), x.2.2.2 61 (by decide) (by decide), x.2.2.2 33 (by decide) (by decide)⟩
theorem FrM.KP {a b : zH} (x : FrM a b) : KP a b := ⟨congrArg Prod.snd x.1, fun k h => by
  unfold kpS at h
  exact x.2.1 k (by omega) (by omega) (by omega) (by omega) (by omega) (by omega) (by omega), fun j _ _ => by rw [x.2.1 0 (by decide) (by decide) (by decide) (by decide) (by decide) (by decide) (by decide)], fun j h1 h2 h3 => x.2.2 0 j (by omega) h2, fun p j h => by rw [x.2.1 58 (by decide) (by decide) (by decide) (by decide) (by decide) (by decide) (by decide)], by unfold zL; rw [x.1], by unfold zL; rw [x.1]⟩
theorem FrV.s {a b : zH} (x : FrV a b) : Sc a b := ⟨by rw [x.2.1 999 (by decide) (by decide) (by decide) (by decide) (by decide) (by decide) (by decide) (by decide) (by decide) (by decide) (by decide) (by decide) (by decide)], by unfold zN; rw [x.1]⟩
theorem FrM.s {a b : zH} (x : FrM a b) : Sc a b := ⟨by rw [x.2.1 999 (by decide) (by decide) (by decide) (by decide) (by decide) (by decide) (by decide)], by unfold zN; rw [x.1]⟩
theorem kp_inv {h h' : zH} {nP nB nE nS Y N nT : Nat} {pg : Nat → List (Bool × List (Nat × Int32))} (hK : iK h nP nB nE nS) (hN1 : iN1 h nP nB nE nS Y) (hN2 : iN2 h) (hP : iP h nP) (hB : iB h nP nB) (hE : iE h nE pg) (hS : iS h nS) (hT : iT h N) (f : KP h h') (hM : MO h' nP (pfC (cP h) (cY h) nE pg) (fun p => zI h 58 p 0) (fun p => zI h 58 p 1)) (hN3 : iN3 h') (hW : iW h' nT) : Inv h' := by
  obtain ⟨f1, f2, f3, f4, f5, f6, f7⟩ := f
  have s : ∀ k, kpS k → zI h' k = zI h k := f2
  have g : ∀ k, (10 ≤ k ∧ k ≤ 15 ∨ k = 17 ∨ k = 19 ∨ 28 ≤ k ∧ k ≤ 31 ∨ k = 35 ∨ 37 ≤ k ∧ k ≤ 40 ∨ k = 53 ∨ k = 55 ∨ 59 ≤ k ∧ k ≤ 61 ∨ k = 75 ∨ k = 79) → zI h' k = zI h k := f2
  refine ⟨nP, nB, nE, nS, Y, N, nT, pg, hK.c f1, hN1.c (fun j h1 h2 => f3 j h1 (by omega)) (fun j hj => f4 j (by omega) (by omega) (by omega)) (by rw [g 55 (by decide)]), hN2.c (f3 12 (by decide) (by decide)) (f4 7 (by decide) (by decide) (by decide)), hN3, hP.c f5 (g 10 (by decide)) (g 11 (by decide)), hB.c (g 59 (by decide)) (g 12 (by decide)) (g 13 (by decide)) (g 14 (by decide)) (g 15 (by decide)), hE.c (by unfold zN; rw [f1]) (g 75 (by decide)) (g 60 (by decide)) (g 17 (by decide)) (g 35 (by decide)) (g 37 (by decide)) (g 38 (by decide)) (g 39 (by decide)) (g 40 (by decide)), ?_, hS.c (g 61 (by decide)) f6 (g 28 (by decide)) (g 29 (by decide)) (g 30 (by decide)) (g 31 (by decide)) f7, hT.c (g 53 (by decide)) (f4 19 (by decide) (by decide) (by decide)) (g 79 (by decide)) (g 19 (by decide)), hW⟩
  unfold iM
  have e1 : cP h' = cP h := by unfold cP; rw [g 60 (by decide)]
  have e2 : cY h' = cY h := by unfold cY; rw [g 60 (by decide)]
  rw [e1, e2, show (fun p => zI h' 58 p 0) = (fun p => zI h 58 p 0) from funext (fun p => f5 p 0 (by decide)), show (fun p => zI h' 58 p 1) = (fun p => zI h 58 p 1) from funext (fun p => f5 p 1 (by decide))]
  exact hM
/-- a market call on both sides -/
theorem vm_inv {h h1 h' : zH} {nP nB nE nS Y N nT : Nat} {pg : Nat → List (Bool × List (Nat × Int32))} (hK : iK h nP nB nE nS) (hN1 : iN1 h nP nB nE nS Y) (hN2 : iN2 h) (hN3 : iN3 h) (hP : iP h nP) (hB : iB h nP nB) (hE : iE h nE pg) (hS : iS h nS) (hT : iT h N) (hW : iW h nT) (f : FrV h h1) (f' : FrM h1 h') (hM : MO h1 nP (pfC (cP h) (cY h) nE pg) (fun p => zI h 58 p 0) (fun p => zI h 58 p 1)) : Inv h' := by
  have D : ∀ k, k ≠ 56 → k ≠ 58 → k ≠ 63 → k ≠ 78 → k ≠ 76 → k ≠ 77 → k ≠ 64 → k ≠ 67 → k ≠ 70 → k ≠ 71 → k ≠ 72 → k ≠ 68 → k ≠ 69 → zI h1 k = zI h k := f.2.1
  have d : ∀ k, (k < 56 ∨ k = 57 ∨ k = 83) → zI h1 k = zI h k := fun k hk => f.2.1 k (by omega) (by omega) (by omega) (by omega) (by omega) (by omega) (by omega) (by omega) (by omega) (by omega) (by omega) (by omega) (by omega)
  have d2 : ∀ k, (k = 0 ∨ 26 < k) → zI h' k = zI h1 k := fun k hk => f'.2.1 k (by omega) (by omega) (by omega) (by omega) (by omega) (by omega) (by omega)
  have d1 : ∀ j, j ≠ 0 → j ≠ 35 → zI h' 1 0 j = zI h 1 0 j := fun j h1 h2 => (f'.2.2 0 j h1 h2).trans (by rw [d 1 (by decide)])
  refine kp_inv hK hN1 hN2 hP hB hE hS hT (f.KP.tr f'.KP) ?_ (hN3.c (fun j _ _ => by rw [d2 0 (by decide), d 0 (by decide)]) (fun j h1 h2 => d1 j (by omega) (by omega))) (hW.c ((d2 57 (by decide)).trans (d 57 (by decide))) (d1 39 (by decide) (by decide)) ((d2 83 (by decide)).trans (d 83 (by decide))) ((d2 27 (by decide)).trans (d 27 (by decide))))
  intro p hp
  obtain ⟨k, k1, k2, k3⟩ := hM p hp
  refine ⟨k, k1, ?_, ?_⟩
  · rw [d2 58 (by decide)]; exact k2
  · unfold MM
    rw [d2 76 (by decide), d2 77 (by decide)]
    exact k3
theorem FrL.V {p : Nat} {a b : zH} (x : FrL p a b) : FrV a b := x.S.V
theorem FrT.M {a b : zH} (x : FrT (zsI a 1 0 0 0) b) : FrM a b := ⟨x.1, fun k h1 h2 _ _ _ _ _ => (x.2 k h2).trans (zI_ss _ 1 0 0 _ h1), fun i j h0 _ => by
  rw [x.2 1 (by decide)]
  exact if_neg (fun z => h0 z.2.2)⟩
theorem FrM.z0 (a : zH) : FrM a (zsI a 1 0 0 0) := FrT.M (FrT.rf _)
theorem FrV.rf (a : zH) : FrV a a := ⟨rfl, fun _ _ _ _ _ _ _ _ _ _ _ _ _ _ => rfl, fun _ _ _ => rfl, fun _ _ _ => rfl⟩
theorem zB_dec (dy : Bool) : decide (¬ zB dy = 0) = dy := by cases dy <;> rfl
theorem pf_c {h : zH} {nE : Nat} {pg : Nat → List (Bool × List (Nat × Int32))} (hE : iE h nE pg) (hn : nE ≤ 30) (p : Nat) : pfC (eP h) (eY h) nE pg p = pfC (cP h) (cY h) nE pg p := by
  funext y
  unfold pfC
  rw [mF_c (eP := eP h) (eY := eY h) (eP' := cP h) (eY' := cY h) nE (fun k hk => ⟨(hE k hk).2.2.1.symm, (hE k hk).2.2.2.1.symm⟩) (by omega)]
/-- the same, at any depth up to forty -/
def Pq (l : Launch) (Mc Mm : zM) (as : List zV) (h : zH) : Prop := ∃ dc, dc ≤ 40 ∧ Ct l dc Mc (Vq (some (0, 0)) :: as) h (fun o h1 => ∃ v, o = Rv v ∧ kd v Mc = true ∧ Sc h h1 ∧ ∃ dm, dm ≤ 40 ∧ Ct l dm Mm (Vq (some (1, 0)) :: as) h1 (fun o2 h2 => o2 = Rv v ∧ Sc h h2 ∧ Inv h2))
theorem Pq.of {l : Launch} {dc dm : Nat} {Mc Mm : zM} {as : List zV} {h : zH} (x : Pr l dc dm Mc Mm as h) (h1 : dc ≤ 40) (h2 : dm ≤ 40) : Pq l Mc Mm as h := ⟨dc, h1, Ct.mono x (fun o h' hq => by
  obtain ⟨v, q1, q4, q3, q2⟩ := hq
  exact ⟨v, q1, q4, q3, dm, h2, q2⟩)⟩
theorem pr_price (l : Launch) (h : zH) (hI : Inv h) (p y : Int32) (dy : Bool) : Pq l mX11_price mX14_price [Vi p, Vi y, Vi (zB dy)] h := by
  obtain ⟨nP, nB, nE, nS, Y, N, nT, pg, hK, hN1, hN2, hN3, hP, hB, hE, hM, hS, hT, hW⟩ := hI
  obtain ⟨kC, kM, k58, k59, k60, k61, k17, kz, ks⟩ := id hK
  obtain ⟨⟨p0, p1, p2⟩, ⟨b0, b1, b2⟩, ⟨s0, s1x, s2⟩, ⟨y0, y1, y2⟩, ⟨e0, e1, e2⟩⟩ := id hN1
  by_cases g : (0 ≤ p ∧ p < nI nP) ∧ (0 ≤ y ∧ y ≤ 99)
  · obtain ⟨j, j1, j2⟩ := ixN (n := nP) (by omega) g.1
    obtain ⟨q, q1, q2⟩ := ixN (x := y) (n := 100) (by omega) ⟨g.2.1, by rw [Int32.lt_iff_toInt_lt]; have := Int32.le_iff_toInt_le.mp g.2.2; rw [show (nI 100).toInt = 100 by decide]; rw [show (99 : Int32).toInt = 99 by decide] at this; omega⟩
    subst j2
    subst q2
    obtain ⟨k0, m1, m2, m3⟩ := hM j j1
    refine ⟨8, by decide, (qX11_price_s l h kC pg j q k0 (zB dy) nP p0 p2 k58 j1 q1 m1 nE e0 e2 k60 (fun e he => by obtain ⟨-, -, -, -, y, h1, h2⟩ := hE e he; unfold cY; rw [h2]; exact nI_pos' (by omega)) (fun e he => (hE e he).1) m2 m3).mono (fun o h1 hq => ?_)⟩
    obtain ⟨r1, r2, r3, r4⟩ := hq
    have fV := r2.V
    refine ⟨_, r1, rfl, fV.s, ?_⟩
    have d : ∀ k, k < 56 → zI h1 k = zI h k := fun k hk => fV.2.1 k (by omega) (by omega) (by omega) (by omega) (by omega) (by omega) (by omega) (by omega) (by omega) (by omega) (by omega) (by omega) (by omega)
    have hg : h1.2.2 = h.2.2 := fV.1
    have hE1 : ∀ e, e < nE → MR h1 e (pg e) := fun e he => (hE e he).2.1.c (by rw [d 17 (by decide)]) (by rw [d 35 (by decide)]) (by rw [d 37 (by decide)]) (by rw [d 38 (by decide)]) (by rw [d 39 (by decide)]) (by rw [d 40 (by decide)])
    obtain ⟨am, ak, a1, a2, a3, a4, a5, a6⟩ := hP j j1
    refine ⟨6, by decide, (qX14_price_s l h1 (Wm.same hg kM) pg j q dy nP (by rw [d 1 (by decide)]; exact p1) p2 j1 q1 nE (by rw [d 1 (by decide)]; exact e1) e2 (by unfold zC; rw [hg]; exact k17) hE1 (by rw [d 10 (by decide), a4]; exact nI_pos' (by omega)) (by rw [d 11 (by decide), a6]; exact nI_pos' (by omega))).mono (fun o2 h2 hz => ?_)⟩
    obtain ⟨z1, z2⟩ := hz
    refine ⟨?_, fV.s.tr z2.M.s, vm_inv hK hN1 hN2 hN3 hP hB hE hS hT hW fV z2.M ?_⟩
    · rw [z1, zB_dec, show eP h1 = eP h by unfold eP; rw [d 17 (by decide)], show eY h1 = eY h by unfold eY; rw [d 17 (by decide)], pf_c hE e2 j, d 10 (by decide), d 11 (by decide), a3, a4, a5, a6]
    · intro t ht
      by_cases et : t = j
      · subst et
        exact ⟨max k0 (q + 1), by omega, r3, r4⟩
      · obtain ⟨k, n1, n2, n3⟩ := hM t ht
        exact ⟨k, n1, (r2.2.2.1 t 4 (fun z => et z.1)).trans n2, r2.mm et n3⟩
  · exact Pq.of (Pr.x (qX11_price_n l h kC p y (zB dy) nP p0 p2 k58 g) (qX14_price_n l h p y (zB dy) nP p1 p2 g) rfl (vm_inv hK hN1 hN2 hN3 hP hB hE hS hT hW (FrV.rf h) (FrM.z0 h) hM)) (by decide) (by decide)
