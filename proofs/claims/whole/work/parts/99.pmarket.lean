-- pairs: the market, by program (wip/gen/p99.py)
def bx (h : zH) (j k : Nat) : Nat := (zI h 59 k j).toNatClampNeg
def bw (h : zH) : Nat := (zI h 0 0 12).toNatClampNeg
def bc (h : zH) (k : Nat) : Nat := bx h 2 k + bx h 3 k * bw h
def px (h : zH) (j k : Nat) : Nat := (zI h 58 k j).toNatClampNeg
theorem bx_of {h : zH} {nP nB : Nat} (hB : iB h nP nB) (hp : nP ≤ 10) {k : Nat} (hk : k < nB) : bx h 0 k < nP ∧ bx h 1 k < nP ∧ bx h 0 k ≠ bx h 1 k ∧ 1 ≤ bx h 2 k ∧ bx h 2 k ≤ 500 ∧ bx h 3 k ≤ 9 ∧ (zI h 59 k 0 = nI (bx h 0 k) ∧ zI h 12 0 k = nI (bx h 0 k)) ∧ (zI h 59 k 1 = nI (bx h 1 k) ∧ zI h 13 0 k = nI (bx h 1 k)) ∧ (zI h 59 k 2 = nI (bx h 2 k) ∧ zI h 14 0 k = nI (bx h 2 k)) ∧ zI h 59 k 3 = nI (bx h 3 k) ∧ zI h 15 0 k = nI (bx h 3 k) := by
  obtain ⟨a, b, r, g, h1, h2, h3, h4, h5, h6, ⟨q0, q0'⟩, ⟨q1, q1'⟩, ⟨q2, q2'⟩, q3, q3'⟩ := hB.1 k hk
  unfold bx
  rw [q0, q1, q2, q3, q0', q1', q2', q3', nI_clamp (by omega), nI_clamp (by omega), nI_clamp (by omega), nI_clamp (by omega)]
  exact ⟨h1, h2, h3, h4, h5, h6, ⟨rfl, rfl⟩, ⟨rfl, rfl⟩, ⟨rfl, rfl⟩, rfl, rfl⟩
theorem mk_ctx {h : zH} {nP nB nE nS Y : Nat} {pg : Nat → List (Bool × List (Nat × Int32))} (hK : iK h nP nB nE nS) (hN1 : iN1 h nP nB nE nS Y) (hN2 : iN2 h) (hP : iP h nP) (hB : iB h nP nB) (hE : iE h nE pg) (hM : iM h nP nE pg) : KQ h nP nB nE Y pg (bx h 0) (bx h 1) (bc h) (prN h nE pg Y) ∧ MkQ h nP nB nE Y pg (bx h 0) (bx h 1) (bc h) (px h 0) (px h 1) ∧ LB nP nB (bx h 0) (bx h 1) (bc h) := by
  obtain ⟨kC, kM, k58, k59, k60, k61, k17, kz, ks⟩ := id hK
  obtain ⟨⟨p0, p1, p2⟩, ⟨b0, b1, b2⟩, ⟨s0, s1x, s2⟩, ⟨y0, y1, y2⟩, ⟨e0, e1, e2⟩⟩ := id hN1
  obtain ⟨w, w1, w2, w3⟩ := hN2
  have hw : bw h = w := by unfold bw; rw [w2, nI_clamp (by omega)]
  have hgw : ∀ k, k < nB → bx h 3 k * bw h ≤ 1800 := fun k hk => by
    have := (bx_of hB p2 hk).2.2.2.2.2.1
    exact Nat.mul_le_mul this (show bw h ≤ 200 by omega)
  have hL : LB nP nB (bx h 0) (bx h 1) (bc h) := fun k hk => by
    obtain ⟨h1, h2, h3, h4, h5, h6, -⟩ := bx_of hB p2 hk
    have := hgw k hk
    refine ⟨h1, h2, h3, ?_, ?_⟩ <;> (unfold bc; omega)
  have hc : ∀ k, nI (bx h 2 k) + nI (bx h 3 k) * nI w = nI (bc h k) := fun k => by
    unfold bc
    rw [nI_mul2, nI_add, hw]
  refine ⟨⟨kC, p2, k58, by omega, e0, e2, k60, (fun e he => by obtain ⟨-, -, -, -, y, h1, h2⟩ := hE e he; unfold cY; rw [h2]; exact nI_pos' (by omega)), fun e he => (hE e he).1, p0, y0, b0, b2, k59, fun k hk => ?_, hM, fun p hp => ?_, hL⟩, ⟨kM, p1, p2, b1, b2, y1, by omega, e1, e2, k17, fun e he => (hE e he).2.1, fun k hk => ?_, fun j hj => ?_⟩, hL⟩
  · obtain ⟨h1, h2, h3, h4, h5, h6, ⟨q0, q0'⟩, ⟨q1, q1'⟩, ⟨q2, q2'⟩, q3, q3'⟩ := bx_of hB p2 hk
    exact ⟨q0, q1, h1, h2, by rw [q2, q3, w2, hc k], (hL k hk).2.2.2.2⟩
  · obtain ⟨am, ak, a1, a2, a3, a4, a5, a6⟩ := hP p hp
    have hn := prN_eq h nE pg Y p
    refine ⟨?_, hn.2⟩
    rw [← hn.1]
    unfold mPV
    rw [pf_c hE e2 p, a3, a4, a5, a6]
  · obtain ⟨h1, h2, h3, h4, h5, h6, ⟨q0, q0'⟩, ⟨q1, q1'⟩, ⟨q2, q2'⟩, q3, q3'⟩ := bx_of hB p2 hk
    have := (hL k hk).2.2.2.2
    exact ⟨q0', q1', h1, h2, h3, by rw [q2', q3', w3, hc k], by omega⟩
  · obtain ⟨am, ak, a1, a2, a3, a4, a5, a6⟩ := hP j hj
    unfold px
    rw [a3, a4, a5, a6, nI_clamp (by omega), nI_clamp (by omega)]
    exact ⟨rfl, a1, rfl, a2⟩
theorem MkQ.c {h h' : zH} {nP nB nE Y : Nat} {pg : Nat → List (Bool × List (Nat × Int32))} {on ot c mo nd : Nat → Nat} (x : MkQ h nP nB nE Y pg on ot c mo nd) (e : h'.2.2 = h.2.2) (d : ∀ k, (0 < k ∧ k < 56) → zI h' k = zI h k) : MkQ h' nP nB nE Y pg on ot c mo nd := by
  obtain ⟨a1, a2, a3, a4, a5, a6, a7, a8, a9, a10, a11, a12, a13⟩ := x
  refine ⟨Wm.same e a1, by rw [d 1 (by decide)]; exact a2, a3, by rw [d 1 (by decide)]; exact a4, a5, by rw [d 1 (by decide)]; exact a6, a7, by rw [d 1 (by decide)]; exact a8, a9, by unfold zC; rw [e]; exact a10, fun e he => (a11 e he).c (by rw [d 17 (by decide)]) (by rw [d 35 (by decide)]) (by rw [d 37 (by decide)]) (by rw [d 38 (by decide)]) (by rw [d 39 (by decide)]) (by rw [d 40 (by decide)]), ?_, ?_⟩
  · unfold BR
    rw [d 12 (by decide), d 13 (by decide), d 14 (by decide), d 15 (by decide), d 1 (by decide)]
    exact a12
  · rw [d 10 (by decide), d 11 (by decide)]
    exact a13
theorem mPV_c {h h' : zH} (d : ∀ k, (0 < k ∧ k < 56) → zI h' k = zI h k) (nE : Nat) (pg : Nat → List (Bool × List (Nat × Int32))) (dy : Bool) (Y j : Nat) : mPV h' nE pg dy Y j = mPV h nE pg dy Y j := by
  unfold mPV
  rw [show eP h' = eP h by unfold eP; rw [d 17 (by decide)], show eY h' = eY h by unfold eY; rw [d 17 (by decide)], d 10 (by decide), d 11 (by decide)]
theorem prN_c {h h' : zH} (d : ∀ k, (0 < k ∧ k < 56) → zI h' k = zI h k) (nE : Nat) (pg : Nat → List (Bool × List (Nat × Int32))) (Y : Nat) : prN h' nE pg Y = prN h nE pg Y := by
  funext j
  unfold prN
  rw [mPV_c d]
theorem FrV.d {h h' : zH} (f : FrV h h') : ∀ k, (0 < k ∧ k < 56) → zI h' k = zI h k := fun k hk => f.2.1 k (by omega) (by omega) (by omega) (by omega) (by omega) (by omega) (by omega) (by omega) (by omega) (by omega) (by omega) (by omega) (by omega)
theorem pr_brought (l : Launch) (h : zH) (hI : Inv h) (p q : Int32) : Pq l mX11_brought mX14_brought [Vi p, Vi q] h := by
  obtain ⟨nP, nB, nE, nS, Y, N, nT, pg, hK, hN1, hN2, hN3, hP, hB, hE, hM, hS, hT, hW⟩ := hI
  obtain ⟨kC, kM, k58, k59, k60, k61, k17, kz, ks⟩ := id hK
  obtain ⟨⟨p0, p1, p2⟩, ⟨b0, b1, b2⟩, ⟨s0, s1x, s2⟩, ⟨y0, y1, y2⟩, ⟨e0, e1, e2⟩⟩ := id hN1
  obtain ⟨cQ, mQ, hL⟩ := mk_ctx hK hN1 hN2 hP hB hE hM
  by_cases g : (0 ≤ p ∧ p < nI nP) ∧ (0 ≤ q ∧ q < nI nP)
  · obtain ⟨a, ha, q⟩ := ixN (n := nP) (by omega) g.1
    obtain ⟨b, hb, q'⟩ := ixN (n := nP) (by omega) g.2
    subst q
    subst q'
    refine ⟨9, by decide, (qX11_brought_s l h nP nB nE Y pg (bx h 0) (bx h 1) (bc h) (prN h nE pg Y) cQ a b ha hb).mono (fun o h1 hq => ?_)⟩
    obtain ⟨r1, fV, r3⟩ := hq
    refine ⟨_, r1, rfl, fV.s, 8, by decide, (qX14_brought_s l h1 nP nB nE Y pg (bx h 0) (bx h 1) (bc h) (px h 0) (px h 1) (mQ.c fV.1 fV.d) a b ha hb).mono (fun o2 h2 hz => ?_)⟩
    obtain ⟨z1, z2⟩ := hz
    refine ⟨?_, fV.s.tr (z2.M).s, vm_inv hK hN1 hN2 hN3 hP hB hE hS hT hW fV z2.M r3⟩
    rw [z1, prN_c fV.d]
  · exact Pq.of (Pr.x (qX11_brought_n l h kC p q nP p0 p2 k58 g) (qX14_brought_n l h p q nP p1 p2 g) rfl (vm_inv hK hN1 hN2 hN3 hP hB hE hS hT hW (FrV.rf h) (FrM.z0 h) hM)) (by decide) (by decide)
theorem pr_cheap (l : Launch) (h : zH) (hI : Inv h) (p : Int32) : Pq l mX11_cheap mX14_cheap [Vi p] h := by
  obtain ⟨nP, nB, nE, nS, Y, N, nT, pg, hK, hN1, hN2, hN3, hP, hB, hE, hM, hS, hT, hW⟩ := hI
  obtain ⟨kC, kM, k58, k59, k60, k61, k17, kz, ks⟩ := id hK
  obtain ⟨⟨p0, p1, p2⟩, ⟨b0, b1, b2⟩, ⟨s0, s1x, s2⟩, ⟨y0, y1, y2⟩, ⟨e0, e1, e2⟩⟩ := id hN1
  obtain ⟨cQ, mQ, hL⟩ := mk_ctx hK hN1 hN2 hP hB hE hM
  by_cases g : 0 ≤ p ∧ p < nI nP
  · obtain ⟨a, ha, q⟩ := ixN (n := nP) (by omega) g
    subst q
    refine ⟨9, by decide, (qX11_cheap_s l h nP nB nE Y pg (bx h 0) (bx h 1) (bc h) (prN h nE pg Y) cQ a ha).mono (fun o h1 hq => ?_)⟩
    obtain ⟨r1, fV, r3⟩ := hq
    refine ⟨_, r1, rfl, fV.s, 8, by decide, (qX14_cheap_s l h1 nP nB nE Y pg (bx h 0) (bx h 1) (bc h) (px h 0) (px h 1) (mQ.c fV.1 fV.d) a ha).mono (fun o2 h2 hz => ?_)⟩
    obtain ⟨z1, z2⟩ := hz
    refine ⟨?_, fV.s.tr (z2.M).s, vm_inv hK hN1 hN2 hN3 hP hB hE hS hT hW fV z2.M r3⟩
    rw [z1, prN_c fV.d]
  · exact Pq.of (Pr.x (qX11_cheap_n l h kC p nP p0 p2 k58 g) (qX14_cheap_n l h p nP p1 p2 g) rfl (vm_inv hK hN1 hN2 hN3 hP hB hE hS hT hW (FrV.rf h) (FrM.z0 h) hM)) (by decide) (by decide)
theorem pr_source (l : Launch) (h : zH) (hI : Inv h) (p : Int32) : Pq l mX11_source mX14_source [Vi p] h := by
  obtain ⟨nP, nB, nE, nS, Y, N, nT, pg, hK, hN1, hN2, hN3, hP, hB, hE, hM, hS, hT, hW⟩ := hI
  obtain ⟨kC, kM, k58, k59, k60, k61, k17, kz, ks⟩ := id hK
  obtain ⟨⟨p0, p1, p2⟩, ⟨b0, b1, b2⟩, ⟨s0, s1x, s2⟩, ⟨y0, y1, y2⟩, ⟨e0, e1, e2⟩⟩ := id hN1
  obtain ⟨cQ, mQ, hL⟩ := mk_ctx hK hN1 hN2 hP hB hE hM
  by_cases g : 0 ≤ p ∧ p < nI nP
  · obtain ⟨a, ha, q⟩ := ixN (n := nP) (by omega) g
    subst q
    refine ⟨9, by decide, (qX11_source_s l h nP nB nE Y pg (bx h 0) (bx h 1) (bc h) (prN h nE pg Y) cQ a ha).mono (fun o h1 hq => ?_)⟩
    obtain ⟨r1, fV, r3⟩ := hq
    refine ⟨_, r1, rfl, fV.s, 8, by decide, (qX14_source_s l h1 nP nB nE Y pg (bx h 0) (bx h 1) (bc h) (px h 0) (px h 1) (mQ.c fV.1 fV.d) a ha).mono (fun o2 h2 hz => ?_)⟩
    obtain ⟨z1, z2⟩ := hz
    refine ⟨?_, fV.s.tr (z2.M).s, vm_inv hK hN1 hN2 hN3 hP hB hE hS hT hW fV z2.M r3⟩
    rw [z1, prN_c fV.d]
  · exact Pq.of (Pr.x (qX11_source_n l h kC p nP p0 p2 k58 g) (qX14_source_n l h p nP p1 p2 g) rfl (vm_inv hK hN1 hN2 hN3 hP hB hE hS hT hW (FrV.rf h) (FrM.z0 h) hM)) (by decide) (by decide)
theorem pr_way (l : Launch) (h : zH) (hI : Inv h) (p : Int32) : Pq l mX11_way mX14_way [Vi p] h := by
  obtain ⟨nP, nB, nE, nS, Y, N, nT, pg, hK, hN1, hN2, hN3, hP, hB, hE, hM, hS, hT, hW⟩ := hI
  obtain ⟨kC, kM, k58, k59, k60, k61, k17, kz, ks⟩ := id hK
  obtain ⟨⟨p0, p1, p2⟩, ⟨b0, b1, b2⟩, ⟨s0, s1x, s2⟩, ⟨y0, y1, y2⟩, ⟨e0, e1, e2⟩⟩ := id hN1
  obtain ⟨cQ, mQ, hL⟩ := mk_ctx hK hN1 hN2 hP hB hE hM
  by_cases g : 0 ≤ p ∧ p < nI nP
  · obtain ⟨a, ha, q⟩ := ixN (n := nP) (by omega) g
    subst q
    refine ⟨9, by decide, (qX11_way_s l h nP nB nE Y pg (bx h 0) (bx h 1) (bc h) (prN h nE pg Y) cQ a ha).mono (fun o h1 hq => ?_)⟩
    obtain ⟨r1, fV, r3⟩ := hq
    refine ⟨_, r1, rfl, fV.s, 8, by decide, (qX14_way_s l h1 nP nB nE Y pg (bx h 0) (bx h 1) (bc h) (px h 0) (px h 1) (mQ.c fV.1 fV.d) hL a ha).mono (fun o2 h2 hz => ?_)⟩
    obtain ⟨z1, z2⟩ := hz
    refine ⟨?_, fV.s.tr (z2).s, vm_inv hK hN1 hN2 hN3 hP hB hE hS hT hW fV z2 r3⟩
    rw [z1, prN_c fV.d]
  · exact Pq.of (Pr.x (qX11_way_n l h kC p nP p0 p2 k58 g) (qX14_way_n l h p nP p1 p2 g) rfl (vm_inv hK hN1 hN2 hN3 hP hB hE hS hT hW (FrV.rf h) (FrM.z0 h) hM)) (by decide) (by decide)
theorem pr_wayAt (l : Launch) (h : zH) (hI : Inv h) (p i : Int32) : Pq l mX11_wayAt mX14_wayAt [Vi p, Vi i] h := by
  obtain ⟨nP, nB, nE, nS, Y, N, nT, pg, hK, hN1, hN2, hN3, hP, hB, hE, hM, hS, hT, hW⟩ := hI
  obtain ⟨kC, kM, k58, k59, k60, k61, k17, kz, ks⟩ := id hK
  obtain ⟨⟨p0, p1, p2⟩, ⟨b0, b1, b2⟩, ⟨s0, s1x, s2⟩, ⟨y0, y1, y2⟩, ⟨e0, e1, e2⟩⟩ := id hN1
  obtain ⟨cQ, mQ, hL⟩ := mk_ctx hK hN1 hN2 hP hB hE hM
  by_cases g : 0 ≤ p ∧ p < nI nP
  · obtain ⟨a, ha, q⟩ := ixN (n := nP) (by omega) g
    subst q
    refine ⟨9, by decide, (qX11_wayAt_s l h nP nB nE Y pg (bx h 0) (bx h 1) (bc h) (prN h nE pg Y) cQ a ha i).mono (fun o h1 hq => ?_)⟩
    obtain ⟨r1, fV, r3⟩ := hq
    refine ⟨_, r1, rfl, fV.s, 8, by decide, (qX14_wayAt_s l h1 nP nB nE Y pg (bx h 0) (bx h 1) (bc h) (px h 0) (px h 1) (mQ.c fV.1 fV.d) hL a ha i).mono (fun o2 h2 hz => ?_)⟩
    obtain ⟨z1, z2⟩ := hz
    refine ⟨?_, fV.s.tr (z2).s, vm_inv hK hN1 hN2 hN3 hP hB hE hS hT hW fV z2 r3⟩
    rw [z1, prN_c fV.d]
  · exact Pq.of (Pr.x (qX11_wayAt_n l h kC p i nP p0 p2 k58 g) (qX14_wayAt_n l h p i nP p1 p2 g) rfl (vm_inv hK hN1 hN2 hN3 hP hB hE hS hT hW (FrV.rf h) (FrM.z0 h) hM)) (by decide) (by decide)
theorem mk_so {h h1 h2 hA : zH} {nP nB nE Y : Nat} {pg : Nat → List (Bool × List (Nat × Int32))} {on ot c pr : Nat → Nat} (hP : iP h nP) (hE : iE h nE pg) (hn : nE ≤ 30) (d : ∀ k, (0 < k ∧ k < 56) → zI h1 k = zI h k) (x : KNow h hA nP nB nE Y pg on ot c pr) (y : ∀ j, j < nP → zI h2 21 0 j = nI (prN h1 nE pg Y j) ∧ zI h2 22 0 j = nI (duN h1 nE pg Y j)) (y10 : zI h2 10 = zI h1 10) (y11 : zI h2 11 = zI h1 11) : ∀ q, q < nP → mDu h2 q = zL hA 65 0 q ∧ mRest h2 q = zL hA 66 0 q ∧ zI h2 21 0 q = zI hA 64 0 q := by
  intro q hq
  obtain ⟨am, ak, a1, a2, a3, a4, a5, a6⟩ := hP q hq
  obtain ⟨t1, t2, t3⟩ := x.2.1.2.2 q hq
  have v1 := prN_eq h1 nE pg Y q
  have v2 := duN_eq h1 nE pg Y q ak (by rw [d 11 (by decide)]; exact a6) a2
  have m0 : mPV h1 nE pg false Y q = prV (pfC (cP h) (cY h) nE pg q) false (zI h 58 q 0) (zI h 58 q 1) Y := by
    rw [mPV_c d]; unfold mPV; rw [pf_c hE hn q, a3, a4, a5, a6]
  have m1 : mPV h1 nE pg true Y q = prV (pfC (cP h) (cY h) nE pg q) true (zI h 58 q 0) (zI h 58 q 1) Y := by
    rw [mPV_c d]; unfold mPV; rw [pf_c hE hn q, a3, a4, a5, a6]
  unfold mDu mRest
  rw [t1, t2, t3, (y q hq).1, (y q hq).2, ← v1.1, ← v2.1, m0, m1, y10, y11, d 10 (by decide), d 11 (by decide), a3, a4, a5, a6]
  exact ⟨rfl, rfl, rfl⟩
theorem MNow.f {h h' : zH} {nP nB nE Y : Nat} {pg : Nat → List (Bool × List (Nat × Int32))} {on ot c : Nat → Nat} (x : MNow (zsI h 1 0 0 0) h' nP nB nE Y pg on ot c) : (∀ j, j < nP → zI h' 21 0 j = nI (prN h nE pg Y j) ∧ zI h' 22 0 j = nI (duN h nE pg Y j)) ∧ zI h' 10 = zI h 10 ∧ zI h' 11 = zI h 11 := ⟨x.2.1, x.1.2 10 (by decide) (by decide) (by decide) (by decide) (by decide), x.1.2 11 (by decide) (by decide) (by decide) (by decide) (by decide)⟩
theorem sr_q {nP nB : Nat} {on ot c pr : Nat → Nat} (hL : LB nP nB on ot c) (h10 : nP ≤ 10) {q : Nat} (hq : q < nP) : sr pr (dW on ot c nB nP) q nP = oS pr (fun v => oM pr (dW on ot c nB nP) v nP) q := (oS_sr h10 hq (dW_aa hL q)).1.symm
