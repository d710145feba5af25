-- pairs: taken, crown, lost, carried, by program (wip/gen/p991.py)
theorem pr_taken (l : Launch) (h : zH) (hI : Inv h) (p : Int32) : Pq l mX11_taken mX14_taken [Vi p] h := by
  obtain ⟨nP, nB, nE, nS, Y, N, nT, pg, hK, hN1, hN2, hN3, hP, hB, hE, hM, hS, hT, hW⟩ := hI
  obtain ⟨kC, kM, k58, k59, k60, k61, k17, kz, ks⟩ := id hK
  obtain ⟨⟨p0, p1, p2⟩, ⟨b0, b1, b2⟩, ⟨s0, s1x, s2⟩, ⟨y0, y1, y2⟩, ⟨e0, e1, e2⟩⟩ := id hN1
  obtain ⟨cQ, mQ, hL⟩ := mk_ctx hK hN1 hN2 hP hB hE hM
  by_cases g : 0 ≤ p ∧ p < nI nP
  · obtain ⟨a, ha, q⟩ := ixN (n := nP) (by omega) g
    subst q
    refine ⟨9, by decide, (qX11_taken_s l h nP nB nE Y pg (bx h 0) (bx h 1) (bc h) (prN h nE pg Y) cQ a ha).mono (fun o h1 hq => ?_)⟩
    obtain ⟨r1, fV, r3⟩ := hq
    refine ⟨_, r1, rfl, fV.s, 8, by decide, (qX14_taken_s l h1 nP nB nE Y pg (bx h 0) (bx h 1) (bc h) (px h 0) (px h 1) (mQ.c fV.1 fV.d) a ha).mono (fun o2 h2 hz => ?_)⟩
    obtain ⟨z1, z2⟩ := hz
    refine ⟨?_, fV.s.tr z2.M.s, vm_inv hK hN1 hN2 hN3 hP hB hE hS hT hW fV z2.M r3.2.1.1⟩
    have w := z2.f
    have so := mk_so hP hE e2 fV.d r3 w.1 w.2.1 w.2.2
    have pe := prN_c fV.d nE pg Y
    have cb := cr_both (h := h2) (h' := h1) (so' := oS (prN h nE pg Y) (fun v => oM (prN h nE pg Y) (dW (bx h 0) (bx h 1) (bc h) nB nP) v nP)) p2 (fun q hq => ⟨z2.2.2.2 q hq, sr_lt _ _ hq nP (Nat.le_refl _)⟩) (fun q hq => ⟨(so q hq).1, (so q hq).2.1, (so q hq).2.2, by
      rw [show prN (zsI h1 1 0 0 0) nE pg Y = prN h nE pg Y from pe]
      exact sr_q hL p2 hq⟩)
    rw [z1, cb.2 a ha]
  · exact Pq.of (Pr.x (qX11_taken_n l h kC p nP p0 p2 k58 g) (qX14_taken_n l h p nP p1 p2 g) rfl (vm_inv hK hN1 hN2 hN3 hP hB hE hS hT hW (FrV.rf h) (FrM.z0 h) hM)) (by decide) (by decide)
theorem pr_crown (l : Launch) (h : zH) (hI : Inv h) : Pq l mX11_crown mX14_crown [] h := by
  obtain ⟨nP, nB, nE, nS, Y, N, nT, pg, hK, hN1, hN2, hN3, hP, hB, hE, hM, hS, hT, hW⟩ := hI
  obtain ⟨kC, kM, k58, k59, k60, k61, k17, kz, ks⟩ := id hK
  obtain ⟨⟨p0, p1, p2⟩, ⟨b0, b1, b2⟩, ⟨s0, s1x, s2⟩, ⟨y0, y1, y2⟩, ⟨e0, e1, e2⟩⟩ := id hN1
  obtain ⟨cQ, mQ, hL⟩ := mk_ctx hK hN1 hN2 hP hB hE hM
  refine ⟨9, by decide, (qX11_crown l h nP nB nE Y pg (bx h 0) (bx h 1) (bc h) (prN h nE pg Y) cQ).mono (fun o h1 hq => ?_)⟩
  obtain ⟨r1, fV, r3⟩ := hq
  refine ⟨_, r1, rfl, fV.s, 8, by decide, (qX14_crown l h1 nP nB nE Y pg (bx h 0) (bx h 1) (bc h) (px h 0) (px h 1) (mQ.c fV.1 fV.d)).mono (fun o2 h2 hz => ?_)⟩
  obtain ⟨z1, z2⟩ := hz
  refine ⟨?_, fV.s.tr z2.M.s, vm_inv hK hN1 hN2 hN3 hP hB hE hS hT hW fV z2.M r3.2.1.1⟩
  have w := z2.f
  have so := mk_so hP hE e2 fV.d r3 w.1 w.2.1 w.2.2
  have pe := prN_c fV.d nE pg Y
  have cb := cr_both (h := h2) (h' := h1) (so' := oS (prN h nE pg Y) (fun v => oM (prN h nE pg Y) (dW (bx h 0) (bx h 1) (bc h) nB nP) v nP)) p2 (fun q hq => ⟨z2.2.2.2 q hq, sr_lt _ _ hq nP (Nat.le_refl _)⟩) (fun q hq => ⟨(so q hq).1, (so q hq).2.1, (so q hq).2.2, by
    rw [show prN (zsI h1 1 0 0 0) nE pg Y = prN h nE pg Y from pe]
    exact sr_q hL p2 hq⟩)
  rw [z1, cb.1]
theorem pr_lost (l : Launch) (h : zH) (hI : Inv h) : Pq l mX11_lost mX14_lost [] h := by
  obtain ⟨nP, nB, nE, nS, Y, N, nT, pg, hK, hN1, hN2, hN3, hP, hB, hE, hM, hS, hT, hW⟩ := hI
  obtain ⟨kC, kM, k58, k59, k60, k61, k17, kz, ks⟩ := id hK
  obtain ⟨⟨p0, p1, p2⟩, ⟨b0, b1, b2⟩, ⟨s0, s1x, s2⟩, ⟨y0, y1, y2⟩, ⟨e0, e1, e2⟩⟩ := id hN1
  obtain ⟨cQ, mQ, hL⟩ := mk_ctx hK hN1 hN2 hP hB hE hM
  refine ⟨9, by decide, (qX11_lost l h nP nB nE Y pg (bx h 0) (bx h 1) (bc h) (prN h nE pg Y) cQ).mono (fun o h1 hq => ?_)⟩
  obtain ⟨r1, fV, r3⟩ := hq
  refine ⟨_, r1, rfl, fV.s, 8, by decide, (qX14_lost l h1 nP nB nE Y pg (bx h 0) (bx h 1) (bc h) (px h 0) (px h 1) (mQ.c fV.1 fV.d)).mono (fun o2 h2 hz => ?_)⟩
  obtain ⟨z1, z2⟩ := hz
  refine ⟨?_, fV.s.tr z2.M.s, vm_inv hK hN1 hN2 hN3 hP hB hE hS hT hW fV z2.M r3.2.1.1⟩
  have w := z2.f
  have so := mk_so hP hE e2 fV.d r3 w.1 w.2.1 w.2.2
  have pe := prN_c fV.d nE pg Y
  rw [z1, lo_congr (h := h2) (h' := h1) (so' := oS (prN h nE pg Y) (fun v => oM (prN h nE pg Y) (dW (bx h 0) (bx h 1) (bc h) nB nP) v nP)) (N := nP) (fun q hq => ⟨(so q hq).2.1, (so q hq).2.2, by
    rw [pe]
    exact sr_q hL p2 hq, sr_lt _ _ hq nP (Nat.le_refl _)⟩) nP (Nat.le_refl _)]
theorem pr_carried (l : Launch) (h : zH) (hI : Inv h) (p : Int32) : Pq l mX11_carried mX14_carried [Vi p] h := by
  obtain ⟨nP, nB, nE, nS, Y, N, nT, pg, hK, hN1, hN2, hN3, hP, hB, hE, hM, hS, hT, hW⟩ := hI
  obtain ⟨kC, kM, k58, k59, k60, k61, k17, kz, ks⟩ := id hK
  obtain ⟨⟨p0, p1, p2⟩, ⟨b0, b1, b2⟩, ⟨s0, s1x, s2⟩, ⟨y0, y1, y2⟩, ⟨e0, e1, e2⟩⟩ := id hN1
  obtain ⟨cQ, mQ, hL⟩ := mk_ctx hK hN1 hN2 hP hB hE hM
  by_cases g : 0 ≤ p ∧ p < nI nB
  · obtain ⟨a, ha, q⟩ := ixN (n := nB) (by omega) g
    subst q
    refine ⟨9, by decide, (qX11_carried_s l h nP nB nE Y pg (bx h 0) (bx h 1) (bc h) (prN h nE pg Y) cQ a ha).mono (fun o h1 hq => ?_)⟩
    obtain ⟨hA, rA, r1, fV, r3⟩ := hq
    refine ⟨_, r1, rfl, fV.s, 8, by decide, (qX14_carried_s l h1 nP nB nE Y pg (bx h 0) (bx h 1) (bc h) (px h 0) (px h 1) (mQ.c fV.1 fV.d) hL a ha).mono (fun o2 h2 hz => ?_)⟩
    obtain ⟨hC, zC1, z1, z2⟩ := hz
    refine ⟨?_, fV.s.tr z2.s, vm_inv hK hN1 hN2 hN3 hP hB hE hS hT hW fV z2 r3⟩
    have w := zC1.f
    have so := mk_so hP hE e2 fV.d rA w.1 w.2.1 w.2.2
    rw [z1, prN_c fV.d nE pg Y, cyT_congr nP (fun q hq => (so q hq).2.1)]
  · exact Pq.of (Pr.x (qX11_carried_n l h kC p nB b0 b2 k59 g) (qX14_carried_n l h p nB b1 b2 g) rfl (vm_inv hK hN1 hN2 hN3 hP hB hE hS hT hW (FrV.rf h) (FrM.z0 h) hM)) (by decide) (by decide)
