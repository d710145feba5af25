-- pairs: best, by program (wip/gen/p992.py)
theorem XfR_rel {σ : Type} {R : σ → σ → Prop} (B : Nat) {X : Nat → (Nat → Nat) → σ → σ} (h : ∀ f m S S', R S S' → R (X f m S) (X f m S')) : ∀ f m S S', R S S' → R (XfR B X f m S) (XfR B X f m S')
  | 0, _, _, _, r => r
  | f + 1, m, S, S', r => XfR_rel B h f m _ _ (h _ _ _ _ r)
theorem Xf_rel {σ : Type} {R : σ → σ → Prop} {st : (Nat → Nat) → σ → σ} (h : ∀ m S S', R S S' → R (st m S) (st m S')) (B : Nat) : ∀ g f m S S', R S S' → R (Xf st B g f m S) (Xf st B g f m S')
  | 0, _, m, S, S', r => h m S S' r
  | g + 1, f, m, S, S', r => XfR_rel B (fun f m S S' r => Xf_rel h B g f m S S' r) f m S S' r
def Req (S S' : Int64 × (Nat → Int32)) : Prop := S.1 = S'.1 ∧ ∀ k, k < 16 → S.2 k = S'.2 k
theorem bst_rel (val : (Nat → Nat) → Int64) (nB : Nat) (m : Nat → Nat) (S S' : Int64 × (Nat → Int32)) (r : Req S S') : Req (bst val nB m S) (bst val nB m S') := by
  unfold bst
  rw [r.1]
  by_cases e : S'.1 < val m
  · rw [if_pos e, if_pos e]
    refine ⟨rfl, fun k hk => ?_⟩
    show (if k < nB then nI (m k) else S.2 k) = (if k < nB then nI (m k) else S'.2 k)
    rw [r.2 k hk]
  · rw [if_neg e, if_neg e]
    exact r
theorem vaL_c {due rest pe due' rest' pe' : Nat → Int64} {nP : Nat} (h : ∀ q, q < nP → due q = due' q ∧ rest q = rest' q ∧ pe q = pe' q) (on ot rs pr : Nat → Nat) (wt nB : Nat) : vaL due rest pe on ot rs pr wt nB nP = vaL due' rest' pe' on ot rs pr wt nB nP := by
  funext m
  unfold vaL
  exact sC_congr (N := nP) (fun q hq => ⟨(h q hq).1, (h q hq).2.1, (h q hq).2.2, rfl, sr_lt _ _ hq nP (Nat.le_refl _)⟩) nP (Nat.le_refl _)
theorem FrQ.KP {a b : zH} (x : FrQ a b) : KP a b := ⟨x.1, fun k h => by
  unfold kpS at h
  exact x.2.1 k (by omega) (by omega) (by omega) (by omega) (by omega) (by omega) (by omega) (by omega) (by omega) (by omega) (by omega) (by omega) (by omega) (by omega) (by omega), fun j _ _ => x.2.2.2.1 0 j (by omega), fun j _ _ _ => by rw [x.2.1 1 (by decide) (by decide) (by decide) (by decide) (by decide) (by decide) (by decide) (by decide) (by decide) (by decide) (by decide) (by decide) (by decide) (by decide) (by decide)], fun p j h => x.2.2.1 p j (by omega), x.2.2.2.2 61 (by decide) (by decide), x.2.2.2.2 33 (by decide) (by decide)⟩
theorem FrQ.d {a b : zH} (x : FrQ a b) : ∀ k, (0 < k ∧ k < 56) → zI b k = zI a k := fun k h => x.2.1 k (by omega) (by omega) (by omega) (by omega) (by omega) (by omega) (by omega) (by omega) (by omega) (by omega) (by omega) (by omega) (by omega) (by omega) (by omega)
theorem FrB.KP {a b : zH} (x : FrB a b) : KP a b := ⟨x.1, fun k h => by
  unfold kpS at h
  exact x.2.1 k (by omega) (by omega) (by omega) (by omega) (by omega) (by omega) (by omega) (by omega), fun j _ _ => by rw [x.2.1 0 (by decide) (by decide) (by decide) (by decide) (by decide) (by decide) (by decide) (by decide)], fun j h1 h2 h3 => x.2.2.1 0 j (by omega) (by omega) (by omega) (by omega), fun p j h => by rw [x.2.1 58 (by decide) (by decide) (by decide) (by decide) (by decide) (by decide) (by decide) (by decide)], funext (fun i => funext (fun j => x.2.2.2 61 i j (fun z => absurd z.1 (by decide)))), funext (fun i => funext (fun j => x.2.2.2 33 i j (fun z => absurd z.1 (by decide))))⟩
theorem FrQ.s {a b : zH} (x : FrQ a b) : Sc a b := ⟨by rw [x.2.1 999 (by decide) (by decide) (by decide) (by decide) (by decide) (by decide) (by decide) (by decide) (by decide) (by decide) (by decide) (by decide) (by decide) (by decide) (by decide)], by unfold zN; rw [x.1]⟩
theorem FrB.s {a b : zH} (x : FrB a b) : Sc a b := ⟨by rw [x.2.1 999 (by decide) (by decide) (by decide) (by decide) (by decide) (by decide) (by decide) (by decide)], by unfold zN; rw [x.1]⟩
theorem FrB.d {a b : zH} (x : FrB a b) : ∀ k, (k = 0 ∨ 27 < k) → zI b k = zI a k := fun k h => x.2.1 k (by omega) (by omega) (by omega) (by omega) (by omega) (by omega) (by omega) (by omega)
theorem pr_best (l : Launch) (h : zH) (hI : Inv h) (p : Int32) : Pq l mX11_best mX14_best [Vi p] h := by
  obtain ⟨nP, nB, nE, nS, Y, N, nT, pg, hK, hN1, hN2, hN3, hP, hB, hE, hM, hS, hT, hW⟩ := hI
  obtain ⟨kC, kM, k58, k59, k60, k61, k17, kz, ks⟩ := id hK
  obtain ⟨⟨p0, p1, p2⟩, ⟨b0, b1, b2⟩, ⟨s0, s1x, s2⟩, ⟨y0, y1, y2⟩, ⟨e0, e1, e2⟩⟩ := id hN1
  obtain ⟨cQ, mQ, hL⟩ := mk_ctx hK hN1 hN2 hP hB hE hM
  by_cases g : 0 ≤ p ∧ p ≤ 3
  · obtain ⟨G, hG, q⟩ := ixN (x := p) (n := 4) (by omega) ⟨g.1, by rw [Int32.lt_iff_toInt_lt]; have := Int32.le_iff_toInt_le.mp g.2; rw [show (nI 4).toInt = 4 by decide]; rw [show (3 : Int32).toInt = 3 by decide] at this; omega⟩
    subst q
    obtain ⟨w, w1, w2, w3⟩ := id hN2
    have hLr : LB nP nB (bx h 0) (bx h 1) (bx h 2) := fun k hk => by
      obtain ⟨h1, h2, h3, h4, h5, h6, -⟩ := bx_of hB p2 hk
      exact ⟨h1, h2, h3, h4, by omega⟩
    have hrs : ∀ k, k < nB → bx h 2 k ≤ 500 := fun k hk => (bx_of hB p2 hk).2.2.2.2.1
    refine ⟨10, by decide, (qX11_best_s l h nP nB nE Y pg (bx h 0) (bx h 1) (bc h) (prN h nE pg Y) cQ (bx h 2) (fun k hk => (bx_of hB p2 hk).2.2.2.2.2.2.2.2.1.1) hLr hrs w w1 w2 G (by omega)).mono (fun o h1 hq => ?_)⟩
    obtain ⟨hA, rA, r1, fQ, r13, r57, rM, r83⟩ := hq
    have d := fQ.d
    refine ⟨_, r1, rfl, fQ.s, 21, by decide, (qX14_best_s l h1 nP nB nE Y pg (bx h 0) (bx h 1) (bc h) (px h 0) (px h 1) (mQ.c fQ.1 d) (bx h 2) (fun k hk => by
      obtain ⟨-, -, -, -, -, -, ⟨-, q0⟩, ⟨-, q1⟩, ⟨-, q2⟩, -, -⟩ := bx_of hB p2 hk
      rw [d 12 (by decide), d 13 (by decide), d 14 (by decide)]
      exact ⟨q0, q1, q2⟩) hLr hrs w w1 (by rw [d 1 (by decide)]; exact w3) G (by omega)).mono (fun o2 h2 hz => ?_)⟩
    obtain ⟨hC, zC1, z1, fB, z39, z01, z02, z27⟩ := hz
    have so := mk_so hP hE e2 d rA zC1.1 zC1.2.1 zC1.2.2
    have hv : vaL (mDu hC) (mRest hC) (mPe hC) (bx h 0) (bx h 1) (bx h 2) (prN h1 nE pg Y) w nB nP = vaL (zL hA 65 0) (zL hA 66 0) (cPe hA) (bx h 0) (bx h 1) (bx h 2) (prN h nE pg Y) w nB nP := by
      rw [prN_c d nE pg Y]
      exact vaL_c (fun q hq => ⟨(so q hq).1, (so q hq).2.1, by unfold mPe cPe; rw [(so q hq).2.2]⟩) _ _ _ _ _ _
    rw [hv] at z1 z27
    have rel : Req (Xf (bst (vaL (zL hA 65 0) (zL hA 66 0) (cPe hA) (bx h 0) (bx h 1) (bx h 2) (prN h nE pg Y) w nB nP) nB) nB (if nB = 0 then 0 else G) nB (fun _ => 0) (-1, zI h1 27 0)) (Xf (bst (vaL (zL hA 65 0) (zL hA 66 0) (cPe hA) (bx h 0) (bx h 1) (bx h 2) (prN h nE pg Y) w nB nP) nB) nB (if nB = 0 then 0 else G) nB (fun _ => 0) (-1, zI h 83 0)) := Xf_rel (R := Req) (fun m S S' r => bst_rel _ _ m S S' r) _ _ _ _ _ _ ⟨rfl, fun k hk => by
      show zI h1 27 0 k = zI h 83 0 k
      rw [d 27 (by decide)]
      exact (hW.2.2.2 k hk).symm⟩
    refine ⟨by rw [z1, rel.1], fQ.s.tr fB.s, kp_inv (nT := nB) hK hN1 hN2 hP hB hE hS hT (fQ.KP.tr fB.KP) ?_ ?_ ?_⟩
    · intro t ht
      obtain ⟨k, n1, n2, n3⟩ := rM t ht
      refine ⟨k, n1, ?_, ?_⟩
      · rw [fB.d 58 (by decide)]; exact n2
      · unfold MM
        rw [fB.d 76 (by decide), fB.d 77 (by decide)]
        exact n3
    · have t0 : zI h2 0 0 13 = 0 := by rw [fB.d 0 (by decide)]; exact r13
      refine ⟨t0.trans z01.symm, ?_, fun z => absurd (t0.symm.trans z) (by decide), fun _ => z02⟩
      rw [fB.d 0 (by decide), fQ.2.2.2.1 0 14 (by decide), fB.2.2.1 0 3 (by decide) (by decide) (by decide) (by decide), d 1 (by decide)]
      exact hN3.2.1
    · refine ⟨b2, ?_, z39, fun k hk => ?_⟩
      · rw [fB.d 57 (by decide)]; exact r57
      · rw [fB.d 83 (by decide), r83 k hk, z27 k hk]
        exact (rel.2 k hk).symm
  · exact Pq.of (Pr.x (qX11_best_n l h p g) (qX14_best_n l (zsI h 0 0 13 2) p g) rfl ⟨nP, nB, nE, nS, Y, N, nT, pg, hK, hN1, hN2, ⟨rfl, hN3.2.1, fun z => absurd (show (2 : Int32) = 4 from z) (by decide), fun _ => rfl⟩, hP, hB, hE, hM, hS, hT, hW⟩) (by decide) (by decide)
