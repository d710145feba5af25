-- survey of the class, by program (wip/gen/p56.py)
def FrS (h h' : zH) : Prop := h'.2.2 = h.2.2 ∧ (∀ k, k ≠ 56 → k ≠ 58 → k ≠ 63 → k ≠ 78 → k ≠ 76 → k ≠ 77 → k ≠ 64 → k ≠ 67 → k ≠ 70 → k ≠ 71 → k ≠ 72 → zI h' k = zI h k) ∧ (∀ i j, j ≠ 4 → zI h' 58 i j = zI h 58 i j) ∧ (∀ k, k ≠ 65 → k ≠ 66 → zL h' k = zL h k) ∧ ∀ j, j ≠ 9 → j ≠ 10 → zI h' 56 0 j = zI h 56 0 j
theorem FrS.rf (h : zH) : FrS h h := ⟨rfl, fun _ _ _ _ _ _ _ _ _ _ _ _ => rfl, fun _ _ _ => rfl, fun _ _ _ => rfl, fun _ _ _ => rfl⟩
theorem FrS.tr {a b c : zH} (x : FrS a b) (y : FrS b c) : FrS a c := ⟨y.1.trans x.1, fun k h1 h2 h3 h4 h5 h6 h7 h8 h9 ha hb => (y.2.1 k h1 h2 h3 h4 h5 h6 h7 h8 h9 ha hb).trans (x.2.1 k h1 h2 h3 h4 h5 h6 h7 h8 h9 ha hb), fun i j h => (y.2.2.1 i j h).trans (x.2.2.1 i j h), fun k h1 h2 => (y.2.2.2.1 k h1 h2).trans (x.2.2.2.1 k h1 h2), fun j h1 h2 => (y.2.2.2.2 j h1 h2).trans (x.2.2.2.2 j h1 h2)⟩
theorem FrL.S {p : Nat} {a b : zH} (x : FrL p a b) : FrS a b := ⟨congrArg Prod.snd x.1, fun k _ h2 h3 h4 h5 h6 _ _ _ _ _ => x.2.1 k h3 h4 h5 h6 h2, fun i j h => x.2.2.1 i j (fun q => h q.2), fun k _ _ => by unfold zL; rw [x.1], fun j _ _ => by rw [x.2.1 56 (by decide) (by decide) (by decide) (by decide) (by decide)]⟩
/-- the years that each province knows -/
def MO (h : zH) (nP : Nat) (pf : Nat → Nat → Option (List (Bool × List (Nat × Int32)))) (m n : Nat → Int32) : Prop := ∀ p, p < nP → ∃ k, k ≤ 100 ∧ zI h 58 p 4 = nI k ∧ MM h (pf p) (m p) (n p) p k
theorem FrL.mm {p : Nat} {a b : zH} (x : FrL p a b) {q k : Nat} (hq : q ≠ p) {pf : Nat → Option (List (Bool × List (Nat × Int32)))} {m n : Int32} (h : MM a pf m n q k) : MM b pf m n q k := by
  unfold MM
  rw [(x.2.2.2 q hq).1, (x.2.2.2 q hq).2]
  exact h
theorem qX2_learn_w (l : Launch) (h0 : zH) (hW0 : Wc h0) (pg : Nat → List (Bool × List (Nat × Int32))) (nP Y : Nat) (hP2 : nP ≤ 10) (hP3 : zC h0 58 = nP) (hYl : Y < 100) (nE : Nat) (hE : zI h0 55 0 2 = nI nE) (hE2 : nE ≤ 30) (hE3 : zC h0 60 = nE) (hY : ∀ e, e < nE → 0 ≤ cY h0 e) (hC : ∀ e, e < nE → CR h0 e (pg e)) (h : zH) (hF : FrS h0 h) (hMO : MO h nP (pfC (cP h0) (cY h0) nE pg) (fun p => zI h0 58 p 0) (fun p => zI h0 58 p 1)) (p : Nat) (hp : p < nP) : Ct l 7 mX2_learn [Vq (some (55, 0)), Vq (some (58, p)), Vi (nI p), Vi (nI Y)] h (fun o h' => o = R0 ∧ FrL p h h' ∧ zI h' 76 p Y = prV ((pfC (cP h0) (cY h0) nE pg) p) false (zI h0 58 p 0) (zI h0 58 p 1) Y ∧ zI h' 77 p Y = prV ((pfC (cP h0) (cY h0) nE pg) p) true (zI h0 58 p 0) (zI h0 58 p 1) Y ∧ MO h' nP (pfC (cP h0) (cY h0) nE pg) (fun p => zI h0 58 p 0) (fun p => zI h0 58 p 1)) := by
  have hg := hF.1
  have ecP : cP h = cP h0 := funext (fun e => by unfold cP; rw [hF.2.1 60 (by decide) (by decide) (by decide) (by decide) (by decide) (by decide) (by decide) (by decide) (by decide) (by decide) (by decide)])
  have ecY : cY h = cY h0 := funext (fun e => by unfold cY; rw [hF.2.1 60 (by decide) (by decide) (by decide) (by decide) (by decide) (by decide) (by decide) (by decide) (by decide) (by decide) (by decide)])
  have hC2 : ∀ e, e < nE → CR h e (pg e) := fun e he => by
    have hc := hC e he
    exact ⟨by rw [← hc.1]; unfold zN; rw [hg], hc.2.1, fun j w hj => by rw [hF.2.1 75 (by decide) (by decide) (by decide) (by decide) (by decide) (by decide) (by decide) (by decide) (by decide) (by decide) (by decide)]; exact hc.2.2.1 j w hj, hc.2.2.2⟩
  obtain ⟨k, k1, k2, k3⟩ := hMO p hp
  have Hc := qX2_learn l h (Wc.same hg hW0) pg p Y k (by unfold zC; rw [hg]; exact (show p < zC h0 58 by omega)) (by omega) hYl k1 nE (by rw [hF.2.1 55 (by decide) (by decide) (by decide) (by decide) (by decide) (by decide) (by decide) (by decide) (by decide) (by decide) (by decide)]; exact hE) hE2 (by unfold zC; rw [hg]; exact hE3) (by rw [ecY]; exact hY) hC2 k2
  rw [ecP, ecY, hF.2.2.1 p 0 (by decide), hF.2.2.1 p 1 (by decide)] at Hc
  refine (Hc k3).mono (fun o h' hq => ?_)
  obtain ⟨q1, q2, q3, q4⟩ := hq
  have q5 := q4 Y (by omega)
  refine ⟨q1, q2, q5.1, q5.2, fun q hq => ?_⟩
  by_cases e : q = p
  · rw [e]
    exact ⟨_, by omega, q3, q4⟩
  · obtain ⟨a, a1, a2, a3⟩ := hMO q hq
    exact ⟨a, a1, by rw [q2.2.2.1 q 4 (fun z => e z.1)]; exact a2, q2.mm e a3⟩
