-- an edict more: the wiring and the fields, by program (wip/gen/p993.py)
theorem mF_new {eP eY eP' eY' : Nat → Int32} {n : Nat} (hn : n < 900) (h : ∀ k, k < n → eP' k = eP k ∧ eY' k = eY k) (p y : Int32) (hx : ¬ (eP' n = p ∧ eY' n ≤ y)) : mF eP' eY' p y (n + 1) = mF eP eY p y n := by
  have e := mF_c (eP := eP') (eY := eY') (eP' := eP) (eY' := eY) (p := p) (y := y) n h (by omega)
  refine Eq.trans ?_ e
  exact if_neg (fun z => hx ⟨z.1, z.2.1⟩)
theorem pfC_new {eP eY eP' eY' : Nat → Int32} {n : Nat} (hn : n < 900) (h : ∀ k, k < n → eP' k = eP k ∧ eY' k = eY k) {pg pg' : Nat → List (Bool × List (Nat × Int32))} (hg : ∀ k, k < n → pg' k = pg k) (p y : Nat) (hx : ¬ (eP' n = nI p ∧ eY' n ≤ nI y)) : pfC eP' eY' (n + 1) pg' p y = pfC eP eY n pg p y := by
  unfold pfC
  rw [mF_new hn h (nI p) (nI y) hx]
  rcases mF_ix eP eY (nI p) (nI y) n (by omega) with q | ⟨j, j1, j2⟩
  · rw [q, if_pos rfl, if_pos rfl]
  · rw [j2, nI_clamp (by omega), hg j j1]
theorem prV_c {pf pf' : Nat → Option (List (Bool × List (Nat × Int32)))} (dy : Bool) (m n : Int32) : ∀ y, (∀ z, z ≤ y → pf z = pf' z) → prV pf dy m n y = prV pf' dy m n y
  | 0, h => by
    show yv (pf 0) dy (nI 0) m n 0 = yv (pf' 0) dy (nI 0) m n 0
    rw [h 0 (Nat.le_refl 0)]
  | y + 1, h => by
    show yv (pf (y + 1)) dy (nI (y + 1)) m n (prV pf dy m n y) = yv (pf' (y + 1)) dy (nI (y + 1)) m n (prV pf' dy m n y)
    rw [h (y + 1) (Nat.le_refl _), prV_c dy m n y (fun z hz => h z (by omega))]
theorem zI_sR (h : zH) (k i j : Nat) (v : Option (Nat × Nat)) : zI (zsR h k i j v) = zI h := rfl
theorem zI_cp (h : zH) (k i sp k2 i2 dp n : Nat) {k' : Nat} (e : k' ≠ k2) : zI (zcp h k i sp k2 i2 dp n) k' = zI h k' := funext (fun a => if_neg (fun z => e z.1))
/-- the class's fields behind an edict more -/
theorem cE2_I {g : zH} {e : Nat} (j m : Nat) (y : Int32) (h60 : zC g 60 = e) (h75 : zC g 75 = e) : (∀ k, k ≠ 0 → k ≠ 55 → k ≠ 58 → k ≠ 60 → k ≠ 75 → zI (cE2 g e j m y) k = zI g k) ∧ (∀ i, i ≠ 13 → zI (cE2 g e j m y) 0 0 i = zI g 0 0 i) ∧ zI (cE2 g e j m y) 0 0 13 = 0 ∧ zI (cE2 g e j m y) 55 0 2 = nI (e + 1) ∧ zI (cE2 g e j m y) 58 = zI (zsI g 58 j 4 (if y < zI g 58 j 4 then y else zI g 58 j 4)) 58 := by
  refine ⟨fun k h0 h1 h2 h3 h4 => ?_, fun i hi => ?_, ?_, ?_, ?_⟩ <;> unfold cE2 eNew
  · rw [zI_ss _ 0 0 13 _ h0, zI_ss _ 55 0 2 _ h1, zI_sR, zI_sR, zI_ss _ 60 e 1 _ h3, zI_ss _ 60 e 0 _ h3, zI_cp _ _ _ _ 75 _ _ _ h4, zI_nw _ 75 _ _ h4, zI_nw _ 60 _ _ h3, zI_ss _ 58 j 4 _ h2]
  · rw [zI_oth _ 0 0 13 _ hi, zI_ss _ 55 0 2 _ (by decide), zI_sR, zI_sR, zI_ss _ 60 e 1 _ (by decide), zI_ss _ 60 e 0 _ (by decide), zI_cp _ _ _ _ 75 _ _ _ (by decide), zI_nw _ 75 _ _ (by decide), zI_nw _ 60 _ _ (by decide), zI_ss _ 58 j 4 _ (by decide)]
  · exact zI_same _ 0 0 13 _
  · rw [zI_ss _ 0 0 13 _ (by decide)]
    exact zI_same _ 55 0 2 _
  · rw [zI_ss _ 0 0 13 _ (by decide), zI_ss _ 55 0 2 _ (by decide), zI_sR, zI_sR, zI_ss _ 60 e 1 _ (by decide), zI_ss _ 60 e 0 _ (by decide), zI_cp _ _ _ _ 75 _ _ _ (by decide), zI_nw _ 75 _ _ (by decide), zI_nw _ 60 _ _ (by decide)]
theorem cE2_60 {g : zH} {e : Nat} (j m : Nat) (y : Int32) (h60 : zC g 60 = e) : (∀ i, i ≠ e → zI (cE2 g e j m y) 60 i = zI g 60 i) ∧ zI (cE2 g e j m y) 60 e 0 = nI j ∧ zI (cE2 g e j m y) 60 e 1 = y := by
  refine ⟨fun i hi => ?_, ?_, ?_⟩ <;> unfold cE2 eNew <;> rw [zI_ss _ 0 0 13 _ (by decide), zI_ss _ 55 0 2 _ (by decide), zI_sR, zI_sR]
  · funext c
    refine Eq.trans (if_neg (fun z => hi z.2.1)) ?_
    refine Eq.trans (if_neg (fun z => hi z.2.1)) ?_
    refine Eq.trans (congrFun (congrFun (zI_cp _ _ _ _ 75 _ _ _ (by decide)) i) c) ?_
    refine Eq.trans (congrFun (congrFun (zI_nw _ 75 _ _ (by decide)) i) c) ?_
    refine Eq.trans (if_neg (fun z => hi (z.2.trans h60))) ?_
    exact congrFun (congrFun (zI_ss _ 58 j 4 _ (by decide)) i) c
  · rw [zI_oth _ 60 e 1 _ (by decide)]
    exact zI_same _ 60 e 0 _
  · exact zI_same _ 60 e 1 _
theorem cE2_75 {g : zH} {e : Nat} (j m : Nat) (y : Int32) (h75 : zC g 75 = e) : (∀ i, i ≠ e → zI (cE2 g e j m y) 75 i = zI g 75 i) ∧ (∀ i, i < m → zI (cE2 g e j m y) 75 e i = zI g 74 0 i) ∧ (∀ i, i ≠ e → zN (cE2 g e j m y) 75 i = zN g 75 i) ∧ zN (cE2 g e j m y) 75 e = m := by
  refine ⟨fun i hi => ?_, fun i hi => ?_, fun i hi => ?_, ?_⟩
  · unfold cE2 eNew
    rw [zI_ss _ 0 0 13 _ (by decide), zI_ss _ 55 0 2 _ (by decide), zI_sR, zI_sR, zI_ss _ 60 e 1 _ (by decide), zI_ss _ 60 e 0 _ (by decide)]
    refine Eq.trans (if_neg (fun z => hi z.2)) ?_
    funext c
    refine Eq.trans (if_neg (fun z => hi (z.2.trans h75))) ?_
    exact congrFun (congrFun ((zI_nw _ 60 _ _ (by decide)).trans (zI_ss _ 58 j 4 _ (by decide))) i) c
  · unfold cE2 eNew
    rw [zI_ss _ 0 0 13 _ (by decide), zI_ss _ 55 0 2 _ (by decide), zI_sR, zI_sR, zI_ss _ 60 e 1 _ (by decide), zI_ss _ 60 e 0 _ (by decide)]
    refine Eq.trans (congrFun (if_pos ⟨rfl, rfl⟩) i) ?_
    refine Eq.trans (if_pos ⟨Nat.zero_le _, by omega⟩) ?_
    rw [show 0 + (i - 0) = i by omega]
    exact congrFun (congrFun ((zI_nw _ 75 _ _ (by decide)).trans ((zI_nw _ 60 _ _ (by decide)).trans (zI_ss _ 58 j 4 _ (by decide)))) 0) i
  · exact if_neg (fun z => hi (z.2.trans h75))
  · exact if_pos ⟨rfl, h75.symm⟩
theorem Wc.ed {g : zH} {e : Nat} (x : Wc g) (j m : Nat) (y : Int32) (h60 : zC g 60 = e) : Wc (cE2 g e j m y) := by
  obtain ⟨-, -, xp, xb, xs, n75, xe⟩ := id x
  have w0 : Wc0 (cE2 g e j m y) := (((x.o.nw 60 0 3 (by decide) (by decide)).nw 75 m m (by decide) (by decide)).sR 60 e 2 _ (by decide)).sR 62 0 e _ (by decide)
  refine ⟨w0.1, w0.2, xp, xb, xs, ?_, fun i hi => ?_⟩
  · show zC g 75 + 1 = zC g 60 + 1
    rw [n75]
  · replace hi : i < zC g 60 + 1 := hi
    by_cases q : i = e
    · subst q
      exact ⟨if_pos ⟨rfl, rfl, rfl⟩, if_pos ⟨rfl, rfl, rfl⟩⟩
    · obtain ⟨q1, q2⟩ := xe i (by omega)
      refine ⟨Eq.trans (if_neg (fun z => q z.2.2)) q1, ?_⟩
      refine Eq.trans (if_neg (fun z => q z.2.1)) ?_
      exact Eq.trans (if_neg (fun z => q (z.2.trans h60))) q2
theorem Wm.ed {g : zH} (x : Wm g) (e j m : Nat) (y : Int32) : Wm (cE2 g e j m y) := (((((SmM.rf g).nw 60 0 3 (by omega)).nw 75 m m (by omega)).sR 60 e 2 _ (by omega)).sR 62 0 e _ (by omega)).wm x
/-- the class's objects are as they were -/
def SmC (h h' : zH) : Prop := ∀ k, (k = 0 ∨ 50 ≤ k) → zR h' k = zR h k ∧ zN h' k = zN h k ∧ zC h' k = zC h k
theorem wcR_ge : ∀ q ∈ wcR, q.1.1 = 0 ∨ 50 ≤ q.1.1 := by decide
theorem wcN_ge : ∀ q ∈ wcN, q.1 = 0 ∨ 50 ≤ q.1 := by decide
theorem SmC.wc {a b : zH} (x : SmC a b) (hW : Wc a) : Wc b := by
  obtain ⟨w1, w2, w3, w4, w5, w6⟩ := hW
  refine ⟨fun q hq => ?_, fun q hq => ?_, ?_, ?_, ?_, ?_⟩
  · rw [(x _ (wcR_ge q hq)).1]; exact w1 q hq
  · rw [(x _ (wcN_ge q hq)).2.1]; exact w2 q hq
  · rw [(x 76 (by omega)).2.2, (x 77 (by omega)).2.2, (x 58 (by omega)).2.2, (x 50 (by omega)).1, (x 58 (by omega)).1, (x 76 (by omega)).2.1, (x 77 (by omega)).2.1]; exact w3
  · rw [(x 59 (by omega)).2.2, (x 51 (by omega)).1]; exact w4
  · rw [(x 61 (by omega)).2.2, (x 52 (by omega)).1]; exact w5
  · rw [(x 75 (by omega)).2.2, (x 60 (by omega)).2.2, (x 62 (by omega)).1, (x 60 (by omega)).1]; exact w6
theorem SmC.rf (h : zH) : SmC h h := fun _ _ => ⟨rfl, rfl, rfl⟩
theorem SmC.nw {a b : zH} (x : SmC a b) (k n w : Nat) (hk : 0 < k ∧ k < 50) : SmC a (znew b k n w) := fun k' h1 => ⟨(zR_nw b k n w (by omega)).trans (x k' h1).1, (zN_nw b k n w (by omega)).trans (x k' h1).2.1, (zC_nw b k n w (by omega)).trans (x k' h1).2.2⟩
theorem SmC.sR {a b : zH} (x : SmC a b) (k i j : Nat) (v : Option (Nat × Nat)) (hk : 0 < k ∧ k < 50) : SmC a (zsR b k i j v) := fun k' h1 => ⟨(zR_ss b k i j v (by omega)).trans (x k' h1).1, (x k' h1).2.1, (x k' h1).2.2⟩
theorem SmC.X12 {a b : zH} (x : SmC a b) (i : Nat) : SmC a (iX12 b i) := (((((((((((x.nw 35 12 12 (by omega)).sR 17 i 4 _ (by omega)).nw 36 12 12 (by omega)).sR 17 i 5 _ (by omega)).nw 37 12 12 (by omega)).sR 17 i 6 _ (by omega)).nw 38 12 12 (by omega)).sR 17 i 7 _ (by omega)).nw 39 320 320 (by omega)).sR 17 i 8 _ (by omega)).nw 40 320 320 (by omega)).sR 17 i 9 _ (by omega)
theorem Wc.ed2 {g : zH} (x : Wc g) (e j : Nat) (y : Int32) : Wc (mE2 g e j y) := by
  have s : SmC g (zsR (iX12 (znew (zsR (zsI (zsI g 17 e 0 (nI j)) 17 e 1 y) 16 0 e (some (17, e))) 17 0 10) (e + 1)) 1 0 16 (some (17, e + 1))) := ((((show SmC g (zsI (zsI g 17 e 0 (nI j)) 17 e 1 y) from fun _ _ => ⟨rfl, rfl, rfl⟩).sR 16 0 e _ (by omega)).nw 17 0 10 (by omega)).X12 (e + 1)).sR 1 0 16 _ (by omega)
  have w := s.wc x
  exact Wc.same (h := zsR (iX12 (znew (zsR (zsI (zsI g 17 e 0 (nI j)) 17 e 1 y) 16 0 e (some (17, e))) 17 0 10) (e + 1)) 1 0 16 (some (17, e + 1))) (h2 := mE2 g e j y) rfl w
theorem Wm.ed2 {g : zH} {e : Nat} (x : Wm g) (j : Nat) (y : Int32) (h17 : zC g 17 = e + 1) : Wm (mE2 g e j y) := by
  obtain ⟨w1, w2, ⟨-, -, w3⟩, ⟨c35, c36, c37, c38, c39, c40⟩, w5⟩ := id x
  have d1 : ∀ q ∈ wmR, q.1.1 = 1 ∧ q.1.2 ≠ 16 := by decide
  have d2 : ∀ q ∈ wmN, q.1 ≠ 17 ∧ (q.1 < 35 ∨ 40 < q.1) := by decide
  refine ⟨fun q hq => ?_, fun q hq => ?_, ⟨?_, ?_, fun i hi => ?_⟩, ?_, fun i hi => ?_⟩
  · obtain ⟨a, b⟩ := d1 q hq
    have hw := w1 q hq
    rw [a] at hw ⊢
    exact Eq.trans (if_neg (fun z => b z.2.2)) hw
  · obtain ⟨a, b⟩ := d2 q hq
    have hw := w2 q hq
    refine Eq.trans ?_ hw
    refine Eq.trans (if_neg (fun z => absurd z.1 (by omega))) ?_
    refine Eq.trans (if_neg (fun z => absurd z.1 (by omega))) ?_
    refine Eq.trans (if_neg (fun z => absurd z.1 (by omega))) ?_
    refine Eq.trans (if_neg (fun z => absurd z.1 (by omega))) ?_
    refine Eq.trans (if_neg (fun z => absurd z.1 (by omega))) ?_
    refine Eq.trans (if_neg (fun z => absurd z.1 (by omega))) ?_
    exact if_neg (fun z => absurd z.1 a)
  · show 0 < zC g 17 + 1
    omega
  · refine Eq.trans (b := some (17, e + 1)) rfl ?_
    show some (17, e + 1) = some (17, zC g 17 + 1 - 1)
    rw [h17, Nat.add_sub_cancel]
  · replace hi : i + 1 < zC g 17 + 1 := hi
    by_cases q : i = e
    · subst q
      exact if_pos ⟨rfl, rfl, rfl⟩
    · exact Eq.trans (if_neg (fun z => q z.2.2)) (w3 i (by omega))
  · refine ⟨?_, ?_, ?_, ?_, ?_, ?_⟩
    · show zC g 35 + 1 = zC g 17 + 1
      rw [c35]
    · show zC g 36 + 1 = zC g 17 + 1
      rw [c36]
    · show zC g 37 + 1 = zC g 17 + 1
      rw [c37]
    · show zC g 38 + 1 = zC g 17 + 1
      rw [c38]
    · show zC g 39 + 1 = zC g 17 + 1
      rw [c39]
    · show zC g 40 + 1 = zC g 17 + 1
      rw [c40]
  · replace hi : i < zC g 17 + 1 := hi
    by_cases q : i = e + 1
    · subst q
      refine ⟨⟨?_, ?_, ?_, ?_, ?_, ?_⟩, ?_, ?_, ?_, ?_, ?_, ?_⟩
      · refine Eq.trans (if_neg (fun z => absurd z.2.2 (by decide : ¬ 4 = 9))) ?_
        refine Eq.trans (if_neg (fun z => absurd z.2.2 (by decide : ¬ 4 = 8))) ?_
        refine Eq.trans (if_neg (fun z => absurd z.2.2 (by decide : ¬ 4 = 7))) ?_
        refine Eq.trans (if_neg (fun z => absurd z.2.2 (by decide : ¬ 4 = 6))) ?_
        refine Eq.trans (if_neg (fun z => absurd z.2.2 (by decide : ¬ 4 = 5))) ?_
        refine Eq.trans (if_pos ⟨rfl, rfl, rfl⟩) ?_
        show some (35, zC g 35) = _
        rw [c35, h17]
      · refine Eq.trans (if_neg (fun z => absurd z.2.2 (by decide : ¬ 5 = 9))) ?_
        refine Eq.trans (if_neg (fun z => absurd z.2.2 (by decide : ¬ 5 = 8))) ?_
        refine Eq.trans (if_neg (fun z => absurd z.2.2 (by decide : ¬ 5 = 7))) ?_
        refine Eq.trans (if_neg (fun z => absurd z.2.2 (by decide : ¬ 5 = 6))) ?_
        refine Eq.trans (if_pos ⟨rfl, rfl, rfl⟩) ?_
        show some (36, zC g 36) = _
        rw [c36, h17]
      · refine Eq.trans (if_neg (fun z => absurd z.2.2 (by decide : ¬ 6 = 9))) ?_
        refine Eq.trans (if_neg (fun z => absurd z.2.2 (by decide : ¬ 6 = 8))) ?_
        refine Eq.trans (if_neg (fun z => absurd z.2.2 (by decide : ¬ 6 = 7))) ?_
        refine Eq.trans (if_pos ⟨rfl, rfl, rfl⟩) ?_
        show some (37, zC g 37) = _
        rw [c37, h17]
      · refine Eq.trans (if_neg (fun z => absurd z.2.2 (by decide : ¬ 7 = 9))) ?_
        refine Eq.trans (if_neg (fun z => absurd z.2.2 (by decide : ¬ 7 = 8))) ?_
        refine Eq.trans (if_pos ⟨rfl, rfl, rfl⟩) ?_
        show some (38, zC g 38) = _
        rw [c38, h17]
      · refine Eq.trans (if_neg (fun z => absurd z.2.2 (by decide : ¬ 8 = 9))) ?_
        refine Eq.trans (if_pos ⟨rfl, rfl, rfl⟩) ?_
        show some (39, zC g 39) = _
        rw [c39, h17]
      · refine Eq.trans (if_pos ⟨rfl, rfl, rfl⟩) ?_
        show some (40, zC g 40) = _
        rw [c40, h17]
      · exact if_pos ⟨rfl, (c35.trans h17).symm⟩
      · exact if_pos ⟨rfl, (c36.trans h17).symm⟩
      · exact if_pos ⟨rfl, (c37.trans h17).symm⟩
      · exact if_pos ⟨rfl, (c38.trans h17).symm⟩
      · exact if_pos ⟨rfl, (c39.trans h17).symm⟩
      · exact if_pos ⟨rfl, (c40.trans h17).symm⟩
    · obtain ⟨⟨q4, q5, q6, q7, q8, q9⟩, n35, n36, n37, n38, n39, n40⟩ := w5 i (by omega)
      have hR : ∀ t, zR (mE2 g e j y) 17 i t = zR g 17 i t := fun t => by
        refine Eq.trans (if_neg (fun z => q z.2.1)) ?_
        refine Eq.trans (if_neg (fun z => q z.2.1)) ?_
        refine Eq.trans (if_neg (fun z => q z.2.1)) ?_
        refine Eq.trans (if_neg (fun z => q z.2.1)) ?_
        refine Eq.trans (if_neg (fun z => q z.2.1)) ?_
        refine Eq.trans (if_neg (fun z => q z.2.1)) ?_
        exact if_neg (fun z => q (z.2.trans h17))
      refine ⟨⟨(hR 4).trans q4, (hR 5).trans q5, (hR 6).trans q6, (hR 7).trans q7, (hR 8).trans q8, (hR 9).trans q9⟩, ?_, ?_, ?_, ?_, ?_, ?_⟩
      · exact Eq.trans (if_neg (fun z => q (z.2.trans (c35.trans h17)))) n35
      · exact Eq.trans (if_neg (fun z => q (z.2.trans (c36.trans h17)))) n36
      · exact Eq.trans (if_neg (fun z => q (z.2.trans (c37.trans h17)))) n37
      · exact Eq.trans (if_neg (fun z => q (z.2.trans (c38.trans h17)))) n38
      · exact Eq.trans (if_neg (fun z => q (z.2.trans (c39.trans h17)))) n39
      · exact Eq.trans (if_neg (fun z => q (z.2.trans (c40.trans h17)))) n40
/-- the model's fields behind an edict more -/
theorem mE2_I {g : zH} {e : Nat} (x : Wm g) (j : Nat) (y : Int32) (h17 : zC g 17 = e + 1) : (∀ k, k ≠ 1 → k ≠ 17 → (k < 35 ∨ 40 < k) → zI (mE2 g e j y) k = zI g k) ∧ (∀ i, i ≠ 1 → i ≠ 2 → i ≠ 14 → zI (mE2 g e j y) 1 0 i = zI g 1 0 i) ∧ zI (mE2 g e j y) 1 0 14 = nI (e + 1) ∧ zI (mE2 g e j y) 1 0 1 = 0 ∧ zI (mE2 g e j y) 1 0 2 = -1 ∧ (∀ i t, i ≠ e + 1 → ¬ (i = e ∧ t ≤ 1) → zI (mE2 g e j y) 17 i t = zI g 17 i t) ∧ zI (mE2 g e j y) 17 e 0 = nI j ∧ zI (mE2 g e j y) 17 e 1 = y ∧ (∀ k i, 35 ≤ k → k ≤ 40 → i ≠ e + 1 → zI (mE2 g e j y) k i = zI g k i) ∧ ∀ k, k ≠ 17 → (k < 35 ∨ 40 < k) → zL (mE2 g e j y) k = zL g k := by
  obtain ⟨w1, w2, ⟨-, -, w3⟩, ⟨c35, c36, c37, c38, c39, c40⟩, w5⟩ := id x
  refine ⟨fun k h1 h17' h35 => ?_, fun i h1 h2 h14 => ?_, ?_, rfl, rfl, fun i t hi ht => ?_, ?_, ?_, fun k i k1 k2 hi => ?_, fun k h17' h35 => ?_⟩
  · funext a b
    refine Eq.trans (if_neg (fun z => h1 z.1)) ?_
    refine Eq.trans (if_neg (fun z => h1 z.1)) ?_
    refine Eq.trans (if_neg (fun z => h1 z.1)) ?_
    refine Eq.trans (if_neg (fun z => absurd z.1 (by omega))) ?_
    refine Eq.trans (if_neg (fun z => absurd z.1 (by omega))) ?_
    refine Eq.trans (if_neg (fun z => absurd z.1 (by omega))) ?_
    refine Eq.trans (if_neg (fun z => absurd z.1 (by omega))) ?_
    refine Eq.trans (if_neg (fun z => absurd z.1 (by omega))) ?_
    refine Eq.trans (if_neg (fun z => absurd z.1 (by omega))) ?_
    refine Eq.trans (if_neg (fun z => absurd z.1 h17')) ?_
    refine Eq.trans (if_neg (fun z => absurd z.1 h17')) ?_
    exact if_neg (fun z => absurd z.1 h17')
  · refine Eq.trans (if_neg (fun z => h2 z.2.2)) ?_
    refine Eq.trans (if_neg (fun z => h1 z.2.2)) ?_
    exact if_neg (fun z => h14 z.2.2)
  · rfl
  · refine Eq.trans (if_neg (fun z => hi (z.2.trans h17))) ?_
    refine Eq.trans (if_neg (fun z => ht ⟨z.2.1, by omega⟩)) ?_
    exact if_neg (fun z => ht ⟨z.2.1, by omega⟩)
  · refine Eq.trans (if_neg (fun z => absurd (z.2.trans h17) (by omega))) ?_
    refine Eq.trans (if_neg (fun z => absurd z.2.2 (by decide : ¬ 0 = 1))) ?_
    exact if_pos ⟨rfl, rfl, rfl⟩
  · refine Eq.trans (if_neg (fun z => absurd (z.2.trans h17) (by omega))) ?_
    exact if_pos ⟨rfl, rfl, rfl⟩
  · funext t
    have hk : k = 35 ∨ k = 36 ∨ k = 37 ∨ k = 38 ∨ k = 39 ∨ k = 40 := by omega
    rcases hk with rfl | rfl | rfl | rfl | rfl | rfl
    · exact if_neg (fun z => hi (z.2.trans (c35.trans h17)))
    · exact if_neg (fun z => hi (z.2.trans (c36.trans h17)))
    · exact if_neg (fun z => hi (z.2.trans (c37.trans h17)))
    · exact if_neg (fun z => hi (z.2.trans (c38.trans h17)))
    · exact if_neg (fun z => hi (z.2.trans (c39.trans h17)))
    · exact if_neg (fun z => hi (z.2.trans (c40.trans h17)))
  · funext a b
    refine Eq.trans (if_neg (fun z => absurd z.1 (by omega))) ?_
    refine Eq.trans (if_neg (fun z => absurd z.1 (by omega))) ?_
    refine Eq.trans (if_neg (fun z => absurd z.1 (by omega))) ?_
    refine Eq.trans (if_neg (fun z => absurd z.1 (by omega))) ?_
    refine Eq.trans (if_neg (fun z => absurd z.1 (by omega))) ?_
    refine Eq.trans (if_neg (fun z => absurd z.1 (by omega))) ?_
    exact if_neg (fun z => absurd z.1 h17')
