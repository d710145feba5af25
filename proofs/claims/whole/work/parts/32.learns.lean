-- learn, price of the class, by program (wip/gen/p32.py)
def prV (pf : Nat → Option (List (Bool × List (Nat × Int32)))) (dy : Bool) (m n : Int32) : Nat → Int32
  | 0 => yv (pf 0) dy (nI 0) m n 0
  | y + 1 => yv (pf (y + 1)) dy (nI (y + 1)) m n (prV pf dy m n y)
theorem prV_old (pf : Nat → Option (List (Bool × List (Nat × Int32)))) (dy : Bool) (m n : Int32) (y : Nat) : prV pf dy m n y = yv (pf y) dy (nI y) m n (oldv (prV pf dy m n) y) := by
  cases y <;> rfl
/-- the program in force in province p, year y -/
def pfC (eP eY : Nat → Int32) (nE : Nat) (pg : Nat → List (Bool × List (Nat × Int32))) (p y : Nat) : Option (List (Bool × List (Nat × Int32))) := if mF eP eY (nI p) (nI y) nE = -2 then none else some (pg (mF eP eY (nI p) (nI y) nE).toNatClampNeg)
/-- the years that a province knows -/
def MM (h : zH) (pf : Nat → Option (List (Bool × List (Nat × Int32)))) (m n : Int32) (p k : Nat) : Prop := ∀ y, y < k → zI h 76 p y = prV pf false m n y ∧ zI h 77 p y = prV pf true m n y
def FrL (p : Nat) (h h' : zH) : Prop := h'.2 = h.2 ∧ (∀ k, k ≠ 63 → k ≠ 78 → k ≠ 76 → k ≠ 77 → k ≠ 58 → zI h' k = zI h k) ∧ (∀ i j, ¬ (i = p ∧ j = 4) → zI h' 58 i j = zI h 58 i j) ∧ ∀ i, i ≠ p → zI h' 76 i = zI h 76 i ∧ zI h' 77 i = zI h 77 i
theorem FrL.rf (p : Nat) (h : zH) : FrL p h h := ⟨rfl, fun _ _ _ _ _ _ => rfl, fun _ _ _ => rfl, fun _ _ => ⟨rfl, rfl⟩⟩
theorem FrL.tr {p : Nat} {a b c : zH} (x : FrL p a b) (z : FrL p b c) : FrL p a c := ⟨z.1.trans x.1, fun k h1 h2 h3 h4 h5 => (z.2.1 k h1 h2 h3 h4 h5).trans (x.2.1 k h1 h2 h3 h4 h5), fun i j h => (z.2.2.1 i j h).trans (x.2.2.1 i j h), fun i h => ⟨(z.2.2.2 i h).1.trans (x.2.2.2 i h).1, (z.2.2.2 i h).2.trans (x.2.2.2 i h).2⟩⟩
theorem FrY.L {p y : Nat} {a b : zH} (x : FrY p y a b) : FrL p a b := ⟨x.1, fun k h1 h2 h3 h4 _ => x.2.1 k h1 h2 h3 h4, fun i j _ => by rw [x.2.1 58 (by decide) (by decide) (by decide) (by decide)], fun i hi => ⟨funext (fun j => x.2.2.1 i j (fun q => hi q.1)), funext (fun j => x.2.2.2 i j (fun q => hi q.1))⟩⟩
theorem FrL.k {p : Nat} {a b : zH} (x : FrL p a b) (v : Int32) : FrL p a (zsI b 58 p 4 v) := ⟨x.1, fun k h1 h2 h3 h4 h5 => by
  rw [← x.2.1 k h1 h2 h3 h4 h5]
  funext i j
  exact if_neg (fun z => h5 z.1), fun i j h => (if_neg (fun z => h ⟨z.2.1, z.2.2⟩)).trans (x.2.2.1 i j h), fun i hi => x.2.2.2 i hi⟩
theorem lX2_learn (l : Launch) (h : zH) (hW : Wc h) (pg : Nat → List (Bool × List (Nat × Int32))) (p Y k0 : Nat) (hp : p < zC h 58) (hp10 : p < 1000) (hY2 : Y < 100) (hk : k0 ≤ 100) (nE : Nat) (hE : zI h 55 0 2 = nI nE) (hE2 : nE ≤ 30) (hE3 : zC h 60 = nE) (hY : ∀ e, e < nE → 0 ≤ cY h e) (hC : ∀ e, e < nE → CR h e (pg e)) : ∀ kk y : Nat, y + kk = max k0 (Y + 1) → k0 ≤ y → ∀ hv, FrL p h hv → zI hv 58 p 4 = nI y → MM hv (pfC (cP h) (cY h) nE pg p) (zI h 58 p 0) (zI h 58 p 1) p y → Wp l mX2_learn 7 6 [some (Vq (some (55, 0))), some (Vq (some (58, p))), some (Vi (nI p)), some (Vi (nI Y)), some (Vi (nI y))] [] hv (fun o h' => o = R0 ∧ FrL p h h' ∧ zI h' 58 p 4 = nI (max k0 (Y + 1)) ∧ MM h' (pfC (cP h) (cY h) nE pg p) (zI h 58 p 0) (zI h 58 p 1) p (max k0 (Y + 1))) := by
  intro kk
  induction kk with
  | zero =>
    intro y hy hky hv hF h4 hM
    refine w_iload (zat TX2_learn 3 rfl) rfl ?_
    refine w_iload_n (zat TX2_learn 4 rfl) rfl ?_
    refine w_icmp_gt 41 (zat TX2_learn 5 rfl) (by decide) (fun Hc9 => ?_) (fun Hc9 => ?_)
    · refine w_return (zat TX2_learn 21 rfl) rfl ?_
      rw [show max k0 (Y + 1) = y by omega]
      exact ⟨rfl, hF, h4, hM⟩
    · exact absurd (nI_lt (show Y < y by omega) (by omega)) Hc9
  | succ kk ih =>
    intro y hy hky hv hF h4 hM
    have hg : hv.2.2 = h.2.2 := congrArg Prod.snd hF.1
    have hW2 : Wc hv := Wc.same hg hW
    have hp2 : p < zC hv 58 := by unfold zC; rw [hg]; exact hp
    have ecP : cP hv = cP h := funext (fun e => by unfold cP; rw [hF.2.1 60 (by decide) (by decide) (by decide) (by decide) (by decide)])
    have ecY : cY hv = cY h := funext (fun e => by unfold cY; rw [hF.2.1 60 (by decide) (by decide) (by decide) (by decide) (by decide)])
    have hEv : zI hv 55 0 2 = nI nE := by rw [hF.2.1 55 (by decide) (by decide) (by decide) (by decide) (by decide)]; exact hE
    have hE3v : zC hv 60 = nE := by unfold zC; rw [hg]; exact hE3
    have hYv : ∀ e, e < nE → 0 ≤ cY hv e := by rw [ecY]; exact hY
    have hCv : ∀ e, e < nE → CR hv e (pg e) := fun e he => by
      have hc := hC e he
      exact ⟨by rw [← hc.1]; unfold zN; rw [hg], hc.2.1, fun j w hj => by rw [hF.2.1 75 (by decide) (by decide) (by decide) (by decide) (by decide)]; exact hc.2.2.1 j w hj, hc.2.2.2⟩
    have hm : zI hv 58 p 0 = zI h 58 p 0 := hF.2.2.1 p 0 (by omega)
    have hn : zI hv 58 p 1 = zI h 58 p 1 := hF.2.2.1 p 1 (by omega)
    have hpf : pfC (cP h) (cY h) nE pg p y = (if mF (cP hv) (cY hv) (nI p) (nI y) nE = -2 then none else some (pg (mF (cP hv) (cY hv) (nI p) (nI y) nE).toNatClampNeg)) := by rw [ecP, ecY]; rfl
    have hct := qX2_learnYear l hv hW2 pg p y hp2 hp10 (by omega) nE hEv hE2 hE3v hYv hCv _ hpf
    refine w_iload (zat TX2_learn 3 rfl) rfl ?_
    refine w_iload_n (zat TX2_learn 4 rfl) rfl ?_
    refine w_icmp_gt 41 (zat TX2_learn 5 rfl) (by decide) (fun Hc9 => ?_) (fun Hc9 => ?_)
    · exact absurd Hc9 (nI_nlt (by omega) (by omega))
    · refine w_iload (zat TX2_learn 6 rfl) rfl ?_
      refine w_bipush (v := 99) (zat TX2_learn 7 rfl) (by decide) ?_
      refine w_icmp_gt 41 (zat TX2_learn 8 rfl) (by decide) (fun Hc16 => ?_) (fun Hc16 => ?_)
      · exact absurd Hc16 (show ¬ nI 99 < nI y from nI_nlt (by omega) (by omega))
      · refine w_aload_n (zat TX2_learn 9 rfl) rfl ?_
        refine w_aload_n (zat TX2_learn 10 rfl) rfl ?_
        refine w_iload_n (zat TX2_learn 11 rfl) rfl ?_
        refine w_iload (zat TX2_learn 12 rfl) rfl ?_
        refine x_call4 (hct) (by decide) kX2_learnYear (rdy_V (zat TX2_learn 13 rfl) kX2_learnYear pX2_learnYear zw657 zw659 zw16 (zrc (by decide) (by decide) rfl)) (Nat.le_of_ble_eq_true rfl) rfl rfl (fun v h2 hq => ?_) (fun r h2 hq => by cases hq.1)
        obtain ⟨hq1, hF2, hv1, hv2⟩ := hq
        cases hq1
        refine w_aload_n (zat TX2_learn 14 rfl) rfl ?_
        refine w_iload (zat TX2_learn 15 rfl) rfl ?_
        refine w_iconst (v := 1) (zat TX2_learn 16 rfl) (by decide) ?_
        refine w_iadd (zat TX2_learn 17 rfl) ?_
        rw [nI_1]
        refine w_putI (zat TX2_learn 18 rfl) gX2_learn_38 s58 (by decide) (by decide) rfl ⟨rfl, rfl⟩ ?_
        refine x_iinc (v := nI (y + 1)) (ls2 := [_, _, _, _, _]) (zat TX2_learn 19 rfl) rfl (nI_inc y) rfl ?_
        refine w_goto 6 (zat TX2_learn 20 rfl) (by decide) ?_
        refine ih (y + 1) (by omega) (by omega) _ (hF.tr (hF2.L.k _)) (zI_same _ 58 p 4 _) (fun z hz => ?_)
        show zI h2 76 p z = _ ∧ zI h2 77 p z = _
        by_cases e : z = y
        · subst e
          have o1 : oldv (zI hv 76 p) z = oldv (prV (pfC (cP h) (cY h) nE pg p) false (zI h 58 p 0) (zI h 58 p 1)) z := by
            cases z with
            | zero => rfl
            | succ z => exact (hM z (by omega)).1
          have o2 : oldv (zI hv 77 p) z = oldv (prV (pfC (cP h) (cY h) nE pg p) true (zI h 58 p 0) (zI h 58 p 1)) z := by
            cases z with
            | zero => rfl
            | succ z => exact (hM z (by omega)).2
          rw [hv1, hv2, hm, hn, o1, o2, ← prV_old, ← prV_old]
          exact ⟨rfl, rfl⟩
        · rw [hF2.2.2.1 p z (fun q => e q.2), hF2.2.2.2 p z (fun q => e q.2)]
          exact hM z (by omega)
theorem qX2_learn (l : Launch) (h : zH) (hW : Wc h) (pg : Nat → List (Bool × List (Nat × Int32))) (p Y k0 : Nat) (hp : p < zC h 58) (hp10 : p < 1000) (hY2 : Y < 100) (hk : k0 ≤ 100) (nE : Nat) (hE : zI h 55 0 2 = nI nE) (hE2 : nE ≤ 30) (hE3 : zC h 60 = nE) (hY : ∀ e, e < nE → 0 ≤ cY h e) (hC : ∀ e, e < nE → CR h e (pg e)) (hk0 : zI h 58 p 4 = nI k0) (hM : MM h (pfC (cP h) (cY h) nE pg p) (zI h 58 p 0) (zI h 58 p 1) p k0) : Ct l 7 mX2_learn [Vq (some (55, 0)), Vq (some (58, p)), Vi (nI p), Vi (nI Y)] h (fun o h' => o = R0 ∧ FrL p h h' ∧ zI h' 58 p 4 = nI (max k0 (Y + 1)) ∧ MM h' (pfC (cP h) (cY h) nE pg p) (zI h 58 p 0) (zI h 58 p 1) p (max k0 (Y + 1))) := by
  refine Ct.in 1 kX2_learn (plainFor_of_name rfl) (Nat.le_of_ble_eq_true rfl) ?_
  refine w_aload_n (zat TX2_learn 0 rfl) rfl ?_
  refine y_getI (v := nI k0) (zat TX2_learn 1 rfl) fX2_38 s58 (by decide) (by decide) rfl hk0 ?_
  refine x_istore (ls2 := [_, _, _, _, _]) (zat TX2_learn 2 rfl) (by decide) rfl ?_
  exact lX2_learn l h hW pg p Y k0 hp hp10 hY2 hk nE hE hE2 hE3 hY hC (max k0 (Y + 1) - k0) k0 (by omega) (by omega) h (FrL.rf p h) hk0 hM
