-- survey of the class: seats, by program (wip/gen/p57.py)
theorem FrS.seat (h : zH) (j p Y : Nat) : FrS h (cSeat h j p Y) := ⟨rfl, fun k _ _ _ _ _ _ h7 _ _ _ _ => funext (fun i => funext (fun x => if_neg (fun z => h7 z.1))), fun _ _ _ => rfl, fun k h1 h2 => funext (fun i => funext (fun x => (if_neg (fun z => h2 z.1)).trans (if_neg (fun z => h1 z.1)))), fun _ _ _ => rfl⟩
/-- the province p is seated -/
def SE (h : zH) (p : Nat) (pr du m n : Int32) : Prop := zI h 64 0 p = pr ∧ zL h 65 0 p = m.toInt64 * du.toInt64 ∧ zL h 66 0 p = m.toInt64 * (n - du).toInt64
theorem st_o {h : zH} {p k : Nat} {v : Int32} {a b : Int64} (e : k ≠ p) : zI (zsL (zsL (zsI h 64 0 p v) 65 0 p a) 66 0 p b) 64 0 k = zI h 64 0 k ∧ zL (zsL (zsL (zsI h 64 0 p v) 65 0 p a) 66 0 p b) 65 0 k = zL h 65 0 k ∧ zL (zsL (zsL (zsI h 64 0 p v) 65 0 p a) 66 0 p b) 66 0 k = zL h 66 0 k := ⟨zI_oth h 64 0 p v e, zL_oth (zsI h 64 0 p v) 65 0 p a e, zL_oth (zsL (zsI h 64 0 p v) 65 0 p a) 66 0 p b e⟩
theorem st_m (h : zH) (p : Nat) (v : Int32) (a b : Int64) : zI (zsL (zsL (zsI h 64 0 p v) 65 0 p a) 66 0 p b) 64 0 p = v ∧ zL (zsL (zsL (zsI h 64 0 p v) 65 0 p a) 66 0 p b) 65 0 p = a ∧ zL (zsL (zsL (zsI h 64 0 p v) 65 0 p a) 66 0 p b) 66 0 p = b := ⟨zI_same h 64 0 p v, zL_same (zsI h 64 0 p v) 65 0 p a, zL_same (zsL (zsI h 64 0 p v) 65 0 p a) 66 0 p b⟩
theorem SE.oth {h : zH} {p q Y k : Nat} {pr du m n : Int32} (e : k ≠ p) (x : SE h k pr du m n) : SE (cSeat h p q Y) k pr du m n := by
  unfold SE cSeat
  rw [(st_o e).1, (st_o e).2.1, (st_o e).2.2]
  exact x
theorem SE.me (h : zH) (p q Y : Nat) : SE (cSeat h p q Y) p (zI h 76 q Y) (zI h 77 q Y) (zI h 58 q 0) (zI h 58 q 1) := st_m h p _ _ _
theorem lX11_survey_24 (l : Launch) (h0 : zH) (hW0 : Wc h0) (pg : Nat → List (Bool × List (Nat × Int32))) (nP Y : Nat) (hP2 : nP ≤ 10) (hP3 : zC h0 58 = nP) (hYl : Y < 100) (nE : Nat) (hE : zI h0 55 0 2 = nI nE) (hE2 : nE ≤ 30) (hE3 : zC h0 60 = nE) (hY : ∀ e, e < nE → 0 ≤ cY h0 e) (hC : ∀ e, e < nE → CR h0 e (pg e)) (hP0 : zI h0 0 0 8 = nI nP) (hY0 : zI h0 0 0 11 = nI Y) (Q : zO → zH → Prop) (x10 : Int32) (K : ∀ h, FrS h0 h → MO h nP (pfC (cP h0) (cY h0) nE pg) (fun p => zI h0 58 p 0) (fun p => zI h0 58 p 1) → zI h 56 0 9 = nI nP ∧ zI h 56 0 10 = x10 → (∀ p, p < nP → SE h p (prV ((pfC (cP h0) (cY h0) nE pg) p) false (zI h0 58 p 0) (zI h0 58 p 1) Y) (prV ((pfC (cP h0) (cY h0) nE pg) p) true (zI h0 58 p 0) (zI h0 58 p 1) Y) (zI h0 58 p 0) (zI h0 58 p 1)) → ∀ y x, Wp l mX11_survey 8 71 [some (Vq (some (0, 0))), y, x] [] h Q) : ∀ kk s : Nat, s + kk = nP → ∀ h, FrS h0 h → MO h nP (pfC (cP h0) (cY h0) nE pg) (fun p => zI h0 58 p 0) (fun p => zI h0 58 p 1) → zI h 56 0 9 = nI nP ∧ zI h 56 0 10 = x10 → (∀ p, p < s → SE h p (prV ((pfC (cP h0) (cY h0) nE pg) p) false (zI h0 58 p 0) (zI h0 58 p 1) Y) (prV ((pfC (cP h0) (cY h0) nE pg) p) true (zI h0 58 p 0) (zI h0 58 p 1) Y) (zI h0 58 p 0) (zI h0 58 p 1)) → ∀ x, Wp l mX11_survey 8 24 [some (Vq (some (0, 0))), some (Vi (nI s)), x] [] h Q := by
  intro kk
  induction kk with
  | zero =>
    intro s hs h hF hMO hN hS x
    have hg := hF.1
    have hW := Wc.same hg hW0
    have hP : zI h 0 0 8 = nI nP := by rw [hF.2.1 0 (by decide) (by decide) (by decide) (by decide) (by decide) (by decide) (by decide) (by decide) (by decide) (by decide) (by decide)]; exact hP0
    have hYh : zI h 0 0 11 = nI Y := by rw [hF.2.1 0 (by decide) (by decide) (by decide) (by decide) (by decide) (by decide) (by decide) (by decide) (by decide) (by decide) (by decide)]; exact hY0
    have hz : s < zC h 58 ↔ s < nP := by unfold zC at hP3 ⊢; rw [hg, hP3]
    refine w_iload_n (zat TX11_survey_0 12 rfl) rfl ?_
    refine w_aload_n (zat TX11_survey_0 13 rfl) rfl ?_
    refine y_getI (v := nI nP) (zat TX11_survey_0 14 rfl) fX11_62 s0 (by decide) (by decide) rfl hP ?_
    refine w_icmp_ge 71 (zat TX11_survey_0 15 rfl) (by decide) (fun Hc29 => ?_) (fun Hc29 => ?_)
    · exact K h hF hMO hN (fun p hp => hS p (by omega)) _ _
    · exact absurd (nI_le (by omega) (by omega)) Hc29
  | succ kk ih =>
    intro s hs h hF hMO hN hS x
    have hg := hF.1
    have hW := Wc.same hg hW0
    have hP : zI h 0 0 8 = nI nP := by rw [hF.2.1 0 (by decide) (by decide) (by decide) (by decide) (by decide) (by decide) (by decide) (by decide) (by decide) (by decide) (by decide)]; exact hP0
    have hYh : zI h 0 0 11 = nI Y := by rw [hF.2.1 0 (by decide) (by decide) (by decide) (by decide) (by decide) (by decide) (by decide) (by decide) (by decide) (by decide) (by decide)]; exact hY0
    have hz : s < zC h 58 ↔ s < nP := by unfold zC at hP3 ⊢; rw [hg, hP3]
    refine w_iload_n (zat TX11_survey_0 12 rfl) rfl ?_
    refine w_aload_n (zat TX11_survey_0 13 rfl) rfl ?_
    refine y_getI (v := nI nP) (zat TX11_survey_0 14 rfl) fX11_62 s0 (by decide) (by decide) rfl hP ?_
    refine w_icmp_ge 71 (zat TX11_survey_0 15 rfl) (by decide) (fun Hc29 => ?_) (fun Hc29 => ?_)
    · exact absurd Hc29 (nI_ge (by omega) (by omega))
    · refine w_aload_n (zat TX11_survey_0 16 rfl) rfl ?_
      refine w_getR (zat TX11_survey_0 17 rfl) fX11_11 s0 (by decide) (by decide) rfl (wcr hW 0 rfl) ?_
      refine w_iload_n (zat TX11_survey_0 18 rfl) rfl ?_
      refine x_aaload s _ (zat TX11_survey_0 19 rfl) (by decide) (by decide) ⟨_, rfl⟩ (wcn hW 0 rfl) (by decide) rfl (by omega) ((hW.2.2.1.2.2 s (hz.mpr (by omega))).1) ?_
      refine x_astore_n (ls2 := [_, _, _]) (zat TX11_survey_0 20 rfl) (by decide) rfl ?_
      refine w_aload_n (zat TX11_survey_0 21 rfl) rfl ?_
      refine w_getR (zat TX11_survey_0 22 rfl) fX11_44 s0 (by decide) (by decide) rfl (wcr hW 5 rfl) ?_
      refine w_aload_n (zat TX11_survey_0 23 rfl) rfl ?_
      refine w_iload_n (zat TX11_survey_0 24 rfl) rfl ?_
      refine w_aload_n (zat TX11_survey_0 25 rfl) rfl ?_
      refine y_getI (v := nI Y) (zat TX11_survey_0 26 rfl) fX11_72 s0 (by decide) (by decide) rfl hYh ?_
      refine x_call4 (qX2_learn_w l h0 hW0 pg nP Y hP2 hP3 hYl nE hE hE2 hE3 hY hC h hF hMO s (by omega)) (by decide) kX2_learn (rdy_V (zat TX11_survey_0 27 rfl) kX2_learn pX2_learn zw653 zw654 zw655 (zrc (by decide) (by decide) rfl)) (Nat.le_of_ble_eq_true rfl) rfl rfl (fun v h2 hq => ?_) (fun r h2 hq => by cases hq.1)
      obtain ⟨hq1, hFL, v1, v2, hMO2⟩ := hq
      cases hq1
      have hF2 := hF.tr hFL.S
      have hg2 := hF2.1
      have hW2 := Wc.same hg2 hW0
      have hYh2 : zI h2 0 0 11 = nI Y := by rw [hF2.2.1 0 (by decide) (by decide) (by decide) (by decide) (by decide) (by decide) (by decide) (by decide) (by decide) (by decide) (by decide)]; exact hY0
      have hp2 : s < zC h2 58 := by unfold zC at hP3 ⊢; rw [hg2, hP3]; omega
      refine w_aload_n (zat TX11_survey_0 28 rfl) rfl ?_
      refine w_getR (zat TX11_survey_0 29 rfl) fX11_51 s0 (by decide) (by decide) rfl (wcr hW2 6 rfl) ?_
      refine w_iload_n (zat TX11_survey_0 30 rfl) rfl ?_
      refine w_aload_n (zat TX11_survey_0 31 rfl) rfl ?_
      refine w_aload_n (zat TX11_survey_0 32 rfl) rfl ?_
      refine y_getI (v := nI Y) (zat TX11_survey_0 33 rfl) fX11_72 s0 (by decide) (by decide) rfl hYh2 ?_
      refine x_callu4 (qX3_seat l h2 hW2 s s Y (by omega) hp2 hYl) (by decide) kX3_seat (rdy_V (zat TX11_survey_0 34 rfl) kX3_seat pX3_seat zw708 zw709 zw710 (zrc (by decide) (by decide) rfl)) (Nat.le_of_ble_eq_true rfl) rfl rfl ?_
      refine x_iinc (v := nI (s + 1)) (ls2 := [_, _, _]) (zat TX11_survey_0 35 rfl) rfl (nI_inc s) rfl ?_
      refine w_goto 24 (zat TX11_survey_0 36 rfl) (by decide) ?_
      refine ih (s + 1) (by omega) _ (hF2.tr (FrS.seat h2 s s Y)) (fun p hp => hMO2 p hp) ?_ (fun p hp => ?_) _
      · show zI h2 56 0 9 = _ ∧ zI h2 56 0 10 = _
        rw [hFL.2.1 56 (by decide) (by decide) (by decide) (by decide) (by decide)]
        exact hN
      · by_cases e : p = s
        · subst e
          have Hs := SE.me h2 p p Y
          rw [v1, v2, hF2.2.2.1 p 0 (by decide), hF2.2.2.1 p 1 (by decide)] at Hs
          exact Hs
        · refine SE.oth e ?_
          have Ho := hS p (by omega)
          unfold SE at Ho ⊢
          rw [hFL.2.1 64 (by decide) (by decide) (by decide) (by decide) (by decide), show zL h2 = zL h by unfold zL; rw [hFL.1]]
          exact Ho
