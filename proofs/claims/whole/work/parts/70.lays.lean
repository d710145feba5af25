-- lay of the class, by program (wip/gen/p70.py)
def cM (rs : Nat → Nat) (wt : Nat) (m : Nat → Nat) (k : Nat) : Nat := rs k + m k * wt
/-- what the crown takes with the guards m laid -/
def vaL (due rest pe : Nat → Int64) (on ot rs pr : Nat → Nat) (wt nB nP : Nat) (m : Nat → Nat) : Int64 := sC due rest pe (fun q => sr pr (dW on ot (cM rs wt m) nB nP) q nP) nP
def FrLy (h h' : zH) : Prop := h'.2 = h.2 ∧ ∀ k, k ≠ 57 → k ≠ 67 → k ≠ 72 → k ≠ 82 → k ≠ 83 → zI h' k = zI h k
theorem FrLy.tr {a b c : zH} (x : FrLy a b) (y : FrLy b c) : FrLy a c := ⟨y.1.trans x.1, fun k h1 h2 h3 h4 h5 => (y.2 k h1 h2 h3 h4 h5).trans (x.2 k h1 h2 h3 h4 h5)⟩
theorem FrG.Y {g : Nat} {a b : zH} (hg : g = 67 ∨ g = 72 ∨ g = 82 ∨ g = 83) (x : FrG g a b) : FrLy a b := ⟨x.1, fun k h1 h2 h3 h4 h5 => x.2 k (by omega)⟩
/-- what holds between two tries -/
def LyI (h0 h : zH) (nB G : Nat) (p : Nat → Nat) (A : Nat → Int32) : Prop := FrLy h0 h ∧ zI h 57 0 2 = nI nB ∧ zI h 57 0 3 = nI G ∧ (∀ i, i < G → zI h 82 0 i = nI (p i) ∧ p i < nB) ∧ (∀ k, k < 16 → zI h 72 0 k = zI h0 72 0 k) ∧ ∀ k, k < 16 → zI h 83 0 k = A k
/-- what holds at the end -/
def LyF (h0 : zH) (nB : Nat) (S : Int64 × (Nat → Int32)) (o : zO) (h' : zH) : Prop := o = Rv (Vj S.1) ∧ FrLy h0 h' ∧ zI h' 57 0 2 = nI nB ∧ ∀ k, k < 16 → zI h' 83 0 k = S.2 k
theorem LB.cM {on ot rs : Nat → Nat} {nP nB wt : Nat} {m : Nat → Nat} (hL : LB nP nB on ot rs) (hr : ∀ k, k < nB → rs k ≤ 500) (hw : wt ≤ 200) (hm : ∀ k, m k ≤ 3) : LB nP nB on ot (cM rs wt m) := fun k hk => by
  obtain ⟨l1, l2, l3, l4, l5⟩ := hL k hk
  have h1 := hr k hk
  have h2 : m k * wt ≤ 3 * 200 := Nat.mul_le_mul (hm k) hw
  refine ⟨l1, l2, l3, ?_, ?_⟩
  · show 1 ≤ rs k + m k * wt
    omega
  · show rs k + m k * wt < 3000
    omega
theorem nI_mul2 (a b : Nat) : nI a * nI b = nI (a * b) := by
  induction a with
  | zero => rw [Nat.zero_mul]; exact Int32.zero_mul
  | succ a ih => rw [← nI_1, Int32.add_mul, Int32.one_mul, ih, nI_add, Nat.succ_mul]
theorem lX10_lay_110 (l : Launch) (h0 : zH) (hW0 : Wc h0) (nP nB G : Nat) (hP0 : zI h0 56 0 9 = nI nP) (hP2 : nP ≤ 10) (hB0 : zI h0 56 0 10 = nI nB) (hB2 : nB ≤ 16) (hG2 : G ≤ 3) (on ot rs : Nat → Nat) (hBT0 : BT h0 nP nB on ot rs) (hL : LB nP nB on ot rs) (hrs : ∀ k, k < nB → rs k ≤ 500) (wt : Nat) (hwt : wt ≤ 200) (pr : Nat → Nat) (hpr : ∀ p, p < nP → zI h0 64 0 p = nI (pr p) ∧ pr p ≤ 1000) (w0 : Int32) (s : Nat) (ih : ∀ (p : Nat → Nat) (S : Int64 × (Nat → Int32)) (h : zH), LyI h0 h nB G p S.2 → rsT cst1 nB G p G ((s + 1) + 1) ≤ 816 → ∀ x8 x9, Wp l mX10_lay 4 58 [some (Vq (some (57, 0))), some (Vq (some (56, 0))), some (Vi w0), some (Vi (nI wt)), some (Vj S.1), none, some (Vi 1), some (Vi (nI (s + 1))), x8, x9] [] h (LyF h0 nB (rsT (bst (vaL (zL h0 65 0) (zL h0 66 0) (cPe h0) on ot rs pr wt nB nP) nB) nB G p G ((bst (vaL (zL h0 65 0) (zL h0 66 0) (cPe h0) on ot rs pr wt nB nP) nB) (cntP p G) S)))) (p : Nat → Nat) (S : Int64 × (Nat → Int32)) (h : zH) (hI : LyI h0 h nB G p S.2) (hc : rsT cst1 nB G p G (s + 1) ≤ 816) (x8 x9 : Option zV) : Wp l mX10_lay 4 110 [some (Vq (some (57, 0))), some (Vq (some (56, 0))), some (Vi w0), some (Vi (nI wt)), some (Vj S.1), none, some (Vi 1), some (Vi (nI s)), x8, x9] [] h (LyF h0 nB (rsT (bst (vaL (zL h0 65 0) (zL h0 66 0) (cPe h0) on ot rs pr wt nB nP) nB) nB G p G S)) := by
  obtain ⟨i1, i2, i3, i4, i5, i6⟩ := hI
  have hW := Wc.same (congrArg Prod.snd i1.1) hW0
  refine w_aload_n (zat TX10_lay_0 57 rfl) rfl ?_
  refine x_call1 (qX10_shift l h hW G nB i3 hG2 p i4 i2 hB2) (by decide) kX10_shift (rdy_V (zat TX10_lay_0 58 rfl) kX10_shift pX10_shift zw824 zw826 zw27 (zrc (by decide) (by decide) rfl)) (Nat.le_of_ble_eq_true rfl) rfl rfl (fun v h5 hq => ?_) (fun r h5 hq => hq.elim (fun z => by cases z.1) (fun ⟨_, _, _, _, z, _⟩ => by cases z))
  rcases hq with ⟨q1, q2, q3⟩ | ⟨i, q1, q2, q3, q4, q5, q6⟩
  · cases q1
    rw [q2]
    refine x_istore (ls2 := [_, _, _, _, _, _, _, _, _, _]) (zat TX10_lay_0 59 rfl) (by decide) rfl ?_
    refine x_iinc (v := nI (s + 1)) (ls2 := [_, _, _, _, _, _, _, _, _, _]) (zat TX10_lay_1 0 rfl) rfl (nI_inc s) rfl ?_
    refine w_goto 58 (zat TX10_lay_1 1 rfl) (by decide) ?_
    have hfin : LyF h0 nB (rsT (bst (vaL (zL h0 65 0) (zL h0 66 0) (cPe h0) on ot rs pr wt nB nP) nB) nB G p G S) (Rv (Vj S.1)) h := by
      rw [rsT_end _ _ q3]
      exact ⟨rfl, i1, i2, i6⟩
    refine w_iload (zat TX10_lay_0 30 rfl) rfl ?_
    refine w_if_eq 122 (zat TX10_lay_0 31 rfl) (by decide) (fun Hc60 => ?_) (fun Hc60 => ?_)
    · refine w_lload (zat TX10_lay_1 2 rfl) rfl ?_
      refine w_lreturn (zat TX10_lay_1 3 rfl) rfl ?_
      exact hfin
    · exact absurd rfl Hc60
  · cases q4
    refine x_istore (ls2 := [_, _, _, _, _, _, _, _, _, _]) (zat TX10_lay_0 59 rfl) (by decide) rfl ?_
    refine x_iinc (v := nI (s + 1)) (ls2 := [_, _, _, _, _, _, _, _, _, _]) (zat TX10_lay_1 0 rfl) rfl (nI_inc s) rfl ?_
    refine w_goto 58 (zat TX10_lay_1 1 rfl) (by decide) ?_
    rw [rsT_shift (bst (vaL (zL h0 65 0) (zL h0 66 0) (cPe h0) on ot rs pr wt nB nP) nB) nB q1 q2 q3 S]
    rw [rsT_shift cst1 nB q1 q2 q3 (s + 1)] at hc
    refine ih (shP p i) S h5 ⟨i1.tr (q5.Y (by decide)), ?_, ?_, fun k hk => ⟨q6 k hk, ?_⟩, fun k hk => ?_, fun k hk => ?_⟩ hc _ _
    · rw [q5.2 57 (by decide)]; exact i2
    · rw [q5.2 57 (by decide)]; exact i3
    · unfold shP
      split
      · exact q2
      · exact (i4 k hk).2
    · rw [q5.2 72 (by decide)]; exact i5 k hk
    · rw [q5.2 83 (by decide)]; exact i6 k hk
theorem lX10_lay_58 (l : Launch) (h0 : zH) (hW0 : Wc h0) (nP nB G : Nat) (hP0 : zI h0 56 0 9 = nI nP) (hP2 : nP ≤ 10) (hB0 : zI h0 56 0 10 = nI nB) (hB2 : nB ≤ 16) (hG2 : G ≤ 3) (on ot rs : Nat → Nat) (hBT0 : BT h0 nP nB on ot rs) (hL : LB nP nB on ot rs) (hrs : ∀ k, k < nB → rs k ≤ 500) (wt : Nat) (hwt : wt ≤ 200) (pr : Nat → Nat) (hpr : ∀ p, p < nP → zI h0 64 0 p = nI (pr p) ∧ pr p ≤ 1000) (w0 : Int32) : ∀ kk s : Nat, s + kk = 1000 → ∀ (p : Nat → Nat) (S : Int64 × (Nat → Int32)) (h : zH), LyI h0 h nB G p S.2 → rsT cst1 nB G p G (s + 1) ≤ 816 → ∀ x8 x9, Wp l mX10_lay 4 58 [some (Vq (some (57, 0))), some (Vq (some (56, 0))), some (Vi w0), some (Vi (nI wt)), some (Vj S.1), none, some (Vi 1), some (Vi (nI s)), x8, x9] [] h (LyF h0 nB (rsT (bst (vaL (zL h0 65 0) (zL h0 66 0) (cPe h0) on ot rs pr wt nB nP) nB) nB G p G ((bst (vaL (zL h0 65 0) (zL h0 66 0) (cPe h0) on ot rs pr wt nB nP) nB) (cntP p G) S))) := by
  intro kk
  induction kk with
  | zero =>
    intro s hs p S h hI hc x8 x9
    have hge := rsT_ge nB G p G (s + 1)
    omega
  | succ kk ih =>
    intro s hs p S h hI hc x8 x9
    obtain ⟨i1, i2, i3, i4, i5, i6⟩ := id hI
    have hge := rsT_ge nB G p G (s + 1)
    have hW := Wc.same (congrArg Prod.snd i1.1) hW0
    have hLM : LB nP nB on ot (cM rs wt (cntP p G)) := hL.cM hrs hwt (fun k => Nat.le_trans (cntP_le p G k) hG2)
    have i4' : ∀ i, i < G → zI h 82 0 i = nI (p i) ∧ p i < 16 := fun i hi => ⟨(i4 i hi).1, by have := (i4 i hi).2; omega⟩
    refine w_iload (zat TX10_lay_0 30 rfl) rfl ?_
    refine w_if_eq 122 (zat TX10_lay_0 31 rfl) (by decide) (fun Hc60 => ?_) (fun Hc60 => ?_)
    · exact absurd Hc60 (by decide)
    · refine w_iload (zat TX10_lay_0 32 rfl) rfl ?_
      refine w_sipush (v := 1000) (zat TX10_lay_0 33 rfl) (by decide) ?_
      refine w_icmp_ge 122 (zat TX10_lay_0 34 rfl) (by decide) (fun Hc68 => ?_) (fun Hc68 => ?_)
      · exact absurd Hc68 (nI_ge (b := 1000) (by omega) (by omega))
      · refine w_aload_n (zat TX10_lay_0 35 rfl) rfl ?_
        refine w_aload_n (zat TX10_lay_0 36 rfl) rfl ?_
        refine w_iload_n (zat TX10_lay_0 37 rfl) rfl ?_
        refine x_call3 (qX10_charge l h hW G i3 hG2 p i4' (nI wt)) (by decide) kX10_charge (rdy_V (zat TX10_lay_0 38 rfl) kX10_charge pX10_charge zw814 zw816 zw25 (zrc (by decide) (by decide) rfl)) (Nat.le_of_ble_eq_true rfl) rfl rfl (fun v h1 hq => ?_) (fun r h1 hq => by cases hq.1)
        obtain ⟨hq1, hF1, hC1⟩ := hq
        cases hq1
        have hY1 : FrLy h0 h1 := i1.tr (hF1.Y (by decide))
        have hW1 := Wc.same (congrArg Prod.snd hF1.1) hW
        have hBT1 : BT h1 nP nB on ot (cM rs wt (cntP p G)) := fun k hk => by
          obtain ⟨b1, b2, b3, b4, b5, b6⟩ := hBT0 k hk
          rw [hY1.2 70 (by decide) (by decide) (by decide) (by decide) (by decide), hY1.2 71 (by decide) (by decide) (by decide) (by decide) (by decide)]
          refine ⟨b1, b2, b3, b4, ?_, (hLM k hk).2.2.2.2⟩
          rw [hC1 k (by omega), i5 k (by omega), b5, nI_mul2, nI_add]
          rfl
        have hp1 : ∀ p, p < nP → zI h1 64 0 p = nI (pr p) ∧ pr p ≤ 1000 := by rw [hY1.2 64 (by decide) (by decide) (by decide) (by decide) (by decide)]; exact hpr
        have hP1 : zI h1 56 0 9 = nI nP := by rw [hY1.2 56 (by decide) (by decide) (by decide) (by decide) (by decide)]; exact hP0
        have hB1 : zI h1 56 0 10 = nI nB := by rw [hY1.2 56 (by decide) (by decide) (by decide) (by decide) (by decide)]; exact hB0
        refine w_aload_n (zat TX10_lay_0 39 rfl) rfl ?_
        refine x_call1 (qX3_settle l h1 hW1 nP hP1 hP2 nB hB1 hB2 on ot (cM rs wt (cntP p G)) hBT1 pr hp1) (by decide) kX3_settle (rdy_V (zat TX10_lay_0 40 rfl) kX3_settle pX3_settle zw818 zw717 zw718 (zrc (by decide) (by decide) rfl)) (Nat.le_of_ble_eq_true rfl) rfl rfl (fun v h2 hq => ?_) (fun r h2 hq => by cases hq.1)
        obtain ⟨hq1, hF2, hC2⟩ := hq
        cases hq1
        have hY2 : FrLy h0 h2 := hY1.tr (hF2.Y (by decide))
        have hW2 := Wc.same (congrArg Prod.snd hF2.1) hW1
        have hp2 : ∀ p, p < nP → zI h2 64 0 p = nI (pr p) ∧ pr p ≤ 1000 := by rw [hF2.2 64 (by decide)]; exact hp1
        have hP3 : zI h2 56 0 9 = nI nP := by rw [hF2.2 56 (by decide)]; exact hP1
        have hO2 : CF h2 67 nP (fun v => oM pr (dW on ot (cM rs wt (cntP p G)) nB nP) v nP) := fun j hj => by rw [hC2 j hj, offers_eq hLM hP2 pr (fun p hp => (hpr p hp).2) j hj]
        have hlt : ∀ j, j < nP → oM pr (dW on ot (cM rs wt (cntP p G)) nB nP) j nP < 16016 := fun j hj => by
          have h1 := (oM_le pr (dW on ot (cM rs wt (cntP p G)) nB nP) j nP).1
          have h3 := (hpr j hj).2
          omega
        have hS2 : ∀ j, j < nP → oS pr (fun v => oM pr (dW on ot (cM rs wt (cntP p G)) nB nP) v nP) j < nP := fun j hj => by rw [(oS_sr hP2 hj (dW_aa hLM j)).1]; exact sr_lt _ _ hj nP (Nat.le_refl _)
        have hv : cCr h2 (oS pr (fun v => oM pr (dW on ot (cM rs wt (cntP p G)) nB nP) v nP)) nP = (vaL (zL h0 65 0) (zL h0 66 0) (cPe h0) on ot rs pr wt nB nP) (cntP p G) := by
          rw [cCr_eq]
          unfold vaL
          refine sC_congr (N := nP) (fun q hq => ⟨?_, ?_, ?_, (oS_sr hP2 hq (dW_aa hLM q)).1, hS2 q hq⟩) nP (Nat.le_refl _)
          · unfold zL; rw [hY2.1]
          · unfold zL; rw [hY2.1]
          · unfold cPe; rw [hY2.2 64 (by decide) (by decide) (by decide) (by decide) (by decide)]
        refine w_aload_n (zat TX10_lay_0 41 rfl) rfl ?_
        refine x_callv1 (qX3_takenInAll l h2 hW2 nP hP2 pr (fun v => oM pr (dW on ot (cM rs wt (cntP p G)) nB nP) v nP) hp2 hO2 hlt hP3 hS2) (by decide) kX3_takenInAll (rdy_V (zat TX10_lay_0 42 rfl) kX3_takenInAll pX3_takenInAll zw819 zw765 zw766 (zrc (by decide) (by decide) rfl)) (Nat.le_of_ble_eq_true rfl) rfl rfl ?_
        rw [hv]
        refine x_lstore (ls2 := [_, _, _, _, _, _, _, _, _, _]) (zat TX10_lay_0 43 rfl) (by decide) rfl ?_
        refine w_aload_n (zat TX10_lay_0 44 rfl) rfl ?_
        refine w_aload_n (zat TX10_lay_0 45 rfl) rfl ?_
        refine w_iload_n (zat TX10_lay_0 46 rfl) rfl ?_
        refine w_ineg (zat TX10_lay_0 47 rfl) ?_
        refine x_call3 (qX10_charge l h2 hW2 G (by rw [hF2.2 57 (by decide), hF1.2 57 (by decide)]; exact i3) hG2 p (by rw [hF2.2 82 (by decide), hF1.2 82 (by decide)]; exact i4') (-(nI wt))) (by decide) kX10_charge (rdy_V (zat TX10_lay_0 48 rfl) kX10_charge pX10_charge zw814 zw816 zw25 (zrc (by decide) (by decide) rfl)) (Nat.le_of_ble_eq_true rfl) rfl rfl (fun v h3 hq => ?_) (fun r h3 hq => by cases hq.1)
        obtain ⟨hq1, hF3, hC3⟩ := hq
        cases hq1
        have hW3 := Wc.same (congrArg Prod.snd hF3.1) hW2
        have hI3 : LyI h0 h3 nB G p S.2 := by
          refine ⟨hY2.tr (hF3.Y (by decide)), ?_, ?_, ?_, fun k hk => ?_, ?_⟩
          · rw [hF3.2 57 (by decide), hF2.2 57 (by decide), hF1.2 57 (by decide)]; exact i2
          · rw [hF3.2 57 (by decide), hF2.2 57 (by decide), hF1.2 57 (by decide)]; exact i3
          · rw [hF3.2 82 (by decide), hF2.2 82 (by decide), hF1.2 82 (by decide)]; exact i4
          · rw [hC3 k hk, hF2.2 72 (by decide), hC1 k hk, i5 k hk, Int32.mul_neg, Int32.add_assoc, Int32.add_right_neg, Int32.add_zero]
          · rw [hF3.2 83 (by decide), hF2.2 83 (by decide), hF1.2 83 (by decide)]; exact i6
        refine w_lload (zat TX10_lay_0 49 rfl) rfl ?_
        refine w_lload (zat TX10_lay_0 50 rfl) rfl ?_
        refine w_lcmp (zat TX10_lay_0 51 rfl) ?_
        refine w_if_le 110 (zat TX10_lay_0 52 rfl) (by decide) (fun Hc99 => ?_) (fun Hc99 => ?_)
        · rw [lc_le] at Hc99
          have Hb : (bst (vaL (zL h0 65 0) (zL h0 66 0) (cPe h0) on ot rs pr wt nB nP) nB) (cntP p G) S = S := if_neg Hc99
          rw [Hb]
          exact lX10_lay_110 l h0 hW0 nP nB G hP0 hP2 hB0 hB2 hG2 on ot rs hBT0 hL hrs wt hwt pr hpr w0 s (ih (s + 1) (by omega)) p S h3 hI3 hc _ _
        · rw [lc_le, Decidable.not_not] at Hc99
          have Hb : (bst (vaL (zL h0 65 0) (zL h0 66 0) (cPe h0) on ot rs pr wt nB nP) nB) (cntP p G) S = ((vaL (zL h0 65 0) (zL h0 66 0) (cPe h0) on ot rs pr wt nB nP) (cntP p G), fun k => if k < nB then nI (cntP p G k) else S.2 k) := if_pos Hc99
          rw [Hb]
          refine w_lload (zat TX10_lay_0 53 rfl) rfl ?_
          refine x_lstore (ls2 := [_, _, _, _, _, _, _, _, _, _]) (zat TX10_lay_0 54 rfl) (by decide) rfl ?_
          refine w_aload_n (zat TX10_lay_0 55 rfl) rfl ?_
          refine x_call1 (qX10_keep l h3 hW3 G nB hI3.2.2.1 hG2 p hI3.2.2.2.1 hI3.2.1 hB2) (by decide) kX10_keep (rdy_V (zat TX10_lay_0 56 rfl) kX10_keep pX10_keep zw820 zw822 zw26 (zrc (by decide) (by decide) rfl)) (Nat.le_of_ble_eq_true rfl) rfl rfl (fun v h4 hq => ?_) (fun r h4 hq => by cases hq.1)
          obtain ⟨hq1, hF4, hC4⟩ := hq
          cases hq1
          have hI4 : LyI h0 h4 nB G p (fun k => if k < nB then nI (cntP p G k) else S.2 k) := by
            obtain ⟨j1, j2, j3, j4, j5, j6⟩ := hI3
            refine ⟨j1.tr (hF4.Y (by decide)), ?_, ?_, ?_, ?_, fun k hk => ?_⟩
            · rw [hF4.2 57 (by decide)]; exact j2
            · rw [hF4.2 57 (by decide)]; exact j3
            · rw [hF4.2 82 (by decide)]; exact j4
            · rw [hF4.2 72 (by decide)]; exact j5
            · rw [hC4 k, j6 k hk]
          exact lX10_lay_110 l h0 hW0 nP nB G hP0 hP2 hB0 hB2 hG2 on ot rs hBT0 hL hrs wt hwt pr hpr w0 s (ih (s + 1) (by omega)) p ((vaL (zL h0 65 0) (zL h0 66 0) (cPe h0) on ot rs pr wt nB nP) (cntP p G), fun k => if k < nB then nI (cntP p G k) else S.2 k) h4 hI4 hc _ _
theorem lX10_lay_27 (l : Launch) (h0 : zH) (hW0 : Wc h0) (wt : Nat) (w0 : Int32) (Q : zO → zH → Prop) (K : ∀ h, FrG 82 h0 h → (∀ k, k < 3 → zI h 82 0 k = 0) → Wp l mX10_lay 4 47 [some (Vq (some (57, 0))), some (Vq (some (56, 0))), some (Vi w0), some (Vi (nI wt)), some (Vi (nI 3)), none, none, none, none, none] [] h Q) : ∀ kk s : Nat, s + kk = 3 → ∀ h, FrG 82 h0 h → (∀ k, k < s → zI h 82 0 k = 0) → Wp l mX10_lay 4 27 [some (Vq (some (57, 0))), some (Vq (some (56, 0))), some (Vi w0), some (Vi (nI wt)), some (Vi (nI s)), none, none, none, none, none] [] h Q := by
  intro kk
  induction kk with
  | zero =>
    intro s hs h hF hi
    have hW := Wc.same (congrArg Prod.snd hF.1) hW0
    refine w_iload (zat TX10_lay_0 14 rfl) rfl ?_
    refine w_iconst (v := 3) (zat TX10_lay_0 15 rfl) (by decide) ?_
    refine w_icmp_ge 47 (zat TX10_lay_0 16 rfl) (by decide) (fun Hc30 => ?_) (fun Hc30 => ?_)
    · have e : s = 3 := by omega
      subst e
      exact K h hF hi
    · exact absurd (nI_le (a := 3) (by omega) (by omega)) Hc30
  | succ kk ih =>
    intro s hs h hF hi
    have hW := Wc.same (congrArg Prod.snd hF.1) hW0
    refine w_iload (zat TX10_lay_0 14 rfl) rfl ?_
    refine w_iconst (v := 3) (zat TX10_lay_0 15 rfl) (by decide) ?_
    refine w_icmp_ge 47 (zat TX10_lay_0 16 rfl) (by decide) (fun Hc30 => ?_) (fun Hc30 => ?_)
    · exact absurd Hc30 (nI_ge (b := 3) (by omega) (by omega))
    · refine w_aload_n (zat TX10_lay_0 17 rfl) rfl ?_
      refine w_getR (zat TX10_lay_0 18 rfl) fX10_9 s57 (by decide) (by decide) rfl (wcr hW 22 rfl) ?_
      refine w_iload (zat TX10_lay_0 19 rfl) rfl ?_
      refine w_iconst (v := 0) (zat TX10_lay_0 20 rfl) (by decide) ?_
      refine x_iastore s _ (zat TX10_lay_0 21 rfl) s82 (by decide) (wcn hW 18 rfl) (by decide) rfl (by omega) ?_
      refine x_iinc (v := nI (s + 1)) (ls2 := [_, _, _, _, _, _, _, _, _, _]) (zat TX10_lay_0 22 rfl) rfl (nI_inc s) rfl ?_
      refine w_goto 27 (zat TX10_lay_0 23 rfl) (by decide) ?_
      refine ih (s + 1) (by omega) _ (hF.w s _) (fun k hk => ?_)
      by_cases e : k = s
      · subst e
        exact zI_same _ _ _ _ _
      · rw [zI_oth _ _ _ _ _ e]
        exact hi k (by omega)
theorem qX10_lay (l : Launch) (h0 : zH) (hW0 : Wc h0) (nP nB G0 : Nat) (hP0 : zI h0 56 0 9 = nI nP) (hP2 : nP ≤ 10) (hB0 : zI h0 56 0 10 = nI nB) (hB2 : nB ≤ 16) (hG2 : G0 ≤ 3) (on ot rs : Nat → Nat) (hBT0 : BT h0 nP nB on ot rs) (hL : LB nP nB on ot rs) (hrs : ∀ k, k < nB → rs k ≤ 500) (wt : Nat) (hwt : wt ≤ 200) (pr : Nat → Nat) (hpr : ∀ p, p < nP → zI h0 64 0 p = nI (pr p) ∧ pr p ≤ 1000) : Ct l 4 mX10_lay [Vq (some (57, 0)), Vq (some (56, 0)), Vi (nI G0), Vi (nI wt)] h0 (LyF h0 nB (Xf (bst (vaL (zL h0 65 0) (zL h0 66 0) (cPe h0) on ot rs pr wt nB nP) nB) nB (if nB = 0 then 0 else G0) nB (fun _ => 0) (-1, zI h0 83 0))) := by
  obtain ⟨G, hG⟩ : ∃ G, G = (if nB = 0 then 0 else G0) := ⟨_, rfl⟩
  rw [← hG]
  have hG3 : G ≤ 3 := by rw [hG]; split <;> omega
  have hGB : nB = 0 → G = 0 := fun e => by rw [hG, if_pos e]
  refine Ct.in 6 kX10_lay (plainFor_of_name rfl) (Nat.le_of_ble_eq_true rfl) ?_
  refine w_aload_n (zat TX10_lay_0 0 rfl) rfl ?_
  refine w_aload_n (zat TX10_lay_0 1 rfl) rfl ?_
  refine y_getI (v := nI nB) (zat TX10_lay_0 2 rfl) fX10_25 s56 (by decide) (by decide) rfl hB0 ?_
  refine w_putI (zat TX10_lay_0 3 rfl) gX10_lay_18 s57 (by decide) (by decide) rfl ⟨rfl, rfl⟩ ?_
  refine w_aload_n (zat TX10_lay_0 4 rfl) rfl ?_
  refine w_aload_n (zat TX10_lay_0 5 rfl) rfl ?_
  refine y_getI (v := nI nB) (zat TX10_lay_0 6 rfl) fX10_18 s57 (by decide) (by decide) rfl (zI_same _ _ _ _ _) ?_
  refine w_if_ne 20 (zat TX10_lay_0 7 rfl) (by decide) (fun Hc13 => ?_) (fun Hc13 => ?_)
  · have e1 : G = G0 := by rw [hG, if_neg (fun z => Hc13 (by rw [z]; rfl))]
    subst e1
    refine w_iload_n (zat TX10_lay_0 10 rfl) rfl ?_
    refine w_putI (zat TX10_lay_0 11 rfl) gX10_lay_22 s57 (by decide) (by decide) rfl ⟨rfl, rfl⟩ ?_
    refine w_iconst (v := 0) (zat TX10_lay_0 12 rfl) (by decide) ?_
    refine x_istore (ls2 := [_, _, _, _, _, _, _, _, _, _]) (zat TX10_lay_0 13 rfl) (by decide) rfl ?_
    refine lX10_lay_27 l (zsI (zsI h0 57 0 2 (nI nB)) 57 0 3 (nI G)) hW0 wt _ _ (fun h hF hi => ?_) 3 0 (by omega) (zsI (zsI h0 57 0 2 (nI nB)) 57 0 3 (nI G)) (FrG.rf 82 _) (fun k hk => by omega)
    refine w_ldc2 (v := -1) (zat TX10_lay_0 24 rfl) zw813 ?_
    refine x_lstore (ls2 := [_, _, _, _, _, _, _, _, _, _]) (zat TX10_lay_0 25 rfl) (by decide) rfl ?_
    refine w_iconst (v := 1) (zat TX10_lay_0 26 rfl) (by decide) ?_
    refine x_istore (ls2 := [_, _, _, _, _, _, _, _, _, _]) (zat TX10_lay_0 27 rfl) (by decide) rfl ?_
    refine w_iconst (v := 0) (zat TX10_lay_0 28 rfl) (by decide) ?_
    refine x_istore (ls2 := [_, _, _, _, _, _, _, _, _, _]) (zat TX10_lay_0 29 rfl) (by decide) rfl ?_
    have hY : FrLy h0 (zsI (zsI h0 57 0 2 (nI nB)) 57 0 3 (nI G)) := ⟨rfl, fun k h1 _ _ _ _ => funext (fun i => funext (fun j => (if_neg (fun z => h1 z.1)).trans (if_neg (fun z => h1 z.1))))⟩
    rw [← rsT_first (bst (vaL (zL h0 65 0) (zL h0 66 0) (cPe h0) on ot rs pr wt nB nP) nB) nB hGB]
    refine lX10_lay_58 l h0 hW0 nP nB G hP0 hP2 hB0 hB2 hG3 on ot rs hBT0 hL hrs wt hwt pr hpr _ 1000 0 (by omega) (fun _ => 0) (-1, zI h0 83 0) h ⟨hY.tr (hF.Y (by decide)), ?_, ?_, fun i hi2 => ⟨hi i (by omega), by show 0 < nB; omega⟩, fun k hk => ?_, fun k hk => ?_⟩ ?_ _ _
    · rw [hF.2 57 (by decide)]; rfl
    · rw [hF.2 57 (by decide)]; rfl
    · rw [hF.2 72 (by decide)]; rfl
    · rw [hF.2 83 (by decide)]; rfl
    · have := rsT_first cst1 nB hGB 0
      have h2 := Xf_few ⟨G, by omega⟩ ⟨nB, by omega⟩
      rw [← this] at h2
      exact h2
  · have e1 : G = 0 := hGB (nIe (by omega) (by omega) Hc13)
    subst e1
    refine w_iconst (v := 0) (zat TX10_lay_0 8 rfl) (by decide) ?_
    refine w_goto 21 (zat TX10_lay_0 9 rfl) (by decide) ?_
    refine w_putI (zat TX10_lay_0 11 rfl) gX10_lay_22 s57 (by decide) (by decide) rfl ⟨rfl, rfl⟩ ?_
    refine w_iconst (v := 0) (zat TX10_lay_0 12 rfl) (by decide) ?_
    refine x_istore (ls2 := [_, _, _, _, _, _, _, _, _, _]) (zat TX10_lay_0 13 rfl) (by decide) rfl ?_
    refine lX10_lay_27 l (zsI (zsI h0 57 0 2 (nI nB)) 57 0 3 (nI 0)) hW0 wt _ _ (fun h hF hi => ?_) 3 0 (by omega) (zsI (zsI h0 57 0 2 (nI nB)) 57 0 3 (nI 0)) (FrG.rf 82 _) (fun k hk => by omega)
    refine w_ldc2 (v := -1) (zat TX10_lay_0 24 rfl) zw813 ?_
    refine x_lstore (ls2 := [_, _, _, _, _, _, _, _, _, _]) (zat TX10_lay_0 25 rfl) (by decide) rfl ?_
    refine w_iconst (v := 1) (zat TX10_lay_0 26 rfl) (by decide) ?_
    refine x_istore (ls2 := [_, _, _, _, _, _, _, _, _, _]) (zat TX10_lay_0 27 rfl) (by decide) rfl ?_
    refine w_iconst (v := 0) (zat TX10_lay_0 28 rfl) (by decide) ?_
    refine x_istore (ls2 := [_, _, _, _, _, _, _, _, _, _]) (zat TX10_lay_0 29 rfl) (by decide) rfl ?_
    have hY : FrLy h0 (zsI (zsI h0 57 0 2 (nI nB)) 57 0 3 (nI 0)) := ⟨rfl, fun k h1 _ _ _ _ => funext (fun i => funext (fun j => (if_neg (fun z => h1 z.1)).trans (if_neg (fun z => h1 z.1))))⟩
    rw [← rsT_first (bst (vaL (zL h0 65 0) (zL h0 66 0) (cPe h0) on ot rs pr wt nB nP) nB) nB hGB]
    refine lX10_lay_58 l h0 hW0 nP nB 0 hP0 hP2 hB0 hB2 hG3 on ot rs hBT0 hL hrs wt hwt pr hpr _ 1000 0 (by omega) (fun _ => 0) (-1, zI h0 83 0) h ⟨hY.tr (hF.Y (by decide)), ?_, ?_, fun i hi2 => ⟨hi i (by omega), by show 0 < nB; omega⟩, fun k hk => ?_, fun k hk => ?_⟩ ?_ _ _
    · rw [hF.2 57 (by decide)]; rfl
    · rw [hF.2 57 (by decide)]; rfl
    · rw [hF.2 72 (by decide)]; rfl
    · rw [hF.2 83 (by decide)]; rfl
    · have := rsT_first cst1 nB hGB 0
      have h2 := Xf_few ⟨0, by omega⟩ ⟨nB, by omega⟩
      rw [← this] at h2
      exact h2
