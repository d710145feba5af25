-- settle, measureTo, leastCost, sourceOf, costBetween of the class, by program (wip/gen/p49.py)
theorem shl4_all : ∀ a : Fin 60, ∀ b : Fin 50, nI (50 * a.1 + b.1) <<< ((4 : Int32) &&& 31) = nI (16 * (50 * a.1 + b.1)) := by decide +kernel
theorem shl4 {p : Nat} (h : p < 3000) : nI p <<< ((4 : Int32) &&& 31) = nI (16 * p) := by
  have := shl4_all ⟨p / 50, by omega⟩ ⟨p % 50, by omega⟩
  rw [show 50 * (p / 50) + p % 50 = p from Nat.div_add_mod p 50] at this
  exact this
theorem shl0_all : ∀ a : Fin 60, ∀ b : Fin 50, nI (50 * a.1 + b.1) <<< ((0 : Int32) &&& 31) = nI (50 * a.1 + b.1) := by decide +kernel
theorem shl0 {p : Nat} (h : p < 3000) : nI p <<< ((0 : Int32) &&& 31) = nI p := by
  have := shl0_all ⟨p / 50, by omega⟩ ⟨p % 50, by omega⟩
  rw [show 50 * (p / 50) + p % 50 = p from Nat.div_add_mod p 50] at this
  exact this
theorem shr4_all : ∀ a : Fin 1001, ∀ b : Fin 16, nI (16 * a.1 + b.1) >>> ((4 : Int32) &&& 31) = nI a.1 ∧ nI (16 * a.1 + b.1) &&& 15 = nI b.1 := by decide +kernel
theorem shr4 {v : Nat} (h : v < 16016) : nI v >>> ((4 : Int32) &&& 31) = nI (v / 16) ∧ nI v &&& 15 = nI (v % 16) := by
  have := shr4_all ⟨v / 16, by omega⟩ ⟨v % 16, by omega⟩
  rw [show 16 * (v / 16) + v % 16 = v from Nat.div_add_mod v 16] at this
  exact this
/-- the borders of the market: where, and the bare tolls -/
def BT (h : zH) (nP nB : Nat) (on ot t : Nat → Nat) : Prop := ∀ k, k < nB → zI h 70 0 k = nI (on k) ∧ zI h 71 0 k = nI (ot k) ∧ on k < nP ∧ ot k < nP ∧ zI h 72 0 k = nI (t k) ∧ t k < 3000
theorem BT.j4 {h : zH} {nP nB : Nat} {on ot t : Nat → Nat} (x : BT h nP nB on ot t) : BJ h nP nB 4 on ot (fun k => 16 * t k) := fun k hk => by
  obtain ⟨a, b, c, d, e, f⟩ := x k hk
  exact ⟨a, b, c, d, by rw [e]; exact shl4 f, by show 16 * t k ≤ _; omega⟩
theorem BT.j0 {h : zH} {nP nB : Nat} {on ot t : Nat → Nat} (x : BT h nP nB on ot t) : BJ h nP nB 0 on ot t := fun k hk => by
  obtain ⟨a, b, c, d, e, f⟩ := x k hk
  exact ⟨a, b, c, d, by rw [e]; exact shl0 f, by omega⟩
theorem BT.fr {g : Nat} {h h' : zH} {nP nB : Nat} {on ot t : Nat → Nat} (x : BT h nP nB on ot t) (hF : FrG g h h') (h1 : g ≠ 70) (h2 : g ≠ 71) (h3 : g ≠ 72) : BT h' nP nB on ot t := by
  unfold BT
  rw [hF.2 70 (Ne.symm h1), hF.2 71 (Ne.symm h2), hF.2 72 (Ne.symm h3)]
  exact x
theorem FrG.tr {g : Nat} {a b c : zH} (x : FrG g a b) (y : FrG g b c) : FrG g a c := ⟨y.1.trans x.1, fun k h => (y.2 k h).trans (x.2 k h)⟩
/-- offers at the start, and the tolls to a province at the start -/
def oF (pr : Nat → Nat) (i : Nat) : Nat := 16 * pr i + i
def tF (p i : Nat) : Nat := if i = p then 0 else 1000000
theorem lX3_settle (l : Launch) (h0 : zH) (hW0 : Wc h0) (nP : Nat) (hP0 : zI h0 56 0 9 = nI nP) (hP2 : nP ≤ 10) (nB : Nat) (hB0 : zI h0 56 0 10 = nI nB) (hB2 : nB ≤ 16) (on ot t : Nat → Nat) (hBT : BT h0 nP nB on ot t) (pr : Nat → Nat) (hpr : ∀ p, p < nP → zI h0 64 0 p = nI (pr p) ∧ pr p ≤ 1000) : ∀ kk s : Nat, s + kk = nP → ∀ h, FrG 67 h0 h → (∀ j, j < s → zI h 67 0 j = nI (oF pr j)) → Wp l mX3_settle 2 2 [some (Vq (some (56, 0))), some (Vi (nI s))] [] h (fun o h' => o = R0 ∧ FrG 67 h0 h' ∧ CF h' 67 nP (bL on ot (fun k => 16 * t k) nB nP (oF pr))) := by
  intro kk
  induction kk with
  | zero =>
    intro s hs h hF hC
    have hg : h.2.2 = h0.2.2 := congrArg Prod.snd hF.1
    have hW := Wc.same hg hW0
    have hP : zI h 56 0 9 = nI nP := by rw [hF.2 56 (by decide)]; exact hP0
    have hB : zI h 56 0 10 = nI nB := by rw [hF.2 56 (by decide)]; exact hB0
    refine w_iload_n (zat TX3_settle 2 rfl) rfl ?_
    refine w_aload_n (zat TX3_settle 3 rfl) rfl ?_
    refine y_getI (v := nI nP) (zat TX3_settle 4 rfl) fX3_40 s56 (by decide) (by decide) rfl hP ?_
    refine w_icmp_ge 32 (zat TX3_settle 5 rfl) (by decide) (fun Hc7 => ?_) (fun Hc7 => ?_)
    · refine w_aload_n (zat TX3_settle 20 rfl) rfl ?_
      refine w_aload_n (zat TX3_settle 21 rfl) rfl ?_
      refine w_getR (zat TX3_settle 22 rfl) fX3_22 s56 (by decide) (by decide) rfl (wcr hW 16 rfl) ?_
      refine w_iconst (v := 4) (zat TX3_settle 23 rfl) (by decide) ?_
      refine x_call3 (qX3_spread l h hW nP hP hP2 nB hB hB2 67 s67 (by decide) (wcn hW 7 rfl) (by decide) (by decide) (by decide) (by decide) 4 on ot (fun k => 16 * t k) (hBT.fr hF (by decide) (by decide) (by decide)).j4 (oF pr) (fun j hj => by have := (hpr j hj).2; unfold oF; omega) (fun j hj => hC j (by omega))) (by decide) kX3_spread (rdy_V (zat TX3_settle 24 rfl) kX3_spread pX3_spread zw720 zw722 zw22 (zrc (by decide) (by decide) rfl)) (Nat.le_of_ble_eq_true rfl) rfl rfl (fun v h2 hq => ?_) (fun r h2 hq => by cases hq.1)
      obtain ⟨hq1, hF2, hC2⟩ := hq
      cases hq1
      refine w_return (zat TX3_settle 25 rfl) rfl ?_
      exact ⟨rfl, hF.tr hF2, hC2⟩
    · exact absurd (nI_le (by omega) (by omega)) Hc7
  | succ kk ih =>
    intro s hs h hF hC
    have hg : h.2.2 = h0.2.2 := congrArg Prod.snd hF.1
    have hW := Wc.same hg hW0
    have hP : zI h 56 0 9 = nI nP := by rw [hF.2 56 (by decide)]; exact hP0
    have hB : zI h 56 0 10 = nI nB := by rw [hF.2 56 (by decide)]; exact hB0
    obtain ⟨p1, p2⟩ := hpr s (by omega)
    rw [← hF.2 64 (by decide)] at p1
    refine w_iload_n (zat TX3_settle 2 rfl) rfl ?_
    refine w_aload_n (zat TX3_settle 3 rfl) rfl ?_
    refine y_getI (v := nI nP) (zat TX3_settle 4 rfl) fX3_40 s56 (by decide) (by decide) rfl hP ?_
    refine w_icmp_ge 32 (zat TX3_settle 5 rfl) (by decide) (fun Hc7 => ?_) (fun Hc7 => ?_)
    · exact absurd Hc7 (nI_ge (by omega) (by omega))
    · refine w_aload_n (zat TX3_settle 6 rfl) rfl ?_
      refine w_getR (zat TX3_settle 7 rfl) fX3_22 s56 (by decide) (by decide) rfl (wcr hW 16 rfl) ?_
      refine w_iload_n (zat TX3_settle 8 rfl) rfl ?_
      refine w_aload_n (zat TX3_settle 9 rfl) rfl ?_
      refine w_getR (zat TX3_settle 10 rfl) fX3_9 s56 (by decide) (by decide) rfl (wcr hW 13 rfl) ?_
      refine w_iload_n (zat TX3_settle 11 rfl) rfl ?_
      refine y_iaload _ _ (v := nI (pr s)) (zat TX3_settle 12 rfl) s64 (by decide) (wcn hW 4 rfl) (by decide) rfl (by omega) p1 ?_
      refine w_iconst (v := 4) (zat TX3_settle 13 rfl) (by decide) ?_
      refine w_ishl (zat TX3_settle 14 rfl) ?_
      rw [shl4 (by omega)]
      refine w_iload_n (zat TX3_settle 15 rfl) rfl ?_
      refine w_iadd (zat TX3_settle 16 rfl) ?_
      rw [nI_add]
      refine x_iastore s _ (zat TX3_settle 17 rfl) s67 (by decide) (wcn hW 7 rfl) (by decide) rfl (by omega) ?_
      refine x_iinc (v := nI (s + 1)) (ls2 := [_, _]) (zat TX3_settle 18 rfl) rfl (nI_inc s) rfl ?_
      refine w_goto 2 (zat TX3_settle 19 rfl) (by decide) ?_
      refine ih (s + 1) (by omega) _ (hF.w _ _) (fun j hj => ?_)
      by_cases e : j = s
      · rw [e, zI_same]
        rfl
      · rw [zI_oth _ _ _ _ _ e]
        exact hC j (by omega)
theorem qX3_settle (l : Launch) (h0 : zH) (hW0 : Wc h0) (nP : Nat) (hP0 : zI h0 56 0 9 = nI nP) (hP2 : nP ≤ 10) (nB : Nat) (hB0 : zI h0 56 0 10 = nI nB) (hB2 : nB ≤ 16) (on ot t : Nat → Nat) (hBT : BT h0 nP nB on ot t) (pr : Nat → Nat) (hpr : ∀ p, p < nP → zI h0 64 0 p = nI (pr p) ∧ pr p ≤ 1000) : Ct l 2 mX3_settle [Vq (some (56, 0))] h0 (fun o h' => o = R0 ∧ FrG 67 h0 h' ∧ CF h' 67 nP (bL on ot (fun k => 16 * t k) nB nP (oF pr))) := by
  refine Ct.in 1 kX3_settle (plainFor_of_name rfl) (Nat.le_of_ble_eq_true rfl) ?_
  refine w_iconst (v := 0) (zat TX3_settle 0 rfl) (by decide) ?_
  refine x_istore_n (ls2 := [_, _]) (zat TX3_settle 1 rfl) (by decide) rfl ?_
  exact lX3_settle l h0 hW0 nP hP0 hP2 nB hB0 hB2 on ot t hBT pr hpr nP 0 (by omega) h0 (FrG.rf 67 h0) (fun j hj => by omega)
theorem lX3_measureTo (l : Launch) (h0 : zH) (hW0 : Wc h0) (nP : Nat) (hP0 : zI h0 56 0 9 = nI nP) (hP2 : nP ≤ 10) (nB : Nat) (hB0 : zI h0 56 0 10 = nI nB) (hB2 : nB ≤ 16) (on ot t : Nat → Nat) (hBT : BT h0 nP nB on ot t) (p : Nat) (hp : p < nP) : ∀ kk s : Nat, s + kk = nP → ∀ h, FrG 68 h0 h → (∀ j, j < s → zI h 68 0 j = nI (tF p j)) → Wp l mX3_measureTo 2 2 [some (Vq (some (56, 0))), some (Vi (nI p)), some (Vi (nI s))] [] h (fun o h' => o = R0 ∧ FrG 68 h0 h' ∧ CF h' 68 nP (bL on ot t nB nP (tF p))) := by
  intro kk
  induction kk with
  | zero =>
    intro s hs h hF hC
    have hg : h.2.2 = h0.2.2 := congrArg Prod.snd hF.1
    have hW := Wc.same hg hW0
    have hP : zI h 56 0 9 = nI nP := by rw [hF.2 56 (by decide)]; exact hP0
    have hB : zI h 56 0 10 = nI nB := by rw [hF.2 56 (by decide)]; exact hB0
    refine w_iload_n (zat TX3_measureTo 2 rfl) rfl ?_
    refine w_aload_n (zat TX3_measureTo 3 rfl) rfl ?_
    refine y_getI (v := nI nP) (zat TX3_measureTo 4 rfl) fX3_40 s56 (by decide) (by decide) rfl hP ?_
    refine w_icmp_ge 33 (zat TX3_measureTo 5 rfl) (by decide) (fun Hc7 => ?_) (fun Hc7 => ?_)
    · refine w_aload_n (zat TX3_measureTo 18 rfl) rfl ?_
      refine w_aload_n (zat TX3_measureTo 19 rfl) rfl ?_
      refine w_getR (zat TX3_measureTo 20 rfl) fX3_25 s56 (by decide) (by decide) rfl (wcr hW 17 rfl) ?_
      refine w_iconst (v := 0) (zat TX3_measureTo 21 rfl) (by decide) ?_
      refine x_call3 (qX3_spread l h hW nP hP hP2 nB hB hB2 68 s68 (by decide) (wcn hW 8 rfl) (by decide) (by decide) (by decide) (by decide) 0 on ot t (hBT.fr hF (by decide) (by decide) (by decide)).j0 (tF p) (fun j hj => by unfold tF; split <;> omega) (fun j hj => hC j (by omega))) (by decide) kX3_spread (rdy_V (zat TX3_measureTo 22 rfl) kX3_spread pX3_spread zw720 zw722 zw22 (zrc (by decide) (by decide) rfl)) (Nat.le_of_ble_eq_true rfl) rfl rfl (fun v h2 hq => ?_) (fun r h2 hq => by cases hq.1)
      obtain ⟨hq1, hF2, hC2⟩ := hq
      cases hq1
      refine w_return (zat TX3_measureTo 23 rfl) rfl ?_
      exact ⟨rfl, hF.tr hF2, hC2⟩
    · exact absurd (nI_le (by omega) (by omega)) Hc7
  | succ kk ih =>
    intro s hs h hF hC
    have hg : h.2.2 = h0.2.2 := congrArg Prod.snd hF.1
    have hW := Wc.same hg hW0
    have hP : zI h 56 0 9 = nI nP := by rw [hF.2 56 (by decide)]; exact hP0
    have hB : zI h 56 0 10 = nI nB := by rw [hF.2 56 (by decide)]; exact hB0
    refine w_iload_n (zat TX3_measureTo 2 rfl) rfl ?_
    refine w_aload_n (zat TX3_measureTo 3 rfl) rfl ?_
    refine y_getI (v := nI nP) (zat TX3_measureTo 4 rfl) fX3_40 s56 (by decide) (by decide) rfl hP ?_
    refine w_icmp_ge 33 (zat TX3_measureTo 5 rfl) (by decide) (fun Hc7 => ?_) (fun Hc7 => ?_)
    · exact absurd Hc7 (nI_ge (by omega) (by omega))
    · refine w_aload_n (zat TX3_measureTo 6 rfl) rfl ?_
      refine w_getR (zat TX3_measureTo 7 rfl) fX3_25 s56 (by decide) (by decide) rfl (wcr hW 17 rfl) ?_
      refine w_iload_n (zat TX3_measureTo 8 rfl) rfl ?_
      refine w_iload_n (zat TX3_measureTo 9 rfl) rfl ?_
      refine w_iload_n (zat TX3_measureTo 10 rfl) rfl ?_
      refine w_icmp_ne 24 (zat TX3_measureTo 11 rfl) (by decide) (fun Hc17 => ?_) (fun Hc17 => ?_)
      · refine w_ldc (v := 1000000) (zat TX3_measureTo 14 rfl) zw732 ?_
        refine x_iastore s _ (zat TX3_measureTo 15 rfl) s68 (by decide) (wcn hW 8 rfl) (by decide) rfl (by omega) ?_
        refine x_iinc (v := nI (s + 1)) (ls2 := [_, _, _]) (zat TX3_measureTo 16 rfl) rfl (nI_inc s) rfl ?_
        refine w_goto 2 (zat TX3_measureTo 17 rfl) (by decide) ?_
        refine ih (s + 1) (by omega) _ (hF.w _ _) (fun j hj => ?_)
        by_cases e : j = s
        · rw [e, zI_same]
          first | rw [show tF p s = 1000000 from if_neg (fun q => Hc17 (congrArg nI q))]; rfl | rw [show tF p s = 0 from if_pos (nIe (by omega) (by omega) Hc17)]; rfl
        · rw [zI_oth _ _ _ _ _ e]
          exact hC j (by omega)
      · refine w_iconst (v := 0) (zat TX3_measureTo 12 rfl) (by decide) ?_
        refine w_goto 26 (zat TX3_measureTo 13 rfl) (by decide) ?_
        refine x_iastore s _ (zat TX3_measureTo 15 rfl) s68 (by decide) (wcn hW 8 rfl) (by decide) rfl (by omega) ?_
        refine x_iinc (v := nI (s + 1)) (ls2 := [_, _, _]) (zat TX3_measureTo 16 rfl) rfl (nI_inc s) rfl ?_
        refine w_goto 2 (zat TX3_measureTo 17 rfl) (by decide) ?_
        refine ih (s + 1) (by omega) _ (hF.w _ _) (fun j hj => ?_)
        by_cases e : j = s
        · rw [e, zI_same]
          first | rw [show tF p s = 1000000 from if_neg (fun q => Hc17 (congrArg nI q))]; rfl | rw [show tF p s = 0 from if_pos (nIe (by omega) (by omega) Hc17)]; rfl
        · rw [zI_oth _ _ _ _ _ e]
          exact hC j (by omega)
theorem qX3_measureTo (l : Launch) (h0 : zH) (hW0 : Wc h0) (nP : Nat) (hP0 : zI h0 56 0 9 = nI nP) (hP2 : nP ≤ 10) (nB : Nat) (hB0 : zI h0 56 0 10 = nI nB) (hB2 : nB ≤ 16) (on ot t : Nat → Nat) (hBT : BT h0 nP nB on ot t) (p : Nat) (hp : p < nP) : Ct l 2 mX3_measureTo [Vq (some (56, 0)), Vi (nI p)] h0 (fun o h' => o = R0 ∧ FrG 68 h0 h' ∧ CF h' 68 nP (bL on ot t nB nP (tF p))) := by
  refine Ct.in 1 kX3_measureTo (plainFor_of_name rfl) (Nat.le_of_ble_eq_true rfl) ?_
  refine w_iconst (v := 0) (zat TX3_measureTo 0 rfl) (by decide) ?_
  refine x_istore_n (ls2 := [_, _, _]) (zat TX3_measureTo 1 rfl) (by decide) rfl ?_
  exact lX3_measureTo l h0 hW0 nP hP0 hP2 nB hB0 hB2 on ot t hBT p hp nP 0 (by omega) h0 (FrG.rf 68 h0) (fun j hj => by omega)
