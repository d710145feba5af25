-- next of the model, by program (wip/gen/p83.py)
def FrD (h h' : zH) : Prop := h'.2.2 = h.2.2 ∧ (∀ k, k ≠ 1 → zI h' k = zI h k) ∧ (∀ i j, (j < 21 ∨ 25 < j) → zI h' 1 i j = zI h 1 i j) ∧ ∀ k i j, ¬ (k = 1 ∧ i = 0 ∧ j = 28) → zL h' k i j = zL h k i j
theorem FrD.rf (h : zH) : FrD h h := ⟨rfl, fun _ _ => rfl, fun _ _ _ => rfl, fun _ _ _ _ => rfl⟩
theorem FrD.tr {a b c : zH} (x : FrD a b) (y : FrD b c) : FrD a c := ⟨y.1.trans x.1, fun k h => (y.2.1 k h).trans (x.2.1 k h), fun i j h => (y.2.2.1 i j h).trans (x.2.2.1 i j h), fun k i j h => (y.2.2.2 k i j h).trans (x.2.2.2 k i j h)⟩
theorem FrD.w {a b : zH} (x : FrD a b) (j : Nat) (hj : 21 ≤ j ∧ j ≤ 25) (v : Int32) : FrD a (zsI b 1 0 j v) := ⟨x.1, fun k h => by rw [← x.2.1 k h]; exact zI_ss b 1 0 j v h, fun i j' h => by rw [← x.2.2.1 i j' h]; exact zI_ot2 b 1 0 j v (by omega) i, x.2.2.2⟩
theorem FrD.wL {a b : zH} (x : FrD a b) (v : Int64) : FrD a (zsL b 1 0 28 v) := ⟨x.1, x.2.1, x.2.2.1, fun k i j h => by rw [← x.2.2.2 k i j h]; exact if_neg h⟩
theorem FrD.tx {a b : zH} (x : FrD a b) {n : Nat} {B : Nat → Nat} (h : Tx a 19 n B) : Tx b 19 n B := by
  unfold Tx
  rw [x.2.1 19 (by decide)]
  exact h
/-- the model holds the token that begins at a: place and end -/
def Nx (h : zH) (B : Nat → Nat) (n : Nat) (t : Int32 × Nat × Nat) : Prop := (∃ u, uok u ∧ t.1 = t32 u ∧ MS h u ∧ (u ≠ 22 → zI h 1 0 21 = nI t.2.2)) ∧ zI h 1 0 23 = nI t.2.1
theorem MS.nm {h : zH} {u : Nat} {v : Int32} : MS (zsI h 1 0 23 v) u ↔ MS h u := by
  unfold MS
  rw [zI_oth _ _ _ _ _ (by decide), zI_oth _ _ _ _ _ (by decide), zI_oth _ _ _ _ _ (by decide)]
  rfl
theorem lX14_next_80 (l : Launch) (h0 : zH) (hWM0 : Wm h0) (n : Nat) (B : Nat → Nat) (hX0 : Tx h0 19 n B) (hn0 : zI h0 1 0 20 = nI n) (c : Int32) (a : Nat) (ha : a < n) (hA : isL (B a)) (Q : zO → zH → Prop) (K : ∀ h, FrD h0 h → ∀ e, e = rn (pL B n) n (a + 1) → a + 1 ≤ e → e ≤ n → zI h 1 0 21 = nI e → zI h 1 0 22 = 0 → zI h 1 0 23 = nI a → zL h 1 0 28 = Int64.ofNat (hv (ldg B a) (min (e - a) 8)) → Wp l mX14_next 2 143 [some (Vq (some (1, 0))), some (Vi c), some (Vi (nI (e - a)))] [] h Q) : ∀ kk k : Nat, a + k + kk = n → ∀ h, FrD h0 h → zI h 1 0 21 = nI (a + k) → zI h 1 0 22 = 0 → zI h 1 0 23 = nI a → zL h 1 0 28 = Int64.ofNat (hv (ldg B a) (min k 8)) → (∀ i, i < k → isL (B (a + i))) → Wp l mX14_next 2 80 [some (Vq (some (1, 0))), some (Vi c), some (Vi (nI k))] [] h Q := by
  intro kk
  induction kk with
  | zero =>
    intro k hk h hF hat h22 h23 hval hi
    have hWM := Wm.same hF.1 hWM0
    have hX := hF.tx hX0
    have hn : zI h 1 0 20 = nI n := by rw [hF.2.2.1 0 20 (by omega)]; exact hn0
    have hn3 := hX0.1
    have hb := fun k (hk : k < n) => (hX0.2 k hk).2
    have hk1 : 1 ≤ k := by
      apply Decidable.byContradiction
      intro z
      omega
    refine w_aload_n (zat TX14_next_0 43 rfl) rfl ?_
    refine w_aload_n (zat TX14_next_0 44 rfl) rfl ?_
    refine y_getI (v := nI (a + k)) (zat TX14_next_0 45 rfl) fX14_160 s1 (by decide) (by decide) rfl hat ?_
    refine x_callv2 (qX14_byteAt l _ hWM n B hX hn (a + k) (by omega)) (by decide) kX14_byteAt (rdy_V (zat TX14_next_0 46 rfl) kX14_byteAt pX14_byteAt zw1244 zw1246 zw39 (zrc (by decide) (by decide) rfl)) (Nat.le_of_ble_eq_true rfl) rfl rfl ?_
    refine x_callv1 (qX14_isLetter l h _) (by decide) kX14_isLetter (rdy_S (zat TX14_next_0 47 rfl) kX14_isLetter pX14_isLetter zw1248 zw1249) (Nat.le_of_ble_eq_true rfl) rfl rfl ?_
    refine w_if_eq 143 (zat TX14_next_0 48 rfl) (by decide) (fun Hc91 => ?_) (fun Hc91 => ?_)
    · rw [zb_0, bA_L hb] at Hc91
      have Hx := Hc91
      have hk1 : 1 ≤ k := by
        apply Decidable.byContradiction
        intro z
        have e : k = 0 := by omega
        rw [e] at Hx
        exact Hx ⟨ha, hA⟩
      have he : a + k = rn (pL B n) n (a + 1) := (rn_one (pL_n (B := B) (n := n)) (by omega) (by omega) (fun i h1 h2 => decide_eq_true ⟨by omega, by have := hi (i - a) (by omega); rw [show a + (i - a) = i by omega] at this; exact this⟩) (decide_eq_false Hx)).symm
      have hz := K h hF (a + k) he (by omega) (by omega) hat h22 h23 (by rw [Nat.add_sub_cancel_left]; exact hval)
      rw [Nat.add_sub_cancel_left] at hz
      exact hz
    · rw [zb_0, bA_L hb, Decidable.not_not] at Hc91
      exact absurd Hc91.1 (by omega)
  | succ kk ih =>
    intro k hk h hF hat h22 h23 hval hi
    have hWM := Wm.same hF.1 hWM0
    have hX := hF.tx hX0
    have hn : zI h 1 0 20 = nI n := by rw [hF.2.2.1 0 20 (by omega)]; exact hn0
    have hn3 := hX0.1
    have hb := fun k (hk : k < n) => (hX0.2 k hk).2
    by_cases hlm : k < 8
    · skip
      refine w_aload_n (zat TX14_next_0 43 rfl) rfl ?_
      refine w_aload_n (zat TX14_next_0 44 rfl) rfl ?_
      refine y_getI (v := nI (a + k)) (zat TX14_next_0 45 rfl) fX14_160 s1 (by decide) (by decide) rfl hat ?_
      refine x_callv2 (qX14_byteAt l _ hWM n B hX hn (a + k) (by omega)) (by decide) kX14_byteAt (rdy_V (zat TX14_next_0 46 rfl) kX14_byteAt pX14_byteAt zw1244 zw1246 zw39 (zrc (by decide) (by decide) rfl)) (Nat.le_of_ble_eq_true rfl) rfl rfl ?_
      refine x_callv1 (qX14_isLetter l h _) (by decide) kX14_isLetter (rdy_S (zat TX14_next_0 47 rfl) kX14_isLetter pX14_isLetter zw1248 zw1249) (Nat.le_of_ble_eq_true rfl) rfl rfl ?_
      refine w_if_eq 143 (zat TX14_next_0 48 rfl) (by decide) (fun Hc91 => ?_) (fun Hc91 => ?_)
      · rw [zb_0, bA_L hb] at Hc91
        have Hx := Hc91
        have hk1 : 1 ≤ k := by
          apply Decidable.byContradiction
          intro z
          have e : k = 0 := by omega
          rw [e] at Hx
          exact Hx ⟨ha, hA⟩
        have he : a + k = rn (pL B n) n (a + 1) := (rn_one (pL_n (B := B) (n := n)) (by omega) (by omega) (fun i h1 h2 => decide_eq_true ⟨by omega, by have := hi (i - a) (by omega); rw [show a + (i - a) = i by omega] at this; exact this⟩) (decide_eq_false Hx)).symm
        have hz := K h hF (a + k) he (by omega) (by omega) hat h22 h23 (by rw [Nat.add_sub_cancel_left]; exact hval)
        rw [Nat.add_sub_cancel_left] at hz
        exact hz
      · rw [zb_0, bA_L hb, Decidable.not_not] at Hc91
        have hL := Hc91.2
        have hv1 : (32 : Int64) * Int64.ofNat (hv (ldg B a) (min k 8)) + (bA B n (a + k) - 97 + 1).toInt64 = Int64.ofNat (hv (ldg B a) (min (k + 1) 8)) := by
          rw [bA_in Hc91.1, ltr hL, Nat.min_eq_left (by omega), Nat.min_eq_left (by omega)]
          show _ = Int64.ofNat (32 * hv (ldg B a) k + ldg B a k)
          rw [Int64.ofNat_add, Int64.ofNat_mul]
          rfl
        refine w_iload_n (zat TX14_next_0 49 rfl) rfl ?_
        refine w_bipush (v := 8) (zat TX14_next_0 50 rfl) (by decide) ?_
        refine w_icmp_ge 127 (zat TX14_next_0 51 rfl) (by decide) (fun Hc97 => ?_) (fun Hc97 => ?_)
        · exact absurd Hc97 (nI_ge (b := 8) (by omega) (by omega))
        · refine w_aload_n (zat TX14_next_0 52 rfl) rfl ?_
          refine w_ldc2 (v := 32) (zat TX14_next_0 53 rfl) zw1251 ?_
          refine w_aload_n (zat TX14_next_0 54 rfl) rfl ?_
          refine y_getL (v := Int64.ofNat (hv (ldg B a) (min k 8))) (zat TX14_next_0 55 rfl) fX14_175 s1 (by decide) (by decide) rfl hval ?_
          refine w_lmul (zat TX14_next_0 56 rfl) ?_
          refine w_aload_n (zat TX14_next_0 57 rfl) rfl ?_
          refine w_aload_n (zat TX14_next_0 58 rfl) rfl ?_
          refine y_getI (v := nI (a + k)) (zat TX14_next_0 59 rfl) fX14_160 s1 (by decide) (by decide) rfl hat ?_
          refine x_callv2 (qX14_byteAt l _ hWM n B hX hn (a + k) (by omega)) (by decide) kX14_byteAt (rdy_V (zat TX14_next_1 0 rfl) kX14_byteAt pX14_byteAt zw1244 zw1246 zw39 (zrc (by decide) (by decide) rfl)) (Nat.le_of_ble_eq_true rfl) rfl rfl ?_
          refine w_bipush (v := 97) (zat TX14_next_1 1 rfl) (by decide) ?_
          refine w_isub (zat TX14_next_1 2 rfl) ?_
          refine w_iconst (v := 1) (zat TX14_next_1 3 rfl) (by decide) ?_
          refine w_iadd (zat TX14_next_1 4 rfl) ?_
          refine w_i2l (zat TX14_next_1 5 rfl) ?_
          refine w_ladd (zat TX14_next_1 6 rfl) ?_
          rw [hv1]
          refine w_putL (zat TX14_next_1 7 rfl) gX14_next_175 s1 (by decide) (by decide) rfl ⟨rfl, rfl⟩ ?_
          refine x_iinc (v := nI (k + 1)) (ls2 := [_, _, _]) (zat TX14_next_1 8 rfl) rfl (nI_inc k) rfl ?_
          refine w_aload_n (zat TX14_next_1 9 rfl) rfl ?_
          refine w_dup (zat TX14_next_1 10 rfl) rfl ?_
          refine y_getI (v := nI (a + k)) (zat TX14_next_1 11 rfl) fX14_160 s1 (by decide) (by decide) rfl hat ?_
          refine w_iconst (v := 1) (zat TX14_next_1 12 rfl) (by decide) ?_
          refine w_iadd (zat TX14_next_1 13 rfl) ?_
          rw [nI_1]
          refine w_putI (zat TX14_next_1 14 rfl) gX14_next_160 s1 (by decide) (by decide) rfl ⟨rfl, rfl⟩ ?_
          refine w_goto 80 (zat TX14_next_1 15 rfl) (by decide) ?_
          exact ih (k + 1) (by omega) (zsI (zsL h 1 0 28 (Int64.ofNat (hv (ldg B a) (min (k + 1) 8)))) 1 0 21 (nI (a + k + 1))) ((hF.wL _).w 21 (by omega) _) (zI_same _ _ _ _ _) ((zI_oth _ _ _ _ _ (by decide)).trans h22) ((zI_oth _ _ _ _ _ (by decide)).trans h23) (zL_same h 1 0 28 _) (fun i hi2 => by
              by_cases e : i = k
              · rw [e]; exact hL
              · exact hi i (by omega))
    · skip
      refine w_aload_n (zat TX14_next_0 43 rfl) rfl ?_
      refine w_aload_n (zat TX14_next_0 44 rfl) rfl ?_
      refine y_getI (v := nI (a + k)) (zat TX14_next_0 45 rfl) fX14_160 s1 (by decide) (by decide) rfl hat ?_
      refine x_callv2 (qX14_byteAt l _ hWM n B hX hn (a + k) (by omega)) (by decide) kX14_byteAt (rdy_V (zat TX14_next_0 46 rfl) kX14_byteAt pX14_byteAt zw1244 zw1246 zw39 (zrc (by decide) (by decide) rfl)) (Nat.le_of_ble_eq_true rfl) rfl rfl ?_
      refine x_callv1 (qX14_isLetter l h _) (by decide) kX14_isLetter (rdy_S (zat TX14_next_0 47 rfl) kX14_isLetter pX14_isLetter zw1248 zw1249) (Nat.le_of_ble_eq_true rfl) rfl rfl ?_
      refine w_if_eq 143 (zat TX14_next_0 48 rfl) (by decide) (fun Hc91 => ?_) (fun Hc91 => ?_)
      · rw [zb_0, bA_L hb] at Hc91
        have Hx := Hc91
        have hk1 : 1 ≤ k := by
          apply Decidable.byContradiction
          intro z
          have e : k = 0 := by omega
          rw [e] at Hx
          exact Hx ⟨ha, hA⟩
        have he : a + k = rn (pL B n) n (a + 1) := (rn_one (pL_n (B := B) (n := n)) (by omega) (by omega) (fun i h1 h2 => decide_eq_true ⟨by omega, by have := hi (i - a) (by omega); rw [show a + (i - a) = i by omega] at this; exact this⟩) (decide_eq_false Hx)).symm
        have hz := K h hF (a + k) he (by omega) (by omega) hat h22 h23 (by rw [Nat.add_sub_cancel_left]; exact hval)
        rw [Nat.add_sub_cancel_left] at hz
        exact hz
      · rw [zb_0, bA_L hb, Decidable.not_not] at Hc91
        have hL := Hc91.2
        refine w_iload_n (zat TX14_next_0 49 rfl) rfl ?_
        refine w_bipush (v := 8) (zat TX14_next_0 50 rfl) (by decide) ?_
        refine w_icmp_ge 127 (zat TX14_next_0 51 rfl) (by decide) (fun Hc97 => ?_) (fun Hc97 => ?_)
        · refine x_iinc (v := nI (k + 1)) (ls2 := [_, _, _]) (zat TX14_next_1 8 rfl) rfl (nI_inc k) rfl ?_
          refine w_aload_n (zat TX14_next_1 9 rfl) rfl ?_
          refine w_dup (zat TX14_next_1 10 rfl) rfl ?_
          refine y_getI (v := nI (a + k)) (zat TX14_next_1 11 rfl) fX14_160 s1 (by decide) (by decide) rfl hat ?_
          refine w_iconst (v := 1) (zat TX14_next_1 12 rfl) (by decide) ?_
          refine w_iadd (zat TX14_next_1 13 rfl) ?_
          rw [nI_1]
          refine w_putI (zat TX14_next_1 14 rfl) gX14_next_160 s1 (by decide) (by decide) rfl ⟨rfl, rfl⟩ ?_
          refine w_goto 80 (zat TX14_next_1 15 rfl) (by decide) ?_
          exact ih (k + 1) (by omega) (zsI h 1 0 21 (nI (a + k + 1))) (hF.w 21 (by omega) _) (zI_same _ _ _ _ _) ((zI_oth _ _ _ _ _ (by decide)).trans h22) ((zI_oth _ _ _ _ _ (by decide)).trans h23) (hval.trans (by rw [Nat.min_eq_right (by omega), Nat.min_eq_right (by omega)])) (fun i hi2 => by
              by_cases e : i = k
              · rw [e]; exact hL
              · exact hi i (by omega))
        · exact absurd (nI_le (a := 8) (by omega) (by omega)) Hc97
theorem lX14_next_169 (l : Launch) (h0 : zH) (hWM0 : Wm h0) (n : Nat) (B : Nat → Nat) (hX0 : Tx h0 19 n B) (hn0 : zI h0 1 0 20 = nI n) (c : Int32) (a : Nat) (ha : a < n) (hA : isD (B a)) (Q : zO → zH → Prop) (K : ∀ h, FrD h0 h → ∀ e, e = rn (pD B n) n (a + 1) → a + 1 ≤ e → e ≤ n → zI h 1 0 21 = nI e → zI h 1 0 22 = 0 → zI h 1 0 23 = nI a → zI h 1 0 25 = nI (dg B a (min (e - a) 4)) → Wp l mX14_next 2 227 [some (Vq (some (1, 0))), some (Vi c), some (Vi (nI (e - a)))] [] h Q) : ∀ kk k : Nat, a + k + kk = n → ∀ h, FrD h0 h → zI h 1 0 21 = nI (a + k) → zI h 1 0 22 = 0 → zI h 1 0 23 = nI a → zI h 1 0 25 = nI (dg B a (min k 4)) → (∀ i, i < k → isD (B (a + i))) → Wp l mX14_next 2 169 [some (Vq (some (1, 0))), some (Vi c), some (Vi (nI k))] [] h Q := by
  intro kk
  induction kk with
  | zero =>
    intro k hk h hF hat h22 h23 hval hi
    have hWM := Wm.same hF.1 hWM0
    have hX := hF.tx hX0
    have hn : zI h 1 0 20 = nI n := by rw [hF.2.2.1 0 20 (by omega)]; exact hn0
    have hn3 := hX0.1
    have hb := fun k (hk : k < n) => (hX0.2 k hk).2
    have hk1 : 1 ≤ k := by
      apply Decidable.byContradiction
      intro z
      omega
    refine w_aload_n (zat TX14_next_1 29 rfl) rfl ?_
    refine w_aload_n (zat TX14_next_1 30 rfl) rfl ?_
    refine y_getI (v := nI (a + k)) (zat TX14_next_1 31 rfl) fX14_160 s1 (by decide) (by decide) rfl hat ?_
    refine x_callv2 (qX14_byteAt l _ hWM n B hX hn (a + k) (by omega)) (by decide) kX14_byteAt (rdy_V (zat TX14_next_1 32 rfl) kX14_byteAt pX14_byteAt zw1244 zw1246 zw39 (zrc (by decide) (by decide) rfl)) (Nat.le_of_ble_eq_true rfl) rfl rfl ?_
    refine x_callv1 (qX14_isDigit l h _) (by decide) kX14_isDigit (rdy_S (zat TX14_next_1 33 rfl) kX14_isDigit pX14_isDigit zw1252 zw1253) (Nat.le_of_ble_eq_true rfl) rfl rfl ?_
    refine w_if_eq 227 (zat TX14_next_1 34 rfl) (by decide) (fun Hc180 => ?_) (fun Hc180 => ?_)
    · rw [zb_0, bA_D hb] at Hc180
      have Hx := Hc180
      have hk1 : 1 ≤ k := by
        apply Decidable.byContradiction
        intro z
        have e : k = 0 := by omega
        rw [e] at Hx
        exact Hx ⟨ha, hA⟩
      have he : a + k = rn (pD B n) n (a + 1) := (rn_one (pD_n (B := B) (n := n)) (by omega) (by omega) (fun i h1 h2 => decide_eq_true ⟨by omega, by have := hi (i - a) (by omega); rw [show a + (i - a) = i by omega] at this; exact this⟩) (decide_eq_false Hx)).symm
      have hz := K h hF (a + k) he (by omega) (by omega) hat h22 h23 (by rw [Nat.add_sub_cancel_left]; exact hval)
      rw [Nat.add_sub_cancel_left] at hz
      exact hz
    · rw [zb_0, bA_D hb, Decidable.not_not] at Hc180
      exact absurd Hc180.1 (by omega)
  | succ kk ih =>
    intro k hk h hF hat h22 h23 hval hi
    have hWM := Wm.same hF.1 hWM0
    have hX := hF.tx hX0
    have hn : zI h 1 0 20 = nI n := by rw [hF.2.2.1 0 20 (by omega)]; exact hn0
    have hn3 := hX0.1
    have hb := fun k (hk : k < n) => (hX0.2 k hk).2
    by_cases hlm : k < 4
    · skip
      refine w_aload_n (zat TX14_next_1 29 rfl) rfl ?_
      refine w_aload_n (zat TX14_next_1 30 rfl) rfl ?_
      refine y_getI (v := nI (a + k)) (zat TX14_next_1 31 rfl) fX14_160 s1 (by decide) (by decide) rfl hat ?_
      refine x_callv2 (qX14_byteAt l _ hWM n B hX hn (a + k) (by omega)) (by decide) kX14_byteAt (rdy_V (zat TX14_next_1 32 rfl) kX14_byteAt pX14_byteAt zw1244 zw1246 zw39 (zrc (by decide) (by decide) rfl)) (Nat.le_of_ble_eq_true rfl) rfl rfl ?_
      refine x_callv1 (qX14_isDigit l h _) (by decide) kX14_isDigit (rdy_S (zat TX14_next_1 33 rfl) kX14_isDigit pX14_isDigit zw1252 zw1253) (Nat.le_of_ble_eq_true rfl) rfl rfl ?_
      refine w_if_eq 227 (zat TX14_next_1 34 rfl) (by decide) (fun Hc180 => ?_) (fun Hc180 => ?_)
      · rw [zb_0, bA_D hb] at Hc180
        have Hx := Hc180
        have hk1 : 1 ≤ k := by
          apply Decidable.byContradiction
          intro z
          have e : k = 0 := by omega
          rw [e] at Hx
          exact Hx ⟨ha, hA⟩
        have he : a + k = rn (pD B n) n (a + 1) := (rn_one (pD_n (B := B) (n := n)) (by omega) (by omega) (fun i h1 h2 => decide_eq_true ⟨by omega, by have := hi (i - a) (by omega); rw [show a + (i - a) = i by omega] at this; exact this⟩) (decide_eq_false Hx)).symm
        have hz := K h hF (a + k) he (by omega) (by omega) hat h22 h23 (by rw [Nat.add_sub_cancel_left]; exact hval)
        rw [Nat.add_sub_cancel_left] at hz
        exact hz
      · rw [zb_0, bA_D hb, Decidable.not_not] at Hc180
        have hL := Hc180.2
        have hv1 : (10 : Int32) * nI (dg B a (min k 4)) + bA B n (a + k) - 48 = nI (dg B a (min (k + 1) 4)) := by
          rw [bA_in Hc180.1, Nat.min_eq_left (by omega), Nat.min_eq_left (by omega), show (10 : Int32) = nI 10 from rfl, nI_mul2, nI_add, show (48 : Int32) = nI 48 from rfl, nI_sub (by omega)]
          show _ = nI (dg B a k * 10 + (B (a + k) - 48))
          congr 1
          omega
        refine w_iload_n (zat TX14_next_1 35 rfl) rfl ?_
        refine w_iconst (v := 4) (zat TX14_next_1 36 rfl) (by decide) ?_
        refine w_icmp_ge 211 (zat TX14_next_1 37 rfl) (by decide) (fun Hc185 => ?_) (fun Hc185 => ?_)
        · exact absurd Hc185 (nI_ge (b := 4) (by omega) (by omega))
        · refine w_aload_n (zat TX14_next_1 38 rfl) rfl ?_
          refine w_bipush (v := 10) (zat TX14_next_1 39 rfl) (by decide) ?_
          refine w_aload_n (zat TX14_next_1 40 rfl) rfl ?_
          refine y_getI (v := nI (dg B a (min k 4))) (zat TX14_next_1 41 rfl) fX14_182 s1 (by decide) (by decide) rfl hval ?_
          refine w_imul (zat TX14_next_1 42 rfl) ?_
          refine w_aload_n (zat TX14_next_1 43 rfl) rfl ?_
          refine w_aload_n (zat TX14_next_1 44 rfl) rfl ?_
          refine y_getI (v := nI (a + k)) (zat TX14_next_1 45 rfl) fX14_160 s1 (by decide) (by decide) rfl hat ?_
          refine x_callv2 (qX14_byteAt l _ hWM n B hX hn (a + k) (by omega)) (by decide) kX14_byteAt (rdy_V (zat TX14_next_1 46 rfl) kX14_byteAt pX14_byteAt zw1244 zw1246 zw39 (zrc (by decide) (by decide) rfl)) (Nat.le_of_ble_eq_true rfl) rfl rfl ?_
          refine w_iadd (zat TX14_next_1 47 rfl) ?_
          refine w_bipush (v := 48) (zat TX14_next_1 48 rfl) (by decide) ?_
          refine w_isub (zat TX14_next_1 49 rfl) ?_
          rw [hv1]
          refine w_putI (zat TX14_next_1 50 rfl) gX14_next_182 s1 (by decide) (by decide) rfl ⟨rfl, rfl⟩ ?_
          refine x_iinc (v := nI (k + 1)) (ls2 := [_, _, _]) (zat TX14_next_1 51 rfl) rfl (nI_inc k) rfl ?_
          refine w_aload_n (zat TX14_next_1 52 rfl) rfl ?_
          refine w_dup (zat TX14_next_1 53 rfl) rfl ?_
          refine y_getI (v := nI (a + k)) (zat TX14_next_1 54 rfl) fX14_160 s1 (by decide) (by decide) rfl hat ?_
          refine w_iconst (v := 1) (zat TX14_next_1 55 rfl) (by decide) ?_
          refine w_iadd (zat TX14_next_1 56 rfl) ?_
          rw [nI_1]
          refine w_putI (zat TX14_next_1 57 rfl) gX14_next_160 s1 (by decide) (by decide) rfl ⟨rfl, rfl⟩ ?_
          refine w_goto 169 (zat TX14_next_1 58 rfl) (by decide) ?_
          exact ih (k + 1) (by omega) (zsI (zsI h 1 0 25 (nI (dg B a (min (k + 1) 4)))) 1 0 21 (nI (a + k + 1))) ((hF.w 25 (by omega) _).w 21 (by omega) _) (zI_same _ _ _ _ _) ((zI_oth _ _ _ _ _ (by decide)).trans ((zI_oth _ _ _ _ _ (by decide)).trans h22)) ((zI_oth _ _ _ _ _ (by decide)).trans ((zI_oth _ _ _ _ _ (by decide)).trans h23)) ((zI_oth _ _ _ _ _ (by decide)).trans (zI_same _ _ _ _ _)) (fun i hi2 => by
              by_cases e : i = k
              · rw [e]; exact hL
              · exact hi i (by omega))
    · skip
      refine w_aload_n (zat TX14_next_1 29 rfl) rfl ?_
      refine w_aload_n (zat TX14_next_1 30 rfl) rfl ?_
      refine y_getI (v := nI (a + k)) (zat TX14_next_1 31 rfl) fX14_160 s1 (by decide) (by decide) rfl hat ?_
      refine x_callv2 (qX14_byteAt l _ hWM n B hX hn (a + k) (by omega)) (by decide) kX14_byteAt (rdy_V (zat TX14_next_1 32 rfl) kX14_byteAt pX14_byteAt zw1244 zw1246 zw39 (zrc (by decide) (by decide) rfl)) (Nat.le_of_ble_eq_true rfl) rfl rfl ?_
      refine x_callv1 (qX14_isDigit l h _) (by decide) kX14_isDigit (rdy_S (zat TX14_next_1 33 rfl) kX14_isDigit pX14_isDigit zw1252 zw1253) (Nat.le_of_ble_eq_true rfl) rfl rfl ?_
      refine w_if_eq 227 (zat TX14_next_1 34 rfl) (by decide) (fun Hc180 => ?_) (fun Hc180 => ?_)
      · rw [zb_0, bA_D hb] at Hc180
        have Hx := Hc180
        have hk1 : 1 ≤ k := by
          apply Decidable.byContradiction
          intro z
          have e : k = 0 := by omega
          rw [e] at Hx
          exact Hx ⟨ha, hA⟩
        have he : a + k = rn (pD B n) n (a + 1) := (rn_one (pD_n (B := B) (n := n)) (by omega) (by omega) (fun i h1 h2 => decide_eq_true ⟨by omega, by have := hi (i - a) (by omega); rw [show a + (i - a) = i by omega] at this; exact this⟩) (decide_eq_false Hx)).symm
        have hz := K h hF (a + k) he (by omega) (by omega) hat h22 h23 (by rw [Nat.add_sub_cancel_left]; exact hval)
        rw [Nat.add_sub_cancel_left] at hz
        exact hz
      · rw [zb_0, bA_D hb, Decidable.not_not] at Hc180
        have hL := Hc180.2
        refine w_iload_n (zat TX14_next_1 35 rfl) rfl ?_
        refine w_iconst (v := 4) (zat TX14_next_1 36 rfl) (by decide) ?_
        refine w_icmp_ge 211 (zat TX14_next_1 37 rfl) (by decide) (fun Hc185 => ?_) (fun Hc185 => ?_)
        · refine x_iinc (v := nI (k + 1)) (ls2 := [_, _, _]) (zat TX14_next_1 51 rfl) rfl (nI_inc k) rfl ?_
          refine w_aload_n (zat TX14_next_1 52 rfl) rfl ?_
          refine w_dup (zat TX14_next_1 53 rfl) rfl ?_
          refine y_getI (v := nI (a + k)) (zat TX14_next_1 54 rfl) fX14_160 s1 (by decide) (by decide) rfl hat ?_
          refine w_iconst (v := 1) (zat TX14_next_1 55 rfl) (by decide) ?_
          refine w_iadd (zat TX14_next_1 56 rfl) ?_
          rw [nI_1]
          refine w_putI (zat TX14_next_1 57 rfl) gX14_next_160 s1 (by decide) (by decide) rfl ⟨rfl, rfl⟩ ?_
          refine w_goto 169 (zat TX14_next_1 58 rfl) (by decide) ?_
          exact ih (k + 1) (by omega) (zsI h 1 0 21 (nI (a + k + 1))) (hF.w 21 (by omega) _) (zI_same _ _ _ _ _) ((zI_oth _ _ _ _ _ (by decide)).trans h22) ((zI_oth _ _ _ _ _ (by decide)).trans h23) ((zI_oth _ _ _ _ _ (by decide)).trans (hval.trans (by rw [Nat.min_eq_right (by omega), Nat.min_eq_right (by omega)]))) (fun i hi2 => by
              by_cases e : i = k
              · rw [e]; exact hL
              · exact hi i (by omega))
        · exact absurd (nI_le (a := 4) (by omega) (by omega)) Hc185
theorem t32_inj {u v : Nat} (hu : uok u) (hv : uok v) (h : t32 u = t32 v) : u = v := by
  have h1 := t32_int hu
  have h2 := t32_int hv
  rw [h] at h1
  rw [h1] at h2
  unfold uok at hu hv
  split at h2 <;> split at h2 <;> omega
theorem spl_len {B : Nat → Nat} {s e j : Nat} (h : spl B s e j) : e = s + zlen.getD j 0 := h.1
theorem spl_two : ∀ j, j < 9 → ∀ k, k < 9 → zlen.getD j 0 = zlen.getD k 0 → (∀ i, i < zlen.getD j 0 → (zbyt.getD j []).getD i 0 = (zbyt.getD k []).getD i 0) → j = k := by decide
theorem spl_one {B : Nat → Nat} {s e j k : Nat} (hj : j < 9) (hk : k < 9) (h1 : spl B s e j) (h2 : spl B s e k) : j = k := by
  have e1 : zlen.getD j 0 = zlen.getD k 0 := by have := h1.1; have := h2.1; omega
  exact spl_two j hj k hk e1 (fun i hi => (h1.2 i hi).symm.trans (h2.2 i (by omega)))
theorem wTk_j {B : Nat → Nat} {s e : Nat} (j : Nat) (hj : j < 9) : spl B s e j ↔ wTk B s e = -1 - nI j := by
  have key : ∀ k, k < 9 → spl B s e k → wTk B s e = -1 - nI k := by
    intro k hk hs
    have hn : ∀ i, i < 9 → i ≠ k → ¬ spl B s e i := fun i hi hik z => hik (spl_one hi hk z hs)
    have hkk : k = 0 ∨ k = 1 ∨ k = 2 ∨ k = 3 ∨ k = 4 ∨ k = 5 ∨ k = 6 ∨ k = 7 ∨ k = 8 := by omega
    rcases hkk with q | q | q | q | q | q | q | q | q <;> subst q <;> unfold wTk
    · rw [if_pos hs]; rfl
    · rw [if_neg (hn 0 (by omega) (by omega)), if_pos hs]; rfl
    · rw [if_neg (hn 0 (by omega) (by omega)), if_neg (hn 1 (by omega) (by omega)), if_pos hs]; rfl
    · rw [if_neg (hn 0 (by omega) (by omega)), if_neg (hn 1 (by omega) (by omega)), if_neg (hn 2 (by omega) (by omega)), if_pos hs]; rfl
    · rw [if_neg (hn 0 (by omega) (by omega)), if_neg (hn 1 (by omega) (by omega)), if_neg (hn 2 (by omega) (by omega)), if_neg (hn 3 (by omega) (by omega)), if_pos hs]; rfl
    · rw [if_neg (hn 0 (by omega) (by omega)), if_neg (hn 1 (by omega) (by omega)), if_neg (hn 2 (by omega) (by omega)), if_neg (hn 3 (by omega) (by omega)), if_neg (hn 4 (by omega) (by omega))]; unfold nTk; rw [if_pos hs]; rfl
    · rw [if_neg (hn 0 (by omega) (by omega)), if_neg (hn 1 (by omega) (by omega)), if_neg (hn 2 (by omega) (by omega)), if_neg (hn 3 (by omega) (by omega)), if_neg (hn 4 (by omega) (by omega))]; unfold nTk; rw [if_neg (hn 5 (by omega) (by omega)), if_pos hs]; rfl
    · rw [if_neg (hn 0 (by omega) (by omega)), if_neg (hn 1 (by omega) (by omega)), if_neg (hn 2 (by omega) (by omega)), if_neg (hn 3 (by omega) (by omega)), if_neg (hn 4 (by omega) (by omega))]; unfold nTk; rw [if_neg (hn 5 (by omega) (by omega)), if_neg (hn 6 (by omega) (by omega)), if_pos hs]; rfl
    · rw [if_neg (hn 0 (by omega) (by omega)), if_neg (hn 1 (by omega) (by omega)), if_neg (hn 2 (by omega) (by omega)), if_neg (hn 3 (by omega) (by omega)), if_neg (hn 4 (by omega) (by omega))]; unfold nTk; rw [if_neg (hn 5 (by omega) (by omega)), if_neg (hn 6 (by omega) (by omega)), if_neg (hn 7 (by omega) (by omega)), if_pos hs]; rfl
  constructor
  · exact key j hj
  · intro h
    apply Decidable.byContradiction
    intro z
    by_cases ex : ∃ k, k < 9 ∧ spl B s e k
    · obtain ⟨k, k1, k2⟩ := ex
      have h2 := (key k k1 k2).symm.trans h
      rw [un_c1 k (by omega), un_c1 j (by omega)] at h2
      have h3 := t32_inj (Or.inl (by omega)) (Or.inl (by omega)) h2
      have e : k = j := by omega
      rw [e] at k2
      exact z k2
    · have hn : ∀ i, i < 9 → ¬ spl B s e i := fun i hi w => ex ⟨i, hi, w⟩
      unfold wTk nTk at h
      rw [if_neg (hn 0 (by omega)), if_neg (hn 1 (by omega)), if_neg (hn 2 (by omega)), if_neg (hn 3 (by omega)), if_neg (hn 4 (by omega)), if_neg (hn 5 (by omega)), if_neg (hn 6 (by omega)), if_neg (hn 7 (by omega)), if_neg (hn 8 (by omega))] at h
      rw [un_c1 j (by omega), show (-10 : Int32) = t32 10 by decide] at h
      have h3 := t32_inj (Or.inl (by omega)) (Or.inl (by omega)) h
      omega
theorem lX14_next_300 (l : Launch) (h0 : zH) (hWM0 : Wm h0) (n : Nat) (B : Nat → Nat) (hX0 : Tx h0 19 n B) (hn0 : zI h0 1 0 20 = nI n) (a : Nat) (ha : a < n) (hns : ¬ B a = 32) (hlet : ¬ isL (B a)) (hdig : ¬ isD (B a)) (uu : Nat) (hu1 : 11 ≤ uu) (hu2 : uu ≤ 20) (hu3 : sgT (B a) = t32 uu) (hu4 : B a = sbt uu) (h : zH) (hF : FrD h0 h) (hat : zI h 1 0 21 = nI a) (h23 : zI h 1 0 23 = nI a) (x2 : Option zV) : Wp l mX14_next 2 300 [some (Vq (some (1, 0))), some (Vi (nI (B a))), x2] [] h (fun o h' => o = R0 ∧ FrD h0 h' ∧ Nx h' B n (lx B n a)) := by
  have hat2 : zI (zsI (zsI h 1 0 22 4) 1 0 24 (nI (B a))) 1 0 21 = nI a := (zI_oth _ _ _ _ _ (by decide)).trans ((zI_oth _ _ _ _ _ (by decide)).trans hat)
  refine w_aload_n (zat TX14_next_2 36 rfl) rfl ?_
  refine w_iconst (v := 4) (zat TX14_next_2 37 rfl) (by decide) ?_
  refine w_putI (zat TX14_next_2 38 rfl) gX14_next_166 s1 (by decide) (by decide) rfl ⟨rfl, rfl⟩ ?_
  refine w_aload_n (zat TX14_next_2 39 rfl) rfl ?_
  refine w_iload_n (zat TX14_next_2 40 rfl) rfl ?_
  refine w_putI (zat TX14_next_2 41 rfl) gX14_next_169 s1 (by decide) (by decide) rfl ⟨rfl, rfl⟩ ?_
  refine w_aload_n (zat TX14_next_2 42 rfl) rfl ?_
  refine w_dup (zat TX14_next_2 43 rfl) rfl ?_
  refine y_getI (v := nI a) (zat TX14_next_2 44 rfl) fX14_160 s1 (by decide) (by decide) rfl hat2 ?_
  refine w_iconst (v := 1) (zat TX14_next_2 45 rfl) (by decide) ?_
  refine w_iadd (zat TX14_next_2 46 rfl) ?_
  rw [nI_1]
  refine w_putI (zat TX14_next_2 47 rfl) gX14_next_160 s1 (by decide) (by decide) rfl ⟨rfl, rfl⟩ ?_
  refine w_return (zat TX14_next_2 48 rfl) rfl ?_
  refine ⟨rfl, ((hF.w 22 (by omega) _).w 24 (by omega) _).w 21 (by omega) _, ⟨uu, Or.inl (by omega), ?_, Or.inr (Or.inr (Or.inr (Or.inl ⟨hu1, hu2, ?_, ?_⟩))), fun _ => ?_⟩, ?_⟩
  · rw [lx_no ha hns]
    show tkT B a (lxE B n a) = _
    unfold tkT
    rw [if_neg hlet, if_neg hdig]
    exact hu3
  · rw [zI_oth _ _ _ _ _ (by decide), zI_oth _ _ _ _ _ (by decide), zI_same]
  · rw [zI_oth _ _ _ _ _ (by decide), zI_same, hu4]
  · rw [zI_same, lx_no ha hns]
    show _ = nI (lxE B n a)
    unfold lxE
    rw [if_neg hlet, if_neg hdig]
  · rw [lx_no ha hns, zI_oth _ _ _ _ _ (by decide), zI_oth _ _ _ _ _ (by decide), zI_oth _ _ _ _ _ (by decide)]
    exact h23
theorem lX14_next_240 (l : Launch) (h0 : zH) (hWM0 : Wm h0) (n : Nat) (B : Nat → Nat) (hX0 : Tx h0 19 n B) (hn0 : zI h0 1 0 20 = nI n) (a : Nat) (ha : a < n) (hns : ¬ B a = 32) (hlet : ¬ isL (B a)) (hdig : ¬ isD (B a)) (h : zH) (hF : FrD h0 h) (hat : zI h 1 0 21 = nI a) (h22 : zI h 1 0 22 = 0) (h23 : zI h 1 0 23 = nI a) (x2 : Option zV) : Wp l mX14_next 2 240 [some (Vq (some (1, 0))), some (Vi (nI (B a))), x2] [] h (fun o h' => o = R0 ∧ FrD h0 h' ∧ Nx h' B n (lx B n a)) := by
  have hba := (hX0.2 a ha).2
  refine w_iload_n (zat TX14_next_2 6 rfl) rfl ?_
  refine w_bipush (v := 60) (zat TX14_next_2 7 rfl) (by decide) ?_
  refine w_icmp_eq 300 (zat TX14_next_2 8 rfl) (by decide) (fun Hc243 => ?_) (fun Hc243 => ?_)
  · have hz : B a = 60 := nIe (b := 60) (by omega) (by omega) Hc243
    exact lX14_next_300 l h0 hWM0 n B hX0 hn0 a ha hns hlet hdig 11 (by omega) (by omega) (by rw [hz]; decide) (by rw [hz]; rfl) h hF hat h23 _
  · have e60 : ¬ B a = 60 := fun z => Hc243 (by rw [z]; rfl)
    refine w_iload_n (zat TX14_next_2 9 rfl) rfl ?_
    refine w_bipush (v := 62) (zat TX14_next_2 10 rfl) (by decide) ?_
    refine w_icmp_eq 300 (zat TX14_next_2 11 rfl) (by decide) (fun Hc249 => ?_) (fun Hc249 => ?_)
    · have hz : B a = 62 := nIe (b := 62) (by omega) (by omega) Hc249
      exact lX14_next_300 l h0 hWM0 n B hX0 hn0 a ha hns hlet hdig 12 (by omega) (by omega) (by rw [hz]; decide) (by rw [hz]; rfl) h hF hat h23 _
    · have e62 : ¬ B a = 62 := fun z => Hc249 (by rw [z]; rfl)
      refine w_iload_n (zat TX14_next_2 12 rfl) rfl ?_
      refine w_bipush (v := 61) (zat TX14_next_2 13 rfl) (by decide) ?_
      refine w_icmp_eq 300 (zat TX14_next_2 14 rfl) (by decide) (fun Hc255 => ?_) (fun Hc255 => ?_)
      · have hz : B a = 61 := nIe (b := 61) (by omega) (by omega) Hc255
        exact lX14_next_300 l h0 hWM0 n B hX0 hn0 a ha hns hlet hdig 13 (by omega) (by omega) (by rw [hz]; decide) (by rw [hz]; rfl) h hF hat h23 _
      · have e61 : ¬ B a = 61 := fun z => Hc255 (by rw [z]; rfl)
        refine w_iload_n (zat TX14_next_2 15 rfl) rfl ?_
        refine w_bipush (v := 43) (zat TX14_next_2 16 rfl) (by decide) ?_
        refine w_icmp_eq 300 (zat TX14_next_2 17 rfl) (by decide) (fun Hc261 => ?_) (fun Hc261 => ?_)
        · have hz : B a = 43 := nIe (b := 43) (by omega) (by omega) Hc261
          exact lX14_next_300 l h0 hWM0 n B hX0 hn0 a ha hns hlet hdig 14 (by omega) (by omega) (by rw [hz]; decide) (by rw [hz]; rfl) h hF hat h23 _
        · have e43 : ¬ B a = 43 := fun z => Hc261 (by rw [z]; rfl)
          refine w_iload_n (zat TX14_next_2 18 rfl) rfl ?_
          refine w_bipush (v := 45) (zat TX14_next_2 19 rfl) (by decide) ?_
          refine w_icmp_eq 300 (zat TX14_next_2 20 rfl) (by decide) (fun Hc267 => ?_) (fun Hc267 => ?_)
          · have hz : B a = 45 := nIe (b := 45) (by omega) (by omega) Hc267
            exact lX14_next_300 l h0 hWM0 n B hX0 hn0 a ha hns hlet hdig 15 (by omega) (by omega) (by rw [hz]; decide) (by rw [hz]; rfl) h hF hat h23 _
          · have e45 : ¬ B a = 45 := fun z => Hc267 (by rw [z]; rfl)
            refine w_iload_n (zat TX14_next_2 21 rfl) rfl ?_
            refine w_bipush (v := 42) (zat TX14_next_2 22 rfl) (by decide) ?_
            refine w_icmp_eq 300 (zat TX14_next_2 23 rfl) (by decide) (fun Hc273 => ?_) (fun Hc273 => ?_)
            · have hz : B a = 42 := nIe (b := 42) (by omega) (by omega) Hc273
              exact lX14_next_300 l h0 hWM0 n B hX0 hn0 a ha hns hlet hdig 16 (by omega) (by omega) (by rw [hz]; decide) (by rw [hz]; rfl) h hF hat h23 _
            · have e42 : ¬ B a = 42 := fun z => Hc273 (by rw [z]; rfl)
              refine w_iload_n (zat TX14_next_2 24 rfl) rfl ?_
              refine w_bipush (v := 47) (zat TX14_next_2 25 rfl) (by decide) ?_
              refine w_icmp_eq 300 (zat TX14_next_2 26 rfl) (by decide) (fun Hc279 => ?_) (fun Hc279 => ?_)
              · have hz : B a = 47 := nIe (b := 47) (by omega) (by omega) Hc279
                exact lX14_next_300 l h0 hWM0 n B hX0 hn0 a ha hns hlet hdig 17 (by omega) (by omega) (by rw [hz]; decide) (by rw [hz]; rfl) h hF hat h23 _
              · have e47 : ¬ B a = 47 := fun z => Hc279 (by rw [z]; rfl)
                refine w_iload_n (zat TX14_next_2 27 rfl) rfl ?_
                refine w_bipush (v := 40) (zat TX14_next_2 28 rfl) (by decide) ?_
                refine w_icmp_eq 300 (zat TX14_next_2 29 rfl) (by decide) (fun Hc285 => ?_) (fun Hc285 => ?_)
                · have hz : B a = 40 := nIe (b := 40) (by omega) (by omega) Hc285
                  exact lX14_next_300 l h0 hWM0 n B hX0 hn0 a ha hns hlet hdig 18 (by omega) (by omega) (by rw [hz]; decide) (by rw [hz]; rfl) h hF hat h23 _
                · have e40 : ¬ B a = 40 := fun z => Hc285 (by rw [z]; rfl)
                  refine w_iload_n (zat TX14_next_2 30 rfl) rfl ?_
                  refine w_bipush (v := 41) (zat TX14_next_2 31 rfl) (by decide) ?_
                  refine w_icmp_eq 300 (zat TX14_next_2 32 rfl) (by decide) (fun Hc291 => ?_) (fun Hc291 => ?_)
                  · have hz : B a = 41 := nIe (b := 41) (by omega) (by omega) Hc291
                    exact lX14_next_300 l h0 hWM0 n B hX0 hn0 a ha hns hlet hdig 19 (by omega) (by omega) (by rw [hz]; decide) (by rw [hz]; rfl) h hF hat h23 _
                  · have e41 : ¬ B a = 41 := fun z => Hc291 (by rw [z]; rfl)
                    refine w_iload_n (zat TX14_next_2 33 rfl) rfl ?_
                    refine w_bipush (v := 59) (zat TX14_next_2 34 rfl) (by decide) ?_
                    refine w_icmp_ne 320 (zat TX14_next_2 35 rfl) (by decide) (fun Hc297 => ?_) (fun Hc297 => ?_)
                    · have e59 : ¬ B a = 59 := fun z => Hc297 (by rw [z]; rfl)
                      refine w_return (zat TX14_next_2 48 rfl) rfl ?_
                      have hs : sgT (B a) = -22 := by unfold sgT; simp only [if_neg e60, if_neg e62, if_neg e61, if_neg e43, if_neg e45, if_neg e42, if_neg e47, if_neg e40, if_neg e41, if_neg e59]
                      refine ⟨rfl, hF, ⟨22, Or.inl (by omega), ?_, Or.inr (Or.inl ⟨rfl, h22⟩), fun z => absurd rfl z⟩, ?_⟩
                      · rw [lx_no ha hns]
                        show tkT B a (lxE B n a) = _
                        unfold tkT
                        rw [if_neg hlet, if_neg hdig, hs]
                        decide
                      · rw [lx_no ha hns]
                        exact h23
                    · have hz : B a = 59 := nIe (b := 59) (by omega) (by omega) Hc297
                      exact lX14_next_300 l h0 hWM0 n B hX0 hn0 a ha hns hlet hdig 20 (by omega) (by omega) (by rw [hz]; decide) (by rw [hz]; rfl) h hF hat h23 _
theorem lX14_next_26 (l : Launch) (h0 : zH) (hWM0 : Wm h0) (n : Nat) (B : Nat → Nat) (hX0 : Tx h0 19 n B) (hn0 : zI h0 1 0 20 = nI n) (a : Nat) (ha : a < n) (hns : ¬ B a = 32) (h : zH) (hF : FrD h0 h) (hat : zI h 1 0 21 = nI a) : Wp l mX14_next 2 26 [some (Vq (some (1, 0))), none, none] [] h (fun o h' => o = R0 ∧ FrD h0 h' ∧ Nx h' B n (lx B n a)) := by
  have hWM := Wm.same hF.1 hWM0
  have hX := hF.tx hX0
  have hn : zI h 1 0 20 = nI n := by rw [hF.2.2.1 0 20 (by omega)]; exact hn0
  have hn3 := hX0.1
  have hb := fun k (hk : k < n) => (hX0.2 k hk).2
  have hba := hb a ha
  have hF3 : FrD h0 (zsI (zsI (zsI h 1 0 23 (nI a)) 1 0 22 0) 1 0 24 0) := ((hF.w 23 (by omega) _).w 22 (by omega) _).w 24 (by omega) _
  have hat3 : zI (zsI (zsI (zsI h 1 0 23 (nI a)) 1 0 22 0) 1 0 24 0) 1 0 21 = nI a := (zI_oth _ _ _ _ _ (by decide)).trans ((zI_oth _ _ _ _ _ (by decide)).trans ((zI_oth _ _ _ _ _ (by decide)).trans hat))
  have h223 : zI (zsI (zsI (zsI h 1 0 23 (nI a)) 1 0 22 0) 1 0 24 0) 1 0 22 = 0 := (zI_oth _ _ _ _ _ (by decide)).trans (zI_same _ _ _ _ _)
  have h233 : zI (zsI (zsI (zsI h 1 0 23 (nI a)) 1 0 22 0) 1 0 24 0) 1 0 23 = nI a := (zI_oth _ _ _ _ _ (by decide)).trans ((zI_oth _ _ _ _ _ (by decide)).trans (zI_same _ _ _ _ _))
  have hX3 : Tx (zsI (zsI (zsI h 1 0 23 (nI a)) 1 0 22 0) 1 0 24 0) 19 n B := hF3.tx hX0
  have hn3b : zI (zsI (zsI (zsI h 1 0 23 (nI a)) 1 0 22 0) 1 0 24 0) 1 0 20 = nI n := by rw [hF3.2.2.1 0 20 (by omega)]; exact hn0
  refine w_aload_n (zat TX14_next_0 13 rfl) rfl ?_
  refine w_aload_n (zat TX14_next_0 14 rfl) rfl ?_
  refine y_getI (v := nI a) (zat TX14_next_0 15 rfl) fX14_160 s1 (by decide) (by decide) rfl hat ?_
  refine w_putI (zat TX14_next_0 16 rfl) gX14_next_141 s1 (by decide) (by decide) rfl ⟨rfl, rfl⟩ ?_
  refine w_aload_n (zat TX14_next_0 17 rfl) rfl ?_
  refine w_iconst (v := 0) (zat TX14_next_0 18 rfl) (by decide) ?_
  refine w_putI (zat TX14_next_0 19 rfl) gX14_next_166 s1 (by decide) (by decide) rfl ⟨rfl, rfl⟩ ?_
  refine w_aload_n (zat TX14_next_0 20 rfl) rfl ?_
  refine w_iconst (v := 0) (zat TX14_next_0 21 rfl) (by decide) ?_
  refine w_putI (zat TX14_next_0 22 rfl) gX14_next_169 s1 (by decide) (by decide) rfl ⟨rfl, rfl⟩ ?_
  refine w_aload_n (zat TX14_next_0 23 rfl) rfl ?_
  refine w_aload_n (zat TX14_next_0 24 rfl) rfl ?_
  refine y_getI (v := nI a) (zat TX14_next_0 25 rfl) fX14_160 s1 (by decide) (by decide) rfl hat3 ?_
  refine x_callv2 (qX14_byteAt l (zsI (zsI (zsI h 1 0 23 (nI a)) 1 0 22 0) 1 0 24 0) hWM n B hX3 hn3b a (by omega)) (by decide) kX14_byteAt (rdy_V (zat TX14_next_0 26 rfl) kX14_byteAt pX14_byteAt zw1244 zw1246 zw39 (zrc (by decide) (by decide) rfl)) (Nat.le_of_ble_eq_true rfl) rfl rfl ?_
  rw [bA_in ha]
  refine x_istore_n (ls2 := [_, _, _]) (zat TX14_next_0 27 rfl) (by decide) rfl ?_
  refine w_iconst (v := 0) (zat TX14_next_0 28 rfl) (by decide) ?_
  refine x_istore_n (ls2 := [_, _, _]) (zat TX14_next_0 29 rfl) (by decide) rfl ?_
  refine w_iload_n (zat TX14_next_0 30 rfl) rfl ?_
  refine w_iconst (v := -1) (zat TX14_next_0 31 rfl) (by decide) ?_
  refine w_icmp_ne 68 (zat TX14_next_0 32 rfl) (by decide) (fun Hc57 => ?_) (fun Hc57 => ?_)
  · refine w_iload_n (zat TX14_next_0 37 rfl) rfl ?_
    refine x_callv1 (qX14_isLetter l _ _) (by decide) kX14_isLetter (rdy_S (zat TX14_next_0 38 rfl) kX14_isLetter pX14_isLetter zw1248 zw1249) (Nat.le_of_ble_eq_true rfl) rfl rfl ?_
    refine w_if_eq 157 (zat TX14_next_0 39 rfl) (by decide) (fun Hc72 => ?_) (fun Hc72 => ?_)
    · rw [zb_0, ← bA_in (B := B) ha, bA_L hb] at Hc72
      have hlet : ¬ isL (B a) := fun z => Hc72 ⟨ha, z⟩
      refine w_iload_n (zat TX14_next_1 23 rfl) rfl ?_
      refine x_callv1 (qX14_isDigit l _ _) (by decide) kX14_isDigit (rdy_S (zat TX14_next_1 24 rfl) kX14_isDigit pX14_isDigit zw1252 zw1253) (Nat.le_of_ble_eq_true rfl) rfl rfl ?_
      refine w_if_eq 240 (zat TX14_next_1 25 rfl) (by decide) (fun Hc161 => ?_) (fun Hc161 => ?_)
      · rw [zb_0, ← bA_in (B := B) ha, bA_D hb] at Hc161
        have hdig : ¬ isD (B a) := fun z => Hc161 ⟨ha, z⟩
        exact lX14_next_240 l h0 hWM0 n B hX0 hn0 a ha hns hlet hdig (zsI (zsI (zsI h 1 0 23 (nI a)) 1 0 22 0) 1 0 24 0) hF3 hat3 h223 h233 _
      · rw [zb_0, ← bA_in (B := B) ha, bA_D hb, Decidable.not_not] at Hc161
        have hdig := Hc161.2
        refine w_aload_n (zat TX14_next_1 26 rfl) rfl ?_
        refine w_iconst (v := 0) (zat TX14_next_1 27 rfl) (by decide) ?_
        refine w_putI (zat TX14_next_1 28 rfl) gX14_next_182 s1 (by decide) (by decide) rfl ⟨rfl, rfl⟩ ?_
        exact lX14_next_169 l h0 hWM0 n B hX0 hn0 (nI (B a)) a ha hdig _ (fun h2 hF2 e he e1 e2 k21 k22 k23 kv => by
            refine w_iload_n (zat TX14_next_1 59 rfl) rfl ?_
            refine w_iconst (v := 5) (zat TX14_next_2 0 rfl) (by decide) ?_
            refine w_icmp_ge 320 (zat TX14_next_2 1 rfl) (by decide) (fun Hc229 => ?_) (fun Hc229 => ?_)
            · have Hk : 4 < e - a := by have := (nI_leI (a := 5) (by omega) (by omega)).mp Hc229; omega
              refine w_return (zat TX14_next_2 48 rfl) rfl ?_
              have hE : lxE B n a = e := by unfold lxE; rw [if_neg hlet, if_pos hdig]; exact he.symm
              have htk : (lx B n a).1 = -22 := by rw [lx_no ha hns]; show tkT B a (lxE B n a) = -22; unfold tkT; rw [if_neg hlet, if_pos hdig, hE, if_pos Hk]
              refine ⟨rfl, hF2, ⟨22, Or.inl (by omega), htk.trans (by decide), Or.inr (Or.inl ⟨rfl, k22⟩), fun z => absurd rfl z⟩, ?_⟩
              rw [lx_no ha hns]
              exact k23
            · have Hk : ¬ 4 < e - a := fun z => Hc229 ((nI_leI (a := 5) (by omega) (by omega)).mpr (by omega))
              refine w_aload_n (zat TX14_next_2 2 rfl) rfl ?_
              refine w_iconst (v := 3) (zat TX14_next_2 3 rfl) (by decide) ?_
              refine w_putI (zat TX14_next_2 4 rfl) gX14_next_166 s1 (by decide) (by decide) rfl ⟨rfl, rfl⟩ ?_
              refine w_goto 320 (zat TX14_next_2 5 rfl) (by decide) ?_
              refine w_return (zat TX14_next_2 48 rfl) rfl ?_
              have hE : lxE B n a = e := by unfold lxE; rw [if_neg hlet, if_pos hdig]; exact he.symm
              have htk : (lx B n a).1 = nI (dg B a (e - a)) := by rw [lx_no ha hns]; show tkT B a (lxE B n a) = _; unfold tkT; rw [if_neg hlet, if_pos hdig, hE, if_neg Hk]
              have hdl : dg B a (e - a) < 10000 := by have := dg_le (n := n) hlet hdig (by rw [hE]; exact Hk); rw [hE] at this; exact this
              have hu : t32 (100 + dg B a (e - a)) = nI (dg B a (e - a)) := by unfold t32; rw [if_neg (by omega), Nat.add_sub_cancel_left]
              refine ⟨rfl, hF2.w 22 (by omega) _, ⟨100 + dg B a (e - a), Or.inr (by omega), htk.trans hu.symm, Or.inr (Or.inr (Or.inr (Or.inr ⟨by omega, by omega, zI_same _ _ _ _ _, ?_⟩))), fun _ => ?_⟩, ?_⟩
              · rw [zI_oth _ _ _ _ _ (by decide), kv, Nat.min_eq_left (by omega), Nat.add_sub_cancel_left]
              · rw [lx_no ha hns]
                show zI (zsI h2 1 0 22 3) 1 0 21 = nI (lxE B n a)
                rw [hE, zI_oth _ _ _ _ _ (by decide)]
                exact k21
              · rw [lx_no ha hns, zI_oth _ _ _ _ _ (by decide)]
                exact k23) (n - a) 0 (by omega) (zsI (zsI (zsI (zsI h 1 0 23 (nI a)) 1 0 22 0) 1 0 24 0) 1 0 25 0) (hF3.w 25 (by omega) 0) ((zI_oth _ _ _ _ _ (by decide)).trans hat3) ((zI_oth _ _ _ _ _ (by decide)).trans h223) ((zI_oth _ _ _ _ _ (by decide)).trans h233) (zI_same _ _ _ _ _) (fun i hi => by omega)
    · rw [zb_0, ← bA_in (B := B) ha, bA_L hb, Decidable.not_not] at Hc72
      have hlet := Hc72.2
      refine w_aload_n (zat TX14_next_0 40 rfl) rfl ?_
      refine w_lconst (v := 0) (zat TX14_next_0 41 rfl) (by decide) ?_
      refine w_putL (zat TX14_next_0 42 rfl) gX14_next_175 s1 (by decide) (by decide) rfl ⟨rfl, rfl⟩ ?_
      exact lX14_next_80 l h0 hWM0 n B hX0 hn0 (nI (B a)) a ha hlet _ (fun h2 hF2 e he e1 e2 k21 k22 k23 kv => by
          refine w_iload_n (zat TX14_next_1 16 rfl) rfl ?_
          refine w_bipush (v := 9) (zat TX14_next_1 17 rfl) (by decide) ?_
          refine w_icmp_ge 320 (zat TX14_next_1 18 rfl) (by decide) (fun Hc146 => ?_) (fun Hc146 => ?_)
          · have Hk : 8 < e - a := by have := (nI_leI (a := 9) (by omega) (by omega)).mp Hc146; omega
            refine w_return (zat TX14_next_2 48 rfl) rfl ?_
            have hE : lxE B n a = e := by unfold lxE; rw [if_pos hlet]; exact he.symm
            have htk : (lx B n a).1 = -22 := by rw [lx_no ha hns]; show tkT B a (lxE B n a) = -22; unfold tkT; rw [if_pos hlet, hE, if_pos Hk]
            refine ⟨rfl, hF2, ⟨22, Or.inl (by omega), htk.trans (by decide), Or.inr (Or.inl ⟨rfl, k22⟩), fun z => absurd rfl z⟩, ?_⟩
            rw [lx_no ha hns]
            exact k23
          · have Hk : ¬ 8 < e - a := fun z => Hc146 ((nI_leI (a := 9) (by omega) (by omega)).mpr (by omega))
            refine w_aload_n (zat TX14_next_1 19 rfl) rfl ?_
            refine w_iconst (v := 2) (zat TX14_next_1 20 rfl) (by decide) ?_
            refine w_putI (zat TX14_next_1 21 rfl) gX14_next_166 s1 (by decide) (by decide) rfl ⟨rfl, rfl⟩ ?_
            refine w_goto 320 (zat TX14_next_1 22 rfl) (by decide) ?_
            refine w_return (zat TX14_next_2 48 rfl) rfl ?_
            have hE : lxE B n a = e := by unfold lxE; rw [if_pos hlet]; exact he.symm
            have htk : (lx B n a).1 = wTk B a e := by rw [lx_no ha hns]; show tkT B a (lxE B n a) = _; unfold tkT; rw [if_pos hlet, hE, if_neg Hk]
            obtain ⟨k, k1, k2⟩ := wTk_is B a e
            have hlt : ∀ i, a ≤ i → i < e → isL (B i) := fun i h1 h2 => lxE_L (n := n) hlet i h1 (by rw [hE]; exact h2)
            refine ⟨rfl, hF2.w 22 (by omega) _, ⟨k + 1, Or.inl (by omega), htk.trans (k2.trans (un_c1 k k1)), Or.inr (Or.inr (Or.inl ⟨by omega, by omega, zI_same _ _ _ _ _, fun j hj => ?_⟩)), fun _ => ?_⟩, ?_⟩
            · show zL h2 1 0 28 = _ ↔ _
              rw [kv, Nat.min_eq_left (by omega), word_is hj (by omega) (by omega) hlt, wTk_j j hj, k2, un_c1 k k1, show (-1 - nI j : Int32) = t32 (j + 1) from un_c1 j (by omega)]
              exact ⟨fun z => t32_inj (Or.inl (by omega)) (Or.inl (by omega)) z, fun z => by rw [z]⟩
            · rw [lx_no ha hns]
              show zI (zsI h2 1 0 22 2) 1 0 21 = nI (lxE B n a)
              rw [hE, zI_oth _ _ _ _ _ (by decide)]
              exact k21
            · rw [lx_no ha hns, zI_oth _ _ _ _ _ (by decide)]
              exact k23) (n - a) 0 (by omega) (zsL (zsI (zsI (zsI h 1 0 23 (nI a)) 1 0 22 0) 1 0 24 0) 1 0 28 0) (hF3.wL 0) hat3 h223 h233 (zL_same _ _ _ _ _) (fun i hi => by omega)
  · exact absurd Hc57 (nI_ne1 _ (by omega))
theorem lX14_next_26e (l : Launch) (h0 : zH) (hWM0 : Wm h0) (n : Nat) (B : Nat → Nat) (hX0 : Tx h0 19 n B) (hn0 : zI h0 1 0 20 = nI n) (a : Nat) (ha : a = n) (h : zH) (hF : FrD h0 h) (hat : zI h 1 0 21 = nI a) : Wp l mX14_next 2 26 [some (Vq (some (1, 0))), none, none] [] h (fun o h' => o = R0 ∧ FrD h0 h' ∧ Nx h' B n (lx B n a)) := by
  have hWM := Wm.same hF.1 hWM0
  have hX := hF.tx hX0
  have hn : zI h 1 0 20 = nI n := by rw [hF.2.2.1 0 20 (by omega)]; exact hn0
  have hn3 := hX0.1
  have hb := fun k (hk : k < n) => (hX0.2 k hk).2
  have hF3 : FrD h0 (zsI (zsI (zsI h 1 0 23 (nI a)) 1 0 22 0) 1 0 24 0) := ((hF.w 23 (by omega) _).w 22 (by omega) _).w 24 (by omega) _
  have hat3 : zI (zsI (zsI (zsI h 1 0 23 (nI a)) 1 0 22 0) 1 0 24 0) 1 0 21 = nI a := (zI_oth _ _ _ _ _ (by decide)).trans ((zI_oth _ _ _ _ _ (by decide)).trans ((zI_oth _ _ _ _ _ (by decide)).trans hat))
  have h223 : zI (zsI (zsI (zsI h 1 0 23 (nI a)) 1 0 22 0) 1 0 24 0) 1 0 22 = 0 := (zI_oth _ _ _ _ _ (by decide)).trans (zI_same _ _ _ _ _)
  have h233 : zI (zsI (zsI (zsI h 1 0 23 (nI a)) 1 0 22 0) 1 0 24 0) 1 0 23 = nI a := (zI_oth _ _ _ _ _ (by decide)).trans ((zI_oth _ _ _ _ _ (by decide)).trans (zI_same _ _ _ _ _))
  have hX3 : Tx (zsI (zsI (zsI h 1 0 23 (nI a)) 1 0 22 0) 1 0 24 0) 19 n B := hF3.tx hX0
  have hn3b : zI (zsI (zsI (zsI h 1 0 23 (nI a)) 1 0 22 0) 1 0 24 0) 1 0 20 = nI n := by rw [hF3.2.2.1 0 20 (by omega)]; exact hn0
  refine w_aload_n (zat TX14_next_0 13 rfl) rfl ?_
  refine w_aload_n (zat TX14_next_0 14 rfl) rfl ?_
  refine y_getI (v := nI a) (zat TX14_next_0 15 rfl) fX14_160 s1 (by decide) (by decide) rfl hat ?_
  refine w_putI (zat TX14_next_0 16 rfl) gX14_next_141 s1 (by decide) (by decide) rfl ⟨rfl, rfl⟩ ?_
  refine w_aload_n (zat TX14_next_0 17 rfl) rfl ?_
  refine w_iconst (v := 0) (zat TX14_next_0 18 rfl) (by decide) ?_
  refine w_putI (zat TX14_next_0 19 rfl) gX14_next_166 s1 (by decide) (by decide) rfl ⟨rfl, rfl⟩ ?_
  refine w_aload_n (zat TX14_next_0 20 rfl) rfl ?_
  refine w_iconst (v := 0) (zat TX14_next_0 21 rfl) (by decide) ?_
  refine w_putI (zat TX14_next_0 22 rfl) gX14_next_169 s1 (by decide) (by decide) rfl ⟨rfl, rfl⟩ ?_
  refine w_aload_n (zat TX14_next_0 23 rfl) rfl ?_
  refine w_aload_n (zat TX14_next_0 24 rfl) rfl ?_
  refine y_getI (v := nI a) (zat TX14_next_0 25 rfl) fX14_160 s1 (by decide) (by decide) rfl hat3 ?_
  refine x_callv2 (qX14_byteAt l (zsI (zsI (zsI h 1 0 23 (nI a)) 1 0 22 0) 1 0 24 0) hWM n B hX3 hn3b a (by omega)) (by decide) kX14_byteAt (rdy_V (zat TX14_next_0 26 rfl) kX14_byteAt pX14_byteAt zw1244 zw1246 zw39 (zrc (by decide) (by decide) rfl)) (Nat.le_of_ble_eq_true rfl) rfl rfl ?_
  rw [bA_out (by omega)]
  refine x_istore_n (ls2 := [_, _, _]) (zat TX14_next_0 27 rfl) (by decide) rfl ?_
  refine w_iconst (v := 0) (zat TX14_next_0 28 rfl) (by decide) ?_
  refine x_istore_n (ls2 := [_, _, _]) (zat TX14_next_0 29 rfl) (by decide) rfl ?_
  refine w_iload_n (zat TX14_next_0 30 rfl) rfl ?_
  refine w_iconst (v := -1) (zat TX14_next_0 31 rfl) (by decide) ?_
  refine w_icmp_ne 68 (zat TX14_next_0 32 rfl) (by decide) (fun Hc57 => ?_) (fun Hc57 => ?_)
  · exact absurd rfl Hc57
  · refine w_aload_n (zat TX14_next_0 33 rfl) rfl ?_
    refine w_iconst (v := 1) (zat TX14_next_0 34 rfl) (by decide) ?_
    refine w_putI (zat TX14_next_0 35 rfl) gX14_next_166 s1 (by decide) (by decide) rfl ⟨rfl, rfl⟩ ?_
    refine w_goto 320 (zat TX14_next_0 36 rfl) (by decide) ?_
    refine w_return (zat TX14_next_2 48 rfl) rfl ?_
    subst ha
    rw [lx_end]
    refine ⟨rfl, hF3.w 22 (by omega) _, ⟨21, Or.inl (by omega), by show (-21 : Int32) = t32 21; decide, Or.inl ⟨rfl, zI_same _ _ _ _ _⟩, fun _ => ?_⟩, ?_⟩
    · exact (zI_oth _ _ _ _ _ (by decide)).trans hat3
    · exact (zI_oth _ _ _ _ _ (by decide)).trans h233
theorem lX14_next_0 (l : Launch) (h0 : zH) (hWM0 : Wm h0) (n : Nat) (B : Nat → Nat) (hX0 : Tx h0 19 n B) (hn0 : zI h0 1 0 20 = nI n) (t : Int32 × Nat × Nat) : ∀ kk a : Nat, a + kk = n → lx B n a = t → ∀ h, FrD h0 h → zI h 1 0 21 = nI a → Wp l mX14_next 2 0 [some (Vq (some (1, 0))), none, none] [] h (fun o h' => o = R0 ∧ FrD h0 h' ∧ Nx h' B n t) := by
  intro kk
  induction kk with
  | zero =>
    intro a hz ht h hF hat
    have hWM := Wm.same hF.1 hWM0
    have hX := hF.tx hX0
    have hn : zI h 1 0 20 = nI n := by rw [hF.2.2.1 0 20 (by omega)]; exact hn0
    have hn3 := hX0.1
    have hb := fun k (hk : k < n) => (hX0.2 k hk).2
    refine w_aload_n (zat TX14_next_0 0 rfl) rfl ?_
    refine w_aload_n (zat TX14_next_0 1 rfl) rfl ?_
    refine y_getI (v := nI a) (zat TX14_next_0 2 rfl) fX14_160 s1 (by decide) (by decide) rfl hat ?_
    refine x_callv2 (qX14_byteAt l _ hWM n B hX hn (a) (by omega)) (by decide) kX14_byteAt (rdy_V (zat TX14_next_0 3 rfl) kX14_byteAt pX14_byteAt zw1244 zw1246 zw39 (zrc (by decide) (by decide) rfl)) (Nat.le_of_ble_eq_true rfl) rfl rfl ?_
    refine w_bipush (v := 32) (zat TX14_next_0 4 rfl) (by decide) ?_
    refine w_icmp_ne 26 (zat TX14_next_0 5 rfl) (by decide) (fun Hc10 => ?_) (fun Hc10 => ?_)
    · rw [← ht]
      exact lX14_next_26e l h0 hWM0 n B hX0 hn0 a (by omega) h hF hat
    · exact absurd ((bA_32 hb).mp Hc10).1 (by omega)
  | succ kk ih =>
    intro a hz ht h hF hat
    have hWM := Wm.same hF.1 hWM0
    have hX := hF.tx hX0
    have hn : zI h 1 0 20 = nI n := by rw [hF.2.2.1 0 20 (by omega)]; exact hn0
    have hn3 := hX0.1
    have hb := fun k (hk : k < n) => (hX0.2 k hk).2
    refine w_aload_n (zat TX14_next_0 0 rfl) rfl ?_
    refine w_aload_n (zat TX14_next_0 1 rfl) rfl ?_
    refine y_getI (v := nI a) (zat TX14_next_0 2 rfl) fX14_160 s1 (by decide) (by decide) rfl hat ?_
    refine x_callv2 (qX14_byteAt l _ hWM n B hX hn (a) (by omega)) (by decide) kX14_byteAt (rdy_V (zat TX14_next_0 3 rfl) kX14_byteAt pX14_byteAt zw1244 zw1246 zw39 (zrc (by decide) (by decide) rfl)) (Nat.le_of_ble_eq_true rfl) rfl rfl ?_
    refine w_bipush (v := 32) (zat TX14_next_0 4 rfl) (by decide) ?_
    refine w_icmp_ne 26 (zat TX14_next_0 5 rfl) (by decide) (fun Hc10 => ?_) (fun Hc10 => ?_)
    · rw [bA_32 hb] at Hc10
      rw [← ht]
      exact lX14_next_26 l h0 hWM0 n B hX0 hn0 a (by omega) (fun z => Hc10 ⟨by omega, z⟩) h hF hat
    · rw [bA_32 hb] at Hc10
      refine w_aload_n (zat TX14_next_0 6 rfl) rfl ?_
      refine w_dup (zat TX14_next_0 7 rfl) rfl ?_
      refine y_getI (v := nI a) (zat TX14_next_0 8 rfl) fX14_160 s1 (by decide) (by decide) rfl hat ?_
      refine w_iconst (v := 1) (zat TX14_next_0 9 rfl) (by decide) ?_
      refine w_iadd (zat TX14_next_0 10 rfl) ?_
      rw [nI_1]
      refine w_putI (zat TX14_next_0 11 rfl) gX14_next_160 s1 (by decide) (by decide) rfl ⟨rfl, rfl⟩ ?_
      refine w_goto 0 (zat TX14_next_0 12 rfl) (by decide) ?_
      exact ih (a + 1) (by omega) ((lx_sp (by omega) Hc10.2).trans ht) _ (hF.w 21 (by omega) _) (zI_same _ _ _ _ _)
theorem qX14_next (l : Launch) (h0 : zH) (hWM0 : Wm h0) (n : Nat) (B : Nat → Nat) (hX0 : Tx h0 19 n B) (hn0 : zI h0 1 0 20 = nI n) (a : Nat) (ha : a ≤ n) (hat : zI h0 1 0 21 = nI a) : Ct l 2 mX14_next [Vq (some (1, 0))] h0 (fun o h' => o = R0 ∧ FrD h0 h' ∧ Nx h' B n (lx B n a)) := by
  refine Ct.in 2 kX14_next (plainFor_of_name rfl) (Nat.le_of_ble_eq_true rfl) ?_
  exact lX14_next_0 l h0 hWM0 n B hX0 hn0 (lx B n a) (n - a) a (by omega) rfl h0 (FrD.rf h0) hat
