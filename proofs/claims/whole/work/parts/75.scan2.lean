-- scan of the class, by program (wip/gen/p75.py)
theorem sgT_is (b : Nat) : (∃ k, k < 10 ∧ sgT b = -11 - nI k) ∨ sgT b = -22 := by
  unfold sgT
  by_cases e0 : b = 60
  · rw [if_pos e0]; exact Or.inl ⟨0, by omega, rfl⟩
  rw [if_neg e0]
  by_cases e1 : b = 62
  · rw [if_pos e1]; exact Or.inl ⟨1, by omega, rfl⟩
  rw [if_neg e1]
  by_cases e2 : b = 61
  · rw [if_pos e2]; exact Or.inl ⟨2, by omega, rfl⟩
  rw [if_neg e2]
  by_cases e3 : b = 43
  · rw [if_pos e3]; exact Or.inl ⟨3, by omega, rfl⟩
  rw [if_neg e3]
  by_cases e4 : b = 45
  · rw [if_pos e4]; exact Or.inl ⟨4, by omega, rfl⟩
  rw [if_neg e4]
  by_cases e5 : b = 42
  · rw [if_pos e5]; exact Or.inl ⟨5, by omega, rfl⟩
  rw [if_neg e5]
  by_cases e6 : b = 47
  · rw [if_pos e6]; exact Or.inl ⟨6, by omega, rfl⟩
  rw [if_neg e6]
  by_cases e7 : b = 40
  · rw [if_pos e7]; exact Or.inl ⟨7, by omega, rfl⟩
  rw [if_neg e7]
  by_cases e8 : b = 41
  · rw [if_pos e8]; exact Or.inl ⟨8, by omega, rfl⟩
  rw [if_neg e8]
  by_cases e9 : b = 59
  · rw [if_pos e9]; exact Or.inl ⟨9, by omega, rfl⟩
  rw [if_neg e9]
  exact Or.inr rfl
theorem wTk_is (B : Nat → Nat) (s e : Nat) : ∃ k, k < 10 ∧ wTk B s e = -1 - nI k := by
  unfold wTk
  by_cases e0 : spl B s e 0
  · rw [if_pos e0]; exact ⟨0, by omega, rfl⟩
  rw [if_neg e0]
  by_cases e1 : spl B s e 1
  · rw [if_pos e1]; exact ⟨1, by omega, rfl⟩
  rw [if_neg e1]
  by_cases e2 : spl B s e 2
  · rw [if_pos e2]; exact ⟨2, by omega, rfl⟩
  rw [if_neg e2]
  by_cases e3 : spl B s e 3
  · rw [if_pos e3]; exact ⟨3, by omega, rfl⟩
  rw [if_neg e3]
  by_cases e4 : spl B s e 4
  · rw [if_pos e4]; exact ⟨4, by omega, rfl⟩
  rw [if_neg e4]
  rcases nTk_is B s e with q | q | q | q | q <;> rw [q]
  · exact ⟨5, by omega, rfl⟩
  · exact ⟨6, by omega, rfl⟩
  · exact ⟨7, by omega, rfl⟩
  · exact ⟨8, by omega, rfl⟩
  · exact ⟨9, by omega, rfl⟩
theorem tk_c1 : ∀ k, k < 10 → ¬ (-1 - nI k = -21) ∧ ¬ (-1 - nI k = -22) := by decide
theorem tk_c2 : ∀ k, k < 10 → ¬ (-11 - nI k = -21) ∧ ¬ (-11 - nI k = -22) := by decide
theorem nI_ne21 (j : Nat) (h : j < 2 ^ 31) : ¬ nI j = -21 := by
  intro q
  have h1 := congrArg Int32.toInt q
  rw [nI_toInt h] at h1
  have h2 : (-21 : Int32).toInt = -21 := by decide
  rw [h2] at h1
  omega
theorem dg_le {B : Nat → Nat} {n a : Nat} (hL : ¬ isL (B a)) (hD : isD (B a)) (h4 : ¬ 4 < lxE B n a - a) : dg B a (lxE B n a - a) < 10000 := by
  have h1 := dg_lt (B := B) (s := a) (lxE B n a - a) (fun i hi => lxE_D (n := n) hL hD (a + i) (by omega) (by omega))
  have h2 : 10 ^ (lxE B n a - a) ≤ 10 ^ 4 := Nat.pow_le_pow_right (by omega) (by omega)
  omega
theorem tkT_21 {B : Nat → Nat} {n a : Nat} : ¬ tkT B a (lxE B n a) = -21 := by
  unfold tkT
  by_cases h1 : isL (B a)
  · rw [if_pos h1]
    by_cases h2 : 8 < lxE B n a - a
    · rw [if_pos h2]; decide
    · rw [if_neg h2]
      obtain ⟨k, k1, k2⟩ := wTk_is B a (lxE B n a)
      rw [k2]
      exact (tk_c1 k k1).1
  · rw [if_neg h1]
    by_cases h2 : isD (B a)
    · rw [if_pos h2]
      by_cases h3 : 4 < lxE B n a - a
      · rw [if_pos h3]; decide
      · rw [if_neg h3]
        have := dg_le h1 h2 h3
        exact nI_ne21 _ (by omega)
    · rw [if_neg h2]
      rcases sgT_is (B a) with ⟨k, k1, k2⟩ | q
      · rw [k2]; exact (tk_c2 k k1).1
      · rw [q]; decide
def FrX (h h' : zH) : Prop := h'.2 = h.2 ∧ ∀ k, k ≠ 73 → k ≠ 80 → k ≠ 81 → zI h' k = zI h k
/-- the first i tokens lie there -/
def Tk0 (h : zH) (B : Nat → Nat) (n i : Nat) : Prop := zI h 73 0 2 = nI i ∧ ∀ k, k < i → zI h 80 0 k = (stT B n k).1 ∧ zI h 81 0 k = nI (stT B n k).2.1
/-- all tokens lie there: N of them, the last is END or none -/
def TkN (h : zH) (B : Nat → Nat) (n N : Nat) : Prop := Tk0 h B n N ∧ 1 ≤ N ∧ N ≤ n + 1 ∧ (∀ k, k + 1 < N → ¬ (stT B n k).1 = -21 ∧ ¬ (stT B n k).1 = -22) ∧ ((stT B n (N - 1)).1 = -21 ∨ (stT B n (N - 1)).1 = -22)
theorem Tk0.add {h : zH} {B : Nat → Nat} {n i : Nat} (x : Tk0 h B n i) : Tk0 (tAdd h i (stT B n i).1 (nI (stT B n i).2.1)) B n (i + 1) := by
  refine ⟨zI_same _ _ _ _ _, fun k hk => ?_⟩
  have e80 : zI (tAdd h i (stT B n i).1 (nI (stT B n i).2.1)) 80 0 k = zI (zsI h 80 0 i (stT B n i).1) 80 0 k := (zI_st _ 73 0 2 _ (by decide) 0 k).trans (zI_st _ 81 0 i _ (by decide) 0 k)
  have e81 : zI (tAdd h i (stT B n i).1 (nI (stT B n i).2.1)) 81 0 k = zI (zsI (zsI h 80 0 i (stT B n i).1) 81 0 i (nI (stT B n i).2.1)) 81 0 k := zI_st _ 73 0 2 _ (by decide) 0 k
  rw [e80, e81]
  by_cases e : k = i
  · subst e
    exact ⟨zI_same _ _ _ _ _, zI_same _ _ _ _ _⟩
  · rw [zI_oth _ _ _ _ _ e, zI_oth _ _ _ _ _ e]
    have := x.2 k (by omega)
    exact ⟨this.1, (zI_st _ 80 0 i _ (by decide) 0 k).trans this.2⟩
theorem FrX.add {h0 h : zH} (x : FrX h0 h) (i : Nat) (t p : Int32) : FrX h0 (tAdd h i t p) := ⟨x.1, fun k h1 h2 h3 => by
  rw [← x.2 k h1 h2 h3]
  unfold tAdd
  rw [zI_ss _ 73 0 2 _ h1, zI_ss _ 81 0 i _ h3, zI_ss _ 80 0 i _ h2]⟩
theorem lX9_scan_70 (l : Launch) (h0 : zH) (hW0 : Wc h0) (n : Nat) (B : Nat → Nat) (hT0 : Tx h0 79 n B) (h : zH) (hF : FrX h0 h) (i : Nat) (hi : i ≤ n) (hK : Tk0 h B n i) (hNL : (∀ k, k < i → ¬ (stT B n k).1 = -21 ∧ ¬ (stT B n k).1 = -22)) (hst : lx B n n = stT B n i) (x3 x4 x y : Option zV) : Wp l mX9_scan 9 70 [some (Vq (some (73, 0))), some (Vq (some (79, 0))), some (Vi (nI n)), x3, x4, x, y] [] h (fun o h' => o = R0 ∧ FrX h0 h' ∧ ∃ N, TkN h' B n N) := by
  have hn3 := hT0.1
  have hW := Wc.same (congrArg Prod.snd hF.1) hW0
  refine w_aload_n (zat TX9_scan 40 rfl) rfl ?_
  refine w_bipush (v := -21) (zat TX9_scan 41 rfl) (by decide) ?_
  refine w_iload_n (zat TX9_scan 42 rfl) rfl ?_
  refine x_callu3 (qX9_add l h hW i hK.1 (by omega) (-21) (nI n)) (by decide) kX9_add (rdy_V (zat TX9_scan 43 rfl) kX9_add pX9_add zw555 zw557 zw6 (zrc (by decide) (by decide) rfl)) (Nat.le_of_ble_eq_true rfl) rfl rfl ?_
  refine w_return (zat TX9_scan 44 rfl) rfl ?_
  have e := hst.symm.trans (lx_end B n)
  have ha := hK.add
  rw [e] at ha
  refine ⟨rfl, hF.add i _ _, i + 1, ha, by omega, by omega, fun k hk => hNL k (by omega), Or.inl ?_⟩
  rw [Nat.add_sub_cancel, e]
theorem lX9_scan_10 (l : Launch) (h0 : zH) (hW0 : Wc h0) (n : Nat) (B : Nat → Nat) (hT0 : Tx h0 79 n B) : ∀ kk r : Nat, r + kk = n → ∀ a i, r ≤ a → a ≤ n → i ≤ a → lx B n a = stT B n i → ∀ h, FrX h0 h → Tk0 h B n i → (∀ k, k < i → ¬ (stT B n k).1 = -21 ∧ ¬ (stT B n k).1 = -22) → ∀ x y, Wp l mX9_scan 9 10 [some (Vq (some (73, 0))), some (Vq (some (79, 0))), some (Vi (nI n)), some (Vi (nI a)), some (Vi (nI r)), x, y] [] h (fun o h' => o = R0 ∧ FrX h0 h' ∧ ∃ N, TkN h' B n N) := by
  have hn3 := hT0.1
  intro kk
  induction kk with
  | zero =>
    intro r hr a i hra han hia hst h hF hK hNL x y
    have hW := Wc.same (congrArg Prod.snd hF.1) hW0
    have hT : Tx h 79 n B := by
      unfold Tx
      rw [hF.2 79 (by decide) (by decide) (by decide)]
      exact hT0
    refine w_iload (zat TX9_scan 7 rfl) rfl ?_
    refine w_iload_n (zat TX9_scan 8 rfl) rfl ?_
    refine w_icmp_ge 70 (zat TX9_scan 9 rfl) (by decide) (fun Hc13 => ?_) (fun Hc13 => ?_)
    · have e : a = n := by omega
      subst e
      exact lX9_scan_70 l h0 hW0 a B hT0 h hF i (by omega) hK hNL hst _ _ _ _
    · exact absurd (nI_le (by omega) (by omega)) Hc13
  | succ kk ih =>
    intro r hr a i hra han hia hst h hF hK hNL x y
    have hW := Wc.same (congrArg Prod.snd hF.1) hW0
    have hT : Tx h 79 n B := by
      unfold Tx
      rw [hF.2 79 (by decide) (by decide) (by decide)]
      exact hT0
    refine w_iload (zat TX9_scan 7 rfl) rfl ?_
    refine w_iload_n (zat TX9_scan 8 rfl) rfl ?_
    refine w_icmp_ge 70 (zat TX9_scan 9 rfl) (by decide) (fun Hc13 => ?_) (fun Hc13 => ?_)
    · exact absurd Hc13 (nI_ge (by omega) (by omega))
    · refine w_iload_n (zat TX9_scan 10 rfl) rfl ?_
      refine w_iload_n (zat TX9_scan 11 rfl) rfl ?_
      refine w_icmp_ge 70 (zat TX9_scan 12 rfl) (by decide) (fun Hc18 => ?_) (fun Hc18 => ?_)
      · have e := (nI_leI (by omega) (by omega)).mp Hc18
        have e2 : a = n := by omega
        subst e2
        exact lX9_scan_70 l h0 hW0 a B hT0 h hF i (by omega) hK hNL hst _ _ _ _
      · have ha : a < n := Nat.lt_of_not_le (fun z => Hc18 ((nI_leI (by omega) (by omega)).mpr z))
        have hb := (hT.2 a ha).2
        have hbd := lxE_bd (B := B) ha
        refine w_aload_n (zat TX9_scan 13 rfl) rfl ?_
        refine w_iload_n (zat TX9_scan 14 rfl) rfl ?_
        refine w_iload_n (zat TX9_scan 15 rfl) rfl ?_
        refine x_callv3 (qX9_endOfRun l h hW n B hT a ha) (by decide) kX9_endOfRun (rdy_S (zat TX9_scan 16 rfl) kX9_endOfRun pX9_endOfRun zw471 zw472) (Nat.le_of_ble_eq_true rfl) rfl rfl ?_
        refine x_istore (ls2 := [_, _, _, _, _, _, _]) (zat TX9_scan 17 rfl) (by decide) rfl ?_
        refine w_aload_n (zat TX9_scan 18 rfl) rfl ?_
        refine w_iload_n (zat TX9_scan 19 rfl) rfl ?_
        refine y_baload _ _ (v := sg (B (a))) (zat TX9_scan 20 rfl) s79 (by decide) (wcn hW 15 rfl) (by decide) rfl (by have := hT.1; have := ha; omega) (hT.2 _ ha).1 ?_
        refine w_bipush (v := 32) (zat TX9_scan 21 rfl) (by decide) ?_
        refine w_icmp_eq 61 (zat TX9_scan 22 rfl) (by decide) (fun Hc34 => ?_) (fun Hc34 => ?_)
        · have hb32 := (sg_sp hb).mp Hc34
          have hE : lxE B n a = a + 1 := by
            unfold lxE
            rw [if_neg (by omega), if_neg (by omega)]
          rw [hE]
          refine w_iload (zat TX9_scan 36 rfl) rfl ?_
          refine x_istore_n (ls2 := [_, _, _, _, _, _, _]) (zat TX9_scan 37 rfl) (by decide) rfl ?_
          refine x_iinc (v := nI (r + 1)) (ls2 := [_, _, _, _, _, _, _]) (zat TX9_scan 38 rfl) rfl (nI_inc r) rfl ?_
          refine w_goto 10 (zat TX9_scan 39 rfl) (by decide) ?_
          exact ih (r + 1) (by omega) (a + 1) i (by omega) (by omega) (by omega) ((lx_sp ha hb32).trans hst) h hF hK hNL _ _
        · have hne : ¬ B a = 32 := fun z => Hc34 ((sg_sp hb).mpr z)
          have hs2 := hst.symm.trans (lx_no ha hne)
          refine w_aload_n (zat TX9_scan 23 rfl) rfl ?_
          refine w_iload_n (zat TX9_scan 24 rfl) rfl ?_
          refine w_iload (zat TX9_scan 25 rfl) rfl ?_
          refine x_callv3 (qX9_tokenOf l h hW n B hT a ha) (by decide) kX9_tokenOf (rdy_S (zat TX9_scan 26 rfl) kX9_tokenOf pX9_tokenOf zw480 zw481) (Nat.le_of_ble_eq_true rfl) rfl rfl ?_
          refine x_istore (ls2 := [_, _, _, _, _, _, _]) (zat TX9_scan 27 rfl) (by decide) rfl ?_
          refine w_aload_n (zat TX9_scan 28 rfl) rfl ?_
          refine w_iload (zat TX9_scan 29 rfl) rfl ?_
          refine w_iload_n (zat TX9_scan 30 rfl) rfl ?_
          refine x_callu3 (qX9_add l h hW i hK.1 (by omega) _ _) (by decide) kX9_add (rdy_V (zat TX9_scan 31 rfl) kX9_add pX9_add zw555 zw557 zw6 (zrc (by decide) (by decide) rfl)) (Nat.le_of_ble_eq_true rfl) rfl rfl ?_
          have hA := hK.add
          have hFA := hF.add i (tkT B a (lxE B n a)) (nI a)
          rw [hs2] at hA
          refine w_iload (zat TX9_scan 32 rfl) rfl ?_
          refine w_bipush (v := -22) (zat TX9_scan 33 rfl) (by decide) ?_
          refine w_icmp_ne 61 (zat TX9_scan 34 rfl) (by decide) (fun Hc57 => ?_) (fun Hc57 => ?_)
          · refine w_iload (zat TX9_scan 36 rfl) rfl ?_
            refine x_istore_n (ls2 := [_, _, _, _, _, _, _]) (zat TX9_scan 37 rfl) (by decide) rfl ?_
            refine x_iinc (v := nI (r + 1)) (ls2 := [_, _, _, _, _, _, _]) (zat TX9_scan 38 rfl) rfl (nI_inc r) rfl ?_
            refine w_goto 10 (zat TX9_scan 39 rfl) (by decide) ?_
            exact ih (r + 1) (by omega) (lxE B n a) (i + 1) (by omega) (by omega) (by omega) (by show _ = lx B n (stT B n i).2.2; rw [hs2]) _ hFA hA (fun k hk => by
              by_cases e : k = i
              · rw [e, hs2]
                exact ⟨tkT_21, Hc57⟩
              · exact hNL k (by omega)) _ _
          · refine w_return (zat TX9_scan 35 rfl) rfl ?_
            refine ⟨rfl, hFA, i + 1, hA, by omega, by omega, fun k hk => hNL k (by omega), Or.inr ?_⟩
            rw [Nat.add_sub_cancel, hs2]
            exact Hc57
theorem qX9_scan (l : Launch) (h0 : zH) (hW0 : Wc h0) (n : Nat) (B : Nat → Nat) (hT0 : Tx h0 79 n B) : Ct l 9 mX9_scan [Vq (some (73, 0)), Vq (some (79, 0)), Vi (nI n)] h0 (fun o h' => o = R0 ∧ FrX h0 h' ∧ ∃ N, TkN h' B n N) := by
  refine Ct.in 4 kX9_scan (plainFor_of_name rfl) (Nat.le_of_ble_eq_true rfl) ?_
  refine w_aload_n (zat TX9_scan 0 rfl) rfl ?_
  refine w_iconst (v := 0) (zat TX9_scan 1 rfl) (by decide) ?_
  refine w_putI (zat TX9_scan 2 rfl) gX9_scan_18 s73 (by decide) (by decide) rfl ⟨rfl, rfl⟩ ?_
  refine w_iconst (v := 0) (zat TX9_scan 3 rfl) (by decide) ?_
  refine x_istore_n (ls2 := [_, _, _, _, _, _, _]) (zat TX9_scan 4 rfl) (by decide) rfl ?_
  refine w_iconst (v := 0) (zat TX9_scan 5 rfl) (by decide) ?_
  refine x_istore (ls2 := [_, _, _, _, _, _, _]) (zat TX9_scan 6 rfl) (by decide) rfl ?_
  exact lX9_scan_10 l h0 hW0 n B hT0 n 0 (by omega) 0 0 (by omega) (by omega) (by omega) rfl (zsI h0 73 0 2 0) ⟨rfl, fun k h1 h2 h3 => zI_ss _ 73 0 2 _ h1⟩ ⟨zI_same _ _ _ _ _, fun k hk => by omega⟩ (fun k hk => by omega) _ _
