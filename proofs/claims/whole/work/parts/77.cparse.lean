-- the parser of the class: leaves, by program (wip/gen/p77.py)
def FrA (h h' : zH) : Prop := h'.2 = h.2 ∧ ∀ k, k ≠ 54 → k ≠ 74 → zI h' k = zI h k
/-- the parser at token i, s signs read, cs written -/
def Pc (h0 h : zH) (i s : Nat) (cs : List Int32) : Prop := FrA h0 h ∧ zI h 54 0 3 = nI i ∧ zI h 54 0 4 = nI s ∧ zI h 54 0 2 = nI cs.length ∧ (∀ (k : Nat) (w : Int32), cs[k]? = some w → zI h 74 0 k = w) ∧ zI h 54 0 5 = 0 ∧ zI h 54 0 6 = -1
/-- the parser has failed -/
def Pf (h0 h : zH) (pl : Nat → Nat) (k j : Nat) : Prop := FrA h0 h ∧ zI h 54 0 5 = nI k ∧ zI h 54 0 6 = nI (pl j)
/-- the tokens as they lie there -/
def TkH (h : zH) (tk pl : Nat → Nat) (N : Nat) : Prop := zI h 73 0 2 = nI N ∧ ∀ k, k < N → zI h 80 0 k = t32 (tk k) ∧ zI h 81 0 k = nI (pl k)
def CPo (h0 : zH) (pl : Nat → Nat) (cs : List Int32) (r : PR) (o : zO) (h' : zH) : Prop := match r with
  | .inl e => o = Rv (Vi 0) ∧ Pf h0 h' pl e.1 e.2
  | .inr r => o = Rv (Vi 1) ∧ Pc h0 h' r.2.1 r.2.2 (cs ++ r.1.map enI)
theorem CPo_nt {h0 : zH} {pl : Nat → Nat} {cs : List Int32} {r : PR} {q : zRf} {h' : zH} (x : CPo h0 pl cs r (Sum.inr q) h') : False := by
  cases r with
  | inl e => cases x.1
  | inr r => cases x.1
theorem FrA.w54 {a b : zH} (x : FrA a b) (j : Nat) (v : Int32) : FrA a (zsI b 54 0 j v) := ⟨x.1, fun k h1 h2 => by
  rw [← x.2 k h1 h2]
  exact zI_ss b 54 0 j v h1⟩
theorem FrA.w74 {a b : zH} (x : FrA a b) (j : Nat) (v : Int32) : FrA a (zsI b 74 0 j v) := ⟨x.1, fun k h1 h2 => by
  rw [← x.2 k h1 h2]
  exact zI_ss b 74 0 j v h2⟩
theorem Pc.at {h0 h : zH} {i s : Nat} {cs : List Int32} (x : Pc h0 h i s cs) (j : Nat) : Pc h0 (zsI h 54 0 3 (nI j)) j s cs := by
  obtain ⟨x1, x2, x3, x4, x5, x6, x7⟩ := x
  exact ⟨x1.w54 3 _, zI_same _ _ _ _ _, (zI_oth _ _ _ _ _ (by decide)).trans x3, (zI_oth _ _ _ _ _ (by decide)).trans x4, fun k w hk => (zI_st _ 54 0 3 _ (by decide) 0 k).trans (x5 k w hk), (zI_oth _ _ _ _ _ (by decide)).trans x6, (zI_oth _ _ _ _ _ (by decide)).trans x7⟩
theorem Pc.sg {h0 h : zH} {i s : Nat} {cs : List Int32} (x : Pc h0 h i s cs) (j : Nat) : Pc h0 (zsI h 54 0 4 (nI j)) i j cs := by
  obtain ⟨x1, x2, x3, x4, x5, x6, x7⟩ := x
  exact ⟨x1.w54 4 _, (zI_oth _ _ _ _ _ (by decide)).trans x2, zI_same _ _ _ _ _, (zI_oth _ _ _ _ _ (by decide)).trans x4, fun k w hk => (zI_st _ 54 0 4 _ (by decide) 0 k).trans (x5 k w hk), (zI_oth _ _ _ _ _ (by decide)).trans x6, (zI_oth _ _ _ _ _ (by decide)).trans x7⟩
def pWr (h : zH) (m : Nat) (w : Int32) : zH := zsI (zsI h 74 0 m w) 54 0 2 (nI (m + 1))
theorem Pc.wr {h0 h : zH} {i s : Nat} {cs : List Int32} (x : Pc h0 h i s cs) (w : Int32) : Pc h0 (pWr h cs.length w) i s (cs ++ [w]) := by
  obtain ⟨x1, x2, x3, x4, x5, x6, x7⟩ := x
  have e : ∀ j, j ≠ 2 → zI (pWr h cs.length w) 54 0 j = zI h 54 0 j := fun j hj => (zI_oth _ _ _ _ _ hj).trans (zI_st _ 74 0 _ _ (by decide) 0 j)
  refine ⟨(x1.w74 _ _).w54 2 _, (e 3 (by decide)).trans x2, (e 4 (by decide)).trans x3, ?_, fun k y hy => ?_, (e 5 (by decide)).trans x6, (e 6 (by decide)).trans x7⟩
  · rw [List.length_append]
    exact zI_same _ _ _ _ _
  · rw [show zI (pWr h cs.length w) 74 0 k = zI (zsI h 74 0 cs.length w) 74 0 k from zI_st _ 54 0 2 _ (by decide) 0 k]
    rcases Nat.lt_trichotomy k cs.length with q | q | q
    · rw [List.getElem?_append_left q] at hy
      rw [zI_oth _ _ _ _ _ (by omega)]
      exact x5 k y hy
    · subst q
      rw [List.getElem?_append_right (Nat.le_refl _), Nat.sub_self] at hy
      cases hy
      exact zI_same _ _ _ _ _
    · rw [List.getElem?_eq_none (by rw [List.length_append]; show cs.length + 1 ≤ k; omega)] at hy
      cases hy
def pFl (h : zH) (k p : Int32) : zH := zsI (zsI h 54 0 5 k) 54 0 6 p
theorem Pc.fl {h0 h : zH} {i s : Nat} {cs : List Int32} (x : Pc h0 h i s cs) (pl : Nat → Nat) (k : Nat) : Pf h0 (pFl h (nI k) (nI (pl i))) pl k i := ⟨(x.1.w54 5 _).w54 6 _, (zI_oth _ _ _ _ _ (by decide)).trans (zI_same _ _ _ _ _), zI_same _ _ _ _ _⟩
theorem qX4_token (l : Launch) (h : zH) (hW : Wc h) (N i : Nat) (hi : zI h 54 0 3 = nI i) (hN : zI h 73 0 2 = nI N) (hlt : i < N) (hN2 : N ≤ 301) (t : Int32) (ht : zI h 80 0 i = t) : Cx l 1 mX4_token [Vq (some (54, 0))] h (Rv (Vi t)) h := by
  refine Ct.in 0 kX4_token (plainFor_of_name rfl) (Nat.le_of_ble_eq_true rfl) ?_
  refine w_aload_n (zat TX4_token 0 rfl) rfl ?_
  refine y_getI (v := nI i) (zat TX4_token 1 rfl) fX4_26 s54 (by decide) (by decide) rfl hi ?_
  refine w_aload_n (zat TX4_token 2 rfl) rfl ?_
  refine w_getR (zat TX4_token 3 rfl) fX4_12 s54 (by decide) (by decide) rfl (wcr hW 9 rfl) ?_
  refine y_getI (v := nI N) (zat TX4_token 4 rfl) fX4_83 s73 (by decide) (by decide) rfl hN ?_
  refine w_icmp_ge 29 (zat TX4_token 5 rfl) (by decide) (fun Hc11 => ?_) (fun Hc11 => ?_)
  · exact absurd Hc11 (nI_ge (by omega) (by omega))
  · refine w_aload_n (zat TX4_token 6 rfl) rfl ?_
    refine w_getR (zat TX4_token 7 rfl) fX4_12 s54 (by decide) (by decide) rfl (wcr hW 9 rfl) ?_
    refine w_getR (zat TX4_token 8 rfl) fX4_84 s73 (by decide) (by decide) rfl (wcr hW 25 rfl) ?_
    refine w_aload_n (zat TX4_token 9 rfl) rfl ?_
    refine y_getI (v := nI i) (zat TX4_token 10 rfl) fX4_26 s54 (by decide) (by decide) rfl hi ?_
    refine y_iaload _ _ (v := t) (zat TX4_token 11 rfl) s80 (by decide) (wcn hW 16 rfl) (by decide) rfl (by omega) ht ?_
    refine w_goto 31 (zat TX4_token 12 rfl) (by decide) ?_
    refine w_ireturn (zat TX4_token 14 rfl) rfl rfl ?_
    exact ⟨rfl, rfl⟩
theorem qX4_fail (l : Launch) (h : zH) (hW : Wc h) (N i : Nat) (hi : zI h 54 0 3 = nI i) (hN : zI h 73 0 2 = nI N) (hlt : i < N) (hN2 : N ≤ 301) (k p : Int32) (hp : zI h 81 0 i = p) : Cx l 1 mX4_fail [Vq (some (54, 0)), Vi k] h (Rv (Vi 0)) (pFl h k p) := by
  refine Ct.in 0 kX4_fail (plainFor_of_name rfl) (Nat.le_of_ble_eq_true rfl) ?_
  refine w_aload_n (zat TX4_fail 0 rfl) rfl ?_
  refine w_iload_n (zat TX4_fail 1 rfl) rfl ?_
  refine w_putI (zat TX4_fail 2 rfl) gX4_fail_32 s54 (by decide) (by decide) rfl ⟨rfl, rfl⟩ ?_
  refine w_aload_n (zat TX4_fail 3 rfl) rfl ?_
  refine w_aload_n (zat TX4_fail 4 rfl) rfl ?_
  refine y_getI (v := nI i) (zat TX4_fail 5 rfl) fX4_26 s54 (by decide) (by decide) rfl ((zI_oth _ _ _ _ _ (by decide)).trans hi) ?_
  refine w_aload_n (zat TX4_fail 6 rfl) rfl ?_
  refine w_getR (zat TX4_fail 7 rfl) fX4_12 s54 (by decide) (by decide) rfl (wcr hW 9 rfl) ?_
  refine y_getI (v := nI N) (zat TX4_fail 8 rfl) fX4_83 s73 (by decide) (by decide) rfl ((zI_st _ 54 0 5 _ (by decide) 0 2).trans hN) ?_
  refine w_icmp_ge 35 (zat TX4_fail 9 rfl) (by decide) (fun Hc17 => ?_) (fun Hc17 => ?_)
  · exact absurd Hc17 (nI_ge (by omega) (by omega))
  · refine w_aload_n (zat TX4_fail 10 rfl) rfl ?_
    refine w_getR (zat TX4_fail 11 rfl) fX4_12 s54 (by decide) (by decide) rfl (wcr hW 9 rfl) ?_
    refine w_getR (zat TX4_fail 12 rfl) fX4_87 s73 (by decide) (by decide) rfl (wcr hW 26 rfl) ?_
    refine w_aload_n (zat TX4_fail 13 rfl) rfl ?_
    refine y_getI (v := nI i) (zat TX4_fail 14 rfl) fX4_26 s54 (by decide) (by decide) rfl ((zI_oth _ _ _ _ _ (by decide)).trans hi) ?_
    refine y_iaload _ _ (v := p) (zat TX4_fail 15 rfl) s81 (by decide) (wcn hW 17 rfl) (by decide) rfl (by omega) ((zI_st _ 54 0 5 _ (by decide) 0 i).trans hp) ?_
    refine w_goto 36 (zat TX4_fail 16 rfl) (by decide) ?_
    refine w_putI (zat TX4_fail 18 rfl) gX4_fail_35 s54 (by decide) (by decide) rfl ⟨rfl, rfl⟩ ?_
    refine w_iconst (v := 0) (zat TX4_fail 19 rfl) (by decide) ?_
    refine w_ireturn (zat TX4_fail 20 rfl) rfl rfl ?_
    exact ⟨rfl, rfl⟩
theorem qX4_write (l : Launch) (h : zH) (hW : Wc h) (m : Nat) (hm : zI h 54 0 2 = nI m) (hm2 : m < 301) (w : Int32) : Cx l 1 mX4_write [Vq (some (54, 0)), Vi w] h R0 (pWr h m w) := by
  refine Ct.in 0 kX4_write (plainFor_of_name rfl) (Nat.le_of_ble_eq_true rfl) ?_
  refine w_aload_n (zat TX4_write 0 rfl) rfl ?_
  refine y_getI (v := nI m) (zat TX4_write 1 rfl) fX4_22 s54 (by decide) (by decide) rfl hm ?_
  refine w_aload_n (zat TX4_write 2 rfl) rfl ?_
  refine w_getR (zat TX4_write 3 rfl) fX4_18 s54 (by decide) (by decide) rfl (wcr hW 10 rfl) ?_
  refine w_alen (zat TX4_write 4 rfl) (by decide) (by decide) (congrArg nI (wcn hW 13 rfl)) ?_
  refine w_icmp_ge 32 (zat TX4_write 5 rfl) (by decide) (fun Hc9 => ?_) (fun Hc9 => ?_)
  · exact absurd Hc9 (nI_ge (b := 301) (by omega) (by omega))
  · refine w_aload_n (zat TX4_write 6 rfl) rfl ?_
    refine w_getR (zat TX4_write 7 rfl) fX4_18 s54 (by decide) (by decide) rfl (wcr hW 10 rfl) ?_
    refine w_aload_n (zat TX4_write 8 rfl) rfl ?_
    refine y_getI (v := nI m) (zat TX4_write 9 rfl) fX4_22 s54 (by decide) (by decide) rfl hm ?_
    refine w_iload_n (zat TX4_write 10 rfl) rfl ?_
    refine x_iastore _ _ (zat TX4_write 11 rfl) s74 (by decide) (wcn hW 13 rfl) (by decide) rfl (by omega) ?_
    refine w_aload_n (zat TX4_write 12 rfl) rfl ?_
    refine w_dup (zat TX4_write 13 rfl) rfl ?_
    refine y_getI (v := nI m) (zat TX4_write 14 rfl) fX4_22 s54 (by decide) (by decide) rfl ((zI_st _ 74 0 _ _ (by decide) 0 2).trans hm) ?_
    refine w_iconst (v := 1) (zat TX4_write 15 rfl) (by decide) ?_
    refine w_iadd (zat TX4_write 16 rfl) ?_
    rw [nI_1]
    refine w_putI (zat TX4_write 17 rfl) gX4_write_22 s54 (by decide) (by decide) rfl ⟨rfl, rfl⟩ ?_
    refine w_return (zat TX4_write 18 rfl) rfl ?_
    exact ⟨rfl, rfl⟩
theorem fo_2 {u : Nat} (h : u = 10) : fo u = 2 := if_pos h
theorem fo_0 {u : Nat} (h : 100 ≤ u ∨ (6 ≤ u ∧ u ≤ 9) ∨ u = 18) : fo u = 0 := by
  unfold fo
  rw [if_neg (by omega), if_pos h]
theorem fo_1 {u : Nat} (h0 : ¬ u = 10) (h : ¬ (100 ≤ u ∨ (6 ≤ u ∧ u ≤ 9) ∨ u = 18)) : fo u = 1 := by
  unfold fo
  rw [if_neg h0, if_neg h]
theorem qX4_faultAsOne (l : Launch) (h : zH) (u : Nat) (hu : uok u) : Cx l 1 mX4_faultAsOne [Vi (t32 u)] h (Rv (Vi (nI (fo u)))) h := by
  refine Ct.in 1 kX4_faultAsOne (plainFor_of_name rfl) (Nat.le_of_ble_eq_true rfl) ?_
  refine w_iload_n (zat TX4_faultAsOne 0 rfl) rfl ?_
  refine w_bipush (v := -10) (zat TX4_faultAsOne 1 rfl) (by decide) ?_
  refine w_icmp_ne 8 (zat TX4_faultAsOne 2 rfl) (by decide) (fun Hc3 => ?_) (fun Hc3 => ?_)
  · rw [tq10 hu] at Hc3
    refine w_iload_n (zat TX4_faultAsOne 5 rfl) rfl ?_
    refine w_bipush (v := -6) (zat TX4_faultAsOne 6 rfl) (by decide) ?_
    refine w_icmp_gt 24 (zat TX4_faultAsOne 7 rfl) (by decide) (fun Hc11 => ?_) (fun Hc11 => ?_)
    · rw [← Int32.not_le, tle6 hu] at Hc11
      refine w_iconst (v := 0) (zat TX4_faultAsOne 13 rfl) (by decide) ?_
      refine x_istore_n (ls2 := [_, _]) (zat TX4_faultAsOne 14 rfl) (by decide) rfl ?_
      refine w_iload_n (zat TX4_faultAsOne 15 rfl) rfl ?_
      refine w_if_ge 40 (zat TX4_faultAsOne 16 rfl) (by decide) (fun Hc27 => ?_) (fun Hc27 => ?_)
      · rw [t32_ge hu] at Hc27
        refine w_iconst (v := 0) (zat TX4_faultAsOne 22 rfl) (by decide) ?_
        refine w_goto 45 (zat TX4_faultAsOne 23 rfl) (by decide) ?_
        refine w_ireturn (zat TX4_faultAsOne 25 rfl) rfl rfl ?_
        exact ⟨by rw [fo_0 (by unfold uok at hu; omega)]; rfl, rfl⟩
      · rw [t32_ge hu] at Hc27
        refine w_iload_n (zat TX4_faultAsOne 17 rfl) rfl ?_
        refine w_if_ne 40 (zat TX4_faultAsOne 18 rfl) (by decide) (fun Hc31 => ?_) (fun Hc31 => ?_)
        · exact absurd rfl Hc31
        · refine w_iload_n (zat TX4_faultAsOne 19 rfl) rfl ?_
          refine w_bipush (v := -18) (zat TX4_faultAsOne 20 rfl) (by decide) ?_
          refine w_icmp_ne 44 (zat TX4_faultAsOne 21 rfl) (by decide) (fun Hc37 => ?_) (fun Hc37 => ?_)
          · rw [tq18 hu] at Hc37
            refine w_iconst (v := 1) (zat TX4_faultAsOne 24 rfl) (by decide) ?_
            refine w_ireturn (zat TX4_faultAsOne 25 rfl) rfl rfl ?_
            exact ⟨by rw [fo_1 Hc3 (by unfold uok at hu; omega)]; rfl, rfl⟩
          · rw [tq18 hu] at Hc37
            refine w_iconst (v := 0) (zat TX4_faultAsOne 22 rfl) (by decide) ?_
            refine w_goto 45 (zat TX4_faultAsOne 23 rfl) (by decide) ?_
            refine w_ireturn (zat TX4_faultAsOne 25 rfl) rfl rfl ?_
            exact ⟨by rw [fo_0 (by unfold uok at hu; omega)]; rfl, rfl⟩
    · rw [← Int32.not_le, tle6 hu, Decidable.not_not] at Hc11
      refine w_iload_n (zat TX4_faultAsOne 8 rfl) rfl ?_
      refine w_bipush (v := -9) (zat TX4_faultAsOne 9 rfl) (by decide) ?_
      refine w_icmp_lt 24 (zat TX4_faultAsOne 10 rfl) (by decide) (fun Hc17 => ?_) (fun Hc17 => ?_)
      · rw [← Int32.not_le, tge9 hu] at Hc17
        refine w_iconst (v := 0) (zat TX4_faultAsOne 13 rfl) (by decide) ?_
        refine x_istore_n (ls2 := [_, _]) (zat TX4_faultAsOne 14 rfl) (by decide) rfl ?_
        refine w_iload_n (zat TX4_faultAsOne 15 rfl) rfl ?_
        refine w_if_ge 40 (zat TX4_faultAsOne 16 rfl) (by decide) (fun Hc27 => ?_) (fun Hc27 => ?_)
        · rw [t32_ge hu] at Hc27
          refine w_iconst (v := 0) (zat TX4_faultAsOne 22 rfl) (by decide) ?_
          refine w_goto 45 (zat TX4_faultAsOne 23 rfl) (by decide) ?_
          refine w_ireturn (zat TX4_faultAsOne 25 rfl) rfl rfl ?_
          exact ⟨by rw [fo_0 (by unfold uok at hu; omega)]; rfl, rfl⟩
        · rw [t32_ge hu] at Hc27
          refine w_iload_n (zat TX4_faultAsOne 17 rfl) rfl ?_
          refine w_if_ne 40 (zat TX4_faultAsOne 18 rfl) (by decide) (fun Hc31 => ?_) (fun Hc31 => ?_)
          · exact absurd rfl Hc31
          · refine w_iload_n (zat TX4_faultAsOne 19 rfl) rfl ?_
            refine w_bipush (v := -18) (zat TX4_faultAsOne 20 rfl) (by decide) ?_
            refine w_icmp_ne 44 (zat TX4_faultAsOne 21 rfl) (by decide) (fun Hc37 => ?_) (fun Hc37 => ?_)
            · rw [tq18 hu] at Hc37
              refine w_iconst (v := 1) (zat TX4_faultAsOne 24 rfl) (by decide) ?_
              refine w_ireturn (zat TX4_faultAsOne 25 rfl) rfl rfl ?_
              exact ⟨by rw [fo_1 Hc3 (by unfold uok at hu; omega)]; rfl, rfl⟩
            · rw [tq18 hu] at Hc37
              refine w_iconst (v := 0) (zat TX4_faultAsOne 22 rfl) (by decide) ?_
              refine w_goto 45 (zat TX4_faultAsOne 23 rfl) (by decide) ?_
              refine w_ireturn (zat TX4_faultAsOne 25 rfl) rfl rfl ?_
              exact ⟨by rw [fo_0 (by unfold uok at hu; omega)]; rfl, rfl⟩
      · rw [← Int32.not_le, tge9 hu, Decidable.not_not] at Hc17
        refine w_iconst (v := 1) (zat TX4_faultAsOne 11 rfl) (by decide) ?_
        refine w_goto 25 (zat TX4_faultAsOne 12 rfl) (by decide) ?_
        refine x_istore_n (ls2 := [_, _]) (zat TX4_faultAsOne 14 rfl) (by decide) rfl ?_
        refine w_iload_n (zat TX4_faultAsOne 15 rfl) rfl ?_
        refine w_if_ge 40 (zat TX4_faultAsOne 16 rfl) (by decide) (fun Hc27 => ?_) (fun Hc27 => ?_)
        · rw [t32_ge hu] at Hc27
          refine w_iconst (v := 0) (zat TX4_faultAsOne 22 rfl) (by decide) ?_
          refine w_goto 45 (zat TX4_faultAsOne 23 rfl) (by decide) ?_
          refine w_ireturn (zat TX4_faultAsOne 25 rfl) rfl rfl ?_
          exact ⟨by rw [fo_0 (by unfold uok at hu; omega)]; rfl, rfl⟩
        · rw [t32_ge hu] at Hc27
          refine w_iload_n (zat TX4_faultAsOne 17 rfl) rfl ?_
          refine w_if_ne 40 (zat TX4_faultAsOne 18 rfl) (by decide) (fun Hc31 => ?_) (fun Hc31 => ?_)
          · refine w_iconst (v := 0) (zat TX4_faultAsOne 22 rfl) (by decide) ?_
            refine w_goto 45 (zat TX4_faultAsOne 23 rfl) (by decide) ?_
            refine w_ireturn (zat TX4_faultAsOne 25 rfl) rfl rfl ?_
            exact ⟨by rw [fo_0 (by unfold uok at hu; omega)]; rfl, rfl⟩
          · exact absurd Hc31 (by decide)
  · rw [tq10 hu] at Hc3
    refine w_iconst (v := 2) (zat TX4_faultAsOne 3 rfl) (by decide) ?_
    refine w_ireturn (zat TX4_faultAsOne 4 rfl) rfl rfl ?_
    exact ⟨by rw [fo_2 Hc3]; rfl, rfl⟩
theorem qX4_passesSign_s (l : Launch) (h : zH) (i s : Nat) (hi : zI h 54 0 3 = nI i) (hs : zI h 54 0 4 = nI s) (h6 : s < 60) : Cx l 2 mX4_passesSign [Vq (some (54, 0))] h (Rv (Vi 1)) (zsI (zsI h 54 0 4 (nI (s + 1))) 54 0 3 (nI (i + 1))) := by
  refine Ct.in 0 kX4_passesSign (plainFor_of_name rfl) (Nat.le_of_ble_eq_true rfl) ?_
  refine w_aload_n (zat TX4_passesSign 0 rfl) rfl ?_
  refine y_getI (v := nI s) (zat TX4_passesSign 1 rfl) fX4_29 s54 (by decide) (by decide) rfl hs ?_
  refine w_bipush (v := 60) (zat TX4_passesSign 2 rfl) (by decide) ?_
  refine w_icmp_lt 15 (zat TX4_passesSign 3 rfl) (by decide) (fun Hc6 => ?_) (fun Hc6 => ?_)
  · refine w_aload_n (zat TX4_passesSign 8 rfl) rfl ?_
    refine w_dup (zat TX4_passesSign 9 rfl) rfl ?_
    refine y_getI (v := nI s) (zat TX4_passesSign 10 rfl) fX4_29 s54 (by decide) (by decide) rfl hs ?_
    refine w_iconst (v := 1) (zat TX4_passesSign 11 rfl) (by decide) ?_
    refine w_iadd (zat TX4_passesSign 12 rfl) ?_
    rw [nI_1]
    refine w_putI (zat TX4_passesSign 13 rfl) gX4_passesSign_29 s54 (by decide) (by decide) rfl ⟨rfl, rfl⟩ ?_
    refine w_aload_n (zat TX4_passesSign 14 rfl) rfl ?_
    refine w_dup (zat TX4_passesSign 15 rfl) rfl ?_
    refine y_getI (v := nI i) (zat TX4_passesSign 16 rfl) fX4_26 s54 (by decide) (by decide) rfl ((zI_oth _ _ _ _ _ (by decide)).trans hi) ?_
    refine w_iconst (v := 1) (zat TX4_passesSign 17 rfl) (by decide) ?_
    refine w_iadd (zat TX4_passesSign 18 rfl) ?_
    rw [nI_1]
    refine w_putI (zat TX4_passesSign 19 rfl) gX4_passesSign_26 s54 (by decide) (by decide) rfl ⟨rfl, rfl⟩ ?_
    refine w_iconst (v := 1) (zat TX4_passesSign 20 rfl) (by decide) ?_
    refine w_ireturn (zat TX4_passesSign 21 rfl) rfl rfl ?_
    exact ⟨rfl, rfl⟩
  · exact absurd (nI_lt (b := 60) (by omega) (by omega)) Hc6
theorem qX4_passesSign_n (l : Launch) (h : zH) (hW : Wc h) (N i s : Nat) (hi : zI h 54 0 3 = nI i) (hs : zI h 54 0 4 = nI s) (hN : zI h 73 0 2 = nI N) (hlt : i < N) (hN2 : N ≤ 301) (h6 : ¬ s < 60) (h60 : s ≤ 60) (p : Int32) (hp : zI h 81 0 i = p) : Cx l 2 mX4_passesSign [Vq (some (54, 0))] h (Rv (Vi 0)) (pFl h 3 p) := by
  refine Ct.in 0 kX4_passesSign (plainFor_of_name rfl) (Nat.le_of_ble_eq_true rfl) ?_
  refine w_aload_n (zat TX4_passesSign 0 rfl) rfl ?_
  refine y_getI (v := nI s) (zat TX4_passesSign 1 rfl) fX4_29 s54 (by decide) (by decide) rfl hs ?_
  refine w_bipush (v := 60) (zat TX4_passesSign 2 rfl) (by decide) ?_
  refine w_icmp_lt 15 (zat TX4_passesSign 3 rfl) (by decide) (fun Hc6 => ?_) (fun Hc6 => ?_)
  · exact absurd Hc6 (Int32.not_lt.mpr (nI_le (a := 60) (by omega) (by omega)))
  · refine w_aload_n (zat TX4_passesSign 4 rfl) rfl ?_
    refine w_iconst (v := 3) (zat TX4_passesSign 5 rfl) (by decide) ?_
    refine x_callv2 (qX4_fail l h hW N i hi hN hlt hN2 3 p hp) (by decide) kX4_fail (rdy_V (zat TX4_passesSign 6 rfl) kX4_fail pX4_fail zw567 zw569 zw9 (zrc (by decide) (by decide) rfl)) (Nat.le_of_ble_eq_true rfl) rfl rfl ?_
    refine w_ireturn (zat TX4_passesSign 7 rfl) rfl rfl ?_
    exact ⟨rfl, rfl⟩
