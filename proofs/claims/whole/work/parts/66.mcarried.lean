-- walks, way, wayAt, carried of the model, by program (wip/gen/p66.py)
/-- the way of province p, by the prices pr -/
noncomputable def wyL (on ot c pr : Nat → Nat) (nB nP p : Nat) : List Nat :=
  @dite (List Nat) (∃ ks : List Nat, ks.length ≤ 9 ∧ Wy on ot c (dW on ot c nB nP p) nB p ks (sr pr (dW on ot c nB nP) p nP)) (Classical.propDecidable _) (fun h => h.choose) (fun _ => [])
theorem sr_near {on ot c pr : Nat → Nat} {nB nP p : Nat} (hL : LB nP nB on ot c) (hp : p < nP) (hpr : pr p ≤ 1000) : dW on ot c nB nP p (sr pr (dW on ot c nB nP) p nP) ≤ 1000 := by
  have h1 := (sr_is pr (dW on ot c nB nP) p nP).1
  rw [dW_aa hL, dW_sym on ot c nB nP _ p] at h1
  omega
theorem wyL_is {on ot c pr : Nat → Nat} {nB nP p : Nat} (hL : LB nP nB on ot c) (hP : nP ≤ 10) (hp : p < nP) (hpr : pr p ≤ 1000) : (wyL on ot c pr nB nP p).length ≤ 9 ∧ Wy on ot c (dW on ot c nB nP p) nB p (wyL on ot c pr nB nP p) (sr pr (dW on ot c nB nP) p nP) := by
  have hs := sr_lt pr (dW on ot c nB nP) hp nP (Nat.le_refl _)
  have hd := sr_near (pr := pr) hL hp hpr
  have ex : ∃ ks : List Nat, ks.length ≤ 9 ∧ Wy on ot c (dW on ot c nB nP p) nB p ks (sr pr (dW on ot c nB nP) p nP) := by
    obtain ⟨ks, h1, h2⟩ := Wy_ex hL (p := p) _ _ hs (Nat.le_refl _) (by omega)
    have h3 := rk_lt (G := dW on ot c nB nP p) hs
    exact ⟨ks, by omega, h2⟩
  unfold wyL
  rw [dif_pos ex]
  exact ex.choose_spec
theorem gD {ks : List Nat} {i : Nat} (h : i < ks.length) : ks[i]? = some (ks.getD i 0) := by
  rw [List.getD_eq_getElem?_getD, List.getElem?_eq_getElem h]
  rfl
def FrK (h h' : zH) : Prop := h'.2 = h.2 ∧ (∀ k, k ≠ 1 → k ≠ 25 → zI h' k = zI h k) ∧ ∀ i j, j ≠ 35 → zI h' 1 i j = zI h 1 i j
theorem FrK.rf (h : zH) : FrK h h := ⟨rfl, fun _ _ _ => rfl, fun _ _ _ => rfl⟩
theorem FrK.tr {a b c : zH} (x : FrK a b) (y : FrK b c) : FrK a c := ⟨y.1.trans x.1, fun k h1 h2 => (y.2.1 k h1 h2).trans (x.2.1 k h1 h2), fun i j h => (y.2.2 i j h).trans (x.2.2 i j h)⟩
theorem FrK.w {a b : zH} (x : FrK a b) (n : Nat) (v w : Int32) : FrK a (zsI (zsI b 25 0 n v) 1 0 35 w) := ⟨x.1, fun k h1 h2 => by
  rw [← x.2.1 k h1 h2]
  exact funext (fun i => funext (fun j => (if_neg (fun z => h1 z.1)).trans (if_neg (fun z => h2 z.1)))), fun i j h => by
  rw [← x.2.2 i j h]
  exact (if_neg (fun z => h z.2.2)).trans (zI_st b 25 0 n v (by decide) i j)⟩
theorem FrK.w0 {a b : zH} (x : FrK a b) (w : Int32) : FrK a (zsI b 1 0 35 w) := ⟨x.1, fun k h1 h2 => by
  rw [← x.2.1 k h1 h2]
  exact funext (fun i => funext (fun j => (if_neg (fun z => h1 z.1)))), fun i j h => by
  rw [← x.2.2 i j h]
  exact (if_neg (fun z => h z.2.2))⟩
/-- what the market of the model leaves alone -/
def FrM (h h' : zH) : Prop := h'.2 = h.2 ∧ (∀ k, k ≠ 1 → k ≠ 20 → k ≠ 21 → k ≠ 22 → k ≠ 23 → k ≠ 24 → k ≠ 25 → zI h' k = zI h k) ∧ ∀ i j, j ≠ 0 → j ≠ 35 → zI h' 1 i j = zI h 1 i j
theorem MNow.M {h h' : zH} {nP nB nE Y : Nat} {pg : Nat → List (Bool × List (Nat × Int32))} {on ot c : Nat → Nat} (x : MNow (zsI h 1 0 0 0) h' nP nB nE Y pg on ot c) : FrM h h' := ⟨x.1.1, fun k h1 h2 h3 h4 h5 h6 h7 => by
  rw [x.1.2 k h2 h3 h4 h5 h6]
  exact funext (fun i => funext (fun j => (if_neg (fun z => h1 z.1)))), fun i j h h' => by
  rw [x.1.2 1 (by decide) (by decide) (by decide) (by decide) (by decide)]
  exact (if_neg (fun z => h z.2.2))⟩
theorem FrM.K {a b c : zH} (x : FrM a b) (y : FrK b c) : FrM a c := ⟨y.1.trans x.1, fun k h1 h2 h3 h4 h5 h6 h7 => (y.2.1 k h1 h7).trans (x.2.1 k h1 h2 h3 h4 h5 h6 h7), fun i j h1 h2 => (y.2.2 i j h2).trans (x.2.2 i j h1 h2)⟩
theorem BR.K {a b : zH} {nP nB : Nat} {on ot c : Nat → Nat} (x : FrK a b) (h : BR a 15 nP nB on ot c) : BR b 15 nP nB on ot c := by
  unfold BR
  rw [x.2.1 12 (by decide) (by decide), x.2.1 13 (by decide) (by decide), x.2.1 14 (by decide) (by decide), x.2.1 15 (by decide) (by decide), x.2.2 0 7 (by decide)]
  exact h
theorem TD.K {a b : zH} {nP : Nat} {D : Nat → Nat → Nat} (x : FrK a b) (h : TD a nP D) : TD b nP D := by
  unfold TD
  rw [x.2.1 23 (by decide) (by decide)]
  exact h
theorem lX14_walks_12 (l : Launch) (h0 : zH) (hWM0 : Wm h0) (nP nB : Nat) (hP2 : nP ≤ 10) (hB2 : nB ≤ 16) (on ot c : Nat → Nat) (hBR0 : BR h0 15 nP nB on ot c) (D : Nat → Nat → Nat) (hD : ∀ a b, D a b ≤ 100000000) (hT0 : TD h0 nP D) (p : Nat) (hp : p < nP) : ∀ (ks pre : List Nat) (v : Nat), v < nP → pre.length + ks.length ≤ 10 → Wy on ot c (fun x => D x p) nB p ks v → ∀ h, FrK h0 h → Lw h 1 35 25 pre → ∀ x3 x4 x5, Wp l mX14_walks 2 12 [some (Vq (some (1, 0))), some (Vi (nI p)), some (Vi (nI v)), x3, x4, x5] [] h (fun o h' => o = R0 ∧ FrK h0 h' ∧ Lw h' 1 35 25 (pre ++ ks)) := by
  intro ks
  induction ks with
  | nil =>
    intro pre v hv hn hy h hF hLw x3 x4 x5
    have hWM := Wm.same (congrArg Prod.snd hF.1) hWM0
    refine w_iload_n (zat TX14_walks_0 8 rfl) rfl ?_
    refine w_iload_n (zat TX14_walks_0 9 rfl) rfl ?_
    refine w_icmp_eq 151 (zat TX14_walks_0 10 rfl) (by decide) (fun Hc14 => ?_) (fun Hc14 => ?_)
    · refine w_return (zat TX14_walks_1 31 rfl) rfl ?_
      exact ⟨rfl, hF, by rw [List.append_nil]; exact hLw⟩
    · exact absurd (congrArg nI hy) Hc14
  | cons k ks ih =>
    intro pre v hv hn hy h hF hLw x3 x4 x5
    have hWM := Wm.same (congrArg Prod.snd hF.1) hWM0
    have hBR := hBR0.K hF
    have hT := hT0.K hF
    obtain ⟨hy1, hy2, hy3⟩ := hy
    rw [List.length_cons] at hn
    have hw : ow on ot k v < nP := by
      obtain ⟨-, -, b3, b4, -⟩ := hBR0 k hy2.1
      unfold ow
      split
      · exact b4
      · exact b3
    refine w_iload_n (zat TX14_walks_0 8 rfl) rfl ?_
    refine w_iload_n (zat TX14_walks_0 9 rfl) rfl ?_
    refine w_icmp_eq 151 (zat TX14_walks_0 10 rfl) (by decide) (fun Hc14 => ?_) (fun Hc14 => ?_)
    · exact absurd (nIe (by omega) (by omega) Hc14) hy1
    · refine w_iconst (v := 0) (zat TX14_walks_0 11 rfl) (by decide) ?_
      refine x_istore_n (ls2 := [_, _, _, _, _, _]) (zat TX14_walks_0 12 rfl) (by decide) rfl ?_
      refine w_iconst (v := -1) (zat TX14_walks_0 13 rfl) (by decide) ?_
      refine x_istore (ls2 := [_, _, _, _, _, _]) (zat TX14_walks_0 14 rfl) (by decide) rfl ?_
      refine lX14_walks_22 l h hWM nP nB hP2 hB2 on ot c hBR D hD hT p hp _ v k hv hy2 (fun x => ?_) k 0 (by omega) _
      refine w_aload_n (zat TX14_walks_1 14 rfl) rfl ?_
      refine w_getR (zat TX14_walks_1 15 rfl) fX14_72 s1 (by decide) (by decide) rfl (wmr hWM 14 rfl) ?_
      refine w_aload_n (zat TX14_walks_1 16 rfl) rfl ?_
      refine y_getI (v := nI pre.length) (zat TX14_walks_1 17 rfl) fX14_352 s1 (by decide) (by decide) rfl hLw.1 ?_
      refine w_iload_n (zat TX14_walks_1 18 rfl) rfl ?_
      refine w_iconst (v := 1) (zat TX14_walks_1 19 rfl) (by decide) ?_
      refine w_isub (zat TX14_walks_1 20 rfl) ?_
      rw [show nI (k + 1) - 1 = nI k from nI_pred k]
      refine x_iastore pre.length _ (zat TX14_walks_1 21 rfl) s25 (by decide) (wmn hWM 13 rfl) (by decide) rfl (by omega) ?_
      refine w_aload_n (zat TX14_walks_1 22 rfl) rfl ?_
      refine w_dup (zat TX14_walks_1 23 rfl) rfl ?_
      refine y_getI (v := nI pre.length) (zat TX14_walks_1 24 rfl) fX14_352 s1 (by decide) (by decide) rfl ((zI_st h 25 0 _ _ (by decide) 0 35).trans hLw.1) ?_
      refine w_iconst (v := 1) (zat TX14_walks_1 25 rfl) (by decide) ?_
      refine w_iadd (zat TX14_walks_1 26 rfl) ?_
      rw [nI_1]
      refine w_putI (zat TX14_walks_1 27 rfl) gX14_walks_352 s1 (by decide) (by decide) rfl ⟨rfl, rfl⟩ ?_
      refine w_iload (zat TX14_walks_1 28 rfl) rfl ?_
      refine x_istore_n (ls2 := [_, _, _, _, _, _]) (zat TX14_walks_1 29 rfl) (by decide) rfl ?_
      refine w_goto 12 (zat TX14_walks_1 30 rfl) (by decide) ?_
      have hi := ih (pre ++ [k]) (ow on ot k v) hw (by rw [List.length_append]; show pre.length + 1 + ks.length ≤ 10; omega) hy3 _ (hF.w pre.length (nI k) (nI (pre.length + 1))) (hLw.more (by decide) k)
      rw [List.append_assoc] at hi
      exact hi _ _ _
theorem qX14_walks (l : Launch) (h0 : zH) (hWM0 : Wm h0) (nP nB : Nat) (hP2 : nP ≤ 10) (hB2 : nB ≤ 16) (on ot c : Nat → Nat) (hBR0 : BR h0 15 nP nB on ot c) (D : Nat → Nat → Nat) (hD : ∀ a b, D a b ≤ 100000000) (hT0 : TD h0 nP D) (p : Nat) (hp : p < nP) (s : Nat) (hs : s < nP) (hs2 : zI h0 24 0 p = nI s) (ks : List Nat) (hk : ks.length ≤ 10) (hy : Wy on ot c (fun x => D x p) nB p ks s) : Ct l 2 mX14_walks [Vq (some (1, 0)), Vi (nI p)] h0 (fun o h' => o = R0 ∧ FrK h0 h' ∧ Lw h' 1 35 25 ks) := by
  refine Ct.in 4 kX14_walks (plainFor_of_name rfl) (Nat.le_of_ble_eq_true rfl) ?_
  refine w_aload_n (zat TX14_walks_0 0 rfl) rfl ?_
  refine w_iconst (v := 0) (zat TX14_walks_0 1 rfl) (by decide) ?_
  refine w_putI (zat TX14_walks_0 2 rfl) gX14_walks_352 s1 (by decide) (by decide) rfl ⟨rfl, rfl⟩ ?_
  refine w_aload_n (zat TX14_walks_0 3 rfl) rfl ?_
  refine w_getR (zat TX14_walks_0 4 rfl) fX14_69 s1 (by decide) (by decide) rfl (wmr hWM0 13 rfl) ?_
  refine w_iload_n (zat TX14_walks_0 5 rfl) rfl ?_
  refine y_iaload _ _ (v := nI s) (zat TX14_walks_0 6 rfl) s24 (by decide) (wmn hWM0 12 rfl) (by decide) rfl (by omega) ((zI_st h0 1 0 _ _ (by decide) 0 p).trans hs2) ?_
  refine x_istore_n (ls2 := [_, _, _, _, _, _]) (zat TX14_walks_0 7 rfl) (by decide) rfl ?_
  exact lX14_walks_12 l h0 hWM0 nP nB hP2 hB2 on ot c hBR0 D hD hT0 p hp ks [] s hs (by rw [List.length_nil]; omega) hy _ ((FrK.rf h0).w0 0) ⟨zI_same _ _ _ _ _, fun i x hx => by cases hx⟩ _ _ _
theorem qX14_way_n (l : Launch) (h : zH) (p : Int32) (nP : Nat) (hP : zI h 1 0 4 = nI nP) (hP2 : nP ≤ 10) (Hp : ¬ (0 ≤ p ∧ p < nI nP)) : Cx l 2 mX14_way [Vq (some (1, 0)), Vi p] h (Rv (Vi (-1))) (zsI h 1 0 0 0) := by
  refine Ct.in 0 kX14_way (plainFor_of_name rfl) (Nat.le_of_ble_eq_true rfl) ?_
  refine w_aload_n (zat TX14_way 0 rfl) rfl ?_
  refine w_iconst (v := 0) (zat TX14_way 1 rfl) (by decide) ?_
  refine w_putI (zat TX14_way 2 rfl) gX14_way_100 s1 (by decide) (by decide) rfl ⟨rfl, rfl⟩ ?_
  refine w_aload_n (zat TX14_way 3 rfl) rfl ?_
  refine w_iload_n (zat TX14_way 4 rfl) rfl ?_
  refine x_callv2 (qX14_isProvince l _ _ nP hP) (by decide) kX14_isProvince (rdy_V (zat TX14_way 5 rfl) kX14_isProvince pX14_isProvince zw1200 zw1202 zw33 (zrc (by decide) (by decide) rfl)) (Nat.le_of_ble_eq_true rfl) rfl rfl ?_
  refine w_if_ne 15 (zat TX14_way 6 rfl) (by decide) (fun Hc10 => ?_) (fun Hc10 => ?_)
  · simp only [zb_0, Decidable.not_not, ne_eq] at Hc10
    exact absurd Hc10 Hp
  · refine w_iconst (v := -1) (zat TX14_way 7 rfl) (by decide) ?_
    refine w_ireturn (zat TX14_way 8 rfl) rfl rfl ?_
    exact ⟨rfl, rfl⟩
theorem qX14_wayAt_n (l : Launch) (h : zH) (p : Int32) (i : Int32) (nP : Nat) (hP : zI h 1 0 4 = nI nP) (hP2 : nP ≤ 10) (Hp : ¬ (0 ≤ p ∧ p < nI nP)) : Cx l 2 mX14_wayAt [Vq (some (1, 0)), Vi p, Vi i] h (Rv (Vi (-1))) (zsI h 1 0 0 0) := by
  refine Ct.in 0 kX14_wayAt (plainFor_of_name rfl) (Nat.le_of_ble_eq_true rfl) ?_
  refine w_aload_n (zat TX14_wayAt 0 rfl) rfl ?_
  refine w_iconst (v := 0) (zat TX14_wayAt 1 rfl) (by decide) ?_
  refine w_putI (zat TX14_wayAt 2 rfl) gX14_wayAt_100 s1 (by decide) (by decide) rfl ⟨rfl, rfl⟩ ?_
  refine w_aload_n (zat TX14_wayAt 3 rfl) rfl ?_
  refine w_iload_n (zat TX14_wayAt 4 rfl) rfl ?_
  refine x_callv2 (qX14_isProvince l _ _ nP hP) (by decide) kX14_isProvince (rdy_V (zat TX14_wayAt 5 rfl) kX14_isProvince pX14_isProvince zw1200 zw1202 zw33 (zrc (by decide) (by decide) rfl)) (Nat.le_of_ble_eq_true rfl) rfl rfl ?_
  refine w_if_ne 15 (zat TX14_wayAt 6 rfl) (by decide) (fun Hc10 => ?_) (fun Hc10 => ?_)
  · simp only [zb_0, Decidable.not_not, ne_eq] at Hc10
    exact absurd Hc10 Hp
  · refine w_iconst (v := -1) (zat TX14_wayAt 7 rfl) (by decide) ?_
    refine w_ireturn (zat TX14_wayAt 8 rfl) rfl rfl ?_
    exact ⟨rfl, rfl⟩
theorem qX14_way_s (l : Launch) (h : zH) (nP nB nE Y : Nat) (pg : Nat → List (Bool × List (Nat × Int32))) (on ot c mo nd : Nat → Nat) (hM : MkQ h nP nB nE Y pg on ot c mo nd) (hL : LB nP nB on ot c) (a : Nat) (ha : a < nP) : Ct l 8 mX14_way [Vq (some (1, 0)), Vi (nI a)] h (fun o h' => o = Rv (Vi (nI (wyL on ot c (prN h nE pg Y) nB nP a).length)) ∧ FrM h h') := by
  obtain ⟨hWM, hP, hP2, hB, hB2, hYr, hY, hE, hE2, hE3, hMR, hBR, hmn⟩ := id hM
  have hwy := wyL_is (pr := prN h nE pg Y) hL hP2 ha (prN_eq h nE pg Y a).2
  refine Ct.in 0 kX14_way (plainFor_of_name rfl) (Nat.le_of_ble_eq_true rfl) ?_
  refine w_aload_n (zat TX14_way 0 rfl) rfl ?_
  refine w_iconst (v := 0) (zat TX14_way 1 rfl) (by decide) ?_
  refine w_putI (zat TX14_way 2 rfl) gX14_way_100 s1 (by decide) (by decide) rfl ⟨rfl, rfl⟩ ?_
  refine w_aload_n (zat TX14_way 3 rfl) rfl ?_
  refine w_iload_n (zat TX14_way 4 rfl) rfl ?_
  refine x_callv2 (qX14_isProvince l _ _ nP hP) (by decide) kX14_isProvince (rdy_V (zat TX14_way 5 rfl) kX14_isProvince pX14_isProvince zw1200 zw1202 zw33 (zrc (by decide) (by decide) rfl)) (Nat.le_of_ble_eq_true rfl) rfl rfl ?_
  refine w_if_ne 15 (zat TX14_way 6 rfl) (by decide) (fun Hc10 => ?_) (fun Hc10 => ?_)
  · refine w_aload_n (zat TX14_way 9 rfl) rfl ?_
    refine x_call1 (qX14_now l (zsI h 1 0 0 0) nP nB nE Y pg on ot c mo nd hM) (by decide) kX14_now (rdy_V (zat TX14_way 10 rfl) kX14_now pX14_now zw1357 zw1359 zw52 (zrc (by decide) (by decide) rfl)) (Nat.le_of_ble_eq_true rfl) rfl rfl (fun v h2 hq => ?_) (fun r h2 hq => by cases hq.1)
    obtain ⟨hq1, hN⟩ := hq
    cases hq1
    obtain ⟨hF, hpd, hT, hS⟩ := id hN
    have hWM2 := Wm.same (congrArg Prod.snd hF.1) hWM
    have hBR2 : BR h2 15 nP nB on ot c := by
      unfold BR
      rw [hF.2 12 (by decide) (by decide) (by decide) (by decide) (by decide), hF.2 13 (by decide) (by decide) (by decide) (by decide) (by decide), hF.2 14 (by decide) (by decide) (by decide) (by decide) (by decide), hF.2 15 (by decide) (by decide) (by decide) (by decide) (by decide), hF.2 1 (by decide) (by decide) (by decide) (by decide) (by decide)]
      exact hBR
    refine w_aload_n (zat TX14_way 11 rfl) rfl ?_
    refine w_iload_n (zat TX14_way 12 rfl) rfl ?_
    refine x_call2 (qX14_walks l h2 hWM2 nP nB hP2 hB2 on ot c hBR2 (dW on ot c nB nP) (dW_le on ot c nB nP) hT a ha (sr (prN h nE pg Y) (dW on ot c nB nP) a nP) (sr_lt _ _ ha nP (by omega)) (hS a ha) (wyL on ot c (prN h nE pg Y) nB nP a) (by have := hwy.1; omega) (by rw [show (fun x => dW on ot c nB nP x a) = dW on ot c nB nP a from funext (fun x => dW_sym on ot c nB nP x a)]; exact hwy.2)) (by decide) kX14_walks (rdy_V (zat TX14_way 13 rfl) kX14_walks pX14_walks zw1411 zw1413 zw59 (zrc (by decide) (by decide) rfl)) (Nat.le_of_ble_eq_true rfl) rfl rfl (fun v h3 hq => ?_) (fun r h3 hq => by cases hq.1)
    obtain ⟨hq1, hF3, hLw⟩ := hq
    cases hq1
    have hWM3 := Wm.same (congrArg Prod.snd hF3.1) hWM2
    refine w_aload_n (zat TX14_way 14 rfl) rfl ?_
    refine y_getI (v := nI (wyL on ot c (prN h nE pg Y) nB nP a).length) (zat TX14_way 15 rfl) fX14_352 s1 (by decide) (by decide) rfl hLw.1 ?_
    refine w_ireturn (zat TX14_way 16 rfl) rfl rfl ?_
    exact ⟨rfl, hN.M.K hF3⟩
  · simp only [zb_0, Decidable.not_not] at Hc10
    exact absurd (ixI (j := a) (n := nP) (by omega) (by omega)) Hc10
/-- the answer of wayAt -/
def wAt (ks : List Nat) (i : Int32) : Int32 := if 0 ≤ i ∧ i < nI ks.length then nI (ks.getD i.toNatClampNeg 0) else -1
theorem wAt_lt {ks : List Nat} {i : Int32} (h : i < 0) : wAt ks i = -1 := if_neg (fun z => absurd h (Int32.not_lt.mpr z.1))
theorem wAt_ge {ks : List Nat} {i : Int32} (h : nI ks.length ≤ i) : wAt ks i = -1 := if_neg (fun z => absurd h (Int32.not_le.mpr z.2))
theorem wAt_in {ks : List Nat} {i : Int32} (h : 0 ≤ i) (h2 : i < nI ks.length) : wAt ks i = nI (ks.getD i.toNatClampNeg 0) := if_pos ⟨h, h2⟩
theorem qX14_wayAt_s (l : Launch) (h : zH) (nP nB nE Y : Nat) (pg : Nat → List (Bool × List (Nat × Int32))) (on ot c mo nd : Nat → Nat) (hM : MkQ h nP nB nE Y pg on ot c mo nd) (hL : LB nP nB on ot c) (a : Nat) (ha : a < nP) (i : Int32) : Ct l 8 mX14_wayAt [Vq (some (1, 0)), Vi (nI a), Vi i] h (fun o h' => o = Rv (Vi (wAt (wyL on ot c (prN h nE pg Y) nB nP a) i)) ∧ FrM h h') := by
  obtain ⟨hWM, hP, hP2, hB, hB2, hYr, hY, hE, hE2, hE3, hMR, hBR, hmn⟩ := id hM
  have hwy := wyL_is (pr := prN h nE pg Y) hL hP2 ha (prN_eq h nE pg Y a).2
  refine Ct.in 0 kX14_wayAt (plainFor_of_name rfl) (Nat.le_of_ble_eq_true rfl) ?_
  refine w_aload_n (zat TX14_wayAt 0 rfl) rfl ?_
  refine w_iconst (v := 0) (zat TX14_wayAt 1 rfl) (by decide) ?_
  refine w_putI (zat TX14_wayAt 2 rfl) gX14_wayAt_100 s1 (by decide) (by decide) rfl ⟨rfl, rfl⟩ ?_
  refine w_aload_n (zat TX14_wayAt 3 rfl) rfl ?_
  refine w_iload_n (zat TX14_wayAt 4 rfl) rfl ?_
  refine x_callv2 (qX14_isProvince l _ _ nP hP) (by decide) kX14_isProvince (rdy_V (zat TX14_wayAt 5 rfl) kX14_isProvince pX14_isProvince zw1200 zw1202 zw33 (zrc (by decide) (by decide) rfl)) (Nat.le_of_ble_eq_true rfl) rfl rfl ?_
  refine w_if_ne 15 (zat TX14_wayAt 6 rfl) (by decide) (fun Hc10 => ?_) (fun Hc10 => ?_)
  · refine w_aload_n (zat TX14_wayAt 9 rfl) rfl ?_
    refine x_call1 (qX14_now l (zsI h 1 0 0 0) nP nB nE Y pg on ot c mo nd hM) (by decide) kX14_now (rdy_V (zat TX14_wayAt 10 rfl) kX14_now pX14_now zw1357 zw1359 zw52 (zrc (by decide) (by decide) rfl)) (Nat.le_of_ble_eq_true rfl) rfl rfl (fun v h2 hq => ?_) (fun r h2 hq => by cases hq.1)
    obtain ⟨hq1, hN⟩ := hq
    cases hq1
    obtain ⟨hF, hpd, hT, hS⟩ := id hN
    have hWM2 := Wm.same (congrArg Prod.snd hF.1) hWM
    have hBR2 : BR h2 15 nP nB on ot c := by
      unfold BR
      rw [hF.2 12 (by decide) (by decide) (by decide) (by decide) (by decide), hF.2 13 (by decide) (by decide) (by decide) (by decide) (by decide), hF.2 14 (by decide) (by decide) (by decide) (by decide) (by decide), hF.2 15 (by decide) (by decide) (by decide) (by decide) (by decide), hF.2 1 (by decide) (by decide) (by decide) (by decide) (by decide)]
      exact hBR
    refine w_aload_n (zat TX14_wayAt 11 rfl) rfl ?_
    refine w_iload_n (zat TX14_wayAt 12 rfl) rfl ?_
    refine x_call2 (qX14_walks l h2 hWM2 nP nB hP2 hB2 on ot c hBR2 (dW on ot c nB nP) (dW_le on ot c nB nP) hT a ha (sr (prN h nE pg Y) (dW on ot c nB nP) a nP) (sr_lt _ _ ha nP (by omega)) (hS a ha) (wyL on ot c (prN h nE pg Y) nB nP a) (by have := hwy.1; omega) (by rw [show (fun x => dW on ot c nB nP x a) = dW on ot c nB nP a from funext (fun x => dW_sym on ot c nB nP x a)]; exact hwy.2)) (by decide) kX14_walks (rdy_V (zat TX14_wayAt 13 rfl) kX14_walks pX14_walks zw1411 zw1413 zw59 (zrc (by decide) (by decide) rfl)) (Nat.le_of_ble_eq_true rfl) rfl rfl (fun v h3 hq => ?_) (fun r h3 hq => by cases hq.1)
    obtain ⟨hq1, hF3, hLw⟩ := hq
    cases hq1
    have hWM3 := Wm.same (congrArg Prod.snd hF3.1) hWM2
    refine w_iload_n (zat TX14_wayAt 14 rfl) rfl ?_
    refine w_if_lt 45 (zat TX14_wayAt 15 rfl) (by decide) (fun Hc25 => ?_) (fun Hc25 => ?_)
    · refine w_iconst (v := -1) (zat TX14_wayAt 25 rfl) (by decide) ?_
      refine w_ireturn (zat TX14_wayAt 26 rfl) rfl rfl ?_
      exact ⟨congrArg (fun x => Rv (Vi x)) (wAt_lt Hc25).symm, hN.M.K hF3⟩
    · refine w_iload_n (zat TX14_wayAt 16 rfl) rfl ?_
      refine w_aload_n (zat TX14_wayAt 17 rfl) rfl ?_
      refine y_getI (v := nI (wyL on ot c (prN h nE pg Y) nB nP a).length) (zat TX14_wayAt 18 rfl) fX14_352 s1 (by decide) (by decide) rfl hLw.1 ?_
      refine w_icmp_ge 45 (zat TX14_wayAt 19 rfl) (by decide) (fun Hc33 => ?_) (fun Hc33 => ?_)
      · refine w_iconst (v := -1) (zat TX14_wayAt 25 rfl) (by decide) ?_
        refine w_ireturn (zat TX14_wayAt 26 rfl) rfl rfl ?_
        exact ⟨congrArg (fun x => Rv (Vi x)) (wAt_ge Hc33).symm, hN.M.K hF3⟩
      · rw [Int32.not_lt] at Hc25
        rw [Int32.not_le] at Hc33
        obtain ⟨Hx, Hn⟩ := ixC (n := (wyL on ot c (prN h nE pg Y) nB nP a).length) (by omega) ⟨Hc25, Hc33⟩
        refine w_aload_n (zat TX14_wayAt 20 rfl) rfl ?_
        refine w_getR (zat TX14_wayAt 21 rfl) fX14_72 s1 (by decide) (by decide) rfl (wmr hWM3 14 rfl) ?_
        refine w_iload_n (zat TX14_wayAt 22 rfl) rfl ?_
        refine y_iaload i.toNatClampNeg _ (v := nI ((wyL on ot c (prN h nE pg Y) nB nP a).getD i.toNatClampNeg 0)) (zat TX14_wayAt 23 rfl) s25 (by decide) (wmn hWM3 13 rfl) (by decide) Hx (by have := hwy.1; omega) (hLw.2 _ _ (gD Hn)) ?_
        refine w_goto 46 (zat TX14_wayAt 24 rfl) (by decide) ?_
        refine w_ireturn (zat TX14_wayAt 26 rfl) rfl rfl ?_
        exact ⟨congrArg (fun x => Rv (Vi x)) (wAt_in Hc25 Hc33).symm, hN.M.K hF3⟩
  · simp only [zb_0, Decidable.not_not] at Hc10
    exact absurd (ixI (j := a) (n := nP) (by omega) (by omega)) Hc10
/-- what is carried over border b of one way -/
def cyI (b : Nat) (r a : Int64) (f : Nat → Nat) : Nat → Int64
  | 0 => a
  | s + 1 => cyI b r a f s + (if f s = b then r else 0)
def cyT (b : Nat) (rest : Nat → Int64) (ways : Nat → List Nat) : Nat → Int64
  | 0 => 0
  | p + 1 => cyI b (rest p) (cyT b rest ways p) (fun i => (ways p).getD i 0) (ways p).length
theorem cyT_congr {b : Nat} {rest rest' : Nat → Int64} {ways : Nat → List Nat} : ∀ n, (∀ q, q < n → rest q = rest' q) → cyT b rest ways n = cyT b rest' ways n
  | 0, _ => rfl
  | n + 1, h => by
    show cyI b (rest n) (cyT b rest ways n) _ _ = cyI b (rest' n) (cyT b rest' ways n) _ _
    rw [cyT_congr n (fun q hq => h q (by omega)), h n (by omega)]
theorem mRest.K {a b : zH} (x : FrK a b) (j : Nat) : mRest b j = mRest a j := by
  unfold mRest
  rw [x.2.1 10 (by decide) (by decide), x.2.1 11 (by decide) (by decide), x.2.1 22 (by decide) (by decide)]
theorem qX14_carried_n (l : Launch) (h : zH) (p : Int32) (nB : Nat) (hB : zI h 1 0 5 = nI nB) (hB2 : nB ≤ 16) (Hp : ¬ (0 ≤ p ∧ p < nI nB)) : Cx l 2 mX14_carried [Vq (some (1, 0)), Vi p] h (Rv (Vj (-1))) (zsI h 1 0 0 0) := by
  refine Ct.in 4 kX14_carried (plainFor_of_name rfl) (Nat.le_of_ble_eq_true rfl) ?_
  refine w_aload_n (zat TX14_carried 0 rfl) rfl ?_
  refine w_iconst (v := 0) (zat TX14_carried 1 rfl) (by decide) ?_
  refine w_putI (zat TX14_carried 2 rfl) gX14_carried_100 s1 (by decide) (by decide) rfl ⟨rfl, rfl⟩ ?_
  refine w_aload_n (zat TX14_carried 3 rfl) rfl ?_
  refine w_iload_n (zat TX14_carried 4 rfl) rfl ?_
  refine x_callv2 (qX14_isBorder l _ _ nB hB) (by decide) kX14_isBorder (rdy_V (zat TX14_carried 5 rfl) kX14_isBorder pX14_isBorder zw1220 zw1222 zw36 (zrc (by decide) (by decide) rfl)) (Nat.le_of_ble_eq_true rfl) rfl rfl ?_
  refine w_if_ne 17 (zat TX14_carried 6 rfl) (by decide) (fun Hc10 => ?_) (fun Hc10 => ?_)
  · simp only [zb_0, Decidable.not_not, ne_eq] at Hc10
    exact absurd Hc10 Hp
  · refine w_ldc2 (v := -1) (zat TX14_carried 7 rfl) zw1386 ?_
    refine w_lreturn (zat TX14_carried 8 rfl) rfl ?_
    exact ⟨rfl, rfl⟩
theorem lX14_carried_44 (l : Launch) (h : zH) (hWM : Wm h) (b q : Nat) (hb : b < 16) (hq : q < 10) (ks : List Nat) (hks : ks.length ≤ 9) (hkb : ∀ i, i < ks.length → ks.getD i 0 < 16) (hLw : Lw h 1 35 25 ks) (a : Int64) (Q : zO → zH → Prop) (K : ∀ x, Wp l mX14_carried 8 83 [some (Vq (some (1, 0))), some (Vi (nI b)), some (Vj (cyI b (mRest h q) a (fun i => ks.getD i 0) ks.length)), none, some (Vi (nI q)), x] [] h Q) : ∀ kk s : Nat, s + kk = ks.length → Wp l mX14_carried 8 44 [some (Vq (some (1, 0))), some (Vi (nI b)), some (Vj (cyI b (mRest h q) a (fun i => ks.getD i 0) s)), none, some (Vi (nI q)), some (Vi (nI s))] [] h Q := by
  intro kk
  induction kk with
  | zero =>
    intro s hs
    refine w_iload (zat TX14_carried 24 rfl) rfl ?_
    refine w_aload_n (zat TX14_carried 25 rfl) rfl ?_
    refine y_getI (v := nI ks.length) (zat TX14_carried 26 rfl) fX14_352 s1 (by decide) (by decide) rfl hLw.1 ?_
    refine w_icmp_ge 83 (zat TX14_carried 27 rfl) (by decide) (fun Hc50 => ?_) (fun Hc50 => ?_)
    · have e : s = ks.length := by omega
      subst e
      exact K _
    · exact absurd (nI_le (by omega) (by omega)) Hc50
  | succ kk ih =>
    intro s hs
    have hg := hLw.2 s _ (gD (by omega))
    have hb2 := hkb s (by omega)
    refine w_iload (zat TX14_carried 24 rfl) rfl ?_
    refine w_aload_n (zat TX14_carried 25 rfl) rfl ?_
    refine y_getI (v := nI ks.length) (zat TX14_carried 26 rfl) fX14_352 s1 (by decide) (by decide) rfl hLw.1 ?_
    refine w_icmp_ge 83 (zat TX14_carried 27 rfl) (by decide) (fun Hc50 => ?_) (fun Hc50 => ?_)
    · exact absurd Hc50 (nI_ge (by omega) (by omega))
    · refine w_lload_n (zat TX14_carried 28 rfl) rfl ?_
      refine w_aload_n (zat TX14_carried 29 rfl) rfl ?_
      refine w_getR (zat TX14_carried 30 rfl) fX14_72 s1 (by decide) (by decide) rfl (wmr hWM 14 rfl) ?_
      refine w_iload (zat TX14_carried 31 rfl) rfl ?_
      refine y_iaload _ _ (v := nI (ks.getD s 0)) (zat TX14_carried 32 rfl) s25 (by decide) (wmn hWM 13 rfl) (by decide) rfl (by omega) hg ?_
      refine w_iload_n (zat TX14_carried 33 rfl) rfl ?_
      skip
      refine w_icmp_ne 74 (zat TX14_carried 34 rfl) (by decide) (fun Hc62 => ?_) (fun Hc62 => ?_)
      · refine w_lconst (v := 0) (zat TX14_carried 39 rfl) (by decide) ?_
        refine w_ladd (zat TX14_carried 40 rfl) ?_
        have Hs : cyI b (mRest h q) a (fun i => ks.getD i 0) s + 0 = cyI b (mRest h q) a (fun i => ks.getD i 0) (s + 1) := by
          show _ = _ + _
          first
            | rw [if_pos (nIe (by omega) (by omega) Hc62)]
            | rw [if_neg (fun z => Hc62 (congrArg nI z))]
        rw [Hs]
        refine x_lstore_n (ls2 := [_, _, _, _, _, _]) (zat TX14_carried 41 rfl) (by decide) rfl ?_
        refine x_iinc (v := nI (s + 1)) (ls2 := [_, _, _, _, _, _]) (zat TX14_carried 42 rfl) rfl (nI_inc s) rfl ?_
        refine w_goto 44 (zat TX14_carried 43 rfl) (by decide) ?_
        exact ih (s + 1) (by omega)
      · refine w_aload_n (zat TX14_carried 35 rfl) rfl ?_
        refine w_iload (zat TX14_carried 36 rfl) rfl ?_
        refine x_callv2 (qX14_restOf l h hWM q (by omega)) (by decide) kX14_restOf (rdy_V (zat TX14_carried 37 rfl) kX14_restOf pX14_restOf zw1391 zw1393 zw57 (zrc (by decide) (by decide) rfl)) (Nat.le_of_ble_eq_true rfl) rfl rfl ?_
        refine w_goto 75 (zat TX14_carried 38 rfl) (by decide) ?_
        refine w_ladd (zat TX14_carried 40 rfl) ?_
        have Hs : cyI b (mRest h q) a (fun i => ks.getD i 0) s + mRest h q = cyI b (mRest h q) a (fun i => ks.getD i 0) (s + 1) := by
          show _ = _ + _
          first
            | rw [if_pos (nIe (by omega) (by omega) Hc62)]
            | rw [if_neg (fun z => Hc62 (congrArg nI z))]
        rw [Hs]
        refine x_lstore_n (ls2 := [_, _, _, _, _, _]) (zat TX14_carried 41 rfl) (by decide) rfl ?_
        refine x_iinc (v := nI (s + 1)) (ls2 := [_, _, _, _, _, _]) (zat TX14_carried 42 rfl) rfl (nI_inc s) rfl ?_
        refine w_goto 44 (zat TX14_carried 43 rfl) (by decide) ?_
        exact ih (s + 1) (by omega)
theorem lX14_carried_26 (l : Launch) (h hN0 : zH) (hWM2 : Wm hN0) (nP nB nE Y : Nat) (pg : Nat → List (Bool × List (Nat × Int32))) (on ot c : Nat → Nat) (hP2 : nP ≤ 10) (hB2 : nB ≤ 16) (hL : LB nP nB on ot c) (hP3 : zI hN0 1 0 4 = nI nP) (hBR2 : BR hN0 15 nP nB on ot c) (hT : TD hN0 nP (dW on ot c nB nP)) (hS : ∀ p, p < nP → zI hN0 24 0 p = nI (sr (prN h nE pg Y) (dW on ot c nB nP) p nP)) (b : Nat) (hb : b < 16) : ∀ kk s : Nat, s + kk = nP → ∀ h3, FrK hN0 h3 → ∀ x, Wp l mX14_carried 8 26 [some (Vq (some (1, 0))), some (Vi (nI b)), some (Vj (cyT b (mRest hN0) (fun p => wyL on ot c (prN h nE pg Y) nB nP p) s)), none, some (Vi (nI s)), x] [] h3 (fun o h' => o = Rv (Vj (cyT b (mRest hN0) (fun p => wyL on ot c (prN h nE pg Y) nB nP p) nP)) ∧ FrK hN0 h') := by
  intro kk
  induction kk with
  | zero =>
    intro s hs h3 hK x
    have hWM3 := Wm.same (congrArg Prod.snd hK.1) hWM2
    have hP4 : zI h3 1 0 4 = nI nP := by rw [hK.2.2 0 4 (by decide)]; exact hP3
    refine w_iload (zat TX14_carried 15 rfl) rfl ?_
    refine w_aload_n (zat TX14_carried 16 rfl) rfl ?_
    refine y_getI (v := nI nP) (zat TX14_carried 17 rfl) fX14_106 s1 (by decide) (by decide) rfl hP4 ?_
    refine w_icmp_ge 89 (zat TX14_carried 18 rfl) (by decide) (fun Hc32 => ?_) (fun Hc32 => ?_)
    · refine w_lload_n (zat TX14_carried 46 rfl) rfl ?_
      refine w_lreturn (zat TX14_carried 47 rfl) rfl ?_
      have e : s = nP := by omega
      subst e
      exact ⟨rfl, hK⟩
    · exact absurd (nI_le (by omega) (by omega)) Hc32
  | succ kk ih =>
    intro s hs h3 hK x
    have hs1 : s < nP := by omega
    have hWM3 := Wm.same (congrArg Prod.snd hK.1) hWM2
    have hP4 : zI h3 1 0 4 = nI nP := by rw [hK.2.2 0 4 (by decide)]; exact hP3
    have hS3 : ∀ p, p < nP → zI h3 24 0 p = nI (sr (prN h nE pg Y) (dW on ot c nB nP) p nP) := fun p hp => by
      rw [hK.2.1 24 (by decide) (by decide)]
      exact hS p hp
    have hwy := wyL_is (pr := prN h nE pg Y) hL hP2 hs1 (prN_eq h nE pg Y s).2
    refine w_iload (zat TX14_carried 15 rfl) rfl ?_
    refine w_aload_n (zat TX14_carried 16 rfl) rfl ?_
    refine y_getI (v := nI nP) (zat TX14_carried 17 rfl) fX14_106 s1 (by decide) (by decide) rfl hP4 ?_
    refine w_icmp_ge 89 (zat TX14_carried 18 rfl) (by decide) (fun Hc32 => ?_) (fun Hc32 => ?_)
    · exact absurd Hc32 (nI_ge (by omega) (by omega))
    · refine w_aload_n (zat TX14_carried 19 rfl) rfl ?_
      refine w_iload (zat TX14_carried 20 rfl) rfl ?_
      refine x_call2 (qX14_walks l h3 hWM3 nP nB hP2 hB2 on ot c (hBR2.K hK) (dW on ot c nB nP) (dW_le on ot c nB nP) (hT.K hK) s hs1 (sr (prN h nE pg Y) (dW on ot c nB nP) s nP) (sr_lt _ _ hs1 nP (by omega)) (hS3 s hs1) (wyL on ot c (prN h nE pg Y) nB nP s) (by have := hwy.1; omega) (by rw [show (fun x => dW on ot c nB nP x s) = dW on ot c nB nP s from funext (fun x => dW_sym on ot c nB nP x s)]; exact hwy.2)) (by decide) kX14_walks (rdy_V (zat TX14_carried 21 rfl) kX14_walks pX14_walks zw1411 zw1413 zw59 (zrc (by decide) (by decide) rfl)) (Nat.le_of_ble_eq_true rfl) rfl rfl (fun v h4 hq => ?_) (fun r h4 hq => by cases hq.1)
      obtain ⟨hq1, hF4, hLw⟩ := hq
      cases hq1
      have hWM4 := Wm.same (congrArg Prod.snd hF4.1) hWM3
      refine w_iconst (v := 0) (zat TX14_carried 22 rfl) (by decide) ?_
      refine x_istore (ls2 := [_, _, _, _, _, _]) (zat TX14_carried 23 rfl) (by decide) rfl ?_
      have hR : mRest h4 s = mRest hN0 s := (mRest.K hF4 s).trans (mRest.K hK s)
      rw [show (cyT b (mRest hN0) (fun p => wyL on ot c (prN h nE pg Y) nB nP p) s) = cyI b (mRest h4 s) (cyT b (mRest hN0) (fun p => wyL on ot c (prN h nE pg Y) nB nP p) s) (fun i => (wyL on ot c (prN h nE pg Y) nB nP s).getD i 0) 0 from rfl]
      refine lX14_carried_44 l h4 hWM4 b s hb (by omega) (wyL on ot c (prN h nE pg Y) nB nP s) hwy.1 (fun i hi => ?_) hLw _ _ (fun x => ?_) (wyL on ot c (prN h nE pg Y) nB nP s).length 0 (by omega)
      · have := Wy_lt _ _ hwy.2 _ (List.mem_of_getElem? (gD hi))
        omega
      · refine x_iinc (v := nI (s + 1)) (ls2 := [_, _, _, _, _, _]) (zat TX14_carried 44 rfl) rfl (nI_inc s) rfl ?_
        refine w_goto 26 (zat TX14_carried 45 rfl) (by decide) ?_
        rw [hR]
        exact ih (s + 1) (by omega) h4 (hK.tr hF4) _
theorem qX14_carried_s (l : Launch) (h : zH) (nP nB nE Y : Nat) (pg : Nat → List (Bool × List (Nat × Int32))) (on ot c mo nd : Nat → Nat) (hM : MkQ h nP nB nE Y pg on ot c mo nd) (hL : LB nP nB on ot c) (b : Nat) (hb : b < nB) : Ct l 8 mX14_carried [Vq (some (1, 0)), Vi (nI b)] h (fun o h' => ∃ hN0, MNow (zsI h 1 0 0 0) hN0 nP nB nE Y pg on ot c ∧ o = Rv (Vj (cyT b (mRest hN0) (fun p => wyL on ot c (prN h nE pg Y) nB nP p) nP)) ∧ FrM h h') := by
  obtain ⟨hWM, hP, hP2, hB, hB2, hYr, hY, hE, hE2, hE3, hMR, hBR, hmn⟩ := id hM
  refine Ct.in 4 kX14_carried (plainFor_of_name rfl) (Nat.le_of_ble_eq_true rfl) ?_
  refine w_aload_n (zat TX14_carried 0 rfl) rfl ?_
  refine w_iconst (v := 0) (zat TX14_carried 1 rfl) (by decide) ?_
  refine w_putI (zat TX14_carried 2 rfl) gX14_carried_100 s1 (by decide) (by decide) rfl ⟨rfl, rfl⟩ ?_
  refine w_aload_n (zat TX14_carried 3 rfl) rfl ?_
  refine w_iload_n (zat TX14_carried 4 rfl) rfl ?_
  refine x_callv2 (qX14_isBorder l _ _ nB hB) (by decide) kX14_isBorder (rdy_V (zat TX14_carried 5 rfl) kX14_isBorder pX14_isBorder zw1220 zw1222 zw36 (zrc (by decide) (by decide) rfl)) (Nat.le_of_ble_eq_true rfl) rfl rfl ?_
  refine w_if_ne 17 (zat TX14_carried 6 rfl) (by decide) (fun Hc10 => ?_) (fun Hc10 => ?_)
  · refine w_aload_n (zat TX14_carried 9 rfl) rfl ?_
    refine x_call1 (qX14_now l (zsI h 1 0 0 0) nP nB nE Y pg on ot c mo nd hM) (by decide) kX14_now (rdy_V (zat TX14_carried 10 rfl) kX14_now pX14_now zw1357 zw1359 zw52 (zrc (by decide) (by decide) rfl)) (Nat.le_of_ble_eq_true rfl) rfl rfl (fun v h2 hq => ?_) (fun r h2 hq => by cases hq.1)
    obtain ⟨hq1, hN⟩ := hq
    cases hq1
    obtain ⟨hF, hpd, hT, hS⟩ := id hN
    have hWM2 := Wm.same (congrArg Prod.snd hF.1) hWM
    have hBR2 : BR h2 15 nP nB on ot c := by
      unfold BR
      rw [hF.2 12 (by decide) (by decide) (by decide) (by decide) (by decide), hF.2 13 (by decide) (by decide) (by decide) (by decide) (by decide), hF.2 14 (by decide) (by decide) (by decide) (by decide) (by decide), hF.2 15 (by decide) (by decide) (by decide) (by decide) (by decide), hF.2 1 (by decide) (by decide) (by decide) (by decide) (by decide)]
      exact hBR
    refine w_lconst (v := 0) (zat TX14_carried 11 rfl) (by decide) ?_
    refine x_lstore_n (ls2 := [_, _, _, _, _, _]) (zat TX14_carried 12 rfl) (by decide) rfl ?_
    refine w_iconst (v := 0) (zat TX14_carried 13 rfl) (by decide) ?_
    refine x_istore (ls2 := [_, _, _, _, _, _]) (zat TX14_carried 14 rfl) (by decide) rfl ?_
    refine (lX14_carried_26 l h h2 hWM2 nP nB nE Y pg on ot c hP2 hB2 hL ?_ hBR2 hT hS b (by omega) nP 0 (by omega) h2 (FrK.rf h2) _).imp (fun o h' hq => ⟨h2, hN, hq.1, hN.M.K hq.2⟩)
    rw [hF.2 1 (by decide) (by decide) (by decide) (by decide) (by decide)]
    exact hP
  · simp only [zb_0, Decidable.not_not] at Hc10
    exact absurd (ixI (j := b) (n := nB) (by omega) (by omega)) Hc10
