-- sums of the model's parser, by program (wip/gen/p84.py)
def enB (B : Nat → Nat) (n k : Nat) : Nat := (stT B n k).2.2
theorem lx_le {B : Nat → Nat} {n a : Nat} : (lx B n a).2.2 ≤ n := by
  unfold lx
  by_cases h : n ≤ lxS B n a
  · rw [if_pos h]; exact Nat.le_refl n
  · rw [if_neg h]
    exact (lxE_bd (by omega)).2
theorem enB_le (B : Nat → Nat) (n k : Nat) : enB B n k ≤ n := by
  cases k with
  | zero => exact lx_le
  | succ k => exact lx_le
/-- the model holds token i -/
def Mi (h : zH) (B : Nat → Nat) (n i : Nat) : Prop := MS h (tkB B n i) ∧ (tkB B n i ≠ 22 → zI h 1 0 21 = nI (enB B n i)) ∧ zI h 1 0 23 = nI (plB B n i)
theorem Nx.mi {h : zH} {B : Nat → Nat} {n i : Nat} (x : Nx h B n (stT B n i)) : Mi h B n i := by
  obtain ⟨⟨u, u1, u2, u3, u4⟩, u5⟩ := x
  have e : u = tkB B n i := t32_inj u1 (tkB_is B n i).1 (u2.symm.trans (tkB_is B n i).2)
  exact ⟨by rw [← e]; exact u3, by rw [← e]; exact u4, u5⟩
def FrZ (e : Nat) (h h' : zH) : Prop := h'.2.2 = h.2.2 ∧ (∀ k, k ≠ 1 → k ≠ 17 → k ≠ 18 → k ≠ 39 → k ≠ 40 → zI h' k = zI h k) ∧ (∀ i j, (j < 21 ∨ 27 < j) → zI h' 1 i j = zI h 1 i j) ∧ (∀ i j, ¬ (i = e ∧ j = 3) → zI h' 17 i j = zI h 17 i j) ∧ (∀ i j, i ≠ e → zI h' 39 i j = zI h 39 i j ∧ zI h' 40 i j = zI h 40 i j) ∧ ∀ k i j, ¬ (k = 1 ∧ i = 0 ∧ j = 28) → zL h' k i j = zL h k i j
theorem FrZ.rf (e : Nat) (h : zH) : FrZ e h h := ⟨rfl, fun _ _ _ _ _ _ => rfl, fun _ _ _ => rfl, fun _ _ _ => rfl, fun _ _ _ => ⟨rfl, rfl⟩, fun _ _ _ _ => rfl⟩
theorem FrZ.tr {e : Nat} {a b c : zH} (x : FrZ e a b) (y : FrZ e b c) : FrZ e a c := ⟨y.1.trans x.1, fun k h1 h2 h3 h4 h5 => (y.2.1 k h1 h2 h3 h4 h5).trans (x.2.1 k h1 h2 h3 h4 h5), fun i j h => (y.2.2.1 i j h).trans (x.2.2.1 i j h), fun i j h => (y.2.2.2.1 i j h).trans (x.2.2.2.1 i j h), fun i j h => ⟨(y.2.2.2.2.1 i j h).1.trans (x.2.2.2.2.1 i j h).1, (y.2.2.2.2.1 i j h).2.trans (x.2.2.2.2.1 i j h).2⟩, fun k i j h => (y.2.2.2.2.2 k i j h).trans (x.2.2.2.2.2 k i j h)⟩
theorem FrD.Z {a b : zH} (x : FrD a b) (e : Nat) : FrZ e a b := ⟨x.1, fun k h1 _ _ _ _ => x.2.1 k h1, fun i j h => x.2.2.1 i j (by omega), fun i j _ => by rw [x.2.1 17 (by decide)], fun i j _ => ⟨by rw [x.2.1 39 (by decide)], by rw [x.2.1 40 (by decide)]⟩, x.2.2.2⟩
theorem FrZ.w1 {e : Nat} {a b : zH} (x : FrZ e a b) (j : Nat) (hj : 21 ≤ j ∧ j ≤ 27) (v : Int32) : FrZ e a (zsI b 1 0 j v) := ⟨x.1, fun k h1 h2 h3 h4 h5 => by rw [← x.2.1 k h1 h2 h3 h4 h5]; exact zI_ss b 1 0 j v h1, fun i j' h => by rw [← x.2.2.1 i j' h]; exact zI_ot2 b 1 0 j v (by omega) i, fun i j' h => by rw [← x.2.2.2.1 i j' h]; exact zI_st b 1 0 j v (by decide) i j', fun i j' h => ⟨by rw [← (x.2.2.2.2.1 i j' h).1]; exact zI_st b 1 0 j v (by decide) i j', by rw [← (x.2.2.2.2.1 i j' h).2]; exact zI_st b 1 0 j v (by decide) i j'⟩, x.2.2.2.2.2⟩
theorem FrZ.w18 {e : Nat} {a b : zH} (x : FrZ e a b) (j : Nat) (v : Int32) : FrZ e a (zsI b 18 0 j v) := ⟨x.1, fun k h1 h2 h3 h4 h5 => by rw [← x.2.1 k h1 h2 h3 h4 h5]; exact zI_ss b 18 0 j v h3, fun i j' h => by rw [← x.2.2.1 i j' h]; exact zI_st b 18 0 j v (by decide) i j', fun i j' h => by rw [← x.2.2.2.1 i j' h]; exact zI_st b 18 0 j v (by decide) i j', fun i j' h => ⟨by rw [← (x.2.2.2.2.1 i j' h).1]; exact zI_st b 18 0 j v (by decide) i j', by rw [← (x.2.2.2.2.1 i j' h).2]; exact zI_st b 18 0 j v (by decide) i j'⟩, x.2.2.2.2.2⟩
def mPut (h : zH) (e m : Nat) (s v : Int32) : zH := zsI (zsI (zsI h 39 e m s) 40 e m v) 17 e 3 (nI (m + 1))
theorem FrZ.put {e : Nat} {a b : zH} (x : FrZ e a b) (m : Nat) (s v : Int32) : FrZ e a (mPut b e m s v) := by
  refine ⟨x.1, fun k h1 h2 h3 h4 h5 => ?_, fun i j h => ?_, fun i j h => ?_, fun i j h => ⟨?_, ?_⟩, x.2.2.2.2.2⟩
  · rw [← x.2.1 k h1 h2 h3 h4 h5]
    unfold mPut
    rw [zI_ss _ 17 e 3 _ h2, zI_ss _ 40 e m _ h5, zI_ss _ 39 e m _ h4]
  · rw [← x.2.2.1 i j h]
    exact (zI_st _ 17 e 3 _ (by decide) i j).trans ((zI_st _ 40 e m _ (by decide) i j).trans (zI_st _ 39 e m _ (by decide) i j))
  · rw [← x.2.2.2.1 i j h]
    refine Eq.trans ?_ ((zI_st (zsI b 39 e m s) 40 e m v (by decide) i j).trans (zI_st b 39 e m s (by decide) i j))
    exact if_neg (fun z => h z.2)
  · rw [← (x.2.2.2.2.1 i j h).1]
    refine ((zI_st (zsI (zsI b 39 e m s) 40 e m v) 17 e 3 (nI (m + 1)) (by decide) i j).trans (zI_st (zsI b 39 e m s) 40 e m v (by decide) i j)).trans ?_
    exact if_neg (fun z => h z.2.1)
  · rw [← (x.2.2.2.2.1 i j h).2]
    refine (zI_st (zsI (zsI b 39 e m s) 40 e m v) 17 e 3 (nI (m + 1)) (by decide) i j).trans ?_
    refine Eq.trans ?_ (zI_st b 39 e m s (by decide) i j)
    exact if_neg (fun z => h z.2.1)
/-- the items of the spare edict -/
def Its (h : zH) (e : Nat) (its : List (Nat × Int32)) : Prop := zI h 17 e 3 = nI its.length ∧ ∀ (k : Nat) (it : Nat × Int32), its[k]? = some it → zI h 39 e k = nI it.1 ∧ zI h 40 e k = it.2
theorem Its.put {h : zH} {e : Nat} {its : List (Nat × Int32)} (x : Its h e its) (a : Nat) (v : Int32) : Its (mPut h e its.length (nI a) v) e (its ++ [(a, v)]) := by
  refine ⟨by rw [List.length_append]; exact zI_same _ _ _ _ _, fun k it hk => ?_⟩
  have e39 : zI (mPut h e its.length (nI a) v) 39 e k = zI (zsI h 39 e its.length (nI a)) 39 e k := (zI_st _ 17 e 3 _ (by decide) e k).trans (zI_st _ 40 e _ _ (by decide) e k)
  have e40 : zI (mPut h e its.length (nI a) v) 40 e k = zI (zsI (zsI h 39 e its.length (nI a)) 40 e its.length v) 40 e k := zI_st _ 17 e 3 _ (by decide) e k
  rw [e39, e40]
  rcases Nat.lt_trichotomy k its.length with q | q | q
  · rw [List.getElem?_append_left q] at hk
    rw [zI_oth _ _ _ _ _ (by omega), zI_oth _ _ _ _ _ (by omega), zI_st _ 39 e _ _ (by decide) e k]
    exact x.2 k it hk
  · subst q
    rw [List.getElem?_append_right (Nat.le_refl _), Nat.sub_self] at hk
    cases hk
    exact ⟨zI_same _ _ _ _ _, zI_same _ _ _ _ _⟩
  · rw [List.getElem?_eq_none (by rw [List.length_append]; show its.length + 1 ≤ k; omega)] at hk
    cases hk
/-- the model's parser at token i: s signs, d brackets open, the items so far -/
def Pm (e : Nat) (h0 h : zH) (B : Nat → Nat) (n i s d : Nat) (its : List (Nat × Int32)) : Prop := FrZ e h0 h ∧ Mi h B n i ∧ zI h 1 0 27 = nI s ∧ zI h 1 0 26 = nI d ∧ Its h e its
def Mf (e : Nat) (h0 h : zH) (B : Nat → Nat) (n k j : Nat) : Prop := FrZ e h0 h ∧ zI h 18 0 6 = nI k ∧ zI h 18 0 7 = nI (plB B n j)
def MPo (e : Nat) (h0 : zH) (B : Nat → Nat) (n d : Nat) (its : List (Nat × Int32)) (r : PR) (o : zO) (h' : zH) : Prop := match r with
  | .inl q => o = Th (18, 0) ∧ Mf e h0 h' B n q.1 q.2
  | .inr r => o = R0 ∧ Pm e h0 h' B n r.2.1 r.2.2 d (its ++ r.1)
theorem MS.mv {h h' : zH} {u : Nat} (x : MS h u) (e1 : zI h' 1 0 22 = zI h 1 0 22) (e2 : zI h' 1 0 24 = zI h 1 0 24) (e3 : zI h' 1 0 25 = zI h 1 0 25) (e4 : zL h' 1 0 28 = zL h 1 0 28) : MS h' u := by
  unfold MS
  rw [e1, e2, e3, e4]
  exact x
theorem Pm.st {e : Nat} {h0 h : zH} {B : Nat → Nat} {n i s d : Nat} {its : List (Nat × Int32)} (x : Pm e h0 h B n i s d its) (k : Nat) : Mf e h0 (mSt h (nI k)) B n k i := by
  refine ⟨(x.1.w18 6 _).w18 7 _, (zI_oth _ _ _ _ _ (by decide)).trans (zI_same _ _ _ _ _), (zI_same _ _ _ _ _).trans x.2.1.2.2⟩
theorem Pm.put {e : Nat} {h0 h : zH} {B : Nat → Nat} {n i s d : Nat} {its : List (Nat × Int32)} (x : Pm e h0 h B n i s d its) (a : Nat) (v : Int32) : Pm e h0 (mPut h e its.length (nI a) v) B n i s d (its ++ [(a, v)]) := by
  obtain ⟨x1, ⟨m1, m2, m3⟩, x3, x4, x5⟩ := x
  have hz : ∀ j, zI (mPut h e its.length (nI a) v) 1 0 j = zI h 1 0 j := fun j => (zI_st _ 17 e 3 _ (by decide) 0 j).trans ((zI_st _ 40 e _ _ (by decide) 0 j).trans (zI_st _ 39 e _ _ (by decide) 0 j))
  exact ⟨x1.put _ _ _, ⟨m1.mv (hz 22) (hz 24) (hz 25) rfl, fun z => (hz 21).trans (m2 z), (hz 23).trans m3⟩, (hz 27).trans x3, (hz 26).trans x4, x5.put a v⟩
theorem Pm.w26 {e : Nat} {h0 h : zH} {B : Nat → Nat} {n i s d : Nat} {its : List (Nat × Int32)} (x : Pm e h0 h B n i s d its) (d2 : Nat) : Pm e h0 (zsI h 1 0 26 (nI d2)) B n i s d2 its := by
  obtain ⟨x1, ⟨m1, m2, m3⟩, x3, x4, x5⟩ := x
  have hz : ∀ j, j ≠ 26 → zI (zsI h 1 0 26 (nI d2)) 1 0 j = zI h 1 0 j := fun j hj => zI_oth _ _ _ _ _ hj
  exact ⟨x1.w1 26 (by omega) _, ⟨m1.mv (hz 22 (by decide)) (hz 24 (by decide)) (hz 25 (by decide)) rfl, fun z => (hz 21 (by decide)).trans (m2 z), (hz 23 (by decide)).trans m3⟩, (hz 27 (by decide)).trans x3, zI_same _ _ _ _ _, (zI_st _ 1 0 26 _ (by decide) e 3).trans x5.1, fun k it hk => ⟨(zI_st _ 1 0 26 _ (by decide) e k).trans (x5.2 k it hk).1, (zI_st _ 1 0 26 _ (by decide) e k).trans (x5.2 k it hk).2⟩⟩
theorem Pm.w27 {e : Nat} {h0 h : zH} {B : Nat → Nat} {n i s d : Nat} {its : List (Nat × Int32)} (x : Pm e h0 h B n i s d its) (s2 : Nat) : Pm e h0 (zsI h 1 0 27 (nI s2)) B n i s2 d its := by
  obtain ⟨x1, ⟨m1, m2, m3⟩, x3, x4, x5⟩ := x
  have hz : ∀ j, j ≠ 27 → zI (zsI h 1 0 27 (nI s2)) 1 0 j = zI h 1 0 j := fun j hj => zI_oth _ _ _ _ _ hj
  exact ⟨x1.w1 27 (by omega) _, ⟨m1.mv (hz 22 (by decide)) (hz 24 (by decide)) (hz 25 (by decide)) rfl, fun z => (hz 21 (by decide)).trans (m2 z), (hz 23 (by decide)).trans m3⟩, zI_same _ _ _ _ _, (hz 26 (by decide)).trans x4, (zI_st _ 1 0 27 _ (by decide) e 3).trans x5.1, fun k it hk => ⟨(zI_st _ 1 0 27 _ (by decide) e k).trans (x5.2 k it hk).1, (zI_st _ 1 0 27 _ (by decide) e k).trans (x5.2 k it hk).2⟩⟩
theorem FrD.its {a b : zH} (x : FrD a b) {e : Nat} {its : List (Nat × Int32)} (y : Its a e its) : Its b e its := by
  unfold Its
  rw [x.2.1 17 (by decide), x.2.1 39 (by decide), x.2.1 40 (by decide)]
  exact y
theorem qX14_next_p (l : Launch) (h0 : zH) (hWM0 : Wm h0) (e : Nat) (hC : zC h0 17 = e + 1) (n : Nat) (B : Nat → Nat) (hX0 : Tx h0 19 n B) (hn0 : zI h0 1 0 20 = nI n) (i s d : Nat) (its : List (Nat × Int32)) (h : zH) (hP : Pm e h0 h B n i s d its) (hu : (tkB B n) i ≠ 22) : Ct l 2 mX14_next [Vq (some (1, 0))] h (fun o h' => o = R0 ∧ Pm e h0 h' B n (i + 1) s d its) := by
  have hWM := Wm.same hP.1.1 hWM0
  have hX : Tx h 19 n B := by
    unfold Tx
    rw [hP.1.2.1 19 (by decide) (by decide) (by decide) (by decide) (by decide)]
    exact hX0
  have hn : zI h 1 0 20 = nI n := by rw [hP.1.2.2.1 0 20 (by omega)]; exact hn0
  refine (qX14_next l h hWM n B hX hn (enB B n i) (enB_le B n i) (hP.2.1.2.1 hu)).mono (fun o h' hq => ?_)
  obtain ⟨q1, q2, q3⟩ := hq
  refine ⟨q1, hP.1.tr (q2.Z e), Nx.mi (i := i + 1) q3, ?_, ?_, q2.its hP.2.2.2.2⟩
  · rw [q2.2.2.1 0 27 (by omega)]; exact hP.2.2.1
  · rw [q2.2.2.1 0 26 (by omega)]; exact hP.2.2.2.1
theorem qX12_put (l : Launch) (h : zH) (hWM : Wm h) (e : Nat) (he : e < zC h 17) (m : Nat) (hm : zI h 17 e 3 = nI m) (hm2 : m < 320) (s v : Int32) : Cx l 1 mX12_put [Vq (some (17, e)), Vi s, Vi v] h R0 (mPut h e m s v) := by
  obtain ⟨⟨w4, w5, w6, w7, w8, w9⟩, n35, n36, n37, n38, n39, n40⟩ := hWM.2.2.2.2 e he
  refine Ct.in 0 kX12_put (plainFor_of_name rfl) (Nat.le_of_ble_eq_true rfl) ?_
  refine w_aload_n (zat TX12_put 0 rfl) rfl ?_
  refine w_getR (zat TX12_put 1 rfl) fX12_25 s17 (by decide) (by decide) rfl w8 ?_
  refine w_aload_n (zat TX12_put 2 rfl) rfl ?_
  refine y_getI (v := nI m) (zat TX12_put 3 rfl) fX12_31 s17 (by decide) (by decide) rfl hm ?_
  refine w_iload_n (zat TX12_put 4 rfl) rfl ?_
  refine x_iastore _ _ (zat TX12_put 5 rfl) s39 (by decide) n39 (by decide) rfl (by omega) ?_
  refine w_aload_n (zat TX12_put 6 rfl) rfl ?_
  refine w_getR (zat TX12_put 7 rfl) fX12_28 s17 (by decide) (by decide) rfl w9 ?_
  refine w_aload_n (zat TX12_put 8 rfl) rfl ?_
  refine y_getI (v := nI m) (zat TX12_put 9 rfl) fX12_31 s17 (by decide) (by decide) rfl ((zI_st _ 39 e _ _ (by decide) e 3).trans hm) ?_
  refine w_iload_n (zat TX12_put 10 rfl) rfl ?_
  refine x_iastore _ _ (zat TX12_put 11 rfl) s40 (by decide) n40 (by decide) rfl (by omega) ?_
  refine w_aload_n (zat TX12_put 12 rfl) rfl ?_
  refine w_dup (zat TX12_put 13 rfl) rfl ?_
  refine y_getI (v := nI m) (zat TX12_put 14 rfl) fX12_31 s17 (by decide) (by decide) rfl ((zI_st _ 40 e _ _ (by decide) e 3).trans ((zI_st _ 39 e _ _ (by decide) e 3).trans hm)) ?_
  refine w_iconst (v := 1) (zat TX12_put 15 rfl) (by decide) ?_
  refine w_iadd (zat TX12_put 16 rfl) ?_
  rw [nI_1]
  refine w_putI (zat TX12_put 17 rfl) gX12_put_31 s17 (by decide) (by decide) rfl ⟨rfl, rfl⟩ ?_
  refine w_return (zat TX12_put 18 rfl) rfl ?_
  exact ⟨rfl, rfl⟩
theorem qX14_sign_s (l : Launch) (h0 : zH) (hWM0 : Wm h0) (e : Nat) (hC : zC h0 17 = e + 1) (n : Nat) (B : Nat → Nat) (hX0 : Tx h0 19 n B) (hn0 : zI h0 1 0 20 = nI n) (i s d : Nat) (its : List (Nat × Int32)) (h : zH) (hP : Pm e h0 h B n i s d its) (hu : (tkB B n) i ≠ 22) (hs : s < 60) : Ct l 3 mX14_sign [Vq (some (1, 0))] h (fun o h' => o = R0 ∧ Pm e h0 h' B n (i + 1) (s + 1) d its) := by
  refine Ct.in 0 kX14_sign (plainFor_of_name rfl) (Nat.le_of_ble_eq_true rfl) ?_
  refine w_aload_n (zat TX14_sign 0 rfl) rfl ?_
  refine y_getI (v := nI s) (zat TX14_sign 1 rfl) fX14_219 s1 (by decide) (by decide) rfl hP.2.2.1 ?_
  refine w_bipush (v := 60) (zat TX14_sign 2 rfl) (by decide) ?_
  refine w_icmp_ne 15 (zat TX14_sign 3 rfl) (by decide) (fun Hc6 => ?_) (fun Hc6 => ?_)
  · refine w_aload_n (zat TX14_sign 8 rfl) rfl ?_
    refine w_dup (zat TX14_sign 9 rfl) rfl ?_
    refine y_getI (v := nI s) (zat TX14_sign 10 rfl) fX14_219 s1 (by decide) (by decide) rfl hP.2.2.1 ?_
    refine w_iconst (v := 1) (zat TX14_sign 11 rfl) (by decide) ?_
    refine w_iadd (zat TX14_sign 12 rfl) ?_
    rw [nI_1]
    refine w_putI (zat TX14_sign 13 rfl) gX14_sign_219 s1 (by decide) (by decide) rfl ⟨rfl, rfl⟩ ?_
    refine w_aload_n (zat TX14_sign 14 rfl) rfl ?_
    refine x_call1 (qX14_next_p l h0 hWM0 e hC n B hX0 hn0 i (s + 1) d its _ (hP.w27 (s + 1)) hu) (by decide) kX14_next (rdy_V (zat TX14_sign 15 rfl) kX14_next pX14_next zw1240 zw1242 zw38 (zrc (by decide) (by decide) rfl)) (Nat.le_of_ble_eq_true rfl) rfl rfl (fun v h2 hq => ?_) (fun r h2 hq => by cases hq.1)
    obtain ⟨hq1, hq2⟩ := hq
    cases hq1
    refine w_return (zat TX14_sign 16 rfl) rfl ?_
    exact ⟨rfl, hq2⟩
  · exact absurd (nIe (b := 60) (by omega) (by omega) Hc6) (by omega)
theorem qX14_sign_n (l : Launch) (h0 : zH) (hWM0 : Wm h0) (e : Nat) (hC : zC h0 17 = e + 1) (n : Nat) (B : Nat → Nat) (hX0 : Tx h0 19 n B) (hn0 : zI h0 1 0 20 = nI n) (i s d : Nat) (its : List (Nat × Int32)) (h : zH) (hP : Pm e h0 h B n i s d its) (hs : s = 60) : Ct l 3 mX14_sign [Vq (some (1, 0))] h (fun o h' => o = Th (18, 0) ∧ Mf e h0 h' B n 3 i) := by
  have hWM := Wm.same hP.1.1 hWM0
  have hsp : zR h 1 0 16 = some (17, e) := by
    have h1 := hWM.2.2.1.2.1
    rw [show zC h 17 = e + 1 by unfold zC; rw [hP.1.1]; exact hC] at h1
    exact h1
  refine Ct.in 0 kX14_sign (plainFor_of_name rfl) (Nat.le_of_ble_eq_true rfl) ?_
  refine w_aload_n (zat TX14_sign 0 rfl) rfl ?_
  refine y_getI (v := nI s) (zat TX14_sign 1 rfl) fX14_219 s1 (by decide) (by decide) rfl hP.2.2.1 ?_
  refine w_bipush (v := 60) (zat TX14_sign 2 rfl) (by decide) ?_
  refine w_icmp_ne 15 (zat TX14_sign 3 rfl) (by decide) (fun Hc6 => ?_) (fun Hc6 => ?_)
  · exact absurd (by rw [hs]; rfl) Hc6
  · refine w_aload_n (zat TX14_sign 4 rfl) rfl ?_
    refine w_iconst (v := 3) (zat TX14_sign 5 rfl) (by decide) ?_
    refine x_callv2 (qX14_stop l h hWM 3) (by decide) kX14_stop (rdy_V (zat TX14_sign 6 rfl) kX14_stop pX14_stop zw1266 zw1268 zw41 (zrc (by decide) (by decide) rfl)) (Nat.le_of_ble_eq_true rfl) rfl rfl ?_
    refine w_athrow (zat TX14_sign 7 rfl) (zct_out rfl) ?_
    exact ⟨rfl, hP.st 3⟩
theorem qX14_nameHere_s (l : Launch) (h : zH) (hWM : Wm h) (u : Nat) (hS : MS h u) (hu : 6 ≤ u ∧ u ≤ 9) : Cx l 7 mX14_nameHere [Vq (some (1, 0))] h (Rv (Vi (nI (u - 6)))) h := by
  refine Ct.in 1 kX14_nameHere (plainFor_of_name rfl) (Nat.le_of_ble_eq_true rfl) ?_
  refine w_aload_n (zat TX14_nameHere_0 0 rfl) rfl ?_
  refine w_getI (zat TX14_nameHere_0 1 rfl) fX14_166 s1 (by decide) (by decide) rfl ?_
  refine w_iconst (v := 2) (zat TX14_nameHere_0 2 rfl) (by decide) ?_
  refine w_icmp_ne 53 (zat TX14_nameHere_0 3 rfl) (by decide) (fun Hc5 => ?_) (fun Hc5 => ?_)
  · rw [hS.srt.2.1] at Hc5
    exact absurd hu (by omega)
  · skip
    refine w_aload_n (zat TX14_nameHere_0 4 rfl) rfl ?_
    refine w_ldcS (tx := "price") 0 (zat TX14_nameHere_0 5 rfl) (by decide +kernel) ?_
    refine x_callv2 (qX14_isWord l h u hS 0 (by decide)) (by decide) kX14_isWord (rdy_V (zat TX14_nameHere_0 6 rfl) kX14_isWord pX14_isWord zw1256 zw1258 zw40 (zrc (by decide) (by decide) rfl)) (Nat.le_of_ble_eq_true rfl) rfl rfl ?_
    refine w_if_ne 53 (zat TX14_nameHere_0 7 rfl) (by decide) (fun Hc14 => ?_) (fun Hc14 => ?_)
    · rw [zb_0, Decidable.not_not] at Hc14
      omega
    · skip
      refine w_aload_n (zat TX14_nameHere_0 8 rfl) rfl ?_
      refine w_ldcS (tx := "duty") 1 (zat TX14_nameHere_0 9 rfl) (by decide +kernel) ?_
      refine x_callv2 (qX14_isWord l h u hS 1 (by decide)) (by decide) kX14_isWord (rdy_V (zat TX14_nameHere_0 10 rfl) kX14_isWord pX14_isWord zw1256 zw1258 zw40 (zrc (by decide) (by decide) rfl)) (Nat.le_of_ble_eq_true rfl) rfl rfl ?_
      refine w_if_ne 53 (zat TX14_nameHere_0 11 rfl) (by decide) (fun Hc23 => ?_) (fun Hc23 => ?_)
      · rw [zb_0, Decidable.not_not] at Hc23
        omega
      · skip
        refine w_aload_n (zat TX14_nameHere_0 12 rfl) rfl ?_
        refine w_ldcS (tx := "when") 2 (zat TX14_nameHere_0 13 rfl) (by decide +kernel) ?_
        refine x_callv2 (qX14_isWord l h u hS 2 (by decide)) (by decide) kX14_isWord (rdy_V (zat TX14_nameHere_0 14 rfl) kX14_isWord pX14_isWord zw1256 zw1258 zw40 (zrc (by decide) (by decide) rfl)) (Nat.le_of_ble_eq_true rfl) rfl rfl ?_
        refine w_if_ne 53 (zat TX14_nameHere_0 15 rfl) (by decide) (fun Hc32 => ?_) (fun Hc32 => ?_)
        · rw [zb_0, Decidable.not_not] at Hc32
          omega
        · skip
          refine w_aload_n (zat TX14_nameHere_0 16 rfl) rfl ?_
          refine w_ldcS (tx := "and") 3 (zat TX14_nameHere_0 17 rfl) (by decide +kernel) ?_
          refine x_callv2 (qX14_isWord l h u hS 3 (by decide)) (by decide) kX14_isWord (rdy_V (zat TX14_nameHere_0 18 rfl) kX14_isWord pX14_isWord zw1256 zw1258 zw40 (zrc (by decide) (by decide) rfl)) (Nat.le_of_ble_eq_true rfl) rfl rfl ?_
          refine w_if_ne 53 (zat TX14_nameHere_0 19 rfl) (by decide) (fun Hc41 => ?_) (fun Hc41 => ?_)
          · rw [zb_0, Decidable.not_not] at Hc41
            omega
          · skip
            refine w_aload_n (zat TX14_nameHere_0 20 rfl) rfl ?_
            refine w_ldcS (tx := "is") 4 (zat TX14_nameHere_0 21 rfl) (by decide +kernel) ?_
            refine x_callv2 (qX14_isWord l h u hS 4 (by decide)) (by decide) kX14_isWord (rdy_V (zat TX14_nameHere_0 22 rfl) kX14_isWord pX14_isWord zw1256 zw1258 zw40 (zrc (by decide) (by decide) rfl)) (Nat.le_of_ble_eq_true rfl) rfl rfl ?_
            refine w_if_eq 59 (zat TX14_nameHere_0 23 rfl) (by decide) (fun Hc50 => ?_) (fun Hc50 => ?_)
            · refine w_aload_n (zat TX14_nameHere_0 28 rfl) rfl ?_
              refine w_ldcS (tx := "year") 5 (zat TX14_nameHere_0 29 rfl) (by decide +kernel) ?_
              refine x_callv2 (qX14_isWord l h u hS 5 (by decide)) (by decide) kX14_isWord (rdy_V (zat TX14_nameHere_0 30 rfl) kX14_isWord pX14_isWord zw1256 zw1258 zw40 (zrc (by decide) (by decide) rfl)) (Nat.le_of_ble_eq_true rfl) rfl rfl ?_
              refine w_if_eq 72 (zat TX14_nameHere_0 31 rfl) (by decide) (fun Hc65 => ?_) (fun Hc65 => ?_)
              · rw [zb_0] at Hc65
                refine w_aload_n (zat TX14_nameHere_0 34 rfl) rfl ?_
                refine w_ldcS (tx := "mouths") 6 (zat TX14_nameHere_0 35 rfl) (by decide +kernel) ?_
                refine x_callv2 (qX14_isWord l h u hS 6 (by decide)) (by decide) kX14_isWord (rdy_V (zat TX14_nameHere_0 36 rfl) kX14_isWord pX14_isWord zw1256 zw1258 zw40 (zrc (by decide) (by decide) rfl)) (Nat.le_of_ble_eq_true rfl) rfl rfl ?_
                refine w_if_eq 85 (zat TX14_nameHere_0 37 rfl) (by decide) (fun Hc78 => ?_) (fun Hc78 => ?_)
                · rw [zb_0] at Hc78
                  refine w_aload_n (zat TX14_nameHere_0 40 rfl) rfl ?_
                  refine w_ldcS (tx := "need") 7 (zat TX14_nameHere_0 41 rfl) (by decide +kernel) ?_
                  refine x_callv2 (qX14_isWord l h u hS 7 (by decide)) (by decide) kX14_isWord (rdy_V (zat TX14_nameHere_0 42 rfl) kX14_isWord pX14_isWord zw1256 zw1258 zw40 (zrc (by decide) (by decide) rfl)) (Nat.le_of_ble_eq_true rfl) rfl rfl ?_
                  refine w_if_eq 98 (zat TX14_nameHere_0 43 rfl) (by decide) (fun Hc91 => ?_) (fun Hc91 => ?_)
                  · rw [zb_0] at Hc91
                    refine w_aload_n (zat TX14_nameHere_0 46 rfl) rfl ?_
                    refine w_ldcS (tx := "old") 8 (zat TX14_nameHere_0 47 rfl) (by decide +kernel) ?_
                    refine x_callv2 (qX14_isWord l h u hS 8 (by decide)) (by decide) kX14_isWord (rdy_V (zat TX14_nameHere_0 48 rfl) kX14_isWord pX14_isWord zw1256 zw1258 zw40 (zrc (by decide) (by decide) rfl)) (Nat.le_of_ble_eq_true rfl) rfl rfl ?_
                    refine w_if_eq 111 (zat TX14_nameHere_0 49 rfl) (by decide) (fun Hc104 => ?_) (fun Hc104 => ?_)
                    · rw [zb_0] at Hc104
                      omega
                    · rw [zb_0, Decidable.not_not] at Hc104
                      refine w_iconst (v := 3) (zat TX14_nameHere_0 50 rfl) (by decide) ?_
                      refine w_goto 112 (zat TX14_nameHere_0 51 rfl) (by decide) ?_
                      refine x_istore_n (ls2 := [_, _]) (zat TX14_nameHere_0 53 rfl) (by decide) rfl ?_
                      refine w_iload_n (zat TX14_nameHere_0 54 rfl) rfl ?_
                      refine w_iconst (v := -1) (zat TX14_nameHere_0 55 rfl) (by decide) ?_
                      refine w_icmp_ne 124 (zat TX14_nameHere_0 56 rfl) (by decide) (fun Hc115 => ?_) (fun Hc115 => ?_)
                      · refine w_iload_n (zat TX14_nameHere_1 1 rfl) rfl ?_
                        refine w_ireturn (zat TX14_nameHere_1 2 rfl) rfl rfl ?_
                        have e1 : u = 9 := by omega
                        subst e1
                        exact ⟨rfl, rfl⟩
                      · exact absurd Hc115 (by decide)
                  · rw [zb_0, Decidable.not_not] at Hc91
                    refine w_iconst (v := 2) (zat TX14_nameHere_0 44 rfl) (by decide) ?_
                    refine w_goto 112 (zat TX14_nameHere_0 45 rfl) (by decide) ?_
                    refine x_istore_n (ls2 := [_, _]) (zat TX14_nameHere_0 53 rfl) (by decide) rfl ?_
                    refine w_iload_n (zat TX14_nameHere_0 54 rfl) rfl ?_
                    refine w_iconst (v := -1) (zat TX14_nameHere_0 55 rfl) (by decide) ?_
                    refine w_icmp_ne 124 (zat TX14_nameHere_0 56 rfl) (by decide) (fun Hc115 => ?_) (fun Hc115 => ?_)
                    · refine w_iload_n (zat TX14_nameHere_1 1 rfl) rfl ?_
                      refine w_ireturn (zat TX14_nameHere_1 2 rfl) rfl rfl ?_
                      have e1 : u = 8 := by omega
                      subst e1
                      exact ⟨rfl, rfl⟩
                    · exact absurd Hc115 (by decide)
                · rw [zb_0, Decidable.not_not] at Hc78
                  refine w_iconst (v := 1) (zat TX14_nameHere_0 38 rfl) (by decide) ?_
                  refine w_goto 112 (zat TX14_nameHere_0 39 rfl) (by decide) ?_
                  refine x_istore_n (ls2 := [_, _]) (zat TX14_nameHere_0 53 rfl) (by decide) rfl ?_
                  refine w_iload_n (zat TX14_nameHere_0 54 rfl) rfl ?_
                  refine w_iconst (v := -1) (zat TX14_nameHere_0 55 rfl) (by decide) ?_
                  refine w_icmp_ne 124 (zat TX14_nameHere_0 56 rfl) (by decide) (fun Hc115 => ?_) (fun Hc115 => ?_)
                  · refine w_iload_n (zat TX14_nameHere_1 1 rfl) rfl ?_
                    refine w_ireturn (zat TX14_nameHere_1 2 rfl) rfl rfl ?_
                    have e1 : u = 7 := by omega
                    subst e1
                    exact ⟨rfl, rfl⟩
                  · exact absurd Hc115 (by decide)
              · rw [zb_0, Decidable.not_not] at Hc65
                refine w_iconst (v := 0) (zat TX14_nameHere_0 32 rfl) (by decide) ?_
                refine w_goto 112 (zat TX14_nameHere_0 33 rfl) (by decide) ?_
                refine x_istore_n (ls2 := [_, _]) (zat TX14_nameHere_0 53 rfl) (by decide) rfl ?_
                refine w_iload_n (zat TX14_nameHere_0 54 rfl) rfl ?_
                refine w_iconst (v := -1) (zat TX14_nameHere_0 55 rfl) (by decide) ?_
                refine w_icmp_ne 124 (zat TX14_nameHere_0 56 rfl) (by decide) (fun Hc115 => ?_) (fun Hc115 => ?_)
                · refine w_iload_n (zat TX14_nameHere_1 1 rfl) rfl ?_
                  refine w_ireturn (zat TX14_nameHere_1 2 rfl) rfl rfl ?_
                  have e1 : u = 6 := by omega
                  subst e1
                  exact ⟨rfl, rfl⟩
                · exact absurd Hc115 (by decide)
            · rw [zb_0, Decidable.not_not] at Hc50
              omega
theorem qX14_nameHere_2 (l : Launch) (h : zH) (hWM : Wm h) (u : Nat) (hS : MS h u) (hu : u = 10) : Cx l 7 mX14_nameHere [Vq (some (1, 0))] h (Th (18, 0)) (mSt h 2) := by
  refine Ct.in 1 kX14_nameHere (plainFor_of_name rfl) (Nat.le_of_ble_eq_true rfl) ?_
  refine w_aload_n (zat TX14_nameHere_0 0 rfl) rfl ?_
  refine w_getI (zat TX14_nameHere_0 1 rfl) fX14_166 s1 (by decide) (by decide) rfl ?_
  refine w_iconst (v := 2) (zat TX14_nameHere_0 2 rfl) (by decide) ?_
  refine w_icmp_ne 53 (zat TX14_nameHere_0 3 rfl) (by decide) (fun Hc5 => ?_) (fun Hc5 => ?_)
  · rw [hS.srt.2.1] at Hc5
    exact absurd hu (by omega)
  · skip
    refine w_aload_n (zat TX14_nameHere_0 4 rfl) rfl ?_
    refine w_ldcS (tx := "price") 0 (zat TX14_nameHere_0 5 rfl) (by decide +kernel) ?_
    refine x_callv2 (qX14_isWord l h u hS 0 (by decide)) (by decide) kX14_isWord (rdy_V (zat TX14_nameHere_0 6 rfl) kX14_isWord pX14_isWord zw1256 zw1258 zw40 (zrc (by decide) (by decide) rfl)) (Nat.le_of_ble_eq_true rfl) rfl rfl ?_
    refine w_if_ne 53 (zat TX14_nameHere_0 7 rfl) (by decide) (fun Hc14 => ?_) (fun Hc14 => ?_)
    · rw [zb_0, Decidable.not_not] at Hc14
      omega
    · skip
      refine w_aload_n (zat TX14_nameHere_0 8 rfl) rfl ?_
      refine w_ldcS (tx := "duty") 1 (zat TX14_nameHere_0 9 rfl) (by decide +kernel) ?_
      refine x_callv2 (qX14_isWord l h u hS 1 (by decide)) (by decide) kX14_isWord (rdy_V (zat TX14_nameHere_0 10 rfl) kX14_isWord pX14_isWord zw1256 zw1258 zw40 (zrc (by decide) (by decide) rfl)) (Nat.le_of_ble_eq_true rfl) rfl rfl ?_
      refine w_if_ne 53 (zat TX14_nameHere_0 11 rfl) (by decide) (fun Hc23 => ?_) (fun Hc23 => ?_)
      · rw [zb_0, Decidable.not_not] at Hc23
        omega
      · skip
        refine w_aload_n (zat TX14_nameHere_0 12 rfl) rfl ?_
        refine w_ldcS (tx := "when") 2 (zat TX14_nameHere_0 13 rfl) (by decide +kernel) ?_
        refine x_callv2 (qX14_isWord l h u hS 2 (by decide)) (by decide) kX14_isWord (rdy_V (zat TX14_nameHere_0 14 rfl) kX14_isWord pX14_isWord zw1256 zw1258 zw40 (zrc (by decide) (by decide) rfl)) (Nat.le_of_ble_eq_true rfl) rfl rfl ?_
        refine w_if_ne 53 (zat TX14_nameHere_0 15 rfl) (by decide) (fun Hc32 => ?_) (fun Hc32 => ?_)
        · rw [zb_0, Decidable.not_not] at Hc32
          omega
        · skip
          refine w_aload_n (zat TX14_nameHere_0 16 rfl) rfl ?_
          refine w_ldcS (tx := "and") 3 (zat TX14_nameHere_0 17 rfl) (by decide +kernel) ?_
          refine x_callv2 (qX14_isWord l h u hS 3 (by decide)) (by decide) kX14_isWord (rdy_V (zat TX14_nameHere_0 18 rfl) kX14_isWord pX14_isWord zw1256 zw1258 zw40 (zrc (by decide) (by decide) rfl)) (Nat.le_of_ble_eq_true rfl) rfl rfl ?_
          refine w_if_ne 53 (zat TX14_nameHere_0 19 rfl) (by decide) (fun Hc41 => ?_) (fun Hc41 => ?_)
          · rw [zb_0, Decidable.not_not] at Hc41
            omega
          · skip
            refine w_aload_n (zat TX14_nameHere_0 20 rfl) rfl ?_
            refine w_ldcS (tx := "is") 4 (zat TX14_nameHere_0 21 rfl) (by decide +kernel) ?_
            refine x_callv2 (qX14_isWord l h u hS 4 (by decide)) (by decide) kX14_isWord (rdy_V (zat TX14_nameHere_0 22 rfl) kX14_isWord pX14_isWord zw1256 zw1258 zw40 (zrc (by decide) (by decide) rfl)) (Nat.le_of_ble_eq_true rfl) rfl rfl ?_
            refine w_if_eq 59 (zat TX14_nameHere_0 23 rfl) (by decide) (fun Hc50 => ?_) (fun Hc50 => ?_)
            · refine w_aload_n (zat TX14_nameHere_0 28 rfl) rfl ?_
              refine w_ldcS (tx := "year") 5 (zat TX14_nameHere_0 29 rfl) (by decide +kernel) ?_
              refine x_callv2 (qX14_isWord l h u hS 5 (by decide)) (by decide) kX14_isWord (rdy_V (zat TX14_nameHere_0 30 rfl) kX14_isWord pX14_isWord zw1256 zw1258 zw40 (zrc (by decide) (by decide) rfl)) (Nat.le_of_ble_eq_true rfl) rfl rfl ?_
              refine w_if_eq 72 (zat TX14_nameHere_0 31 rfl) (by decide) (fun Hc65 => ?_) (fun Hc65 => ?_)
              · refine w_aload_n (zat TX14_nameHere_0 34 rfl) rfl ?_
                refine w_ldcS (tx := "mouths") 6 (zat TX14_nameHere_0 35 rfl) (by decide +kernel) ?_
                refine x_callv2 (qX14_isWord l h u hS 6 (by decide)) (by decide) kX14_isWord (rdy_V (zat TX14_nameHere_0 36 rfl) kX14_isWord pX14_isWord zw1256 zw1258 zw40 (zrc (by decide) (by decide) rfl)) (Nat.le_of_ble_eq_true rfl) rfl rfl ?_
                refine w_if_eq 85 (zat TX14_nameHere_0 37 rfl) (by decide) (fun Hc78 => ?_) (fun Hc78 => ?_)
                · refine w_aload_n (zat TX14_nameHere_0 40 rfl) rfl ?_
                  refine w_ldcS (tx := "need") 7 (zat TX14_nameHere_0 41 rfl) (by decide +kernel) ?_
                  refine x_callv2 (qX14_isWord l h u hS 7 (by decide)) (by decide) kX14_isWord (rdy_V (zat TX14_nameHere_0 42 rfl) kX14_isWord pX14_isWord zw1256 zw1258 zw40 (zrc (by decide) (by decide) rfl)) (Nat.le_of_ble_eq_true rfl) rfl rfl ?_
                  refine w_if_eq 98 (zat TX14_nameHere_0 43 rfl) (by decide) (fun Hc91 => ?_) (fun Hc91 => ?_)
                  · refine w_aload_n (zat TX14_nameHere_0 46 rfl) rfl ?_
                    refine w_ldcS (tx := "old") 8 (zat TX14_nameHere_0 47 rfl) (by decide +kernel) ?_
                    refine x_callv2 (qX14_isWord l h u hS 8 (by decide)) (by decide) kX14_isWord (rdy_V (zat TX14_nameHere_0 48 rfl) kX14_isWord pX14_isWord zw1256 zw1258 zw40 (zrc (by decide) (by decide) rfl)) (Nat.le_of_ble_eq_true rfl) rfl rfl ?_
                    refine w_if_eq 111 (zat TX14_nameHere_0 49 rfl) (by decide) (fun Hc104 => ?_) (fun Hc104 => ?_)
                    · refine w_iconst (v := -1) (zat TX14_nameHere_0 52 rfl) (by decide) ?_
                      refine x_istore_n (ls2 := [_, _]) (zat TX14_nameHere_0 53 rfl) (by decide) rfl ?_
                      refine w_iload_n (zat TX14_nameHere_0 54 rfl) rfl ?_
                      refine w_iconst (v := -1) (zat TX14_nameHere_0 55 rfl) (by decide) ?_
                      refine w_icmp_ne 124 (zat TX14_nameHere_0 56 rfl) (by decide) (fun Hc115 => ?_) (fun Hc115 => ?_)
                      · exact absurd rfl Hc115
                      · refine w_aload_n (zat TX14_nameHere_0 57 rfl) rfl ?_
                        refine w_iconst (v := 2) (zat TX14_nameHere_0 58 rfl) (by decide) ?_
                        refine x_callv2 (qX14_stop l h hWM 2) (by decide) kX14_stop (rdy_V (zat TX14_nameHere_0 59 rfl) kX14_stop pX14_stop zw1266 zw1268 zw41 (zrc (by decide) (by decide) rfl)) (Nat.le_of_ble_eq_true rfl) rfl rfl ?_
                        refine w_athrow (zat TX14_nameHere_1 0 rfl) (zct_out rfl) ?_
                        exact ⟨rfl, rfl⟩
                    · rw [zb_0, Decidable.not_not] at Hc104
                      omega
                  · rw [zb_0, Decidable.not_not] at Hc91
                    omega
                · rw [zb_0, Decidable.not_not] at Hc78
                  omega
              · rw [zb_0, Decidable.not_not] at Hc65
                omega
            · rw [zb_0, Decidable.not_not] at Hc50
              omega
theorem qX14_nameHere_1 (l : Launch) (h : zH) (hWM : Wm h) (u : Nat) (hS : MS h u) (hu : u < 6 ∨ 10 < u) : Cx l 7 mX14_nameHere [Vq (some (1, 0))] h (Th (18, 0)) (mSt h 1) := by
  refine Ct.in 1 kX14_nameHere (plainFor_of_name rfl) (Nat.le_of_ble_eq_true rfl) ?_
  refine w_aload_n (zat TX14_nameHere_0 0 rfl) rfl ?_
  refine w_getI (zat TX14_nameHere_0 1 rfl) fX14_166 s1 (by decide) (by decide) rfl ?_
  refine w_iconst (v := 2) (zat TX14_nameHere_0 2 rfl) (by decide) ?_
  refine w_icmp_ne 53 (zat TX14_nameHere_0 3 rfl) (by decide) (fun Hc5 => ?_) (fun Hc5 => ?_)
  · refine w_aload_n (zat TX14_nameHere_0 24 rfl) rfl ?_
    refine w_iconst (v := 1) (zat TX14_nameHere_0 25 rfl) (by decide) ?_
    refine x_callv2 (qX14_stop l h hWM 1) (by decide) kX14_stop (rdy_V (zat TX14_nameHere_0 26 rfl) kX14_stop pX14_stop zw1266 zw1268 zw41 (zrc (by decide) (by decide) rfl)) (Nat.le_of_ble_eq_true rfl) rfl rfl ?_
    refine w_athrow (zat TX14_nameHere_0 27 rfl) (zct_out rfl) ?_
    exact ⟨rfl, rfl⟩
  · skip
    refine w_aload_n (zat TX14_nameHere_0 4 rfl) rfl ?_
    refine w_ldcS (tx := "price") 0 (zat TX14_nameHere_0 5 rfl) (by decide +kernel) ?_
    refine x_callv2 (qX14_isWord l h u hS 0 (by decide)) (by decide) kX14_isWord (rdy_V (zat TX14_nameHere_0 6 rfl) kX14_isWord pX14_isWord zw1256 zw1258 zw40 (zrc (by decide) (by decide) rfl)) (Nat.le_of_ble_eq_true rfl) rfl rfl ?_
    refine w_if_ne 53 (zat TX14_nameHere_0 7 rfl) (by decide) (fun Hc14 => ?_) (fun Hc14 => ?_)
    · refine w_aload_n (zat TX14_nameHere_0 24 rfl) rfl ?_
      refine w_iconst (v := 1) (zat TX14_nameHere_0 25 rfl) (by decide) ?_
      refine x_callv2 (qX14_stop l h hWM 1) (by decide) kX14_stop (rdy_V (zat TX14_nameHere_0 26 rfl) kX14_stop pX14_stop zw1266 zw1268 zw41 (zrc (by decide) (by decide) rfl)) (Nat.le_of_ble_eq_true rfl) rfl rfl ?_
      refine w_athrow (zat TX14_nameHere_0 27 rfl) (zct_out rfl) ?_
      exact ⟨rfl, rfl⟩
    · rw [zb_0] at Hc14
      refine w_aload_n (zat TX14_nameHere_0 8 rfl) rfl ?_
      refine w_ldcS (tx := "duty") 1 (zat TX14_nameHere_0 9 rfl) (by decide +kernel) ?_
      refine x_callv2 (qX14_isWord l h u hS 1 (by decide)) (by decide) kX14_isWord (rdy_V (zat TX14_nameHere_0 10 rfl) kX14_isWord pX14_isWord zw1256 zw1258 zw40 (zrc (by decide) (by decide) rfl)) (Nat.le_of_ble_eq_true rfl) rfl rfl ?_
      refine w_if_ne 53 (zat TX14_nameHere_0 11 rfl) (by decide) (fun Hc23 => ?_) (fun Hc23 => ?_)
      · refine w_aload_n (zat TX14_nameHere_0 24 rfl) rfl ?_
        refine w_iconst (v := 1) (zat TX14_nameHere_0 25 rfl) (by decide) ?_
        refine x_callv2 (qX14_stop l h hWM 1) (by decide) kX14_stop (rdy_V (zat TX14_nameHere_0 26 rfl) kX14_stop pX14_stop zw1266 zw1268 zw41 (zrc (by decide) (by decide) rfl)) (Nat.le_of_ble_eq_true rfl) rfl rfl ?_
        refine w_athrow (zat TX14_nameHere_0 27 rfl) (zct_out rfl) ?_
        exact ⟨rfl, rfl⟩
      · rw [zb_0] at Hc23
        refine w_aload_n (zat TX14_nameHere_0 12 rfl) rfl ?_
        refine w_ldcS (tx := "when") 2 (zat TX14_nameHere_0 13 rfl) (by decide +kernel) ?_
        refine x_callv2 (qX14_isWord l h u hS 2 (by decide)) (by decide) kX14_isWord (rdy_V (zat TX14_nameHere_0 14 rfl) kX14_isWord pX14_isWord zw1256 zw1258 zw40 (zrc (by decide) (by decide) rfl)) (Nat.le_of_ble_eq_true rfl) rfl rfl ?_
        refine w_if_ne 53 (zat TX14_nameHere_0 15 rfl) (by decide) (fun Hc32 => ?_) (fun Hc32 => ?_)
        · refine w_aload_n (zat TX14_nameHere_0 24 rfl) rfl ?_
          refine w_iconst (v := 1) (zat TX14_nameHere_0 25 rfl) (by decide) ?_
          refine x_callv2 (qX14_stop l h hWM 1) (by decide) kX14_stop (rdy_V (zat TX14_nameHere_0 26 rfl) kX14_stop pX14_stop zw1266 zw1268 zw41 (zrc (by decide) (by decide) rfl)) (Nat.le_of_ble_eq_true rfl) rfl rfl ?_
          refine w_athrow (zat TX14_nameHere_0 27 rfl) (zct_out rfl) ?_
          exact ⟨rfl, rfl⟩
        · rw [zb_0] at Hc32
          refine w_aload_n (zat TX14_nameHere_0 16 rfl) rfl ?_
          refine w_ldcS (tx := "and") 3 (zat TX14_nameHere_0 17 rfl) (by decide +kernel) ?_
          refine x_callv2 (qX14_isWord l h u hS 3 (by decide)) (by decide) kX14_isWord (rdy_V (zat TX14_nameHere_0 18 rfl) kX14_isWord pX14_isWord zw1256 zw1258 zw40 (zrc (by decide) (by decide) rfl)) (Nat.le_of_ble_eq_true rfl) rfl rfl ?_
          refine w_if_ne 53 (zat TX14_nameHere_0 19 rfl) (by decide) (fun Hc41 => ?_) (fun Hc41 => ?_)
          · refine w_aload_n (zat TX14_nameHere_0 24 rfl) rfl ?_
            refine w_iconst (v := 1) (zat TX14_nameHere_0 25 rfl) (by decide) ?_
            refine x_callv2 (qX14_stop l h hWM 1) (by decide) kX14_stop (rdy_V (zat TX14_nameHere_0 26 rfl) kX14_stop pX14_stop zw1266 zw1268 zw41 (zrc (by decide) (by decide) rfl)) (Nat.le_of_ble_eq_true rfl) rfl rfl ?_
            refine w_athrow (zat TX14_nameHere_0 27 rfl) (zct_out rfl) ?_
            exact ⟨rfl, rfl⟩
          · rw [zb_0] at Hc41
            refine w_aload_n (zat TX14_nameHere_0 20 rfl) rfl ?_
            refine w_ldcS (tx := "is") 4 (zat TX14_nameHere_0 21 rfl) (by decide +kernel) ?_
            refine x_callv2 (qX14_isWord l h u hS 4 (by decide)) (by decide) kX14_isWord (rdy_V (zat TX14_nameHere_0 22 rfl) kX14_isWord pX14_isWord zw1256 zw1258 zw40 (zrc (by decide) (by decide) rfl)) (Nat.le_of_ble_eq_true rfl) rfl rfl ?_
            refine w_if_eq 59 (zat TX14_nameHere_0 23 rfl) (by decide) (fun Hc50 => ?_) (fun Hc50 => ?_)
            · rw [zb_0] at Hc50
              have := hS.srt.2.1.mp Hc5
              omega
            · refine w_aload_n (zat TX14_nameHere_0 24 rfl) rfl ?_
              refine w_iconst (v := 1) (zat TX14_nameHere_0 25 rfl) (by decide) ?_
              refine x_callv2 (qX14_stop l h hWM 1) (by decide) kX14_stop (rdy_V (zat TX14_nameHere_0 26 rfl) kX14_stop pX14_stop zw1266 zw1268 zw41 (zrc (by decide) (by decide) rfl)) (Nat.le_of_ble_eq_true rfl) rfl rfl ?_
              refine w_athrow (zat TX14_nameHere_0 27 rfl) (zct_out rfl) ?_
              exact ⟨rfl, rfl⟩
