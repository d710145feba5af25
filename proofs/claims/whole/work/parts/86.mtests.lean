-- tests and lines of the model's parser, by program (wip/gen/p86.py)
/-- one test -/
def tst1 (tk : Nat → Nat) (full : Bool) (i s : Nat) : PR := if fo (tk i) = 0 then
    (if full = true then .inl (3, i) else
      (match sumD tk 8 i s with
        | .inl e => .inl e
        | .inr (y1, j, sa) => if 11 ≤ tk j ∧ tk j ≤ 13 then
            (match sumD tk 8 (j + 1) sa with
              | .inl e => .inl e
              | .inr (y2, j2, sb) => .inr (y1 ++ y2 ++ [opN (tk j)], j2, sb))
          else .inl (1, j)))
  else .inl (fo (tk i), i)
theorem testsP_1 (tk : Nat → Nat) (f : Nat) (ys : List (Nat × Int32)) (i s : Nat) : testsP tk (f + 1) ys i s = (match tst1 tk (decide (f = 0)) (i + 1) s with
    | .inl e => .inl e
    | .inr (zs, j2, sb) => if tk j2 = 4 then testsP tk f (ys ++ zs) j2 sb else .inr (ys ++ zs, j2, sb)) := by
  unfold tst1
  rw [testsP]
  by_cases h1 : fo (tk (i + 1)) = 0
  · rw [if_pos h1, if_pos h1]
    by_cases h2 : f = 0
    · rw [if_pos h2, if_pos (decide_eq_true h2)]
    · rw [if_neg h2, if_neg (by rw [decide_eq_false h2]; decide)]
      cases sumD tk 8 (i + 1) s with
      | inl e => rfl
      | inr r =>
        obtain ⟨y1, j, sa⟩ := r
        dsimp only
        by_cases h3 : 11 ≤ tk j ∧ tk j ≤ 13
        · rw [if_pos h3, if_pos h3]
          cases sumD tk 8 (j + 1) sa with
          | inl e => rfl
          | inr r =>
            obtain ⟨y2, j2, sb⟩ := r
            show (if tk j2 = 4 then testsP tk f (ys ++ y1 ++ y2 ++ [opN (tk j)]) j2 sb else .inr (ys ++ y1 ++ y2 ++ [opN (tk j)], j2, sb)) = (if tk j2 = 4 then testsP tk f (ys ++ (y1 ++ y2 ++ [opN (tk j)])) j2 sb else .inr (ys ++ (y1 ++ y2 ++ [opN (tk j)]), j2, sb))
            simp only [List.append_assoc]
        · rw [if_neg h3, if_neg h3]
  · rw [if_neg h1, if_neg h1]
theorem tst1_ok {tk : Nat → Nat} {N : Nat} (hT : Tkk tk N) (full : Bool) (i s : Nat) (hi : i < N) (h6 : s ≤ 60) {ys : List (Nat × Int32)} {j sb : Nat} (h : tst1 tk full i s = .inr (ys, j, sb)) : j < N ∧ i + ys.length ≤ j ∧ sb ≤ 60 := by
  unfold tst1 at h
  by_cases h1 : fo (tk i) = 0
  · rw [if_pos h1] at h
    by_cases h2 : full = true
    · rw [if_pos h2] at h; cases h
    · rw [if_neg h2] at h
      have hf := sumD_ok hT 8 i s hi h6
      cases hr : sumD tk 8 i s with
      | inl e => rw [hr] at h; cases h
      | inr r =>
        obtain ⟨y1, j1, sa⟩ := r
        rw [hr] at h hf
        obtain ⟨q1, q2, q3, q4, q5, q6⟩ := hf
        replace h : (if 11 ≤ tk j1 ∧ tk j1 ≤ 13 then
            (match sumD tk 8 (j1 + 1) sa with
              | .inl e => .inl e
              | .inr (y2, j2, sb) => .inr (y1 ++ y2 ++ [opN (tk j1)], j2, sb))
          else .inl (1, j1) : PR) = .inr (ys, j, sb) := h
        by_cases h3 : 11 ≤ tk j1 ∧ tk j1 ≤ 13
        · rw [if_pos h3] at h
          have hon := hT.on q1 (by omega) (by omega)
          have hf := sumD_ok hT 8 (j1 + 1) sa hon q4
          cases hr2 : sumD tk 8 (j1 + 1) sa with
          | inl e => rw [hr2] at h; cases h
          | inr r =>
            obtain ⟨y2, j2, sc⟩ := r
            rw [hr2] at h hf
            obtain ⟨p1, p2, p3, p4, p5, p6⟩ := hf
            cases h
            refine ⟨p1, ?_, p4⟩
            rw [List.length_append, List.length_append]
            show i + (y1.length + y2.length + 1) ≤ j
            omega
        · rw [if_neg h3] at h; cases h
  · rw [if_neg h1] at h; cases h
def FrRd (e : Nat) (h h' : zH) : Prop := h'.2.2 = h.2.2 ∧ (∀ k, k ≠ 1 → k ≠ 17 → k ≠ 18 → k ≠ 35 → k ≠ 36 → k ≠ 37 → k ≠ 38 → k ≠ 39 → k ≠ 40 → zI h' k = zI h k) ∧ (∀ i j, (j < 21 ∨ 27 < j) → zI h' 1 i j = zI h 1 i j) ∧ (∀ k i j, k ≠ 1 → k ≠ 18 → i ≠ e → zI h' k i j = zI h k i j) ∧ ∀ k i j, ¬ (k = 1 ∧ i = 0 ∧ j = 28) → zL h' k i j = zL h k i j
theorem FrRd.rf (e : Nat) (h : zH) : FrRd e h h := ⟨rfl, fun _ _ _ _ _ _ _ _ _ _ => rfl, fun _ _ _ => rfl, fun _ _ _ _ _ _ => rfl, fun _ _ _ _ => rfl⟩
theorem FrRd.tr {e : Nat} {a b c : zH} (x : FrRd e a b) (y : FrRd e b c) : FrRd e a c := ⟨y.1.trans x.1, fun k h1 h2 h3 h4 h5 h6 h7 h8 h9 => (y.2.1 k h1 h2 h3 h4 h5 h6 h7 h8 h9).trans (x.2.1 k h1 h2 h3 h4 h5 h6 h7 h8 h9), fun i j h => (y.2.2.1 i j h).trans (x.2.2.1 i j h), fun k i j h1 h2 h3 => (y.2.2.2.1 k i j h1 h2 h3).trans (x.2.2.2.1 k i j h1 h2 h3), fun k i j h => (y.2.2.2.2 k i j h).trans (x.2.2.2.2 k i j h)⟩
theorem FrZ.R {e : Nat} {a b : zH} (x : FrZ e a b) : FrRd e a b := ⟨x.1, fun k h1 h2 h3 _ _ _ _ h8 h9 => x.2.1 k h1 h2 h3 h8 h9, x.2.2.1, fun k i j h1 h2 h3 => by
  by_cases e17 : k = 17
  · subst e17; exact x.2.2.2.1 i j (fun z => h3 z.1)
  by_cases e39 : k = 39
  · subst e39; exact (x.2.2.2.2.1 i j h3).1
  by_cases e40 : k = 40
  · subst e40; exact (x.2.2.2.2.1 i j h3).2
  rw [x.2.1 k h1 e17 h2 e39 e40], x.2.2.2.2.2⟩
theorem FrRd.w {e : Nat} {a b : zH} (x : FrRd e a b) (g j : Nat) (hg : g = 17 ∨ g = 35 ∨ g = 36 ∨ g = 37 ∨ g = 38) (v : Int32) : FrRd e a (zsI b g e j v) := ⟨x.1, fun k h1 h2 h3 h4 h5 h6 h7 h8 h9 => by rw [← x.2.1 k h1 h2 h3 h4 h5 h6 h7 h8 h9]; exact zI_ss b g e j v (by omega), fun i j' h => by rw [← x.2.2.1 i j' h]; exact zI_st b g e j v (by omega) i j', fun k i j' h1 h2 h3 => by
  rw [← x.2.2.2.1 k i j' h1 h2 h3]
  exact if_neg (fun z => h3 z.2.1), x.2.2.2.2⟩
theorem FrRd.w1 {e : Nat} {a b : zH} (x : FrRd e a b) (j : Nat) (hj : 21 ≤ j ∧ j ≤ 27) (v : Int32) : FrRd e a (zsI b 1 0 j v) := ⟨x.1, fun k h1 h2 h3 h4 h5 h6 h7 h8 h9 => by rw [← x.2.1 k h1 h2 h3 h4 h5 h6 h7 h8 h9]; exact zI_ss b 1 0 j v h1, fun i j' h => by rw [← x.2.2.1 i j' h]; exact zI_ot2 b 1 0 j v (by omega) i, fun k i j' h1 h2 h3 => by rw [← x.2.2.2.1 k i j' h1 h2 h3]; exact zI_st b 1 0 j v h1 i j', x.2.2.2.2⟩
/-- lines ps are told, by the items its -/
def LnI (h : zH) (e : Nat) (ps : List (Bool × List (Nat × Int32))) (its : List (Nat × Int32)) : Prop := zI h 17 e 2 = nI ps.length ∧ ∀ (li : Nat) (ln : Bool × List (Nat × Int32)), ps[li]? = some ln → ∃ a : Nat, zI h 35 e li = (if ln.1 then 1 else 0) ∧ zI h 37 e li = nI a ∧ zI h 38 e li = nI (a + ln.2.length) ∧ a + ln.2.length ≤ its.length ∧ ∀ (i : Nat) (it : Nat × Int32), ln.2[i]? = some it → its[a + i]? = some it
theorem LnI.more {h h' : zH} {e : Nat} {ps : List (Bool × List (Nat × Int32))} {its : List (Nat × Int32)} (x : LnI h e ps its) (h1 : zI h' 17 e 2 = zI h 17 e 2) (h2 : ∀ j, j < ps.length → zI h' 35 e j = zI h 35 e j ∧ zI h' 37 e j = zI h 37 e j ∧ zI h' 38 e j = zI h 38 e j) (ys : List (Nat × Int32)) : LnI h' e ps (its ++ ys) := by
  refine ⟨h1.trans x.1, fun li ln hl => ?_⟩
  obtain ⟨a, a1, a2, a3, a4, a5⟩ := x.2 li ln hl
  have hlt : li < ps.length := by
    apply Decidable.byContradiction
    intro z
    rw [List.getElem?_eq_none (by omega)] at hl
    cases hl
  obtain ⟨e1, e2, e3⟩ := h2 li hlt
  refine ⟨a, e1.trans a1, e2.trans a2, e3.trans a3, by rw [List.length_append]; omega, fun i it hi => ?_⟩
  have h5 := a5 i it hi
  rw [List.getElem?_append_left (by
    apply Decidable.byContradiction
    intro z
    rw [List.getElem?_eq_none (by omega)] at h5
    cases h5)]
  exact h5
/-- the model's parser within a line -/
def LSt (e : Nat) (hB h : zH) (B : Nat → Nat) (n i s : Nat) (ps : List (Bool × List (Nat × Int32))) (its : List (Nat × Int32)) : Prop := FrRd e hB h ∧ Mi h B n i ∧ zI h 1 0 27 = nI s ∧ zI h 1 0 26 = nI 0 ∧ Its h e its ∧ LnI h e ps its
theorem LSt.pm {e : Nat} {hB h : zH} {B : Nat → Nat} {n i s : Nat} {ps : List (Bool × List (Nat × Int32))} {its : List (Nat × Int32)} (x : LSt e hB h B n i s ps its) : Pm e h h B n i s 0 its := ⟨FrZ.rf e h, x.2.1, x.2.2.1, x.2.2.2.1, x.2.2.2.2.1⟩
theorem LSt.go {e : Nat} {hB h h' : zH} {B : Nat → Nat} {n i s j s' : Nat} {ps : List (Bool × List (Nat × Int32))} {its ys : List (Nat × Int32)} (x : LSt e hB h B n i s ps its) (y : Pm e h h' B n j s' 0 (its ++ ys)) : LSt e hB h' B n j s' ps (its ++ ys) := by
  obtain ⟨y1, y2, y3, y4, y5⟩ := y
  refine ⟨x.1.tr y1.R, y2, y3, y4, y5, x.2.2.2.2.2.more (y1.2.2.2.1 e 2 (by omega)) (fun j hj => ⟨?_, ?_, ?_⟩) ys⟩
  · rw [y1.2.1 35 (by decide) (by decide) (by decide) (by decide) (by decide)]
  · rw [y1.2.1 37 (by decide) (by decide) (by decide) (by decide) (by decide)]
  · rw [y1.2.1 38 (by decide) (by decide) (by decide) (by decide) (by decide)]
theorem LSt.go0 {e : Nat} {hB h h' : zH} {B : Nat → Nat} {n i s j s' : Nat} {ps : List (Bool × List (Nat × Int32))} {its : List (Nat × Int32)} (x : LSt e hB h B n i s ps its) (y : Pm e h h' B n j s' 0 its) : LSt e hB h' B n j s' ps its := by
  have z := x.go (ys := []) (by rw [List.append_nil]; exact y)
  rw [List.append_nil] at z
  exact z
theorem LSt.ar {e : Nat} {hB h : zH} {B : Nat → Nat} {n i s : Nat} {ps : List (Bool × List (Nat × Int32))} {its : List (Nat × Int32)} (x : LSt e hB h B n i s ps its) (g : Nat) (hg : g = 35 ∨ g = 36 ∨ g = 37 ∨ g = 38) (v : Int32) : LSt e hB (zsI h g e ps.length v) B n i s ps its := by
  obtain ⟨x1, ⟨m1, m2, m3⟩, x3, x4, x5, x6⟩ := x
  have hz : ∀ j, zI (zsI h g e ps.length v) 1 0 j = zI h 1 0 j := fun j => zI_st h g e _ v (by omega) 0 j
  refine ⟨x1.w g _ (by omega) v, ⟨m1.mv (hz 22) (hz 24) (hz 25) rfl, fun z => (hz 21).trans (m2 z), (hz 23).trans m3⟩, (hz 27).trans x3, (hz 26).trans x4, ⟨(zI_st h g e _ v (by omega) e 3).trans x5.1, fun k it hk => ⟨(zI_st h g e _ v (by omega) e k).trans (x5.2 k it hk).1, (zI_st h g e _ v (by omega) e k).trans (x5.2 k it hk).2⟩⟩, ?_⟩
  have hm := x6.more (h' := zsI h g e ps.length v) (zI_st h g e _ v (by omega) e 2) (fun j hj => ⟨?_, ?_, ?_⟩) []
  · rw [List.append_nil] at hm
    exact hm
  · exact if_neg (fun z => by omega)
  · exact if_neg (fun z => by omega)
  · exact if_neg (fun z => by omega)
theorem lX14_readTest_22 (l : Launch) (h : zH) (hWM : Wm h) (e : Nat) (hC : zC h 17 = e + 1) (n : Nat) (B : Nat → Nat) (hX : Tx h 19 n B) (hn : zI h 1 0 20 = nI n) (N : Nat) (hT : Tkk (tkB B n) N) (i s : Nat) (its : List (Nat × Int32)) (hi : i < N) (h6 : s ≤ 60) (hl : its.length ≤ i) (hP : Pm e h h B n i s 0 its) (li c : Nat) (hli : li < 12) (hc4 : c ≤ 4) (hcc : zI h 36 e li = nI c) (hfo : fo (tkB B n i) = 0) (x2 : Option zV) : Wp l mX14_readTest 35 22 [some (Vq (some (1, 0))), some (Vi (nI li)), x2] [] h (fun o h' => match tst1 (tkB B n) (decide (c = 4)) i s with | .inl q => o = Th (18, 0) ∧ Mf e h h' B n q.1 q.2 | .inr r => o = R0 ∧ ∃ h1, Pm e h h1 B n r.2.1 r.2.2 0 (its ++ r.1) ∧ zI h1 36 e li = nI c ∧ h' = zsI h1 36 e li (nI (c + 1))) := by
  have hS := hP.2.1.1
  have huk := hT.2.2.1 i hi
  unfold uok at huk
  have hsp : zR h 1 0 16 = some (17, e) := by
    have h1 := hWM.2.2.1.2.1
    rw [hC] at h1
    exact h1
  obtain ⟨⟨w4, w5, w6, w7, w8, w9⟩, n35, n36, n37, n38, n39, n40⟩ := hWM.2.2.2.2 e (by omega)
  unfold tst1
  rw [if_pos hfo]
  refine w_aload_n (zat TX14_readTest_0 11 rfl) rfl ?_
  refine w_getR (zat TX14_readTest_0 12 rfl) fX14_42 s1 (by decide) (by decide) rfl hsp ?_
  refine w_getR (zat TX14_readTest_0 13 rfl) fX14_229 s17 (by decide) (by decide) rfl w5 ?_
  refine w_iload_n (zat TX14_readTest_0 14 rfl) rfl ?_
  refine y_iaload li _ (v := nI c) (zat TX14_readTest_0 15 rfl) s36 (by decide) n36 (by decide) rfl (by omega) hcc ?_
  refine w_iconst (v := 4) (zat TX14_readTest_0 16 rfl) (by decide) ?_
  refine w_icmp_ne 41 (zat TX14_readTest_0 17 rfl) (by decide) (fun Hc32 => ?_) (fun Hc32 => ?_)
  · have Hf : ¬ c = 4 := fun z => Hc32 (by rw [z]; rfl)
    rw [if_neg (by rw [decide_eq_false Hf]; decide)]
    refine w_aload_n (zat TX14_readTest_0 22 rfl) rfl ?_
    have hc := qX14_sum l h hWM e hC n B hX hn N hT 8 0 (by omega) i s its h hi h6 hl hP
    cases hr : sumD (tkB B n) 8 i s with
    | inl q =>
      rw [hr] at hc
      refine x_call1 (hc) (by omega) kX14_readSum (rdy_V (zat TX14_readTest_0 23 rfl) kX14_readSum pX14_readSum zw1289 zw1291 zw45 (zrc (by decide) (by decide) rfl)) (Nat.le_of_ble_eq_true rfl) rfl rfl (fun v h9 hq => by cases hq.1) (fun r h9 hq => ?_)
      obtain ⟨hq1, hq2⟩ := hq
      cases hq1
      exact ⟨rfl, hq2⟩
    | inr r =>
      obtain ⟨y1, j, sa⟩ := r
      rw [hr] at hc
      refine x_call1 (hc) (by omega) kX14_readSum (rdy_V (zat TX14_readTest_0 23 rfl) kX14_readSum pX14_readSum zw1289 zw1291 zw45 (zrc (by decide) (by decide) rfl)) (Nat.le_of_ble_eq_true rfl) rfl rfl (fun v h3 hq => ?_) (fun r h3 hq => by cases hq.1)
      obtain ⟨hq1, hP3⟩ := hq
      cases hq1
      replace hP3 : Pm e h h3 B n j sa 0 (its ++ y1) := hP3
      have hg := sumD_ok hT 8 i s hi h6
      rw [hr] at hg
      obtain ⟨g1, g2, g3, g4, g5, g6⟩ := hg
      have hS3 := hP3.2.1.1
      have hWM3 := Wm.same hP3.1.1 hWM
      show Wp _ _ _ _ _ _ _ (fun o h' => match (if 11 ≤ tkB B n j ∧ tkB B n j ≤ 13 then (match sumD (tkB B n) 8 (j + 1) sa with | .inl e => .inl e | .inr (y2, j2, sb) => .inr (y1 ++ y2 ++ [opN (tkB B n j)], j2, sb) : PR) else .inl (1, j) : PR) with | .inl q => o = Th (18, 0) ∧ Mf e h h' B n q.1 q.2 | .inr r => o = R0 ∧ ∃ h1, Pm e h h1 B n r.2.1 r.2.2 0 (its ++ r.1) ∧ zI h1 36 e li = nI c ∧ h' = zsI h1 36 e li (nI (c + 1)))
      refine w_aload_n (zat TX14_readTest_0 24 rfl) rfl ?_
      refine w_bipush (v := 60) (zat TX14_readTest_0 25 rfl) (by decide) ?_
      refine x_callv2 (qX14_is l h3 (tkB B n j) hS3 11 (by omega) (by omega) 60 (by decide)) (by omega) kX14_is (rdy_V (zat TX14_readTest_0 26 rfl) kX14_is pX14_is zw1275 zw1277 zw43 (zrc (by decide) (by decide) rfl)) (Nat.le_of_ble_eq_true rfl) rfl rfl ?_
      refine w_if_eq 59 (zat TX14_readTest_0 27 rfl) (by decide) (fun Hc51 => ?_) (fun Hc51 => ?_)
      · rw [zb_0] at Hc51
        refine w_aload_n (zat TX14_readTest_0 30 rfl) rfl ?_
        refine w_bipush (v := 62) (zat TX14_readTest_0 31 rfl) (by decide) ?_
        refine x_callv2 (qX14_is l h3 (tkB B n j) hS3 12 (by omega) (by omega) 62 (by decide)) (by omega) kX14_is (rdy_V (zat TX14_readTest_0 32 rfl) kX14_is pX14_is zw1275 zw1277 zw43 (zrc (by decide) (by decide) rfl)) (Nat.le_of_ble_eq_true rfl) rfl rfl ?_
        refine w_if_eq 73 (zat TX14_readTest_0 33 rfl) (by decide) (fun Hc65 => ?_) (fun Hc65 => ?_)
        · rw [zb_0] at Hc65
          refine w_aload_n (zat TX14_readTest_0 36 rfl) rfl ?_
          refine w_bipush (v := 61) (zat TX14_readTest_0 37 rfl) (by decide) ?_
          refine x_callv2 (qX14_is l h3 (tkB B n j) hS3 13 (by omega) (by omega) 61 (by decide)) (by omega) kX14_is (rdy_V (zat TX14_readTest_0 38 rfl) kX14_is pX14_is zw1275 zw1277 zw43 (zrc (by decide) (by decide) rfl)) (Nat.le_of_ble_eq_true rfl) rfl rfl ?_
          refine w_if_eq 87 (zat TX14_readTest_0 39 rfl) (by decide) (fun Hc79 => ?_) (fun Hc79 => ?_)
          · rw [zb_0] at Hc79
            refine w_iconst (v := -1) (zat TX14_readTest_0 42 rfl) (by decide) ?_
            refine x_istore_n (ls2 := [_, _, _]) (zat TX14_readTest_0 43 rfl) (by decide) rfl ?_
            refine w_iload_n (zat TX14_readTest_0 44 rfl) rfl ?_
            refine w_iconst (v := -1) (zat TX14_readTest_0 45 rfl) (by decide) ?_
            refine w_icmp_ne 100 (zat TX14_readTest_0 46 rfl) (by decide) (fun Hc91 => ?_) (fun Hc91 => ?_)
            · exact absurd rfl Hc91
            · refine w_aload_n (zat TX14_readTest_0 47 rfl) rfl ?_
              refine w_iconst (v := 1) (zat TX14_readTest_0 48 rfl) (by decide) ?_
              refine x_callv2 (qX14_stop l h3 hWM3 1) (by omega) kX14_stop (rdy_V (zat TX14_readTest_0 49 rfl) kX14_stop pX14_stop zw1266 zw1268 zw41 (zrc (by decide) (by decide) rfl)) (Nat.le_of_ble_eq_true rfl) rfl rfl ?_
              refine w_athrow (zat TX14_readTest_0 50 rfl) (zct_out rfl) ?_
              rw [if_neg (by omega)]
              exact ⟨rfl, hP3.st 1⟩
          · rw [zb_0, Decidable.not_not] at Hc79
            refine w_bipush (v := 8) (zat TX14_readTest_0 40 rfl) (by decide) ?_
            refine w_goto 88 (zat TX14_readTest_0 41 rfl) (by decide) ?_
            have hcm : 11 ≤ tkB B n j ∧ tkB B n j ≤ 13 := by omega
            have hon2 := hT.on g1 (by omega) (by omega)
            have hvv : (8 : Int32) = nI (opN (tkB B n j)).1 := by rw [show tkB B n j = 13 by omega]; rfl
            simp only [if_pos hcm]
            refine x_istore_n (ls2 := [_, _, _]) (zat TX14_readTest_0 43 rfl) (by decide) rfl ?_
            refine w_iload_n (zat TX14_readTest_0 44 rfl) rfl ?_
            refine w_iconst (v := -1) (zat TX14_readTest_0 45 rfl) (by decide) ?_
            refine w_icmp_ne 100 (zat TX14_readTest_0 46 rfl) (by decide) (fun Hc91 => ?_) (fun Hc91 => ?_)
            · refine w_aload_n (zat TX14_readTest_0 51 rfl) rfl ?_
              refine x_call1 (qX14_next_p l h hWM e hC n B hX hn j sa 0 (its ++ y1) h3 hP3 (by omega)) (by omega) kX14_next (rdy_V (zat TX14_readTest_0 52 rfl) kX14_next pX14_next zw1240 zw1242 zw38 (zrc (by decide) (by decide) rfl)) (Nat.le_of_ble_eq_true rfl) rfl rfl (fun v h4 hq => ?_) (fun r h4 hq => by cases hq.1)
              obtain ⟨hq1, hP4⟩ := hq
              cases hq1
              refine w_aload_n (zat TX14_readTest_0 53 rfl) rfl ?_
              show Wp _ _ _ _ _ _ _ (fun o h' => match (match sumD (tkB B n) 8 (j + 1) sa with | .inl e => .inl e | .inr (y2, j2, sb) => .inr (y1 ++ y2 ++ [opN (tkB B n j)], j2, sb) : PR) with | .inl q => o = Th (18, 0) ∧ Mf e h h' B n q.1 q.2 | .inr r => o = R0 ∧ ∃ h1, Pm e h h1 B n r.2.1 r.2.2 0 (its ++ r.1) ∧ zI h1 36 e li = nI c ∧ h' = zsI h1 36 e li (nI (c + 1)))
              have hc := qX14_sum l h hWM e hC n B hX hn N hT 8 0 (by omega) (j + 1) sa (its ++ y1) h4 hon2 g4 (by rw [List.length_append]; omega) hP4
              cases hr : sumD (tkB B n) 8 (j + 1) sa with
              | inl q =>
                rw [hr] at hc
                refine x_call1 (hc) (by omega) kX14_readSum (rdy_V (zat TX14_readTest_0 54 rfl) kX14_readSum pX14_readSum zw1289 zw1291 zw45 (zrc (by decide) (by decide) rfl)) (Nat.le_of_ble_eq_true rfl) rfl rfl (fun v h9 hq => by cases hq.1) (fun r h9 hq => ?_)
                obtain ⟨hq1, hq2⟩ := hq
                cases hq1
                exact ⟨rfl, hq2⟩
              | inr r =>
                obtain ⟨y2, j2, sb⟩ := r
                rw [hr] at hc
                refine x_call1 (hc) (by omega) kX14_readSum (rdy_V (zat TX14_readTest_0 54 rfl) kX14_readSum pX14_readSum zw1289 zw1291 zw45 (zrc (by decide) (by decide) rfl)) (Nat.le_of_ble_eq_true rfl) rfl rfl (fun v h5 hq => ?_) (fun r h5 hq => by cases hq.1)
                obtain ⟨hq1, hP5⟩ := hq
                cases hq1
                replace hP5 : Pm e h h5 B n j2 sb 0 (its ++ y1 ++ y2) := hP5
                have hg2 := sumD_ok hT 8 (j + 1) sa hon2 g4
                rw [hr] at hg2
                obtain ⟨p1, p2, p3, p4, p5, p6⟩ := hg2
                have hWM5 := Wm.same hP5.1.1 hWM
                have hC5 : zC h5 17 = e + 1 := by unfold zC; rw [hP5.1.1]; exact hC
                have hsp5 : zR h5 1 0 16 = some (17, e) := by
                  have h1 := hWM5.2.2.1.2.1
                  rw [hC5] at h1
                  exact h1
                obtain ⟨⟨w4, w5, w6, w7, w8, w9⟩, n35, n36, n37, n38, n39, n40⟩ := hWM5.2.2.2.2 e (by omega)
                have hP6 := hP5.put (opN (tkB B n j)).1 0
                rw [show its ++ y1 ++ y2 ++ [((opN (tkB B n j)).1, (0 : Int32))] = its ++ (y1 ++ y2 ++ [opN (tkB B n j)]) by rw [opN_0 (u := tkB B n j) (by omega)]; simp only [List.append_assoc]] at hP6
                have h36 : zI (mPut h5 e (its ++ y1 ++ y2).length (nI (opN (tkB B n j)).1) 0) 36 e li = nI c := by
                  rw [hP6.1.2.1 36 (by decide) (by decide) (by decide) (by decide) (by decide)]
                  exact hcc
                refine w_aload_n (zat TX14_readTest_0 55 rfl) rfl ?_
                refine w_getR (zat TX14_readTest_0 56 rfl) fX14_42 s1 (by decide) (by decide) rfl hsp5 ?_
                refine w_iload_n (zat TX14_readTest_0 57 rfl) rfl ?_
                refine w_iconst (v := 0) (zat TX14_readTest_0 58 rfl) (by decide) ?_
                refine x_callu3 (qX12_put l h5 hWM5 e (by unfold zC; rw [hP5.1.1]; exact (show e < zC h 17 by rw [hC]; omega)) (its ++ y1 ++ y2).length hP5.2.2.2.2.1 (by rw [List.length_append, List.length_append]; have := hT.2.1; omega) _ _) (by omega) kX12_put (rdy_V (zat TX14_readTest_0 59 rfl) kX12_put pX12_put zw1301 zw1302 zw1303 (zrc (by decide) (by decide) rfl)) (Nat.le_of_ble_eq_true rfl) rfl rfl ?_
                refine w_aload_n (zat TX14_readTest_1 0 rfl) rfl ?_
                refine w_getR (zat TX14_readTest_1 1 rfl) fX14_42 s1 (by decide) (by decide) rfl hsp5 ?_
                refine w_getR (zat TX14_readTest_1 2 rfl) fX14_229 s17 (by decide) (by decide) rfl w5 ?_
                refine w_iload_n (zat TX14_readTest_1 3 rfl) rfl ?_
                refine w_dup2 (zat TX14_readTest_1 4 rfl) rfl rfl ?_
                refine y_iaload li _ (v := nI c) (zat TX14_readTest_1 5 rfl) s36 (by decide) n36 (by decide) rfl (by omega) h36 ?_
                refine w_iconst (v := 1) (zat TX14_readTest_1 6 rfl) (by decide) ?_
                refine w_iadd (zat TX14_readTest_1 7 rfl) ?_
                rw [nI_1]
                refine x_iastore li _ (zat TX14_readTest_1 8 rfl) s36 (by decide) n36 (by decide) rfl (by omega) ?_
                refine w_return (zat TX14_readTest_1 9 rfl) rfl ?_
                exact ⟨rfl, _, hP6, h36, by rw [← hvv]⟩
            · exact absurd Hc91 (by decide)
        · rw [zb_0, Decidable.not_not] at Hc65
          refine w_bipush (v := 7) (zat TX14_readTest_0 34 rfl) (by decide) ?_
          refine w_goto 88 (zat TX14_readTest_0 35 rfl) (by decide) ?_
          have hcm : 11 ≤ tkB B n j ∧ tkB B n j ≤ 13 := by omega
          have hon2 := hT.on g1 (by omega) (by omega)
          have hvv : (7 : Int32) = nI (opN (tkB B n j)).1 := by rw [show tkB B n j = 12 by omega]; rfl
          simp only [if_pos hcm]
          refine x_istore_n (ls2 := [_, _, _]) (zat TX14_readTest_0 43 rfl) (by decide) rfl ?_
          refine w_iload_n (zat TX14_readTest_0 44 rfl) rfl ?_
          refine w_iconst (v := -1) (zat TX14_readTest_0 45 rfl) (by decide) ?_
          refine w_icmp_ne 100 (zat TX14_readTest_0 46 rfl) (by decide) (fun Hc91 => ?_) (fun Hc91 => ?_)
          · refine w_aload_n (zat TX14_readTest_0 51 rfl) rfl ?_
            refine x_call1 (qX14_next_p l h hWM e hC n B hX hn j sa 0 (its ++ y1) h3 hP3 (by omega)) (by omega) kX14_next (rdy_V (zat TX14_readTest_0 52 rfl) kX14_next pX14_next zw1240 zw1242 zw38 (zrc (by decide) (by decide) rfl)) (Nat.le_of_ble_eq_true rfl) rfl rfl (fun v h4 hq => ?_) (fun r h4 hq => by cases hq.1)
            obtain ⟨hq1, hP4⟩ := hq
            cases hq1
            refine w_aload_n (zat TX14_readTest_0 53 rfl) rfl ?_
            show Wp _ _ _ _ _ _ _ (fun o h' => match (match sumD (tkB B n) 8 (j + 1) sa with | .inl e => .inl e | .inr (y2, j2, sb) => .inr (y1 ++ y2 ++ [opN (tkB B n j)], j2, sb) : PR) with | .inl q => o = Th (18, 0) ∧ Mf e h h' B n q.1 q.2 | .inr r => o = R0 ∧ ∃ h1, Pm e h h1 B n r.2.1 r.2.2 0 (its ++ r.1) ∧ zI h1 36 e li = nI c ∧ h' = zsI h1 36 e li (nI (c + 1)))
            have hc := qX14_sum l h hWM e hC n B hX hn N hT 8 0 (by omega) (j + 1) sa (its ++ y1) h4 hon2 g4 (by rw [List.length_append]; omega) hP4
            cases hr : sumD (tkB B n) 8 (j + 1) sa with
            | inl q =>
              rw [hr] at hc
              refine x_call1 (hc) (by omega) kX14_readSum (rdy_V (zat TX14_readTest_0 54 rfl) kX14_readSum pX14_readSum zw1289 zw1291 zw45 (zrc (by decide) (by decide) rfl)) (Nat.le_of_ble_eq_true rfl) rfl rfl (fun v h9 hq => by cases hq.1) (fun r h9 hq => ?_)
              obtain ⟨hq1, hq2⟩ := hq
              cases hq1
              exact ⟨rfl, hq2⟩
            | inr r =>
              obtain ⟨y2, j2, sb⟩ := r
              rw [hr] at hc
              refine x_call1 (hc) (by omega) kX14_readSum (rdy_V (zat TX14_readTest_0 54 rfl) kX14_readSum pX14_readSum zw1289 zw1291 zw45 (zrc (by decide) (by decide) rfl)) (Nat.le_of_ble_eq_true rfl) rfl rfl (fun v h5 hq => ?_) (fun r h5 hq => by cases hq.1)
              obtain ⟨hq1, hP5⟩ := hq
              cases hq1
              replace hP5 : Pm e h h5 B n j2 sb 0 (its ++ y1 ++ y2) := hP5
              have hg2 := sumD_ok hT 8 (j + 1) sa hon2 g4
              rw [hr] at hg2
              obtain ⟨p1, p2, p3, p4, p5, p6⟩ := hg2
              have hWM5 := Wm.same hP5.1.1 hWM
              have hC5 : zC h5 17 = e + 1 := by unfold zC; rw [hP5.1.1]; exact hC
              have hsp5 : zR h5 1 0 16 = some (17, e) := by
                have h1 := hWM5.2.2.1.2.1
                rw [hC5] at h1
                exact h1
              obtain ⟨⟨w4, w5, w6, w7, w8, w9⟩, n35, n36, n37, n38, n39, n40⟩ := hWM5.2.2.2.2 e (by omega)
              have hP6 := hP5.put (opN (tkB B n j)).1 0
              rw [show its ++ y1 ++ y2 ++ [((opN (tkB B n j)).1, (0 : Int32))] = its ++ (y1 ++ y2 ++ [opN (tkB B n j)]) by rw [opN_0 (u := tkB B n j) (by omega)]; simp only [List.append_assoc]] at hP6
              have h36 : zI (mPut h5 e (its ++ y1 ++ y2).length (nI (opN (tkB B n j)).1) 0) 36 e li = nI c := by
                rw [hP6.1.2.1 36 (by decide) (by decide) (by decide) (by decide) (by decide)]
                exact hcc
              refine w_aload_n (zat TX14_readTest_0 55 rfl) rfl ?_
              refine w_getR (zat TX14_readTest_0 56 rfl) fX14_42 s1 (by decide) (by decide) rfl hsp5 ?_
              refine w_iload_n (zat TX14_readTest_0 57 rfl) rfl ?_
              refine w_iconst (v := 0) (zat TX14_readTest_0 58 rfl) (by decide) ?_
              refine x_callu3 (qX12_put l h5 hWM5 e (by unfold zC; rw [hP5.1.1]; exact (show e < zC h 17 by rw [hC]; omega)) (its ++ y1 ++ y2).length hP5.2.2.2.2.1 (by rw [List.length_append, List.length_append]; have := hT.2.1; omega) _ _) (by omega) kX12_put (rdy_V (zat TX14_readTest_0 59 rfl) kX12_put pX12_put zw1301 zw1302 zw1303 (zrc (by decide) (by decide) rfl)) (Nat.le_of_ble_eq_true rfl) rfl rfl ?_
              refine w_aload_n (zat TX14_readTest_1 0 rfl) rfl ?_
              refine w_getR (zat TX14_readTest_1 1 rfl) fX14_42 s1 (by decide) (by decide) rfl hsp5 ?_
              refine w_getR (zat TX14_readTest_1 2 rfl) fX14_229 s17 (by decide) (by decide) rfl w5 ?_
              refine w_iload_n (zat TX14_readTest_1 3 rfl) rfl ?_
              refine w_dup2 (zat TX14_readTest_1 4 rfl) rfl rfl ?_
              refine y_iaload li _ (v := nI c) (zat TX14_readTest_1 5 rfl) s36 (by decide) n36 (by decide) rfl (by omega) h36 ?_
              refine w_iconst (v := 1) (zat TX14_readTest_1 6 rfl) (by decide) ?_
              refine w_iadd (zat TX14_readTest_1 7 rfl) ?_
              rw [nI_1]
              refine x_iastore li _ (zat TX14_readTest_1 8 rfl) s36 (by decide) n36 (by decide) rfl (by omega) ?_
              refine w_return (zat TX14_readTest_1 9 rfl) rfl ?_
              exact ⟨rfl, _, hP6, h36, by rw [← hvv]⟩
          · exact absurd Hc91 (by decide)
      · rw [zb_0, Decidable.not_not] at Hc51
        refine w_bipush (v := 6) (zat TX14_readTest_0 28 rfl) (by decide) ?_
        refine w_goto 88 (zat TX14_readTest_0 29 rfl) (by decide) ?_
        have hcm : 11 ≤ tkB B n j ∧ tkB B n j ≤ 13 := by omega
        have hon2 := hT.on g1 (by omega) (by omega)
        have hvv : (6 : Int32) = nI (opN (tkB B n j)).1 := by rw [show tkB B n j = 11 by omega]; rfl
        simp only [if_pos hcm]
        refine x_istore_n (ls2 := [_, _, _]) (zat TX14_readTest_0 43 rfl) (by decide) rfl ?_
        refine w_iload_n (zat TX14_readTest_0 44 rfl) rfl ?_
        refine w_iconst (v := -1) (zat TX14_readTest_0 45 rfl) (by decide) ?_
        refine w_icmp_ne 100 (zat TX14_readTest_0 46 rfl) (by decide) (fun Hc91 => ?_) (fun Hc91 => ?_)
        · refine w_aload_n (zat TX14_readTest_0 51 rfl) rfl ?_
          refine x_call1 (qX14_next_p l h hWM e hC n B hX hn j sa 0 (its ++ y1) h3 hP3 (by omega)) (by omega) kX14_next (rdy_V (zat TX14_readTest_0 52 rfl) kX14_next pX14_next zw1240 zw1242 zw38 (zrc (by decide) (by decide) rfl)) (Nat.le_of_ble_eq_true rfl) rfl rfl (fun v h4 hq => ?_) (fun r h4 hq => by cases hq.1)
          obtain ⟨hq1, hP4⟩ := hq
          cases hq1
          refine w_aload_n (zat TX14_readTest_0 53 rfl) rfl ?_
          show Wp _ _ _ _ _ _ _ (fun o h' => match (match sumD (tkB B n) 8 (j + 1) sa with | .inl e => .inl e | .inr (y2, j2, sb) => .inr (y1 ++ y2 ++ [opN (tkB B n j)], j2, sb) : PR) with | .inl q => o = Th (18, 0) ∧ Mf e h h' B n q.1 q.2 | .inr r => o = R0 ∧ ∃ h1, Pm e h h1 B n r.2.1 r.2.2 0 (its ++ r.1) ∧ zI h1 36 e li = nI c ∧ h' = zsI h1 36 e li (nI (c + 1)))
          have hc := qX14_sum l h hWM e hC n B hX hn N hT 8 0 (by omega) (j + 1) sa (its ++ y1) h4 hon2 g4 (by rw [List.length_append]; omega) hP4
          cases hr : sumD (tkB B n) 8 (j + 1) sa with
          | inl q =>
            rw [hr] at hc
            refine x_call1 (hc) (by omega) kX14_readSum (rdy_V (zat TX14_readTest_0 54 rfl) kX14_readSum pX14_readSum zw1289 zw1291 zw45 (zrc (by decide) (by decide) rfl)) (Nat.le_of_ble_eq_true rfl) rfl rfl (fun v h9 hq => by cases hq.1) (fun r h9 hq => ?_)
            obtain ⟨hq1, hq2⟩ := hq
            cases hq1
            exact ⟨rfl, hq2⟩
          | inr r =>
            obtain ⟨y2, j2, sb⟩ := r
            rw [hr] at hc
            refine x_call1 (hc) (by omega) kX14_readSum (rdy_V (zat TX14_readTest_0 54 rfl) kX14_readSum pX14_readSum zw1289 zw1291 zw45 (zrc (by decide) (by decide) rfl)) (Nat.le_of_ble_eq_true rfl) rfl rfl (fun v h5 hq => ?_) (fun r h5 hq => by cases hq.1)
            obtain ⟨hq1, hP5⟩ := hq
            cases hq1
            replace hP5 : Pm e h h5 B n j2 sb 0 (its ++ y1 ++ y2) := hP5
            have hg2 := sumD_ok hT 8 (j + 1) sa hon2 g4
            rw [hr] at hg2
            obtain ⟨p1, p2, p3, p4, p5, p6⟩ := hg2
            have hWM5 := Wm.same hP5.1.1 hWM
            have hC5 : zC h5 17 = e + 1 := by unfold zC; rw [hP5.1.1]; exact hC
            have hsp5 : zR h5 1 0 16 = some (17, e) := by
              have h1 := hWM5.2.2.1.2.1
              rw [hC5] at h1
              exact h1
            obtain ⟨⟨w4, w5, w6, w7, w8, w9⟩, n35, n36, n37, n38, n39, n40⟩ := hWM5.2.2.2.2 e (by omega)
            have hP6 := hP5.put (opN (tkB B n j)).1 0
            rw [show its ++ y1 ++ y2 ++ [((opN (tkB B n j)).1, (0 : Int32))] = its ++ (y1 ++ y2 ++ [opN (tkB B n j)]) by rw [opN_0 (u := tkB B n j) (by omega)]; simp only [List.append_assoc]] at hP6
            have h36 : zI (mPut h5 e (its ++ y1 ++ y2).length (nI (opN (tkB B n j)).1) 0) 36 e li = nI c := by
              rw [hP6.1.2.1 36 (by decide) (by decide) (by decide) (by decide) (by decide)]
              exact hcc
            refine w_aload_n (zat TX14_readTest_0 55 rfl) rfl ?_
            refine w_getR (zat TX14_readTest_0 56 rfl) fX14_42 s1 (by decide) (by decide) rfl hsp5 ?_
            refine w_iload_n (zat TX14_readTest_0 57 rfl) rfl ?_
            refine w_iconst (v := 0) (zat TX14_readTest_0 58 rfl) (by decide) ?_
            refine x_callu3 (qX12_put l h5 hWM5 e (by unfold zC; rw [hP5.1.1]; exact (show e < zC h 17 by rw [hC]; omega)) (its ++ y1 ++ y2).length hP5.2.2.2.2.1 (by rw [List.length_append, List.length_append]; have := hT.2.1; omega) _ _) (by omega) kX12_put (rdy_V (zat TX14_readTest_0 59 rfl) kX12_put pX12_put zw1301 zw1302 zw1303 (zrc (by decide) (by decide) rfl)) (Nat.le_of_ble_eq_true rfl) rfl rfl ?_
            refine w_aload_n (zat TX14_readTest_1 0 rfl) rfl ?_
            refine w_getR (zat TX14_readTest_1 1 rfl) fX14_42 s1 (by decide) (by decide) rfl hsp5 ?_
            refine w_getR (zat TX14_readTest_1 2 rfl) fX14_229 s17 (by decide) (by decide) rfl w5 ?_
            refine w_iload_n (zat TX14_readTest_1 3 rfl) rfl ?_
            refine w_dup2 (zat TX14_readTest_1 4 rfl) rfl rfl ?_
            refine y_iaload li _ (v := nI c) (zat TX14_readTest_1 5 rfl) s36 (by decide) n36 (by decide) rfl (by omega) h36 ?_
            refine w_iconst (v := 1) (zat TX14_readTest_1 6 rfl) (by decide) ?_
            refine w_iadd (zat TX14_readTest_1 7 rfl) ?_
            rw [nI_1]
            refine x_iastore li _ (zat TX14_readTest_1 8 rfl) s36 (by decide) n36 (by decide) rfl (by omega) ?_
            refine w_return (zat TX14_readTest_1 9 rfl) rfl ?_
            exact ⟨rfl, _, hP6, h36, by rw [← hvv]⟩
        · exact absurd Hc91 (by decide)
  · have Hf : c = 4 := nIe (b := 4) (by omega) (by omega) Hc32
    rw [if_pos (decide_eq_true Hf)]
    refine w_aload_n (zat TX14_readTest_0 18 rfl) rfl ?_
    refine w_iconst (v := 3) (zat TX14_readTest_0 19 rfl) (by decide) ?_
    refine x_callv2 (qX14_stop l h hWM 3) (by omega) kX14_stop (rdy_V (zat TX14_readTest_0 20 rfl) kX14_stop pX14_stop zw1266 zw1268 zw41 (zrc (by decide) (by decide) rfl)) (Nat.le_of_ble_eq_true rfl) rfl rfl ?_
    refine w_athrow (zat TX14_readTest_0 21 rfl) (zct_out rfl) ?_
    exact ⟨rfl, hP.st 3⟩
theorem qX14_readTest (l : Launch) (h : zH) (hWM : Wm h) (e : Nat) (hC : zC h 17 = e + 1) (n : Nat) (B : Nat → Nat) (hX : Tx h 19 n B) (hn : zI h 1 0 20 = nI n) (N : Nat) (hT : Tkk (tkB B n) N) (i s : Nat) (its : List (Nat × Int32)) (hi : i < N) (h6 : s ≤ 60) (hl : its.length ≤ i) (hP : Pm e h h B n i s 0 its) (li c : Nat) (hli : li < 12) (hc4 : c ≤ 4) (hcc : zI h 36 e li = nI c) : Ct l 35 mX14_readTest [Vq (some (1, 0)), Vi (nI li)] h (fun o h' => match tst1 (tkB B n) (decide (c = 4)) i s with | .inl q => o = Th (18, 0) ∧ Mf e h h' B n q.1 q.2 | .inr r => o = R0 ∧ ∃ h1, Pm e h h1 B n r.2.1 r.2.2 0 (its ++ r.1) ∧ zI h1 36 e li = nI c ∧ h' = zsI h1 36 e li (nI (c + 1))) := by
  have hS := hP.2.1.1
  have huk := hT.2.2.1 i hi
  unfold uok at huk
  have hsp : zR h 1 0 16 = some (17, e) := by
    have h1 := hWM.2.2.1.2.1
    rw [hC] at h1
    exact h1
  obtain ⟨⟨w4, w5, w6, w7, w8, w9⟩, n35, n36, n37, n38, n39, n40⟩ := hWM.2.2.2.2 e (by omega)
  refine Ct.in 1 kX14_readTest (plainFor_of_name rfl) (Nat.le_of_ble_eq_true rfl) ?_
  refine w_aload_n (zat TX14_readTest_0 0 rfl) rfl ?_
  refine w_getI (zat TX14_readTest_0 1 rfl) fX14_166 s1 (by decide) (by decide) rfl ?_
  refine w_iconst (v := 3) (zat TX14_readTest_0 2 rfl) (by decide) ?_
  refine w_icmp_eq 22 (zat TX14_readTest_0 3 rfl) (by decide) (fun Hc5 => ?_) (fun Hc5 => ?_)
  · rw [hS.srt.2.2.2] at Hc5
    exact lX14_readTest_22 l h hWM e hC n B hX hn N hT i s its hi h6 hl hP li c hli hc4 hcc (fo_0 (by omega)) _
  · rw [hS.srt.2.2.2] at Hc5
    refine w_aload_n (zat TX14_readTest_0 4 rfl) rfl ?_
    refine w_bipush (v := 40) (zat TX14_readTest_0 5 rfl) (by decide) ?_
    refine x_callv2 (qX14_is l h (tkB B n i) hS 18 (by omega) (by omega) 40 (by decide)) (by omega) kX14_is (rdy_V (zat TX14_readTest_0 6 rfl) kX14_is pX14_is zw1275 zw1277 zw43 (zrc (by decide) (by decide) rfl)) (Nat.le_of_ble_eq_true rfl) rfl rfl ?_
    refine w_if_ne 22 (zat TX14_readTest_0 7 rfl) (by decide) (fun Hc14 => ?_) (fun Hc14 => ?_)
    · rw [zb_0, Decidable.not_not] at Hc14
      exact lX14_readTest_22 l h hWM e hC n B hX hn N hT i s its hi h6 hl hP li c hli hc4 hcc (fo_0 (by omega)) _
    · rw [zb_0] at Hc14
      refine w_aload_n (zat TX14_readTest_0 8 rfl) rfl ?_
      unfold tst1
      by_cases hnm : 6 ≤ tkB B n i ∧ tkB B n i ≤ 9
      · have hfo : fo (tkB B n i) = 0 := fo_0 (by omega)
        refine x_callv1 (qX14_nameHere_s l h hWM (tkB B n i) hS hnm) (by omega) kX14_nameHere (rdy_V (zat TX14_readTest_0 9 rfl) kX14_nameHere pX14_nameHere zw1279 zw1281 zw44 (zrc (by decide) (by decide) rfl)) (Nat.le_of_ble_eq_true rfl) rfl rfl ?_
        refine x_istore_n (ls2 := [_, _, _]) (zat TX14_readTest_0 10 rfl) (by decide) rfl ?_
        have hz := lX14_readTest_22 l h hWM e hC n B hX hn N hT i s its hi h6 hl hP li c hli hc4 hcc hfo (some (Vi (nI (tkB B n i - 6))))
        unfold tst1 at hz
        exact hz
      · by_cases h10 : tkB B n i = 10
        · have hfo := fo_2 h10
          refine x_call1 (qX14_nameHere_2 l h hWM (tkB B n i) hS h10) (by omega) kX14_nameHere (rdy_V (zat TX14_readTest_0 9 rfl) kX14_nameHere pX14_nameHere zw1279 zw1281 zw44 (zrc (by decide) (by decide) rfl)) (Nat.le_of_ble_eq_true rfl) rfl rfl (fun v h9 hq => by cases hq.1) (fun r h9 hq => ?_)
          obtain ⟨hq1, hq2⟩ := hq
          cases hq1
          rw [hq2, if_neg (by rw [hfo]; decide), hfo]
          exact ⟨rfl, hP.st 2⟩
        · have hfo : fo (tkB B n i) = 1 := fo_1 h10 (by omega)
          refine x_call1 (qX14_nameHere_1 l h hWM (tkB B n i) hS (by omega)) (by omega) kX14_nameHere (rdy_V (zat TX14_readTest_0 9 rfl) kX14_nameHere pX14_nameHere zw1279 zw1281 zw44 (zrc (by decide) (by decide) rfl)) (Nat.le_of_ble_eq_true rfl) rfl rfl (fun v h9 hq => by cases hq.1) (fun r h9 hq => ?_)
          obtain ⟨hq1, hq2⟩ := hq
          cases hq1
          rw [hq2, if_neg (by rw [hfo]; decide), hfo]
          exact ⟨rfl, hP.st 1⟩
