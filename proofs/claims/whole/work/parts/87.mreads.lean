-- reads of the model, by program (wip/gen/p87.py)
/-- the rest of a text behind the tests of a line -/
def LEf (tk : Nat → Nat) (f : Nat) (ps : List (Bool × List (Nat × Int32))) (b : Bool) (ys : List (Nat × Int32)) (j s : Nat) : (Nat × Nat) ⊕ List (Bool × List (Nat × Int32)) := match lineE tk ys j s with
  | .inl q => .inl q
  | .inr (zs, j2, sb) => if tk j2 = 21 then .inr (ps ++ [(b, zs)]) else if tk j2 = 20 then progP tk f (ps ++ [(b, zs)]) (j2 + 1) sb else .inl (1, j2)
def LTf (tk : Nat → Nat) (f : Nat) (ps : List (Bool × List (Nat × Int32))) (b : Bool) (r : PR) : (Nat × Nat) ⊕ List (Bool × List (Nat × Int32)) := match r with
  | .inl q => .inl q
  | .inr (ys, j, s) => LEf tk f ps b ys j s
theorem progP_n {tk : Nat → Nat} {f : Nat} {ps : List (Bool × List (Nat × Int32))} {i s : Nat} (h : ¬ (tk i = 1 ∨ tk i = 2)) : progP tk (f + 1) ps i s = .inl (1, i) := by
  rw [progP]
  unfold lineP
  rw [if_neg h]
theorem progP_m {tk : Nat → Nat} {f : Nat} {ps : List (Bool × List (Nat × Int32))} {i s : Nat} (h : tk i = 1 ∨ tk i = 2) (h2 : 12 < 13 - f) : progP tk (f + 1) ps i s = .inl (3, i) := by
  rw [progP]
  unfold lineP
  rw [if_pos h, if_pos h2]
theorem progP_w {tk : Nat → Nat} {f : Nat} {ps : List (Bool × List (Nat × Int32))} {i s : Nat} (h : tk i = 1 ∨ tk i = 2) (h2 : ¬ 12 < 13 - f) (h3 : tk (i + 1) = 3) : progP tk (f + 1) ps i s = LTf tk f ps (decide (tk i = 2)) (testsP tk 5 [] (i + 1) s) := by
  rw [progP]
  unfold lineP
  rw [if_pos h, if_neg h2, if_pos h3]
  cases testsP tk 5 [] (i + 1) s with
  | inl q => rfl
  | inr r =>
    obtain ⟨ys, j, sa⟩ := r
    show _ = LEf tk f ps (decide (tk i = 2)) ys j sa
    unfold LEf
    rfl
theorem progP_v {tk : Nat → Nat} {f : Nat} {ps : List (Bool × List (Nat × Int32))} {i s : Nat} (h : tk i = 1 ∨ tk i = 2) (h2 : ¬ 12 < 13 - f) (h3 : ¬ tk (i + 1) = 3) : progP tk (f + 1) ps i s = LEf tk f ps (decide (tk i = 2)) [] (i + 1) s := by
  rw [progP]
  unfold lineP
  rw [if_pos h, if_neg h2, if_neg h3]
  unfold LEf
  rfl
def MTo (e : Nat) (hB : zH) (B : Nat → Nat) (n : Nat) (r : (Nat × Nat) ⊕ List (Bool × List (Nat × Int32))) (o : zO) (h' : zH) : Prop := match r with
  | .inl q => o = Th (18, 0) ∧ FrRd e hB h' ∧ zI h' 18 0 6 = nI q.1 ∧ zI h' 18 0 7 = nI (plB B n q.2)
  | .inr ps => o = R0 ∧ FrRd e hB h' ∧ ∃ its, its.length ≤ 301 ∧ Its h' e its ∧ LnI h' e ps its
theorem vb_nar {p : Prop} [Decidable p] : vp_nar .boolean (zb p) = zb p := by
  by_cases h : p
  · rw [zb_t h]; decide
  · rw [zb_f h]; decide
theorem zb_dec {p : Prop} [Decidable p] : zb p = if (decide p) then 1 else 0 := by
  by_cases h : p
  · rw [zb_t h, if_pos (decide_eq_true h)]
  · rw [zb_f h, if_neg (by rw [decide_eq_false h]; decide)]
theorem LnI.add {h h' : zH} {e : Nat} {ps : List (Bool × List (Nat × Int32))} {its0 ys : List (Nat × Int32)} {b : Bool} (x : LnI h e ps (its0 ++ ys)) (h2 : zI h' 17 e 2 = nI (ps.length + 1)) (h3 : ∀ j, j < ps.length → zI h' 35 e j = zI h 35 e j ∧ zI h' 37 e j = zI h 37 e j ∧ zI h' 38 e j = zI h 38 e j) (h35 : zI h' 35 e ps.length = (if b then 1 else 0)) (h37 : zI h' 37 e ps.length = nI its0.length) (h38 : zI h' 38 e ps.length = nI (its0 ++ ys).length) : LnI h' e (ps ++ [(b, ys)]) (its0 ++ ys) := by
  refine ⟨by rw [List.length_append]; exact h2, fun li ln hl => ?_⟩
  rcases Nat.lt_trichotomy li ps.length with q | q | q
  · rw [List.getElem?_append_left q] at hl
    obtain ⟨a, a1, a2, a3, a4, a5⟩ := x.2 li ln hl
    obtain ⟨e1, e2, e3⟩ := h3 li q
    exact ⟨a, e1.trans a1, e2.trans a2, e3.trans a3, a4, a5⟩
  · subst q
    rw [List.getElem?_append_right (Nat.le_refl _), Nat.sub_self] at hl
    cases hl
    refine ⟨its0.length, h35, h37, by rw [h38, List.length_append], by rw [List.length_append]; exact Nat.le_refl _, fun i it hi => ?_⟩
    rw [List.getElem?_append_right (Nat.le_add_right _ _), Nat.add_sub_cancel_left]
    exact hi
  · rw [List.getElem?_eq_none (by rw [List.length_append]; show ps.length + 1 ≤ li; omega)] at hl
    cases hl
theorem lX14_reads_161 (l : Launch) (hB : zH) (hWB : Wm hB) (e : Nat) (hCB : zC hB 17 = e + 1) (n : Nat) (B : Nat → Nat) (hXB : Tx hB 19 n B) (hnB : zI hB 1 0 20 = nI n) (N : Nat) (hT : Tkk (tkB B n) N) (f : Nat) (ih : ∀ (ps : List (Bool × List (Nat × Int32))) (its : List (Nat × Int32)) (i s : Nat) (h : zH), ps.length + f = 13 → ps.length ≤ 12 → i < N → s ≤ 60 → its.length ≤ i → LSt e hB h B n i s ps its → ∀ x2 x3, Wp l mX14_reads 36 32 [some (Vq (some (1, 0))), some (Vi 1), x2, x3] [] h (MTo e hB B n (progP (tkB B n) f ps i s))) (ps : List (Bool × List (Nat × Int32))) (hpf : ps.length + (f + 1) = 13) (hp12 : ps.length < 12) (b : Bool) (its0 : List (Nat × Int32)) (ys : List (Nat × Int32)) (j s : Nat) (h : zH) (hj : j < N) (h6 : s ≤ 60) (hl : its0.length + ys.length ≤ j) (hS : LSt e hB h B n j s ps (its0 ++ ys)) (h35 : zI h 35 e ps.length = (if b then 1 else 0)) (h37 : zI h 37 e ps.length = nI its0.length) (x3 : Option zV) : Wp l mX14_reads 36 161 [some (Vq (some (1, 0))), some (Vi 1), some (Vi (nI ps.length)), x3] [] h (MTo e hB B n (LEf (tkB B n) f ps b ys j s)) := by
  have hWM := Wm.same hS.1.1 hWB
  have hC : zC h 17 = e + 1 := by unfold zC; rw [hS.1.1]; exact hCB
  have hX : Tx h 19 n B := by unfold Tx; rw [hS.1.2.1 19 (by decide) (by decide) (by decide) (by decide) (by decide) (by decide) (by decide) (by decide) (by decide)]; exact hXB
  have hn : zI h 1 0 20 = nI n := by rw [hS.1.2.2.1 0 20 (by omega)]; exact hnB
  have hsp : zR h 1 0 16 = some (17, e) := by
    have h1 := hWM.2.2.1.2.1
    rw [hC] at h1
    exact h1
  obtain ⟨⟨w4, w5, w6, w7, w8, w9⟩, n35, n36, n37, n38, n39, n40⟩ := hWM.2.2.2.2 e (by omega)
  unfold LEf lineE
  refine w_aload_n (zat TX14_reads_1 25 rfl) rfl ?_
  refine w_ldcS (tx := "is") 4 (zat TX14_reads_1 26 rfl) (by decide +kernel) ?_
  refine x_callv2 (qX14_isWord l h (tkB B n j) hS.2.1.1 4 (by decide)) (by omega) kX14_isWord (rdy_V (zat TX14_reads_1 27 rfl) kX14_isWord pX14_isWord zw1256 zw1258 zw40 (zrc (by decide) (by decide) rfl)) (Nat.le_of_ble_eq_true rfl) rfl rfl ?_
  refine w_if_ne 176 (zat TX14_reads_1 28 rfl) (by decide) (fun Hc167 => ?_) (fun Hc167 => ?_)
  · rw [zb_0, Decidable.not_not] at Hc167
    rw [if_pos Hc167]
    have hon := hT.on hj (by omega) (by omega)
    refine w_aload_n (zat TX14_reads_1 33 rfl) rfl ?_
    refine x_call1 (qX14_next_p l h hWM e hC n B hX hn j s 0 (its0 ++ ys) h hS.pm (by omega)) (by omega) kX14_next (rdy_V (zat TX14_reads_1 34 rfl) kX14_next pX14_next zw1240 zw1242 zw38 (zrc (by decide) (by decide) rfl)) (Nat.le_of_ble_eq_true rfl) rfl rfl (fun v h4 hq => ?_) (fun r h4 hq => by cases hq.1)
    obtain ⟨hq1, hP4⟩ := hq
    cases hq1
    have hS4 := hS.go0 hP4
    have hWM4 := Wm.same hS4.1.1 hWB
    have hC4 : zC h4 17 = e + 1 := by unfold zC; rw [hS4.1.1]; exact hCB
    have hX4 : Tx h4 19 n B := by unfold Tx; rw [hS4.1.2.1 19 (by decide) (by decide) (by decide) (by decide) (by decide) (by decide) (by decide) (by decide) (by decide)]; exact hXB
    have hn4 : zI h4 1 0 20 = nI n := by rw [hS4.1.2.2.1 0 20 (by omega)]; exact hnB
    have hsp4 : zR h4 1 0 16 = some (17, e) := by
      have h1 := hWM4.2.2.1.2.1
      rw [hC4] at h1
      exact h1
    obtain ⟨⟨w44, w54, w64, w74, w84, w94⟩, n354, n364, n374, n384, n394, n404⟩ := hWM4.2.2.2.2 e (by omega)
    refine w_aload_n (zat TX14_reads_1 35 rfl) rfl ?_
    have hc := qX14_sum l h4 hWM4 e hC4 n B hX4 hn4 N hT 8 0 (by omega) (j + 1) s (its0 ++ ys) h4 hon h6 (by rw [List.length_append]; omega) hS4.pm
    cases hr : sumD (tkB B n) 8 (j + 1) s with
    | inl q =>
      rw [hr] at hc
      refine x_call1 (hc) (by omega) kX14_readSum (rdy_V (zat TX14_reads_1 36 rfl) kX14_readSum pX14_readSum zw1289 zw1291 zw45 (zrc (by decide) (by decide) rfl)) (Nat.le_of_ble_eq_true rfl) rfl rfl (fun v h9 hq => by cases hq.1) (fun r h9 hq => ?_)
      obtain ⟨hq1, hq2⟩ := hq
      cases hq1
      exact ⟨rfl, hS4.1.tr hq2.1.R, hq2.2.1, hq2.2.2⟩
    | inr r =>
      obtain ⟨zs, j2, sb⟩ := r
      rw [hr] at hc
      refine x_call1 (hc) (by omega) kX14_readSum (rdy_V (zat TX14_reads_1 36 rfl) kX14_readSum pX14_readSum zw1289 zw1291 zw45 (zrc (by decide) (by decide) rfl)) (Nat.le_of_ble_eq_true rfl) rfl rfl (fun v h5 hq => ?_) (fun r h5 hq => by cases hq.1)
      obtain ⟨hq1, hP5⟩ := hq
      cases hq1
      have hg := sumD_ok hT 8 (j + 1) s hon h6
      rw [hr] at hg
      obtain ⟨g1, g2, g3, g4, g5, g6⟩ := hg
      replace hP5 : Pm e h4 h5 B n j2 sb 0 (its0 ++ ys ++ zs) := hP5
      have hS5 := hS4.go hP5
      rw [List.append_assoc] at hS5
      have hWM5 := Wm.same hS5.1.1 hWB
      have hC5 : zC h5 17 = e + 1 := by unfold zC; rw [hS5.1.1]; exact hCB
      have hX5 : Tx h5 19 n B := by unfold Tx; rw [hS5.1.2.1 19 (by decide) (by decide) (by decide) (by decide) (by decide) (by decide) (by decide) (by decide) (by decide)]; exact hXB
      have hn5 : zI h5 1 0 20 = nI n := by rw [hS5.1.2.2.1 0 20 (by omega)]; exact hnB
      have hsp5 : zR h5 1 0 16 = some (17, e) := by
        have h1 := hWM5.2.2.1.2.1
        rw [hC5] at h1
        exact h1
      obtain ⟨⟨w45, w55, w65, w75, w85, w95⟩, n355, n365, n375, n385, n395, n405⟩ := hWM5.2.2.2.2 e (by omega)
      have hi5 : zI h5 17 e 3 = nI (its0 ++ (ys ++ zs)).length := hS5.2.2.2.2.1.1
      have hl5 : zI h5 17 e 2 = nI ps.length := hS5.2.2.2.2.2.1
      have h355 : zI h5 35 e ps.length = (if b then 1 else 0) := by
        rw [hP5.1.2.1 35 (by decide) (by decide) (by decide) (by decide) (by decide), hP4.1.2.1 35 (by decide) (by decide) (by decide) (by decide) (by decide)]
        exact h35
      have h375 : zI h5 37 e ps.length = nI its0.length := by
        rw [hP5.1.2.1 37 (by decide) (by decide) (by decide) (by decide) (by decide), hP4.1.2.1 37 (by decide) (by decide) (by decide) (by decide) (by decide)]
        exact h37
      have hSN : LSt e hB (zsI (zsI h5 38 e ps.length (nI (its0 ++ (ys ++ zs)).length)) 17 e 2 (nI (ps.length + 1))) B n j2 sb (ps ++ [(b, ys ++ zs)]) (its0 ++ (ys ++ zs)) := by
        obtain ⟨y1, ⟨m1, m2, m3⟩, y3, y4, y5, y6⟩ := hS5.ar 38 (by decide) (nI (its0 ++ (ys ++ zs)).length)
        have hz : ∀ j, zI (zsI (zsI h5 38 e ps.length (nI (its0 ++ (ys ++ zs)).length)) 17 e 2 (nI (ps.length + 1))) 1 0 j = zI (zsI h5 38 e ps.length (nI (its0 ++ (ys ++ zs)).length)) 1 0 j := fun j => zI_st _ 17 e 2 _ (by decide) 0 j
        refine ⟨y1.w 17 2 (by decide) _, ⟨m1.mv (hz 22) (hz 24) (hz 25) rfl, fun z => (hz 21).trans (m2 z), (hz 23).trans m3⟩, (hz 27).trans y3, (hz 26).trans y4, ⟨(zI_oth _ _ _ _ _ (by decide)).trans y5.1, fun k it hk => ⟨(zI_st _ 17 e 2 _ (by decide) e k).trans (y5.2 k it hk).1, (zI_st _ 17 e 2 _ (by decide) e k).trans (y5.2 k it hk).2⟩⟩, ?_⟩
        refine hS5.2.2.2.2.2.add (zI_same _ _ _ _ _) (fun j hj => ⟨?_, ?_, ?_⟩) ?_ ?_ ?_
        · exact (zI_st _ 17 e 2 _ (by decide) e j).trans (zI_st _ 38 e _ _ (by decide) e j)
        · exact (zI_st _ 17 e 2 _ (by decide) e j).trans (zI_st _ 38 e _ _ (by decide) e j)
        · exact (zI_st _ 17 e 2 _ (by decide) e j).trans (zI_oth _ _ _ _ _ (by omega))
        · exact ((zI_st _ 17 e 2 _ (by decide) e _).trans (zI_st _ 38 e _ _ (by decide) e _)).trans h355
        · exact ((zI_st _ 17 e 2 _ (by decide) e _).trans (zI_st _ 38 e _ _ (by decide) e _)).trans h375
        · exact (zI_st _ 17 e 2 _ (by decide) e _).trans (zI_same _ _ _ _ _)
      have hUN := hSN.2.1.1
      have hWMN := Wm.same hSN.1.1 hWB
      have hCN : zC (zsI (zsI h5 38 e ps.length (nI (its0 ++ (ys ++ zs)).length)) 17 e 2 (nI (ps.length + 1))) 17 = e + 1 := by unfold zC; rw [hSN.1.1]; exact hCB
      have hXN : Tx (zsI (zsI h5 38 e ps.length (nI (its0 ++ (ys ++ zs)).length)) 17 e 2 (nI (ps.length + 1))) 19 n B := by unfold Tx; rw [hSN.1.2.1 19 (by decide) (by decide) (by decide) (by decide) (by decide) (by decide) (by decide) (by decide) (by decide)]; exact hXB
      have hnN : zI (zsI (zsI h5 38 e ps.length (nI (its0 ++ (ys ++ zs)).length)) 17 e 2 (nI (ps.length + 1))) 1 0 20 = nI n := by rw [hSN.1.2.2.1 0 20 (by omega)]; exact hnB
      have hspN : zR (zsI (zsI h5 38 e ps.length (nI (its0 ++ (ys ++ zs)).length)) 17 e 2 (nI (ps.length + 1))) 1 0 16 = some (17, e) := by
        have h1 := hWMN.2.2.1.2.1
        rw [hCN] at h1
        exact h1
      obtain ⟨⟨w4N, w5N, w6N, w7N, w8N, w9N⟩, n35N, n36N, n37N, n38N, n39N, n40N⟩ := hWMN.2.2.2.2 e (by omega)
      show Wp _ _ _ _ _ _ _ (MTo e hB B n (if tkB B n j2 = 21 then .inr (ps ++ [(b, ys ++ zs)]) else if tkB B n j2 = 20 then progP (tkB B n) f (ps ++ [(b, ys ++ zs)]) (j2 + 1) sb else .inl (1, j2)))
      refine w_aload_n (zat TX14_reads_1 37 rfl) rfl ?_
      refine w_getR (zat TX14_reads_1 38 rfl) fX14_42 s1 (by decide) (by decide) rfl hsp5 ?_
      refine w_getR (zat TX14_reads_1 39 rfl) fX14_242 s17 (by decide) (by decide) rfl w75 ?_
      refine w_iload_n (zat TX14_reads_1 40 rfl) rfl ?_
      refine w_aload_n (zat TX14_reads_1 41 rfl) rfl ?_
      refine w_getR (zat TX14_reads_1 42 rfl) fX14_42 s1 (by decide) (by decide) rfl hsp5 ?_
      refine y_getI (v := nI (its0 ++ (ys ++ zs)).length) (zat TX14_reads_1 43 rfl) fX14_213 s17 (by decide) (by decide) rfl hi5 ?_
      refine x_iastore ps.length _ (zat TX14_reads_1 44 rfl) s38 (by decide) n385 (by decide) rfl (by omega) ?_
      refine w_aload_n (zat TX14_reads_1 45 rfl) rfl ?_
      refine w_getR (zat TX14_reads_1 46 rfl) fX14_42 s1 (by decide) (by decide) rfl hsp5 ?_
      refine w_dup (zat TX14_reads_1 47 rfl) rfl ?_
      refine y_getI (v := nI ps.length) (zat TX14_reads_1 48 rfl) fX14_210 s17 (by decide) (by decide) rfl ((zI_st _ 38 e _ _ (by decide) e 2).trans hl5) ?_
      refine w_iconst (v := 1) (zat TX14_reads_1 49 rfl) (by decide) ?_
      refine w_iadd (zat TX14_reads_1 50 rfl) ?_
      rw [nI_1]
      refine w_putI (zat TX14_reads_1 51 rfl) gX14_reads_210 s17 (by decide) (by decide) rfl ⟨rfl, rfl⟩ ?_
      refine w_aload_n (zat TX14_reads_1 52 rfl) rfl ?_
      refine w_bipush (v := 59) (zat TX14_reads_1 53 rfl) (by decide) ?_
      refine x_callv2 (qX14_is l (zsI (zsI h5 38 e ps.length (nI (its0 ++ (ys ++ zs)).length)) 17 e 2 (nI (ps.length + 1))) (tkB B n j2) hUN 20 (by omega) (by omega) 59 (by decide)) (by omega) kX14_is (rdy_V (zat TX14_reads_1 54 rfl) kX14_is pX14_is zw1275 zw1277 zw43 (zrc (by decide) (by decide) rfl)) (Nat.le_of_ble_eq_true rfl) rfl rfl ?_
      by_cases h20 : tkB B n j2 = 20
      · rw [zb_t h20]
        refine x_istore_n (ls2 := [_, _, _, _]) (zat TX14_reads_1 55 rfl) (by decide) rfl ?_
        rw [if_neg (by omega), if_pos h20]
        have hon2 := hT.on g1 (by omega) (by omega)
        refine w_iload_n (zat TX14_reads_1 56 rfl) rfl ?_
        refine w_if_eq 228 (zat TX14_reads_1 57 rfl) (by decide) (fun Hc221 => ?_) (fun Hc221 => ?_)
        · exact absurd Hc221 (by decide)
        · refine w_aload_n (zat TX14_reads_1 58 rfl) rfl ?_
          refine x_call1 (qX14_next_p l (zsI (zsI h5 38 e ps.length (nI (its0 ++ (ys ++ zs)).length)) 17 e 2 (nI (ps.length + 1))) hWMN e hCN n B hXN hnN j2 sb 0 (its0 ++ (ys ++ zs)) (zsI (zsI h5 38 e ps.length (nI (its0 ++ (ys ++ zs)).length)) 17 e 2 (nI (ps.length + 1))) hSN.pm (by omega)) (by omega) kX14_next (rdy_V (zat TX14_reads_1 59 rfl) kX14_next pX14_next zw1240 zw1242 zw38 (zrc (by decide) (by decide) rfl)) (Nat.le_of_ble_eq_true rfl) rfl rfl (fun v h7 hq => ?_) (fun r h7 hq => by cases hq.1)
          obtain ⟨hq1, hP6⟩ := hq
          cases hq1
          refine w_goto 32 (zat TX14_reads_2 0 rfl) (by decide) ?_
          refine ih (ps ++ [(b, ys ++ zs)]) (its0 ++ (ys ++ zs)) (j2 + 1) sb h7 ?_ ?_ hon2 g4 ?_ (hSN.go0 hP6) _ _
          · rw [List.length_append]; show ps.length + 1 + f = 13; omega
          · rw [List.length_append]; show ps.length + 1 ≤ 12; omega
          · rw [List.length_append, List.length_append]; omega
      · rw [zb_f h20]
        refine x_istore_n (ls2 := [_, _, _, _]) (zat TX14_reads_1 55 rfl) (by decide) rfl ?_
        refine w_iload_n (zat TX14_reads_1 56 rfl) rfl ?_
        refine w_if_eq 228 (zat TX14_reads_1 57 rfl) (by decide) (fun Hc221 => ?_) (fun Hc221 => ?_)
        · refine w_goto 32 (zat TX14_reads_2 0 rfl) (by decide) ?_
          refine w_iload_n (zat TX14_reads_0 18 rfl) rfl ?_
          refine w_if_eq 231 (zat TX14_reads_0 19 rfl) (by decide) (fun Hc33 => ?_) (fun Hc33 => ?_)
          · refine w_aload_n (zat TX14_reads_2 1 rfl) rfl ?_
            refine w_getI (zat TX14_reads_2 2 rfl) fX14_166 s1 (by decide) (by decide) rfl ?_
            refine w_iconst (v := 1) (zat TX14_reads_2 3 rfl) (by decide) ?_
            refine w_icmp_eq 245 (zat TX14_reads_2 4 rfl) (by decide) (fun Hc236 => ?_) (fun Hc236 => ?_)
            · rw [hUN.srt.1] at Hc236
              rw [if_pos Hc236]
              refine w_return (zat TX14_reads_2 9 rfl) rfl ?_
              refine ⟨rfl, hSN.1, _, ?_, hSN.2.2.2.2.1, hSN.2.2.2.2.2⟩
              rw [List.length_append, List.length_append]
              have := hT.2.1
              omega
            · rw [hUN.srt.1] at Hc236
              rw [if_neg Hc236, if_neg h20]
              refine w_aload_n (zat TX14_reads_2 5 rfl) rfl ?_
              refine w_iconst (v := 1) (zat TX14_reads_2 6 rfl) (by decide) ?_
              refine x_callv2 (qX14_stop l (zsI (zsI h5 38 e ps.length (nI (its0 ++ (ys ++ zs)).length)) 17 e 2 (nI (ps.length + 1))) hWMN 1) (by omega) kX14_stop (rdy_V (zat TX14_reads_2 7 rfl) kX14_stop pX14_stop zw1266 zw1268 zw41 (zrc (by decide) (by decide) rfl)) (Nat.le_of_ble_eq_true rfl) rfl rfl ?_
              refine w_athrow (zat TX14_reads_2 8 rfl) (zct_out rfl) ?_
              exact ⟨rfl, hSN.1.tr (hSN.pm.st 1).1.R, (hSN.pm.st 1).2.1, (hSN.pm.st 1).2.2⟩
          · exact absurd rfl Hc33
        · exact absurd rfl Hc221
  · rw [zb_0] at Hc167
    rw [if_neg Hc167]
    refine w_aload_n (zat TX14_reads_1 29 rfl) rfl ?_
    refine w_iconst (v := 1) (zat TX14_reads_1 30 rfl) (by decide) ?_
    refine x_callv2 (qX14_stop l h hWM 1) (by omega) kX14_stop (rdy_V (zat TX14_reads_1 31 rfl) kX14_stop pX14_stop zw1266 zw1268 zw41 (zrc (by decide) (by decide) rfl)) (Nat.le_of_ble_eq_true rfl) rfl rfl ?_
    refine w_athrow (zat TX14_reads_1 32 rfl) (zct_out rfl) ?_
    exact ⟨rfl, hS.1.tr (hS.pm.st 1).1.R, (hS.pm.st 1).2.1, (hS.pm.st 1).2.2⟩
theorem lX14_reads_142 (l : Launch) (hB : zH) (hWB : Wm hB) (e : Nat) (hCB : zC hB 17 = e + 1) (n : Nat) (B : Nat → Nat) (hXB : Tx hB 19 n B) (hnB : zI hB 1 0 20 = nI n) (N : Nat) (hT : Tkk (tkB B n) N) (f : Nat) (ih : ∀ (ps : List (Bool × List (Nat × Int32))) (its : List (Nat × Int32)) (i s : Nat) (h : zH), ps.length + f = 13 → ps.length ≤ 12 → i < N → s ≤ 60 → its.length ≤ i → LSt e hB h B n i s ps its → ∀ x2 x3, Wp l mX14_reads 36 32 [some (Vq (some (1, 0))), some (Vi 1), x2, x3] [] h (MTo e hB B n (progP (tkB B n) f ps i s))) (ps : List (Bool × List (Nat × Int32))) (hpf : ps.length + (f + 1) = 13) (hp12 : ps.length < 12) (b : Bool) (its0 : List (Nat × Int32)) : ∀ g c : Nat, c + g = 5 → c ≤ 4 → ∀ (ys : List (Nat × Int32)) (i s : Nat) (h : zH), i < N → (tkB B n i = 3 ∨ tkB B n i = 4) → s ≤ 60 → its0.length + ys.length ≤ i → LSt e hB h B n i s ps (its0 ++ ys) → zI h 35 e ps.length = (if b then 1 else 0) → zI h 37 e ps.length = nI its0.length → zI h 36 e ps.length = nI c → ∀ x3, Wp l mX14_reads 36 142 [some (Vq (some (1, 0))), some (Vi 1), some (Vi (nI ps.length)), x3] [] h (MTo e hB B n (LTf (tkB B n) f ps b (testsP (tkB B n) g ys i s))) := by
  intro g
  induction g with
  | zero =>
    intro c hc hc4
    omega
  | succ g ihg =>
    intro c hcg hc4 ys i s h hi hw h6 hl hS h35 h37 h36 x3
    have hon := hT.on hi (by omega) (by omega)
    have hWM := Wm.same hS.1.1 hWB
    have hC : zC h 17 = e + 1 := by unfold zC; rw [hS.1.1]; exact hCB
    have hX : Tx h 19 n B := by unfold Tx; rw [hS.1.2.1 19 (by decide) (by decide) (by decide) (by decide) (by decide) (by decide) (by decide) (by decide) (by decide)]; exact hXB
    have hn : zI h 1 0 20 = nI n := by rw [hS.1.2.2.1 0 20 (by omega)]; exact hnB
    have hsp : zR h 1 0 16 = some (17, e) := by
      have h1 := hWM.2.2.1.2.1
      rw [hC] at h1
      exact h1
    obtain ⟨⟨w4, w5, w6, w7, w8, w9⟩, n35, n36, n37, n38, n39, n40⟩ := hWM.2.2.2.2 e (by omega)
    refine w_aload_n (zat TX14_reads_1 15 rfl) rfl ?_
    refine x_call1 (qX14_next_p l h hWM e hC n B hX hn i s 0 (its0 ++ ys) h hS.pm (by omega)) (by omega) kX14_next (rdy_V (zat TX14_reads_1 16 rfl) kX14_next pX14_next zw1240 zw1242 zw38 (zrc (by decide) (by decide) rfl)) (Nat.le_of_ble_eq_true rfl) rfl rfl (fun v h4 hq => ?_) (fun r h4 hq => by cases hq.1)
    obtain ⟨hq1, hP4⟩ := hq
    cases hq1
    have hS4 := hS.go0 hP4
    have hWM4 := Wm.same hS4.1.1 hWB
    have hC4 : zC h4 17 = e + 1 := by unfold zC; rw [hS4.1.1]; exact hCB
    have hX4 : Tx h4 19 n B := by unfold Tx; rw [hS4.1.2.1 19 (by decide) (by decide) (by decide) (by decide) (by decide) (by decide) (by decide) (by decide) (by decide)]; exact hXB
    have hn4 : zI h4 1 0 20 = nI n := by rw [hS4.1.2.2.1 0 20 (by omega)]; exact hnB
    have hsp4 : zR h4 1 0 16 = some (17, e) := by
      have h1 := hWM4.2.2.1.2.1
      rw [hC4] at h1
      exact h1
    obtain ⟨⟨w44, w54, w64, w74, w84, w94⟩, n354, n364, n374, n384, n394, n404⟩ := hWM4.2.2.2.2 e (by omega)
    refine w_aload_n (zat TX14_reads_1 17 rfl) rfl ?_
    refine w_iload_n (zat TX14_reads_1 18 rfl) rfl ?_
    have hc := qX14_readTest l h4 hWM4 e hC4 n B hX4 hn4 N hT (i + 1) s (its0 ++ ys) hon h6 (by rw [List.length_append]; omega) hS4.pm ps.length c (by omega) hc4 (by rw [hP4.1.2.1 36 (by decide) (by decide) (by decide) (by decide) (by decide)]; exact h36)
    rw [show decide (c = 4) = decide (g = 0) by congr 1; exact propext ⟨fun z => by omega, fun z => by omega⟩] at hc
    rw [testsP_1]
    cases hr : tst1 (tkB B n) (decide (g = 0)) (i + 1) s with
    | inl q =>
      rw [hr] at hc
      refine x_call2 (hc) (by omega) kX14_readTest (rdy_V (zat TX14_reads_1 19 rfl) kX14_readTest pX14_readTest zw1271 zw1273 zw42 (zrc (by decide) (by decide) rfl)) (Nat.le_of_ble_eq_true rfl) rfl rfl (fun v h9 hq => by cases hq.1) (fun r h9 hq => ?_)
      obtain ⟨hq1, hq2⟩ := hq
      cases hq1
      exact ⟨rfl, hS4.1.tr hq2.1.R, hq2.2.1, hq2.2.2⟩
    | inr r =>
      obtain ⟨zs, j2, sb⟩ := r
      rw [hr] at hc
      refine x_call2 (hc) (by omega) kX14_readTest (rdy_V (zat TX14_reads_1 19 rfl) kX14_readTest pX14_readTest zw1271 zw1273 zw42 (zrc (by decide) (by decide) rfl)) (Nat.le_of_ble_eq_true rfl) rfl rfl (fun v h9 hq => ?_) (fun r h9 hq => by cases hq.1)
      have hk := tst1_ok hT (decide (g = 0)) (i + 1) s hon h6 hr
      obtain ⟨k1, k2, k3⟩ := hk
      have hg0 : ¬ g = 0 := fun z => by
        rw [z] at hr
        unfold tst1 at hr
        by_cases hf0 : fo (tkB B n (i + 1)) = 0
        · rw [if_pos hf0, if_pos (decide_eq_true rfl)] at hr; cases hr
        · rw [if_neg hf0] at hr; cases hr
      obtain ⟨hq1, h5, hP5, h365, hq3⟩ := hq
      cases hq1
      rw [hq3]
      replace hP5 : Pm e h4 h5 B n j2 sb 0 (its0 ++ ys ++ zs) := hP5
      have hS5 := hS4.go hP5
      rw [List.append_assoc] at hS5
      have hS6 := hS5.ar 36 (by decide) (nI (c + 1))
      have hU6 := hS6.2.1.1
      have h356 : zI (zsI h5 36 e ps.length (nI (c + 1))) 35 e ps.length = (if b then 1 else 0) := by
        rw [zI_st _ 36 e _ _ (by decide), hP5.1.2.1 35 (by decide) (by decide) (by decide) (by decide) (by decide), hP4.1.2.1 35 (by decide) (by decide) (by decide) (by decide) (by decide)]
        exact h35
      have h376 : zI (zsI h5 36 e ps.length (nI (c + 1))) 37 e ps.length = nI its0.length := by
        rw [zI_st _ 36 e _ _ (by decide), hP5.1.2.1 37 (by decide) (by decide) (by decide) (by decide) (by decide), hP4.1.2.1 37 (by decide) (by decide) (by decide) (by decide) (by decide)]
        exact h37
      show Wp _ _ _ _ _ _ _ (MTo e hB B n (LTf (tkB B n) f ps b (if tkB B n j2 = 4 then testsP (tkB B n) g (ys ++ zs) j2 sb else .inr (ys ++ zs, j2, sb))))
      refine w_aload_n (zat TX14_reads_1 20 rfl) rfl ?_
      refine w_ldcS (tx := "and") 3 (zat TX14_reads_1 21 rfl) (by decide +kernel) ?_
      refine x_callv2 (qX14_isWord l _ (tkB B n j2) hU6 3 (by decide)) (by omega) kX14_isWord (rdy_V (zat TX14_reads_1 22 rfl) kX14_isWord pX14_isWord zw1256 zw1258 zw40 (zrc (by decide) (by decide) rfl)) (Nat.le_of_ble_eq_true rfl) rfl rfl ?_
      by_cases h4a : tkB B n j2 = 4
      · rw [zb_t h4a, if_pos h4a]
        refine x_istore_n (ls2 := [_, _, _, _]) (zat TX14_reads_1 23 rfl) (by decide) rfl ?_
        refine w_goto 138 (zat TX14_reads_1 24 rfl) (by decide) ?_
        refine w_iload_n (zat TX14_reads_1 13 rfl) rfl ?_
        refine w_if_eq 161 (zat TX14_reads_1 14 rfl) (by decide) (fun Hc139 => ?_) (fun Hc139 => ?_)
        · exact absurd Hc139 (by decide)
        · exact ihg (c + 1) (by omega) (by omega) (ys ++ zs) j2 sb _ k1 (Or.inr h4a) k3 (by rw [List.length_append]; omega) hS6 h356 h376 (zI_same _ _ _ _ _) _
      · rw [zb_f h4a, if_neg h4a]
        refine x_istore_n (ls2 := [_, _, _, _]) (zat TX14_reads_1 23 rfl) (by decide) rfl ?_
        refine w_goto 138 (zat TX14_reads_1 24 rfl) (by decide) ?_
        refine w_iload_n (zat TX14_reads_1 13 rfl) rfl ?_
        refine w_if_eq 161 (zat TX14_reads_1 14 rfl) (by decide) (fun Hc139 => ?_) (fun Hc139 => ?_)
        · exact lX14_reads_161 l hB hWB e hCB n B hXB hnB N hT f ih ps hpf hp12 b its0 (ys ++ zs) j2 sb _ k1 k3 (by rw [List.length_append]; omega) hS6 h356 h376 _
        · exact absurd rfl Hc139
theorem lX14_reads_32 (l : Launch) (hB : zH) (hWB : Wm hB) (e : Nat) (hCB : zC hB 17 = e + 1) (n : Nat) (B : Nat → Nat) (hXB : Tx hB 19 n B) (hnB : zI hB 1 0 20 = nI n) (N : Nat) (hT : Tkk (tkB B n) N) : ∀ f : Nat, ∀ (ps : List (Bool × List (Nat × Int32))) (its : List (Nat × Int32)) (i s : Nat) (h : zH), ps.length + f = 13 → ps.length ≤ 12 → i < N → s ≤ 60 → its.length ≤ i → LSt e hB h B n i s ps its → ∀ x2 x3, Wp l mX14_reads 36 32 [some (Vq (some (1, 0))), some (Vi 1), x2, x3] [] h (MTo e hB B n (progP (tkB B n) f ps i s)) := by
  intro f
  induction f with
  | zero =>
    intro ps its i s h hpf hp12
    omega
  | succ f ih =>
    intro ps its i s h hpf hp12b hi h6 hl hS x2 x3
    have hln : zI h 17 e 2 = nI ps.length := hS.2.2.2.2.2.1
    have hWM := Wm.same hS.1.1 hWB
    have hC : zC h 17 = e + 1 := by unfold zC; rw [hS.1.1]; exact hCB
    have hX : Tx h 19 n B := by unfold Tx; rw [hS.1.2.1 19 (by decide) (by decide) (by decide) (by decide) (by decide) (by decide) (by decide) (by decide) (by decide)]; exact hXB
    have hn : zI h 1 0 20 = nI n := by rw [hS.1.2.2.1 0 20 (by omega)]; exact hnB
    have hsp : zR h 1 0 16 = some (17, e) := by
      have h1 := hWM.2.2.1.2.1
      rw [hC] at h1
      exact h1
    obtain ⟨⟨w4, w5, w6, w7, w8, w9⟩, n35, n36, n37, n38, n39, n40⟩ := hWM.2.2.2.2 e (by omega)
    refine w_iload_n (zat TX14_reads_0 18 rfl) rfl ?_
    refine w_if_eq 231 (zat TX14_reads_0 19 rfl) (by decide) (fun Hc33 => ?_) (fun Hc33 => ?_)
    · exact absurd Hc33 (by decide)
    · refine w_aload_n (zat TX14_reads_0 20 rfl) rfl ?_
      refine w_ldcS (tx := "price") 0 (zat TX14_reads_0 21 rfl) (by decide +kernel) ?_
      refine x_callv2 (qX14_isWord l h (tkB B n i) hS.2.1.1 0 (by decide)) (by omega) kX14_isWord (rdy_V (zat TX14_reads_0 22 rfl) kX14_isWord pX14_isWord zw1256 zw1258 zw40 (zrc (by decide) (by decide) rfl)) (Nat.le_of_ble_eq_true rfl) rfl rfl ?_
      refine w_if_ne 60 (zat TX14_reads_0 23 rfl) (by decide) (fun Hc42 => ?_) (fun Hc42 => ?_)
      · rw [zb_0, Decidable.not_not] at Hc42
        have hk12 : tkB B n i = 1 ∨ tkB B n i = 2 := Or.inl Hc42
        refine w_aload_n (zat TX14_reads_0 32 rfl) rfl ?_
        refine w_getR (zat TX14_reads_0 33 rfl) fX14_42 s1 (by decide) (by decide) rfl hsp ?_
        refine y_getI (v := nI ps.length) (zat TX14_reads_0 34 rfl) fX14_210 s17 (by decide) (by decide) rfl hln ?_
        refine w_bipush (v := 12) (zat TX14_reads_0 35 rfl) (by decide) ?_
        refine w_icmp_ne 78 (zat TX14_reads_0 36 rfl) (by decide) (fun Hc69 => ?_) (fun Hc69 => ?_)
        · have h12 : ¬ ps.length = 12 := fun z => Hc69 (by rw [z]; rfl)
          have hp12 : ps.length < 12 := by omega
          have hL1 := hS.ar 35 (by decide) (zb (tkB B n i = 2))
          have hL2 := hL1.ar 36 (by decide) 0
          have hL3 := hL2.ar 37 (by decide) (nI its.length)
          have h35L : zI (zsI (zsI (zsI h 35 e ps.length (zb (tkB B n i = 2))) 36 e ps.length 0) 37 e ps.length (nI its.length)) 35 e ps.length = (if (decide (tkB B n i = 2)) then 1 else 0) := by
            rw [zI_st _ 37 e _ _ (by decide), zI_st _ 36 e _ _ (by decide), zI_same, zb_dec]
          have h36L : zI (zsI (zsI (zsI h 35 e ps.length (zb (tkB B n i = 2))) 36 e ps.length 0) 37 e ps.length (nI its.length)) 36 e ps.length = nI 0 := by
            rw [zI_st _ 37 e _ _ (by decide), zI_same]
            rfl
          have h37L : zI (zsI (zsI (zsI h 35 e ps.length (zb (tkB B n i = 2))) 36 e ps.length 0) 37 e ps.length (nI its.length)) 37 e ps.length = nI its.length := zI_same _ _ _ _ _
          have hon := hT.on hi (by omega) (by omega)
          have hWML := Wm.same hL3.1.1 hWB
          have hCL : zC (zsI (zsI (zsI h 35 e ps.length (zb (tkB B n i = 2))) 36 e ps.length 0) 37 e ps.length (nI its.length)) 17 = e + 1 := by unfold zC; rw [hL3.1.1]; exact hCB
          have hXL : Tx (zsI (zsI (zsI h 35 e ps.length (zb (tkB B n i = 2))) 36 e ps.length 0) 37 e ps.length (nI its.length)) 19 n B := by unfold Tx; rw [hL3.1.2.1 19 (by decide) (by decide) (by decide) (by decide) (by decide) (by decide) (by decide) (by decide) (by decide)]; exact hXB
          have hnL : zI (zsI (zsI (zsI h 35 e ps.length (zb (tkB B n i = 2))) 36 e ps.length 0) 37 e ps.length (nI its.length)) 1 0 20 = nI n := by rw [hL3.1.2.2.1 0 20 (by omega)]; exact hnB
          have hspL : zR (zsI (zsI (zsI h 35 e ps.length (zb (tkB B n i = 2))) 36 e ps.length 0) 37 e ps.length (nI its.length)) 1 0 16 = some (17, e) := by
            have h1 := hWML.2.2.1.2.1
            rw [hCL] at h1
            exact h1
          obtain ⟨⟨w4L, w5L, w6L, w7L, w8L, w9L⟩, n35L, n36L, n37L, n38L, n39L, n40L⟩ := hWML.2.2.2.2 e (by omega)
          refine w_aload_n (zat TX14_reads_0 41 rfl) rfl ?_
          refine w_getR (zat TX14_reads_0 42 rfl) fX14_42 s1 (by decide) (by decide) rfl hsp ?_
          refine y_getI (v := nI ps.length) (zat TX14_reads_0 43 rfl) fX14_210 s17 (by decide) (by decide) rfl hln ?_
          refine x_istore_n (ls2 := [_, _, _, _]) (zat TX14_reads_0 44 rfl) (by decide) rfl ?_
          refine w_aload_n (zat TX14_reads_0 45 rfl) rfl ?_
          refine w_getR (zat TX14_reads_0 46 rfl) fX14_42 s1 (by decide) (by decide) rfl hsp ?_
          refine w_getR (zat TX14_reads_0 47 rfl) fX14_225 s17 (by decide) (by decide) rfl w4 ?_
          refine w_iload_n (zat TX14_reads_0 48 rfl) rfl ?_
          refine w_aload_n (zat TX14_reads_0 49 rfl) rfl ?_
          refine w_ldcS (tx := "duty") 1 (zat TX14_reads_0 50 rfl) (by decide +kernel) ?_
          refine x_callv2 (qX14_isWord l h (tkB B n i) hS.2.1.1 1 (by decide)) (by omega) kX14_isWord (rdy_V (zat TX14_reads_0 51 rfl) kX14_isWord pX14_isWord zw1256 zw1258 zw40 (zrc (by decide) (by decide) rfl)) (Nat.le_of_ble_eq_true rfl) rfl rfl ?_
          
          refine x_zastore ps.length _ (zat TX14_reads_0 52 rfl) s35 (by decide) n35 (by decide) rfl (by omega) ?_
          refine w_aload_n (zat TX14_reads_0 53 rfl) rfl ?_
          rw [vb_nar]
          refine w_getR (zat TX14_reads_0 54 rfl) fX14_42 s1 (by decide) (by decide) rfl hsp ?_
          refine w_getR (zat TX14_reads_0 55 rfl) fX14_229 s17 (by decide) (by decide) rfl w5 ?_
          refine w_iload_n (zat TX14_reads_0 56 rfl) rfl ?_
          refine w_iconst (v := 0) (zat TX14_reads_0 57 rfl) (by decide) ?_
          refine x_iastore ps.length _ (zat TX14_reads_0 58 rfl) s36 (by decide) n36 (by decide) rfl (by omega) ?_
          refine w_aload_n (zat TX14_reads_0 59 rfl) rfl ?_
          refine w_getR (zat TX14_reads_1 0 rfl) fX14_42 s1 (by decide) (by decide) rfl hsp ?_
          refine w_getR (zat TX14_reads_1 1 rfl) fX14_232 s17 (by decide) (by decide) rfl w6 ?_
          refine w_iload_n (zat TX14_reads_1 2 rfl) rfl ?_
          refine w_aload_n (zat TX14_reads_1 3 rfl) rfl ?_
          refine w_getR (zat TX14_reads_1 4 rfl) fX14_42 s1 (by decide) (by decide) rfl hsp ?_
          refine y_getI (v := nI its.length) (zat TX14_reads_1 5 rfl) fX14_213 s17 (by decide) (by decide) rfl ((zI_st _ 36 e _ _ (by decide) e 3).trans ((zI_st _ 35 e _ _ (by decide) e 3).trans hS.2.2.2.2.1.1)) ?_
          refine x_iastore ps.length _ (zat TX14_reads_1 6 rfl) s37 (by decide) n37 (by decide) rfl (by omega) ?_
          refine w_aload_n (zat TX14_reads_1 7 rfl) rfl ?_
          refine x_call1 (qX14_next_p l (zsI (zsI (zsI h 35 e ps.length (zb (tkB B n i = 2))) 36 e ps.length 0) 37 e ps.length (nI its.length)) hWML e hCL n B hXL hnL i s 0 its (zsI (zsI (zsI h 35 e ps.length (zb (tkB B n i = 2))) 36 e ps.length 0) 37 e ps.length (nI its.length)) hL3.pm (by omega)) (by omega) kX14_next (rdy_V (zat TX14_reads_1 8 rfl) kX14_next pX14_next zw1240 zw1242 zw38 (zrc (by decide) (by decide) rfl)) (Nat.le_of_ble_eq_true rfl) rfl rfl (fun v h4 hq => ?_) (fun r h4 hq => by cases hq.1)
          obtain ⟨hq1, hP4⟩ := hq
          cases hq1
          have hS4 := hL3.go0 hP4
          have h354 : zI h4 35 e ps.length = (if (decide (tkB B n i = 2)) then 1 else 0) := by rw [hP4.1.2.1 35 (by decide) (by decide) (by decide) (by decide) (by decide)]; exact h35L
          have h364 : zI h4 36 e ps.length = nI 0 := by rw [hP4.1.2.1 36 (by decide) (by decide) (by decide) (by decide) (by decide)]; exact h36L
          have h374 : zI h4 37 e ps.length = nI its.length := by rw [hP4.1.2.1 37 (by decide) (by decide) (by decide) (by decide) (by decide)]; exact h37L
          refine w_aload_n (zat TX14_reads_1 9 rfl) rfl ?_
          refine w_ldcS (tx := "when") 2 (zat TX14_reads_1 10 rfl) (by decide +kernel) ?_
          refine x_callv2 (qX14_isWord l h4 (tkB B n (i + 1)) hS4.2.1.1 2 (by decide)) (by omega) kX14_isWord (rdy_V (zat TX14_reads_1 11 rfl) kX14_isWord pX14_isWord zw1256 zw1258 zw40 (zrc (by decide) (by decide) rfl)) (Nat.le_of_ble_eq_true rfl) rfl rfl ?_
          by_cases h3 : tkB B n (i + 1) = 3
          · rw [zb_t h3, progP_w hk12 (by omega) h3]
            refine x_istore_n (ls2 := [_, _, _, _]) (zat TX14_reads_1 12 rfl) (by decide) rfl ?_
            refine w_iload_n (zat TX14_reads_1 13 rfl) rfl ?_
            refine w_if_eq 161 (zat TX14_reads_1 14 rfl) (by decide) (fun Hc139 => ?_) (fun Hc139 => ?_)
            · exact absurd Hc139 (by decide)
            · exact lX14_reads_142 l hB hWB e hCB n B hXB hnB N hT f ih ps hpf hp12 (decide (tkB B n i = 2)) its 5 0 (by omega) (by omega) [] (i + 1) s h4 hon (Or.inl h3) h6 (by show its.length + 0 ≤ i + 1; omega) (by rw [List.append_nil]; exact hS4) h354 h374 h364 _
          · rw [zb_f h3, progP_v hk12 (by omega) h3]
            refine x_istore_n (ls2 := [_, _, _, _]) (zat TX14_reads_1 12 rfl) (by decide) rfl ?_
            refine w_iload_n (zat TX14_reads_1 13 rfl) rfl ?_
            refine w_if_eq 161 (zat TX14_reads_1 14 rfl) (by decide) (fun Hc139 => ?_) (fun Hc139 => ?_)
            · exact lX14_reads_161 l hB hWB e hCB n B hXB hnB N hT f ih ps hpf hp12 (decide (tkB B n i = 2)) its [] (i + 1) s h4 hon h6 (by show its.length + 0 ≤ i + 1; omega) (by rw [List.append_nil]; exact hS4) h354 h374 _
            · exact absurd rfl Hc139
        · have h12 : ps.length = 12 := nIe (b := 12) (by omega) (by omega) Hc69
          rw [progP_m hk12 (by omega)]
          refine w_aload_n (zat TX14_reads_0 37 rfl) rfl ?_
          refine w_iconst (v := 3) (zat TX14_reads_0 38 rfl) (by decide) ?_
          refine x_callv2 (qX14_stop l h hWM 3) (by omega) kX14_stop (rdy_V (zat TX14_reads_0 39 rfl) kX14_stop pX14_stop zw1266 zw1268 zw41 (zrc (by decide) (by decide) rfl)) (Nat.le_of_ble_eq_true rfl) rfl rfl ?_
          refine w_athrow (zat TX14_reads_0 40 rfl) (zct_out rfl) ?_
          exact ⟨rfl, hS.1.tr (hS.pm.st 3).1.R, (hS.pm.st 3).2.1, (hS.pm.st 3).2.2⟩
      · rw [zb_0] at Hc42
        refine w_aload_n (zat TX14_reads_0 24 rfl) rfl ?_
        refine w_ldcS (tx := "duty") 1 (zat TX14_reads_0 25 rfl) (by decide +kernel) ?_
        refine x_callv2 (qX14_isWord l h (tkB B n i) hS.2.1.1 1 (by decide)) (by omega) kX14_isWord (rdy_V (zat TX14_reads_0 26 rfl) kX14_isWord pX14_isWord zw1256 zw1258 zw40 (zrc (by decide) (by decide) rfl)) (Nat.le_of_ble_eq_true rfl) rfl rfl ?_
        refine w_if_ne 60 (zat TX14_reads_0 27 rfl) (by decide) (fun Hc51 => ?_) (fun Hc51 => ?_)
        · rw [zb_0, Decidable.not_not] at Hc51
          have hk12 : tkB B n i = 1 ∨ tkB B n i = 2 := Or.inr Hc51
          refine w_aload_n (zat TX14_reads_0 32 rfl) rfl ?_
          refine w_getR (zat TX14_reads_0 33 rfl) fX14_42 s1 (by decide) (by decide) rfl hsp ?_
          refine y_getI (v := nI ps.length) (zat TX14_reads_0 34 rfl) fX14_210 s17 (by decide) (by decide) rfl hln ?_
          refine w_bipush (v := 12) (zat TX14_reads_0 35 rfl) (by decide) ?_
          refine w_icmp_ne 78 (zat TX14_reads_0 36 rfl) (by decide) (fun Hc69 => ?_) (fun Hc69 => ?_)
          · have h12 : ¬ ps.length = 12 := fun z => Hc69 (by rw [z]; rfl)
            have hp12 : ps.length < 12 := by omega
            have hL1 := hS.ar 35 (by decide) (zb (tkB B n i = 2))
            have hL2 := hL1.ar 36 (by decide) 0
            have hL3 := hL2.ar 37 (by decide) (nI its.length)
            have h35L : zI (zsI (zsI (zsI h 35 e ps.length (zb (tkB B n i = 2))) 36 e ps.length 0) 37 e ps.length (nI its.length)) 35 e ps.length = (if (decide (tkB B n i = 2)) then 1 else 0) := by
              rw [zI_st _ 37 e _ _ (by decide), zI_st _ 36 e _ _ (by decide), zI_same, zb_dec]
            have h36L : zI (zsI (zsI (zsI h 35 e ps.length (zb (tkB B n i = 2))) 36 e ps.length 0) 37 e ps.length (nI its.length)) 36 e ps.length = nI 0 := by
              rw [zI_st _ 37 e _ _ (by decide), zI_same]
              rfl
            have h37L : zI (zsI (zsI (zsI h 35 e ps.length (zb (tkB B n i = 2))) 36 e ps.length 0) 37 e ps.length (nI its.length)) 37 e ps.length = nI its.length := zI_same _ _ _ _ _
            have hon := hT.on hi (by omega) (by omega)
            have hWML := Wm.same hL3.1.1 hWB
            have hCL : zC (zsI (zsI (zsI h 35 e ps.length (zb (tkB B n i = 2))) 36 e ps.length 0) 37 e ps.length (nI its.length)) 17 = e + 1 := by unfold zC; rw [hL3.1.1]; exact hCB
            have hXL : Tx (zsI (zsI (zsI h 35 e ps.length (zb (tkB B n i = 2))) 36 e ps.length 0) 37 e ps.length (nI its.length)) 19 n B := by unfold Tx; rw [hL3.1.2.1 19 (by decide) (by decide) (by decide) (by decide) (by decide) (by decide) (by decide) (by decide) (by decide)]; exact hXB
            have hnL : zI (zsI (zsI (zsI h 35 e ps.length (zb (tkB B n i = 2))) 36 e ps.length 0) 37 e ps.length (nI its.length)) 1 0 20 = nI n := by rw [hL3.1.2.2.1 0 20 (by omega)]; exact hnB
            have hspL : zR (zsI (zsI (zsI h 35 e ps.length (zb (tkB B n i = 2))) 36 e ps.length 0) 37 e ps.length (nI its.length)) 1 0 16 = some (17, e) := by
              have h1 := hWML.2.2.1.2.1
              rw [hCL] at h1
              exact h1
            obtain ⟨⟨w4L, w5L, w6L, w7L, w8L, w9L⟩, n35L, n36L, n37L, n38L, n39L, n40L⟩ := hWML.2.2.2.2 e (by omega)
            refine w_aload_n (zat TX14_reads_0 41 rfl) rfl ?_
            refine w_getR (zat TX14_reads_0 42 rfl) fX14_42 s1 (by decide) (by decide) rfl hsp ?_
            refine y_getI (v := nI ps.length) (zat TX14_reads_0 43 rfl) fX14_210 s17 (by decide) (by decide) rfl hln ?_
            refine x_istore_n (ls2 := [_, _, _, _]) (zat TX14_reads_0 44 rfl) (by decide) rfl ?_
            refine w_aload_n (zat TX14_reads_0 45 rfl) rfl ?_
            refine w_getR (zat TX14_reads_0 46 rfl) fX14_42 s1 (by decide) (by decide) rfl hsp ?_
            refine w_getR (zat TX14_reads_0 47 rfl) fX14_225 s17 (by decide) (by decide) rfl w4 ?_
            refine w_iload_n (zat TX14_reads_0 48 rfl) rfl ?_
            refine w_aload_n (zat TX14_reads_0 49 rfl) rfl ?_
            refine w_ldcS (tx := "duty") 1 (zat TX14_reads_0 50 rfl) (by decide +kernel) ?_
            refine x_callv2 (qX14_isWord l h (tkB B n i) hS.2.1.1 1 (by decide)) (by omega) kX14_isWord (rdy_V (zat TX14_reads_0 51 rfl) kX14_isWord pX14_isWord zw1256 zw1258 zw40 (zrc (by decide) (by decide) rfl)) (Nat.le_of_ble_eq_true rfl) rfl rfl ?_
            
            refine x_zastore ps.length _ (zat TX14_reads_0 52 rfl) s35 (by decide) n35 (by decide) rfl (by omega) ?_
            refine w_aload_n (zat TX14_reads_0 53 rfl) rfl ?_
            rw [vb_nar]
            refine w_getR (zat TX14_reads_0 54 rfl) fX14_42 s1 (by decide) (by decide) rfl hsp ?_
            refine w_getR (zat TX14_reads_0 55 rfl) fX14_229 s17 (by decide) (by decide) rfl w5 ?_
            refine w_iload_n (zat TX14_reads_0 56 rfl) rfl ?_
            refine w_iconst (v := 0) (zat TX14_reads_0 57 rfl) (by decide) ?_
            refine x_iastore ps.length _ (zat TX14_reads_0 58 rfl) s36 (by decide) n36 (by decide) rfl (by omega) ?_
            refine w_aload_n (zat TX14_reads_0 59 rfl) rfl ?_
            refine w_getR (zat TX14_reads_1 0 rfl) fX14_42 s1 (by decide) (by decide) rfl hsp ?_
            refine w_getR (zat TX14_reads_1 1 rfl) fX14_232 s17 (by decide) (by decide) rfl w6 ?_
            refine w_iload_n (zat TX14_reads_1 2 rfl) rfl ?_
            refine w_aload_n (zat TX14_reads_1 3 rfl) rfl ?_
            refine w_getR (zat TX14_reads_1 4 rfl) fX14_42 s1 (by decide) (by decide) rfl hsp ?_
            refine y_getI (v := nI its.length) (zat TX14_reads_1 5 rfl) fX14_213 s17 (by decide) (by decide) rfl ((zI_st _ 36 e _ _ (by decide) e 3).trans ((zI_st _ 35 e _ _ (by decide) e 3).trans hS.2.2.2.2.1.1)) ?_
            refine x_iastore ps.length _ (zat TX14_reads_1 6 rfl) s37 (by decide) n37 (by decide) rfl (by omega) ?_
            refine w_aload_n (zat TX14_reads_1 7 rfl) rfl ?_
            refine x_call1 (qX14_next_p l (zsI (zsI (zsI h 35 e ps.length (zb (tkB B n i = 2))) 36 e ps.length 0) 37 e ps.length (nI its.length)) hWML e hCL n B hXL hnL i s 0 its (zsI (zsI (zsI h 35 e ps.length (zb (tkB B n i = 2))) 36 e ps.length 0) 37 e ps.length (nI its.length)) hL3.pm (by omega)) (by omega) kX14_next (rdy_V (zat TX14_reads_1 8 rfl) kX14_next pX14_next zw1240 zw1242 zw38 (zrc (by decide) (by decide) rfl)) (Nat.le_of_ble_eq_true rfl) rfl rfl (fun v h4 hq => ?_) (fun r h4 hq => by cases hq.1)
            obtain ⟨hq1, hP4⟩ := hq
            cases hq1
            have hS4 := hL3.go0 hP4
            have h354 : zI h4 35 e ps.length = (if (decide (tkB B n i = 2)) then 1 else 0) := by rw [hP4.1.2.1 35 (by decide) (by decide) (by decide) (by decide) (by decide)]; exact h35L
            have h364 : zI h4 36 e ps.length = nI 0 := by rw [hP4.1.2.1 36 (by decide) (by decide) (by decide) (by decide) (by decide)]; exact h36L
            have h374 : zI h4 37 e ps.length = nI its.length := by rw [hP4.1.2.1 37 (by decide) (by decide) (by decide) (by decide) (by decide)]; exact h37L
            refine w_aload_n (zat TX14_reads_1 9 rfl) rfl ?_
            refine w_ldcS (tx := "when") 2 (zat TX14_reads_1 10 rfl) (by decide +kernel) ?_
            refine x_callv2 (qX14_isWord l h4 (tkB B n (i + 1)) hS4.2.1.1 2 (by decide)) (by omega) kX14_isWord (rdy_V (zat TX14_reads_1 11 rfl) kX14_isWord pX14_isWord zw1256 zw1258 zw40 (zrc (by decide) (by decide) rfl)) (Nat.le_of_ble_eq_true rfl) rfl rfl ?_
            by_cases h3 : tkB B n (i + 1) = 3
            · rw [zb_t h3, progP_w hk12 (by omega) h3]
              refine x_istore_n (ls2 := [_, _, _, _]) (zat TX14_reads_1 12 rfl) (by decide) rfl ?_
              refine w_iload_n (zat TX14_reads_1 13 rfl) rfl ?_
              refine w_if_eq 161 (zat TX14_reads_1 14 rfl) (by decide) (fun Hc139 => ?_) (fun Hc139 => ?_)
              · exact absurd Hc139 (by decide)
              · exact lX14_reads_142 l hB hWB e hCB n B hXB hnB N hT f ih ps hpf hp12 (decide (tkB B n i = 2)) its 5 0 (by omega) (by omega) [] (i + 1) s h4 hon (Or.inl h3) h6 (by show its.length + 0 ≤ i + 1; omega) (by rw [List.append_nil]; exact hS4) h354 h374 h364 _
            · rw [zb_f h3, progP_v hk12 (by omega) h3]
              refine x_istore_n (ls2 := [_, _, _, _]) (zat TX14_reads_1 12 rfl) (by decide) rfl ?_
              refine w_iload_n (zat TX14_reads_1 13 rfl) rfl ?_
              refine w_if_eq 161 (zat TX14_reads_1 14 rfl) (by decide) (fun Hc139 => ?_) (fun Hc139 => ?_)
              · exact lX14_reads_161 l hB hWB e hCB n B hXB hnB N hT f ih ps hpf hp12 (decide (tkB B n i = 2)) its [] (i + 1) s h4 hon h6 (by show its.length + 0 ≤ i + 1; omega) (by rw [List.append_nil]; exact hS4) h354 h374 _
              · exact absurd rfl Hc139
          · have h12 : ps.length = 12 := nIe (b := 12) (by omega) (by omega) Hc69
            rw [progP_m hk12 (by omega)]
            refine w_aload_n (zat TX14_reads_0 37 rfl) rfl ?_
            refine w_iconst (v := 3) (zat TX14_reads_0 38 rfl) (by decide) ?_
            refine x_callv2 (qX14_stop l h hWM 3) (by omega) kX14_stop (rdy_V (zat TX14_reads_0 39 rfl) kX14_stop pX14_stop zw1266 zw1268 zw41 (zrc (by decide) (by decide) rfl)) (Nat.le_of_ble_eq_true rfl) rfl rfl ?_
            refine w_athrow (zat TX14_reads_0 40 rfl) (zct_out rfl) ?_
            exact ⟨rfl, hS.1.tr (hS.pm.st 3).1.R, (hS.pm.st 3).2.1, (hS.pm.st 3).2.2⟩
        · rw [zb_0] at Hc51
          rw [progP_n (fun z => z.elim Hc42 Hc51)]
          refine w_aload_n (zat TX14_reads_0 28 rfl) rfl ?_
          refine w_iconst (v := 1) (zat TX14_reads_0 29 rfl) (by decide) ?_
          refine x_callv2 (qX14_stop l h hWM 1) (by omega) kX14_stop (rdy_V (zat TX14_reads_0 30 rfl) kX14_stop pX14_stop zw1266 zw1268 zw41 (zrc (by decide) (by decide) rfl)) (Nat.le_of_ble_eq_true rfl) rfl rfl ?_
          refine w_athrow (zat TX14_reads_0 31 rfl) (zct_out rfl) ?_
          exact ⟨rfl, hS.1.tr (hS.pm.st 1).1.R, (hS.pm.st 1).2.1, (hS.pm.st 1).2.2⟩
theorem qX14_reads (l : Launch) (hB : zH) (hWB : Wm hB) (e : Nat) (hCB : zC hB 17 = e + 1) (n : Nat) (B : Nat → Nat) (hXB : Tx hB 19 n B) (hnB : zI hB 1 0 20 = nI n) (N : Nat) (hT : Tkk (tkB B n) N) (hatB : zI hB 1 0 21 = nI 0) : Ct l 36 mX14_reads [Vq (some (1, 0))] hB (MTo e hB B n (txtP B n)) := by
  have hspB : zR hB 1 0 16 = some (17, e) := by
    have h1 := hWB.2.2.1.2.1
    rw [hCB] at h1
    exact h1
  have hR4 : FrRd e hB (zsI (zsI (zsI (zsI hB 17 e 2 0) 17 e 3 0) 1 0 26 0) 1 0 27 0) := (((((FrRd.rf e hB).w 17 2 (by decide) 0).w 17 3 (by decide) 0).w1 26 (by omega) 0).w1 27 (by omega) 0)
  have hX4 : Tx (zsI (zsI (zsI (zsI hB 17 e 2 0) 17 e 3 0) 1 0 26 0) 1 0 27 0) 19 n B := by unfold Tx; rw [hR4.2.1 19 (by decide) (by decide) (by decide) (by decide) (by decide) (by decide) (by decide) (by decide) (by decide)]; exact hXB
  have hn4 : zI (zsI (zsI (zsI (zsI hB 17 e 2 0) 17 e 3 0) 1 0 26 0) 1 0 27 0) 1 0 20 = nI n := by rw [hR4.2.2.1 0 20 (by omega)]; exact hnB
  have hat4 : zI (zsI (zsI (zsI (zsI hB 17 e 2 0) 17 e 3 0) 1 0 26 0) 1 0 27 0) 1 0 21 = nI 0 := (zI_oth _ _ _ _ _ (by decide)).trans ((zI_oth _ _ _ _ _ (by decide)).trans ((zI_st _ 17 e 3 _ (by decide) 0 21).trans ((zI_st _ 17 e 2 _ (by decide) 0 21).trans hatB)))
  refine Ct.in 3 kX14_reads (plainFor_of_name rfl) (Nat.le_of_ble_eq_true rfl) ?_
  refine w_aload_n (zat TX14_reads_0 0 rfl) rfl ?_
  refine w_getR (zat TX14_reads_0 1 rfl) fX14_42 s1 (by decide) (by decide) rfl hspB ?_
  refine w_iconst (v := 0) (zat TX14_reads_0 2 rfl) (by decide) ?_
  refine w_putI (zat TX14_reads_0 3 rfl) gX14_reads_210 s17 (by decide) (by decide) rfl ⟨rfl, rfl⟩ ?_
  refine w_aload_n (zat TX14_reads_0 4 rfl) rfl ?_
  refine w_getR (zat TX14_reads_0 5 rfl) fX14_42 s1 (by decide) (by decide) rfl hspB ?_
  refine w_iconst (v := 0) (zat TX14_reads_0 6 rfl) (by decide) ?_
  refine w_putI (zat TX14_reads_0 7 rfl) gX14_reads_213 s17 (by decide) (by decide) rfl ⟨rfl, rfl⟩ ?_
  refine w_aload_n (zat TX14_reads_0 8 rfl) rfl ?_
  refine w_iconst (v := 0) (zat TX14_reads_0 9 rfl) (by decide) ?_
  refine w_putI (zat TX14_reads_0 10 rfl) gX14_reads_216 s1 (by decide) (by decide) rfl ⟨rfl, rfl⟩ ?_
  refine w_aload_n (zat TX14_reads_0 11 rfl) rfl ?_
  refine w_iconst (v := 0) (zat TX14_reads_0 12 rfl) (by decide) ?_
  refine w_putI (zat TX14_reads_0 13 rfl) gX14_reads_219 s1 (by decide) (by decide) rfl ⟨rfl, rfl⟩ ?_
  refine w_aload_n (zat TX14_reads_0 14 rfl) rfl ?_
  refine x_call1 (qX14_next l (zsI (zsI (zsI (zsI hB 17 e 2 0) 17 e 3 0) 1 0 26 0) 1 0 27 0) hWB n B hX4 hn4 0 (by omega) hat4) (by omega) kX14_next (rdy_V (zat TX14_reads_0 15 rfl) kX14_next pX14_next zw1240 zw1242 zw38 (zrc (by decide) (by decide) rfl)) (Nat.le_of_ble_eq_true rfl) rfl rfl (fun v h2 hq => ?_) (fun r h2 hq => by cases hq.1)
  obtain ⟨hq1, hq2, hq3⟩ := hq
  cases hq1
  have hS : LSt e hB h2 B n 0 0 [] [] := by
    refine ⟨hR4.tr (hq2.Z e).R, Nx.mi (i := 0) hq3, ?_, ?_, ⟨?_, fun k it hk => by cases hk⟩, ?_, fun li ln hk => by cases hk⟩
    · rw [hq2.2.2.1 0 27 (by omega)]; rfl
    · rw [hq2.2.2.1 0 26 (by omega)]; rfl
    · rw [hq2.2.1 17 (by decide)]; exact (zI_st _ 1 0 27 _ (by decide) e 3).trans ((zI_st _ 1 0 26 _ (by decide) e 3).trans (zI_same _ _ _ _ _))
    · rw [hq2.2.1 17 (by decide)]; exact (zI_st _ 1 0 27 _ (by decide) e 2).trans ((zI_st _ 1 0 26 _ (by decide) e 2).trans ((zI_oth _ _ _ _ _ (by decide)).trans (zI_same _ _ _ _ _)))
  refine w_iconst (v := 1) (zat TX14_reads_0 16 rfl) (by decide) ?_
  refine x_istore_n (ls2 := [_, _, _, _]) (zat TX14_reads_0 17 rfl) (by decide) rfl ?_
  exact lX14_reads_32 l hB hWB e hCB n B hXB hnB N hT 13 [] [] 0 0 h2 (by show 0 + 13 = 13; omega) (by show 0 ≤ 12; omega) (by have := hT.1; omega) (by omega) (by show 0 ≤ 0; omega) hS _ _
