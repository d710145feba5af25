-- pairs: feed, by program (wip/gen/p97.py)
def fC (a b c d e : Int32) : Nat → Int32
  | 0 => vp_nar .byte (a >>> (24 &&& 31)).toInt8.toInt32
  | 1 => vp_nar .byte (a >>> (16 &&& 31)).toInt8.toInt32
  | 2 => vp_nar .byte (a >>> (8 &&& 31)).toInt8.toInt32
  | 3 => vp_nar .byte (a >>> (0 &&& 31)).toInt8.toInt32
  | 4 => vp_nar .byte (b >>> (24 &&& 31)).toInt8.toInt32
  | 5 => vp_nar .byte (b >>> (16 &&& 31)).toInt8.toInt32
  | 6 => vp_nar .byte (b >>> (8 &&& 31)).toInt8.toInt32
  | 7 => vp_nar .byte (b >>> (0 &&& 31)).toInt8.toInt32
  | 8 => vp_nar .byte (c >>> (24 &&& 31)).toInt8.toInt32
  | 9 => vp_nar .byte (c >>> (16 &&& 31)).toInt8.toInt32
  | 10 => vp_nar .byte (c >>> (8 &&& 31)).toInt8.toInt32
  | 11 => vp_nar .byte (c >>> (0 &&& 31)).toInt8.toInt32
  | 12 => vp_nar .byte (d >>> (24 &&& 31)).toInt8.toInt32
  | 13 => vp_nar .byte (d >>> (16 &&& 31)).toInt8.toInt32
  | 14 => vp_nar .byte (d >>> (8 &&& 31)).toInt8.toInt32
  | 15 => vp_nar .byte (d >>> (0 &&& 31)).toInt8.toInt32
  | 16 => vp_nar .byte (e >>> (24 &&& 31)).toInt8.toInt32
  | 17 => vp_nar .byte (e >>> (16 &&& 31)).toInt8.toInt32
  | 18 => vp_nar .byte (e >>> (8 &&& 31)).toInt8.toInt32
  | 19 => vp_nar .byte (e >>> (0 &&& 31)).toInt8.toInt32
  | _ => 0
theorem fC_eq (a b c d e : Int32) : ∀ k, k < 20 → fC a b c d e k = vp_nar .byte (fByt a b c d e k)
  | 0, _ => congrArg (fun s : Int32 => vp_nar .byte (a >>> s).toInt8.toInt32) (show ((24 : Int32) &&& 31) = ((24 - 8 * (nI 0 - nI 0 / 4 * 4)) &&& 31) by decide)
  | 1, _ => congrArg (fun s : Int32 => vp_nar .byte (a >>> s).toInt8.toInt32) (show ((16 : Int32) &&& 31) = ((24 - 8 * (nI 1 - nI 1 / 4 * 4)) &&& 31) by decide)
  | 2, _ => congrArg (fun s : Int32 => vp_nar .byte (a >>> s).toInt8.toInt32) (show ((8 : Int32) &&& 31) = ((24 - 8 * (nI 2 - nI 2 / 4 * 4)) &&& 31) by decide)
  | 3, _ => congrArg (fun s : Int32 => vp_nar .byte (a >>> s).toInt8.toInt32) (show ((0 : Int32) &&& 31) = ((24 - 8 * (nI 3 - nI 3 / 4 * 4)) &&& 31) by decide)
  | 4, _ => congrArg (fun s : Int32 => vp_nar .byte (b >>> s).toInt8.toInt32) (show ((24 : Int32) &&& 31) = ((24 - 8 * (nI 4 - nI 4 / 4 * 4)) &&& 31) by decide)
  | 5, _ => congrArg (fun s : Int32 => vp_nar .byte (b >>> s).toInt8.toInt32) (show ((16 : Int32) &&& 31) = ((24 - 8 * (nI 5 - nI 5 / 4 * 4)) &&& 31) by decide)
  | 6, _ => congrArg (fun s : Int32 => vp_nar .byte (b >>> s).toInt8.toInt32) (show ((8 : Int32) &&& 31) = ((24 - 8 * (nI 6 - nI 6 / 4 * 4)) &&& 31) by decide)
  | 7, _ => congrArg (fun s : Int32 => vp_nar .byte (b >>> s).toInt8.toInt32) (show ((0 : Int32) &&& 31) = ((24 - 8 * (nI 7 - nI 7 / 4 * 4)) &&& 31) by decide)
  | 8, _ => congrArg (fun s : Int32 => vp_nar .byte (c >>> s).toInt8.toInt32) (show ((24 : Int32) &&& 31) = ((24 - 8 * (nI 8 - nI 8 / 4 * 4)) &&& 31) by decide)
  | 9, _ => congrArg (fun s : Int32 => vp_nar .byte (c >>> s).toInt8.toInt32) (show ((16 : Int32) &&& 31) = ((24 - 8 * (nI 9 - nI 9 / 4 * 4)) &&& 31) by decide)
  | 10, _ => congrArg (fun s : Int32 => vp_nar .byte (c >>> s).toInt8.toInt32) (show ((8 : Int32) &&& 31) = ((24 - 8 * (nI 10 - nI 10 / 4 * 4)) &&& 31) by decide)
  | 11, _ => congrArg (fun s : Int32 => vp_nar .byte (c >>> s).toInt8.toInt32) (show ((0 : Int32) &&& 31) = ((24 - 8 * (nI 11 - nI 11 / 4 * 4)) &&& 31) by decide)
  | 12, _ => congrArg (fun s : Int32 => vp_nar .byte (d >>> s).toInt8.toInt32) (show ((24 : Int32) &&& 31) = ((24 - 8 * (nI 12 - nI 12 / 4 * 4)) &&& 31) by decide)
  | 13, _ => congrArg (fun s : Int32 => vp_nar .byte (d >>> s).toInt8.toInt32) (show ((16 : Int32) &&& 31) = ((24 - 8 * (nI 13 - nI 13 / 4 * 4)) &&& 31) by decide)
  | 14, _ => congrArg (fun s : Int32 => vp_nar .byte (d >>> s).toInt8.toInt32) (show ((8 : Int32) &&& 31) = ((24 - 8 * (nI 14 - nI 14 / 4 * 4)) &&& 31) by decide)
  | 15, _ => congrArg (fun s : Int32 => vp_nar .byte (d >>> s).toInt8.toInt32) (show ((0 : Int32) &&& 31) = ((24 - 8 * (nI 15 - nI 15 / 4 * 4)) &&& 31) by decide)
  | 16, _ => congrArg (fun s : Int32 => vp_nar .byte (e >>> s).toInt8.toInt32) (show ((24 : Int32) &&& 31) = ((24 - 8 * (nI 16 - nI 16 / 4 * 4)) &&& 31) by decide)
  | 17, _ => congrArg (fun s : Int32 => vp_nar .byte (e >>> s).toInt8.toInt32) (show ((16 : Int32) &&& 31) = ((24 - 8 * (nI 17 - nI 17 / 4 * 4)) &&& 31) by decide)
  | 18, _ => congrArg (fun s : Int32 => vp_nar .byte (e >>> s).toInt8.toInt32) (show ((8 : Int32) &&& 31) = ((24 - 8 * (nI 18 - nI 18 / 4 * 4)) &&& 31) by decide)
  | 19, _ => congrArg (fun s : Int32 => vp_nar .byte (e >>> s).toInt8.toInt32) (show ((0 : Int32) &&& 31) = ((24 - 8 * (nI 19 - nI 19 / 4 * 4)) &&& 31) by decide)
  | n + 20, h => by omega
theorem fB_sg (x : Int8) : ∃ b, b < 256 ∧ x.toInt32 = sg b := by
  have h1 := x.le_toInt
  have h2 := x.toInt_lt
  by_cases e : 0 ≤ x.toInt
  · refine ⟨x.toInt.toNat, by omega, ?_⟩
    rw [← Int32.toInt_inj, sg_int (by omega), Int8.toInt_toInt32, if_pos (by omega)]
    omega
  · refine ⟨(x.toInt + 256).toNat, by omega, ?_⟩
    rw [← Int32.toInt_inj, sg_int (by omega), Int8.toInt_toInt32, if_neg (by omega)]
    omega
theorem vpn_b (x : Int32) : vp_nar .byte x = x.toInt8.toInt32 := rfl
theorem fC_sg (a b c d e : Int32) (k : Nat) (hk : k < 20) : ∃ x, x < 256 ∧ fC a b c d e k = sg x := by
  rw [fC_eq a b c d e k hk, vpn_b]
  exact fB_sg _
def gC (h : zH) (n : Nat) (f : Nat → Int32) : Nat → zH
  | 0 => h
  | k + 1 => zsI (zsI (gC h n f k) 79 0 (n + k) (f k)) 53 0 1 (nI (n + (k + 1)))
theorem gC_eq (h : zH) (n : Nat) (a b c d e : Int32) : aH (aH (aH (aH (aH h n a) (n + 4) b) (n + 8) c) (n + 12) d) (n + 16) e = gC h n (fC a b c d e) 20 := rfl
theorem gC_f (h : zH) (n : Nat) (f : Nat → Int32) : ∀ k, (gC h n f k).2 = h.2 ∧ (∀ s, s ≠ 53 → s ≠ 79 → zI (gC h n f k) s = zI h s) ∧ (∀ j, j < n → zI (gC h n f k) 79 0 j = zI h 79 0 j) ∧ ∀ j, j < k → zI (gC h n f k) 79 0 (n + j) = f j
  | 0 => ⟨rfl, fun _ _ _ => rfl, fun _ _ => rfl, fun j hj => by omega⟩
  | k + 1 => by
    obtain ⟨i1, i2, i3, i4⟩ := gC_f h n f k
    refine ⟨i1, fun s h1 h2 => ?_, fun j hj => ?_, fun j hj => ?_⟩
    · exact (zI_ss _ 53 0 1 _ h1).trans ((zI_ss _ 79 0 (n + k) _ h2).trans (i2 s h1 h2))
    · exact (zI_st _ 53 0 1 _ (by decide) 0 j).trans ((zI_oth _ 79 0 (n + k) _ (by omega)).trans (i3 j hj))
    · refine (zI_st _ 53 0 1 _ (by decide) 0 (n + j)).trans ?_
      by_cases e : j = k
      · subst e
        exact zI_same _ 79 0 (n + j) _
      · exact (zI_oth _ 79 0 (n + k) _ (by omega)).trans (i4 j (by omega))
theorem fH_f (h : zH) (n : Nat) (a b c d e : Int32) : ∀ k, (∀ s, s ≠ 1 → s ≠ 19 → zI (fH h n a b c d e k) s = zI h s) ∧ (∀ j, j ≠ 19 → zI (fH h n a b c d e k) 1 0 j = zI h 1 0 j) ∧ (∀ j, j < n → zI (fH h n a b c d e k) 19 0 j = zI h 19 0 j) ∧ ∀ j, j < k → zI (fH h n a b c d e k) 19 0 (n + j) = vp_nar .byte (fByt a b c d e j)
  | 0 => ⟨fun _ _ _ => rfl, fun _ _ => rfl, fun _ _ => rfl, fun j hj => by omega⟩
  | k + 1 => by
    obtain ⟨i2, i5, i3, i4⟩ := fH_f h n a b c d e k
    refine ⟨fun s h1 h2 => ?_, fun j hj => ?_, fun j hj => ?_, fun j hj => ?_⟩
    · exact (zI_ss _ 1 0 19 _ h1).trans ((zI_ss _ 19 0 (n + k) _ h2).trans (i2 s h1 h2))
    · exact (zI_oth _ 1 0 19 _ hj).trans ((zI_st _ 19 0 (n + k) _ (by decide) 0 j).trans (i5 j hj))
    · exact (zI_st _ 1 0 19 _ (by decide) 0 j).trans ((zI_oth _ 19 0 (n + k) _ (by omega)).trans (i3 j hj))
    · refine (zI_st _ 1 0 19 _ (by decide) 0 (n + j)).trans ?_
      by_cases e : j = k
      · subst e
        exact zI_same _ 19 0 (n + j) _
      · exact (zI_oth _ 19 0 (n + k) _ (by omega)).trans (i4 j (by omega))
theorem pr_feed (l : Launch) (h : zH) (hI : Inv h) (a b c d e : Int32) : Pr l 2 1 mX11_feed mX14_feed [Vi a, Vi b, Vi c, Vi d, Vi e] h := by
  obtain ⟨nP, nB, nE, nS, Y, N, nT, pg, hK, hN1, hN2, hN3, hP, hB, hE, hM, hS, hT, hW⟩ := hI
  obtain ⟨kC, kM, k58, k59, k60, k61, k17, kz, ks⟩ := id hK
  obtain ⟨⟨p0, p1, p2⟩, ⟨b0, b1, b2⟩, ⟨s0, s1x, s2⟩, ⟨y0, y1, y2⟩, ⟨e0, e1, e2⟩⟩ := id hN1
  have hc := qX11_feed l h kC a b c d e N hT.2.1 hT.1
  by_cases g : N + 20 ≤ 300
  · rw [show cFeed h N a b c d e = (nI (N + 20), (gC h N (fC a b c d e) 20)) by unfold cFeed; rw [if_pos g, gC_eq]] at hc
    obtain ⟨c1, c2, c3, c4⟩ := gC_f h N (fC a b c d e) 20
    have hg : (gC h N (fC a b c d e) 20).2.2 = h.2.2 := congrArg Prod.snd c1
    have hm := qX14_feed l (gC h N (fC a b c d e) 20) (Wm.same hg kM) a b c d e N ((congrFun (congrFun (c2 1 (by decide) (by decide)) 0) 19).trans hT.2.2.1) hT.1
    rw [show mFeed (gC h N (fC a b c d e) 20) N a b c d e = (nI (N + 20), (fH (zsI (gC h N (fC a b c d e) 20) 1 0 0 0) N a b c d e 20)) by unfold mFeed; rw [if_pos g]] at hm
    obtain ⟨m2, m5, m3, m4⟩ := fH_f (zsI (gC h N (fC a b c d e) 20) 1 0 0 0) N a b c d e 20
    have m1 := fH_g (zsI (gC h N (fC a b c d e) 20) 1 0 0 0) N a b c d e 20
    have q2 : (fH (zsI (gC h N (fC a b c d e) 20) 1 0 0 0) N a b c d e 20).2 = h.2 := m1.trans c1
    have hg2 : (fH (zsI (gC h N (fC a b c d e) 20) 1 0 0 0) N a b c d e 20).2.2 = h.2.2 := congrArg Prod.snd q2
    have R : ∀ k, k ≠ 1 → k ≠ 19 → k ≠ 53 → k ≠ 79 → zI (fH (zsI (gC h N (fC a b c d e) 20) 1 0 0 0) N a b c d e 20) k = zI h k := fun k h1 h2 h3 h4 => (m2 k h1 h2).trans ((zI_ss _ 1 0 0 _ h1).trans (c2 k h3 h4))
    have r1 : ∀ j, j ≠ 0 → j ≠ 19 → zI (fH (zsI (gC h N (fC a b c d e) 20) 1 0 0 0) N a b c d e 20) 1 0 j = zI h 1 0 j := fun j h0 h1 => (m5 j h1).trans ((zI_oth _ 1 0 0 _ h0).trans (congrFun (congrFun (c2 1 (by decide) (by decide)) 0) j))
    refine Pr.x hc hm rfl ?_ ⟨congrFun (c2 999 (by decide) (by decide)) 0, by unfold zN; rw [hg]⟩ ⟨congrFun (R 999 (by decide) (by decide) (by decide) (by decide)) 0, by unfold zN; rw [hg2]⟩
    have r00 : ∀ j, zI (fH (zsI (gC h N (fC a b c d e) 20) 1 0 0 0) N a b c d e 20) 0 0 j = zI h 0 0 j := fun j => by rw [(R 0 (by decide) (by decide) (by decide) (by decide))]
    have L : ∀ k, zL (fH (zsI (gC h N (fC a b c d e) 20) 1 0 0 0) N a b c d e 20) k = zL h k := fun k => by unfold zL; rw [q2]
    refine ⟨nP, nB, nE, nS, Y, N + 20, nT, pg, hK.c hg2, hN1.c (fun j _ _ => r00 j) (fun j hj => r1 j (by omega) (by omega)) (by rw [(R 55 (by decide) (by decide) (by decide) (by decide))]), hN2.c (r00 12) (r1 7 (by decide) (by decide)), hN3.c (fun j _ _ => r00 j) (fun j _ _ => r1 j (by omega) (by omega)), hP.c (fun p j hj => by rw [(R 58 (by decide) (by decide) (by decide) (by decide))]) (R 10 (by decide) (by decide) (by decide) (by decide)) (R 11 (by decide) (by decide) (by decide) (by decide)), hB.c (R 59 (by decide) (by decide) (by decide) (by decide)) (R 12 (by decide) (by decide) (by decide) (by decide)) (R 13 (by decide) (by decide) (by decide) (by decide)) (R 14 (by decide) (by decide) (by decide) (by decide)) (R 15 (by decide) (by decide) (by decide) (by decide)), hE.c (by unfold zN; rw [hg2]) (R 75 (by decide) (by decide) (by decide) (by decide)) (R 60 (by decide) (by decide) (by decide) (by decide)) (R 17 (by decide) (by decide) (by decide) (by decide)) (R 35 (by decide) (by decide) (by decide) (by decide)) (R 37 (by decide) (by decide) (by decide) (by decide)) (R 38 (by decide) (by decide) (by decide) (by decide)) (R 39 (by decide) (by decide) (by decide) (by decide)) (R 40 (by decide) (by decide) (by decide) (by decide)), hM.c (R 58 (by decide) (by decide) (by decide) (by decide)) (R 60 (by decide) (by decide) (by decide) (by decide)) (R 76 (by decide) (by decide) (by decide) (by decide)) (R 77 (by decide) (by decide) (by decide) (by decide)), hS.c (R 61 (by decide) (by decide) (by decide) (by decide)) (L 61) (R 28 (by decide) (by decide) (by decide) (by decide)) (R 29 (by decide) (by decide) (by decide) (by decide)) (R 30 (by decide) (by decide) (by decide) (by decide)) (R 31 (by decide) (by decide) (by decide) (by decide)) (L 33), ⟨g, ?_, fH_t (h := zsI (gC h N (fC a b c d e) 20) 1 0 0 0) ((congrFun (congrFun (c2 1 (by decide) (by decide)) 0) 19).trans hT.2.2.1) a b c d e 20, fun k hk => ?_⟩, hW.c (R 57 (by decide) (by decide) (by decide) (by decide)) (r1 39 (by decide) (by decide)) (R 83 (by decide) (by decide) (by decide) (by decide)) (R 27 (by decide) (by decide) (by decide) (by decide))⟩
    · rw [m2 53 (by decide) (by decide)]
      exact (zI_st _ 1 0 0 _ (by decide) 0 1).trans (zI_same _ 53 0 1 _)
    · rw [m2 79 (by decide) (by decide), zI_ss _ 1 0 0 _ (k' := 79) (by decide)]
      by_cases e1 : k < N
      · rw [c3 k e1, m3 k e1]
        obtain ⟨x, x1, x2, x3⟩ := hT.2.2.2 k e1
        exact ⟨x, x1, x2, (congrFun (congrFun ((zI_ss _ 1 0 0 _ (by decide)).trans (c2 19 (by decide) (by decide))) 0) k).trans x3⟩
      · obtain ⟨j, rfl⟩ : ∃ j, k = N + j := ⟨k - N, by omega⟩
        rw [c4 j (by omega), m4 j (by omega), ← fC_eq a b c d e j (by omega)]
        obtain ⟨x, x1, x2⟩ := fC_sg a b c d e j (by omega)
        exact ⟨x, x1, x2, x2⟩
  · rw [show cFeed h N a b c d e = (-1, h) by unfold cFeed; rw [if_neg g]] at hc
    have hm := qX14_feed l h kM a b c d e N hT.2.2.1 hT.1
    rw [show mFeed h N a b c d e = (-1, zsI h 1 0 0 0) by unfold mFeed; rw [if_neg g]] at hm
    exact Pr.x hc hm rfl ⟨nP, nB, nE, nS, Y, N, nT, pg, hK, hN1, hN2, hN3, hP, hB, hE, hM, hS, hT, hW⟩
