-- trace, way, wayAt, carried of the class, by program (wip/gen/p67.py)
def FrU (h h' : zH) : Prop := h'.2 = h.2 ∧ (∀ k, k ≠ 56 → k ≠ 68 → k ≠ 69 → zI h' k = zI h k) ∧ ∀ i j, j ≠ 11 → zI h' 56 i j = zI h 56 i j
theorem FrU.rf (h : zH) : FrU h h := ⟨rfl, fun _ _ _ _ => rfl, fun _ _ _ => rfl⟩
theorem FrU.tr {a b c : zH} (x : FrU a b) (y : FrU b c) : FrU a c := ⟨y.1.trans x.1, fun k h1 h2 h3 => (y.2.1 k h1 h2 h3).trans (x.2.1 k h1 h2 h3), fun i j h => (y.2.2 i j h).trans (x.2.2 i j h)⟩
theorem FrU.w0 {a b : zH} (x : FrU a b) (w : Int32) : FrU a (zsI b 56 0 11 w) := ⟨x.1, fun k h1 h2 h3 => by
  rw [← x.2.1 k h1 h2 h3]
  exact funext (fun i => funext (fun j => (if_neg (fun z => h1 z.1)))), fun i j h => by
  rw [← x.2.2 i j h]
  exact (if_neg (fun z => h z.2.2))⟩
theorem FrU.w1 {a b : zH} (x : FrU a b) (n : Nat) (w : Int32) : FrU a (zsI b 69 0 n w) := ⟨x.1, fun k h1 h2 h3 => by
  rw [← x.2.1 k h1 h2 h3]
  exact funext (fun i => funext (fun j => (if_neg (fun z => h3 z.1)))), fun i j h => by
  rw [← x.2.2 i j h]
  exact zI_st b 69 0 n w (by decide) i j⟩
theorem FrG.U {a b : zH} (x : FrG 68 a b) : FrU a b := ⟨x.1, fun k _ h2 _ => x.2 k h2, fun i j _ => by rw [x.2 56 (by decide)]⟩
theorem FrU.V {a b : zH} (x : FrU a b) : FrV a b := ⟨congrArg Prod.snd x.1, fun k h1 _ _ _ _ _ _ _ _ _ _ hc hd => x.2.1 k h1 hc hd, fun i j _ => by rw [x.2.1 58 (by decide) (by decide) (by decide)], fun k _ _ => by unfold zL; rw [x.1]⟩
theorem FrU.mo {a b : zH} (x : FrU a b) {nP : Nat} {pf : Nat → Nat → Option (List (Bool × List (Nat × Int32)))} {m n : Nat → Int32} (h : MO a nP pf m n) : MO b nP pf m n := by
  intro p hp
  obtain ⟨k, k1, k2, k3⟩ := h p hp
  refine ⟨k, k1, ?_, ?_⟩
  · rw [x.2.1 58 (by decide) (by decide) (by decide)]; exact k2
  · unfold MM
    rw [x.2.1 76 (by decide) (by decide) (by decide), x.2.1 77 (by decide) (by decide) (by decide)]
    exact k3
theorem FrU.bt {a b : zH} (x : FrU a b) {nP nB : Nat} {on ot c : Nat → Nat} (h : BT a nP nB on ot c) : BT b nP nB on ot c := by
  unfold BT
  rw [x.2.1 70 (by decide) (by decide) (by decide), x.2.1 71 (by decide) (by decide) (by decide), x.2.1 72 (by decide) (by decide) (by decide)]
  exact h
theorem FrU.cf {a b : zH} (x : FrU a b) {nP : Nat} {F : Nat → Nat} (h : CF a 67 nP F) : CF b 67 nP F := by
  unfold CF
  rw [x.2.1 67 (by decide) (by decide) (by decide)]
  exact h
theorem lX3_firstOnward (l : Launch) (h : zH) (hW : Wc h) (nP nB : Nat) (hP2 : nP ≤ 10) (hB : zI h 56 0 10 = nI nB) (hB2 : nB ≤ 16) (on ot c : Nat → Nat) (hBT : BT h nP nB on ot c) (hne : ∀ i, i < nB → on i ≠ ot i) (F : Nat → Nat) (hF : CF h 68 nP F) (hFl : ∀ j, j < nP → F j ≤ 2000000) (v k : Nat) (hv : v < nP) (hk : fst1 on ot c F nB v k) : ∀ kk s : Nat, s + kk = k → Wp l mX3_firstOnward 1 2 [some (Vq (some (56, 0))), some (Vi (nI v)), some (Vi (nI s))] [] h (fun o h' => o = Rv (Vi (nI k)) ∧ h' = h) := by
  intro kk
  induction kk with
  | zero =>
    intro s hs
    have e : s = k := by omega
    subst e
    have hpk := hk.2.1
    have hk1 := hk.1
    obtain ⟨b1, b2, b3, b4, b5, b6⟩ := hBT s (by omega)
    by_cases e1 : on s = v
    · skip
      refine w_iload_n (zat TX3_firstOnward 2 rfl) rfl ?_
      refine w_aload_n (zat TX3_firstOnward 3 rfl) rfl ?_
      refine y_getI (v := nI nB) (zat TX3_firstOnward 4 rfl) fX3_44 s56 (by decide) (by decide) rfl hB ?_
      refine w_icmp_ge 94 (zat TX3_firstOnward 5 rfl) (by decide) (fun Hc7 => ?_) (fun Hc7 => ?_)
      · exact absurd Hc7 (nI_ge (by omega) (by omega))
      · refine w_aload_n (zat TX3_firstOnward 6 rfl) rfl ?_
        refine w_getR (zat TX3_firstOnward 7 rfl) fX3_31 s56 (by decide) (by decide) rfl (wcr hW 19 rfl) ?_
        refine w_iload_n (zat TX3_firstOnward 8 rfl) rfl ?_
        refine y_iaload _ _ (v := nI (on s)) (zat TX3_firstOnward 9 rfl) s70 (by decide) (wcn hW 10 rfl) (by decide) rfl (by omega) b1 ?_
        refine w_iload_n (zat TX3_firstOnward 10 rfl) rfl ?_
        refine w_icmp_ne 49 (zat TX3_firstOnward 11 rfl) (by decide) (fun Hc17 => ?_) (fun Hc17 => ?_)
        · exact absurd (congrArg nI e1) Hc17
        · refine w_aload_n (zat TX3_firstOnward 12 rfl) rfl ?_
          refine w_getR (zat TX3_firstOnward 13 rfl) fX3_25 s56 (by decide) (by decide) rfl (wcr hW 17 rfl) ?_
          refine w_aload_n (zat TX3_firstOnward 14 rfl) rfl ?_
          refine w_getR (zat TX3_firstOnward 15 rfl) fX3_34 s56 (by decide) (by decide) rfl (wcr hW 20 rfl) ?_
          refine w_iload_n (zat TX3_firstOnward 16 rfl) rfl ?_
          refine y_iaload _ _ (v := nI (ot s)) (zat TX3_firstOnward 17 rfl) s71 (by decide) (wcn hW 11 rfl) (by decide) rfl (by omega) b2 ?_
          refine y_iaload _ _ (v := nI (F (ot s))) (zat TX3_firstOnward 18 rfl) s68 (by decide) (wcn hW 8 rfl) (by decide) rfl (by omega) (hF _ b4) ?_
          refine w_aload_n (zat TX3_firstOnward 19 rfl) rfl ?_
          refine w_getR (zat TX3_firstOnward 20 rfl) fX3_37 s56 (by decide) (by decide) rfl (wcr hW 21 rfl) ?_
          refine w_iload_n (zat TX3_firstOnward 21 rfl) rfl ?_
          refine y_iaload _ _ (v := nI (c s)) (zat TX3_firstOnward 22 rfl) s72 (by decide) (wcn hW 12 rfl) (by decide) rfl (by omega) b5 ?_
          refine w_iadd (zat TX3_firstOnward 23 rfl) ?_
          refine w_aload_n (zat TX3_firstOnward 24 rfl) rfl ?_
          refine w_getR (zat TX3_firstOnward 25 rfl) fX3_25 s56 (by decide) (by decide) rfl (wcr hW 17 rfl) ?_
          refine w_iload_n (zat TX3_firstOnward 26 rfl) rfl ?_
          refine y_iaload _ _ (v := nI (F v)) (zat TX3_firstOnward 27 rfl) s68 (by decide) (wcn hW 8 rfl) (by decide) rfl (by omega) (hF _ hv) ?_
          rw [nI_add]
          refine w_icmp_ne 49 (zat TX3_firstOnward 28 rfl) (by decide) (fun Hc44 => ?_) (fun Hc44 => ?_)
          · exact absurd (congrArg nI (show F (ot s) + c s = F v from by have z := hpk.2; rw [show ow on ot s v = (ot s) from if_pos e1] at z; omega)) Hc44
          · refine w_iload_n (zat TX3_firstOnward 29 rfl) rfl ?_
            refine w_ireturn (zat TX3_firstOnward 30 rfl) rfl rfl ?_
            exact ⟨rfl, rfl⟩
    · by_cases e2 : ot s = v
      · skip
        refine w_iload_n (zat TX3_firstOnward 2 rfl) rfl ?_
        refine w_aload_n (zat TX3_firstOnward 3 rfl) rfl ?_
        refine y_getI (v := nI nB) (zat TX3_firstOnward 4 rfl) fX3_44 s56 (by decide) (by decide) rfl hB ?_
        refine w_icmp_ge 94 (zat TX3_firstOnward 5 rfl) (by decide) (fun Hc7 => ?_) (fun Hc7 => ?_)
        · exact absurd Hc7 (nI_ge (by omega) (by omega))
        · refine w_aload_n (zat TX3_firstOnward 6 rfl) rfl ?_
          refine w_getR (zat TX3_firstOnward 7 rfl) fX3_31 s56 (by decide) (by decide) rfl (wcr hW 19 rfl) ?_
          refine w_iload_n (zat TX3_firstOnward 8 rfl) rfl ?_
          refine y_iaload _ _ (v := nI (on s)) (zat TX3_firstOnward 9 rfl) s70 (by decide) (wcn hW 10 rfl) (by decide) rfl (by omega) b1 ?_
          refine w_iload_n (zat TX3_firstOnward 10 rfl) rfl ?_
          refine w_icmp_ne 49 (zat TX3_firstOnward 11 rfl) (by decide) (fun Hc17 => ?_) (fun Hc17 => ?_)
          · refine w_aload_n (zat TX3_firstOnward 31 rfl) rfl ?_
            refine w_getR (zat TX3_firstOnward 32 rfl) fX3_34 s56 (by decide) (by decide) rfl (wcr hW 20 rfl) ?_
            refine w_iload_n (zat TX3_firstOnward 33 rfl) rfl ?_
            refine y_iaload _ _ (v := nI (ot s)) (zat TX3_firstOnward 34 rfl) s71 (by decide) (wcn hW 11 rfl) (by decide) rfl (by omega) b2 ?_
            refine w_iload_n (zat TX3_firstOnward 35 rfl) rfl ?_
            refine w_icmp_ne 88 (zat TX3_firstOnward 36 rfl) (by decide) (fun Hc56 => ?_) (fun Hc56 => ?_)
            · exact absurd (congrArg nI e2) Hc56
            · refine w_aload_n (zat TX3_firstOnward 37 rfl) rfl ?_
              refine w_getR (zat TX3_firstOnward 38 rfl) fX3_25 s56 (by decide) (by decide) rfl (wcr hW 17 rfl) ?_
              refine w_aload_n (zat TX3_firstOnward 39 rfl) rfl ?_
              refine w_getR (zat TX3_firstOnward 40 rfl) fX3_31 s56 (by decide) (by decide) rfl (wcr hW 19 rfl) ?_
              refine w_iload_n (zat TX3_firstOnward 41 rfl) rfl ?_
              refine y_iaload _ _ (v := nI (on s)) (zat TX3_firstOnward 42 rfl) s70 (by decide) (wcn hW 10 rfl) (by decide) rfl (by omega) b1 ?_
              refine y_iaload _ _ (v := nI (F (on s))) (zat TX3_firstOnward 43 rfl) s68 (by decide) (wcn hW 8 rfl) (by decide) rfl (by omega) (hF _ b3) ?_
              refine w_aload_n (zat TX3_firstOnward 44 rfl) rfl ?_
              refine w_getR (zat TX3_firstOnward 45 rfl) fX3_37 s56 (by decide) (by decide) rfl (wcr hW 21 rfl) ?_
              refine w_iload_n (zat TX3_firstOnward 46 rfl) rfl ?_
              refine y_iaload _ _ (v := nI (c s)) (zat TX3_firstOnward 47 rfl) s72 (by decide) (wcn hW 12 rfl) (by decide) rfl (by omega) b5 ?_
              refine w_iadd (zat TX3_firstOnward 48 rfl) ?_
              refine w_aload_n (zat TX3_firstOnward 49 rfl) rfl ?_
              refine w_getR (zat TX3_firstOnward 50 rfl) fX3_25 s56 (by decide) (by decide) rfl (wcr hW 17 rfl) ?_
              refine w_iload_n (zat TX3_firstOnward 51 rfl) rfl ?_
              refine y_iaload _ _ (v := nI (F v)) (zat TX3_firstOnward 52 rfl) s68 (by decide) (wcn hW 8 rfl) (by decide) rfl (by omega) (hF _ hv) ?_
              rw [nI_add]
              refine w_icmp_ne 88 (zat TX3_firstOnward 53 rfl) (by decide) (fun Hc83 => ?_) (fun Hc83 => ?_)
              · exact absurd (congrArg nI (show F (on s) + c s = F v from by have z := hpk.2; rw [show ow on ot s v = (on s) from if_neg e1] at z; omega)) Hc83
              · refine w_iload_n (zat TX3_firstOnward 54 rfl) rfl ?_
                refine w_ireturn (zat TX3_firstOnward 55 rfl) rfl rfl ?_
                exact ⟨rfl, rfl⟩
          · exact absurd (nIe (by omega) (by omega) Hc17) e1
      · skip
        exact absurd hpk.1 (fun z => z.elim e1 e2)
  | succ kk ih =>
    intro s hs
    have hpk := hk.2.2 s (by omega)
    have hk1 := hk.1
    obtain ⟨b1, b2, b3, b4, b5, b6⟩ := hBT s (by omega)
    by_cases e1 : on s = v
    · skip
      refine w_iload_n (zat TX3_firstOnward 2 rfl) rfl ?_
      refine w_aload_n (zat TX3_firstOnward 3 rfl) rfl ?_
      refine y_getI (v := nI nB) (zat TX3_firstOnward 4 rfl) fX3_44 s56 (by decide) (by decide) rfl hB ?_
      refine w_icmp_ge 94 (zat TX3_firstOnward 5 rfl) (by decide) (fun Hc7 => ?_) (fun Hc7 => ?_)
      · exact absurd Hc7 (nI_ge (by omega) (by omega))
      · refine w_aload_n (zat TX3_firstOnward 6 rfl) rfl ?_
        refine w_getR (zat TX3_firstOnward 7 rfl) fX3_31 s56 (by decide) (by decide) rfl (wcr hW 19 rfl) ?_
        refine w_iload_n (zat TX3_firstOnward 8 rfl) rfl ?_
        refine y_iaload _ _ (v := nI (on s)) (zat TX3_firstOnward 9 rfl) s70 (by decide) (wcn hW 10 rfl) (by decide) rfl (by omega) b1 ?_
        refine w_iload_n (zat TX3_firstOnward 10 rfl) rfl ?_
        refine w_icmp_ne 49 (zat TX3_firstOnward 11 rfl) (by decide) (fun Hc17 => ?_) (fun Hc17 => ?_)
        · exact absurd (congrArg nI e1) Hc17
        · refine w_aload_n (zat TX3_firstOnward 12 rfl) rfl ?_
          refine w_getR (zat TX3_firstOnward 13 rfl) fX3_25 s56 (by decide) (by decide) rfl (wcr hW 17 rfl) ?_
          refine w_aload_n (zat TX3_firstOnward 14 rfl) rfl ?_
          refine w_getR (zat TX3_firstOnward 15 rfl) fX3_34 s56 (by decide) (by decide) rfl (wcr hW 20 rfl) ?_
          refine w_iload_n (zat TX3_firstOnward 16 rfl) rfl ?_
          refine y_iaload _ _ (v := nI (ot s)) (zat TX3_firstOnward 17 rfl) s71 (by decide) (wcn hW 11 rfl) (by decide) rfl (by omega) b2 ?_
          refine y_iaload _ _ (v := nI (F (ot s))) (zat TX3_firstOnward 18 rfl) s68 (by decide) (wcn hW 8 rfl) (by decide) rfl (by omega) (hF _ b4) ?_
          refine w_aload_n (zat TX3_firstOnward 19 rfl) rfl ?_
          refine w_getR (zat TX3_firstOnward 20 rfl) fX3_37 s56 (by decide) (by decide) rfl (wcr hW 21 rfl) ?_
          refine w_iload_n (zat TX3_firstOnward 21 rfl) rfl ?_
          refine y_iaload _ _ (v := nI (c s)) (zat TX3_firstOnward 22 rfl) s72 (by decide) (wcn hW 12 rfl) (by decide) rfl (by omega) b5 ?_
          refine w_iadd (zat TX3_firstOnward 23 rfl) ?_
          refine w_aload_n (zat TX3_firstOnward 24 rfl) rfl ?_
          refine w_getR (zat TX3_firstOnward 25 rfl) fX3_25 s56 (by decide) (by decide) rfl (wcr hW 17 rfl) ?_
          refine w_iload_n (zat TX3_firstOnward 26 rfl) rfl ?_
          refine y_iaload _ _ (v := nI (F v)) (zat TX3_firstOnward 27 rfl) s68 (by decide) (wcn hW 8 rfl) (by decide) rfl (by omega) (hF _ hv) ?_
          rw [nI_add]
          refine w_icmp_ne 49 (zat TX3_firstOnward 28 rfl) (by decide) (fun Hc44 => ?_) (fun Hc44 => ?_)
          · refine w_aload_n (zat TX3_firstOnward 31 rfl) rfl ?_
            refine w_getR (zat TX3_firstOnward 32 rfl) fX3_34 s56 (by decide) (by decide) rfl (wcr hW 20 rfl) ?_
            refine w_iload_n (zat TX3_firstOnward 33 rfl) rfl ?_
            refine y_iaload _ _ (v := nI (ot s)) (zat TX3_firstOnward 34 rfl) s71 (by decide) (wcn hW 11 rfl) (by decide) rfl (by omega) b2 ?_
            refine w_iload_n (zat TX3_firstOnward 35 rfl) rfl ?_
            refine w_icmp_ne 88 (zat TX3_firstOnward 36 rfl) (by decide) (fun Hc56 => ?_) (fun Hc56 => ?_)
            · refine x_iinc (v := nI (s + 1)) (ls2 := [_, _, _]) (zat TX3_firstOnward 56 rfl) rfl (nI_inc s) rfl ?_
              refine w_goto 2 (zat TX3_firstOnward 57 rfl) (by decide) ?_
              exact ih (s + 1) (by omega)
            · exact absurd (nIe (by omega) (by omega) Hc56) (fun z => hne s (by omega) (e1.trans z.symm))
          · exact absurd ⟨Or.inl e1, by rw [show ow on ot s v = (ot s) from if_pos e1]; have z := nIe (by have := hFl (ot s) (by omega); omega) (by have := hFl v hv; omega) Hc44; omega⟩ hpk
    · by_cases e2 : ot s = v
      · skip
        refine w_iload_n (zat TX3_firstOnward 2 rfl) rfl ?_
        refine w_aload_n (zat TX3_firstOnward 3 rfl) rfl ?_
        refine y_getI (v := nI nB) (zat TX3_firstOnward 4 rfl) fX3_44 s56 (by decide) (by decide) rfl hB ?_
        refine w_icmp_ge 94 (zat TX3_firstOnward 5 rfl) (by decide) (fun Hc7 => ?_) (fun Hc7 => ?_)
        · exact absurd Hc7 (nI_ge (by omega) (by omega))
        · refine w_aload_n (zat TX3_firstOnward 6 rfl) rfl ?_
          refine w_getR (zat TX3_firstOnward 7 rfl) fX3_31 s56 (by decide) (by decide) rfl (wcr hW 19 rfl) ?_
          refine w_iload_n (zat TX3_firstOnward 8 rfl) rfl ?_
          refine y_iaload _ _ (v := nI (on s)) (zat TX3_firstOnward 9 rfl) s70 (by decide) (wcn hW 10 rfl) (by decide) rfl (by omega) b1 ?_
          refine w_iload_n (zat TX3_firstOnward 10 rfl) rfl ?_
          refine w_icmp_ne 49 (zat TX3_firstOnward 11 rfl) (by decide) (fun Hc17 => ?_) (fun Hc17 => ?_)
          · refine w_aload_n (zat TX3_firstOnward 31 rfl) rfl ?_
            refine w_getR (zat TX3_firstOnward 32 rfl) fX3_34 s56 (by decide) (by decide) rfl (wcr hW 20 rfl) ?_
            refine w_iload_n (zat TX3_firstOnward 33 rfl) rfl ?_
            refine y_iaload _ _ (v := nI (ot s)) (zat TX3_firstOnward 34 rfl) s71 (by decide) (wcn hW 11 rfl) (by decide) rfl (by omega) b2 ?_
            refine w_iload_n (zat TX3_firstOnward 35 rfl) rfl ?_
            refine w_icmp_ne 88 (zat TX3_firstOnward 36 rfl) (by decide) (fun Hc56 => ?_) (fun Hc56 => ?_)
            · exact absurd (congrArg nI e2) Hc56
            · refine w_aload_n (zat TX3_firstOnward 37 rfl) rfl ?_
              refine w_getR (zat TX3_firstOnward 38 rfl) fX3_25 s56 (by decide) (by decide) rfl (wcr hW 17 rfl) ?_
              refine w_aload_n (zat TX3_firstOnward 39 rfl) rfl ?_
              refine w_getR (zat TX3_firstOnward 40 rfl) fX3_31 s56 (by decide) (by decide) rfl (wcr hW 19 rfl) ?_
              refine w_iload_n (zat TX3_firstOnward 41 rfl) rfl ?_
              refine y_iaload _ _ (v := nI (on s)) (zat TX3_firstOnward 42 rfl) s70 (by decide) (wcn hW 10 rfl) (by decide) rfl (by omega) b1 ?_
              refine y_iaload _ _ (v := nI (F (on s))) (zat TX3_firstOnward 43 rfl) s68 (by decide) (wcn hW 8 rfl) (by decide) rfl (by omega) (hF _ b3) ?_
              refine w_aload_n (zat TX3_firstOnward 44 rfl) rfl ?_
              refine w_getR (zat TX3_firstOnward 45 rfl) fX3_37 s56 (by decide) (by decide) rfl (wcr hW 21 rfl) ?_
              refine w_iload_n (zat TX3_firstOnward 46 rfl) rfl ?_
              refine y_iaload _ _ (v := nI (c s)) (zat TX3_firstOnward 47 rfl) s72 (by decide) (wcn hW 12 rfl) (by decide) rfl (by omega) b5 ?_
              refine w_iadd (zat TX3_firstOnward 48 rfl) ?_
              refine w_aload_n (zat TX3_firstOnward 49 rfl) rfl ?_
              refine w_getR (zat TX3_firstOnward 50 rfl) fX3_25 s56 (by decide) (by decide) rfl (wcr hW 17 rfl) ?_
              refine w_iload_n (zat TX3_firstOnward 51 rfl) rfl ?_
              refine y_iaload _ _ (v := nI (F v)) (zat TX3_firstOnward 52 rfl) s68 (by decide) (wcn hW 8 rfl) (by decide) rfl (by omega) (hF _ hv) ?_
              rw [nI_add]
              refine w_icmp_ne 88 (zat TX3_firstOnward 53 rfl) (by decide) (fun Hc83 => ?_) (fun Hc83 => ?_)
              · refine x_iinc (v := nI (s + 1)) (ls2 := [_, _, _]) (zat TX3_firstOnward 56 rfl) rfl (nI_inc s) rfl ?_
                refine w_goto 2 (zat TX3_firstOnward 57 rfl) (by decide) ?_
                exact ih (s + 1) (by omega)
              · exact absurd ⟨Or.inr e2, by rw [show ow on ot s v = (on s) from if_neg e1]; have z := nIe (by have := hFl (on s) (by omega); omega) (by have := hFl v hv; omega) Hc83; omega⟩ hpk
          · exact absurd (nIe (by omega) (by omega) Hc17) e1
      · skip
        refine w_iload_n (zat TX3_firstOnward 2 rfl) rfl ?_
        refine w_aload_n (zat TX3_firstOnward 3 rfl) rfl ?_
        refine y_getI (v := nI nB) (zat TX3_firstOnward 4 rfl) fX3_44 s56 (by decide) (by decide) rfl hB ?_
        refine w_icmp_ge 94 (zat TX3_firstOnward 5 rfl) (by decide) (fun Hc7 => ?_) (fun Hc7 => ?_)
        · exact absurd Hc7 (nI_ge (by omega) (by omega))
        · refine w_aload_n (zat TX3_firstOnward 6 rfl) rfl ?_
          refine w_getR (zat TX3_firstOnward 7 rfl) fX3_31 s56 (by decide) (by decide) rfl (wcr hW 19 rfl) ?_
          refine w_iload_n (zat TX3_firstOnward 8 rfl) rfl ?_
          refine y_iaload _ _ (v := nI (on s)) (zat TX3_firstOnward 9 rfl) s70 (by decide) (wcn hW 10 rfl) (by decide) rfl (by omega) b1 ?_
          refine w_iload_n (zat TX3_firstOnward 10 rfl) rfl ?_
          refine w_icmp_ne 49 (zat TX3_firstOnward 11 rfl) (by decide) (fun Hc17 => ?_) (fun Hc17 => ?_)
          · refine w_aload_n (zat TX3_firstOnward 31 rfl) rfl ?_
            refine w_getR (zat TX3_firstOnward 32 rfl) fX3_34 s56 (by decide) (by decide) rfl (wcr hW 20 rfl) ?_
            refine w_iload_n (zat TX3_firstOnward 33 rfl) rfl ?_
            refine y_iaload _ _ (v := nI (ot s)) (zat TX3_firstOnward 34 rfl) s71 (by decide) (wcn hW 11 rfl) (by decide) rfl (by omega) b2 ?_
            refine w_iload_n (zat TX3_firstOnward 35 rfl) rfl ?_
            refine w_icmp_ne 88 (zat TX3_firstOnward 36 rfl) (by decide) (fun Hc56 => ?_) (fun Hc56 => ?_)
            · refine x_iinc (v := nI (s + 1)) (ls2 := [_, _, _]) (zat TX3_firstOnward 56 rfl) rfl (nI_inc s) rfl ?_
              refine w_goto 2 (zat TX3_firstOnward 57 rfl) (by decide) ?_
              exact ih (s + 1) (by omega)
            · exact absurd (nIe (by omega) (by omega) Hc56) e2
          · exact absurd (nIe (by omega) (by omega) Hc17) e1
theorem qX3_firstOnward (l : Launch) (h : zH) (hW : Wc h) (nP nB : Nat) (hP2 : nP ≤ 10) (hB : zI h 56 0 10 = nI nB) (hB2 : nB ≤ 16) (on ot c : Nat → Nat) (hBT : BT h nP nB on ot c) (hne : ∀ i, i < nB → on i ≠ ot i) (F : Nat → Nat) (hF : CF h 68 nP F) (hFl : ∀ j, j < nP → F j ≤ 2000000) (v k : Nat) (hv : v < nP) (hk : fst1 on ot c F nB v k) : Cx l 1 mX3_firstOnward [Vq (some (56, 0)), Vi (nI v)] h (Rv (Vi (nI k))) h := by
  refine Ct.in 1 kX3_firstOnward (plainFor_of_name rfl) (Nat.le_of_ble_eq_true rfl) ?_
  refine w_iconst (v := 0) (zat TX3_firstOnward 0 rfl) (by decide) ?_
  refine x_istore_n (ls2 := [_, _, _]) (zat TX3_firstOnward 1 rfl) (by decide) rfl ?_
  exact lX3_firstOnward l h hW nP nB hP2 hB hB2 on ot c hBT hne F hF hFl v k hv hk k 0 (by omega)
theorem lX3_trace (l : Launch) (h0 : zH) (hW0 : Wc h0) (nP nB : Nat) (hP2 : nP ≤ 10) (hB0 : zI h0 56 0 10 = nI nB) (hB2 : nB ≤ 16) (on ot c : Nat → Nat) (hBT0 : BT h0 nP nB on ot c) (hL : LB nP nB on ot c) (p : Nat) (hp : p < nP) (F : Nat → Nat) (hFl : ∀ j, j < nP → F j ≤ 2000000) : ∀ (ks pre : List Nat) (v : Nat), v < nP → pre.length + ks.length ≤ 9 → Wy on ot c F nB p ks v → ∀ h, FrU h0 h → CF h 68 nP F → Lw h 56 11 69 pre → ∀ x, Wp l mX3_trace 3 24 [some (Vq (some (56, 0))), some (Vi (nI p)), some (Vi (nI v)), some (Vi (nI pre.length)), x] [] h (fun o h' => o = R0 ∧ FrU h0 h' ∧ Lw h' 56 11 69 (pre ++ ks)) := by
  intro ks
  induction ks with
  | nil =>
    intro pre v hv hn hy h hU hC68 hLw x
    have hF := hU.1
    have hW := Wc.same (congrArg Prod.snd hU.1) hW0
    have hB : zI h 56 0 10 = nI nB := by rw [hU.2.2 0 10 (by decide)]; exact hB0
    have hBT := hU.bt hBT0
    refine w_iload_n (zat TX3_trace 16 rfl) rfl ?_
    refine w_bipush (v := 10) (zat TX3_trace 17 rfl) (by decide) ?_
    refine w_icmp_ge 98 (zat TX3_trace 18 rfl) (by decide) (fun Hc27 => ?_) (fun Hc27 => ?_)
    · exact absurd Hc27 (nI_ge (b := 10) (by omega) (by omega))
    · refine w_iload_n (zat TX3_trace 19 rfl) rfl ?_
      refine w_iload_n (zat TX3_trace 20 rfl) rfl ?_
      refine w_icmp_eq 98 (zat TX3_trace 21 rfl) (by decide) (fun Hc32 => ?_) (fun Hc32 => ?_)
      · refine w_return (zat TX3_trace 57 rfl) rfl ?_
        exact ⟨rfl, hU, by rw [List.append_nil]; exact hLw⟩
      · exact absurd (congrArg nI hy) Hc32
  | cons k ks ih =>
    intro pre v hv hn hy h hU hC68 hLw x
    have hF := hU.1
    have hW := Wc.same (congrArg Prod.snd hU.1) hW0
    have hB : zI h 56 0 10 = nI nB := by rw [hU.2.2 0 10 (by decide)]; exact hB0
    have hBT := hU.bt hBT0
    obtain ⟨hy1, hy2, hy3⟩ := hy
    rw [List.length_cons] at hn
    have hk1 := hy2.1
    obtain ⟨b1, b2, b3, b4, b5, b6⟩ := hBT k (by omega)
    have hw := ow_lt hL hk1 v
    refine w_iload_n (zat TX3_trace 16 rfl) rfl ?_
    refine w_bipush (v := 10) (zat TX3_trace 17 rfl) (by decide) ?_
    refine w_icmp_ge 98 (zat TX3_trace 18 rfl) (by decide) (fun Hc27 => ?_) (fun Hc27 => ?_)
    · exact absurd Hc27 (nI_ge (b := 10) (by omega) (by omega))
    · refine w_iload_n (zat TX3_trace 19 rfl) rfl ?_
      refine w_iload_n (zat TX3_trace 20 rfl) rfl ?_
      refine w_icmp_eq 98 (zat TX3_trace 21 rfl) (by decide) (fun Hc32 => ?_) (fun Hc32 => ?_)
      · exact absurd (nIe (by omega) (by omega) Hc32) hy1
      · refine w_aload_n (zat TX3_trace 22 rfl) rfl ?_
        refine w_iload_n (zat TX3_trace 23 rfl) rfl ?_
        refine x_callv2 (qX3_firstOnward l h hW nP nB hP2 hB hB2 on ot c hBT (fun i hi => (hL i hi).2.2.1) F hC68 hFl v k hv hy2) (by decide) kX3_firstOnward (rdy_V (zat TX3_trace 24 rfl) kX3_firstOnward pX3_firstOnward zw788 zw790 zw24 (zrc (by decide) (by decide) rfl)) (Nat.le_of_ble_eq_true rfl) rfl rfl ?_
        refine x_istore (ls2 := [_, _, _, _, _]) (zat TX3_trace 25 rfl) (by decide) rfl ?_
        refine w_iload (zat TX3_trace 26 rfl) rfl ?_
        refine w_if_ge 48 (zat TX3_trace 27 rfl) (by decide) (fun Hc44 => ?_) (fun Hc44 => ?_)
        · refine w_aload_n (zat TX3_trace 29 rfl) rfl ?_
          refine w_getR (zat TX3_trace 30 rfl) fX3_28 s56 (by decide) (by decide) rfl (wcr hW 18 rfl) ?_
          refine w_iload_n (zat TX3_trace 31 rfl) rfl ?_
          refine w_iload (zat TX3_trace 32 rfl) rfl ?_
          refine x_iastore pre.length _ (zat TX3_trace 33 rfl) s69 (by decide) (wcn hW 9 rfl) (by decide) rfl (by omega) ?_
          refine w_aload_n (zat TX3_trace 34 rfl) rfl ?_
          refine w_iload_n (zat TX3_trace 35 rfl) rfl ?_
          refine w_iconst (v := 1) (zat TX3_trace 36 rfl) (by decide) ?_
          refine w_iadd (zat TX3_trace 37 rfl) ?_
          rw [nI_1]
          refine w_putI (zat TX3_trace 38 rfl) gX3_trace_47 s56 (by decide) (by decide) rfl ⟨rfl, rfl⟩ ?_
          refine w_aload_n (zat TX3_trace 39 rfl) rfl ?_
          refine w_getR (zat TX3_trace 40 rfl) fX3_31 s56 (by decide) (by decide) rfl (wcr hW 19 rfl) ?_
          refine w_iload (zat TX3_trace 41 rfl) rfl ?_
          refine y_iaload _ _ (v := nI (on k)) (zat TX3_trace 42 rfl) s70 (by decide) (wcn hW 10 rfl) (by decide) rfl (by omega) b1 ?_
          refine w_iload_n (zat TX3_trace 43 rfl) rfl ?_
          refine w_icmp_ne 84 (zat TX3_trace 44 rfl) (by decide) (fun Hc71 => ?_) (fun Hc71 => ?_)
          · have Ho : ow on ot k v = on k := if_neg (fun z => Hc71 (congrArg nI z))
            refine w_aload_n (zat TX3_trace 50 rfl) rfl ?_
            refine w_getR (zat TX3_trace 51 rfl) fX3_31 s56 (by decide) (by decide) rfl (wcr hW 19 rfl) ?_
            refine w_iload (zat TX3_trace 52 rfl) rfl ?_
            refine y_iaload _ _ (v := nI (on k)) (zat TX3_trace 53 rfl) s70 (by decide) (wcn hW 10 rfl) (by decide) rfl (by omega) b1 ?_
            refine x_istore_n (ls2 := [_, _, _, _, _]) (zat TX3_trace 54 rfl) (by decide) rfl ?_
            refine x_iinc (v := nI (pre.length + 1)) (ls2 := [_, _, _, _, _]) (zat TX3_trace 55 rfl) rfl (nI_inc pre.length) rfl ?_
            refine w_goto 24 (zat TX3_trace 56 rfl) (by decide) ?_
            have hi := ih (pre ++ [k]) (ow on ot k v) hw (by rw [List.length_append]; show pre.length + 1 + ks.length ≤ 9; omega) hy3 _ ((hU.w1 pre.length (nI k)).w0 (nI (pre.length + 1))) hC68 (hLw.more (by decide) k)
            rw [List.append_assoc, List.length_append] at hi
            rw [Ho] at hi
            exact hi _
          · have Ho : ow on ot k v = ot k := if_pos (nIe (by omega) (by omega) Hc71)
            refine w_aload_n (zat TX3_trace 45 rfl) rfl ?_
            refine w_getR (zat TX3_trace 46 rfl) fX3_34 s56 (by decide) (by decide) rfl (wcr hW 20 rfl) ?_
            refine w_iload (zat TX3_trace 47 rfl) rfl ?_
            refine y_iaload _ _ (v := nI (ot k)) (zat TX3_trace 48 rfl) s71 (by decide) (wcn hW 11 rfl) (by decide) rfl (by omega) b2 ?_
            refine w_goto 91 (zat TX3_trace 49 rfl) (by decide) ?_
            refine x_istore_n (ls2 := [_, _, _, _, _]) (zat TX3_trace 54 rfl) (by decide) rfl ?_
            refine x_iinc (v := nI (pre.length + 1)) (ls2 := [_, _, _, _, _]) (zat TX3_trace 55 rfl) rfl (nI_inc pre.length) rfl ?_
            refine w_goto 24 (zat TX3_trace 56 rfl) (by decide) ?_
            have hi := ih (pre ++ [k]) (ow on ot k v) hw (by rw [List.length_append]; show pre.length + 1 + ks.length ≤ 9; omega) hy3 _ ((hU.w1 pre.length (nI k)).w0 (nI (pre.length + 1))) hC68 (hLw.more (by decide) k)
            rw [List.append_assoc, List.length_append] at hi
            rw [Ho] at hi
            exact hi _
        · exact absurd (nI_pos' (by omega)) Hc44
theorem qX3_trace (l : Launch) (h0 : zH) (hW0 : Wc h0) (nP nB : Nat) (hP2 : nP ≤ 10) (hB0 : zI h0 56 0 10 = nI nB) (hB2 : nB ≤ 16) (on ot c : Nat → Nat) (hBT0 : BT h0 nP nB on ot c) (hL : LB nP nB on ot c) (pr : Nat → Nat) (hP0 : zI h0 56 0 9 = nI nP) (hpr : ∀ p, p < nP → zI h0 64 0 p = nI (pr p) ∧ pr p ≤ 1000) (hO : CF h0 67 nP (fun v => oM pr (dW on ot c nB nP) v nP)) (p : Nat) (hp : p < nP) : Ct l 3 mX3_trace [Vq (some (56, 0)), Vi (nI p)] h0 (fun o h' => o = R0 ∧ FrU h0 h' ∧ Lw h' 56 11 69 (wyL on ot c pr nB nP p)) := by
  have hlt : ∀ j, j < nP → oM pr (dW on ot c nB nP) j nP < 16016 := fun j hj => by
    have h1 := (oM_le pr (dW on ot c nB nP) j nP).1
    have h3 := (hpr j hj).2
    omega
  have hwy := wyL_is (pr := pr) hL hP2 hp (hpr p hp).2
  have hs := sr_lt pr (dW on ot c nB nP) hp nP (Nat.le_refl _)
  have hd := sr_near (pr := pr) hL hp (hpr p hp).2
  have hU1 := (FrU.rf h0).w0 0
  have hL0 : Lw (zsI h0 56 0 11 0) 56 11 69 [] := ⟨zI_same _ _ _ _ _, fun i x hx => by cases hx⟩
  refine Ct.in 3 kX3_trace (plainFor_of_name rfl) (Nat.le_of_ble_eq_true rfl) ?_
  refine w_aload_n (zat TX3_trace 0 rfl) rfl ?_
  refine w_iconst (v := 0) (zat TX3_trace 1 rfl) (by decide) ?_
  refine w_putI (zat TX3_trace 2 rfl) gX3_trace_47 s56 (by decide) (by decide) rfl ⟨rfl, rfl⟩ ?_
  refine w_aload_n (zat TX3_trace 3 rfl) rfl ?_
  refine w_iload_n (zat TX3_trace 4 rfl) rfl ?_
  refine x_callv2 (qX3_sourceOf l (zsI h0 56 0 11 0) hW0 nP hP2 pr (fun v => oM pr (dW on ot c nB nP) v nP) hpr hO hlt p hp) (by decide) kX3_sourceOf (rdy_V (zat TX3_trace 5 rfl) kX3_sourceOf pX3_sourceOf zw759 zw746 zw747 (zrc (by decide) (by decide) rfl)) (Nat.le_of_ble_eq_true rfl) rfl rfl ?_
  rw [(oS_sr hP2 hp (dW_aa hL p)).1]
  refine x_istore_n (ls2 := [_, _, _, _, _]) (zat TX3_trace 6 rfl) (by decide) rfl ?_
  refine w_iload_n (zat TX3_trace 7 rfl) rfl ?_
  refine w_iload_n (zat TX3_trace 8 rfl) rfl ?_
  refine w_icmp_ne 17 (zat TX3_trace 9 rfl) (by decide) (fun Hc13 => ?_) (fun Hc13 => ?_)
  · refine w_aload_n (zat TX3_trace 11 rfl) rfl ?_
    refine w_iload_n (zat TX3_trace 12 rfl) rfl ?_
    refine x_call2 (qX3_measureTo l (zsI h0 56 0 11 0) hW0 nP hP0 hP2 nB hB0 hB2 on ot c hBT0 p hp) (by decide) kX3_measureTo (rdy_V (zat TX3_trace 13 rfl) kX3_measureTo pX3_measureTo zw728 zw730 zw23 (zrc (by decide) (by decide) rfl)) (Nat.le_of_ble_eq_true rfl) rfl rfl (fun v h2 hq => ?_) (fun r h2 hq => by cases hq.1)
    obtain ⟨hq1, hG, hC⟩ := hq
    cases hq1
    refine w_iconst (v := 0) (zat TX3_trace 14 rfl) (by decide) ?_
    refine x_istore_n (ls2 := [_, _, _, _, _]) (zat TX3_trace 15 rfl) (by decide) rfl ?_
    refine lX3_trace l h0 hW0 nP nB hP2 hB0 hB2 on ot c hBT0 hL p hp (bL on ot c nB nP (tF p)) (fun j hj => by rw [tolls_eq hL j hj]; omega) (wyL on ot c pr nB nP p) [] _ hs (by rw [List.length_nil]; have := hwy.1; omega) ?_ h2 (hU1.tr hG.U) hC ?_ _
    · exact Wy_cut hL (fun v hv => tolls_eq hL v hv) _ _ hs (by omega) hwy.2
    · unfold Lw
      rw [hG.2 56 (by decide), hG.2 69 (by decide)]
      exact hL0
  · have e := nIe (by omega) (by omega) Hc13
    rw [e] at hwy
    have e2 : wyL on ot c pr nB nP p = [] := Wy_one _ [] p hwy.2 rfl
    rw [e2]
    refine w_return (zat TX3_trace 10 rfl) rfl ?_
    exact ⟨rfl, hU1, hL0⟩
theorem qX3_borderOfWay (l : Launch) (h : zH) (hW : Wc h) (ks : List Nat) (hk : ks.length ≤ 9) (hLw : Lw h 56 11 69 ks) (i : Int32) : Cx l 1 mX3_borderOfWay [Vq (some (56, 0)), Vi i] h (Rv (Vi (wAt ks i))) h := by
  refine Ct.in 0 kX3_borderOfWay (plainFor_of_name rfl) (Nat.le_of_ble_eq_true rfl) ?_
  refine w_iload_n (zat TX3_borderOfWay 0 rfl) rfl ?_
  refine w_if_lt 21 (zat TX3_borderOfWay 1 rfl) (by decide) (fun Hc1 => ?_) (fun Hc1 => ?_)
  · refine w_iconst (v := -1) (zat TX3_borderOfWay 11 rfl) (by decide) ?_
    refine w_ireturn (zat TX3_borderOfWay 12 rfl) rfl rfl ?_
    exact ⟨congrArg (fun x => Rv (Vi x)) (wAt_lt Hc1).symm, rfl⟩
  · refine w_iload_n (zat TX3_borderOfWay 2 rfl) rfl ?_
    refine w_aload_n (zat TX3_borderOfWay 3 rfl) rfl ?_
    refine y_getI (v := nI ks.length) (zat TX3_borderOfWay 4 rfl) fX3_47 s56 (by decide) (by decide) rfl hLw.1 ?_
    refine w_icmp_ge 21 (zat TX3_borderOfWay 5 rfl) (by decide) (fun Hc9 => ?_) (fun Hc9 => ?_)
    · refine w_iconst (v := -1) (zat TX3_borderOfWay 11 rfl) (by decide) ?_
      refine w_ireturn (zat TX3_borderOfWay 12 rfl) rfl rfl ?_
      exact ⟨congrArg (fun x => Rv (Vi x)) (wAt_ge Hc9).symm, rfl⟩
    · rw [Int32.not_lt] at Hc1
      rw [Int32.not_le] at Hc9
      obtain ⟨Hx, Hn⟩ := ixC (n := ks.length) (by omega) ⟨Hc1, Hc9⟩
      refine w_aload_n (zat TX3_borderOfWay 6 rfl) rfl ?_
      refine w_getR (zat TX3_borderOfWay 7 rfl) fX3_28 s56 (by decide) (by decide) rfl (wcr hW 18 rfl) ?_
      refine w_iload_n (zat TX3_borderOfWay 8 rfl) rfl ?_
      refine y_iaload i.toNatClampNeg _ (v := nI (ks.getD i.toNatClampNeg 0)) (zat TX3_borderOfWay 9 rfl) s69 (by decide) (wcn hW 9 rfl) (by decide) Hx (by omega) (hLw.2 _ _ (gD Hn)) ?_
      refine w_goto 22 (zat TX3_borderOfWay 10 rfl) (by decide) ?_
      refine w_ireturn (zat TX3_borderOfWay 12 rfl) rfl rfl ?_
      exact ⟨congrArg (fun x => Rv (Vi x)) (wAt_in Hc1 Hc9).symm, rfl⟩
theorem lX3_carried_23 (l : Launch) (h : zH) (hW : Wc h) (b q : Nat) (hb : b < 16) (hq : q < 10) (ks : List Nat) (hks : ks.length ≤ 9) (hkb : ∀ i, i < ks.length → ks.getD i 0 < 16) (hLw : Lw h 56 11 69 ks) (a : Int64) (Q : zO → zH → Prop) (K : ∀ x, Wp l mX3_carriedOver 4 59 [some (Vq (some (56, 0))), some (Vi (nI b)), some (Vj (cyI b (zL h 66 0 q) a (fun i => ks.getD i 0) ks.length)), none, some (Vi (nI q)), x] [] h Q) : ∀ kk s : Nat, s + kk = ks.length → Wp l mX3_carriedOver 4 23 [some (Vq (some (56, 0))), some (Vi (nI b)), some (Vj (cyI b (zL h 66 0 q) a (fun i => ks.getD i 0) s)), none, some (Vi (nI q)), some (Vi (nI s))] [] h Q := by
  intro kk
  induction kk with
  | zero =>
    intro s hs
    refine w_iload (zat TX3_carriedOver 13 rfl) rfl ?_
    refine w_aload_n (zat TX3_carriedOver 14 rfl) rfl ?_
    refine y_getI (v := nI ks.length) (zat TX3_carriedOver 15 rfl) fX3_47 s56 (by decide) (by decide) rfl hLw.1 ?_
    refine w_icmp_ge 59 (zat TX3_carriedOver 16 rfl) (by decide) (fun Hc29 => ?_) (fun Hc29 => ?_)
    · have e : s = ks.length := by omega
      subst e
      exact K _
    · exact absurd (nI_le (by omega) (by omega)) Hc29
  | succ kk ih =>
    intro s hs
    have hg := hLw.2 s _ (gD (by omega))
    have hb2 := hkb s (by omega)
    refine w_iload (zat TX3_carriedOver 13 rfl) rfl ?_
    refine w_aload_n (zat TX3_carriedOver 14 rfl) rfl ?_
    refine y_getI (v := nI ks.length) (zat TX3_carriedOver 15 rfl) fX3_47 s56 (by decide) (by decide) rfl hLw.1 ?_
    refine w_icmp_ge 59 (zat TX3_carriedOver 16 rfl) (by decide) (fun Hc29 => ?_) (fun Hc29 => ?_)
    · exact absurd Hc29 (nI_ge (by omega) (by omega))
    · refine w_aload_n (zat TX3_carriedOver 17 rfl) rfl ?_
      refine w_getR (zat TX3_carriedOver 18 rfl) fX3_28 s56 (by decide) (by decide) rfl (wcr hW 18 rfl) ?_
      refine w_iload (zat TX3_carriedOver 19 rfl) rfl ?_
      refine y_iaload _ _ (v := nI (ks.getD s 0)) (zat TX3_carriedOver 20 rfl) s69 (by decide) (wcn hW 9 rfl) (by decide) rfl (by omega) hg ?_
      refine w_iload_n (zat TX3_carriedOver 21 rfl) rfl ?_
      refine w_icmp_ne 53 (zat TX3_carriedOver 22 rfl) (by decide) (fun Hc40 => ?_) (fun Hc40 => ?_)
      · have Hs : cyI b (zL h 66 0 q) a (fun i => ks.getD i 0) s = cyI b (zL h 66 0 q) a (fun i => ks.getD i 0) (s + 1) := by
          show _ = _ + _
          rw [if_neg (fun z => Hc40 (congrArg nI z)), Int64.add_zero]
        rw [Hs]
        refine x_iinc (v := nI (s + 1)) (ls2 := [_, _, _, _, _, _]) (zat TX3_carriedOver 30 rfl) rfl (nI_inc s) rfl ?_
        refine w_goto 23 (zat TX3_carriedOver 31 rfl) (by decide) ?_
        exact ih (s + 1) (by omega)
      · have Hs : cyI b (zL h 66 0 q) a (fun i => ks.getD i 0) s + zL h 66 0 q = cyI b (zL h 66 0 q) a (fun i => ks.getD i 0) (s + 1) := by
          show _ = _ + _
          rw [if_pos (nIe (by omega) (by omega) Hc40)]
        refine w_lload_n (zat TX3_carriedOver 23 rfl) rfl ?_
        refine w_aload_n (zat TX3_carriedOver 24 rfl) rfl ?_
        refine w_getR (zat TX3_carriedOver 25 rfl) fX3_19 s56 (by decide) (by decide) rfl (wcr hW 15 rfl) ?_
        refine w_iload (zat TX3_carriedOver 26 rfl) rfl ?_
        refine x_laload _ _ (zat TX3_carriedOver 27 rfl) s66 (by decide) (wcn hW 6 rfl) (by decide) rfl (by omega) ?_
        refine w_ladd (zat TX3_carriedOver 28 rfl) ?_
        rw [Hs]
        refine x_lstore_n (ls2 := [_, _, _, _, _, _]) (zat TX3_carriedOver 29 rfl) (by decide) rfl ?_
        refine x_iinc (v := nI (s + 1)) (ls2 := [_, _, _, _, _, _]) (zat TX3_carriedOver 30 rfl) rfl (nI_inc s) rfl ?_
        refine w_goto 23 (zat TX3_carriedOver 31 rfl) (by decide) ?_
        exact ih (s + 1) (by omega)
theorem lX3_carried_5 (l : Launch) (h0 : zH) (hW0 : Wc h0) (nP nB : Nat) (hP2 : nP ≤ 10) (hB0 : zI h0 56 0 10 = nI nB) (hB2 : nB ≤ 16) (on ot c : Nat → Nat) (hBT0 : BT h0 nP nB on ot c) (hL : LB nP nB on ot c) (pr : Nat → Nat) (hP0 : zI h0 56 0 9 = nI nP) (hpr : ∀ p, p < nP → zI h0 64 0 p = nI (pr p) ∧ pr p ≤ 1000) (hO : CF h0 67 nP (fun v => oM pr (dW on ot c nB nP) v nP)) (b : Nat) (hb : b < 16) : ∀ kk s : Nat, s + kk = nP → ∀ h3, FrU h0 h3 → ∀ x, Wp l mX3_carriedOver 4 5 [some (Vq (some (56, 0))), some (Vi (nI b)), some (Vj (cyT b (zL h0 66 0) (fun p => wyL on ot c pr nB nP p) s)), none, some (Vi (nI s)), x] [] h3 (fun o h' => o = Rv (Vj (cyT b (zL h0 66 0) (fun p => wyL on ot c pr nB nP p) nP)) ∧ FrU h0 h') := by
  intro kk
  induction kk with
  | zero =>
    intro s hs h3 hU x
    have hW3 := Wc.same (congrArg Prod.snd hU.1) hW0
    have hP4 : zI h3 56 0 9 = nI nP := by rw [hU.2.2 0 9 (by decide)]; exact hP0
    refine w_iload (zat TX3_carriedOver 4 rfl) rfl ?_
    refine w_aload_n (zat TX3_carriedOver 5 rfl) rfl ?_
    refine y_getI (v := nI nP) (zat TX3_carriedOver 6 rfl) fX3_40 s56 (by decide) (by decide) rfl hP4 ?_
    refine w_icmp_ge 65 (zat TX3_carriedOver 7 rfl) (by decide) (fun Hc11 => ?_) (fun Hc11 => ?_)
    · refine w_lload_n (zat TX3_carriedOver 34 rfl) rfl ?_
      refine w_lreturn (zat TX3_carriedOver 35 rfl) rfl ?_
      have e : s = nP := by omega
      subst e
      exact ⟨rfl, hU⟩
    · exact absurd (nI_le (by omega) (by omega)) Hc11
  | succ kk ih =>
    intro s hs h3 hU x
    have hs1 : s < nP := by omega
    have hW3 := Wc.same (congrArg Prod.snd hU.1) hW0
    have hP4 : zI h3 56 0 9 = nI nP := by rw [hU.2.2 0 9 (by decide)]; exact hP0
    have hwy := wyL_is (pr := pr) hL hP2 hs1 (hpr s hs1).2
    have hB4 : zI h3 56 0 10 = nI nB := by rw [hU.2.2 0 10 (by decide)]; exact hB0
    have hp3 : ∀ p, p < nP → zI h3 64 0 p = nI (pr p) ∧ pr p ≤ 1000 := by rw [hU.2.1 64 (by decide) (by decide) (by decide)]; exact hpr
    refine w_iload (zat TX3_carriedOver 4 rfl) rfl ?_
    refine w_aload_n (zat TX3_carriedOver 5 rfl) rfl ?_
    refine y_getI (v := nI nP) (zat TX3_carriedOver 6 rfl) fX3_40 s56 (by decide) (by decide) rfl hP4 ?_
    refine w_icmp_ge 65 (zat TX3_carriedOver 7 rfl) (by decide) (fun Hc11 => ?_) (fun Hc11 => ?_)
    · exact absurd Hc11 (nI_ge (by omega) (by omega))
    · refine w_aload_n (zat TX3_carriedOver 8 rfl) rfl ?_
      refine w_iload (zat TX3_carriedOver 9 rfl) rfl ?_
      refine x_call2 (qX3_trace l h3 hW3 nP nB hP2 hB4 hB2 on ot c (hU.bt hBT0) hL pr hP4 hp3 (hU.cf hO) s hs1) (by decide) kX3_trace (rdy_V (zat TX3_carriedOver 10 rfl) kX3_trace pX3_trace zw784 zw785 zw786 (zrc (by decide) (by decide) rfl)) (Nat.le_of_ble_eq_true rfl) rfl rfl (fun v h4 hq => ?_) (fun r h4 hq => by cases hq.1)
      obtain ⟨hq1, hU4, hLw⟩ := hq
      cases hq1
      have hW4 := Wc.same (congrArg Prod.snd hU4.1) hW3
      refine w_iconst (v := 0) (zat TX3_carriedOver 11 rfl) (by decide) ?_
      refine x_istore (ls2 := [_, _, _, _, _, _]) (zat TX3_carriedOver 12 rfl) (by decide) rfl ?_
      have hR : zL h4 66 0 s = zL h0 66 0 s := by unfold zL; rw [hU4.1, hU.1]
      rw [show (cyT b (zL h0 66 0) (fun p => wyL on ot c pr nB nP p) s) = cyI b (zL h4 66 0 s) (cyT b (zL h0 66 0) (fun p => wyL on ot c pr nB nP p) s) (fun i => (wyL on ot c pr nB nP s).getD i 0) 0 from rfl]
      refine lX3_carried_23 l h4 hW4 b s hb (by omega) (wyL on ot c pr nB nP s) hwy.1 (fun i hi => ?_) hLw _ _ (fun x => ?_) (wyL on ot c pr nB nP s).length 0 (by omega)
      · have := Wy_lt _ _ hwy.2 _ (List.mem_of_getElem? (gD hi))
        omega
      · refine x_iinc (v := nI (s + 1)) (ls2 := [_, _, _, _, _, _]) (zat TX3_carriedOver 32 rfl) rfl (nI_inc s) rfl ?_
        refine w_goto 5 (zat TX3_carriedOver 33 rfl) (by decide) ?_
        rw [hR]
        exact ih (s + 1) (by omega) h4 (hU.tr hU4) _
theorem qX3_carriedOver (l : Launch) (h0 : zH) (hW0 : Wc h0) (nP nB : Nat) (hP2 : nP ≤ 10) (hB0 : zI h0 56 0 10 = nI nB) (hB2 : nB ≤ 16) (on ot c : Nat → Nat) (hBT0 : BT h0 nP nB on ot c) (hL : LB nP nB on ot c) (pr : Nat → Nat) (hP0 : zI h0 56 0 9 = nI nP) (hpr : ∀ p, p < nP → zI h0 64 0 p = nI (pr p) ∧ pr p ≤ 1000) (hO : CF h0 67 nP (fun v => oM pr (dW on ot c nB nP) v nP)) (b : Nat) (hb : b < 16) : Ct l 4 mX3_carriedOver [Vq (some (56, 0)), Vi (nI b)] h0 (fun o h' => o = Rv (Vj (cyT b (zL h0 66 0) (fun p => wyL on ot c pr nB nP p) nP)) ∧ FrU h0 h') := by
  refine Ct.in 4 kX3_carriedOver (plainFor_of_name rfl) (Nat.le_of_ble_eq_true rfl) ?_
  refine w_lconst (v := 0) (zat TX3_carriedOver 0 rfl) (by decide) ?_
  refine x_lstore_n (ls2 := [_, _, _, _, _, _]) (zat TX3_carriedOver 1 rfl) (by decide) rfl ?_
  refine w_iconst (v := 0) (zat TX3_carriedOver 2 rfl) (by decide) ?_
  refine x_istore (ls2 := [_, _, _, _, _, _]) (zat TX3_carriedOver 3 rfl) (by decide) rfl ?_
  exact lX3_carried_5 l h0 hW0 nP nB hP2 hB0 hB2 on ot c hBT0 hL pr hP0 hpr hO b hb nP 0 (by omega) h0 (FrU.rf h0) _
theorem qX11_way_n (l : Launch) (h : zH) (hW : Wc h) (p : Int32) (nP : Nat) (hP : zI h 0 0 8 = nI nP) (hP2 : nP ≤ 10) (hP3 : zC h 58 = nP) (Hp : ¬ (0 ≤ p ∧ p < nI nP)) : Cx l 3 mX11_way [Vq (some (0, 0)), Vi p] h (Rv (Vi (-1))) h := by
  refine Ct.in 0 kX11_way (plainFor_of_name rfl) (Nat.le_of_ble_eq_true rfl) ?_
  refine w_aload_n (zat TX11_way 0 rfl) rfl ?_
  refine w_iload_n (zat TX11_way 1 rfl) rfl ?_
  refine x_callv2 (qX11_provinceAt_n l _ hW nP hP hP2 hP3 _ Hp) (by decide) kX11_provinceAt (rdy_V (zat TX11_way 2 rfl) kX11_provinceAt pX11_provinceAt zw390 zw392 zw2 (zrc (by decide) (by decide) rfl)) (Nat.le_of_ble_eq_true rfl) rfl rfl ?_
  refine w_ifnonnull_f (zat TX11_way 3 rfl) ?_
  refine w_iconst (v := -1) (zat TX11_way 4 rfl) (by decide) ?_
  refine w_ireturn (zat TX11_way 5 rfl) rfl rfl ?_
  exact ⟨rfl, rfl⟩
theorem qX11_wayAt_n (l : Launch) (h : zH) (hW : Wc h) (p : Int32) (i : Int32) (nP : Nat) (hP : zI h 0 0 8 = nI nP) (hP2 : nP ≤ 10) (hP3 : zC h 58 = nP) (Hp : ¬ (0 ≤ p ∧ p < nI nP)) : Cx l 3 mX11_wayAt [Vq (some (0, 0)), Vi p, Vi i] h (Rv (Vi (-1))) h := by
  refine Ct.in 0 kX11_wayAt (plainFor_of_name rfl) (Nat.le_of_ble_eq_true rfl) ?_
  refine w_aload_n (zat TX11_wayAt 0 rfl) rfl ?_
  refine w_iload_n (zat TX11_wayAt 1 rfl) rfl ?_
  refine x_callv2 (qX11_provinceAt_n l _ hW nP hP hP2 hP3 _ Hp) (by decide) kX11_provinceAt (rdy_V (zat TX11_wayAt 2 rfl) kX11_provinceAt pX11_provinceAt zw390 zw392 zw2 (zrc (by decide) (by decide) rfl)) (Nat.le_of_ble_eq_true rfl) rfl rfl ?_
  refine w_ifnonnull_f (zat TX11_wayAt 3 rfl) ?_
  refine w_iconst (v := -1) (zat TX11_wayAt 4 rfl) (by decide) ?_
  refine w_ireturn (zat TX11_wayAt 5 rfl) rfl rfl ?_
  exact ⟨rfl, rfl⟩
theorem qX11_carried_n (l : Launch) (h : zH) (hW : Wc h) (p : Int32) (nB : Nat) (hB : zI h 0 0 9 = nI nB) (hB2 : nB ≤ 16) (hB3 : zC h 59 = nB) (Hp : ¬ (0 ≤ p ∧ p < nI nB)) : Cx l 3 mX11_carried [Vq (some (0, 0)), Vi p] h (Rv (Vj (-1))) h := by
  refine Ct.in 0 kX11_carried (plainFor_of_name rfl) (Nat.le_of_ble_eq_true rfl) ?_
  refine w_aload_n (zat TX11_carried 0 rfl) rfl ?_
  refine w_iload_n (zat TX11_carried 1 rfl) rfl ?_
  refine x_callv2 (qX11_borderAt_n l _ hW nB hB hB2 hB3 _ Hp) (by decide) kX11_borderAt (rdy_V (zat TX11_carried 2 rfl) kX11_borderAt pX11_borderAt zw439 zw441 zw5 (zrc (by decide) (by decide) rfl)) (Nat.le_of_ble_eq_true rfl) rfl rfl ?_
  refine w_ifnonnull_f (zat TX11_carried 3 rfl) ?_
  refine w_ldc2 (v := -1) (zat TX11_carried 4 rfl) zw754 ?_
  refine w_lreturn (zat TX11_carried 5 rfl) rfl ?_
  exact ⟨rfl, rfl⟩
theorem qX11_way_s (l : Launch) (h0 : zH) (nP nB nE Y : Nat) (pg : Nat → List (Bool × List (Nat × Int32))) (on ot c pr : Nat → Nat) (hK : KQ h0 nP nB nE Y pg on ot c pr) (a : Nat) (ha : a < nP) : Ct l 9 mX11_way [Vq (some (0, 0)), Vi (nI a)] h0 (fun o h' => o = Rv (Vi (nI (wyL on ot c pr nB nP a).length)) ∧ FrV h0 h' ∧ MO h' nP (pfC (cP h0) (cY h0) nE pg) (fun p => zI h0 58 p 0) (fun p => zI h0 58 p 1)) := by
  obtain ⟨hW0, hP2, hP3, hYl, hE, hE2, hE3, hY, hC, hP0, hY0, hB0, hB2, hB3, hBK, hMO, hpr, hL⟩ := id hK
  refine Ct.in 0 kX11_way (plainFor_of_name rfl) (Nat.le_of_ble_eq_true rfl) ?_
  refine w_aload_n (zat TX11_way 0 rfl) rfl ?_
  refine w_iload_n (zat TX11_way 1 rfl) rfl ?_
  refine x_callv2 (qX11_provinceAt_s l _ hW0 nP hP0 hP2 hP3 _ a rfl ha) (by decide) kX11_provinceAt (rdy_V (zat TX11_way 2 rfl) kX11_provinceAt pX11_provinceAt zw390 zw392 zw2 (zrc (by decide) (by decide) rfl)) (Nat.le_of_ble_eq_true rfl) rfl rfl ?_
  refine w_ifnonnull_t 10 (zat TX11_way 3 rfl) (by decide) ?_
  refine w_aload_n (zat TX11_way 6 rfl) rfl ?_
  refine x_call1 (qX11_survey_k l h0 nP nB nE Y pg on ot c pr hK) (by decide) kX11_survey (rdy_V (zat TX11_way 7 rfl) kX11_survey pX11_survey zw704 zw706 zw21 (zrc (by decide) (by decide) rfl)) (Nat.le_of_ble_eq_true rfl) rfl rfl (fun v h2 hq => ?_) (fun r h2 hq => by cases hq.1)
  obtain ⟨hq1, hN⟩ := hq
  cases hq1
  obtain ⟨hF, ⟨hM2, ⟨hN9, hN10⟩, hS⟩, hT, hO⟩ := hN
  have hW2 := Wc.same hF.1 hW0
  have hp2 : ∀ p, p < nP → zI h2 64 0 p = nI (pr p) ∧ pr p ≤ 1000 := fun p hp => ⟨(hS p hp).1.trans (hpr p hp).1, (hpr p hp).2⟩
  have hlt : ∀ j, j < nP → oM pr (dW on ot c nB nP) j nP < 16016 := fun j hj => by
    have h1 := (oM_le pr (dW on ot c nB nP) j nP).1
    have h3 := (hpr j hj).2
    omega
  refine w_aload_n (zat TX11_way 8 rfl) rfl ?_
  refine w_getR (zat TX11_way 9 rfl) fX11_51 s0 (by decide) (by decide) rfl (wcr hW2 6 rfl) ?_
  refine w_iload_n (zat TX11_way 10 rfl) rfl ?_
  refine x_call2 (qX3_trace l h2 hW2 nP nB hP2 hN10 hB2 on ot c hT hL pr hN9 hp2 hO a ha) (by decide) kX3_trace (rdy_V (zat TX11_way 11 rfl) kX3_trace pX3_trace zw796 zw785 zw786 (zrc (by decide) (by decide) rfl)) (Nat.le_of_ble_eq_true rfl) rfl rfl (fun v h3 hq => ?_) (fun r h3 hq => by cases hq.1)
  obtain ⟨hq1, hU, hLw⟩ := hq
  cases hq1
  have hW3 := Wc.same (congrArg Prod.snd hU.1) hW2
  refine w_aload_n (zat TX11_way 12 rfl) rfl ?_
  refine w_getR (zat TX11_way 13 rfl) fX11_51 s0 (by decide) (by decide) rfl (wcr hW3 6 rfl) ?_
  refine y_getI (v := nI (wyL on ot c pr nB nP a).length) (zat TX11_way 14 rfl) fX11_222 s56 (by decide) (by decide) rfl hLw.1 ?_
  refine w_ireturn (zat TX11_way 15 rfl) rfl rfl ?_
  exact ⟨rfl, hF.V.tr hU.V, hU.mo hM2⟩
theorem qX11_wayAt_s (l : Launch) (h0 : zH) (nP nB nE Y : Nat) (pg : Nat → List (Bool × List (Nat × Int32))) (on ot c pr : Nat → Nat) (hK : KQ h0 nP nB nE Y pg on ot c pr) (a : Nat) (ha : a < nP) (i : Int32) : Ct l 9 mX11_wayAt [Vq (some (0, 0)), Vi (nI a), Vi i] h0 (fun o h' => o = Rv (Vi (wAt (wyL on ot c pr nB nP a) i)) ∧ FrV h0 h' ∧ MO h' nP (pfC (cP h0) (cY h0) nE pg) (fun p => zI h0 58 p 0) (fun p => zI h0 58 p 1)) := by
  obtain ⟨hW0, hP2, hP3, hYl, hE, hE2, hE3, hY, hC, hP0, hY0, hB0, hB2, hB3, hBK, hMO, hpr, hL⟩ := id hK
  refine Ct.in 0 kX11_wayAt (plainFor_of_name rfl) (Nat.le_of_ble_eq_true rfl) ?_
  refine w_aload_n (zat TX11_wayAt 0 rfl) rfl ?_
  refine w_iload_n (zat TX11_wayAt 1 rfl) rfl ?_
  refine x_callv2 (qX11_provinceAt_s l _ hW0 nP hP0 hP2 hP3 _ a rfl ha) (by decide) kX11_provinceAt (rdy_V (zat TX11_wayAt 2 rfl) kX11_provinceAt pX11_provinceAt zw390 zw392 zw2 (zrc (by decide) (by decide) rfl)) (Nat.le_of_ble_eq_true rfl) rfl rfl ?_
  refine w_ifnonnull_t 10 (zat TX11_wayAt 3 rfl) (by decide) ?_
  refine w_aload_n (zat TX11_wayAt 6 rfl) rfl ?_
  refine x_call1 (qX11_survey_k l h0 nP nB nE Y pg on ot c pr hK) (by decide) kX11_survey (rdy_V (zat TX11_wayAt 7 rfl) kX11_survey pX11_survey zw704 zw706 zw21 (zrc (by decide) (by decide) rfl)) (Nat.le_of_ble_eq_true rfl) rfl rfl (fun v h2 hq => ?_) (fun r h2 hq => by cases hq.1)
  obtain ⟨hq1, hN⟩ := hq
  cases hq1
  obtain ⟨hF, ⟨hM2, ⟨hN9, hN10⟩, hS⟩, hT, hO⟩ := hN
  have hW2 := Wc.same hF.1 hW0
  have hp2 : ∀ p, p < nP → zI h2 64 0 p = nI (pr p) ∧ pr p ≤ 1000 := fun p hp => ⟨(hS p hp).1.trans (hpr p hp).1, (hpr p hp).2⟩
  have hlt : ∀ j, j < nP → oM pr (dW on ot c nB nP) j nP < 16016 := fun j hj => by
    have h1 := (oM_le pr (dW on ot c nB nP) j nP).1
    have h3 := (hpr j hj).2
    omega
  refine w_aload_n (zat TX11_wayAt 8 rfl) rfl ?_
  refine w_getR (zat TX11_wayAt 9 rfl) fX11_51 s0 (by decide) (by decide) rfl (wcr hW2 6 rfl) ?_
  refine w_iload_n (zat TX11_wayAt 10 rfl) rfl ?_
  refine x_call2 (qX3_trace l h2 hW2 nP nB hP2 hN10 hB2 on ot c hT hL pr hN9 hp2 hO a ha) (by decide) kX3_trace (rdy_V (zat TX11_wayAt 11 rfl) kX3_trace pX3_trace zw796 zw785 zw786 (zrc (by decide) (by decide) rfl)) (Nat.le_of_ble_eq_true rfl) rfl rfl (fun v h3 hq => ?_) (fun r h3 hq => by cases hq.1)
  obtain ⟨hq1, hU, hLw⟩ := hq
  cases hq1
  have hW3 := Wc.same (congrArg Prod.snd hU.1) hW2
  refine w_aload_n (zat TX11_wayAt 12 rfl) rfl ?_
  refine w_getR (zat TX11_wayAt 13 rfl) fX11_51 s0 (by decide) (by decide) rfl (wcr hW3 6 rfl) ?_
  refine w_iload_n (zat TX11_wayAt 14 rfl) rfl ?_
  refine x_callv2 (qX3_borderOfWay l h3 hW3 (wyL on ot c pr nB nP a) (wyL_is (pr := pr) hL hP2 ha (hpr a ha).2).1 hLw i) (by decide) kX3_borderOfWay (rdy_V (zat TX11_wayAt 15 rfl) kX3_borderOfWay pX3_borderOfWay zw801 zw802 zw803 (zrc (by decide) (by decide) rfl)) (Nat.le_of_ble_eq_true rfl) rfl rfl ?_
  refine w_ireturn (zat TX11_wayAt 16 rfl) rfl rfl ?_
  exact ⟨rfl, hF.V.tr hU.V, hU.mo hM2⟩
theorem qX11_carried_s (l : Launch) (h0 : zH) (nP nB nE Y : Nat) (pg : Nat → List (Bool × List (Nat × Int32))) (on ot c pr : Nat → Nat) (hK : KQ h0 nP nB nE Y pg on ot c pr) (b : Nat) (hb : b < nB) : Ct l 9 mX11_carried [Vq (some (0, 0)), Vi (nI b)] h0 (fun o h' => ∃ hN0, KNow h0 hN0 nP nB nE Y pg on ot c pr ∧ o = Rv (Vj (cyT b (zL hN0 66 0) (fun p => wyL on ot c pr nB nP p) nP)) ∧ FrV h0 h' ∧ MO h' nP (pfC (cP h0) (cY h0) nE pg) (fun p => zI h0 58 p 0) (fun p => zI h0 58 p 1)) := by
  obtain ⟨hW0, hP2, hP3, hYl, hE, hE2, hE3, hY, hC, hP0, hY0, hB0, hB2, hB3, hBK, hMO, hpr, hL⟩ := id hK
  refine Ct.in 0 kX11_carried (plainFor_of_name rfl) (Nat.le_of_ble_eq_true rfl) ?_
  refine w_aload_n (zat TX11_carried 0 rfl) rfl ?_
  refine w_iload_n (zat TX11_carried 1 rfl) rfl ?_
  refine x_callv2 (qX11_borderAt_s l _ hW0 nB hB0 hB2 hB3 _ b rfl hb) (by decide) kX11_borderAt (rdy_V (zat TX11_carried 2 rfl) kX11_borderAt pX11_borderAt zw439 zw441 zw5 (zrc (by decide) (by decide) rfl)) (Nat.le_of_ble_eq_true rfl) rfl rfl ?_
  refine w_ifnonnull_t 12 (zat TX11_carried 3 rfl) (by decide) ?_
  refine w_aload_n (zat TX11_carried 6 rfl) rfl ?_
  refine x_call1 (qX11_survey_k l h0 nP nB nE Y pg on ot c pr hK) (by decide) kX11_survey (rdy_V (zat TX11_carried 7 rfl) kX11_survey pX11_survey zw704 zw706 zw21 (zrc (by decide) (by decide) rfl)) (Nat.le_of_ble_eq_true rfl) rfl rfl (fun v h2 hq => ?_) (fun r h2 hq => by cases hq.1)
  obtain ⟨hq1, hN⟩ := hq
  cases hq1
  obtain ⟨hF, ⟨hM2, ⟨hN9, hN10⟩, hS⟩, hT, hO⟩ := id hN
  have hW2 := Wc.same hF.1 hW0
  have hp2 : ∀ p, p < nP → zI h2 64 0 p = nI (pr p) ∧ pr p ≤ 1000 := fun p hp => ⟨(hS p hp).1.trans (hpr p hp).1, (hpr p hp).2⟩
  have hlt : ∀ j, j < nP → oM pr (dW on ot c nB nP) j nP < 16016 := fun j hj => by
    have h1 := (oM_le pr (dW on ot c nB nP) j nP).1
    have h3 := (hpr j hj).2
    omega
  refine w_aload_n (zat TX11_carried 8 rfl) rfl ?_
  refine w_getR (zat TX11_carried 9 rfl) fX11_51 s0 (by decide) (by decide) rfl (wcr hW2 6 rfl) ?_
  refine w_iload_n (zat TX11_carried 10 rfl) rfl ?_
  refine x_call2 (qX3_carriedOver l h2 hW2 nP nB hP2 hN10 hB2 on ot c hT hL pr hN9 hp2 hO b (by omega)) (by decide) kX3_carriedOver (rdy_V (zat TX11_carried 11 rfl) kX3_carriedOver pX3_carriedOver zw780 zw781 zw782 (zrc (by decide) (by decide) rfl)) (Nat.le_of_ble_eq_true rfl) rfl rfl (fun v h3 hq => ?_) (fun r h3 hq => by cases hq.1)
  obtain ⟨hq1, hU⟩ := hq
  cases hq1
  refine w_lreturn (zat TX11_carried 12 rfl) rfl ?_
  exact ⟨h2, hN, rfl, hF.V.tr hU.V, hU.mo hM2⟩
