-- priceOf of the model, by program (wip/gen/p36.py)
/-- the model's edict e holds the program p -/
def MR (h : zH) (e : Nat) (p : List (Bool × List (Nat × Int32))) : Prop := zI h 17 e 2 = nI p.length ∧ p.length ≤ 12 ∧ (∀ ln ∈ p, okL ln) ∧ ∀ li ln, p[li]? = some ln → ∃ a : Nat, zI h 35 e li = (if ln.1 then 1 else 0) ∧ zI h 37 e li = nI a ∧ zI h 38 e li = nI (a + ln.2.length) ∧ a + ln.2.length ≤ 320 ∧ ∀ i it, ln.2[i]? = some it → zI h 39 e (a + i) = nI it.1 ∧ zI h 40 e (a + i) = it.2
theorem FrT.mr {a b : zH} (x : FrT a b) {e : Nat} {p : List (Bool × List (Nat × Int32))} (h : MR a e p) : MR b e p := by
  unfold MR
  rw [x.2 17 (by decide), x.2 35 (by decide), x.2 37 (by decide), x.2 38 (by decide), x.2 39 (by decide), x.2 40 (by decide)]
  exact h
def zB (b : Bool) : Int32 := if b then 1 else 0
theorem zB_eq (a b : Bool) : (if a then (1 : Int32) else 0) = zB b ↔ a = b := by cases a <;> cases b <;> decide
theorem pi_found {l : Launch} {h : zH} {Q : zO → zH → Prop} {j f nE N : Nat} {Y old now : Int32} {dy : Bool} (hWM : Wm h) (hE3 : zC h 17 = nE + 1) (hE2 : nE ≤ 30) (hf : f < nE) (hN : zI h 17 f 2 = nI N) (hN2 : N ≤ 12) {v : Int32} {li : Nat} (hli : li ≤ 12) (K : ∀ (x y z : Option zV), Wp l mX14_priceOf 5 125 [some (Vq (some (1, 0))), some (Vi (nI j)), some (Vi Y), some (Vi (zB dy)), some (Vi old), some (Vi now), some (Vi (nI f)), some (Vi v), y, z, x] [] h Q) (x : Option zV) : Wp l mX14_priceOf 5 30 [some (Vq (some (1, 0))), some (Vi (nI j)), some (Vi Y), some (Vi (zB dy)), some (Vi old), some (Vi now), some (Vi (nI f)), some (Vi v), some (Vi 1), some (Vi (nI li)), x] [] h Q := by
  refine w_iload (zat TX14_priceOf_0 18 rfl) rfl ?_
  refine w_if_lt 125 (zat TX14_priceOf_0 19 rfl) (by decide) (fun Hc32 => ?_) (fun Hc32 => ?_)
  · exact absurd Hc32 (nI_pos (by omega))
  · refine w_iload (zat TX14_priceOf_0 20 rfl) rfl ?_
    refine w_aload_n (zat TX14_priceOf_0 21 rfl) rfl ?_
    refine w_getR (zat TX14_priceOf_0 22 rfl) fX14_37 s1 (by decide) (by decide) rfl (wmr hWM 6 rfl) ?_
    refine w_iload (zat TX14_priceOf_0 23 rfl) rfl ?_
    refine x_aaload _ _ (zat TX14_priceOf_0 24 rfl) (by decide) (by decide) ⟨_, rfl⟩ (wmn hWM 6 rfl) (by decide) rfl (by omega) (hWM.2.2.1.2.2 f (by omega)) ?_
    refine y_getI (v := nI N) (zat TX14_priceOf_0 25 rfl) fX14_210 s17 (by decide) (by decide) rfl hN ?_
    refine w_icmp_ge 125 (zat TX14_priceOf_0 26 rfl) (by decide) (fun Hc47 => ?_) (fun Hc47 => ?_)
    · exact K _ _ _
    · refine w_iload (zat TX14_priceOf_0 27 rfl) rfl ?_
      refine w_if_ne 125 (zat TX14_priceOf_0 28 rfl) (by decide) (fun Hc52 => ?_) (fun Hc52 => ?_)
      · exact K _ _ _
      · exact absurd Hc52 (by decide)
theorem pi_end {l : Launch} {h : zH} {Q : zO → zH → Prop} {j f nE N : Nat} {Y old now : Int32} {dy : Bool} (hWM : Wm h) (hE3 : zC h 17 = nE + 1) (hE2 : nE ≤ 30) (hf : f < nE) (hN : zI h 17 f 2 = nI N) (hN2 : N ≤ 12) {li : Nat} (hli : li = N) (K : ∀ (x y z : Option zV), Wp l mX14_priceOf 5 125 [some (Vq (some (1, 0))), some (Vi (nI j)), some (Vi Y), some (Vi (zB dy)), some (Vi old), some (Vi now), some (Vi (nI f)), some (Vi 0), y, z, x] [] h Q) (x : Option zV) : Wp l mX14_priceOf 5 30 [some (Vq (some (1, 0))), some (Vi (nI j)), some (Vi Y), some (Vi (zB dy)), some (Vi old), some (Vi now), some (Vi (nI f)), some (Vi 0), some (Vi 0), some (Vi (nI li)), x] [] h Q := by
  refine w_iload (zat TX14_priceOf_0 18 rfl) rfl ?_
  refine w_if_lt 125 (zat TX14_priceOf_0 19 rfl) (by decide) (fun Hc32 => ?_) (fun Hc32 => ?_)
  · exact absurd Hc32 (nI_pos (by omega))
  · refine w_iload (zat TX14_priceOf_0 20 rfl) rfl ?_
    refine w_aload_n (zat TX14_priceOf_0 21 rfl) rfl ?_
    refine w_getR (zat TX14_priceOf_0 22 rfl) fX14_37 s1 (by decide) (by decide) rfl (wmr hWM 6 rfl) ?_
    refine w_iload (zat TX14_priceOf_0 23 rfl) rfl ?_
    refine x_aaload _ _ (zat TX14_priceOf_0 24 rfl) (by decide) (by decide) ⟨_, rfl⟩ (wmn hWM 6 rfl) (by decide) rfl (by omega) (hWM.2.2.1.2.2 f (by omega)) ?_
    refine y_getI (v := nI N) (zat TX14_priceOf_0 25 rfl) fX14_210 s17 (by decide) (by decide) rfl hN ?_
    refine w_icmp_ge 125 (zat TX14_priceOf_0 26 rfl) (by decide) (fun Hc47 => ?_) (fun Hc47 => ?_)
    · exact K _ _ _
    · exact absurd (nI_le (by omega) (by omega)) Hc47
theorem pi_other {l : Launch} {h : zH} {Q : zO → zH → Prop} {j f nE N : Nat} {Y old now : Int32} {dy : Bool} (hWM : Wm h) (hE3 : zC h 17 = nE + 1) (hE2 : nE ≤ 30) (hf : f < nE) (hN : zI h 17 f 2 = nI N) (hN2 : N ≤ 12) {li : Nat} {ln : Bool × List (Nat × Int32)} (hli : li < N) (hd : zI h 35 f li = (if ln.1 then 1 else 0)) (hne : ¬ ln.1 = dy) (K : ∀ x : Option zV, Wp l mX14_priceOf 5 30 [some (Vq (some (1, 0))), some (Vi (nI j)), some (Vi Y), some (Vi (zB dy)), some (Vi old), some (Vi now), some (Vi (nI f)), some (Vi 0), some (Vi 0), some (Vi (nI (li + 1))), x] [] h Q) (x : Option zV) : Wp l mX14_priceOf 5 30 [some (Vq (some (1, 0))), some (Vi (nI j)), some (Vi Y), some (Vi (zB dy)), some (Vi old), some (Vi now), some (Vi (nI f)), some (Vi 0), some (Vi 0), some (Vi (nI li)), x] [] h Q := by
  refine w_iload (zat TX14_priceOf_0 18 rfl) rfl ?_
  refine w_if_lt 125 (zat TX14_priceOf_0 19 rfl) (by decide) (fun Hc32 => ?_) (fun Hc32 => ?_)
  · exact absurd Hc32 (nI_pos (by omega))
  · refine w_iload (zat TX14_priceOf_0 20 rfl) rfl ?_
    refine w_aload_n (zat TX14_priceOf_0 21 rfl) rfl ?_
    refine w_getR (zat TX14_priceOf_0 22 rfl) fX14_37 s1 (by decide) (by decide) rfl (wmr hWM 6 rfl) ?_
    refine w_iload (zat TX14_priceOf_0 23 rfl) rfl ?_
    refine x_aaload _ _ (zat TX14_priceOf_0 24 rfl) (by decide) (by decide) ⟨_, rfl⟩ (wmn hWM 6 rfl) (by decide) rfl (by omega) (hWM.2.2.1.2.2 f (by omega)) ?_
    refine y_getI (v := nI N) (zat TX14_priceOf_0 25 rfl) fX14_210 s17 (by decide) (by decide) rfl hN ?_
    refine w_icmp_ge 125 (zat TX14_priceOf_0 26 rfl) (by decide) (fun Hc47 => ?_) (fun Hc47 => ?_)
    · exact absurd Hc47 (nI_ge hli (by omega))
    · refine w_iload (zat TX14_priceOf_0 27 rfl) rfl ?_
      refine w_if_ne 125 (zat TX14_priceOf_0 28 rfl) (by decide) (fun Hc52 => ?_) (fun Hc52 => ?_)
      · exact absurd rfl Hc52
      · refine w_aload_n (zat TX14_priceOf_0 29 rfl) rfl ?_
        refine w_getR (zat TX14_priceOf_0 30 rfl) fX14_37 s1 (by decide) (by decide) rfl (wmr hWM 6 rfl) ?_
        refine w_iload (zat TX14_priceOf_0 31 rfl) rfl ?_
        refine x_aaload _ _ (zat TX14_priceOf_0 32 rfl) (by decide) (by decide) ⟨_, rfl⟩ (wmn hWM 6 rfl) (by decide) rfl (by omega) (hWM.2.2.1.2.2 f (by omega)) ?_
        refine w_getR (zat TX14_priceOf_0 33 rfl) fX14_225 s17 (by decide) (by decide) rfl ((hWM.2.2.2.2 f (by omega)).1.1) ?_
        refine w_iload (zat TX14_priceOf_0 34 rfl) rfl ?_
        refine y_zaload _ _ (v := (if ln.1 then 1 else 0)) (zat TX14_priceOf_0 35 rfl) s35 (by decide) ((hWM.2.2.2.2 f (by omega)).2.1) (by decide) rfl (by omega) hd ?_
        refine w_iload_n (zat TX14_priceOf_0 36 rfl) rfl ?_
        refine w_icmp_eq 75 (zat TX14_priceOf_0 37 rfl) (by decide) (fun Hc69 => ?_) (fun Hc69 => ?_)
        · exact absurd ((zB_eq _ _).mp Hc69) hne
        · refine w_goto 119 (zat TX14_priceOf_0 38 rfl) (by decide) ?_
          refine x_iinc (v := nI (li + 1)) (ls2 := [_, _, _, _, _, _, _, _, _, _, _]) (zat TX14_priceOf_1 1 rfl) rfl (nI_inc li) rfl ?_
          refine w_goto 30 (zat TX14_priceOf_1 2 rfl) (by decide) ?_
          exact K _
theorem pi_line {l : Launch} {h : zH} {Q : zO → zH → Prop} {j f nE N : Nat} {Y old now : Int32} {dy : Bool} (hWM : Wm h) (hE3 : zC h 17 = nE + 1) (hE2 : nE ≤ 30) (hf : f < nE) (hN : zI h 17 f 2 = nI N) (hN2 : N ≤ 12) {li : Nat} {ln : Bool × List (Nat × Int32)} (hli : li < N) (hd : zI h 35 f li = (if ln.1 then 1 else 0)) (heq : ln.1 = dy) (hj : j < 10) (Qt : zO → zH → Prop) (hct : Ct l 4 mX14_tells [Vq (some (1, 0)), Vq (some (17, f)), Vi (nI li), Vi (nI j), Vi now, Vi old] h (fun o h' => o = Rv (Vi (match lnV (envY now (zI h 10 0 j) (zI h 11 0 j) old) ln.2 with
      | some v => v
      | none => -1000001)) ∧ FrT h h')) (hlo : ∀ v, lnV (envY now (zI h 10 0 j) (zI h 11 0 j) old) ln.2 = some v → -1000000 ≤ v)
    (K1 : ∀ v, lnV (envY now (zI h 10 0 j) (zI h 11 0 j) old) ln.2 = some v → ∀ h' x, FrT h h' → Wp l mX14_priceOf 5 30 [some (Vq (some (1, 0))), some (Vi (nI j)), some (Vi Y), some (Vi (zB dy)), some (Vi old), some (Vi now), some (Vi (nI f)), some (Vi v), some (Vi 1), some (Vi (nI (li + 1))), x] [] h' Q)
    (K0 : lnV (envY now (zI h 10 0 j) (zI h 11 0 j) old) ln.2 = none → ∀ h' x, FrT h h' → Wp l mX14_priceOf 5 30 [some (Vq (some (1, 0))), some (Vi (nI j)), some (Vi Y), some (Vi (zB dy)), some (Vi old), some (Vi now), some (Vi (nI f)), some (Vi 0), some (Vi 0), some (Vi (nI (li + 1))), x] [] h' Q) (x : Option zV) : Wp l mX14_priceOf 5 30 [some (Vq (some (1, 0))), some (Vi (nI j)), some (Vi Y), some (Vi (zB dy)), some (Vi old), some (Vi now), some (Vi (nI f)), some (Vi 0), some (Vi 0), some (Vi (nI li)), x] [] h Q := by
  rcases hln : lnV (envY now (zI h 10 0 j) (zI h 11 0 j) old) ln.2 with _ | v
  · rw [hln] at hct
    refine w_iload (zat TX14_priceOf_0 18 rfl) rfl ?_
    refine w_if_lt 125 (zat TX14_priceOf_0 19 rfl) (by decide) (fun Hc32 => ?_) (fun Hc32 => ?_)
    · exact absurd Hc32 (nI_pos (by omega))
    · refine w_iload (zat TX14_priceOf_0 20 rfl) rfl ?_
      refine w_aload_n (zat TX14_priceOf_0 21 rfl) rfl ?_
      refine w_getR (zat TX14_priceOf_0 22 rfl) fX14_37 s1 (by decide) (by decide) rfl (wmr hWM 6 rfl) ?_
      refine w_iload (zat TX14_priceOf_0 23 rfl) rfl ?_
      refine x_aaload _ _ (zat TX14_priceOf_0 24 rfl) (by decide) (by decide) ⟨_, rfl⟩ (wmn hWM 6 rfl) (by decide) rfl (by omega) (hWM.2.2.1.2.2 f (by omega)) ?_
      refine y_getI (v := nI N) (zat TX14_priceOf_0 25 rfl) fX14_210 s17 (by decide) (by decide) rfl hN ?_
      refine w_icmp_ge 125 (zat TX14_priceOf_0 26 rfl) (by decide) (fun Hc47 => ?_) (fun Hc47 => ?_)
      · exact absurd Hc47 (nI_ge hli (by omega))
      · refine w_iload (zat TX14_priceOf_0 27 rfl) rfl ?_
        refine w_if_ne 125 (zat TX14_priceOf_0 28 rfl) (by decide) (fun Hc52 => ?_) (fun Hc52 => ?_)
        · exact absurd rfl Hc52
        · refine w_aload_n (zat TX14_priceOf_0 29 rfl) rfl ?_
          refine w_getR (zat TX14_priceOf_0 30 rfl) fX14_37 s1 (by decide) (by decide) rfl (wmr hWM 6 rfl) ?_
          refine w_iload (zat TX14_priceOf_0 31 rfl) rfl ?_
          refine x_aaload _ _ (zat TX14_priceOf_0 32 rfl) (by decide) (by decide) ⟨_, rfl⟩ (wmn hWM 6 rfl) (by decide) rfl (by omega) (hWM.2.2.1.2.2 f (by omega)) ?_
          refine w_getR (zat TX14_priceOf_0 33 rfl) fX14_225 s17 (by decide) (by decide) rfl ((hWM.2.2.2.2 f (by omega)).1.1) ?_
          refine w_iload (zat TX14_priceOf_0 34 rfl) rfl ?_
          refine y_zaload _ _ (v := (if ln.1 then 1 else 0)) (zat TX14_priceOf_0 35 rfl) s35 (by decide) ((hWM.2.2.2.2 f (by omega)).2.1) (by decide) rfl (by omega) hd ?_
          refine w_iload_n (zat TX14_priceOf_0 36 rfl) rfl ?_
          refine w_icmp_eq 75 (zat TX14_priceOf_0 37 rfl) (by decide) (fun Hc69 => ?_) (fun Hc69 => ?_)
          · refine w_aload_n (zat TX14_priceOf_0 39 rfl) rfl ?_
            refine w_aload_n (zat TX14_priceOf_0 40 rfl) rfl ?_
            refine w_getR (zat TX14_priceOf_0 41 rfl) fX14_37 s1 (by decide) (by decide) rfl (wmr hWM 6 rfl) ?_
            refine w_iload (zat TX14_priceOf_0 42 rfl) rfl ?_
            refine x_aaload _ _ (zat TX14_priceOf_0 43 rfl) (by decide) (by decide) ⟨_, rfl⟩ (wmn hWM 6 rfl) (by decide) rfl (by omega) (hWM.2.2.1.2.2 f (by omega)) ?_
            refine w_iload (zat TX14_priceOf_0 44 rfl) rfl ?_
            refine w_iload_n (zat TX14_priceOf_0 45 rfl) rfl ?_
            refine w_iload (zat TX14_priceOf_0 46 rfl) rfl ?_
            refine w_iload (zat TX14_priceOf_0 47 rfl) rfl ?_
            refine x_call6 (hct) (by decide) kX14_tells (rdy_V (zat TX14_priceOf_0 48 rfl) kX14_tells pX14_tells zw1333 zw1335 zw51 (zrc (by decide) (by decide) rfl)) (Nat.le_of_ble_eq_true rfl) rfl rfl (fun w h2 hq => ?_) (fun r h2 hq => by cases hq.1)
            obtain ⟨hq1, hF1⟩ := hq
            cases hq1
            refine x_istore (ls2 := [_, _, _, _, _, _, _, _, _, _, _]) (zat TX14_priceOf_0 49 rfl) (by decide) rfl ?_
            refine w_iload (zat TX14_priceOf_0 50 rfl) rfl ?_
            refine w_ldcw (v := -1000000) (zat TX14_priceOf_0 51 rfl) zw1348 ?_
            refine w_icmp_lt 107 (zat TX14_priceOf_0 52 rfl) (by decide) (fun Hc100 => ?_) (fun Hc100 => ?_)
            · refine w_iconst (v := 0) (zat TX14_priceOf_0 55 rfl) (by decide) ?_
              refine x_istore (ls2 := [_, _, _, _, _, _, _, _, _, _, _]) (zat TX14_priceOf_0 56 rfl) (by decide) rfl ?_
              refine w_iload (zat TX14_priceOf_0 57 rfl) rfl ?_
              refine w_if_eq 119 (zat TX14_priceOf_0 58 rfl) (by decide) (fun Hc112 => ?_) (fun Hc112 => ?_)
              · refine x_iinc (v := nI (li + 1)) (ls2 := [_, _, _, _, _, _, _, _, _, _, _]) (zat TX14_priceOf_1 1 rfl) rfl (nI_inc li) rfl ?_
                refine w_goto 30 (zat TX14_priceOf_1 2 rfl) (by decide) ?_
                exact K0 hln _ _ hF1
              · exact absurd rfl Hc112
            · exact absurd (by decide) Hc100
          · exact absurd ((zB_eq _ _).mpr heq) Hc69
  · rw [hln] at hct
    have hv := hlo v hln
    refine w_iload (zat TX14_priceOf_0 18 rfl) rfl ?_
    refine w_if_lt 125 (zat TX14_priceOf_0 19 rfl) (by decide) (fun Hc32 => ?_) (fun Hc32 => ?_)
    · exact absurd Hc32 (nI_pos (by omega))
    · refine w_iload (zat TX14_priceOf_0 20 rfl) rfl ?_
      refine w_aload_n (zat TX14_priceOf_0 21 rfl) rfl ?_
      refine w_getR (zat TX14_priceOf_0 22 rfl) fX14_37 s1 (by decide) (by decide) rfl (wmr hWM 6 rfl) ?_
      refine w_iload (zat TX14_priceOf_0 23 rfl) rfl ?_
      refine x_aaload _ _ (zat TX14_priceOf_0 24 rfl) (by decide) (by decide) ⟨_, rfl⟩ (wmn hWM 6 rfl) (by decide) rfl (by omega) (hWM.2.2.1.2.2 f (by omega)) ?_
      refine y_getI (v := nI N) (zat TX14_priceOf_0 25 rfl) fX14_210 s17 (by decide) (by decide) rfl hN ?_
      refine w_icmp_ge 125 (zat TX14_priceOf_0 26 rfl) (by decide) (fun Hc47 => ?_) (fun Hc47 => ?_)
      · exact absurd Hc47 (nI_ge hli (by omega))
      · refine w_iload (zat TX14_priceOf_0 27 rfl) rfl ?_
        refine w_if_ne 125 (zat TX14_priceOf_0 28 rfl) (by decide) (fun Hc52 => ?_) (fun Hc52 => ?_)
        · exact absurd rfl Hc52
        · refine w_aload_n (zat TX14_priceOf_0 29 rfl) rfl ?_
          refine w_getR (zat TX14_priceOf_0 30 rfl) fX14_37 s1 (by decide) (by decide) rfl (wmr hWM 6 rfl) ?_
          refine w_iload (zat TX14_priceOf_0 31 rfl) rfl ?_
          refine x_aaload _ _ (zat TX14_priceOf_0 32 rfl) (by decide) (by decide) ⟨_, rfl⟩ (wmn hWM 6 rfl) (by decide) rfl (by omega) (hWM.2.2.1.2.2 f (by omega)) ?_
          refine w_getR (zat TX14_priceOf_0 33 rfl) fX14_225 s17 (by decide) (by decide) rfl ((hWM.2.2.2.2 f (by omega)).1.1) ?_
          refine w_iload (zat TX14_priceOf_0 34 rfl) rfl ?_
          refine y_zaload _ _ (v := (if ln.1 then 1 else 0)) (zat TX14_priceOf_0 35 rfl) s35 (by decide) ((hWM.2.2.2.2 f (by omega)).2.1) (by decide) rfl (by omega) hd ?_
          refine w_iload_n (zat TX14_priceOf_0 36 rfl) rfl ?_
          refine w_icmp_eq 75 (zat TX14_priceOf_0 37 rfl) (by decide) (fun Hc69 => ?_) (fun Hc69 => ?_)
          · refine w_aload_n (zat TX14_priceOf_0 39 rfl) rfl ?_
            refine w_aload_n (zat TX14_priceOf_0 40 rfl) rfl ?_
            refine w_getR (zat TX14_priceOf_0 41 rfl) fX14_37 s1 (by decide) (by decide) rfl (wmr hWM 6 rfl) ?_
            refine w_iload (zat TX14_priceOf_0 42 rfl) rfl ?_
            refine x_aaload _ _ (zat TX14_priceOf_0 43 rfl) (by decide) (by decide) ⟨_, rfl⟩ (wmn hWM 6 rfl) (by decide) rfl (by omega) (hWM.2.2.1.2.2 f (by omega)) ?_
            refine w_iload (zat TX14_priceOf_0 44 rfl) rfl ?_
            refine w_iload_n (zat TX14_priceOf_0 45 rfl) rfl ?_
            refine w_iload (zat TX14_priceOf_0 46 rfl) rfl ?_
            refine w_iload (zat TX14_priceOf_0 47 rfl) rfl ?_
            refine x_call6 (hct) (by decide) kX14_tells (rdy_V (zat TX14_priceOf_0 48 rfl) kX14_tells pX14_tells zw1333 zw1335 zw51 (zrc (by decide) (by decide) rfl)) (Nat.le_of_ble_eq_true rfl) rfl rfl (fun w h2 hq => ?_) (fun r h2 hq => by cases hq.1)
            obtain ⟨hq1, hF1⟩ := hq
            cases hq1
            refine x_istore (ls2 := [_, _, _, _, _, _, _, _, _, _, _]) (zat TX14_priceOf_0 49 rfl) (by decide) rfl ?_
            refine w_iload (zat TX14_priceOf_0 50 rfl) rfl ?_
            refine w_ldcw (v := -1000000) (zat TX14_priceOf_0 51 rfl) zw1348 ?_
            refine w_icmp_lt 107 (zat TX14_priceOf_0 52 rfl) (by decide) (fun Hc100 => ?_) (fun Hc100 => ?_)
            · exact absurd Hc100 (Int32.not_lt.mpr hv)
            · refine w_iconst (v := 1) (zat TX14_priceOf_0 53 rfl) (by decide) ?_
              refine w_goto 108 (zat TX14_priceOf_0 54 rfl) (by decide) ?_
              refine x_istore (ls2 := [_, _, _, _, _, _, _, _, _, _, _]) (zat TX14_priceOf_0 56 rfl) (by decide) rfl ?_
              refine w_iload (zat TX14_priceOf_0 57 rfl) rfl ?_
              refine w_if_eq 119 (zat TX14_priceOf_0 58 rfl) (by decide) (fun Hc112 => ?_) (fun Hc112 => ?_)
              · exact absurd Hc112 (by decide)
              · refine w_iload (zat TX14_priceOf_0 59 rfl) rfl ?_
                refine x_istore (ls2 := [_, _, _, _, _, _, _, _, _, _, _]) (zat TX14_priceOf_1 0 rfl) (by decide) rfl ?_
                refine x_iinc (v := nI (li + 1)) (ls2 := [_, _, _, _, _, _, _, _, _, _, _]) (zat TX14_priceOf_1 1 rfl) rfl (nI_inc li) rfl ?_
                refine w_goto 30 (zat TX14_priceOf_1 2 rfl) (by decide) ?_
                exact K1 v hln _ _ hF1
          · exact absurd ((zB_eq _ _).mpr heq) Hc69
theorem pi_all {l : Launch} {h0 : zH} {Q : zO → zH → Prop} {j f nE : Nat} {Y old now : Int32} {dy : Bool} (hWM0 : Wm h0) (hE3 : zC h0 17 = nE + 1) (hE2 : nE ≤ 30) (hf : f < nE) (hj : j < 10) (p : List (Bool × List (Nat × Int32))) (hMR : MR h0 f p) (hlo : ∀ ln ∈ p, ∀ v, lnV (envY now (zI h0 10 0 j) (zI h0 11 0 j) old) ln.2 = some v → -1000000 ≤ v) : ∀ (rest : List (Bool × List (Nat × Int32))) (li : Nat) (h : zH), (∀ i ln, rest[i]? = some ln → p[li + i]? = some ln) → li + rest.length = p.length → FrT h0 h →
    (∀ h' x y z, FrT h0 h' → Wp l mX14_priceOf 5 125 [some (Vq (some (1, 0))), some (Vi (nI j)), some (Vi Y), some (Vi (zB dy)), some (Vi old), some (Vi now), some (Vi (nI f)), some (Vi (tlP (envY now (zI h0 10 0 j) (zI h0 11 0 j) old) dy rest)), y, z, x] [] h' Q) → ∀ x : Option zV, Wp l mX14_priceOf 5 30 [some (Vq (some (1, 0))), some (Vi (nI j)), some (Vi Y), some (Vi (zB dy)), some (Vi old), some (Vi now), some (Vi (nI f)), some (Vi 0), some (Vi 0), some (Vi (nI li)), x] [] h Q
  | [], li, h, hr, hl, hF, K, x => by
    have hg : h.2.2 = h0.2.2 := congrArg Prod.snd hF.1
    have hM := hF.mr hMR
    refine pi_end (nE := nE) (N := p.length) (Wm.same hg hWM0) (by unfold zC; rw [hg]; exact hE3) hE2 hf hM.1 hM.2.1 hl (fun x y z => K h x y z hF) x
  | ln :: t, li, h, hr, hl, hF, K, x => by
    have hl' : li + (t.length + 1) = p.length := hl
    have hg : h.2.2 = h0.2.2 := congrArg Prod.snd hF.1
    have hM := hF.mr hMR
    have hWM := Wm.same hg hWM0
    have hE3' : zC h 17 = nE + 1 := by unfold zC; rw [hg]; exact hE3
    have hp : p[li]? = some ln := hr 0 ln rfl
    have hmem := List.mem_of_getElem? hp
    obtain ⟨a, m1, m2, m3, m4, m5⟩ := hM.2.2.2 li ln hp
    have hr2 : ∀ i ln', t[i]? = some ln' → p[li + 1 + i]? = some ln' := fun i ln' hi => by
      have := hr (i + 1) ln' hi
      rw [show li + (i + 1) = li + 1 + i by omega] at this
      exact this
    have e1 : zI h 10 0 j = zI h0 10 0 j := by rw [hF.2 10 (by decide)]
    have e2 : zI h 11 0 j = zI h0 11 0 j := by rw [hF.2 11 (by decide)]
    by_cases hk : ln.1 = dy
    · have hct := qX14_tells l h hWM f li j a now old ln.2 (by omega) (by have := hM.2.1; omega) hj m2 m3 m4 (hM.2.2.1 ln hmem).1 (hM.2.2.1 ln hmem).2 m5
      refine pi_line (nE := nE) (N := p.length) hWM hE3' hE2 hf hM.1 hM.2.1 (by omega) m1 hk hj (fun _ _ => True) hct (by rw [e1, e2]; exact hlo ln hmem) (fun v hv h' x hF' => ?_) (fun hv h' x hF' => ?_) x
      · have hF2 := hF.tr hF'
        have hg2 : h'.2.2 = h0.2.2 := congrArg Prod.snd hF2.1
        have hM2 := hF2.mr hMR
        refine pi_found (nE := nE) (N := p.length) (Wm.same hg2 hWM0) (by unfold zC; rw [hg2]; exact hE3) hE2 hf hM2.1 hM2.2.1 (by have := hM.2.1; omega) (fun x y z => ?_) x
        have := K h' x y z hF2
        rw [e1, e2] at hv
        rw [tlP, if_pos hk, hv] at this
        exact this
      · rw [e1, e2] at hv
        refine pi_all hWM0 hE3 hE2 hf hj p hMR hlo t (li + 1) h' hr2 (by omega) (hF.tr hF') (fun h'' x y z hF'' => ?_) x
        have := K h'' x y z hF''
        rw [tlP, if_pos hk, hv] at this
        exact this
    · refine pi_other (nE := nE) (N := p.length) hWM hE3' hE2 hf hM.1 hM.2.1 (by omega) m1 hk (fun x => ?_) x
      refine pi_all hWM0 hE3 hE2 hf hj p hMR hlo t (li + 1) h hr2 (by omega) hF (fun h'' x y z hF'' => ?_) x
      have := K h'' x y z hF''
      rw [tlP, if_neg hk] at this
      exact this
