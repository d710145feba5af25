-- priceOf, price, prices of the model; price of the class, by program (wip/gen/p37.py)
theorem bnd_z (lim : Int32) (hl : 0 ≤ lim) : bnd (0 : Int32).toInt64 0 lim = 0 := by
  have z0 : (0 : Int32).toInt = 0 := by decide
  rw [Int32.le_iff_toInt_le, z0] at hl
  apply i32_inj
  rw [bnd_toInt _ _ _ (by rw [z0]; exact hl), Int32.toInt_toInt64, z0]
  omega
theorem lX14_priceOf (l : Launch) (h0 : zH) (hWM : Wm h0) (pg : Nat → List (Bool × List (Nat × Int32))) (j Y : Nat) (dy : Bool) (hj : j < 10) (hY : Y < 100) (nE : Nat) (hE : zI h0 1 0 14 = nI nE) (hE2 : nE ≤ 30) (hE3 : zC h0 17 = nE + 1) (hMR : ∀ e, e < nE → MR h0 e (pg e)) (hm : 0 ≤ zI h0 10 0 j) (hn : 0 ≤ zI h0 11 0 j) : ∀ (kk now : Nat) (h : zH), now + kk = Y + 1 → FrT h0 h → ∀ x6 x7 x8 x9 x10 : Option zV, Wp l mX14_priceOf 5 6 [some (Vq (some (1, 0))), some (Vi (nI j)), some (Vi (nI Y)), some (Vi (zB dy)), some (Vi (oldv (prV (pfC (eP h0) (eY h0) nE pg j) dy (zI h0 10 0 j) (zI h0 11 0 j)) now)), some (Vi (nI now)), x6, x7, x8, x9, x10] [] h (fun o h' => o = Rv (Vi (prV (pfC (eP h0) (eY h0) nE pg j) dy (zI h0 10 0 j) (zI h0 11 0 j) Y)) ∧ FrT h0 h') := by
  intro kk
  induction kk with
  | zero =>
    intro now h hy hF x6 x7 x8 x9 x10
    have e : now = Y + 1 := by omega
    subst e
    refine w_iload (zat TX14_priceOf_0 4 rfl) rfl ?_
    refine w_iload_n (zat TX14_priceOf_0 5 rfl) rfl ?_
    refine w_icmp_gt 158 (zat TX14_priceOf_0 6 rfl) (by decide) (fun Hc9 => ?_) (fun Hc9 => ?_)
    · refine w_iload (zat TX14_priceOf_1 18 rfl) rfl ?_
      refine w_ireturn (zat TX14_priceOf_1 19 rfl) rfl rfl ?_
      exact ⟨rfl, hF⟩
    · exact absurd (nI_lt (show Y < Y + 1 by omega) (by omega)) Hc9
  | succ kk ih =>
    intro now h hy hF x6 x7 x8 x9 x10
    have HB : ∀ (h2 : zH) (F v : Int32) (x y z : Option zV), FrT h0 h2 → bnd v.toInt64 0 (if dy then zI h0 11 0 j else 1000) = prV (pfC (eP h0) (eY h0) nE pg j) dy (zI h0 10 0 j) (zI h0 11 0 j) now → Wp l mX14_priceOf 5 125 [some (Vq (some (1, 0))), some (Vi (nI j)), some (Vi (nI Y)), some (Vi (zB dy)), some (Vi (oldv (prV (pfC (eP h0) (eY h0) nE pg j) dy (zI h0 10 0 j) (zI h0 11 0 j)) now)), some (Vi (nI now)), some (Vi F), some (Vi v), y, z, x] [] h2 (fun o h' => o = Rv (Vi (prV (pfC (eP h0) (eY h0) nE pg j) dy (zI h0 10 0 j) (zI h0 11 0 j) Y)) ∧ FrT h0 h') := by
      intro h2 F v x y z hF2 hv
      have hW2 : Wm h2 := Wm.same (congrArg Prod.snd hF2.1) hWM
      cases dy
      · skip
        refine w_iconst (v := 0) (zat TX14_priceOf_1 3 rfl) (by decide) ?_
        refine w_iload_n (zat TX14_priceOf_1 4 rfl) rfl ?_
        refine w_if_eq 139 (zat TX14_priceOf_1 5 rfl) (by decide) (fun Hc127 => ?_) (fun Hc127 => ?_)
        · refine w_sipush (v := 1000) (zat TX14_priceOf_1 11 rfl) (by decide) ?_
          refine w_iload (zat TX14_priceOf_1 12 rfl) rfl ?_
          refine x_callv2 (qJ9_min_7cf53 l _ _ _) (by decide) kJ9_min_7cf53 (rdy_S (zat TX14_priceOf_1 13 rfl) kJ9_min_7cf53 pJ9_min_7cf53 zw1349 zw403) (Nat.le_of_ble_eq_true rfl) rfl rfl ?_
          refine x_callv2 (qJ9_max_7cf53 l _ _ _) (by decide) kJ9_max_7cf53 (rdy_S (zat TX14_priceOf_1 14 rfl) kJ9_max_7cf53 pJ9_max_7cf53 zw1350 zw1351) (Nat.le_of_ble_eq_true rfl) rfl rfl ?_
          rw [clampEq _ _ (by decide), show bnd v.toInt64 0 1000 = prV (pfC (eP h0) (eY h0) nE pg j) false (zI h0 10 0 j) (zI h0 11 0 j) now from hv]
          refine x_istore (ls2 := [_, _, _, _, _, _, _, _, _, _, _]) (zat TX14_priceOf_1 15 rfl) (by decide) rfl ?_
          refine x_iinc (v := nI (now + 1)) (ls2 := [_, _, _, _, _, _, _, _, _, _, _]) (zat TX14_priceOf_1 16 rfl) rfl (nI_inc now) rfl ?_
          refine w_goto 6 (zat TX14_priceOf_1 17 rfl) (by decide) ?_
          exact ih (now + 1) h2 (by omega) hF2 _ _ _ _ _
        · exact absurd rfl Hc127
      · skip
        refine w_iconst (v := 0) (zat TX14_priceOf_1 3 rfl) (by decide) ?_
        refine w_iload_n (zat TX14_priceOf_1 4 rfl) rfl ?_
        refine w_if_eq 139 (zat TX14_priceOf_1 5 rfl) (by decide) (fun Hc127 => ?_) (fun Hc127 => ?_)
        · exact absurd Hc127 (by decide)
        · refine w_aload_n (zat TX14_priceOf_1 6 rfl) rfl ?_
          refine w_getR (zat TX14_priceOf_1 7 rfl) fX14_20 s1 (by decide) (by decide) rfl (wmr hW2 1 rfl) ?_
          refine w_iload_n (zat TX14_priceOf_1 8 rfl) rfl ?_
          refine y_iaload _ _ (v := zI h0 11 0 j) (zat TX14_priceOf_1 9 rfl) s11 (by decide) (wmn hW2 1 rfl) (by decide) rfl hj (show zI h2 11 0 j = zI h0 11 0 j by rw [hF2.2 11 (by decide)]) ?_
          refine w_goto 142 (zat TX14_priceOf_1 10 rfl) (by decide) ?_
          refine w_iload (zat TX14_priceOf_1 12 rfl) rfl ?_
          refine x_callv2 (qJ9_min_7cf53 l _ _ _) (by decide) kJ9_min_7cf53 (rdy_S (zat TX14_priceOf_1 13 rfl) kJ9_min_7cf53 pJ9_min_7cf53 zw1349 zw403) (Nat.le_of_ble_eq_true rfl) rfl rfl ?_
          refine x_callv2 (qJ9_max_7cf53 l _ _ _) (by decide) kJ9_max_7cf53 (rdy_S (zat TX14_priceOf_1 14 rfl) kJ9_max_7cf53 pJ9_max_7cf53 zw1350 zw1351) (Nat.le_of_ble_eq_true rfl) rfl rfl ?_
          rw [clampEq _ _ hn, show bnd v.toInt64 0 (zI h0 11 0 j) = prV (pfC (eP h0) (eY h0) nE pg j) true (zI h0 10 0 j) (zI h0 11 0 j) now from hv]
          refine x_istore (ls2 := [_, _, _, _, _, _, _, _, _, _, _]) (zat TX14_priceOf_1 15 rfl) (by decide) rfl ?_
          refine x_iinc (v := nI (now + 1)) (ls2 := [_, _, _, _, _, _, _, _, _, _, _]) (zat TX14_priceOf_1 16 rfl) rfl (nI_inc now) rfl ?_
          refine w_goto 6 (zat TX14_priceOf_1 17 rfl) (by decide) ?_
          exact ih (now + 1) h2 (by omega) hF2 _ _ _ _ _
    have hg : h.2.2 = h0.2.2 := congrArg Prod.snd hF.1
    have hWh : Wm h := Wm.same hg hWM
    have ecP : eP h = eP h0 := funext (fun e => by unfold eP; rw [hF.2 17 (by decide)])
    have ecY : eY h = eY h0 := funext (fun e => by unfold eY; rw [hF.2 17 (by decide)])
    have hEh : zI h 1 0 14 = nI nE := by rw [hF.2 1 (by decide)]; exact hE
    have hE3h : zC h 17 = nE + 1 := by unfold zC; rw [hg]; exact hE3
    have hfo := qX14_forceOf l h hWh (nI j) (nI now) nE hEh hE2 hE3h
    rw [ecP, ecY] at hfo
    rcases mF_ix (eP h0) (eY h0) (nI j) (nI now) nE (by omega) with HF | ⟨f, Hf1, HF⟩
    · rw [HF] at hfo
      refine w_iload (zat TX14_priceOf_0 4 rfl) rfl ?_
      refine w_iload_n (zat TX14_priceOf_0 5 rfl) rfl ?_
      refine w_icmp_gt 158 (zat TX14_priceOf_0 6 rfl) (by decide) (fun Hc9 => ?_) (fun Hc9 => ?_)
      · exact absurd Hc9 (nI_nlt (by omega) (by omega))
      · refine w_aload_n (zat TX14_priceOf_0 7 rfl) rfl ?_
        refine w_iload_n (zat TX14_priceOf_0 8 rfl) rfl ?_
        refine w_iload (zat TX14_priceOf_0 9 rfl) rfl ?_
        refine x_callv3 (hfo) (by decide) kX14_forceOf (rdy_V (zat TX14_priceOf_0 10 rfl) kX14_forceOf pX14_forceOf zw1321 zw1323 zw49 (zrc (by decide) (by decide) rfl)) (Nat.le_of_ble_eq_true rfl) rfl rfl ?_
        refine x_istore (ls2 := [_, _, _, _, _, _, _, _, _, _, _]) (zat TX14_priceOf_0 11 rfl) (by decide) rfl ?_
        refine w_iconst (v := 0) (zat TX14_priceOf_0 12 rfl) (by decide) ?_
        refine x_istore (ls2 := [_, _, _, _, _, _, _, _, _, _, _]) (zat TX14_priceOf_0 13 rfl) (by decide) rfl ?_
        refine w_iconst (v := 0) (zat TX14_priceOf_0 14 rfl) (by decide) ?_
        refine x_istore (ls2 := [_, _, _, _, _, _, _, _, _, _, _]) (zat TX14_priceOf_0 15 rfl) (by decide) rfl ?_
        refine w_iconst (v := 0) (zat TX14_priceOf_0 16 rfl) (by decide) ?_
        refine x_istore (ls2 := [_, _, _, _, _, _, _, _, _, _, _]) (zat TX14_priceOf_0 17 rfl) (by decide) rfl ?_
        refine w_iload (zat TX14_priceOf_0 18 rfl) rfl ?_
        refine w_if_lt 125 (zat TX14_priceOf_0 19 rfl) (by decide) (fun Hc32 => ?_) (fun Hc32 => ?_)
        · refine HB h _ 0 _ _ _ hF ?_
          rw [prV_old, show (pfC (eP h0) (eY h0) nE pg j) now = none from if_pos HF]
          show bnd _ 0 _ = 0
          refine bnd_z _ ?_
          cases dy
          · exact (show (0 : Int32) ≤ 1000 by decide)
          · exact hn
        · exact absurd (by decide) Hc32
    · rw [HF] at hfo
      refine w_iload (zat TX14_priceOf_0 4 rfl) rfl ?_
      refine w_iload_n (zat TX14_priceOf_0 5 rfl) rfl ?_
      refine w_icmp_gt 158 (zat TX14_priceOf_0 6 rfl) (by decide) (fun Hc9 => ?_) (fun Hc9 => ?_)
      · exact absurd Hc9 (nI_nlt (by omega) (by omega))
      · refine w_aload_n (zat TX14_priceOf_0 7 rfl) rfl ?_
        refine w_iload_n (zat TX14_priceOf_0 8 rfl) rfl ?_
        refine w_iload (zat TX14_priceOf_0 9 rfl) rfl ?_
        refine x_callv3 (hfo) (by decide) kX14_forceOf (rdy_V (zat TX14_priceOf_0 10 rfl) kX14_forceOf pX14_forceOf zw1321 zw1323 zw49 (zrc (by decide) (by decide) rfl)) (Nat.le_of_ble_eq_true rfl) rfl rfl ?_
        refine x_istore (ls2 := [_, _, _, _, _, _, _, _, _, _, _]) (zat TX14_priceOf_0 11 rfl) (by decide) rfl ?_
        refine w_iconst (v := 0) (zat TX14_priceOf_0 12 rfl) (by decide) ?_
        refine x_istore (ls2 := [_, _, _, _, _, _, _, _, _, _, _]) (zat TX14_priceOf_0 13 rfl) (by decide) rfl ?_
        refine w_iconst (v := 0) (zat TX14_priceOf_0 14 rfl) (by decide) ?_
        refine x_istore (ls2 := [_, _, _, _, _, _, _, _, _, _, _]) (zat TX14_priceOf_0 15 rfl) (by decide) rfl ?_
        refine w_iconst (v := 0) (zat TX14_priceOf_0 16 rfl) (by decide) ?_
        refine x_istore (ls2 := [_, _, _, _, _, _, _, _, _, _, _]) (zat TX14_priceOf_0 17 rfl) (by decide) rfl ?_
        refine pi_all hWM hE3 hE2 Hf1 hj (pg f) (hMR f Hf1) (fun ln hln v hv => lnV_lo (fun k hk => ?_) (((hMR f Hf1).2.2.1 ln hln).1) hv) (pg f) 0 h (fun i ln hi => by rw [Nat.zero_add]; exact hi) (by omega) hF (fun h2 x y z hF2 => HB h2 _ _ x y z hF2 ?_) _
        · have z0 : (0 : Int32).toInt = 0 := by decide
          have r0 := nI_toInt (show now < 2 ^ 31 by omega)
          have r3 : -1000000 ≤ (oldv (prV (pfC (eP h0) (eY h0) nE pg j) dy (zI h0 10 0 j) (zI h0 11 0 j)) now).toInt := by
            cases now with
            | zero => show -1000000 ≤ (0 : Int32).toInt; rw [z0]; omega
            | succ n0 =>
              show -1000000 ≤ (prV (pfC (eP h0) (eY h0) nE pg j) dy (zI h0 10 0 j) (zI h0 11 0 j) n0).toInt
              rw [prV_old]
              cases (pfC (eP h0) (eY h0) nE pg j) n0 with
              | none => show -1000000 ≤ (0 : Int32).toInt; rw [z0]; omega
              | some p0 =>
                show -1000000 ≤ (bnd _ 0 _).toInt
                rw [bnd_toInt _ _ _ (by cases dy; exact (show (0 : Int32).toInt ≤ (1000 : Int32).toInt by decide); exact (Int32.le_iff_toInt_le.mp hn)), z0]
                omega
          rw [Int32.le_iff_toInt_le, z0] at hm hn
          rcases (show k = 0 ∨ k = 1 ∨ k = 2 ∨ k = 3 by omega) with e | e | e | e <;> subst e
          · show -1000000 ≤ (nI now).toInt; omega
          · show -1000000 ≤ (zI h0 10 0 j).toInt; omega
          · show -1000000 ≤ (zI h0 11 0 j).toInt; omega
          · exact r3
        · rw [prV_old, show (pfC (eP h0) (eY h0) nE pg j) now = some (pg f) by unfold pfC; rw [HF, if_neg (nI_ne2 f (by omega)), nI_clamp (by omega)]]
          rfl
theorem qX14_priceOf (l : Launch) (h0 : zH) (hWM : Wm h0) (pg : Nat → List (Bool × List (Nat × Int32))) (j Y : Nat) (dy : Bool) (hj : j < 10) (hY : Y < 100) (nE : Nat) (hE : zI h0 1 0 14 = nI nE) (hE2 : nE ≤ 30) (hE3 : zC h0 17 = nE + 1) (hMR : ∀ e, e < nE → MR h0 e (pg e)) (hm : 0 ≤ zI h0 10 0 j) (hn : 0 ≤ zI h0 11 0 j) : Ct l 5 mX14_priceOf [Vq (some (1, 0)), Vi (nI j), Vi (nI Y), Vi (zB dy)] h0 (fun o h' => o = Rv (Vi (prV (pfC (eP h0) (eY h0) nE pg j) dy (zI h0 10 0 j) (zI h0 11 0 j) Y)) ∧ FrT h0 h') := by
  refine Ct.in 7 kX14_priceOf (plainFor_of_name rfl) (Nat.le_of_ble_eq_true rfl) ?_
  refine w_iconst (v := 0) (zat TX14_priceOf_0 0 rfl) (by decide) ?_
  refine x_istore (ls2 := [_, _, _, _, _, _, _, _, _, _, _]) (zat TX14_priceOf_0 1 rfl) (by decide) rfl ?_
  refine w_iconst (v := 0) (zat TX14_priceOf_0 2 rfl) (by decide) ?_
  refine x_istore (ls2 := [_, _, _, _, _, _, _, _, _, _, _]) (zat TX14_priceOf_0 3 rfl) (by decide) rfl ?_
  exact lX14_priceOf l h0 hWM pg j Y dy hj hY nE hE hE2 hE3 hMR hm hn (Y + 1) 0 h0 (by omega) (FrT.rf h0) _ _ _ _ _
