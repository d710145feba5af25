-- worst, pass of the class, by program (wip/gen/p26.py)
theorem mW_pos (Z : Nat → Int64) : ∀ s, s < 1000 → ¬ mW Z s = -2 → 0 < Z (mW Z s).toNatClampNeg
  | 0, _, h => absurd rfl h
  | s + 1, hs, h => by
    unfold mW at h ⊢
    split
    · rename_i q
      rw [nI_clamp (by omega)]
      exact q.1
    · rename_i q
      rw [if_neg q] at h
      exact mW_pos Z s (by omega) h
def mMo (Z : Nat → Int64) (s : Nat) : Int64 := if mW Z s = -2 then 0 else Z (mW Z s).toNatClampNeg
def zZ (h : zH) (i : Nat) : Int64 := zL h 61 i 5
theorem mMo_lt (Z : Nat → Int64) (s : Nat) (hs : s < 1000) : mMo Z s < Z s ↔ (0 < Z s ∧ (mW Z s = -2 ∨ Z (mW Z s).toNatClampNeg < Z s)) := by
  unfold mMo
  by_cases h : mW Z s = -2
  · rw [if_pos h]
    exact ⟨fun q => ⟨q, Or.inl h⟩, fun q => q.1⟩
  · rw [if_neg h]
    have hp := mW_pos Z s hs h
    constructor
    · intro q
      refine ⟨?_, Or.inr q⟩
      rw [Int64.lt_iff_toInt_lt] at *
      omega
    · rintro ⟨_, q | q⟩
      · exact absurd q h
      · exact q
theorem lX11_worst (l : Launch) (h : zH) (hW : Wc h) (nS : Nat) (hS : zI h 0 0 10 = nI nS) (hS2 : nS ≤ 8) (hS3 : zC h 61 = nS) : ∀ kk s : Nat, s + kk = nS → Wp l mX11_worst 1 8 [some (Vq (some (0, 0))), some (Vi (mW (zZ h) s)), some (Vj (mMo (zZ h) s)), none, some (Vi (nI s))] [] h (fun o h' => o = Rv (Vi (mW (zZ h) nS)) ∧ h' = h) := by
  intro kk
  induction kk with
  | zero =>
    intro s hs
    refine w_iload (zat TX11_worst 6 rfl) rfl ?_
    refine w_aload_n (zat TX11_worst 7 rfl) rfl ?_
    refine y_getI (v := nI nS) (zat TX11_worst 8 rfl) fX11_69 s0 (by decide) (by decide) rfl hS ?_
    refine w_icmp_ge 52 (zat TX11_worst 9 rfl) (by decide) (fun Hc14 => ?_) (fun Hc14 => ?_)
    · refine w_iload_n (zat TX11_worst 28 rfl) rfl ?_
      refine w_ireturn (zat TX11_worst 29 rfl) rfl rfl ?_
      exact ⟨by rw [show s = nS by omega], rfl⟩
    · exact absurd (nI_le (by omega) (by omega)) Hc14
  | succ kk ih =>
    intro s hs
    refine w_iload (zat TX11_worst 6 rfl) rfl ?_
    refine w_aload_n (zat TX11_worst 7 rfl) rfl ?_
    refine y_getI (v := nI nS) (zat TX11_worst 8 rfl) fX11_69 s0 (by decide) (by decide) rfl hS ?_
    refine w_icmp_ge 52 (zat TX11_worst 9 rfl) (by decide) (fun Hc14 => ?_) (fun Hc14 => ?_)
    · exact absurd Hc14 (nI_ge (by omega) (by omega))
    · refine w_aload_n (zat TX11_worst 10 rfl) rfl ?_
      refine w_getR (zat TX11_worst 11 rfl) fX11_23 s0 (by decide) (by decide) rfl (wcr hW 2 rfl) ?_
      refine w_iload (zat TX11_worst 12 rfl) rfl ?_
      refine x_aaload _ _ (zat TX11_worst 13 rfl) (by decide) (by decide) ⟨_, rfl⟩ (wcn hW 2 rfl) (by decide) rfl (by omega) (hW.2.2.2.2.1 s (by omega)) ?_
      refine y_getL (v := zZ h s) (zat TX11_worst 14 rfl) fX11_276 s61 (by decide) (by decide) rfl rfl ?_
      refine w_lload_n (zat TX11_worst 15 rfl) rfl ?_
      refine w_lcmp (zat TX11_worst 16 rfl) ?_
      refine w_if_le 46 (zat TX11_worst 17 rfl) (by decide) (fun Hc29 => ?_) (fun Hc29 => ?_)
      · rw [lc_le] at Hc29
        have Hm : mW (zZ h) (s + 1) = mW (zZ h) s := by rw [mW, if_neg (fun q => Hc29 ((mMo_lt (zZ h) s (by omega)).mpr q))]
        have Hn : mMo (zZ h) (s + 1) = mMo (zZ h) s := by rw [mMo, mMo, Hm]
        refine x_iinc (v := nI (s + 1)) (ls2 := [_, _, _, _, _]) (zat TX11_worst 26 rfl) rfl (nI_inc s) rfl ?_
        refine w_goto 8 (zat TX11_worst 27 rfl) (by decide) ?_
        have Hi := ih (s + 1) (by omega)
        rw [Hm, Hn] at Hi
        exact Hi
      · rw [lc_le, Decidable.not_not] at Hc29
        have Hm : mW (zZ h) (s + 1) = nI s := by rw [mW, if_pos ((mMo_lt (zZ h) s (by omega)).mp Hc29)]
        have Hn : mMo (zZ h) (s + 1) = zZ h s := by rw [mMo, Hm, if_neg (nI_ne2 s (by omega)), nI_clamp (by omega)]
        refine w_aload_n (zat TX11_worst 18 rfl) rfl ?_
        refine w_getR (zat TX11_worst 19 rfl) fX11_23 s0 (by decide) (by decide) rfl (wcr hW 2 rfl) ?_
        refine w_iload (zat TX11_worst 20 rfl) rfl ?_
        refine x_aaload _ _ (zat TX11_worst 21 rfl) (by decide) (by decide) ⟨_, rfl⟩ (wcn hW 2 rfl) (by decide) rfl (by omega) (hW.2.2.2.2.1 s (by omega)) ?_
        refine y_getL (v := zZ h s) (zat TX11_worst 22 rfl) fX11_276 s61 (by decide) (by decide) rfl rfl ?_
        refine x_lstore_n (ls2 := [_, _, _, _, _]) (zat TX11_worst 23 rfl) (by decide) rfl ?_
        refine w_iload (zat TX11_worst 24 rfl) rfl ?_
        refine x_istore_n (ls2 := [_, _, _, _, _]) (zat TX11_worst 25 rfl) (by decide) rfl ?_
        refine x_iinc (v := nI (s + 1)) (ls2 := [_, _, _, _, _]) (zat TX11_worst 26 rfl) rfl (nI_inc s) rfl ?_
        refine w_goto 8 (zat TX11_worst 27 rfl) (by decide) ?_
        have Hi := ih (s + 1) (by omega)
        rw [Hm, Hn] at Hi
        exact Hi
theorem qX11_worst (l : Launch) (h : zH) (hW : Wc h) (nS : Nat) (hS : zI h 0 0 10 = nI nS) (hS2 : nS ≤ 8) (hS3 : zC h 61 = nS) : Cx l 1 mX11_worst [Vq (some (0, 0))] h (Rv (Vi (mW (zZ h) nS))) h := by
  refine Ct.in 4 kX11_worst (plainFor_of_name rfl) (Nat.le_of_ble_eq_true rfl) ?_
  refine w_bipush (v := -2) (zat TX11_worst 0 rfl) (by decide) ?_
  refine x_istore_n (ls2 := [_, _, _, _, _]) (zat TX11_worst 1 rfl) (by decide) rfl ?_
  refine w_lconst (v := 0) (zat TX11_worst 2 rfl) (by decide) ?_
  refine x_lstore_n (ls2 := [_, _, _, _, _]) (zat TX11_worst 3 rfl) (by decide) rfl ?_
  refine w_iconst (v := 0) (zat TX11_worst 4 rfl) (by decide) ?_
  refine x_istore (ls2 := [_, _, _, _, _]) (zat TX11_worst 5 rfl) (by decide) rfl ?_
  exact lX11_worst l h hW nS hS hS2 hS3 nS 0 (by omega)
def cUn (h : zH) (i : Nat) : Int32 := if zI h 61 i 4 = 0 then -1 else 0
theorem mAl_all {f : Nat → Int32} : ∀ {n : Nat}, mAl f n → ∀ i, i < n → ¬ f i = -1
  | 0, _, i, hi => by omega
  | n + 1, h, i, hi => by
    by_cases e : i = n
    · subst e; exact h.2
    · exact mAl_all h.1 i (by omega)
def cpH (h : zH) : Nat → zH
  | 0 => h
  | s + 1 => sClose (cpH h s) s
theorem cpH_g (h : zH) : ∀ s, (cpH h s).2.2 = h.2.2
  | 0 => rfl
  | s + 1 => cpH_g h s
theorem cpH_0 (h : zH) : ∀ s, zI (cpH h s) 0 = zI h 0
  | 0 => rfl
  | s + 1 => by
    funext b c
    have := congrFun (congrFun (cpH_0 h s) b) c
    rw [← this]
    rfl
theorem lX11_pass1 (l : Launch) (h : zH) (hW : Wc h) (Q : zO → zH → Prop) (nS : Nat) (hS : zI h 0 0 10 = nI nS) (hS2 : nS ≤ 8) (hS3 : zC h 61 = nS) (HK : mAl (cUn h) nS → Wp l mX11_pass 3 34 [some (Vq (some (0, 0))), some (Vi (nI nS))] [] h Q) (HN : ¬ mAl (cUn h) nS → Q (Rv (Vi (-1))) (zsI h 0 0 13 5)) : ∀ kk s : Nat, s + kk = nS → mAl (cUn h) s → Wp l mX11_pass 3 2 [some (Vq (some (0, 0))), some (Vi (nI s))] [] h Q := by
  intro kk
  induction kk with
  | zero =>
    intro s hs Ha
    refine w_iload_n (zat TX11_pass 2 rfl) rfl ?_
    refine w_aload_n (zat TX11_pass 3 rfl) rfl ?_
    refine y_getI (v := nI nS) (zat TX11_pass 4 rfl) fX11_69 s0 (by decide) (by decide) rfl hS ?_
    refine w_icmp_ge 34 (zat TX11_pass 5 rfl) (by decide) (fun Hc7 => ?_) (fun Hc7 => ?_)
    · have e : s = nS := by omega
      subst e
      exact HK Ha
    · exact absurd (nI_le (by omega) (by omega)) Hc7
  | succ kk ih =>
    intro s hs Ha
    refine w_iload_n (zat TX11_pass 2 rfl) rfl ?_
    refine w_aload_n (zat TX11_pass 3 rfl) rfl ?_
    refine y_getI (v := nI nS) (zat TX11_pass 4 rfl) fX11_69 s0 (by decide) (by decide) rfl hS ?_
    refine w_icmp_ge 34 (zat TX11_pass 5 rfl) (by decide) (fun Hc7 => ?_) (fun Hc7 => ?_)
    · exact absurd Hc7 (nI_ge (by omega) (by omega))
    · refine w_aload_n (zat TX11_pass 6 rfl) rfl ?_
      refine w_getR (zat TX11_pass 7 rfl) fX11_23 s0 (by decide) (by decide) rfl (wcr hW 2 rfl) ?_
      refine w_iload_n (zat TX11_pass 8 rfl) rfl ?_
      refine x_aaload _ _ (zat TX11_pass 9 rfl) (by decide) (by decide) ⟨_, rfl⟩ (wcn hW 2 rfl) (by decide) rfl (by omega) (hW.2.2.2.2.1 s (by omega)) ?_
      refine w_getI (zat TX11_pass 10 rfl) fX11_248 s61 (by decide) (by decide) rfl ?_
      refine w_if_ne 28 (zat TX11_pass 11 rfl) (by decide) (fun Hc19 => ?_) (fun Hc19 => ?_)
      · refine x_iinc (v := nI (s + 1)) (ls2 := [_, _]) (zat TX11_pass 16 rfl) rfl (nI_inc s) rfl ?_
        refine w_goto 2 (zat TX11_pass 17 rfl) (by decide) ?_
        exact ih (s + 1) (by omega) ⟨Ha, by rw [cUn, if_neg Hc19]; decide⟩
      · refine w_aload_n (zat TX11_pass 12 rfl) rfl ?_
        refine w_iconst (v := 5) (zat TX11_pass 13 rfl) (by decide) ?_
        refine x_callv2 (qX11_refuse l _ _) (by decide) kX11_refuse (rdy_V (zat TX11_pass 14 rfl) kX11_refuse pX11_refuse zw344 zw346 zw0 (zrc (by decide) (by decide) rfl)) (Nat.le_of_ble_eq_true rfl) rfl rfl ?_
        refine w_ireturn (zat TX11_pass 15 rfl) rfl rfl ?_
        exact HN (fun q => mAl_all q s (by omega) (by rw [cUn, if_pos Hc19]))
theorem lX11_pass2 (l : Launch) (h : zH) (hW : Wc h) (Q : zO → zH → Prop) (nS : Nat) (hS : zI h 0 0 10 = nI nS) (hS2 : nS ≤ 8) (hS3 : zC h 61 = nS) (HK : Wp l mX11_pass 3 74 [some (Vq (some (0, 0))), some (Vi (nI nS))] [] (cpH h nS) Q) : ∀ kk s : Nat, s + kk = nS → Wp l mX11_pass 3 51 [some (Vq (some (0, 0))), some (Vi (nI s))] [] (cpH h s) Q := by
  intro kk
  induction kk with
  | zero =>
    intro s hs
    have hW2 : Wc (cpH h s) := Wc.same (cpH_g h s) hW
    have hSx : zI (cpH h s) 0 0 10 = nI nS := by rw [cpH_0]; exact hS
    have hC : zC (cpH h s) 61 = nS := by unfold zC; rw [cpH_g]; exact hS3
    refine w_iload_n (zat TX11_pass 28 rfl) rfl ?_
    refine w_aload_n (zat TX11_pass 29 rfl) rfl ?_
    refine y_getI (v := nI nS) (zat TX11_pass 30 rfl) fX11_69 s0 (by decide) (by decide) rfl hSx ?_
    refine w_icmp_ge 74 (zat TX11_pass 31 rfl) (by decide) (fun Hc56 => ?_) (fun Hc56 => ?_)
    · have e : s = nS := by omega
      subst e
      exact HK
    · exact absurd (nI_le (by omega) (by omega)) Hc56
  | succ kk ih =>
    intro s hs
    have hW2 : Wc (cpH h s) := Wc.same (cpH_g h s) hW
    have hSx : zI (cpH h s) 0 0 10 = nI nS := by rw [cpH_0]; exact hS
    have hC : zC (cpH h s) 61 = nS := by unfold zC; rw [cpH_g]; exact hS3
    refine w_iload_n (zat TX11_pass 28 rfl) rfl ?_
    refine w_aload_n (zat TX11_pass 29 rfl) rfl ?_
    refine y_getI (v := nI nS) (zat TX11_pass 30 rfl) fX11_69 s0 (by decide) (by decide) rfl hSx ?_
    refine w_icmp_ge 74 (zat TX11_pass 31 rfl) (by decide) (fun Hc56 => ?_) (fun Hc56 => ?_)
    · exact absurd Hc56 (nI_ge (by omega) (by omega))
    · refine w_aload_n (zat TX11_pass 32 rfl) rfl ?_
      refine w_getR (zat TX11_pass 33 rfl) fX11_23 s0 (by decide) (by decide) rfl (wcr hW2 2 rfl) ?_
      refine w_iload_n (zat TX11_pass 34 rfl) rfl ?_
      refine x_aaload _ _ (zat TX11_pass 35 rfl) (by decide) (by decide) ⟨_, rfl⟩ (wcn hW2 2 rfl) (by decide) rfl (by omega) (hW2.2.2.2.2.1 s (by omega)) ?_
      refine x_callu1 (qX7_closeYear l _ _) (by decide) kX7_closeYear (rdy_V (zat TX11_pass 36 rfl) kX7_closeYear pX7_closeYear zw840 zw841 zw842 (zrc (by decide) (by decide) rfl)) (Nat.le_of_ble_eq_true rfl) rfl rfl ?_
      refine x_iinc (v := nI (s + 1)) (ls2 := [_, _]) (zat TX11_pass 37 rfl) rfl (nI_inc s) rfl ?_
      refine w_goto 51 (zat TX11_pass 38 rfl) (by decide) ?_
      exact ih (s + 1) (by omega)
def cPass (h : zH) (nS : Nat) : Int32 × zH := if mAlb (cUn h) nS = 0 then (-1, zsI h 0 0 13 5) else if 99 ≤ zI h 0 0 11 then (-1, zsI h 0 0 13 2) else (zI h 0 0 11 + 1, zsI (zsI (cpH h nS) 0 0 11 (zI h 0 0 11 + 1)) 0 0 13 0)
theorem qX11_pass (l : Launch) (h : zH) (hW : Wc h) (nS : Nat) (hS : zI h 0 0 10 = nI nS) (hS2 : nS ≤ 8) (hS3 : zC h 61 = nS) : Cx l 3 mX11_pass [Vq (some (0, 0))] h (Rv (Vi (cPass h nS).1)) (cPass h nS).2 := by
  refine Ct.in 1 kX11_pass (plainFor_of_name rfl) (Nat.le_of_ble_eq_true rfl) ?_
  refine w_iconst (v := 0) (zat TX11_pass 0 rfl) (by decide) ?_
  refine x_istore_n (ls2 := [_, _]) (zat TX11_pass 1 rfl) (by decide) rfl ?_
  refine lX11_pass1 l h hW _ nS hS hS2 hS3 (fun Ha => ?_) (fun Ha => ⟨by rw [cPass, if_pos (mAlb_f Ha)], by rw [cPass, if_pos (mAlb_f Ha)]⟩) nS 0 (by omega) trivial
  have Ha2 : ¬ mAlb (cUn h) nS = 0 := fun q => mAlb_0.mp q Ha
  refine w_aload_n (zat TX11_pass 18 rfl) rfl ?_
  refine y_getI (v := zI h 0 0 11) (zat TX11_pass 19 rfl) fX11_72 s0 (by decide) (by decide) rfl rfl ?_
  refine w_bipush (v := 99) (zat TX11_pass 20 rfl) (by decide) ?_
  refine w_icmp_lt 49 (zat TX11_pass 21 rfl) (by decide) (fun Hc40 => ?_) (fun Hc40 => ?_)
  · rw [← Int32.not_le] at Hc40
    refine w_iconst (v := 0) (zat TX11_pass 26 rfl) (by decide) ?_
    refine x_istore_n (ls2 := [_, _]) (zat TX11_pass 27 rfl) (by decide) rfl ?_
    refine lX11_pass2 l h hW _ nS hS hS2 hS3 ?_ nS 0 (by omega)
    refine w_aload_n (zat TX11_pass 39 rfl) rfl ?_
    refine w_dup (zat TX11_pass 40 rfl) rfl ?_
    refine y_getI (v := zI h 0 0 11) (zat TX11_pass 41 rfl) fX11_72 s0 (by decide) (by decide) rfl (by rw [cpH_0]) ?_
    refine w_iconst (v := 1) (zat TX11_pass 42 rfl) (by decide) ?_
    refine w_iadd (zat TX11_pass 43 rfl) ?_
    refine w_putI (zat TX11_pass 44 rfl) gX11_pass_72 s0 (by decide) (by decide) rfl ⟨rfl, rfl⟩ ?_
    refine w_aload_n (zat TX11_pass 45 rfl) rfl ?_
    refine w_aload_n (zat TX11_pass 46 rfl) rfl ?_
    refine y_getI (v := zI h 0 0 11 + 1) (zat TX11_pass 47 rfl) fX11_72 s0 (by decide) (by decide) rfl (zI_same _ 0 0 11 _) ?_
    refine x_callv2 (qX11_grant l _ _) (by decide) kX11_grant (rdy_V (zat TX11_pass 48 rfl) kX11_grant pX11_grant zw382 zw384 zw1 (zrc (by decide) (by decide) rfl)) (Nat.le_of_ble_eq_true rfl) rfl rfl ?_
    refine w_ireturn (zat TX11_pass 49 rfl) rfl rfl ?_
    exact ⟨by rw [cPass, if_neg Ha2, if_neg Hc40], by rw [cPass, if_neg Ha2, if_neg Hc40]⟩
  · rw [Int32.not_lt] at Hc40
    refine w_aload_n (zat TX11_pass 22 rfl) rfl ?_
    refine w_iconst (v := 2) (zat TX11_pass 23 rfl) (by decide) ?_
    refine x_callv2 (qX11_refuse l _ _) (by decide) kX11_refuse (rdy_V (zat TX11_pass 24 rfl) kX11_refuse pX11_refuse zw344 zw346 zw0 (zrc (by decide) (by decide) rfl)) (Nat.le_of_ble_eq_true rfl) rfl rfl ?_
    refine w_ireturn (zat TX11_pass 25 rfl) rfl rfl ?_
    exact ⟨by rw [cPass, if_neg Ha2, if_pos Hc40], by rw [cPass, if_neg Ha2, if_pos Hc40]⟩
