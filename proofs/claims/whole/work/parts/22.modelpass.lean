-- pass, feed, force of the model, by program (wip/gen/p22.py)
def mAl (f : Nat → Int32) : Nat → Prop
  | 0 => True
  | s + 1 => mAl f s ∧ ¬ f s = -1
def mAl_dec (f : Nat → Int32) : ∀ s, Decidable (mAl f s)
  | 0 => isTrue trivial
  | s + 1 => match mAl_dec f s with
    | isTrue h => if q : f s = -1 then isFalse (fun z => z.2 q) else isTrue ⟨h, q⟩
    | isFalse h => isFalse (fun z => h z.1)
def mAlb (f : Nat → Int32) (s : Nat) : Int32 := match mAl_dec f s with
  | isTrue _ => 1
  | isFalse _ => 0
theorem mAlb_t {f : Nat → Int32} {s : Nat} (h : mAl f s) : mAlb f s = 1 := by
  unfold mAlb
  cases mAl_dec f s with
  | isTrue _ => rfl
  | isFalse q => exact absurd h q
theorem mAlb_f {f : Nat → Int32} {s : Nat} (h : ¬ mAl f s) : mAlb f s = 0 := by
  unfold mAlb
  cases mAl_dec f s with
  | isTrue q => exact absurd q h
  | isFalse _ => rfl
theorem mAlb_0 {f : Nat → Int32} {s : Nat} : mAlb f s = 0 ↔ ¬ mAl f s := by
  constructor
  · intro h q
    rw [mAlb_t q] at h
    exact absurd h (by decide)
  · exact mAlb_f
/-- the stores behind a year's end, the first s of them -/
def pH (h : zH) : Nat → zH
  | 0 => h
  | s + 1 => zsI (zsI (zsI (zsI (zsL (pH h s) 33 0 s (zL (pH h s) 33 0 s + (zI (pH h s) 28 0 s + zI (pH h s) 29 0 s - zI (pH h s) 30 0 s - zI (pH h s) 31 0 s).toInt64)) 28 0 s (zI (pH h s) 31 0 s)) 29 0 s 0) 30 0 s 0) 31 0 s (-1)
theorem pH_g (h : zH) : ∀ s, (pH h s).2.2 = h.2.2
  | 0 => rfl
  | s + 1 => pH_g h s
theorem pH_1 (h : zH) : ∀ s, zI (pH h s) 1 = zI h 1
  | 0 => rfl
  | s + 1 => by
    funext b c
    have := congrFun (congrFun (pH_1 h s) b) c
    rw [← this]
    rfl
theorem lX14_pass1 (l : Launch) (h : zH) (hWM : Wm h) (Q : zO → zH → Prop) (nS : Nat) (hS : zI h 1 0 40 = nI nS) (hS2 : nS ≤ 8) (HK : Wp l mX14_pass 2 43 [some (Vq (some (1, 0))), some (Vi (mAlb (zI h 31 0) nS)), some (Vi (nI nS))] [] (zsI h 1 0 0 0) Q) : ∀ kk s : Nat, s + kk = nS → Wp l mX14_pass 2 9 [some (Vq (some (1, 0))), some (Vi (mAlb (zI h 31 0) s)), some (Vi (nI s))] [] (zsI h 1 0 0 0) Q := by
  intro kk
  induction kk with
  | zero =>
    intro s hs
    refine w_iload_n (zat TX14_pass_0 7 rfl) rfl ?_
    refine w_aload_n (zat TX14_pass_0 8 rfl) rfl ?_
    refine y_getI (v := nI nS) (zat TX14_pass_0 9 rfl) fX14_367 s1 (by decide) (by decide) rfl hS ?_
    refine w_icmp_ge 43 (zat TX14_pass_0 10 rfl) (by decide) (fun Hc14 => ?_) (fun Hc14 => ?_)
    · have e : s = nS := by omega
      subst e
      exact HK
    · exact absurd (nI_le (by omega) (by omega)) Hc14
  | succ kk ih =>
    intro s hs
    refine w_iload_n (zat TX14_pass_0 7 rfl) rfl ?_
    refine w_aload_n (zat TX14_pass_0 8 rfl) rfl ?_
    refine y_getI (v := nI nS) (zat TX14_pass_0 9 rfl) fX14_367 s1 (by decide) (by decide) rfl hS ?_
    refine w_icmp_ge 43 (zat TX14_pass_0 10 rfl) (by decide) (fun Hc14 => ?_) (fun Hc14 => ?_)
    · exact absurd Hc14 (nI_ge (by omega) (by omega))
    · refine w_iload_n (zat TX14_pass_0 11 rfl) rfl ?_
      refine w_if_eq 35 (zat TX14_pass_0 12 rfl) (by decide) (fun Hc18 => ?_) (fun Hc18 => ?_)
      · have Hm : mAlb (zI h 31 0) (s + 1) = 0 := mAlb_f (fun q => mAlb_0.mp Hc18 q.1)
        refine w_iconst (v := 0) (zat TX14_pass_0 21 rfl) (by decide) ?_
        refine x_istore_n (ls2 := [_, _, _]) (zat TX14_pass_0 22 rfl) (by decide) rfl ?_
        refine x_iinc (v := nI (s + 1)) (ls2 := [_, _, _]) (zat TX14_pass_0 23 rfl) rfl (nI_inc s) rfl ?_
        refine w_goto 9 (zat TX14_pass_0 24 rfl) (by decide) ?_
        have Hi := ih (s + 1) (by omega)
        rw [Hm] at Hi
        exact Hi
      · skip
        refine w_aload_n (zat TX14_pass_0 13 rfl) rfl ?_
        refine w_getR (zat TX14_pass_0 14 rfl) fX14_90 s1 (by decide) (by decide) rfl (wmr hWM 20 rfl) ?_
        refine w_iload_n (zat TX14_pass_0 15 rfl) rfl ?_
        refine y_iaload _ _ (v := zI h 31 0 s) (zat TX14_pass_0 16 rfl) s31 (by decide) (wmn hWM 19 rfl) (by decide) rfl (by omega) rfl ?_
        refine w_iconst (v := -1) (zat TX14_pass_0 17 rfl) (by decide) ?_
        refine w_icmp_eq 35 (zat TX14_pass_0 18 rfl) (by decide) (fun Hc28 => ?_) (fun Hc28 => ?_)
        · have Hm : mAlb (zI h 31 0) (s + 1) = 0 := mAlb_f (fun q => q.2 Hc28)
          refine w_iconst (v := 0) (zat TX14_pass_0 21 rfl) (by decide) ?_
          refine x_istore_n (ls2 := [_, _, _]) (zat TX14_pass_0 22 rfl) (by decide) rfl ?_
          refine x_iinc (v := nI (s + 1)) (ls2 := [_, _, _]) (zat TX14_pass_0 23 rfl) rfl (nI_inc s) rfl ?_
          refine w_goto 9 (zat TX14_pass_0 24 rfl) (by decide) ?_
          have Hi := ih (s + 1) (by omega)
          rw [Hm] at Hi
          exact Hi
        · have Hm : mAlb (zI h 31 0) (s + 1) = 1 := mAlb_t ⟨Classical.byContradiction (fun q => Hc18 (mAlb_0.mpr q)), Hc28⟩
          refine w_iconst (v := 1) (zat TX14_pass_0 19 rfl) (by decide) ?_
          refine w_goto 36 (zat TX14_pass_0 20 rfl) (by decide) ?_
          refine x_istore_n (ls2 := [_, _, _]) (zat TX14_pass_0 22 rfl) (by decide) rfl ?_
          refine x_iinc (v := nI (s + 1)) (ls2 := [_, _, _]) (zat TX14_pass_0 23 rfl) rfl (nI_inc s) rfl ?_
          refine w_goto 9 (zat TX14_pass_0 24 rfl) (by decide) ?_
          have Hi := ih (s + 1) (by omega)
          rw [Hm] at Hi
          exact Hi
theorem lX14_pass2 (l : Launch) (h : zH) (hWM : Wm h) (Q : zO → zH → Prop) (a : Int32) (nS : Nat) (hS : zI h 1 0 40 = nI nS) (hS3 : nS ≤ 8) (HK : Wp l mX14_pass 2 132 [some (Vq (some (1, 0))), some (Vi a), some (Vi (nI nS))] [] (pH h nS) Q) : ∀ kk s : Nat, s + kk = nS → Wp l mX14_pass 2 70 [some (Vq (some (1, 0))), some (Vi a), some (Vi (nI s))] [] (pH h s) Q := by
  intro kk
  induction kk with
  | zero =>
    intro s hs
    have hWM2 : Wm (pH h s) := Wm.same (pH_g h s) hWM
    have hS2 : zI (pH h s) 1 0 40 = nI nS := by rw [pH_1]; exact hS
    refine w_iload_n (zat TX14_pass_0 41 rfl) rfl ?_
    refine w_aload_n (zat TX14_pass_0 42 rfl) rfl ?_
    refine y_getI (v := nI nS) (zat TX14_pass_0 43 rfl) fX14_367 s1 (by decide) (by decide) rfl hS2 ?_
    refine w_icmp_ge 132 (zat TX14_pass_0 44 rfl) (by decide) (fun Hc75 => ?_) (fun Hc75 => ?_)
    · have e : s = nS := by omega
      subst e
      exact HK
    · exact absurd (nI_le (by omega) (by omega)) Hc75
  | succ kk ih =>
    intro s hs
    have hWM2 : Wm (pH h s) := Wm.same (pH_g h s) hWM
    have hS2 : zI (pH h s) 1 0 40 = nI nS := by rw [pH_1]; exact hS
    refine w_iload_n (zat TX14_pass_0 41 rfl) rfl ?_
    refine w_aload_n (zat TX14_pass_0 42 rfl) rfl ?_
    refine y_getI (v := nI nS) (zat TX14_pass_0 43 rfl) fX14_367 s1 (by decide) (by decide) rfl hS2 ?_
    refine w_icmp_ge 132 (zat TX14_pass_0 44 rfl) (by decide) (fun Hc75 => ?_) (fun Hc75 => ?_)
    · exact absurd Hc75 (nI_ge (by omega) (by omega))
    · refine w_aload_n (zat TX14_pass_0 45 rfl) rfl ?_
      refine w_getR (zat TX14_pass_0 46 rfl) fX14_96 s1 (by decide) (by decide) rfl (wmr hWM2 22 rfl) ?_
      refine w_iload_n (zat TX14_pass_0 47 rfl) rfl ?_
      refine w_dup2 (zat TX14_pass_0 48 rfl) rfl rfl ?_
      refine x_laload _ _ (zat TX14_pass_0 49 rfl) s33 (by decide) (wmn hWM2 21 rfl) (by decide) rfl (by omega) ?_
      refine w_aload_n (zat TX14_pass_0 50 rfl) rfl ?_
      refine w_iload_n (zat TX14_pass_0 51 rfl) rfl ?_
      refine x_callv2 (qX14_missingNow l (pH h s) hWM2 _ _ rfl (by omega)) (by decide) kX14_missingNow (rdy_V (zat TX14_pass_0 52 rfl) kX14_missingNow pX14_missingNow zw1439 zw1441 zw61 (zrc (by decide) (by decide) rfl)) (Nat.le_of_ble_eq_true rfl) rfl rfl ?_
      refine w_i2l (zat TX14_pass_0 53 rfl) ?_
      refine w_ladd (zat TX14_pass_0 54 rfl) ?_
      refine x_lastore _ _ (zat TX14_pass_0 55 rfl) s33 (by decide) (wmn hWM2 21 rfl) (by decide) rfl (by omega) ?_
      refine w_aload_n (zat TX14_pass_0 56 rfl) rfl ?_
      refine w_getR (zat TX14_pass_0 57 rfl) fX14_81 s1 (by decide) (by decide) rfl (wmr hWM2 17 rfl) ?_
      refine w_iload_n (zat TX14_pass_0 58 rfl) rfl ?_
      refine w_aload_n (zat TX14_pass_0 59 rfl) rfl ?_
      refine w_getR (zat TX14_pass_1 0 rfl) fX14_90 s1 (by decide) (by decide) rfl (wmr hWM2 20 rfl) ?_
      refine w_iload_n (zat TX14_pass_1 1 rfl) rfl ?_
      refine y_iaload _ _ (v := zI (pH h s) 31 0 s) (zat TX14_pass_1 2 rfl) s31 (by decide) (wmn hWM2 19 rfl) (by decide) rfl (by omega) rfl ?_
      refine x_iastore _ _ (zat TX14_pass_1 3 rfl) s28 (by decide) (wmn hWM2 16 rfl) (by decide) rfl (by omega) ?_
      refine w_aload_n (zat TX14_pass_1 4 rfl) rfl ?_
      refine w_getR (zat TX14_pass_1 5 rfl) fX14_84 s1 (by decide) (by decide) rfl (wmr hWM2 18 rfl) ?_
      refine w_iload_n (zat TX14_pass_1 6 rfl) rfl ?_
      refine w_iconst (v := 0) (zat TX14_pass_1 7 rfl) (by decide) ?_
      refine x_iastore _ _ (zat TX14_pass_1 8 rfl) s29 (by decide) (wmn hWM2 17 rfl) (by decide) rfl (by omega) ?_
      refine w_aload_n (zat TX14_pass_1 9 rfl) rfl ?_
      refine w_getR (zat TX14_pass_1 10 rfl) fX14_87 s1 (by decide) (by decide) rfl (wmr hWM2 19 rfl) ?_
      refine w_iload_n (zat TX14_pass_1 11 rfl) rfl ?_
      refine w_iconst (v := 0) (zat TX14_pass_1 12 rfl) (by decide) ?_
      refine x_iastore _ _ (zat TX14_pass_1 13 rfl) s30 (by decide) (wmn hWM2 18 rfl) (by decide) rfl (by omega) ?_
      refine w_aload_n (zat TX14_pass_1 14 rfl) rfl ?_
      refine w_getR (zat TX14_pass_1 15 rfl) fX14_90 s1 (by decide) (by decide) rfl (wmr hWM2 20 rfl) ?_
      refine w_iload_n (zat TX14_pass_1 16 rfl) rfl ?_
      refine w_iconst (v := -1) (zat TX14_pass_1 17 rfl) (by decide) ?_
      refine x_iastore _ _ (zat TX14_pass_1 18 rfl) s31 (by decide) (wmn hWM2 19 rfl) (by decide) rfl (by omega) ?_
      refine x_iinc (v := nI (s + 1)) (ls2 := [_, _, _]) (zat TX14_pass_1 19 rfl) rfl (nI_inc s) rfl ?_
      refine w_goto 70 (zat TX14_pass_1 20 rfl) (by decide) ?_
      exact ih (s + 1) (by omega)
def mPass (h : zH) (nS : Nat) : Int32 × zH := if mAlb (zI h 31 0) nS = 0 then (-1, mRef (zsI h 1 0 0 0) 5) else if zI h 1 0 6 = 99 then (-1, mRef (zsI h 1 0 0 0) 2) else (zI h 1 0 6 + 1, mRef (zsI (pH (zsI h 1 0 0 0) nS) 1 0 6 (zI h 1 0 6 + 1)) 0)
theorem qX14_pass (l : Launch) (h : zH) (hWM : Wm h) (nS : Nat) (hS : zI h 1 0 40 = nI nS) (hS2 : nS ≤ 8) : Cx l 2 mX14_pass [Vq (some (1, 0))] h (Rv (Vi (mPass h nS).1)) (mPass h nS).2 := by
  refine Ct.in 2 kX14_pass (plainFor_of_name rfl) (Nat.le_of_ble_eq_true rfl) ?_
  refine w_aload_n (zat TX14_pass_0 0 rfl) rfl ?_
  refine w_iconst (v := 0) (zat TX14_pass_0 1 rfl) (by decide) ?_
  refine w_putI (zat TX14_pass_0 2 rfl) gX14_pass_100 s1 (by decide) (by decide) rfl ⟨rfl, rfl⟩ ?_
  refine w_iconst (v := 1) (zat TX14_pass_0 3 rfl) (by decide) ?_
  refine x_istore_n (ls2 := [_, _, _]) (zat TX14_pass_0 4 rfl) (by decide) rfl ?_
  refine w_iconst (v := 0) (zat TX14_pass_0 5 rfl) (by decide) ?_
  refine x_istore_n (ls2 := [_, _, _]) (zat TX14_pass_0 6 rfl) (by decide) rfl ?_
  refine lX14_pass1 l h hWM _ nS hS hS2 ?_ nS 0 (by omega)
  refine w_iload_n (zat TX14_pass_0 25 rfl) rfl ?_
  refine w_if_ne 53 (zat TX14_pass_0 26 rfl) (by decide) (fun Hc44 => ?_) (fun Hc44 => ?_)
  · refine w_aload_n (zat TX14_pass_0 31 rfl) rfl ?_
    refine y_getI (v := zI h 1 0 6) (zat TX14_pass_0 32 rfl) fX14_324 s1 (by decide) (by decide) rfl rfl ?_
    refine w_bipush (v := 99) (zat TX14_pass_0 33 rfl) (by decide) ?_
    refine w_icmp_ne 68 (zat TX14_pass_0 34 rfl) (by decide) (fun Hc59 => ?_) (fun Hc59 => ?_)
    · refine w_iconst (v := 0) (zat TX14_pass_0 39 rfl) (by decide) ?_
      refine x_istore_n (ls2 := [_, _, _]) (zat TX14_pass_0 40 rfl) (by decide) rfl ?_
      refine lX14_pass2 l (zsI h 1 0 0 0) hWM _ _ nS hS hS2 ?_ nS 0 (by omega)
      refine w_aload_n (zat TX14_pass_1 21 rfl) rfl ?_
      refine w_dup (zat TX14_pass_1 22 rfl) rfl ?_
      refine y_getI (v := zI h 1 0 6) (zat TX14_pass_1 23 rfl) fX14_324 s1 (by decide) (by decide) rfl (by rw [pH_1]; rfl) ?_
      refine w_iconst (v := 1) (zat TX14_pass_1 24 rfl) (by decide) ?_
      refine w_iadd (zat TX14_pass_1 25 rfl) ?_
      refine w_putI (zat TX14_pass_1 26 rfl) gX14_pass_324 s1 (by decide) (by decide) rfl ⟨rfl, rfl⟩ ?_
      refine w_aload_n (zat TX14_pass_1 27 rfl) rfl ?_
      refine w_aload_n (zat TX14_pass_1 28 rfl) rfl ?_
      refine y_getI (v := zI h 1 0 6 + 1) (zat TX14_pass_1 29 rfl) fX14_324 s1 (by decide) (by decide) rfl (zI_same _ 1 0 6 _) ?_
      refine x_callv2 (qX14_done l _ _) (by decide) kX14_done (rdy_V (zat TX14_pass_1 30 rfl) kX14_done pX14_done zw1192 zw1194 zw32 (zrc (by decide) (by decide) rfl)) (Nat.le_of_ble_eq_true rfl) rfl rfl ?_
      refine w_ireturn (zat TX14_pass_1 31 rfl) rfl rfl ?_
      exact ⟨by rw [mPass, if_neg Hc44, if_neg Hc59], by rw [mPass, if_neg Hc44, if_neg Hc59]⟩
    · refine w_aload_n (zat TX14_pass_0 35 rfl) rfl ?_
      refine w_iconst (v := 2) (zat TX14_pass_0 36 rfl) (by decide) ?_
      refine x_callv2 (qX14_refused l _ _) (by decide) kX14_refused (rdy_V (zat TX14_pass_0 37 rfl) kX14_refused pX14_refused zw1188 zw1190 zw31 (zrc (by decide) (by decide) rfl)) (Nat.le_of_ble_eq_true rfl) rfl rfl ?_
      refine w_ireturn (zat TX14_pass_0 38 rfl) rfl rfl ?_
      exact ⟨by simp only [mPass, Hc44, Hc59, if_true, if_false], by simp only [mPass, Hc44, Hc59, if_true, if_false]⟩
  · refine w_aload_n (zat TX14_pass_0 27 rfl) rfl ?_
    refine w_iconst (v := 5) (zat TX14_pass_0 28 rfl) (by decide) ?_
    refine x_callv2 (qX14_refused l _ _) (by decide) kX14_refused (rdy_V (zat TX14_pass_0 29 rfl) kX14_refused pX14_refused zw1188 zw1190 zw31 (zrc (by decide) (by decide) rfl)) (Nat.le_of_ble_eq_true rfl) rfl rfl ?_
    refine w_ireturn (zat TX14_pass_0 30 rfl) rfl rfl ?_
    exact ⟨by simp only [mPass, Hc44, if_true, if_false], by simp only [mPass, Hc44, if_true, if_false]⟩
