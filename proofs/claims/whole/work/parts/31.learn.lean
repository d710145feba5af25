-- learnYear, learn, by program (wip/gen/p31.py)
/-- only the names 0 .. 3 count -/
theorem stp_congr {env env' : Nat → Int32} (he : ∀ k, k < 4 → env k = env' k) {it : Nat × Int32} (hok : okI it) (st : List Int32 × Bool) : stp env it st = stp env' it st := by
  unfold stp
  have hv : it.1 ≤ 1 → vlI env it = vlI env' it := by
    intro h1
    unfold vlI
    rcases hok with ⟨h0, -, -⟩ | ⟨h0, k, hk, hv⟩ | ⟨h0, -⟩
    · rw [if_pos h0, if_pos h0]
    · rw [if_neg (by omega), if_neg (by omega), hv, nI_clamp (by omega)]
      exact he k hk
    · omega
  by_cases h1 : it.1 ≤ 1
  · rw [if_pos h1, if_pos h1, hv h1]
  · rw [if_neg h1, if_neg h1]
theorem runI_congr {env env' : Nat → Int32} (he : ∀ k, k < 4 → env k = env' k) : ∀ {its : List (Nat × Int32)}, (∀ it ∈ its, okI it) → ∀ st, runI env its st = runI env' its st
  | [], _, _ => rfl
  | it :: t, hok, st => by
    show runI env t (stp env it st) = runI env' t (stp env' it st)
    rw [stp_congr he (hok it List.mem_cons_self) st]
    exact runI_congr he (fun it' h => hok it' (List.mem_cons_of_mem _ h)) _
theorem tlP_congr {env env' : Nat → Int32} (he : ∀ k, k < 4 → env k = env' k) (dy : Bool) : ∀ {p : List (Bool × List (Nat × Int32))}, (∀ ln ∈ p, okL ln) → tlP env dy p = tlP env' dy p
  | [], _ => rfl
  | ln :: t, hok => by
    have ih := tlP_congr he dy (p := t) (fun ln' h => hok ln' (List.mem_cons_of_mem _ h))
    have hl : lnV env ln.2 = lnV env' ln.2 := by
      unfold lnV
      rw [runI_congr he (hok ln List.mem_cons_self).1]
    rw [tlP, tlP, hl, ih]
def envY (y m n old : Int32) (k : Nat) : Int32 := match k with
  | 0 => y
  | 1 => m
  | 2 => n
  | _ => old
/-- a year's price or duty, by the program in force -/
def yv (pf : Option (List (Bool × List (Nat × Int32)))) (dy : Bool) (y m n old : Int32) : Int32 := match pf with
  | none => 0
  | some p => bnd (tlP (envY y m n old) dy p).toInt64 0 (if dy then n else 1000)
def oldv (f : Nat → Int32) (y : Nat) : Int32 := match y with
  | 0 => 0
  | y + 1 => f y
def FrY (p y : Nat) (h h' : zH) : Prop := h'.2 = h.2 ∧ (∀ k, k ≠ 63 → k ≠ 78 → k ≠ 76 → k ≠ 77 → zI h' k = zI h k) ∧ (∀ i j, ¬ (i = p ∧ j = y) → zI h' 76 i j = zI h 76 i j) ∧ ∀ i j, ¬ (i = p ∧ j = y) → zI h' 77 i j = zI h 77 i j
theorem FrR.Y {p y : Nat} {a b : zH} (x : FrR a b) : FrY p y a b := ⟨x.1, fun k h1 h2 _ _ => x.2.1 k h1 h2, fun i j _ => by rw [x.2.1 76 (by decide) (by decide)], fun i j _ => by rw [x.2.1 77 (by decide) (by decide)]⟩
theorem FrY.rf (p y : Nat) (h : zH) : FrY p y h h := (FrR.rf h).Y
theorem FrY.tr {p y : Nat} {a b c : zH} (x : FrY p y a b) (z : FrY p y b c) : FrY p y a c := ⟨z.1.trans x.1, fun k h1 h2 h3 h4 => (z.2.1 k h1 h2 h3 h4).trans (x.2.1 k h1 h2 h3 h4), fun i j h => (z.2.2.1 i j h).trans (x.2.2.1 i j h), fun i j h => (z.2.2.2 i j h).trans (x.2.2.2 i j h)⟩
theorem FrY.f {p y : Nat} {a b : zH} (x : FrY p y a b) (j : Nat) (v : Int32) : FrY p y a (zsI b 63 0 j v) := ⟨x.1, fun k h1 h2 h3 h4 => by
  rw [← x.2.1 k h1 h2 h3 h4]
  funext i j
  exact if_neg (fun z => h1 z.1), fun i j h => x.2.2.1 i j h, fun i j h => x.2.2.2 i j h⟩
theorem FrY.a {p y : Nat} {a b : zH} (x : FrY p y a b) (v : Int32) : FrY p y a (zsI b 76 p y v) := ⟨x.1, fun k h1 h2 h3 h4 => by
  rw [← x.2.1 k h1 h2 h3 h4]
  funext i j
  exact if_neg (fun z => h3 z.1), fun i j h => (if_neg (fun z => h ⟨z.2.1, z.2.2⟩)).trans (x.2.2.1 i j h), fun i j h => x.2.2.2 i j h⟩
theorem FrY.b {p y : Nat} {a b : zH} (x : FrY p y a b) (v : Int32) : FrY p y a (zsI b 77 p y v) := ⟨x.1, fun k h1 h2 h3 h4 => by
  rw [← x.2.1 k h1 h2 h3 h4]
  funext i j
  exact if_neg (fun z => h4 z.1), fun i j h => x.2.2.1 i j h, fun i j h => (if_neg (fun z => h ⟨z.2.1, z.2.2⟩)).trans (x.2.2.2 i j h)⟩
theorem qX2_learnYear (l : Launch) (h : zH) (hW : Wc h) (pg : Nat → List (Bool × List (Nat × Int32))) (p y : Nat) (hp : p < zC h 58) (hp10 : p < 1000) (hy : y < 100) (nE : Nat) (hE : zI h 55 0 2 = nI nE) (hE2 : nE ≤ 30) (hE3 : zC h 60 = nE) (hY : ∀ e, e < nE → 0 ≤ cY h e) (hC : ∀ e, e < nE → CR h e (pg e)) (pf : Option (List (Bool × List (Nat × Int32)))) (hpf : pf = (if mF (cP h) (cY h) (nI p) (nI y) nE = -2 then none else some (pg (mF (cP h) (cY h) (nI p) (nI y) nE).toNatClampNeg))) : Ct l 6 mX2_learnYear [Vq (some (55, 0)), Vq (some (58, p)), Vi (nI p), Vi (nI y)] h (fun o h' => o = R0 ∧ FrY p y h h' ∧ zI h' 76 p y = yv pf false (nI y) (zI h 58 p 0) (zI h 58 p 1) (oldv (zI h 76 p) y) ∧ zI h' 77 p y = yv pf true (nI y) (zI h 58 p 0) (zI h 58 p 1) (oldv (zI h 77 p) y)) := by
  rcases mF_ix (cP h) (cY h) (nI p) (nI y) nE (by omega) with HF | ⟨f, Hf1, HF⟩
  · skip
    refine Ct.in 2 kX2_learnYear (plainFor_of_name rfl) (Nat.le_of_ble_eq_true rfl) ?_
    refine w_aload_n (zat TX2_learnYear_0 0 rfl) rfl ?_
    refine w_iload_n (zat TX2_learnYear_0 1 rfl) rfl ?_
    refine w_iload_n (zat TX2_learnYear_0 2 rfl) rfl ?_
    refine x_callv3 (qX2_numberInForce l h hW (nI p) (nI y) nE hE hE2 hE3 hY) (by decide) kX2_numberInForce (rdy_V (zat TX2_learnYear_0 3 rfl) kX2_numberInForce pX2_numberInForce zw661 zw646 zw647 (zrc (by decide) (by decide) rfl)) (Nat.le_of_ble_eq_true rfl) rfl rfl ?_
    rw [HF]
    refine x_istore (ls2 := [_, _, _, _, _, _]) (zat TX2_learnYear_0 4 rfl) (by decide) rfl ?_
    refine w_iload (zat TX2_learnYear_0 5 rfl) rfl ?_
    refine w_if_ge 28 (zat TX2_learnYear_0 6 rfl) (by decide) (fun Hc10 => ?_) (fun Hc10 => ?_)
    · exact absurd Hc10 (by decide)
    · refine w_aload_n (zat TX2_learnYear_0 7 rfl) rfl ?_
      refine w_getR (zat TX2_learnYear_0 8 rfl) fX2_51 s58 (by decide) (by decide) rfl ((hW.2.2.1.2.2 p hp).2.1) ?_
      refine w_iload_n (zat TX2_learnYear_0 9 rfl) rfl ?_
      refine w_iconst (v := 0) (zat TX2_learnYear_0 10 rfl) (by decide) ?_
      refine x_iastore _ _ (zat TX2_learnYear_0 11 rfl) s76 (by decide) ((hW.2.2.1.2.2 p hp).2.2.2.1) (by decide) rfl hy ?_
      refine w_aload_n (zat TX2_learnYear_0 12 rfl) rfl ?_
      refine w_getR (zat TX2_learnYear_0 13 rfl) fX2_55 s58 (by decide) (by decide) rfl ((hW.2.2.1.2.2 p hp).2.2.1) ?_
      refine w_iload_n (zat TX2_learnYear_0 14 rfl) rfl ?_
      refine w_iconst (v := 0) (zat TX2_learnYear_0 15 rfl) (by decide) ?_
      refine x_iastore _ _ (zat TX2_learnYear_0 16 rfl) s77 (by decide) ((hW.2.2.1.2.2 p hp).2.2.2.2) (by decide) rfl hy ?_
      refine w_return (zat TX2_learnYear_0 17 rfl) rfl ?_
      have hpf2 := hpf.trans (if_pos HF)
      subst hpf2
      exact ⟨rfl, ((FrY.rf p y h).a _).b _, zI_same _ 76 p y _, zI_same _ 77 p y _⟩
  · rcases y with _ | y0
    · skip
      refine Ct.in 2 kX2_learnYear (plainFor_of_name rfl) (Nat.le_of_ble_eq_true rfl) ?_
      refine w_aload_n (zat TX2_learnYear_0 0 rfl) rfl ?_
      refine w_iload_n (zat TX2_learnYear_0 1 rfl) rfl ?_
      refine w_iload_n (zat TX2_learnYear_0 2 rfl) rfl ?_
      refine x_callv3 (qX2_numberInForce l h hW (nI p) (nI 0) nE hE hE2 hE3 hY) (by decide) kX2_numberInForce (rdy_V (zat TX2_learnYear_0 3 rfl) kX2_numberInForce pX2_numberInForce zw661 zw646 zw647 (zrc (by decide) (by decide) rfl)) (Nat.le_of_ble_eq_true rfl) rfl rfl ?_
      rw [HF]
      refine x_istore (ls2 := [_, _, _, _, _, _]) (zat TX2_learnYear_0 4 rfl) (by decide) rfl ?_
      refine w_iload (zat TX2_learnYear_0 5 rfl) rfl ?_
      refine w_if_ge 28 (zat TX2_learnYear_0 6 rfl) (by decide) (fun Hc10 => ?_) (fun Hc10 => ?_)
      · refine w_aload_n (zat TX2_learnYear_0 18 rfl) rfl ?_
        refine w_getR (zat TX2_learnYear_0 19 rfl) fX2_11 s55 (by decide) (by decide) rfl (wcr hW 11 rfl) ?_
        refine w_iload (zat TX2_learnYear_0 20 rfl) rfl ?_
        refine x_aaload _ _ (zat TX2_learnYear_0 21 rfl) (by decide) (by decide) ⟨_, rfl⟩ (wcn hW 3 rfl) (by decide) rfl (by omega) ((hW.2.2.2.2.2.2 f (by omega)).1) ?_
        refine w_getR (zat TX2_learnYear_0 22 rfl) fX2_58 s60 (by decide) (by decide) rfl ((hW.2.2.2.2.2.2 f (by omega)).2) ?_
        refine x_astore (ls2 := [_, _, _, _, _, _]) (zat TX2_learnYear_0 23 rfl) (by decide) rfl ?_
        refine w_aload_n (zat TX2_learnYear_0 24 rfl) rfl ?_
        refine w_getR (zat TX2_learnYear_0 25 rfl) fX2_20 s55 (by decide) (by decide) rfl (wcr hW 12 rfl) ?_
        refine w_iload_n (zat TX2_learnYear_0 26 rfl) rfl ?_
        refine w_putI (zat TX2_learnYear_0 27 rfl) gX2_learnYear_61 s63 (by decide) (by decide) rfl ⟨rfl, rfl⟩ ?_
        refine w_aload_n (zat TX2_learnYear_0 28 rfl) rfl ?_
        refine w_getR (zat TX2_learnYear_0 29 rfl) fX2_20 s55 (by decide) (by decide) rfl (wcr hW 12 rfl) ?_
        refine w_aload_n (zat TX2_learnYear_0 30 rfl) rfl ?_
        refine y_getI (v := zI h 58 p 0) (zat TX2_learnYear_0 31 rfl) fX2_62 s58 (by decide) (by decide) rfl rfl ?_
        refine w_putI (zat TX2_learnYear_0 32 rfl) gX2_learnYear_65 s63 (by decide) (by decide) rfl ⟨rfl, rfl⟩ ?_
        refine w_aload_n (zat TX2_learnYear_0 33 rfl) rfl ?_
        refine w_getR (zat TX2_learnYear_0 34 rfl) fX2_20 s55 (by decide) (by decide) rfl (wcr hW 12 rfl) ?_
        refine w_aload_n (zat TX2_learnYear_0 35 rfl) rfl ?_
        refine y_getI (v := zI h 58 p 1) (zat TX2_learnYear_0 36 rfl) fX2_66 s58 (by decide) (by decide) rfl rfl ?_
        refine w_putI (zat TX2_learnYear_0 37 rfl) gX2_learnYear_69 s63 (by decide) (by decide) rfl ⟨rfl, rfl⟩ ?_
        refine w_aload_n (zat TX2_learnYear_0 38 rfl) rfl ?_
        refine w_getR (zat TX2_learnYear_0 39 rfl) fX2_20 s55 (by decide) (by decide) rfl (wcr hW 12 rfl) ?_
        refine w_iload_n (zat TX2_learnYear_0 40 rfl) rfl ?_
        refine w_if_le 89 (zat TX2_learnYear_0 41 rfl) (by decide) (fun Hc75 => ?_) (fun Hc75 => ?_)
        · refine w_iconst (v := 0) (zat TX2_learnYear_0 49 rfl) (by decide) ?_
          skip
          refine w_putI (zat TX2_learnYear_0 50 rfl) gX2_learnYear_70 s63 (by decide) (by decide) rfl ⟨rfl, rfl⟩ ?_
          refine w_aload_n (zat TX2_learnYear_0 51 rfl) rfl ?_
          refine w_getR (zat TX2_learnYear_0 52 rfl) fX2_51 s58 (by decide) (by decide) rfl ((hW.2.2.1.2.2 p hp).2.1) ?_
          refine w_iload_n (zat TX2_learnYear_0 53 rfl) rfl ?_
          refine w_aload_n (zat TX2_learnYear_0 54 rfl) rfl ?_
          refine w_getR (zat TX2_learnYear_0 55 rfl) fX2_20 s55 (by decide) (by decide) rfl (wcr hW 12 rfl) ?_
          refine w_aload (zat TX2_learnYear_0 56 rfl) rfl ?_
          refine w_iconst (v := -1) (zat TX2_learnYear_0 57 rfl) (by decide) ?_
          refine x_call3 (qX6_tell l (zsI (zsI (zsI (zsI h 63 0 2 (nI 0)) 63 0 3 (zI h 58 p 0)) 63 0 4 (zI h 58 p 1)) 63 0 5 (oldv (zI h 76 p) 0)) hW f (pg f) (hC f Hf1) false) (by decide) kX6_tell (rdy_V (zat TX2_learnYear_0 58 rfl) kX6_tell pX6_tell zw662 zw663 zw664 (zrc (by decide) (by decide) rfl)) (Nat.le_of_ble_eq_true rfl) rfl rfl (fun v h2 hq => ?_) (fun r h2 hq => by cases hq.1)
          obtain ⟨hq1, hF1⟩ := hq
          cases hq1
          have hg2 : h2.2.2 = h.2.2 := congrArg Prod.snd hF1.1
          have hW2 : Wc h2 := Wc.same hg2 hW
          have hp2 : p < zC h2 58 := by unfold zC; rw [hg2]; exact hp
          have hC2 : CR h2 f (pg f) := by
            have hc := hC f Hf1
            exact ⟨by rw [← hc.1]; unfold zN; rw [hg2], hc.2.1, fun j w hj => by rw [hF1.2.1 75 (by decide) (by decide)]; exact hc.2.2.1 j w hj, hc.2.2.2⟩
          refine w_i2l (zat TX2_learnYear_0 59 rfl) ?_
          refine w_iconst (v := 0) (zat TX2_learnYear_1 0 rfl) (by decide) ?_
          refine w_sipush (v := 1000) (zat TX2_learnYear_1 1 rfl) (by decide) ?_
          refine x_callv3 (qX11_bound l _ _ _ _) (by decide) kX11_bound (rdy_SN (zat TX2_learnYear_1 2 rfl) kX11_bound pX11_bound zw699 zw691) (Nat.le_of_ble_eq_true rfl) rfl rfl ?_
          refine x_iastore _ _ (zat TX2_learnYear_1 3 rfl) s76 (by decide) ((hW2.2.2.1.2.2 p hp2).2.2.2.1) (by decide) rfl hy ?_
          refine w_aload_n (zat TX2_learnYear_1 4 rfl) rfl ?_
          refine w_getR (zat TX2_learnYear_1 5 rfl) fX2_20 s55 (by decide) (by decide) rfl (wcr hW2 12 rfl) ?_
          refine w_iload_n (zat TX2_learnYear_1 6 rfl) rfl ?_
          refine w_if_le 136 (zat TX2_learnYear_1 7 rfl) (by decide) (fun Hc122 => ?_) (fun Hc122 => ?_)
          · refine w_iconst (v := 0) (zat TX2_learnYear_1 15 rfl) (by decide) ?_
            refine w_putI (zat TX2_learnYear_1 16 rfl) gX2_learnYear_70 s63 (by decide) (by decide) rfl ⟨rfl, rfl⟩ ?_
            refine w_aload_n (zat TX2_learnYear_1 17 rfl) rfl ?_
            refine w_getR (zat TX2_learnYear_1 18 rfl) fX2_55 s58 (by decide) (by decide) rfl ((hW2.2.2.1.2.2 p hp2).2.2.1) ?_
            refine w_iload_n (zat TX2_learnYear_1 19 rfl) rfl ?_
            refine w_aload_n (zat TX2_learnYear_1 20 rfl) rfl ?_
            refine w_getR (zat TX2_learnYear_1 21 rfl) fX2_20 s55 (by decide) (by decide) rfl (wcr hW2 12 rfl) ?_
            refine w_aload (zat TX2_learnYear_1 22 rfl) rfl ?_
            refine w_bipush (v := -2) (zat TX2_learnYear_1 23 rfl) (by decide) ?_
            refine x_call3 (qX6_tell l (zsI (zsI h2 76 p 0 (bnd (tlP (envR (zsI (zsI (zsI (zsI h 63 0 2 (nI 0)) 63 0 3 (zI h 58 p 0)) 63 0 4 (zI h 58 p 1)) 63 0 5 (oldv (zI h 76 p) 0))) false (pg f)).toInt64 0 1000)) 63 0 5 (oldv (zI h 77 p) 0)) hW2 f (pg f) hC2 true) (by decide) kX6_tell (rdy_V (zat TX2_learnYear_1 24 rfl) kX6_tell pX6_tell zw662 zw663 zw664 (zrc (by decide) (by decide) rfl)) (Nat.le_of_ble_eq_true rfl) rfl rfl (fun v h3 hq => ?_) (fun r h3 hq => by cases hq.1)
            obtain ⟨hq1, hF3⟩ := hq
            cases hq1
            have hg3 : h3.2.2 = h.2.2 := (congrArg Prod.snd hF3.1).trans hg2
            have hW3 : Wc h3 := Wc.same hg3 hW
            have hp3 : p < zC h3 58 := by unfold zC; rw [hg3]; exact hp
            refine w_i2l (zat TX2_learnYear_1 25 rfl) ?_
            refine w_iconst (v := 0) (zat TX2_learnYear_1 26 rfl) (by decide) ?_
            refine w_aload_n (zat TX2_learnYear_1 27 rfl) rfl ?_
            refine y_getI (v := zI h 58 p 1) (zat TX2_learnYear_1 28 rfl) fX2_66 s58 (by decide) (by decide) rfl (show zI h3 58 p 1 = zI h 58 p 1 by rw [hF3.2.1 58 (by decide) (by decide), show zI (zsI (zsI h2 76 p 0 (bnd (tlP (envR (zsI (zsI (zsI (zsI h 63 0 2 (nI 0)) 63 0 3 (zI h 58 p 0)) 63 0 4 (zI h 58 p 1)) 63 0 5 (oldv (zI h 76 p) 0))) false (pg f)).toInt64 0 1000)) 63 0 5 (oldv (zI h 77 p) 0)) 58 = zI h2 58 from rfl, hF1.2.1 58 (by decide) (by decide)]; rfl) ?_
            refine x_callv3 (qX11_bound l _ _ _ _) (by decide) kX11_bound (rdy_SN (zat TX2_learnYear_1 29 rfl) kX11_bound pX11_bound zw699 zw691) (Nat.le_of_ble_eq_true rfl) rfl rfl ?_
            refine x_iastore _ _ (zat TX2_learnYear_1 30 rfl) s77 (by decide) ((hW3.2.2.1.2.2 p hp3).2.2.2.2) (by decide) rfl hy ?_
            refine w_return (zat TX2_learnYear_1 31 rfl) rfl ?_
            have hFa : FrY p 0 h h2 := (((((FrY.rf p 0 h).f _ _).f _ _).f _ _).f _ _).tr hF1.Y
            have hFb : FrY p 0 h h3 := ((hFa.a _).f _ _).tr hF3.Y
            have he1 : tlP (envR (zsI (zsI (zsI (zsI h 63 0 2 (nI 0)) 63 0 3 (zI h 58 p 0)) 63 0 4 (zI h 58 p 1)) 63 0 5 (oldv (zI h 76 p) 0))) false (pg f) = tlP (envY (nI 0) (zI h 58 p 0) (zI h 58 p 1) (oldv (zI h 76 p) 0)) false (pg f) := tlP_congr (fun k hk => by
              rcases (show k = 0 ∨ k = 1 ∨ k = 2 ∨ k = 3 by omega) with e | e | e | e <;> subst e <;> rfl) false (hC f Hf1).2.2.2
            have hz : ∀ j, j ≠ 1 → j ≠ 5 → zI (zsI (zsI h2 76 p 0 (bnd (tlP (envR (zsI (zsI (zsI (zsI h 63 0 2 (nI 0)) 63 0 3 (zI h 58 p 0)) 63 0 4 (zI h 58 p 1)) 63 0 5 (oldv (zI h 76 p) 0))) false (pg f)).toInt64 0 1000)) 63 0 5 (oldv (zI h 77 p) 0)) 63 0 j = zI (zsI (zsI (zsI (zsI h 63 0 2 (nI 0)) 63 0 3 (zI h 58 p 0)) 63 0 4 (zI h 58 p 1)) 63 0 5 (oldv (zI h 76 p) 0)) 63 0 j := fun j h1 h5 => (zI_oth _ 63 0 5 _ h5).trans (hF1.2.2 j h1)
            have he2 : tlP (envR (zsI (zsI h2 76 p 0 (bnd (tlP (envR (zsI (zsI (zsI (zsI h 63 0 2 (nI 0)) 63 0 3 (zI h 58 p 0)) 63 0 4 (zI h 58 p 1)) 63 0 5 (oldv (zI h 76 p) 0))) false (pg f)).toInt64 0 1000)) 63 0 5 (oldv (zI h 77 p) 0))) true (pg f) = tlP (envY (nI 0) (zI h 58 p 0) (zI h 58 p 1) (oldv (zI h 77 p) 0)) true (pg f) := tlP_congr (fun k hk => by
              rcases (show k = 0 ∨ k = 1 ∨ k = 2 ∨ k = 3 by omega) with e | e | e | e <;> subst e
              · exact hz 2 (by decide) (by decide)
              · exact hz 3 (by decide) (by decide)
              · exact hz 4 (by decide) (by decide)
              · exact zI_same _ 63 0 5 _) true (hC f Hf1).2.2.2
            have hpf2 : pf = some (pg f) := by rw [hpf, HF, if_neg (nI_ne2 f (by omega)), nI_clamp (by omega)]
            refine ⟨rfl, hFb.b _, ?_, ?_⟩
            · rw [hpf2]
              show zI h3 76 p 0 = bnd _ 0 1000
              rw [hF3.2.1 76 (by decide) (by decide), ← he1]
              exact zI_same h2 76 p 0 _
            · rw [hpf2]
              refine (zI_same h3 77 p 0 _).trans ?_
              show bnd _ 0 _ = bnd _ 0 _
              rw [he2]
              rfl
          · exact absurd (show nI 0 ≤ 0 by decide) Hc122
        · exact absurd (show nI 0 ≤ 0 by decide) Hc75
      · exact absurd (nI_pos' (by omega)) Hc10
    · skip
      refine Ct.in 2 kX2_learnYear (plainFor_of_name rfl) (Nat.le_of_ble_eq_true rfl) ?_
      refine w_aload_n (zat TX2_learnYear_0 0 rfl) rfl ?_
      refine w_iload_n (zat TX2_learnYear_0 1 rfl) rfl ?_
      refine w_iload_n (zat TX2_learnYear_0 2 rfl) rfl ?_
      refine x_callv3 (qX2_numberInForce l h hW (nI p) (nI (y0 + 1)) nE hE hE2 hE3 hY) (by decide) kX2_numberInForce (rdy_V (zat TX2_learnYear_0 3 rfl) kX2_numberInForce pX2_numberInForce zw661 zw646 zw647 (zrc (by decide) (by decide) rfl)) (Nat.le_of_ble_eq_true rfl) rfl rfl ?_
      rw [HF]
      refine x_istore (ls2 := [_, _, _, _, _, _]) (zat TX2_learnYear_0 4 rfl) (by decide) rfl ?_
      refine w_iload (zat TX2_learnYear_0 5 rfl) rfl ?_
      refine w_if_ge 28 (zat TX2_learnYear_0 6 rfl) (by decide) (fun Hc10 => ?_) (fun Hc10 => ?_)
      · refine w_aload_n (zat TX2_learnYear_0 18 rfl) rfl ?_
        refine w_getR (zat TX2_learnYear_0 19 rfl) fX2_11 s55 (by decide) (by decide) rfl (wcr hW 11 rfl) ?_
        refine w_iload (zat TX2_learnYear_0 20 rfl) rfl ?_
        refine x_aaload _ _ (zat TX2_learnYear_0 21 rfl) (by decide) (by decide) ⟨_, rfl⟩ (wcn hW 3 rfl) (by decide) rfl (by omega) ((hW.2.2.2.2.2.2 f (by omega)).1) ?_
        refine w_getR (zat TX2_learnYear_0 22 rfl) fX2_58 s60 (by decide) (by decide) rfl ((hW.2.2.2.2.2.2 f (by omega)).2) ?_
        refine x_astore (ls2 := [_, _, _, _, _, _]) (zat TX2_learnYear_0 23 rfl) (by decide) rfl ?_
        refine w_aload_n (zat TX2_learnYear_0 24 rfl) rfl ?_
        refine w_getR (zat TX2_learnYear_0 25 rfl) fX2_20 s55 (by decide) (by decide) rfl (wcr hW 12 rfl) ?_
        refine w_iload_n (zat TX2_learnYear_0 26 rfl) rfl ?_
        refine w_putI (zat TX2_learnYear_0 27 rfl) gX2_learnYear_61 s63 (by decide) (by decide) rfl ⟨rfl, rfl⟩ ?_
        refine w_aload_n (zat TX2_learnYear_0 28 rfl) rfl ?_
        refine w_getR (zat TX2_learnYear_0 29 rfl) fX2_20 s55 (by decide) (by decide) rfl (wcr hW 12 rfl) ?_
        refine w_aload_n (zat TX2_learnYear_0 30 rfl) rfl ?_
        refine y_getI (v := zI h 58 p 0) (zat TX2_learnYear_0 31 rfl) fX2_62 s58 (by decide) (by decide) rfl rfl ?_
        refine w_putI (zat TX2_learnYear_0 32 rfl) gX2_learnYear_65 s63 (by decide) (by decide) rfl ⟨rfl, rfl⟩ ?_
        refine w_aload_n (zat TX2_learnYear_0 33 rfl) rfl ?_
        refine w_getR (zat TX2_learnYear_0 34 rfl) fX2_20 s55 (by decide) (by decide) rfl (wcr hW 12 rfl) ?_
        refine w_aload_n (zat TX2_learnYear_0 35 rfl) rfl ?_
        refine y_getI (v := zI h 58 p 1) (zat TX2_learnYear_0 36 rfl) fX2_66 s58 (by decide) (by decide) rfl rfl ?_
        refine w_putI (zat TX2_learnYear_0 37 rfl) gX2_learnYear_69 s63 (by decide) (by decide) rfl ⟨rfl, rfl⟩ ?_
        refine w_aload_n (zat TX2_learnYear_0 38 rfl) rfl ?_
        refine w_getR (zat TX2_learnYear_0 39 rfl) fX2_20 s55 (by decide) (by decide) rfl (wcr hW 12 rfl) ?_
        refine w_iload_n (zat TX2_learnYear_0 40 rfl) rfl ?_
        refine w_if_le 89 (zat TX2_learnYear_0 41 rfl) (by decide) (fun Hc75 => ?_) (fun Hc75 => ?_)
        · exact absurd Hc75 (nI_nle (by omega) (by omega))
        · refine w_aload_n (zat TX2_learnYear_0 42 rfl) rfl ?_
          refine w_getR (zat TX2_learnYear_0 43 rfl) fX2_51 s58 (by decide) (by decide) rfl ((hW.2.2.1.2.2 p hp).2.1) ?_
          refine w_iload_n (zat TX2_learnYear_0 44 rfl) rfl ?_
          refine w_iconst (v := 1) (zat TX2_learnYear_0 45 rfl) (by decide) ?_
          refine w_isub (zat TX2_learnYear_0 46 rfl) ?_
          refine y_iaload y0 _ (v := oldv (zI h 76 p) (y0 + 1)) (zat TX2_learnYear_0 47 rfl) s76 (by decide) ((hW.2.2.1.2.2 p hp).2.2.2.1) (by decide) (nI_pred y0) (by omega) rfl ?_
          refine w_goto 90 (zat TX2_learnYear_0 48 rfl) (by decide) ?_
          refine w_putI (zat TX2_learnYear_0 50 rfl) gX2_learnYear_70 s63 (by decide) (by decide) rfl ⟨rfl, rfl⟩ ?_
          refine w_aload_n (zat TX2_learnYear_0 51 rfl) rfl ?_
          refine w_getR (zat TX2_learnYear_0 52 rfl) fX2_51 s58 (by decide) (by decide) rfl ((hW.2.2.1.2.2 p hp).2.1) ?_
          refine w_iload_n (zat TX2_learnYear_0 53 rfl) rfl ?_
          refine w_aload_n (zat TX2_learnYear_0 54 rfl) rfl ?_
          refine w_getR (zat TX2_learnYear_0 55 rfl) fX2_20 s55 (by decide) (by decide) rfl (wcr hW 12 rfl) ?_
          refine w_aload (zat TX2_learnYear_0 56 rfl) rfl ?_
          refine w_iconst (v := -1) (zat TX2_learnYear_0 57 rfl) (by decide) ?_
          refine x_call3 (qX6_tell l (zsI (zsI (zsI (zsI h 63 0 2 (nI (y0 + 1))) 63 0 3 (zI h 58 p 0)) 63 0 4 (zI h 58 p 1)) 63 0 5 (oldv (zI h 76 p) (y0 + 1))) hW f (pg f) (hC f Hf1) false) (by decide) kX6_tell (rdy_V (zat TX2_learnYear_0 58 rfl) kX6_tell pX6_tell zw662 zw663 zw664 (zrc (by decide) (by decide) rfl)) (Nat.le_of_ble_eq_true rfl) rfl rfl (fun v h2 hq => ?_) (fun r h2 hq => by cases hq.1)
          obtain ⟨hq1, hF1⟩ := hq
          cases hq1
          have hg2 : h2.2.2 = h.2.2 := congrArg Prod.snd hF1.1
          have hW2 : Wc h2 := Wc.same hg2 hW
          have hp2 : p < zC h2 58 := by unfold zC; rw [hg2]; exact hp
          have hC2 : CR h2 f (pg f) := by
            have hc := hC f Hf1
            exact ⟨by rw [← hc.1]; unfold zN; rw [hg2], hc.2.1, fun j w hj => by rw [hF1.2.1 75 (by decide) (by decide)]; exact hc.2.2.1 j w hj, hc.2.2.2⟩
          refine w_i2l (zat TX2_learnYear_0 59 rfl) ?_
          refine w_iconst (v := 0) (zat TX2_learnYear_1 0 rfl) (by decide) ?_
          refine w_sipush (v := 1000) (zat TX2_learnYear_1 1 rfl) (by decide) ?_
          refine x_callv3 (qX11_bound l _ _ _ _) (by decide) kX11_bound (rdy_SN (zat TX2_learnYear_1 2 rfl) kX11_bound pX11_bound zw699 zw691) (Nat.le_of_ble_eq_true rfl) rfl rfl ?_
          refine x_iastore _ _ (zat TX2_learnYear_1 3 rfl) s76 (by decide) ((hW2.2.2.1.2.2 p hp2).2.2.2.1) (by decide) rfl hy ?_
          refine w_aload_n (zat TX2_learnYear_1 4 rfl) rfl ?_
          refine w_getR (zat TX2_learnYear_1 5 rfl) fX2_20 s55 (by decide) (by decide) rfl (wcr hW2 12 rfl) ?_
          refine w_iload_n (zat TX2_learnYear_1 6 rfl) rfl ?_
          refine w_if_le 136 (zat TX2_learnYear_1 7 rfl) (by decide) (fun Hc122 => ?_) (fun Hc122 => ?_)
          · exact absurd Hc122 (nI_nle (by omega) (by omega))
          · refine w_aload_n (zat TX2_learnYear_1 8 rfl) rfl ?_
            refine w_getR (zat TX2_learnYear_1 9 rfl) fX2_55 s58 (by decide) (by decide) rfl ((hW2.2.2.1.2.2 p hp2).2.2.1) ?_
            refine w_iload_n (zat TX2_learnYear_1 10 rfl) rfl ?_
            refine w_iconst (v := 1) (zat TX2_learnYear_1 11 rfl) (by decide) ?_
            refine w_isub (zat TX2_learnYear_1 12 rfl) ?_
            refine y_iaload y0 _ (v := oldv (zI h 77 p) (y0 + 1)) (zat TX2_learnYear_1 13 rfl) s77 (by decide) ((hW2.2.2.1.2.2 p hp2).2.2.2.2) (by decide) (nI_pred y0) (by omega) (show zI h2 77 p y0 = zI h 77 p y0 by rw [hF1.2.1 77 (by decide) (by decide)]; rfl) ?_
            refine w_goto 137 (zat TX2_learnYear_1 14 rfl) (by decide) ?_
            refine w_putI (zat TX2_learnYear_1 16 rfl) gX2_learnYear_70 s63 (by decide) (by decide) rfl ⟨rfl, rfl⟩ ?_
            refine w_aload_n (zat TX2_learnYear_1 17 rfl) rfl ?_
            refine w_getR (zat TX2_learnYear_1 18 rfl) fX2_55 s58 (by decide) (by decide) rfl ((hW2.2.2.1.2.2 p hp2).2.2.1) ?_
            refine w_iload_n (zat TX2_learnYear_1 19 rfl) rfl ?_
            refine w_aload_n (zat TX2_learnYear_1 20 rfl) rfl ?_
            refine w_getR (zat TX2_learnYear_1 21 rfl) fX2_20 s55 (by decide) (by decide) rfl (wcr hW2 12 rfl) ?_
            refine w_aload (zat TX2_learnYear_1 22 rfl) rfl ?_
            refine w_bipush (v := -2) (zat TX2_learnYear_1 23 rfl) (by decide) ?_
            refine x_call3 (qX6_tell l (zsI (zsI h2 76 p (y0 + 1) (bnd (tlP (envR (zsI (zsI (zsI (zsI h 63 0 2 (nI (y0 + 1))) 63 0 3 (zI h 58 p 0)) 63 0 4 (zI h 58 p 1)) 63 0 5 (oldv (zI h 76 p) (y0 + 1)))) false (pg f)).toInt64 0 1000)) 63 0 5 (oldv (zI h 77 p) (y0 + 1))) hW2 f (pg f) hC2 true) (by decide) kX6_tell (rdy_V (zat TX2_learnYear_1 24 rfl) kX6_tell pX6_tell zw662 zw663 zw664 (zrc (by decide) (by decide) rfl)) (Nat.le_of_ble_eq_true rfl) rfl rfl (fun v h3 hq => ?_) (fun r h3 hq => by cases hq.1)
            obtain ⟨hq1, hF3⟩ := hq
            cases hq1
            have hg3 : h3.2.2 = h.2.2 := (congrArg Prod.snd hF3.1).trans hg2
            have hW3 : Wc h3 := Wc.same hg3 hW
            have hp3 : p < zC h3 58 := by unfold zC; rw [hg3]; exact hp
            refine w_i2l (zat TX2_learnYear_1 25 rfl) ?_
            refine w_iconst (v := 0) (zat TX2_learnYear_1 26 rfl) (by decide) ?_
            refine w_aload_n (zat TX2_learnYear_1 27 rfl) rfl ?_
            refine y_getI (v := zI h 58 p 1) (zat TX2_learnYear_1 28 rfl) fX2_66 s58 (by decide) (by decide) rfl (show zI h3 58 p 1 = zI h 58 p 1 by rw [hF3.2.1 58 (by decide) (by decide), show zI (zsI (zsI h2 76 p (y0 + 1) (bnd (tlP (envR (zsI (zsI (zsI (zsI h 63 0 2 (nI (y0 + 1))) 63 0 3 (zI h 58 p 0)) 63 0 4 (zI h 58 p 1)) 63 0 5 (oldv (zI h 76 p) (y0 + 1)))) false (pg f)).toInt64 0 1000)) 63 0 5 (oldv (zI h 77 p) (y0 + 1))) 58 = zI h2 58 from rfl, hF1.2.1 58 (by decide) (by decide)]; rfl) ?_
            refine x_callv3 (qX11_bound l _ _ _ _) (by decide) kX11_bound (rdy_SN (zat TX2_learnYear_1 29 rfl) kX11_bound pX11_bound zw699 zw691) (Nat.le_of_ble_eq_true rfl) rfl rfl ?_
            refine x_iastore _ _ (zat TX2_learnYear_1 30 rfl) s77 (by decide) ((hW3.2.2.1.2.2 p hp3).2.2.2.2) (by decide) rfl hy ?_
            refine w_return (zat TX2_learnYear_1 31 rfl) rfl ?_
            have hFa : FrY p (y0 + 1) h h2 := (((((FrY.rf p (y0 + 1) h).f _ _).f _ _).f _ _).f _ _).tr hF1.Y
            have hFb : FrY p (y0 + 1) h h3 := ((hFa.a _).f _ _).tr hF3.Y
            have he1 : tlP (envR (zsI (zsI (zsI (zsI h 63 0 2 (nI (y0 + 1))) 63 0 3 (zI h 58 p 0)) 63 0 4 (zI h 58 p 1)) 63 0 5 (oldv (zI h 76 p) (y0 + 1)))) false (pg f) = tlP (envY (nI (y0 + 1)) (zI h 58 p 0) (zI h 58 p 1) (oldv (zI h 76 p) (y0 + 1))) false (pg f) := tlP_congr (fun k hk => by
              rcases (show k = 0 ∨ k = 1 ∨ k = 2 ∨ k = 3 by omega) with e | e | e | e <;> subst e <;> rfl) false (hC f Hf1).2.2.2
            have hz : ∀ j, j ≠ 1 → j ≠ 5 → zI (zsI (zsI h2 76 p (y0 + 1) (bnd (tlP (envR (zsI (zsI (zsI (zsI h 63 0 2 (nI (y0 + 1))) 63 0 3 (zI h 58 p 0)) 63 0 4 (zI h 58 p 1)) 63 0 5 (oldv (zI h 76 p) (y0 + 1)))) false (pg f)).toInt64 0 1000)) 63 0 5 (oldv (zI h 77 p) (y0 + 1))) 63 0 j = zI (zsI (zsI (zsI (zsI h 63 0 2 (nI (y0 + 1))) 63 0 3 (zI h 58 p 0)) 63 0 4 (zI h 58 p 1)) 63 0 5 (oldv (zI h 76 p) (y0 + 1))) 63 0 j := fun j h1 h5 => (zI_oth _ 63 0 5 _ h5).trans (hF1.2.2 j h1)
            have he2 : tlP (envR (zsI (zsI h2 76 p (y0 + 1) (bnd (tlP (envR (zsI (zsI (zsI (zsI h 63 0 2 (nI (y0 + 1))) 63 0 3 (zI h 58 p 0)) 63 0 4 (zI h 58 p 1)) 63 0 5 (oldv (zI h 76 p) (y0 + 1)))) false (pg f)).toInt64 0 1000)) 63 0 5 (oldv (zI h 77 p) (y0 + 1)))) true (pg f) = tlP (envY (nI (y0 + 1)) (zI h 58 p 0) (zI h 58 p 1) (oldv (zI h 77 p) (y0 + 1))) true (pg f) := tlP_congr (fun k hk => by
              rcases (show k = 0 ∨ k = 1 ∨ k = 2 ∨ k = 3 by omega) with e | e | e | e <;> subst e
              · exact hz 2 (by decide) (by decide)
              · exact hz 3 (by decide) (by decide)
              · exact hz 4 (by decide) (by decide)
              · exact zI_same _ 63 0 5 _) true (hC f Hf1).2.2.2
            have hpf2 : pf = some (pg f) := by rw [hpf, HF, if_neg (nI_ne2 f (by omega)), nI_clamp (by omega)]
            refine ⟨rfl, hFb.b _, ?_, ?_⟩
            · rw [hpf2]
              show zI h3 76 p (y0 + 1) = bnd _ 0 1000
              rw [hF3.2.1 76 (by decide) (by decide), ← he1]
              exact zI_same h2 76 p (y0 + 1) _
            · rw [hpf2]
              refine (zI_same h3 77 p (y0 + 1) _).trans ?_
              show bnd _ 0 _ = bnd _ 0 _
              rw [he2]
              rfl
      · exact absurd (nI_pos' (by omega)) Hc10
