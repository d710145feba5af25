-- feed, force of the model, by program (wip/gen/p23.py)
/-- the number that the k-th byte comes of -/
def fSel (a b c d e : Int32) (k : Nat) : Int32 := if k < 4 then a else if k < 8 then b else if k < 12 then c else if k < 16 then d else e
def fByt (a b c d e : Int32) (k : Nat) : Int32 := (fSel a b c d e k >>> ((24 - 8 * (nI k - nI k / 4 * 4)) &&& 31)).toInt8.toInt32
/-- the tape with k bytes more -/
def fH (h : zH) (n : Nat) (a b c d e : Int32) : Nat → zH
  | 0 => h
  | k + 1 => zsI (zsI (fH h n a b c d e k) 19 0 (n + k) (vp_nar .byte (fByt a b c d e k))) 1 0 19 (nI (n + (k + 1)))
theorem fH_g (h : zH) (n : Nat) (a b c d e : Int32) : ∀ k, (fH h n a b c d e k).2 = h.2
  | 0 => rfl
  | k + 1 => fH_g h n a b c d e k
theorem fH_t {h : zH} {n : Nat} (hT : zI h 1 0 19 = nI n) (a b c d e : Int32) : ∀ k, zI (fH h n a b c d e k) 1 0 19 = nI (n + k)
  | 0 => hT
  | _ + 1 => zI_same _ 1 0 19 _
theorem lit_le (m k : Nat) (hm : m < 2 ^ 31) (hk : k < 2 ^ 31) : (OfNat.ofNat m : Int32) ≤ nI k ↔ m ≤ k := nI_leI hm hk
theorem lX14_feed (l : Launch) (h : zH) (hWM : Wm h) (a b c d e : Int32) (n : Nat) (hT : zI h 1 0 19 = nI n) (hn : n + 20 ≤ 300) : ∀ kk k : Nat, k + kk = 20 → ∀ x : Option zV, Wp l mX14_feed 1 23 [some (Vq (some (1, 0))), some (Vi a), some (Vi b), some (Vi c), some (Vi d), some (Vi e), some (Vi (nI k)), x] [] (fH h n a b c d e k) (fun o h' => o = Rv (Vi (nI (n + 20))) ∧ h' = fH h n a b c d e 20) := by
  intro kk
  induction kk with
  | zero =>
    intro k hk x
    refine w_iload (zat TX14_feed_0 13 rfl) rfl ?_
    refine w_bipush (v := 20) (zat TX14_feed_0 14 rfl) (by decide) ?_
    refine w_icmp_ge 117 (zat TX14_feed_0 15 rfl) (by decide) (fun Hc27 => ?_) (fun Hc27 => ?_)
    · refine w_aload_n (zat TX14_feed_1 1 rfl) rfl ?_
      refine y_getI (v := nI (n + k)) (zat TX14_feed_1 2 rfl) fX14_263 s1 (by decide) (by decide) rfl (fH_t hT a b c d e k) ?_
      refine w_ireturn (zat TX14_feed_1 3 rfl) rfl rfl ?_
      have e1 : k = 20 := by omega
      subst e1
      exact ⟨rfl, rfl⟩
    · exact absurd (show ((20 : Int32)) ≤ nI k from nI_le (a := 20) (b := k) (by omega) (by omega)) Hc27
  | succ kk ih =>
    intro k hk x
    have hWF : Wm (fH h n a b c d e k) := Wm.same (congrArg Prod.snd (fH_g h n a b c d e k)) hWM
    have HT := fH_t hT a b c d e k
    have HB : ∀ v : Int32, v = fSel a b c d e k → Wp l mX14_feed 1 76 [some (Vq (some (1, 0))), some (Vi a), some (Vi b), some (Vi c), some (Vi d), some (Vi e), some (Vi (nI k)), x] [Vi v] (fH h n a b c d e k) (fun o h' => o = Rv (Vi (nI (n + 20))) ∧ h' = fH h n a b c d e 20) := by
      intro v Hs
      refine x_istore (ls2 := [_, _, _, _, _, _, _, _]) (zat TX14_feed_0 37 rfl) (by decide) rfl ?_
      refine w_aload_n (zat TX14_feed_0 38 rfl) rfl ?_
      refine w_getR (zat TX14_feed_0 39 rfl) fX14_53 s1 (by decide) (by decide) rfl (wmr hWF 8 rfl) ?_
      refine w_aload_n (zat TX14_feed_0 40 rfl) rfl ?_
      refine y_getI (v := nI (n + k)) (zat TX14_feed_0 41 rfl) fX14_263 s1 (by decide) (by decide) rfl HT ?_
      refine w_iload (zat TX14_feed_0 42 rfl) rfl ?_
      refine w_bipush (v := 24) (zat TX14_feed_0 43 rfl) (by decide) ?_
      refine w_bipush (v := 8) (zat TX14_feed_0 44 rfl) (by decide) ?_
      refine w_iload (zat TX14_feed_0 45 rfl) rfl ?_
      refine w_iconst (v := 4) (zat TX14_feed_0 46 rfl) (by decide) ?_
      refine w_irem (zat TX14_feed_0 47 rfl) (by decide) ?_
      refine w_imul (zat TX14_feed_0 48 rfl) ?_
      refine w_isub (zat TX14_feed_0 49 rfl) ?_
      refine w_ishr (zat TX14_feed_0 50 rfl) ?_
      refine w_i2b (zat TX14_feed_0 51 rfl) ?_
      subst Hs
      refine x_bastore (n + k) _ (zat TX14_feed_0 52 rfl) s19 (by decide) (wmn hWF 7 rfl) (by decide) rfl (by omega) ?_
      refine w_aload_n (zat TX14_feed_0 53 rfl) rfl ?_
      refine w_dup (zat TX14_feed_0 54 rfl) rfl ?_
      refine y_getI (v := nI (n + k)) (zat TX14_feed_0 55 rfl) fX14_263 s1 (by decide) (by decide) rfl HT ?_
      refine w_iconst (v := 1) (zat TX14_feed_0 56 rfl) (by decide) ?_
      refine w_iadd (zat TX14_feed_0 57 rfl) ?_
      rw [nI_1, show n + k + 1 = n + (k + 1) by omega]
      refine w_putI (zat TX14_feed_0 58 rfl) gX14_feed_263 s1 (by decide) (by decide) rfl ⟨rfl, rfl⟩ ?_
      refine x_iinc (v := nI (k + 1)) (ls2 := [_, _, _, _, _, _, _, _]) (zat TX14_feed_0 59 rfl) rfl (nI_inc k) rfl ?_
      refine w_goto 23 (zat TX14_feed_1 0 rfl) (by decide) ?_
      exact ih (k + 1) (by omega) _
    refine w_iload (zat TX14_feed_0 13 rfl) rfl ?_
    refine w_bipush (v := 20) (zat TX14_feed_0 14 rfl) (by decide) ?_
    refine w_icmp_ge 117 (zat TX14_feed_0 15 rfl) (by decide) (fun Hc27 => ?_) (fun Hc27 => ?_)
    · exact absurd Hc27 (show ¬ ((20 : Int32)) ≤ nI k from nI_ge (a := k) (b := 20) (by omega) (by decide))
    · refine w_iload (zat TX14_feed_0 16 rfl) rfl ?_
      refine w_iconst (v := 4) (zat TX14_feed_0 17 rfl) (by decide) ?_
      refine w_icmp_ge 40 (zat TX14_feed_0 18 rfl) (by decide) (fun Hc33 => ?_) (fun Hc33 => ?_)
      · rw [show (((4 : Int32)) ≤ nI k) = (nI 4 ≤ nI k) from rfl, nI_leI (by decide) (by omega)] at Hc33
        refine w_iload (zat TX14_feed_0 21 rfl) rfl ?_
        refine w_bipush (v := 8) (zat TX14_feed_0 22 rfl) (by decide) ?_
        refine w_icmp_ge 51 (zat TX14_feed_0 23 rfl) (by decide) (fun Hc44 => ?_) (fun Hc44 => ?_)
        · rw [show (((8 : Int32)) ≤ nI k) = (nI 8 ≤ nI k) from rfl, nI_leI (by decide) (by omega)] at Hc44
          refine w_iload (zat TX14_feed_0 26 rfl) rfl ?_
          refine w_bipush (v := 12) (zat TX14_feed_0 27 rfl) (by decide) ?_
          refine w_icmp_ge 62 (zat TX14_feed_0 28 rfl) (by decide) (fun Hc55 => ?_) (fun Hc55 => ?_)
          · rw [show (((12 : Int32)) ≤ nI k) = (nI 12 ≤ nI k) from rfl, nI_leI (by decide) (by omega)] at Hc55
            refine w_iload (zat TX14_feed_0 31 rfl) rfl ?_
            refine w_bipush (v := 16) (zat TX14_feed_0 32 rfl) (by decide) ?_
            refine w_icmp_ge 74 (zat TX14_feed_0 33 rfl) (by decide) (fun Hc66 => ?_) (fun Hc66 => ?_)
            · rw [show (((16 : Int32)) ≤ nI k) = (nI 16 ≤ nI k) from rfl, nI_leI (by decide) (by omega)] at Hc66
              have Hs : e = fSel a b c d e k := by rw [fSel, if_neg (by omega), if_neg (by omega), if_neg (by omega), if_neg (by omega)]
              refine w_iload (zat TX14_feed_0 36 rfl) rfl ?_
              exact HB _ Hs
            · rw [show (((16 : Int32)) ≤ nI k) = (nI 16 ≤ nI k) from rfl, nI_leI (by decide) (by omega)] at Hc66
              refine w_iload (zat TX14_feed_0 34 rfl) rfl ?_
              have Hs : d = fSel a b c d e k := by rw [fSel, if_neg (by omega), if_neg (by omega), if_neg (by omega), if_pos (by omega)]
              refine w_goto 76 (zat TX14_feed_0 35 rfl) (by decide) ?_
              exact HB _ Hs
          · rw [show (((12 : Int32)) ≤ nI k) = (nI 12 ≤ nI k) from rfl, nI_leI (by decide) (by omega)] at Hc55
            refine w_iload_n (zat TX14_feed_0 29 rfl) rfl ?_
            have Hs : c = fSel a b c d e k := by rw [fSel, if_neg (by omega), if_neg (by omega), if_pos (by omega)]
            refine w_goto 76 (zat TX14_feed_0 30 rfl) (by decide) ?_
            exact HB _ Hs
        · rw [show (((8 : Int32)) ≤ nI k) = (nI 8 ≤ nI k) from rfl, nI_leI (by decide) (by omega)] at Hc44
          refine w_iload_n (zat TX14_feed_0 24 rfl) rfl ?_
          have Hs : b = fSel a b c d e k := by rw [fSel, if_neg (by omega), if_pos (by omega)]
          refine w_goto 76 (zat TX14_feed_0 25 rfl) (by decide) ?_
          exact HB _ Hs
      · rw [show (((4 : Int32)) ≤ nI k) = (nI 4 ≤ nI k) from rfl, nI_leI (by decide) (by omega)] at Hc33
        refine w_iload_n (zat TX14_feed_0 19 rfl) rfl ?_
        have Hs : a = fSel a b c d e k := by rw [fSel, if_pos (by omega)]
        refine w_goto 76 (zat TX14_feed_0 20 rfl) (by decide) ?_
        exact HB _ Hs
def mFeed (h : zH) (n : Nat) (a b c d e : Int32) : Int32 × zH := if n + 20 ≤ 300 then (nI (n + 20), fH (zsI h 1 0 0 0) n a b c d e 20) else (-1, (zsI h 1 0 0 0))
theorem qX14_feed (l : Launch) (h : zH) (hWM : Wm h) (a b c d e : Int32) (n : Nat) (hT : zI h 1 0 19 = nI n) (hn : n ≤ 300) : Cx l 1 mX14_feed [Vq (some (1, 0)), Vi a, Vi b, Vi c, Vi d, Vi e] h (Rv (Vi (mFeed h n a b c d e).1)) (mFeed h n a b c d e).2 := by
  refine Ct.in 2 kX14_feed (plainFor_of_name rfl) (Nat.le_of_ble_eq_true rfl) ?_
  refine w_aload_n (zat TX14_feed_0 0 rfl) rfl ?_
  refine w_iconst (v := 0) (zat TX14_feed_0 1 rfl) (by decide) ?_
  refine w_putI (zat TX14_feed_0 2 rfl) gX14_feed_100 s1 (by decide) (by decide) rfl ⟨rfl, rfl⟩ ?_
  refine w_aload_n (zat TX14_feed_0 3 rfl) rfl ?_
  refine y_getI (v := nI n) (zat TX14_feed_0 4 rfl) fX14_263 s1 (by decide) (by decide) rfl hT ?_
  refine w_bipush (v := 20) (zat TX14_feed_0 5 rfl) (by decide) ?_
  refine w_iadd (zat TX14_feed_0 6 rfl) ?_
  refine w_sipush (v := 300) (zat TX14_feed_0 7 rfl) (by decide) ?_
  rw [show nI n + 20 = nI (n + 20) from nI_add n 20, show ((300 : Int32)) = nI 300 from rfl]
  refine w_icmp_le 20 (zat TX14_feed_0 8 rfl) (by decide) (fun Hc15 => ?_) (fun Hc15 => ?_)
  · rw [nI_leI (by omega) (by decide)] at Hc15
    rw [mFeed, if_pos Hc15]
    refine w_iconst (v := 0) (zat TX14_feed_0 11 rfl) (by decide) ?_
    refine x_istore (ls2 := [_, _, _, _, _, _, _, _]) (zat TX14_feed_0 12 rfl) (by decide) rfl ?_
    exact lX14_feed l (zsI h 1 0 0 0) hWM a b c d e n hT Hc15 20 0 (by omega) _
  · rw [nI_leI (by omega) (by decide)] at Hc15
    rw [mFeed, if_neg Hc15]
    refine w_iconst (v := -1) (zat TX14_feed_0 9 rfl) (by decide) ?_
    refine w_ireturn (zat TX14_feed_0 10 rfl) rfl rfl ?_
    exact ⟨rfl, rfl⟩
/-- the edict in force among the first e -/
def mF (eP eY : Nat → Int32) (p y : Int32) : Nat → Int32
  | 0 => -2
  | e + 1 => if eP e = p ∧ eY e ≤ y ∧ (mF eP eY p y e = -2 ∨ eY (mF eP eY p y e).toNatClampNeg ≤ eY e) then nI e else mF eP eY p y e
theorem mF_ix (eP eY : Nat → Int32) (p y : Int32) : ∀ s, s < 1000 → mF eP eY p y s = -2 ∨ ∃ j, j < s ∧ mF eP eY p y s = nI j
  | 0, _ => Or.inl rfl
  | s + 1, h => by
    unfold mF
    split
    · exact Or.inr ⟨s, Nat.lt_succ_self s, rfl⟩
    · rcases mF_ix eP eY p y s (by omega) with q | ⟨j, h1, h2⟩
      · exact Or.inl q
      · exact Or.inr ⟨j, by omega, h2⟩
def eP (h : zH) (e : Nat) : Int32 := zI h 17 e 0
def eY (h : zH) (e : Nat) : Int32 := zI h 17 e 1
theorem lX14_forceOf (l : Launch) (h : zH) (hWM : Wm h) (p y : Int32) (nE : Nat) (hE : zI h 1 0 14 = nI nE) (hE2 : nE ≤ 30) (hE3 : zC h 17 = nE + 1) : ∀ kk s : Nat, s + kk = nE → Wp l mX14_forceOf 1 6 [some (Vq (some (1, 0))), some (Vi p), some (Vi y), some (Vi (mF (eP h) (eY h) p y s)), some (Vi (nI s))] [] h (fun o h' => o = Rv (Vi (mF (eP h) (eY h) p y nE)) ∧ h' = h) := by
  intro kk
  induction kk with
  | zero =>
    intro s hs
    refine w_iload (zat TX14_forceOf 4 rfl) rfl ?_
    refine w_aload_n (zat TX14_forceOf 5 rfl) rfl ?_
    refine y_getI (v := nI nE) (zat TX14_forceOf 6 rfl) fX14_272 s1 (by decide) (by decide) rfl hE ?_
    refine w_icmp_ge 80 (zat TX14_forceOf 7 rfl) (by decide) (fun Hc12 => ?_) (fun Hc12 => ?_)
    · refine w_iload_n (zat TX14_forceOf 40 rfl) rfl ?_
      refine w_ireturn (zat TX14_forceOf 41 rfl) rfl rfl ?_
      exact ⟨by rw [show s = nE by omega], rfl⟩
    · exact absurd (nI_le (by omega) (by omega)) Hc12
  | succ kk ih =>
    intro s hs
    refine w_iload (zat TX14_forceOf 4 rfl) rfl ?_
    refine w_aload_n (zat TX14_forceOf 5 rfl) rfl ?_
    refine y_getI (v := nI nE) (zat TX14_forceOf 6 rfl) fX14_272 s1 (by decide) (by decide) rfl hE ?_
    refine w_icmp_ge 80 (zat TX14_forceOf 7 rfl) (by decide) (fun Hc12 => ?_) (fun Hc12 => ?_)
    · exact absurd Hc12 (nI_ge (by omega) (by omega))
    · refine w_aload_n (zat TX14_forceOf 8 rfl) rfl ?_
      refine w_getR (zat TX14_forceOf 9 rfl) fX14_37 s1 (by decide) (by decide) rfl (wmr hWM 6 rfl) ?_
      refine w_iload (zat TX14_forceOf 10 rfl) rfl ?_
      refine x_aaload _ _ (zat TX14_forceOf 11 rfl) (by decide) (by decide) ⟨_, rfl⟩ (wmn hWM 6 rfl) (by decide) rfl (by omega) (hWM.2.2.1.2.2 s (by omega)) ?_
      refine y_getI (v := eP h s) (zat TX14_forceOf 12 rfl) fX14_275 s17 (by decide) (by decide) rfl rfl ?_
      refine w_iload_n (zat TX14_forceOf 13 rfl) rfl ?_
      refine w_icmp_ne 74 (zat TX14_forceOf 14 rfl) (by decide) (fun Hc26 => ?_) (fun Hc26 => ?_)
      · have Hm : mF (eP h) (eY h) p y (s + 1) = mF (eP h) (eY h) p y s := by rw [mF, if_neg (fun q => Hc26 q.1)]
        refine x_iinc (v := nI (s + 1)) (ls2 := [_, _, _, _, _]) (zat TX14_forceOf 38 rfl) rfl (nI_inc s) rfl ?_
        refine w_goto 6 (zat TX14_forceOf 39 rfl) (by decide) ?_
        have Hi := ih (s + 1) (by omega)
        rw [Hm] at Hi
        exact Hi
      · refine w_aload_n (zat TX14_forceOf 15 rfl) rfl ?_
        refine w_getR (zat TX14_forceOf 16 rfl) fX14_37 s1 (by decide) (by decide) rfl (wmr hWM 6 rfl) ?_
        refine w_iload (zat TX14_forceOf 17 rfl) rfl ?_
        refine x_aaload _ _ (zat TX14_forceOf 18 rfl) (by decide) (by decide) ⟨_, rfl⟩ (wmn hWM 6 rfl) (by decide) rfl (by omega) (hWM.2.2.1.2.2 s (by omega)) ?_
        refine y_getI (v := eY h s) (zat TX14_forceOf 19 rfl) fX14_278 s17 (by decide) (by decide) rfl rfl ?_
        refine w_iload_n (zat TX14_forceOf 20 rfl) rfl ?_
        refine w_icmp_gt 74 (zat TX14_forceOf 21 rfl) (by decide) (fun Hc40 => ?_) (fun Hc40 => ?_)
        · have Hm : mF (eP h) (eY h) p y (s + 1) = mF (eP h) (eY h) p y s := by rw [mF, if_neg (fun q => Int32.not_lt.mpr q.2.1 Hc40)]
          refine x_iinc (v := nI (s + 1)) (ls2 := [_, _, _, _, _]) (zat TX14_forceOf 38 rfl) rfl (nI_inc s) rfl ?_
          refine w_goto 6 (zat TX14_forceOf 39 rfl) (by decide) ?_
          have Hi := ih (s + 1) (by omega)
          rw [Hm] at Hi
          exact Hi
        · rw [Int32.not_lt] at Hc40
          refine w_iload_n (zat TX14_forceOf 22 rfl) rfl ?_
          refine w_bipush (v := -2) (zat TX14_forceOf 23 rfl) (by decide) ?_
          refine w_icmp_eq 71 (zat TX14_forceOf 24 rfl) (by decide) (fun Hc46 => ?_) (fun Hc46 => ?_)
          · have Hm : mF (eP h) (eY h) p y (s + 1) = nI s := by rw [mF, if_pos ⟨Hc26, Hc40, Or.inl Hc46⟩]
            refine w_iload (zat TX14_forceOf 36 rfl) rfl ?_
            refine x_istore_n (ls2 := [_, _, _, _, _]) (zat TX14_forceOf 37 rfl) (by decide) rfl ?_
            refine x_iinc (v := nI (s + 1)) (ls2 := [_, _, _, _, _]) (zat TX14_forceOf 38 rfl) rfl (nI_inc s) rfl ?_
            refine w_goto 6 (zat TX14_forceOf 39 rfl) (by decide) ?_
            have Hi := ih (s + 1) (by omega)
            rw [Hm] at Hi
            exact Hi
          · obtain ⟨j, Hj1, Hj2⟩ := (mF_ix (eP h) (eY h) p y s (by omega)).resolve_left Hc46
            refine w_aload_n (zat TX14_forceOf 25 rfl) rfl ?_
            refine w_getR (zat TX14_forceOf 26 rfl) fX14_37 s1 (by decide) (by decide) rfl (wmr hWM 6 rfl) ?_
            refine w_iload (zat TX14_forceOf 27 rfl) rfl ?_
            refine x_aaload _ _ (zat TX14_forceOf 28 rfl) (by decide) (by decide) ⟨_, rfl⟩ (wmn hWM 6 rfl) (by decide) rfl (by omega) (hWM.2.2.1.2.2 s (by omega)) ?_
            refine y_getI (v := eY h s) (zat TX14_forceOf 29 rfl) fX14_278 s17 (by decide) (by decide) rfl rfl ?_
            refine w_aload_n (zat TX14_forceOf 30 rfl) rfl ?_
            refine w_getR (zat TX14_forceOf 31 rfl) fX14_37 s1 (by decide) (by decide) rfl (wmr hWM 6 rfl) ?_
            refine w_iload_n (zat TX14_forceOf 32 rfl) rfl ?_
            refine x_aaload j _ (zat TX14_forceOf 33 rfl) (by decide) (by decide) ⟨_, rfl⟩ (wmn hWM 6 rfl) (by decide) Hj2 (by omega) (hWM.2.2.1.2.2 j (by omega)) ?_
            refine y_getI (v := eY h j) (zat TX14_forceOf 34 rfl) fX14_278 s17 (by decide) (by decide) rfl rfl ?_
            refine w_icmp_lt 74 (zat TX14_forceOf 35 rfl) (by decide) (fun Hc68 => ?_) (fun Hc68 => ?_)
            · have Hm : mF (eP h) (eY h) p y (s + 1) = mF (eP h) (eY h) p y s := by rw [mF, if_neg (fun q => q.2.2.elim Hc46 (fun z => by rw [Hj2, nI_clamp (by omega)] at z; exact Int32.not_lt.mpr z Hc68))]
              refine x_iinc (v := nI (s + 1)) (ls2 := [_, _, _, _, _]) (zat TX14_forceOf 38 rfl) rfl (nI_inc s) rfl ?_
              refine w_goto 6 (zat TX14_forceOf 39 rfl) (by decide) ?_
              have Hi := ih (s + 1) (by omega)
              rw [Hm] at Hi
              exact Hi
            · rw [Int32.not_lt] at Hc68
              have Hm : mF (eP h) (eY h) p y (s + 1) = nI s := by rw [mF, if_pos ⟨Hc26, Hc40, Or.inr (by rw [Hj2, nI_clamp (by omega)]; exact Hc68)⟩]
              refine w_iload (zat TX14_forceOf 36 rfl) rfl ?_
              refine x_istore_n (ls2 := [_, _, _, _, _]) (zat TX14_forceOf 37 rfl) (by decide) rfl ?_
              refine x_iinc (v := nI (s + 1)) (ls2 := [_, _, _, _, _]) (zat TX14_forceOf 38 rfl) rfl (nI_inc s) rfl ?_
              refine w_goto 6 (zat TX14_forceOf 39 rfl) (by decide) ?_
              have Hi := ih (s + 1) (by omega)
              rw [Hm] at Hi
              exact Hi
theorem qX14_forceOf (l : Launch) (h : zH) (hWM : Wm h) (p y : Int32) (nE : Nat) (hE : zI h 1 0 14 = nI nE) (hE2 : nE ≤ 30) (hE3 : zC h 17 = nE + 1) : Cx l 1 mX14_forceOf [Vq (some (1, 0)), Vi p, Vi y] h (Rv (Vi (mF (eP h) (eY h) p y nE))) h := by
  refine Ct.in 2 kX14_forceOf (plainFor_of_name rfl) (Nat.le_of_ble_eq_true rfl) ?_
  refine w_bipush (v := -2) (zat TX14_forceOf 0 rfl) (by decide) ?_
  refine x_istore_n (ls2 := [_, _, _, _, _]) (zat TX14_forceOf 1 rfl) (by decide) rfl ?_
  refine w_iconst (v := 0) (zat TX14_forceOf 2 rfl) (by decide) ?_
  refine x_istore (ls2 := [_, _, _, _, _]) (zat TX14_forceOf 3 rfl) (by decide) rfl ?_
  exact lX14_forceOf l h hWM p y nE hE hE2 hE3 nE 0 (by omega)
def mForce (h : zH) (nP nE : Nat) (p y : Int32) : Int32 := if (0 ≤ p ∧ p < nI nP) ∧ (0 ≤ y ∧ y ≤ 99) then mF (eP h) (eY h) p y nE else -1
theorem qX14_force (l : Launch) (h : zH) (hWM : Wm h) (p y : Int32) (nP : Nat) (hP : zI h 1 0 4 = nI nP) (hP2 : nP ≤ 10) (nE : Nat) (hE : zI h 1 0 14 = nI nE) (hE2 : nE ≤ 30) (hE3 : zC h 17 = nE + 1) : Cx l 2 mX14_force [Vq (some (1, 0)), Vi p, Vi y] h (Rv (Vi (mForce h nP nE p y))) (zsI h 1 0 0 0) := by
  refine Ct.in 0 kX14_force (plainFor_of_name rfl) (Nat.le_of_ble_eq_true rfl) ?_
  refine w_aload_n (zat TX14_force 0 rfl) rfl ?_
  refine w_iconst (v := 0) (zat TX14_force 1 rfl) (by decide) ?_
  refine w_putI (zat TX14_force 2 rfl) gX14_force_100 s1 (by decide) (by decide) rfl ⟨rfl, rfl⟩ ?_
  refine w_aload_n (zat TX14_force 3 rfl) rfl ?_
  refine w_iload_n (zat TX14_force 4 rfl) rfl ?_
  refine x_callv2 (qX14_isProvince l _ _ nP hP) (by decide) kX14_isProvince (rdy_V (zat TX14_force 5 rfl) kX14_isProvince pX14_isProvince zw1200 zw1202 zw33 (zrc (by decide) (by decide) rfl)) (Nat.le_of_ble_eq_true rfl) rfl rfl ?_
  refine w_if_eq 32 (zat TX14_force 6 rfl) (by decide) (fun Hc10 => ?_) (fun Hc10 => ?_)
  · refine w_iconst (v := -1) (zat TX14_force 17 rfl) (by decide) ?_
    refine w_ireturn (zat TX14_force 18 rfl) rfl rfl ?_
    try simp only [zb_0, Decidable.not_not] at Hc10
    exact ⟨by simp only [mForce, Hc10, if_true, if_false, and_self, not_true_eq_false, not_false_eq_true, and_false, false_and, true_and, and_true], rfl⟩
  · refine w_iload_n (zat TX14_force 7 rfl) rfl ?_
    refine w_iconst (v := 0) (zat TX14_force 8 rfl) (by decide) ?_
    refine w_bipush (v := 99) (zat TX14_force 9 rfl) (by decide) ?_
    refine x_callv3 (qX14_in l _ _ _ _) (by decide) kX14_in (rdy_S (zat TX14_force 10 rfl) kX14_in pX14_in zw1185 zw1186) (Nat.le_of_ble_eq_true rfl) rfl rfl ?_
    refine w_if_eq 32 (zat TX14_force 11 rfl) (by decide) (fun Hc20 => ?_) (fun Hc20 => ?_)
    · refine w_iconst (v := -1) (zat TX14_force 17 rfl) (by decide) ?_
      refine w_ireturn (zat TX14_force 18 rfl) rfl rfl ?_
      try simp only [zb_0, Decidable.not_not] at Hc10 Hc20
      exact ⟨by simp only [mForce, Hc10, Hc20, if_true, if_false, and_self, not_true_eq_false, not_false_eq_true, and_false, false_and, true_and, and_true], rfl⟩
    · refine w_aload_n (zat TX14_force 12 rfl) rfl ?_
      refine w_iload_n (zat TX14_force 13 rfl) rfl ?_
      refine w_iload_n (zat TX14_force 14 rfl) rfl ?_
      refine x_callv3 (qX14_forceOf l (zsI h 1 0 0 0) hWM p y nE hE hE2 hE3) (by decide) kX14_forceOf (rdy_V (zat TX14_force 15 rfl) kX14_forceOf pX14_forceOf zw1321 zw1323 zw49 (zrc (by decide) (by decide) rfl)) (Nat.le_of_ble_eq_true rfl) rfl rfl ?_
      rw [show mF (eP (zsI h 1 0 0 0)) (eY (zsI h 1 0 0 0)) p y nE = mF (eP h) (eY h) p y nE from rfl]
      refine w_goto 33 (zat TX14_force 16 rfl) (by decide) ?_
      refine w_ireturn (zat TX14_force 18 rfl) rfl rfl ?_
      try simp only [zb_0, Decidable.not_not] at Hc10 Hc20
      exact ⟨by simp only [mForce, Hc10, Hc20, if_true, if_false, and_self, not_true_eq_false, not_false_eq_true, and_false, false_and, true_and, and_true], rfl⟩
