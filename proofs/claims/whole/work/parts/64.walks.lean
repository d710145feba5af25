-- walks of the model: the next border, by program (wip/gen/p64.py)
/-- the other end of a border -/
def ow (on ot : Nat → Nat) (k v : Nat) : Nat := if on k = v then ot k else on k
/-- border k leads on from v, by the tolls d -/
def pk1 (on ot c d : Nat → Nat) (v k : Nat) : Prop := (on k = v ∨ ot k = v) ∧ c k + d (ow on ot k v) = d v
/-- k is the first border that leads on -/
def fst1 (on ot c d : Nat → Nat) (nB v k : Nat) : Prop := k < nB ∧ pk1 on ot c d v k ∧ ∀ i, i < k → ¬ pk1 on ot c d v i
theorem lX14_walks_22 (l : Launch) (h : zH) (hWM : Wm h) (nP nB : Nat) (hP2 : nP ≤ 10) (hB2 : nB ≤ 16) (on ot c : Nat → Nat) (hBR : BR h 15 nP nB on ot c) (D : Nat → Nat → Nat) (hD : ∀ a b, D a b ≤ 100000000) (hT : TD h nP D) (p : Nat) (hp : p < nP) (Q : zO → zH → Prop) (v k : Nat) (hv : v < nP) (hk : fst1 on ot c (fun x => D x p) nB v k) (K : ∀ x, Wp l mX14_walks 2 123 [some (Vq (some (1, 0))), some (Vi (nI p)), some (Vi (nI v)), some (Vi (nI (k + 1))), some (Vi (nI (ow on ot k v))), x] [] h Q) : ∀ kk s : Nat, s + kk = k → ∀ x, Wp l mX14_walks 2 22 [some (Vq (some (1, 0))), some (Vi (nI p)), some (Vi (nI v)), some (Vi (nI s)), some (Vi (-1)), x] [] h Q := by
  intro kk
  induction kk with
  | zero =>
    intro s hs x
    have e : s = k := by omega
    subst e
    have hpk := hk.2.1
    obtain ⟨b1, b2, b3, b4, b5, b6, b7⟩ := hBR s (by have := hk.1; omega)
    have hco := qX14_costOf l h hWM s (zI h 15 0 s) (by have := hk.1; omega)
    rw [b6] at hco
    have hk1 := hk.1
    by_cases e1 : on s = v
    · skip
      refine w_iload (zat TX14_walks_0 15 rfl) rfl ?_
      refine w_iconst (v := -1) (zat TX14_walks_0 16 rfl) (by decide) ?_
      refine w_icmp_ne 123 (zat TX14_walks_0 17 rfl) (by decide) (fun Hc25 => ?_) (fun Hc25 => ?_)
      · exact absurd rfl Hc25
      · refine w_aload_n (zat TX14_walks_0 18 rfl) rfl ?_
        refine w_getR (zat TX14_walks_0 19 rfl) fX14_23 s1 (by decide) (by decide) rfl (wmr hWM 2 rfl) ?_
        refine w_iload_n (zat TX14_walks_0 20 rfl) rfl ?_
        refine y_iaload _ _ (v := nI (on s)) (zat TX14_walks_0 21 rfl) s12 (by decide) (wmn hWM 2 rfl) (by decide) rfl (by omega) b1 ?_
        refine w_iload_n (zat TX14_walks_0 22 rfl) rfl ?_
        refine w_icmp_ne 47 (zat TX14_walks_0 23 rfl) (by decide) (fun Hc35 => ?_) (fun Hc35 => ?_)
        · exact absurd (congrArg nI e1) Hc35
        · refine w_aload_n (zat TX14_walks_0 24 rfl) rfl ?_
          refine w_getR (zat TX14_walks_0 25 rfl) fX14_26 s1 (by decide) (by decide) rfl (wmr hWM 3 rfl) ?_
          refine w_iload_n (zat TX14_walks_0 26 rfl) rfl ?_
          refine y_iaload _ _ (v := nI (ot s)) (zat TX14_walks_0 27 rfl) s13 (by decide) (wmn hWM 3 rfl) (by decide) rfl (by omega) b2 ?_
          refine w_goto 67 (zat TX14_walks_0 28 rfl) (by decide) ?_
          refine x_istore (ls2 := [_, _, _, _, _, _]) (zat TX14_walks_0 41 rfl) (by decide) rfl ?_
          refine w_iload (zat TX14_walks_0 42 rfl) rfl ?_
          refine w_iconst (v := -1) (zat TX14_walks_0 43 rfl) (by decide) ?_
          refine w_icmp_eq 117 (zat TX14_walks_0 44 rfl) (by decide) (fun Hc72 => ?_) (fun Hc72 => ?_)
          · exact absurd Hc72 (nI_ne1 _ (by omega))
          · refine w_aload_n (zat TX14_walks_0 45 rfl) rfl ?_
            refine w_iload_n (zat TX14_walks_0 46 rfl) rfl ?_
            refine w_aload_n (zat TX14_walks_0 47 rfl) rfl ?_
            refine w_getR (zat TX14_walks_0 48 rfl) fX14_32 s1 (by decide) (by decide) rfl (wmr hWM 5 rfl) ?_
            refine w_iload_n (zat TX14_walks_0 49 rfl) rfl ?_
            refine y_iaload _ _ (v := zI h 15 0 s) (zat TX14_walks_0 50 rfl) s15 (by decide) (wmn hWM 5 rfl) (by decide) rfl (by omega) rfl ?_
            refine x_callv3 (hco) (by decide) kX14_costOf (rdy_V (zat TX14_walks_0 51 rfl) kX14_costOf pX14_costOf zw1370 zw1372 zw55 (zrc (by decide) (by decide) rfl)) (Nat.le_of_ble_eq_true rfl) rfl rfl ?_
            refine w_aload_n (zat TX14_walks_0 52 rfl) rfl ?_
            refine w_getR (zat TX14_walks_0 53 rfl) fX14_66 s1 (by decide) (by decide) rfl (wmr hWM 12 rfl) ?_
            refine w_bipush (v := 10) (zat TX14_walks_0 54 rfl) (by decide) ?_
            refine w_iload (zat TX14_walks_0 55 rfl) rfl ?_
            refine w_imul (zat TX14_walks_0 56 rfl) ?_
            refine w_iload_n (zat TX14_walks_0 57 rfl) rfl ?_
            refine w_iadd (zat TX14_walks_0 58 rfl) ?_
            refine y_iaload (10 * (ot s) + p) _ (v := nI (D (ot s) p)) (zat TX14_walks_0 59 rfl) s23 (by decide) (wmn hWM 11 rfl) (by decide) (nI_t10 (ot s) p) (by omega) (hT (ot s) p (by omega) hp) ?_
            refine w_iadd (zat TX14_walks_1 0 rfl) ?_
            refine w_aload_n (zat TX14_walks_1 1 rfl) rfl ?_
            refine w_getR (zat TX14_walks_1 2 rfl) fX14_66 s1 (by decide) (by decide) rfl (wmr hWM 12 rfl) ?_
            refine w_bipush (v := 10) (zat TX14_walks_1 3 rfl) (by decide) ?_
            refine w_iload_n (zat TX14_walks_1 4 rfl) rfl ?_
            refine w_imul (zat TX14_walks_1 5 rfl) ?_
            refine w_iload_n (zat TX14_walks_1 6 rfl) rfl ?_
            refine w_iadd (zat TX14_walks_1 7 rfl) ?_
            refine y_iaload (10 * v + p) _ (v := nI (D v p)) (zat TX14_walks_1 8 rfl) s23 (by decide) (wmn hWM 11 rfl) (by decide) (nI_t10 v p) (by omega) (hT v p hv hp) ?_
            rw [nI_add]
            refine w_icmp_ne 117 (zat TX14_walks_1 9 rfl) (by decide) (fun Hc110 => ?_) (fun Hc110 => ?_)
            · exact absurd (congrArg nI (show c s + D (ot s) p = D v p from by have z := hpk.2; rw [show ow on ot s v = (ot s) from if_pos e1] at z; exact z)) Hc110
            · refine w_iload (zat TX14_walks_1 10 rfl) rfl ?_
              refine x_istore (ls2 := [_, _, _, _, _, _]) (zat TX14_walks_1 11 rfl) (by decide) rfl ?_
              refine x_iinc (v := nI (s + 1)) (ls2 := [_, _, _, _, _, _]) (zat TX14_walks_1 12 rfl) rfl (nI_inc s) rfl ?_
              refine w_goto 22 (zat TX14_walks_1 13 rfl) (by decide) ?_
              refine w_iload (zat TX14_walks_0 15 rfl) rfl ?_
              refine w_iconst (v := -1) (zat TX14_walks_0 16 rfl) (by decide) ?_
              refine w_icmp_ne 123 (zat TX14_walks_0 17 rfl) (by decide) (fun Hc25 => ?_) (fun Hc25 => ?_)
              · rw [show ow on ot s v = (ot s) from if_pos e1] at K
                exact K _
              · exact absurd Hc25 (nI_ne1 _ (by omega))
    · by_cases e2 : ot s = v
      · skip
        refine w_iload (zat TX14_walks_0 15 rfl) rfl ?_
        refine w_iconst (v := -1) (zat TX14_walks_0 16 rfl) (by decide) ?_
        refine w_icmp_ne 123 (zat TX14_walks_0 17 rfl) (by decide) (fun Hc25 => ?_) (fun Hc25 => ?_)
        · exact absurd rfl Hc25
        · refine w_aload_n (zat TX14_walks_0 18 rfl) rfl ?_
          refine w_getR (zat TX14_walks_0 19 rfl) fX14_23 s1 (by decide) (by decide) rfl (wmr hWM 2 rfl) ?_
          refine w_iload_n (zat TX14_walks_0 20 rfl) rfl ?_
          refine y_iaload _ _ (v := nI (on s)) (zat TX14_walks_0 21 rfl) s12 (by decide) (wmn hWM 2 rfl) (by decide) rfl (by omega) b1 ?_
          refine w_iload_n (zat TX14_walks_0 22 rfl) rfl ?_
          refine w_icmp_ne 47 (zat TX14_walks_0 23 rfl) (by decide) (fun Hc35 => ?_) (fun Hc35 => ?_)
          · refine w_aload_n (zat TX14_walks_0 29 rfl) rfl ?_
            refine w_getR (zat TX14_walks_0 30 rfl) fX14_26 s1 (by decide) (by decide) rfl (wmr hWM 3 rfl) ?_
            refine w_iload_n (zat TX14_walks_0 31 rfl) rfl ?_
            refine y_iaload _ _ (v := nI (ot s)) (zat TX14_walks_0 32 rfl) s13 (by decide) (wmn hWM 3 rfl) (by decide) rfl (by omega) b2 ?_
            refine w_iload_n (zat TX14_walks_0 33 rfl) rfl ?_
            refine w_icmp_ne 66 (zat TX14_walks_0 34 rfl) (by decide) (fun Hc54 => ?_) (fun Hc54 => ?_)
            · exact absurd (congrArg nI e2) Hc54
            · refine w_aload_n (zat TX14_walks_0 35 rfl) rfl ?_
              refine w_getR (zat TX14_walks_0 36 rfl) fX14_23 s1 (by decide) (by decide) rfl (wmr hWM 2 rfl) ?_
              refine w_iload_n (zat TX14_walks_0 37 rfl) rfl ?_
              refine y_iaload _ _ (v := nI (on s)) (zat TX14_walks_0 38 rfl) s12 (by decide) (wmn hWM 2 rfl) (by decide) rfl (by omega) b1 ?_
              refine w_goto 67 (zat TX14_walks_0 39 rfl) (by decide) ?_
              refine x_istore (ls2 := [_, _, _, _, _, _]) (zat TX14_walks_0 41 rfl) (by decide) rfl ?_
              refine w_iload (zat TX14_walks_0 42 rfl) rfl ?_
              refine w_iconst (v := -1) (zat TX14_walks_0 43 rfl) (by decide) ?_
              refine w_icmp_eq 117 (zat TX14_walks_0 44 rfl) (by decide) (fun Hc72 => ?_) (fun Hc72 => ?_)
              · exact absurd Hc72 (nI_ne1 _ (by omega))
              · refine w_aload_n (zat TX14_walks_0 45 rfl) rfl ?_
                refine w_iload_n (zat TX14_walks_0 46 rfl) rfl ?_
                refine w_aload_n (zat TX14_walks_0 47 rfl) rfl ?_
                refine w_getR (zat TX14_walks_0 48 rfl) fX14_32 s1 (by decide) (by decide) rfl (wmr hWM 5 rfl) ?_
                refine w_iload_n (zat TX14_walks_0 49 rfl) rfl ?_
                refine y_iaload _ _ (v := zI h 15 0 s) (zat TX14_walks_0 50 rfl) s15 (by decide) (wmn hWM 5 rfl) (by decide) rfl (by omega) rfl ?_
                refine x_callv3 (hco) (by decide) kX14_costOf (rdy_V (zat TX14_walks_0 51 rfl) kX14_costOf pX14_costOf zw1370 zw1372 zw55 (zrc (by decide) (by decide) rfl)) (Nat.le_of_ble_eq_true rfl) rfl rfl ?_
                refine w_aload_n (zat TX14_walks_0 52 rfl) rfl ?_
                refine w_getR (zat TX14_walks_0 53 rfl) fX14_66 s1 (by decide) (by decide) rfl (wmr hWM 12 rfl) ?_
                refine w_bipush (v := 10) (zat TX14_walks_0 54 rfl) (by decide) ?_
                refine w_iload (zat TX14_walks_0 55 rfl) rfl ?_
                refine w_imul (zat TX14_walks_0 56 rfl) ?_
                refine w_iload_n (zat TX14_walks_0 57 rfl) rfl ?_
                refine w_iadd (zat TX14_walks_0 58 rfl) ?_
                refine y_iaload (10 * (on s) + p) _ (v := nI (D (on s) p)) (zat TX14_walks_0 59 rfl) s23 (by decide) (wmn hWM 11 rfl) (by decide) (nI_t10 (on s) p) (by omega) (hT (on s) p (by omega) hp) ?_
                refine w_iadd (zat TX14_walks_1 0 rfl) ?_
                refine w_aload_n (zat TX14_walks_1 1 rfl) rfl ?_
                refine w_getR (zat TX14_walks_1 2 rfl) fX14_66 s1 (by decide) (by decide) rfl (wmr hWM 12 rfl) ?_
                refine w_bipush (v := 10) (zat TX14_walks_1 3 rfl) (by decide) ?_
                refine w_iload_n (zat TX14_walks_1 4 rfl) rfl ?_
                refine w_imul (zat TX14_walks_1 5 rfl) ?_
                refine w_iload_n (zat TX14_walks_1 6 rfl) rfl ?_
                refine w_iadd (zat TX14_walks_1 7 rfl) ?_
                refine y_iaload (10 * v + p) _ (v := nI (D v p)) (zat TX14_walks_1 8 rfl) s23 (by decide) (wmn hWM 11 rfl) (by decide) (nI_t10 v p) (by omega) (hT v p hv hp) ?_
                rw [nI_add]
                refine w_icmp_ne 117 (zat TX14_walks_1 9 rfl) (by decide) (fun Hc110 => ?_) (fun Hc110 => ?_)
                · exact absurd (congrArg nI (show c s + D (on s) p = D v p from by have z := hpk.2; rw [show ow on ot s v = (on s) from if_neg e1] at z; exact z)) Hc110
                · refine w_iload (zat TX14_walks_1 10 rfl) rfl ?_
                  refine x_istore (ls2 := [_, _, _, _, _, _]) (zat TX14_walks_1 11 rfl) (by decide) rfl ?_
                  refine x_iinc (v := nI (s + 1)) (ls2 := [_, _, _, _, _, _]) (zat TX14_walks_1 12 rfl) rfl (nI_inc s) rfl ?_
                  refine w_goto 22 (zat TX14_walks_1 13 rfl) (by decide) ?_
                  refine w_iload (zat TX14_walks_0 15 rfl) rfl ?_
                  refine w_iconst (v := -1) (zat TX14_walks_0 16 rfl) (by decide) ?_
                  refine w_icmp_ne 123 (zat TX14_walks_0 17 rfl) (by decide) (fun Hc25 => ?_) (fun Hc25 => ?_)
                  · rw [show ow on ot s v = (on s) from if_neg e1] at K
                    exact K _
                  · exact absurd Hc25 (nI_ne1 _ (by omega))
          · exact absurd (nIe (by omega) (by omega) Hc35) e1
      · skip
        exact absurd hpk.1 (fun z => z.elim e1 e2)
  | succ kk ih =>
    intro s hs x
    have hpk := hk.2.2 s (by omega)
    obtain ⟨b1, b2, b3, b4, b5, b6, b7⟩ := hBR s (by have := hk.1; omega)
    have hco := qX14_costOf l h hWM s (zI h 15 0 s) (by have := hk.1; omega)
    rw [b6] at hco
    have hk1 := hk.1
    by_cases e1 : on s = v
    · skip
      refine w_iload (zat TX14_walks_0 15 rfl) rfl ?_
      refine w_iconst (v := -1) (zat TX14_walks_0 16 rfl) (by decide) ?_
      refine w_icmp_ne 123 (zat TX14_walks_0 17 rfl) (by decide) (fun Hc25 => ?_) (fun Hc25 => ?_)
      · exact absurd rfl Hc25
      · refine w_aload_n (zat TX14_walks_0 18 rfl) rfl ?_
        refine w_getR (zat TX14_walks_0 19 rfl) fX14_23 s1 (by decide) (by decide) rfl (wmr hWM 2 rfl) ?_
        refine w_iload_n (zat TX14_walks_0 20 rfl) rfl ?_
        refine y_iaload _ _ (v := nI (on s)) (zat TX14_walks_0 21 rfl) s12 (by decide) (wmn hWM 2 rfl) (by decide) rfl (by omega) b1 ?_
        refine w_iload_n (zat TX14_walks_0 22 rfl) rfl ?_
        refine w_icmp_ne 47 (zat TX14_walks_0 23 rfl) (by decide) (fun Hc35 => ?_) (fun Hc35 => ?_)
        · exact absurd (congrArg nI e1) Hc35
        · refine w_aload_n (zat TX14_walks_0 24 rfl) rfl ?_
          refine w_getR (zat TX14_walks_0 25 rfl) fX14_26 s1 (by decide) (by decide) rfl (wmr hWM 3 rfl) ?_
          refine w_iload_n (zat TX14_walks_0 26 rfl) rfl ?_
          refine y_iaload _ _ (v := nI (ot s)) (zat TX14_walks_0 27 rfl) s13 (by decide) (wmn hWM 3 rfl) (by decide) rfl (by omega) b2 ?_
          refine w_goto 67 (zat TX14_walks_0 28 rfl) (by decide) ?_
          refine x_istore (ls2 := [_, _, _, _, _, _]) (zat TX14_walks_0 41 rfl) (by decide) rfl ?_
          refine w_iload (zat TX14_walks_0 42 rfl) rfl ?_
          refine w_iconst (v := -1) (zat TX14_walks_0 43 rfl) (by decide) ?_
          refine w_icmp_eq 117 (zat TX14_walks_0 44 rfl) (by decide) (fun Hc72 => ?_) (fun Hc72 => ?_)
          · exact absurd Hc72 (nI_ne1 _ (by omega))
          · refine w_aload_n (zat TX14_walks_0 45 rfl) rfl ?_
            refine w_iload_n (zat TX14_walks_0 46 rfl) rfl ?_
            refine w_aload_n (zat TX14_walks_0 47 rfl) rfl ?_
            refine w_getR (zat TX14_walks_0 48 rfl) fX14_32 s1 (by decide) (by decide) rfl (wmr hWM 5 rfl) ?_
            refine w_iload_n (zat TX14_walks_0 49 rfl) rfl ?_
            refine y_iaload _ _ (v := zI h 15 0 s) (zat TX14_walks_0 50 rfl) s15 (by decide) (wmn hWM 5 rfl) (by decide) rfl (by omega) rfl ?_
            refine x_callv3 (hco) (by decide) kX14_costOf (rdy_V (zat TX14_walks_0 51 rfl) kX14_costOf pX14_costOf zw1370 zw1372 zw55 (zrc (by decide) (by decide) rfl)) (Nat.le_of_ble_eq_true rfl) rfl rfl ?_
            refine w_aload_n (zat TX14_walks_0 52 rfl) rfl ?_
            refine w_getR (zat TX14_walks_0 53 rfl) fX14_66 s1 (by decide) (by decide) rfl (wmr hWM 12 rfl) ?_
            refine w_bipush (v := 10) (zat TX14_walks_0 54 rfl) (by decide) ?_
            refine w_iload (zat TX14_walks_0 55 rfl) rfl ?_
            refine w_imul (zat TX14_walks_0 56 rfl) ?_
            refine w_iload_n (zat TX14_walks_0 57 rfl) rfl ?_
            refine w_iadd (zat TX14_walks_0 58 rfl) ?_
            refine y_iaload (10 * (ot s) + p) _ (v := nI (D (ot s) p)) (zat TX14_walks_0 59 rfl) s23 (by decide) (wmn hWM 11 rfl) (by decide) (nI_t10 (ot s) p) (by omega) (hT (ot s) p (by omega) hp) ?_
            refine w_iadd (zat TX14_walks_1 0 rfl) ?_
            refine w_aload_n (zat TX14_walks_1 1 rfl) rfl ?_
            refine w_getR (zat TX14_walks_1 2 rfl) fX14_66 s1 (by decide) (by decide) rfl (wmr hWM 12 rfl) ?_
            refine w_bipush (v := 10) (zat TX14_walks_1 3 rfl) (by decide) ?_
            refine w_iload_n (zat TX14_walks_1 4 rfl) rfl ?_
            refine w_imul (zat TX14_walks_1 5 rfl) ?_
            refine w_iload_n (zat TX14_walks_1 6 rfl) rfl ?_
            refine w_iadd (zat TX14_walks_1 7 rfl) ?_
            refine y_iaload (10 * v + p) _ (v := nI (D v p)) (zat TX14_walks_1 8 rfl) s23 (by decide) (wmn hWM 11 rfl) (by decide) (nI_t10 v p) (by omega) (hT v p hv hp) ?_
            rw [nI_add]
            refine w_icmp_ne 117 (zat TX14_walks_1 9 rfl) (by decide) (fun Hc110 => ?_) (fun Hc110 => ?_)
            · refine x_iinc (v := nI (s + 1)) (ls2 := [_, _, _, _, _, _]) (zat TX14_walks_1 12 rfl) rfl (nI_inc s) rfl ?_
              refine w_goto 22 (zat TX14_walks_1 13 rfl) (by decide) ?_
              exact ih (s + 1) (by omega) _
            · exact absurd ⟨Or.inl e1, by show c s + D (ow on ot s v) p = D v p; rw [show ow on ot s v = (ot s) from if_pos e1]; exact nIe (by have := hD (ot s) p; omega) (by have := hD v p; omega) Hc110⟩ hpk
    · by_cases e2 : ot s = v
      · skip
        refine w_iload (zat TX14_walks_0 15 rfl) rfl ?_
        refine w_iconst (v := -1) (zat TX14_walks_0 16 rfl) (by decide) ?_
        refine w_icmp_ne 123 (zat TX14_walks_0 17 rfl) (by decide) (fun Hc25 => ?_) (fun Hc25 => ?_)
        · exact absurd rfl Hc25
        · refine w_aload_n (zat TX14_walks_0 18 rfl) rfl ?_
          refine w_getR (zat TX14_walks_0 19 rfl) fX14_23 s1 (by decide) (by decide) rfl (wmr hWM 2 rfl) ?_
          refine w_iload_n (zat TX14_walks_0 20 rfl) rfl ?_
          refine y_iaload _ _ (v := nI (on s)) (zat TX14_walks_0 21 rfl) s12 (by decide) (wmn hWM 2 rfl) (by decide) rfl (by omega) b1 ?_
          refine w_iload_n (zat TX14_walks_0 22 rfl) rfl ?_
          refine w_icmp_ne 47 (zat TX14_walks_0 23 rfl) (by decide) (fun Hc35 => ?_) (fun Hc35 => ?_)
          · refine w_aload_n (zat TX14_walks_0 29 rfl) rfl ?_
            refine w_getR (zat TX14_walks_0 30 rfl) fX14_26 s1 (by decide) (by decide) rfl (wmr hWM 3 rfl) ?_
            refine w_iload_n (zat TX14_walks_0 31 rfl) rfl ?_
            refine y_iaload _ _ (v := nI (ot s)) (zat TX14_walks_0 32 rfl) s13 (by decide) (wmn hWM 3 rfl) (by decide) rfl (by omega) b2 ?_
            refine w_iload_n (zat TX14_walks_0 33 rfl) rfl ?_
            refine w_icmp_ne 66 (zat TX14_walks_0 34 rfl) (by decide) (fun Hc54 => ?_) (fun Hc54 => ?_)
            · exact absurd (congrArg nI e2) Hc54
            · refine w_aload_n (zat TX14_walks_0 35 rfl) rfl ?_
              refine w_getR (zat TX14_walks_0 36 rfl) fX14_23 s1 (by decide) (by decide) rfl (wmr hWM 2 rfl) ?_
              refine w_iload_n (zat TX14_walks_0 37 rfl) rfl ?_
              refine y_iaload _ _ (v := nI (on s)) (zat TX14_walks_0 38 rfl) s12 (by decide) (wmn hWM 2 rfl) (by decide) rfl (by omega) b1 ?_
              refine w_goto 67 (zat TX14_walks_0 39 rfl) (by decide) ?_
              refine x_istore (ls2 := [_, _, _, _, _, _]) (zat TX14_walks_0 41 rfl) (by decide) rfl ?_
              refine w_iload (zat TX14_walks_0 42 rfl) rfl ?_
              refine w_iconst (v := -1) (zat TX14_walks_0 43 rfl) (by decide) ?_
              refine w_icmp_eq 117 (zat TX14_walks_0 44 rfl) (by decide) (fun Hc72 => ?_) (fun Hc72 => ?_)
              · exact absurd Hc72 (nI_ne1 _ (by omega))
              · refine w_aload_n (zat TX14_walks_0 45 rfl) rfl ?_
                refine w_iload_n (zat TX14_walks_0 46 rfl) rfl ?_
                refine w_aload_n (zat TX14_walks_0 47 rfl) rfl ?_
                refine w_getR (zat TX14_walks_0 48 rfl) fX14_32 s1 (by decide) (by decide) rfl (wmr hWM 5 rfl) ?_
                refine w_iload_n (zat TX14_walks_0 49 rfl) rfl ?_
                refine y_iaload _ _ (v := zI h 15 0 s) (zat TX14_walks_0 50 rfl) s15 (by decide) (wmn hWM 5 rfl) (by decide) rfl (by omega) rfl ?_
                refine x_callv3 (hco) (by decide) kX14_costOf (rdy_V (zat TX14_walks_0 51 rfl) kX14_costOf pX14_costOf zw1370 zw1372 zw55 (zrc (by decide) (by decide) rfl)) (Nat.le_of_ble_eq_true rfl) rfl rfl ?_
                refine w_aload_n (zat TX14_walks_0 52 rfl) rfl ?_
                refine w_getR (zat TX14_walks_0 53 rfl) fX14_66 s1 (by decide) (by decide) rfl (wmr hWM 12 rfl) ?_
                refine w_bipush (v := 10) (zat TX14_walks_0 54 rfl) (by decide) ?_
                refine w_iload (zat TX14_walks_0 55 rfl) rfl ?_
                refine w_imul (zat TX14_walks_0 56 rfl) ?_
                refine w_iload_n (zat TX14_walks_0 57 rfl) rfl ?_
                refine w_iadd (zat TX14_walks_0 58 rfl) ?_
                refine y_iaload (10 * (on s) + p) _ (v := nI (D (on s) p)) (zat TX14_walks_0 59 rfl) s23 (by decide) (wmn hWM 11 rfl) (by decide) (nI_t10 (on s) p) (by omega) (hT (on s) p (by omega) hp) ?_
                refine w_iadd (zat TX14_walks_1 0 rfl) ?_
                refine w_aload_n (zat TX14_walks_1 1 rfl) rfl ?_
                refine w_getR (zat TX14_walks_1 2 rfl) fX14_66 s1 (by decide) (by decide) rfl (wmr hWM 12 rfl) ?_
                refine w_bipush (v := 10) (zat TX14_walks_1 3 rfl) (by decide) ?_
                refine w_iload_n (zat TX14_walks_1 4 rfl) rfl ?_
                refine w_imul (zat TX14_walks_1 5 rfl) ?_
                refine w_iload_n (zat TX14_walks_1 6 rfl) rfl ?_
                refine w_iadd (zat TX14_walks_1 7 rfl) ?_
                refine y_iaload (10 * v + p) _ (v := nI (D v p)) (zat TX14_walks_1 8 rfl) s23 (by decide) (wmn hWM 11 rfl) (by decide) (nI_t10 v p) (by omega) (hT v p hv hp) ?_
                rw [nI_add]
                refine w_icmp_ne 117 (zat TX14_walks_1 9 rfl) (by decide) (fun Hc110 => ?_) (fun Hc110 => ?_)
                · refine x_iinc (v := nI (s + 1)) (ls2 := [_, _, _, _, _, _]) (zat TX14_walks_1 12 rfl) rfl (nI_inc s) rfl ?_
                  refine w_goto 22 (zat TX14_walks_1 13 rfl) (by decide) ?_
                  exact ih (s + 1) (by omega) _
                · exact absurd ⟨Or.inr e2, by show c s + D (ow on ot s v) p = D v p; rw [show ow on ot s v = (on s) from if_neg e1]; exact nIe (by have := hD (on s) p; omega) (by have := hD v p; omega) Hc110⟩ hpk
          · exact absurd (nIe (by omega) (by omega) Hc35) e1
      · skip
        refine w_iload (zat TX14_walks_0 15 rfl) rfl ?_
        refine w_iconst (v := -1) (zat TX14_walks_0 16 rfl) (by decide) ?_
        refine w_icmp_ne 123 (zat TX14_walks_0 17 rfl) (by decide) (fun Hc25 => ?_) (fun Hc25 => ?_)
        · exact absurd rfl Hc25
        · refine w_aload_n (zat TX14_walks_0 18 rfl) rfl ?_
          refine w_getR (zat TX14_walks_0 19 rfl) fX14_23 s1 (by decide) (by decide) rfl (wmr hWM 2 rfl) ?_
          refine w_iload_n (zat TX14_walks_0 20 rfl) rfl ?_
          refine y_iaload _ _ (v := nI (on s)) (zat TX14_walks_0 21 rfl) s12 (by decide) (wmn hWM 2 rfl) (by decide) rfl (by omega) b1 ?_
          refine w_iload_n (zat TX14_walks_0 22 rfl) rfl ?_
          refine w_icmp_ne 47 (zat TX14_walks_0 23 rfl) (by decide) (fun Hc35 => ?_) (fun Hc35 => ?_)
          · refine w_aload_n (zat TX14_walks_0 29 rfl) rfl ?_
            refine w_getR (zat TX14_walks_0 30 rfl) fX14_26 s1 (by decide) (by decide) rfl (wmr hWM 3 rfl) ?_
            refine w_iload_n (zat TX14_walks_0 31 rfl) rfl ?_
            refine y_iaload _ _ (v := nI (ot s)) (zat TX14_walks_0 32 rfl) s13 (by decide) (wmn hWM 3 rfl) (by decide) rfl (by omega) b2 ?_
            refine w_iload_n (zat TX14_walks_0 33 rfl) rfl ?_
            refine w_icmp_ne 66 (zat TX14_walks_0 34 rfl) (by decide) (fun Hc54 => ?_) (fun Hc54 => ?_)
            · refine w_iconst (v := -1) (zat TX14_walks_0 40 rfl) (by decide) ?_
              refine x_istore (ls2 := [_, _, _, _, _, _]) (zat TX14_walks_0 41 rfl) (by decide) rfl ?_
              refine w_iload (zat TX14_walks_0 42 rfl) rfl ?_
              refine w_iconst (v := -1) (zat TX14_walks_0 43 rfl) (by decide) ?_
              refine w_icmp_eq 117 (zat TX14_walks_0 44 rfl) (by decide) (fun Hc72 => ?_) (fun Hc72 => ?_)
              · refine x_iinc (v := nI (s + 1)) (ls2 := [_, _, _, _, _, _]) (zat TX14_walks_1 12 rfl) rfl (nI_inc s) rfl ?_
                refine w_goto 22 (zat TX14_walks_1 13 rfl) (by decide) ?_
                exact ih (s + 1) (by omega) _
              · exact absurd rfl Hc72
            · exact absurd (nIe (by omega) (by omega) Hc54) e2
          · exact absurd (nIe (by omega) (by omega) Hc35) e1
