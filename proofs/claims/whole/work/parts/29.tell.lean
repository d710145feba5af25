-- RECKONING of the class: tell, by program (wip/gen/p29.py)
/-- the loop of tell, at place i -/
def TLw (l : Launch) (e : Nat) (kd : Int32) (h : zH) (i : Nat) (hold : Int32) (Q : zO → zH → Prop) : Prop := ∀ x : Option zV, Wp l mX6_tell 5 10 [some (Vq (some (63, 0))), some (Vq (some (75, e))), some (Vi kd), some (Vi hold), some (Vi (nI i)), x] [] h Q
theorem TLw.at {l : Launch} {e : Nat} {kd : Int32} {h : zH} {i : Nat} {hold : Int32} {Q : zO → zH → Prop} (k : TLw l e kd h i hold Q) (x : Option zV) : Wp l mX6_tell 5 10 [some (Vq (some (63, 0))), some (Vq (some (75, e))), some (Vi kd), some (Vi hold), some (Vi (nI i)), x] [] h Q := k x
theorem tl_end {l : Launch} {e : Nat} {kd : Int32} {h : zH} {i N : Nat} {Q : zO → zH → Prop} (hN : zN h 75 e = N) (hN2 : N ≤ 301) {hold : Int32} (hi : i = N) (hq : Q (Rv (Vi 0)) h) : TLw l e kd h i hold Q := by
  intro x
  refine w_iload (zat TX6_tell 7 rfl) rfl ?_
  refine w_aload_n (zat TX6_tell 8 rfl) rfl ?_
  refine w_alen (zat TX6_tell 9 rfl) (by decide) (by decide) (congrArg nI hN) ?_
  refine w_icmp_ge 84 (zat TX6_tell 10 rfl) (by decide) (fun Hc14 => ?_) (fun Hc14 => ?_)
  · refine w_iconst (v := 0) (zat TX6_tell 45 rfl) (by decide) ?_
    refine w_ireturn (zat TX6_tell 46 rfl) rfl rfl ?_
    exact hq
  · exact absurd (nI_le (by omega) (by omega)) Hc14
theorem tl_skip {l : Launch} {e : Nat} {kd : Int32} {h : zH} {i N : Nat} {Q : zO → zH → Prop} (hN : zN h 75 e = N) (hN2 : N ≤ 301) {w : Int32} (hi : i < N) (hw : zI h 75 e i = w) (n1 : ¬ w = -1) (n2 : ¬ w = -2) (k : TLw l e kd h (i + 1) 0 Q) : TLw l e kd h i 0 Q := by
  intro x
  refine w_iload (zat TX6_tell 7 rfl) rfl ?_
  refine w_aload_n (zat TX6_tell 8 rfl) rfl ?_
  refine w_alen (zat TX6_tell 9 rfl) (by decide) (by decide) (congrArg nI hN) ?_
  refine w_icmp_ge 84 (zat TX6_tell 10 rfl) (by decide) (fun Hc14 => ?_) (fun Hc14 => ?_)
  · exact absurd Hc14 (nI_ge hi (by omega))
  · refine w_aload_n (zat TX6_tell 11 rfl) rfl ?_
    refine w_iload (zat TX6_tell 12 rfl) rfl ?_
    refine y_iaload _ _ (v := w) (zat TX6_tell 13 rfl) s75 (by decide) hN (by omega) rfl hi hw ?_
    refine x_istore (ls2 := [_, _, _, _, _, _]) (zat TX6_tell 14 rfl) (by decide) rfl ?_
    refine w_iload (zat TX6_tell 15 rfl) rfl ?_
    refine w_iconst (v := -1) (zat TX6_tell 16 rfl) (by decide) ?_
    refine w_icmp_eq 36 (zat TX6_tell 17 rfl) (by decide) (fun Hc26 => ?_) (fun Hc26 => ?_)
    · exact absurd Hc26 n1
    · refine w_iload (zat TX6_tell 18 rfl) rfl ?_
      refine w_bipush (v := -2) (zat TX6_tell 19 rfl) (by decide) ?_
      refine w_icmp_ne 51 (zat TX6_tell 20 rfl) (by decide) (fun Hc33 => ?_) (fun Hc33 => ?_)
      · refine w_iload_n (zat TX6_tell 29 rfl) rfl ?_
        refine w_if_eq 67 (zat TX6_tell 30 rfl) (by decide) (fun Hc52 => ?_) (fun Hc52 => ?_)
        · refine w_iload_n (zat TX6_tell 37 rfl) rfl ?_
          refine w_if_eq 78 (zat TX6_tell 38 rfl) (by decide) (fun Hc68 => ?_) (fun Hc68 => ?_)
          · refine x_iinc (v := nI (i + 1)) (ls2 := [_, _, _, _, _, _]) (zat TX6_tell 43 rfl) rfl (nI_inc i) rfl ?_
            refine w_goto 10 (zat TX6_tell 44 rfl) (by decide) ?_
            exact k _
          · exact absurd rfl Hc68
        · exact absurd rfl Hc52
      · exact absurd Hc33 n2
theorem tl_kind {l : Launch} {e : Nat} {kd : Int32} {h : zH} {i N : Nat} {Q : zO → zH → Prop} (hN : zN h 75 e = N) (hN2 : N ≤ 301) {w hold : Int32} (hi : i < N) (hw : zI h 75 e i = w) (n1 : w = -1 ∨ w = -2) (k : TLw l e kd h (i + 1) (zb (w = kd)) Q) : TLw l e kd h i hold Q := by
  intro x
  refine w_iload (zat TX6_tell 7 rfl) rfl ?_
  refine w_aload_n (zat TX6_tell 8 rfl) rfl ?_
  refine w_alen (zat TX6_tell 9 rfl) (by decide) (by decide) (congrArg nI hN) ?_
  refine w_icmp_ge 84 (zat TX6_tell 10 rfl) (by decide) (fun Hc14 => ?_) (fun Hc14 => ?_)
  · exact absurd Hc14 (nI_ge hi (by omega))
  · refine w_aload_n (zat TX6_tell 11 rfl) rfl ?_
    refine w_iload (zat TX6_tell 12 rfl) rfl ?_
    refine y_iaload _ _ (v := w) (zat TX6_tell 13 rfl) s75 (by decide) hN (by omega) rfl hi hw ?_
    refine x_istore (ls2 := [_, _, _, _, _, _]) (zat TX6_tell 14 rfl) (by decide) rfl ?_
    refine w_iload (zat TX6_tell 15 rfl) rfl ?_
    refine w_iconst (v := -1) (zat TX6_tell 16 rfl) (by decide) ?_
    refine w_icmp_eq 36 (zat TX6_tell 17 rfl) (by decide) (fun Hc26 => ?_) (fun Hc26 => ?_)
    · refine w_iload (zat TX6_tell 21 rfl) rfl ?_
      refine w_iload_n (zat TX6_tell 22 rfl) rfl ?_
      refine w_icmp_ne 46 (zat TX6_tell 23 rfl) (by decide) (fun Hc39 => ?_) (fun Hc39 => ?_)
      · rw [zb_f Hc39] at k
        refine w_iconst (v := 0) (zat TX6_tell 26 rfl) (by decide) ?_
        refine x_istore_n (ls2 := [_, _, _, _, _, _]) (zat TX6_tell 27 rfl) (by decide) rfl ?_
        refine w_goto 78 (zat TX6_tell 28 rfl) (by decide) ?_
        refine x_iinc (v := nI (i + 1)) (ls2 := [_, _, _, _, _, _]) (zat TX6_tell 43 rfl) rfl (nI_inc i) rfl ?_
        refine w_goto 10 (zat TX6_tell 44 rfl) (by decide) ?_
        exact k _
      · rw [zb_t Hc39] at k
        refine w_iconst (v := 1) (zat TX6_tell 24 rfl) (by decide) ?_
        refine w_goto 47 (zat TX6_tell 25 rfl) (by decide) ?_
        refine x_istore_n (ls2 := [_, _, _, _, _, _]) (zat TX6_tell 27 rfl) (by decide) rfl ?_
        refine w_goto 78 (zat TX6_tell 28 rfl) (by decide) ?_
        refine x_iinc (v := nI (i + 1)) (ls2 := [_, _, _, _, _, _]) (zat TX6_tell 43 rfl) rfl (nI_inc i) rfl ?_
        refine w_goto 10 (zat TX6_tell 44 rfl) (by decide) ?_
        exact k _
    · refine w_iload (zat TX6_tell 18 rfl) rfl ?_
      refine w_bipush (v := -2) (zat TX6_tell 19 rfl) (by decide) ?_
      refine w_icmp_ne 51 (zat TX6_tell 20 rfl) (by decide) (fun Hc33 => ?_) (fun Hc33 => ?_)
      · exact absurd (n1.resolve_left Hc26) Hc33
      · refine w_iload (zat TX6_tell 21 rfl) rfl ?_
        refine w_iload_n (zat TX6_tell 22 rfl) rfl ?_
        refine w_icmp_ne 46 (zat TX6_tell 23 rfl) (by decide) (fun Hc39 => ?_) (fun Hc39 => ?_)
        · rw [zb_f Hc39] at k
          refine w_iconst (v := 0) (zat TX6_tell 26 rfl) (by decide) ?_
          refine x_istore_n (ls2 := [_, _, _, _, _, _]) (zat TX6_tell 27 rfl) (by decide) rfl ?_
          refine w_goto 78 (zat TX6_tell 28 rfl) (by decide) ?_
          refine x_iinc (v := nI (i + 1)) (ls2 := [_, _, _, _, _, _]) (zat TX6_tell 43 rfl) rfl (nI_inc i) rfl ?_
          refine w_goto 10 (zat TX6_tell 44 rfl) (by decide) ?_
          exact k _
        · rw [zb_t Hc39] at k
          refine w_iconst (v := 1) (zat TX6_tell 24 rfl) (by decide) ?_
          refine w_goto 47 (zat TX6_tell 25 rfl) (by decide) ?_
          refine x_istore_n (ls2 := [_, _, _, _, _, _]) (zat TX6_tell 27 rfl) (by decide) rfl ?_
          refine w_goto 78 (zat TX6_tell 28 rfl) (by decide) ?_
          refine x_iinc (v := nI (i + 1)) (ls2 := [_, _, _, _, _, _]) (zat TX6_tell 43 rfl) rfl (nI_inc i) rfl ?_
          refine w_goto 10 (zat TX6_tell 44 rfl) (by decide) ?_
          exact k _
theorem tl_is {l : Launch} {e : Nat} {kd : Int32} {h : zH} {i N : Nat} {Q : zO → zH → Prop} (hN : zN h 75 e = N) (hN2 : N ≤ 301) (hW : Wc h) (hi : i < N) (hw : zI h 75 e i = -5) {v : Int32} (hS : SR h [v]) (hq : Q (Rv (Vi v)) (zsI h 63 0 1 (nI 0))) : TLw l e kd h i 1 Q := by
  intro x
  refine w_iload (zat TX6_tell 7 rfl) rfl ?_
  refine w_aload_n (zat TX6_tell 8 rfl) rfl ?_
  refine w_alen (zat TX6_tell 9 rfl) (by decide) (by decide) (congrArg nI hN) ?_
  refine w_icmp_ge 84 (zat TX6_tell 10 rfl) (by decide) (fun Hc14 => ?_) (fun Hc14 => ?_)
  · exact absurd Hc14 (nI_ge hi (by omega))
  · refine w_aload_n (zat TX6_tell 11 rfl) rfl ?_
    refine w_iload (zat TX6_tell 12 rfl) rfl ?_
    refine y_iaload _ _ (v := -5) (zat TX6_tell 13 rfl) s75 (by decide) hN (by omega) rfl hi hw ?_
    refine x_istore (ls2 := [_, _, _, _, _, _]) (zat TX6_tell 14 rfl) (by decide) rfl ?_
    refine w_iload (zat TX6_tell 15 rfl) rfl ?_
    refine w_iconst (v := -1) (zat TX6_tell 16 rfl) (by decide) ?_
    refine w_icmp_eq 36 (zat TX6_tell 17 rfl) (by decide) (fun Hc26 => ?_) (fun Hc26 => ?_)
    · exact absurd Hc26 (by decide)
    · refine w_iload (zat TX6_tell 18 rfl) rfl ?_
      refine w_bipush (v := -2) (zat TX6_tell 19 rfl) (by decide) ?_
      refine w_icmp_ne 51 (zat TX6_tell 20 rfl) (by decide) (fun Hc33 => ?_) (fun Hc33 => ?_)
      · refine w_iload_n (zat TX6_tell 29 rfl) rfl ?_
        refine w_if_eq 67 (zat TX6_tell 30 rfl) (by decide) (fun Hc52 => ?_) (fun Hc52 => ?_)
        · exact absurd Hc52 (by decide)
        · refine w_iload (zat TX6_tell 31 rfl) rfl ?_
          refine w_bipush (v := -5) (zat TX6_tell 32 rfl) (by decide) ?_
          refine w_icmp_ne 67 (zat TX6_tell 33 rfl) (by decide) (fun Hc59 => ?_) (fun Hc59 => ?_)
          · exact absurd rfl Hc59
          · refine w_aload_n (zat TX6_tell 34 rfl) rfl ?_
            refine x_callv1 (qX6_pop l _ hW 0 hS.1 (by decide)) (by decide) kX6_pop (rdy_V (zat TX6_tell 35 rfl) kX6_pop pX6_pop zw666 zw668 zw17 (zrc (by decide) (by decide) rfl)) (Nat.le_of_ble_eq_true rfl) rfl rfl ?_
            rw [show zI h 78 0 0 = v from hS.2 0 v rfl]
            refine w_ireturn (zat TX6_tell 36 rfl) rfl rfl ?_
            exact hq
      · exact absurd Hc33 (by decide)
theorem tl_item {l : Launch} {e : Nat} {kd : Int32} {h : zH} {i N : Nat} {Q : zO → zH → Prop} (hN : zN h 75 e = N) (hN2 : N ≤ 301) (hW : Wc h) (it : Nat × Int32) (hok : okI it) (hi : i < N) (hw : zI h 75 e i = enI it) (n1 : ¬ enI it = -1) (n2 : ¬ enI it = -2) (n5 : ¬ enI it = -5) (L : List Int32) (hS : SR h L) (hL30 : L.length ≤ 30) (m : Nat) (hd : dp L.length it = some m)
    (k : ∀ h', SR h' (stp (envR h) it (L, true)).1 → FrR h h' → TLw l e kd h' (i + 1) (zb ((stp (envR h) it (L, true)).2 = true)) Q) : TLw l e kd h i 1 Q := by
  intro x
  obtain ⟨dd, hdd, hct⟩ := qX6_step l h hW it hok L hS hL30 m hd
  refine w_iload (zat TX6_tell 7 rfl) rfl ?_
  refine w_aload_n (zat TX6_tell 8 rfl) rfl ?_
  refine w_alen (zat TX6_tell 9 rfl) (by decide) (by decide) (congrArg nI hN) ?_
  refine w_icmp_ge 84 (zat TX6_tell 10 rfl) (by decide) (fun Hc14 => ?_) (fun Hc14 => ?_)
  · exact absurd Hc14 (nI_ge hi (by omega))
  · refine w_aload_n (zat TX6_tell 11 rfl) rfl ?_
    refine w_iload (zat TX6_tell 12 rfl) rfl ?_
    refine y_iaload _ _ (v := enI it) (zat TX6_tell 13 rfl) s75 (by decide) hN (by omega) rfl hi hw ?_
    refine x_istore (ls2 := [_, _, _, _, _, _]) (zat TX6_tell 14 rfl) (by decide) rfl ?_
    refine w_iload (zat TX6_tell 15 rfl) rfl ?_
    refine w_iconst (v := -1) (zat TX6_tell 16 rfl) (by decide) ?_
    refine w_icmp_eq 36 (zat TX6_tell 17 rfl) (by decide) (fun Hc26 => ?_) (fun Hc26 => ?_)
    · exact absurd Hc26 n1
    · refine w_iload (zat TX6_tell 18 rfl) rfl ?_
      refine w_bipush (v := -2) (zat TX6_tell 19 rfl) (by decide) ?_
      refine w_icmp_ne 51 (zat TX6_tell 20 rfl) (by decide) (fun Hc33 => ?_) (fun Hc33 => ?_)
      · refine w_iload_n (zat TX6_tell 29 rfl) rfl ?_
        refine w_if_eq 67 (zat TX6_tell 30 rfl) (by decide) (fun Hc52 => ?_) (fun Hc52 => ?_)
        · exact absurd Hc52 (by decide)
        · refine w_iload (zat TX6_tell 31 rfl) rfl ?_
          refine w_bipush (v := -5) (zat TX6_tell 32 rfl) (by decide) ?_
          refine w_icmp_ne 67 (zat TX6_tell 33 rfl) (by decide) (fun Hc59 => ?_) (fun Hc59 => ?_)
          · refine w_iload_n (zat TX6_tell 37 rfl) rfl ?_
            refine w_if_eq 78 (zat TX6_tell 38 rfl) (by decide) (fun Hc68 => ?_) (fun Hc68 => ?_)
            · exact absurd Hc68 (by decide)
            · refine w_aload_n (zat TX6_tell 39 rfl) rfl ?_
              refine w_iload (zat TX6_tell 40 rfl) rfl ?_
              refine x_call2 (hct) (by omega) kX6_step (rdy_V (zat TX6_tell 41 rfl) kX6_step pX6_step zw670 zw672 zw18 (zrc (by decide) (by decide) rfl)) (Nat.le_of_ble_eq_true rfl) rfl rfl (fun v h2 hq => ?_) (fun r h2 hq => by cases hq.1)
              obtain ⟨hq1, hq2, hq3⟩ := hq
              cases hq1
              refine x_istore_n (ls2 := [_, _, _, _, _, _]) (zat TX6_tell 42 rfl) (by decide) rfl ?_
              refine x_iinc (v := nI (i + 1)) (ls2 := [_, _, _, _, _, _]) (zat TX6_tell 43 rfl) rfl (nI_inc i) rfl ?_
              refine w_goto 10 (zat TX6_tell 44 rfl) (by decide) ?_
              exact k _ hq2 hq3 _
          · exact absurd Hc59 n5
      · exact absurd Hc33 n2
theorem enI_ne {it : Nat × Int32} (hok : okI it) : ¬ enI it = -1 ∧ ¬ enI it = -2 ∧ ¬ enI it = -5 := by
  obtain ⟨s, v⟩ := it
  rcases hok with ⟨h0, h1, h2⟩ | ⟨h0, k, hk, h1⟩ | ⟨h0, h1⟩
  · dsimp only at h0 h1
    subst h0
    show ¬ v = -1 ∧ ¬ v = -2 ∧ ¬ v = -5
    refine ⟨fun q => ?_, fun q => ?_, fun q => ?_⟩ <;> (subst q; exact absurd h1 (by decide))
  · dsimp only at h0 h1
    subst h0; subst h1
    have he : enI (1, nI k) = enN k := by
      unfold enI
      dsimp only
      rw [if_neg (by decide), if_pos rfl, nI_clamp (by omega)]
    rw [he]
    rcases (show k = 0 ∨ k = 1 ∨ k = 2 ∨ k = 3 by omega) with e | e | e | e <;> subst e <;> decide
  · dsimp only at h0 h1
    rcases (show s = 2 ∨ s = 3 ∨ s = 4 ∨ s = 5 ∨ s = 6 ∨ s = 7 ∨ s = 8 by omega) with e | e | e | e | e | e | e <;> subst e
    · exact (show ¬ (-14 : Int32) = -1 ∧ ¬ (-14 : Int32) = -2 ∧ ¬ (-14 : Int32) = -5 by decide)
    · exact (show ¬ (-15 : Int32) = -1 ∧ ¬ (-15 : Int32) = -2 ∧ ¬ (-15 : Int32) = -5 by decide)
    · exact (show ¬ (-16 : Int32) = -1 ∧ ¬ (-16 : Int32) = -2 ∧ ¬ (-16 : Int32) = -5 by decide)
    · exact (show ¬ (-17 : Int32) = -1 ∧ ¬ (-17 : Int32) = -2 ∧ ¬ (-17 : Int32) = -5 by decide)
    · exact (show ¬ (-11 : Int32) = -1 ∧ ¬ (-11 : Int32) = -2 ∧ ¬ (-11 : Int32) = -5 by decide)
    · exact (show ¬ (-12 : Int32) = -1 ∧ ¬ (-12 : Int32) = -2 ∧ ¬ (-12 : Int32) = -5 by decide)
    · exact (show ¬ (-13 : Int32) = -1 ∧ ¬ (-13 : Int32) = -2 ∧ ¬ (-13 : Int32) = -5 by decide)
theorem stp_f (env : Nat → Int32) (it : Nat × Int32) (L : List Int32) : (stp env it (L, false)).2 = false := by
  unfold stp
  split
  · rfl
  · dsimp only
    split
    · split <;> rfl
    · rfl
theorem runI_f (env : Nat → Int32) : ∀ (its : List (Nat × Int32)) (L : List Int32), (runI env its (L, false)).2 = false
  | [], _ => rfl
  | it :: t, L => by
    show (runI env t (stp env it (L, false))).2 = false
    have h1 := stp_f env it L
    obtain ⟨L', b, h2⟩ : ∃ L' b, stp env it (L, false) = (L', b) := ⟨_, _, rfl⟩
    rw [h2] at h1 ⊢
    dsimp only at h1
    subst h1
    exact runI_f env t L'
theorem stp_dp {env : Nat → Int32} {it : Nat × Int32} {L : List Int32} {b : Bool} {m : Nat} (h : dp L.length it = some m) : (stp env it (L, b)).1.length = m := by
  unfold dp at h
  unfold stp
  by_cases h1 : it.1 ≤ 1
  · rw [if_pos h1] at h ⊢
    split at h
    · cases h; rfl
    · cases h
  · rw [if_neg h1] at h ⊢
    dsimp only
    have hL : 2 ≤ L.length := by
      split at h
      · split at h
        · omega
        · cases h
      · split at h
        · assumption
        · cases h
    match L, hL with
    | b :: a :: r, _ =>
      dsimp only
      split
      · rename_i h6
        rw [if_pos h6] at h
        split at h
        · rename_i h2
          cases h
          have : (b :: a :: r).length = r.length + 2 := rfl
          show r.length = 0
          omega
        · cases h
      · rename_i h6
        rw [if_neg h6] at h
        split at h
        · cases h
          show r.length + 1 = r.length + 2 - 1
          omega
        · rename_i q
          exact absurd (show 2 ≤ (b :: a :: r).length from Nat.le_add_left 2 r.length) q
theorem stp_c {env : Nat → Int32} {it : Nat × Int32} {L L' : List Int32} {m : Nat} (h : stp env it (L, true) = (L', false)) (hd : dp L.length it = some m) : m = 0 := by
  unfold stp at h
  unfold dp at hd
  by_cases h1 : it.1 ≤ 1
  · rw [if_pos h1] at h
    have := congrArg Prod.snd h
    cases this
  · rw [if_neg h1] at h hd
    by_cases h6 : 6 ≤ it.1
    · rw [if_pos h6] at hd
      split at hd
      · cases hd; rfl
      · cases hd
    · exfalso
      dsimp only at h
      split at h
      · rw [if_neg h6] at h
        have := congrArg Prod.snd h
        cases this
      · have := congrArg Prod.snd h
        cases this
theorem dp_le {n m : Nat} {it : Nat × Int32} (hn : n ≤ 30) (h : dp n it = some m) : m ≤ 30 := by
  unfold dp at h
  split at h
  · split at h
    · cases h; omega
    · cases h
  · split at h
    · split at h
      · cases h; omega
      · cases h
    · split at h
      · cases h; omega
      · cases h
/-- words behind a test that fails are passed -/
theorem tl_skips {l : Launch} {e : Nat} {kd : Int32} {h : zH} {N : Nat} {Q : zO → zH → Prop} (hN : zN h 75 e = N) (hN2 : N ≤ 301) : ∀ (ws : List Int32) (i : Nat), i + ws.length ≤ N → (∀ j w, ws[j]? = some w → zI h 75 e (i + j) = w) → (∀ w ∈ ws, ¬ w = -1 ∧ ¬ w = -2) → TLw l e kd h (i + ws.length) 0 Q → TLw l e kd h i 0 Q
  | [], i, _, _, _, k => k
  | w :: t, i, hl, hw, hn, k => by
    have hl' : i + (t.length + 1) ≤ N := hl
    refine tl_skip hN hN2 (by omega) (hw 0 w rfl) (hn w List.mem_cons_self).1 (hn w List.mem_cons_self).2 ?_
    refine tl_skips hN hN2 t (i + 1) (by omega) (fun j w' hj => ?_) (fun w' hw' => hn w' (List.mem_cons_of_mem _ hw')) ?_
    · have := hw (j + 1) w' hj
      rw [show i + (j + 1) = i + 1 + j by omega] at this
      exact this
    · have e1 : i + (w :: t).length = i + 1 + t.length := by simp; omega
      rw [e1] at k
      exact k
theorem tl_items {l : Launch} {e : Nat} {kd : Int32} {h0 : zH} {N : Nat} {Q : zO → zH → Prop} (hW0 : Wc h0) (hN0 : zN h0 75 e = N) (hN2 : N ≤ 301) : ∀ (its : List (Nat × Int32)) (h : zH) (i : Nat) (L : List Int32), FrR h0 h → SR h L → L.length ≤ 30 → dps L.length its = some 1 → (∀ it ∈ its, okI it) → i + its.length + 1 ≤ N → (∀ j w, (its.map enI ++ [-5])[j]? = some w → zI h0 75 e (i + j) = w) →
    (∀ h' v, FrR h0 h' → runI (envR h0) its (L, true) = ([v], true) → Q (Rv (Vi v)) h') → (∀ h', FrR h0 h' → SR h' [] → (runI (envR h0) its (L, true)).2 = false → TLw l e kd h' (i + its.length + 1) 0 Q) → TLw l e kd h i 1 Q
  | [], h, i, L, hF, hS, hL, hd, hok, hl, hw, kr, ks => by
    have hL1 : L.length = 1 := Option.some.inj hd
    obtain ⟨v, rfl⟩ : ∃ v, L = [v] := List.length_eq_one_iff.mp hL1
    have hl' : i + 0 + 1 ≤ N := hl
    have hN : zN h 75 e = N := by rw [← hN0]; unfold zN; rw [hF.1]
    refine tl_is hN hN2 (Wc.same (congrArg Prod.snd hF.1) hW0) (by omega) ?_ hS (kr _ v (hF.s _) rfl)
    rw [hF.2.1 75 (by decide) (by decide)]
    exact hw 0 (-5) rfl
  | it :: t, h, i, L, hF, hS, hL, hd, hok, hl, hw, kr, ks => by
    have hl' : i + (t.length + 1) + 1 ≤ N := hl
    have hN : zN h 75 e = N := by rw [← hN0]; unfold zN; rw [hF.1]
    have hok1 := hok it List.mem_cons_self
    obtain ⟨n1, n2, n5⟩ := enI_ne hok1
    obtain ⟨m, hm, hdt⟩ : ∃ m, dp L.length it = some m ∧ dps m t = some 1 := by
      unfold dps at hd
      cases hz : dp L.length it with
      | none => rw [hz] at hd; cases hd
      | some m => rw [hz] at hd; exact ⟨m, rfl, hd⟩
    have hw0 : zI h 75 e i = enI it := by
      rw [hF.2.1 75 (by decide) (by decide)]
      exact hw 0 (enI it) rfl
    refine tl_item hN hN2 (Wc.same (congrArg Prod.snd hF.1) hW0) it hok1 (by omega) hw0 n1 n2 n5 L hS hL m hm (fun h' hS' hF' => ?_)
    have hlen := stp_dp (env := envR h) (b := true) hm
    have henv : envR h = envR h0 := hF.env
    rw [henv] at hS' hlen ⊢
    have hrun : runI (envR h0) (it :: t) (L, true) = runI (envR h0) t (stp (envR h0) it (L, true)) := rfl
    obtain ⟨L', b, hs⟩ : ∃ L' b, stp (envR h0) it (L, true) = (L', b) := ⟨_, _, rfl⟩
    rw [hs] at hS' hlen hrun ⊢
    dsimp only at hS' hlen ⊢
    have hw1 : ∀ j w, (t.map enI ++ [-5])[j]? = some w → zI h0 75 e (i + 1 + j) = w := fun j w hj => by
      have := hw (j + 1) w hj
      rw [show i + (j + 1) = i + 1 + j by omega] at this
      exact this
    have hei : i + (it :: t).length + 1 = i + 1 + t.length + 1 := by simp; omega
    cases b with
    | true =>
      rw [zb_t rfl]
      refine tl_items hW0 hN0 hN2 t h' (i + 1) L' (hF.tr hF') hS' (by rw [hlen]; exact dp_le hL hm) (by rw [hlen]; exact hdt) (fun it' h'' => hok it' (List.mem_cons_of_mem _ h'')) (by omega) hw1 (fun h'' v hF'' hr => kr h'' v hF'' (by rw [hrun]; exact hr)) (fun h'' hF'' hS'' hr => ?_)
      have := ks h'' hF'' hS'' (by rw [hrun]; exact hr)
      rw [hei] at this
      exact this
    | false =>
      rw [zb_f (by decide)]
      have hN' : zN h' 75 e = N := by rw [← hN0]; unfold zN; rw [(hF.tr hF').1]
      refine tl_skips hN' hN2 (t.map enI ++ [-5]) (i + 1) (by simp; omega) (fun j w hj => ?_) (fun w hw' => ?_) ?_
      · rw [(hF.tr hF').2.1 75 (by decide) (by decide)]
        exact hw1 j w hj
      · rcases List.mem_append.mp hw' with q | q
        · obtain ⟨it', h1, rfl⟩ := List.mem_map.mp q
          have := enI_ne (hok it' (List.mem_cons_of_mem _ h1))
          exact ⟨this.1, this.2.1⟩
        · rw [List.mem_singleton.mp q]
          decide
      · have hL0 : L' = [] := List.eq_nil_of_length_eq_zero (by rw [hlen]; exact stp_c hs hm)
        rw [hL0] at hS'
        have := ks h' (hF.tr hF') hS' (by rw [hrun]; exact runI_f _ t L')
        rw [hei] at this
        have e2 : i + 1 + (t.map enI ++ [-5]).length = i + 1 + t.length + 1 := by simp; omega
        rw [e2]
        exact this
/-- a line's words -/
def enL (ln : Bool × List (Nat × Int32)) : List Int32 := (if ln.1 then -2 else -1) :: (ln.2.map enI ++ [-5])
def enP (p : List (Bool × List (Nat × Int32))) : List Int32 := p.flatMap enL
/-- a line holds if it is of that kind and its tests hold -/
def lnV (env : Nat → Int32) (its : List (Nat × Int32)) : Option Int32 := match runI env its ([], true) with
  | (v :: _, true) => some v
  | _ => none
def tlP (env : Nat → Int32) (dy : Bool) : List (Bool × List (Nat × Int32)) → Int32
  | [] => 0
  | ln :: t => if ln.1 = dy then (match lnV env ln.2 with
    | some v => v
    | none => tlP env dy t) else tlP env dy t
def okL (ln : Bool × List (Nat × Int32)) : Prop := (∀ it ∈ ln.2, okI it) ∧ dps 0 ln.2 = some 1
def kw (dy : Bool) : Int32 := if dy then -2 else -1
theorem SR.nil {h : zH} (x : zI h 63 0 1 = nI 0) : SR h [] := ⟨x, fun i v hi => by simp at hi⟩
theorem runI_len {env : Nat → Int32} : ∀ {its : List (Nat × Int32)} {L : List Int32} {b : Bool} {m : Nat}, dps L.length its = some m → (runI env its (L, b)).1.length = m
  | [], L, b, m, h => Option.some.inj h
  | it :: t, L, b, m, h => by
    unfold dps at h
    cases hz : dp L.length it with
    | none => rw [hz] at h; cases h
    | some m' =>
      rw [hz] at h
      have hl := stp_dp (env := env) (b := b) hz
      show (runI env t (stp env it (L, b))).1.length = m
      obtain ⟨L', b', hs⟩ : ∃ L' b', stp env it (L, b) = (L', b') := ⟨_, _, rfl⟩
      rw [hs] at hl ⊢
      dsimp only at hl
      exact runI_len (by rw [hl]; exact h)
