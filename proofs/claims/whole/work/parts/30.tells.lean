-- tell, by program (wip/gen/p30.py)
theorem enL_len (ln : Bool × List (Nat × Int32)) : (enL ln).length = ln.2.length + 2 := by unfold enL; simp
theorem kw_eq (a b : Bool) : (kw a = kw b) ↔ a = b := by cases a <;> cases b <;> decide
theorem tl_lines {l : Launch} {e : Nat} {dy : Bool} {h0 : zH} {N : Nat} {Q : zO → zH → Prop} (hW0 : Wc h0) (hN0 : zN h0 75 e = N) (hN2 : N ≤ 301) : ∀ (p : List (Bool × List (Nat × Int32))) (h : zH) (i : Nat), FrR h0 h → SR h [] → (∀ ln ∈ p, okL ln) → i + (enP p).length = N → (∀ j w, (enP p)[j]? = some w → zI h0 75 e (i + j) = w) →
    (∀ h', FrR h0 h' → Q (Rv (Vi (tlP (envR h0) dy p))) h') → TLw l e (kw dy) h i 0 Q
  | [], h, i, hF, hS, hok, hl, hw, k => by
    have hN : zN h 75 e = N := by rw [← hN0]; unfold zN; rw [hF.1]
    exact tl_end hN hN2 hl (k h hF)
  | ln :: t, h, i, hF, hS, hok, hl, hw, k => by
    have hN : zN h 75 e = N := by rw [← hN0]; unfold zN; rw [hF.1]
    have hP : enP (ln :: t) = kw ln.1 :: ((ln.2.map enI ++ [-5]) ++ enP t) := rfl
    have hlen : (enP (ln :: t)).length = ln.2.length + 2 + (enP t).length := by rw [hP]; simp; omega
    have hokl := hok ln List.mem_cons_self
    have hw0 : zI h 75 e i = kw ln.1 := by
      rw [hF.2.1 75 (by decide) (by decide)]
      exact hw 0 _ (by rw [hP]; rfl)
    have hw1 : ∀ j w, (ln.2.map enI ++ [-5])[j]? = some w → zI h0 75 e (i + 1 + j) = w := fun j w hj => by
      have hj' : (enP (ln :: t))[j + 1]? = some w := by
        rw [hP, List.getElem?_cons_succ, List.getElem?_append_left (List.getElem?_eq_some_iff.mp hj).1]
        exact hj
      have := hw (j + 1) w hj'
      rw [show i + (j + 1) = i + 1 + j by omega] at this
      exact this
    have hw2 : ∀ j w, (enP t)[j]? = some w → zI h0 75 e (i + 1 + ln.2.length + 1 + j) = w := fun j w hj => by
      have hlen2 : (ln.2.map enI ++ [-5]).length = ln.2.length + 1 := by simp
      have hj' : (enP (ln :: t))[ln.2.length + 2 + j]? = some w := by
        rw [hP, show ln.2.length + 2 + j = (ln.2.length + 1 + j) + 1 by omega, List.getElem?_cons_succ, List.getElem?_append_right (by rw [hlen2]; omega), hlen2, show ln.2.length + 1 + j - (ln.2.length + 1) = j by omega]
        exact hj
      have := hw _ w hj'
      rw [show i + (ln.2.length + 2 + j) = i + 1 + ln.2.length + 1 + j by omega] at this
      exact this
    refine tl_kind hN hN2 (by omega) hw0 (by cases ln.1 <;> simp [kw]) ?_
    by_cases hk : ln.1 = dy
    · rw [zb_t ((kw_eq _ _).mpr hk)]
      refine tl_items hW0 hN0 hN2 ln.2 h (i + 1) [] hF hS (by simp) hokl.2 hokl.1 (by omega) hw1 (fun h' v hF' hr => ?_) (fun h' hF' hS' hr => ?_)
      · have := k h' hF'
        rw [tlP, if_pos hk] at this
        unfold lnV at this
        rw [hr] at this
        exact this
      · refine tl_lines hW0 hN0 hN2 t h' _ hF' hS' (fun ln' h'' => hok ln' (List.mem_cons_of_mem _ h'')) (by omega) hw2 (fun h'' hF'' => ?_)
        have := k h'' hF''
        rw [tlP, if_pos hk] at this
        unfold lnV at this
        obtain ⟨L', b, hs⟩ : ∃ L' b, runI (envR h0) ln.2 ([], true) = (L', b) := ⟨_, _, rfl⟩
        rw [hs] at hr this
        dsimp only at hr
        subst hr
        cases L' <;> exact this
    · rw [zb_f (fun q => hk ((kw_eq _ _).mp q))]
      refine tl_skips hN hN2 (ln.2.map enI ++ [-5]) (i + 1) (by simp; omega) (fun j w hj => ?_) (fun w hw' => ?_) ?_
      · rw [hF.2.1 75 (by decide) (by decide)]
        exact hw1 j w hj
      · rcases List.mem_append.mp hw' with q | q
        · obtain ⟨it', h1, rfl⟩ := List.mem_map.mp q
          have := enI_ne (hokl.1 it' h1)
          exact ⟨this.1, this.2.1⟩
        · rw [List.mem_singleton.mp q]
          decide
      · have e2 : i + 1 + (ln.2.map enI ++ [-5]).length = i + 1 + ln.2.length + 1 := by simp; omega
        rw [e2]
        refine tl_lines hW0 hN0 hN2 t h _ hF hS (fun ln' h'' => hok ln' (List.mem_cons_of_mem _ h'')) (by omega) hw2 (fun h'' hF'' => ?_)
        have := k h'' hF''
        rw [tlP, if_neg hk] at this
        exact this
/-- edict e's code is that of the program p -/
def CR (h : zH) (e : Nat) (p : List (Bool × List (Nat × Int32))) : Prop := zN h 75 e = (enP p).length ∧ (enP p).length ≤ 301 ∧ (∀ j w, (enP p)[j]? = some w → zI h 75 e j = w) ∧ ∀ ln ∈ p, okL ln
theorem qX6_tell (l : Launch) (h : zH) (hW : Wc h) (e : Nat) (p : List (Bool × List (Nat × Int32))) (hC : CR h e p) (dy : Bool) : Ct l 5 mX6_tell [Vq (some (63, 0)), Vq (some (75, e)), Vi (kw dy)] h (fun o h' => o = Rv (Vi (tlP (envR h) dy p)) ∧ FrR h h') := by
  refine Ct.in 3 kX6_tell (plainFor_of_name rfl) (Nat.le_of_ble_eq_true rfl) ?_
  refine w_iconst (v := 0) (zat TX6_tell 0 rfl) (by decide) ?_
  refine x_istore_n (ls2 := [_, _, _, _, _, _]) (zat TX6_tell 1 rfl) (by decide) rfl ?_
  refine w_aload_n (zat TX6_tell 2 rfl) rfl ?_
  refine w_iconst (v := 0) (zat TX6_tell 3 rfl) (by decide) ?_
  refine w_putI (zat TX6_tell 4 rfl) gX6_tell_15 s63 (by decide) (by decide) rfl ⟨rfl, rfl⟩ ?_
  refine w_iconst (v := 0) (zat TX6_tell 5 rfl) (by decide) ?_
  refine x_istore (ls2 := [_, _, _, _, _, _]) (zat TX6_tell 6 rfl) (by decide) rfl ?_
  have hF : FrR h (zsI h 63 0 1 0) := (FrR.rf h).s _
  exact tl_lines hW hC.1 hC.2.1 p _ 0 hF (SR.nil (zI_same _ 63 0 1 _)) hC.2.2.2 (by omega) (fun j w hj => by rw [Nat.zero_add]; exact hC.2.2.1 j w hj) (fun h' hF' => ⟨rfl, hF'⟩) _
