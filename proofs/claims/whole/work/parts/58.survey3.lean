-- survey of the class: borders, by program (wip/gen/p58.py)
theorem FrS.join (h : zH) (k : Nat) (a b t : Int32) : FrS h (cJoin h k a b t) := ⟨rfl, fun j _ _ _ _ _ _ _ _ h9 ha hb => funext (fun i => funext (fun x => (if_neg (fun z => hb z.1)).trans ((if_neg (fun z => ha z.1)).trans (if_neg (fun z => h9 z.1))))), fun _ _ _ => rfl, fun _ _ _ => rfl, fun _ _ _ => rfl⟩
/-- the borders as the class holds them -/
def BK (h : zH) (nP nB : Nat) (on ot c : Nat → Nat) : Prop := ∀ k, k < nB → zI h 59 k 0 = nI (on k) ∧ zI h 59 k 1 = nI (ot k) ∧ on k < nP ∧ ot k < nP ∧ zI h 59 k 2 + zI h 59 k 3 * zI h 0 0 12 = nI (c k) ∧ c k < 3000
theorem BT.more {h : zH} {nP s : Nat} {on ot c : Nat → Nat} (x : BT h nP s on ot c) (h1 : on s < nP) (h2 : ot s < nP) (h3 : c s < 3000) : BT (cJoin h s (nI (on s)) (nI (ot s)) (nI (c s))) nP (s + 1) on ot c := by
  intro k hk
  by_cases e : k = s
  · subst e
    exact ⟨zI_same h 70 0 k _, zI_same (zsI h 70 0 k _) 71 0 k _, h1, h2, zI_same (zsI (zsI h 70 0 k _) 71 0 k _) 72 0 k _, h3⟩
  · obtain ⟨a1, a2, a3, a4, a5, a6⟩ := x k (by omega)
    exact ⟨(zI_oth h 70 0 s _ e).trans a1, (zI_oth (zsI h 70 0 s _) 71 0 s _ e).trans a2, a3, a4, (zI_oth (zsI (zsI h 70 0 s _) 71 0 s _) 72 0 s _ e).trans a5, a6⟩
theorem lX11_survey_73 (l : Launch) (h0 : zH) (hW0 : Wc h0) (nP nB : Nat) (hB0 : zI h0 0 0 9 = nI nB) (hB2 : nB ≤ 16) (hB3 : zC h0 59 = nB) (on ot c : Nat → Nat) (hBK : BK h0 nP nB on ot c) (Q : zO → zH → Prop) (R : zH → Prop) (hkeep : ∀ h k a b t, R h → R (cJoin h k a b t)) (K : ∀ h, FrS h0 h → R h → BT h nP nB on ot c → ∀ y x, Wp l mX11_survey 8 124 [some (Vq (some (0, 0))), y, x] [] h Q) : ∀ kk s : Nat, s + kk = nB → ∀ h, FrS h0 h → R h → BT h nP s on ot c → ∀ x, Wp l mX11_survey 8 73 [some (Vq (some (0, 0))), some (Vi (nI s)), x] [] h Q := by
  intro kk
  induction kk with
  | zero =>
    intro s hs h hF hR hT x
    have hg := hF.1
    have hW := Wc.same hg hW0
    have hB : zI h 0 0 9 = nI nB := by rw [hF.2.1 0 (by decide) (by decide) (by decide) (by decide) (by decide) (by decide) (by decide) (by decide) (by decide) (by decide) (by decide)]; exact hB0
    have hz : s < zC h 59 ↔ s < nB := by unfold zC at hB3 ⊢; rw [hg, hB3]
    refine w_iload_n (zat TX11_survey_0 39 rfl) rfl ?_
    refine w_aload_n (zat TX11_survey_0 40 rfl) rfl ?_
    refine y_getI (v := nI nB) (zat TX11_survey_0 41 rfl) fX11_66 s0 (by decide) (by decide) rfl hB ?_
    refine w_icmp_ge 124 (zat TX11_survey_0 42 rfl) (by decide) (fun Hc78 => ?_) (fun Hc78 => ?_)
    · have e : s = nB := by omega
      subst e
      exact K h hF hR hT _ _
    · exact absurd (nI_le (by omega) (by omega)) Hc78
  | succ kk ih =>
    intro s hs h hF hR hT x
    have hg := hF.1
    have hW := Wc.same hg hW0
    have hB : zI h 0 0 9 = nI nB := by rw [hF.2.1 0 (by decide) (by decide) (by decide) (by decide) (by decide) (by decide) (by decide) (by decide) (by decide) (by decide) (by decide)]; exact hB0
    have hz : s < zC h 59 ↔ s < nB := by unfold zC at hB3 ⊢; rw [hg, hB3]
    obtain ⟨b1, b2, b3, b4, b5, b6⟩ := hBK s (by omega)
    rw [← hF.2.1 59 (by decide) (by decide) (by decide) (by decide) (by decide) (by decide) (by decide) (by decide) (by decide) (by decide) (by decide)] at b1 b2 b5
    rw [← hF.2.1 0 (by decide) (by decide) (by decide) (by decide) (by decide) (by decide) (by decide) (by decide) (by decide) (by decide) (by decide)] at b5
    refine w_iload_n (zat TX11_survey_0 39 rfl) rfl ?_
    refine w_aload_n (zat TX11_survey_0 40 rfl) rfl ?_
    refine y_getI (v := nI nB) (zat TX11_survey_0 41 rfl) fX11_66 s0 (by decide) (by decide) rfl hB ?_
    refine w_icmp_ge 124 (zat TX11_survey_0 42 rfl) (by decide) (fun Hc78 => ?_) (fun Hc78 => ?_)
    · exact absurd Hc78 (nI_ge (by omega) (by omega))
    · refine w_aload_n (zat TX11_survey_0 43 rfl) rfl ?_
      refine w_getR (zat TX11_survey_0 44 rfl) fX11_17 s0 (by decide) (by decide) rfl (wcr hW 1 rfl) ?_
      refine w_iload_n (zat TX11_survey_0 45 rfl) rfl ?_
      refine x_aaload s _ (zat TX11_survey_0 46 rfl) (by decide) (by decide) ⟨_, rfl⟩ (wcn hW 1 rfl) (by decide) rfl (by omega) (hW.2.2.2.1 s (hz.mpr (by omega))) ?_
      refine x_astore_n (ls2 := [_, _, _]) (zat TX11_survey_0 47 rfl) (by decide) rfl ?_
      refine w_aload_n (zat TX11_survey_0 48 rfl) rfl ?_
      refine w_getR (zat TX11_survey_0 49 rfl) fX11_51 s0 (by decide) (by decide) rfl (wcr hW 6 rfl) ?_
      refine w_iload_n (zat TX11_survey_0 50 rfl) rfl ?_
      refine w_aload_n (zat TX11_survey_0 51 rfl) rfl ?_
      refine y_getI (v := nI (on s)) (zat TX11_survey_0 52 rfl) fX11_228 s59 (by decide) (by decide) rfl b1 ?_
      refine w_aload_n (zat TX11_survey_0 53 rfl) rfl ?_
      refine y_getI (v := nI (ot s)) (zat TX11_survey_0 54 rfl) fX11_231 s59 (by decide) (by decide) rfl b2 ?_
      refine w_aload_n (zat TX11_survey_0 55 rfl) rfl ?_
      refine y_getI (v := zI h 59 s 2) (zat TX11_survey_0 56 rfl) fX11_234 s59 (by decide) (by decide) rfl rfl ?_
      refine w_aload_n (zat TX11_survey_0 57 rfl) rfl ?_
      refine y_getI (v := zI h 59 s 3) (zat TX11_survey_0 58 rfl) fX11_134 s59 (by decide) (by decide) rfl rfl ?_
      refine w_aload_n (zat TX11_survey_0 59 rfl) rfl ?_
      refine y_getI (v := zI h 0 0 12) (zat TX11_survey_1 0 rfl) fX11_75 s0 (by decide) (by decide) rfl rfl ?_
      refine w_imul (zat TX11_survey_1 1 rfl) ?_
      refine w_iadd (zat TX11_survey_1 2 rfl) ?_
      rw [b5]
      refine x_callu5 (qX3_join l h hW s _ _ _ (by omega)) (by decide) kX3_join (rdy_V (zat TX11_survey_1 3 rfl) kX3_join pX3_join zw712 zw713 zw714 (zrc (by decide) (by decide) rfl)) (Nat.le_of_ble_eq_true rfl) rfl rfl ?_
      refine x_iinc (v := nI (s + 1)) (ls2 := [_, _, _]) (zat TX11_survey_1 4 rfl) rfl (nI_inc s) rfl ?_
      refine w_goto 73 (zat TX11_survey_1 5 rfl) (by decide) ?_
      exact ih (s + 1) (by omega) _ (hF.tr (FrS.join h s _ _ _)) (hkeep h s _ _ _ hR) (hT.more b3 b4 b6) _
