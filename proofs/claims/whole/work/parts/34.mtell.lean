-- tells of the model, whole, by program (wip/gen/p34.py)
theorem stp_m {n m s : Nat} {v : Int32} (h : dp n (s, v) = some m) (hs : 6 ≤ s) : m = 0 := by
  unfold dp at h
  dsimp only at h
  rw [if_neg (by omega), if_pos hs] at h
  split at h
  · cases h; rfl
  · cases h
def tsF (st : List Int32 × Bool) : Int32 := if st.2 then st.1.headD 0 else -1000001
theorem ts_items {l : Launch} {e li j : Nat} {y old : Int32} {K : Nat} {h0 : zH} {Q : zO → zH → Prop} (hWM : Wm h0) (he : e < zC h0 17) (hli : li < 12) (hj : j < 10) (hto : zI h0 38 e li = nI K) (hK : K ≤ 320) : ∀ (its : List (Nat × Int32)) (h : zH) (k : Nat) (L : List Int32) (b : Bool), FrT h0 h → SM h L → L.length ≤ 30 → dps L.length its = some 1 → (∀ it ∈ its, okI it) → (∀ i it, its[i]? = some it → zI h0 39 e (k + i) = nI it.1 ∧ zI h0 40 e (k + i) = it.2) → k + its.length = K →
    (∀ h', FrT h0 h' → Q (Rv (Vi (tsF (runI (envY y (zI h0 10 0 j) (zI h0 11 0 j) old) its (L, b))))) h') → TS l e li j y old L.length (zb (b = true)) k h Q
  | [], h, k, L, b, hF, hS, hL, hd, hok, hw, hk, kq => by
    have hL1 : L.length = 1 := Option.some.inj hd
    obtain ⟨v, rfl⟩ : ∃ v, L = [v] := List.length_eq_one_iff.mp hL1
    have hg : h.2.2 = h0.2.2 := congrArg Prod.snd hF.1
    have hWM2 : Wm h := Wm.same hg hWM
    have he2 : e < zC h 17 := by unfold zC; rw [hg]; exact he
    have hto2 : zI h 38 e li = nI K := by rw [hF.2 38 (by decide)]; exact hto
    refine ts_end hWM2 he2 hli hto2 hK hk ?_
    rw [hS 0 v rfl]
    exact kq h hF
  | it :: t, h, k, L, b, hF, hS, hL, hd, hok, hw, hk, kq => by
    have hk' : k + (t.length + 1) = K := hk
    have hg : h.2.2 = h0.2.2 := congrArg Prod.snd hF.1
    have hWM2 : Wm h := Wm.same hg hWM
    have he2 : e < zC h 17 := by unfold zC; rw [hg]; exact he
    have hto2 : zI h 38 e li = nI K := by rw [hF.2 38 (by decide)]; exact hto
    have hok1 := hok it List.mem_cons_self
    have hok2 : ∀ it' ∈ t, okI it' := fun it' h' => hok it' (List.mem_cons_of_mem _ h')
    have hw2 : ∀ i it', t[i]? = some it' → zI h0 39 e (k + 1 + i) = nI it'.1 ∧ zI h0 40 e (k + 1 + i) = it'.2 := fun i it' hi => by
      have := hw (i + 1) it' hi
      rw [show k + (i + 1) = k + 1 + i by omega] at this
      exact this
    obtain ⟨m, hm, hdt⟩ : ∃ m, dp L.length it = some m ∧ dps m t = some 1 := by
      unfold dps at hd
      cases hz : dp L.length it with
      | none => rw [hz] at hd; cases hd
      | some m => rw [hz] at hd; exact ⟨m, rfl, hd⟩
    have hlen := stp_dp (env := envY y (zI h0 10 0 j) (zI h0 11 0 j) old) (b := b) hm
    have hs := (hw 0 it rfl).1
    have hv := (hw 0 it rfl).2
    rw [Nat.add_zero, ← hF.2 39 (by decide)] at hs
    rw [Nat.add_zero, ← hF.2 40 (by decide)] at hv
    obtain ⟨s, v⟩ := it
    rcases hok1 with ⟨h0', h1, h2⟩ | ⟨h0', q, hq, h1⟩ | ⟨h0', h1⟩
    · dsimp only at h0' hs hv
      subst h0'
      refine ts_num hWM2 he2 hli hto2 hK (by omega) (by omega) hs hv ?_
      exact ts_items hWM he hli hj hto hK t _ (k + 1) (v :: L) b (hF.w _ _) (hS.push v) (by have := dp_le hL hm; rw [← hlen] at this; exact this) (by rw [show (v :: L).length = m from hlen]; exact hdt) hok2 hw2 (by omega) kq
    · dsimp only at h0' hs hv h1
      subst h0'; subst h1
      have hlm := dp_le hL hm
      rw [← hlen] at hlm
      have hlm' : L.length + 1 ≤ 30 := hlm
      rcases (show q = 0 ∨ q = 1 ∨ q = 2 ∨ q = 3 by omega) with e | e | e | e
      · subst e
        have hs2 : zI h 39 e k = 1 := hs
        have hv2 : zI h 40 e k = 0 := hv
        refine ts_name0 hWM2 he2 hli hto2 hK (by omega) (by omega) hj hs2 hv2 ?_
        have hi := ts_items (l := l) hWM he hli hj hto hK t _ (k + 1) (vlI (envY y (zI h0 10 0 j) (zI h0 11 0 j) old) (1, nI 0) :: L) b (hF.w _ _) (hS.push _) (by simp; omega) (by rw [show (vlI (envY y (zI h0 10 0 j) (zI h0 11 0 j) old) (1, nI 0) :: L).length = m from hlen]; exact hdt) hok2 hw2 (by omega) kq
        rw [show vlI (envY y (zI h0 10 0 j) (zI h0 11 0 j) old) (1, nI 0) = y from rfl] at hi
        skip
        exact hi
      · subst e
        have hs2 : zI h 39 e k = 1 := hs
        have hv2 : zI h 40 e k = 1 := hv
        refine ts_name1 hWM2 he2 hli hto2 hK (by omega) (by omega) hj hs2 hv2 ?_
        have hi := ts_items (l := l) hWM he hli hj hto hK t _ (k + 1) (vlI (envY y (zI h0 10 0 j) (zI h0 11 0 j) old) (1, nI 1) :: L) b (hF.w _ _) (hS.push _) (by simp; omega) (by rw [show (vlI (envY y (zI h0 10 0 j) (zI h0 11 0 j) old) (1, nI 1) :: L).length = m from hlen]; exact hdt) hok2 hw2 (by omega) kq
        rw [show vlI (envY y (zI h0 10 0 j) (zI h0 11 0 j) old) (1, nI 1) = zI h0 10 0 j from rfl] at hi
        rw [hF.2 10 (by decide)]
        exact hi
      · subst e
        have hs2 : zI h 39 e k = 1 := hs
        have hv2 : zI h 40 e k = 2 := hv
        refine ts_name2 hWM2 he2 hli hto2 hK (by omega) (by omega) hj hs2 hv2 ?_
        have hi := ts_items (l := l) hWM he hli hj hto hK t _ (k + 1) (vlI (envY y (zI h0 10 0 j) (zI h0 11 0 j) old) (1, nI 2) :: L) b (hF.w _ _) (hS.push _) (by simp; omega) (by rw [show (vlI (envY y (zI h0 10 0 j) (zI h0 11 0 j) old) (1, nI 2) :: L).length = m from hlen]; exact hdt) hok2 hw2 (by omega) kq
        rw [show vlI (envY y (zI h0 10 0 j) (zI h0 11 0 j) old) (1, nI 2) = zI h0 11 0 j from rfl] at hi
        rw [hF.2 11 (by decide)]
        exact hi
      · subst e
        have hs2 : zI h 39 e k = 1 := hs
        have hv2 : zI h 40 e k = 3 := hv
        refine ts_name3 hWM2 he2 hli hto2 hK (by omega) (by omega) hj hs2 hv2 ?_
        have hi := ts_items (l := l) hWM he hli hj hto hK t _ (k + 1) (vlI (envY y (zI h0 10 0 j) (zI h0 11 0 j) old) (1, nI 3) :: L) b (hF.w _ _) (hS.push _) (by simp; omega) (by rw [show (vlI (envY y (zI h0 10 0 j) (zI h0 11 0 j) old) (1, nI 3) :: L).length = m from hlen]; exact hdt) hok2 hw2 (by omega) kq
        rw [show vlI (envY y (zI h0 10 0 j) (zI h0 11 0 j) old) (1, nI 3) = old from rfl] at hi
        skip
        exact hi
    · dsimp only at h0' hs hv h1
      have hL2 : ∃ b2 a r, L = b2 :: a :: r := by
        unfold dp at hm
        dsimp only at hm
        rw [if_neg (by omega)] at hm
        have : 2 ≤ L.length := by
          split at hm
          · split at hm
            · omega
            · cases hm
          · split at hm
            · assumption
            · cases hm
        match L, this with
        | b :: a :: r, _ => exact ⟨b, a, r, rfl⟩
      obtain ⟨b2, a, r, rfl⟩ := hL2
      have ht := hS.top2
      have hrl : r.length + 2 ≤ 30 := hL
      rcases (show s = 2 ∨ s = 3 ∨ s = 4 ∨ s = 5 ∨ s = 6 ∨ s = 7 ∨ s = 8 by omega) with e | e | e | e | e | e | e
      · subst e
        have hs2 : zI h 39 e k = 2 := hs
        refine ts_op2 hWM2 he2 hli hto2 hK (by omega) (by omega) hs2 ?_
        rw [ht.1, ht.2]
        exact ts_items hWM he hli hj hto hK t _ (k + 1) (opv 2 a b2 :: r) b (hF.w _ _) (hS.drop.push _) (by simp; omega) (by rw [show (opv 2 a b2 :: r).length = m from hlen]; exact hdt) hok2 hw2 (by omega) kq
      · subst e
        have hs2 : zI h 39 e k = 3 := hs
        refine ts_op3 hWM2 he2 hli hto2 hK (by omega) (by omega) hs2 ?_
        rw [ht.1, ht.2]
        exact ts_items hWM he hli hj hto hK t _ (k + 1) (opv 3 a b2 :: r) b (hF.w _ _) (hS.drop.push _) (by simp; omega) (by rw [show (opv 3 a b2 :: r).length = m from hlen]; exact hdt) hok2 hw2 (by omega) kq
      · subst e
        have hs2 : zI h 39 e k = 4 := hs
        refine ts_op4 hWM2 he2 hli hto2 hK (by omega) (by omega) hs2 ?_
        rw [ht.1, ht.2]
        exact ts_items hWM he hli hj hto hK t _ (k + 1) (opv 4 a b2 :: r) b (hF.w _ _) (hS.drop.push _) (by simp; omega) (by rw [show (opv 4 a b2 :: r).length = m from hlen]; exact hdt) hok2 hw2 (by omega) kq
      · subst e
        have hs2 : zI h 39 e k = 5 := hs
        refine ts_op5 hWM2 he2 hli hto2 hK (by omega) (by omega) hs2 ?_
        rw [ht.1, ht.2]
        exact ts_items hWM he hli hj hto hK t _ (k + 1) (opv 5 a b2 :: r) b (hF.w _ _) (hS.drop.push _) (by simp; omega) (by rw [show (opv 5 a b2 :: r).length = m from hlen]; exact hdt) hok2 hw2 (by omega) kq
      · subst e
        have hs2 : zI h 39 e k = 6 := hs
        have hr0 : r.length = 0 := hlen.trans (stp_m hm (by decide))
        cases b with
        | false =>
          rw [zb_f (by decide)]
          refine ts_cmp6_f hWM2 he2 hli hto2 hK (by omega) (by omega) hs2 ?_
          have hi := ts_items (l := l) hWM he hli hj hto hK t h (k + 1) r false hF hS.drop (by omega) (by rw [show r.length = m from hlen]; exact hdt) hok2 hw2 (by omega) kq
          rw [zb_f (by decide)] at hi
          exact hi
        | true =>
          rw [zb_t rfl]
          refine ts_cmp6_t hWM2 he2 hli hto2 hK (by omega) (by omega) hs2 ?_
          rw [ht.1, ht.2]
          have hi := ts_items (l := l) hWM he hli hj hto hK t h (k + 1) r (cpB 6 a b2) hF hS.drop (by omega) (by rw [show r.length = m from hlen]; exact hdt) hok2 hw2 (by omega) kq
          rw [zb_c (show (cpB 6 a b2 = true) ↔ (a < b2) by unfold cpB; simp)] at hi
          exact hi
      · subst e
        have hs2 : zI h 39 e k = 7 := hs
        have hr0 : r.length = 0 := hlen.trans (stp_m hm (by decide))
        cases b with
        | false =>
          rw [zb_f (by decide)]
          refine ts_cmp7_f hWM2 he2 hli hto2 hK (by omega) (by omega) hs2 ?_
          have hi := ts_items (l := l) hWM he hli hj hto hK t h (k + 1) r false hF hS.drop (by omega) (by rw [show r.length = m from hlen]; exact hdt) hok2 hw2 (by omega) kq
          rw [zb_f (by decide)] at hi
          exact hi
        | true =>
          rw [zb_t rfl]
          refine ts_cmp7_t hWM2 he2 hli hto2 hK (by omega) (by omega) hs2 ?_
          rw [ht.1, ht.2]
          have hi := ts_items (l := l) hWM he hli hj hto hK t h (k + 1) r (cpB 7 a b2) hF hS.drop (by omega) (by rw [show r.length = m from hlen]; exact hdt) hok2 hw2 (by omega) kq
          rw [zb_c (show (cpB 7 a b2 = true) ↔ (b2 < a) by unfold cpB; simp)] at hi
          exact hi
      · subst e
        have hs2 : zI h 39 e k = 8 := hs
        have hr0 : r.length = 0 := hlen.trans (stp_m hm (by decide))
        cases b with
        | false =>
          rw [zb_f (by decide)]
          refine ts_cmp8_f hWM2 he2 hli hto2 hK (by omega) (by omega) hs2 ?_
          have hi := ts_items (l := l) hWM he hli hj hto hK t h (k + 1) r false hF hS.drop (by omega) (by rw [show r.length = m from hlen]; exact hdt) hok2 hw2 (by omega) kq
          rw [zb_f (by decide)] at hi
          exact hi
        | true =>
          rw [zb_t rfl]
          refine ts_cmp8_t hWM2 he2 hli hto2 hK (by omega) (by omega) hs2 ?_
          rw [ht.1, ht.2]
          have hi := ts_items (l := l) hWM he hli hj hto hK t h (k + 1) r (cpB 8 a b2) hF hS.drop (by omega) (by rw [show r.length = m from hlen]; exact hdt) hok2 hw2 (by omega) kq
          rw [zb_c (show (cpB 8 a b2 = true) ↔ (a = b2) by unfold cpB; simp)] at hi
          exact hi
theorem lnV_ts {env : Nat → Int32} {its : List (Nat × Int32)} (hd : dps 0 its = some 1) : tsF (runI env its ([], true)) = (match lnV env its with
  | some v => v
  | none => -1000001) := by
  unfold lnV
  have hl := runI_len (env := env) (L := []) (b := true) hd
  obtain ⟨L', b, hs⟩ : ∃ L' b, runI env its ([], true) = (L', b) := ⟨_, _, rfl⟩
  rw [hs] at hl ⊢
  dsimp only at hl
  match L', hl with
  | [v], _ => cases b <;> rfl
theorem qX14_tells (l : Launch) (h : zH) (hWM : Wm h) (e li j a : Nat) (y old : Int32) (its : List (Nat × Int32)) (he : e < zC h 17) (hli : li < 12) (hj : j < 10) (hfr : zI h 37 e li = nI a) (hto : zI h 38 e li = nI (a + its.length)) (hK : a + its.length ≤ 320) (hok : ∀ it ∈ its, okI it) (hd : dps 0 its = some 1) (hw : ∀ i it, its[i]? = some it → zI h 39 e (a + i) = nI it.1 ∧ zI h 40 e (a + i) = it.2) :
    Ct l 4 mX14_tells [Vq (some (1, 0)), Vq (some (17, e)), Vi (nI li), Vi (nI j), Vi y, Vi old] h (fun o h' => o = Rv (Vi (match lnV (envY y (zI h 10 0 j) (zI h 11 0 j) old) its with
      | some v => v
      | none => -1000001)) ∧ FrT h h') := by
  refine Ct.in 6 kX14_tells (plainFor_of_name rfl) (Nat.le_of_ble_eq_true rfl) ?_
  refine w_iconst (v := 0) (zat TX14_tells_0 0 rfl) (by decide) ?_
  refine x_istore (ls2 := [_, _, _, _, _, _, _, _, _, _, _, _]) (zat TX14_tells_0 1 rfl) (by decide) rfl ?_
  refine w_iconst (v := 1) (zat TX14_tells_0 2 rfl) (by decide) ?_
  refine x_istore (ls2 := [_, _, _, _, _, _, _, _, _, _, _, _]) (zat TX14_tells_0 3 rfl) (by decide) rfl ?_
  refine w_aload_n (zat TX14_tells_0 4 rfl) rfl ?_
  refine w_getR (zat TX14_tells_0 5 rfl) fX14_232 s17 (by decide) (by decide) rfl ((hWM.2.2.2.2 e he).1.2.2.1) ?_
  refine w_iload_n (zat TX14_tells_0 6 rfl) rfl ?_
  refine y_iaload _ _ (v := nI a) (zat TX14_tells_0 7 rfl) s37 (by decide) ((hWM.2.2.2.2 e he).2.2.2.1) (by decide) rfl hli hfr ?_
  refine x_istore (ls2 := [_, _, _, _, _, _, _, _, _, _, _, _]) (zat TX14_tells_0 8 rfl) (by decide) rfl ?_
  have hi : TS l e li j y old 0 (zb ((true : Bool) = true)) a h (fun o h' => o = Rv (Vi (tsF (runI (envY y (zI h 10 0 j) (zI h 11 0 j) old) its ([], true)))) ∧ FrT h h') := ts_items hWM he hli hj hto hK its h a [] true (FrT.rf h) (fun i v hi => by simp at hi) (by simp) hd hok hw rfl (fun h' hF' => ⟨rfl, hF'⟩)
  rw [zb_t rfl] at hi
  exact (hi none none none).imp (fun o h' q => ⟨q.1.trans (congrArg (fun x => Rv (Vi x)) (lnV_ts hd)), q.2⟩)
