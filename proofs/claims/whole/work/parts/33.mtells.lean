-- tells of the model, by program (wip/gen/p33.py)
def SM (h : zH) (L : List Int32) : Prop := ∀ i v, L.reverse[i]? = some v → zI h 20 0 i = v
def FrT (h h' : zH) : Prop := h'.2 = h.2 ∧ ∀ k, k ≠ 20 → zI h' k = zI h k
theorem FrT.rf (h : zH) : FrT h h := ⟨rfl, fun _ _ => rfl⟩
theorem FrT.tr {a b c : zH} (x : FrT a b) (y : FrT b c) : FrT a c := ⟨y.1.trans x.1, fun k h1 => (y.2 k h1).trans (x.2 k h1)⟩
theorem FrT.w {a b : zH} (x : FrT a b) (n : Nat) (v : Int32) : FrT a (zsI b 20 0 n v) := ⟨x.1, fun k h1 => by
  rw [← x.2 k h1]
  funext i j
  exact if_neg (fun z => h1 z.1)⟩
theorem SM.push {h : zH} {L : List Int32} (x : SM h L) (v : Int32) : SM (zsI h 20 0 L.length v) (v :: L) := by
  intro i w hi
  rw [List.reverse_cons] at hi
  by_cases e : i = L.length
  · subst e
    rw [List.getElem?_append_right (by simp)] at hi
    simp at hi
    rw [zI_same]; exact hi
  · have hlt : i < L.length := by
      have := (List.getElem?_eq_some_iff.mp hi).1
      simp at this
      omega
    rw [List.getElem?_append_left (by simpa using hlt)] at hi
    rw [zI_oth _ _ _ _ _ e]
    exact x i w hi
theorem SM.top2 {h : zH} {a b : Int32} {r : List Int32} (x : SM h (b :: a :: r)) : zI h 20 0 r.length = a ∧ zI h 20 0 (r.length + 1) = b := by
  constructor <;> (refine x _ _ ?_; simp)
theorem SM.drop {h : zH} {a b : Int32} {r : List Int32} (x : SM h (b :: a :: r)) : SM h r := by
  intro i v hi
  have hlt : i < r.length := by
    have := (List.getElem?_eq_some_iff.mp hi).1
    simpa using this
  refine x i v ?_
  rw [List.reverse_cons, List.reverse_cons, List.append_assoc, List.getElem?_append_left (by simpa using hlt)]
  exact hi
/-- the loop of tells at item k, n numbers on the pile -/
def TS (l : Launch) (e li j : Nat) (y old : Int32) (n : Nat) (hold : Int32) (k : Nat) (h : zH) (Q : zO → zH → Prop) : Prop := ∀ x1 x2 x3 : Option zV, Wp l mX14_tells 4 14 [some (Vq (some (1, 0))), some (Vq (some (17, e))), some (Vi (nI li)), some (Vi (nI j)), some (Vi y), some (Vi old), some (Vi (nI n)), some (Vi hold), some (Vi (nI k)), x1, x2, x3] [] h Q
theorem nI_m1 (a : Nat) : nI (a + 1) + Int32.ofInt (-1) = nI a := pk_m1 a
theorem nI_m2 (a : Nat) : nI (a + 2) + Int32.ofInt (-2) = nI a := by
  show nI (a + 2) + (-2) = nI a
  rw [show (-2 : Int32) = -1 + -1 by decide, ← Int32.add_assoc]
  rw [show nI (a + 2) + -1 = nI (a + 1) from pk_m1 (a + 1)]
  exact pk_m1 a
theorem ts_num {l : Launch} {e li j : Nat} {y old : Int32} {n k K : Nat} {h : zH} {Q : zO → zH → Prop} (hWM : Wm h) (he : e < zC h 17) (hli : li < 12) (hto : zI h 38 e li = nI K) (hK : K ≤ 320) {hold v : Int32} (hk : k < K) (hn : n < 300) (hs : zI h 39 e k = 0) (hv : zI h 40 e k = v) (kk : TS l e li j y old (n + 1) hold (k + 1) (zsI h 20 0 n v) Q) : TS l e li j y old n hold k h Q := by
  intro x1 x2 x3
  refine w_iload (zat TX14_tells_0 9 rfl) rfl ?_
  refine w_aload_n (zat TX14_tells_0 10 rfl) rfl ?_
  refine w_getR (zat TX14_tells_0 11 rfl) fX14_242 s17 (by decide) (by decide) rfl ((hWM.2.2.2.2 e he).1.2.2.2.1) ?_
  refine w_iload_n (zat TX14_tells_0 12 rfl) rfl ?_
  refine y_iaload _ _ (v := nI K) (zat TX14_tells_0 13 rfl) s38 (by decide) ((hWM.2.2.2.2 e he).2.2.2.2.1) (by decide) rfl hli hto ?_
  refine w_icmp_ge 246 (zat TX14_tells_0 14 rfl) (by decide) (fun Hc22 => ?_) (fun Hc22 => ?_)
  · exact absurd Hc22 (nI_ge hk (by omega))
  · refine w_aload_n (zat TX14_tells_0 15 rfl) rfl ?_
    refine w_getR (zat TX14_tells_0 16 rfl) fX14_301 s17 (by decide) (by decide) rfl ((hWM.2.2.2.2 e he).1.2.2.2.2.1) ?_
    refine w_iload (zat TX14_tells_0 17 rfl) rfl ?_
    refine y_iaload _ _ (v := 0) (zat TX14_tells_0 18 rfl) s39 (by decide) ((hWM.2.2.2.2 e he).2.2.2.2.2.1) (by decide) rfl (by omega) hs ?_
    refine x_istore (ls2 := [_, _, _, _, _, _, _, _, _, _, _, _]) (zat TX14_tells_0 19 rfl) (by decide) rfl ?_
    refine w_iload (zat TX14_tells_0 20 rfl) rfl ?_
    refine w_if_eq 45 (zat TX14_tells_0 21 rfl) (by decide) (fun Hc36 => ?_) (fun Hc36 => ?_)
    · refine w_aload_n (zat TX14_tells_0 25 rfl) rfl ?_
      refine w_getR (zat TX14_tells_0 26 rfl) fX14_303 s17 (by decide) (by decide) rfl ((hWM.2.2.2.2 e he).1.2.2.2.2.2) ?_
      refine w_iload (zat TX14_tells_0 27 rfl) rfl ?_
      refine y_iaload _ _ (v := v) (zat TX14_tells_0 28 rfl) s40 (by decide) ((hWM.2.2.2.2 e he).2.2.2.2.2.2) (by decide) rfl (by omega) hv ?_
      refine x_istore (ls2 := [_, _, _, _, _, _, _, _, _, _, _, _]) (zat TX14_tells_0 29 rfl) (by decide) rfl ?_
      refine w_aload_n (zat TX14_tells_0 30 rfl) rfl ?_
      refine w_getR (zat TX14_tells_0 31 rfl) fX14_57 s1 (by decide) (by decide) rfl (wmr hWM 9 rfl) ?_
      refine w_iload (zat TX14_tells_0 32 rfl) rfl ?_
      refine w_iload (zat TX14_tells_0 33 rfl) rfl ?_
      refine w_if_ne 70 (zat TX14_tells_0 34 rfl) (by decide) (fun Hc62 => ?_) (fun Hc62 => ?_)
      · exact absurd rfl Hc62
      · refine w_iload (zat TX14_tells_0 35 rfl) rfl ?_
        refine w_goto 112 (zat TX14_tells_0 36 rfl) (by decide) ?_
        refine x_iastore _ _ (zat TX14_tells_0 58 rfl) s20 (by decide) (wmn hWM 8 rfl) (by decide) rfl (by omega) ?_
        refine x_iinc (v := nI (n + 1)) (ls2 := [_, _, _, _, _, _, _, _, _, _, _, _]) (zat TX14_tells_0 59 rfl) rfl (nI_inc n) rfl ?_
        refine w_goto 240 (zat TX14_tells_1 0 rfl) (by decide) ?_
        refine x_iinc (v := nI (k + 1)) (ls2 := [_, _, _, _, _, _, _, _, _, _, _, _]) (zat TX14_tells_2 2 rfl) rfl (nI_inc k) rfl ?_
        refine w_goto 14 (zat TX14_tells_2 3 rfl) (by decide) ?_
        exact kk _ _ _
    · exact absurd rfl Hc36
theorem ts_name0 {l : Launch} {e li j : Nat} {y old : Int32} {n k K : Nat} {h : zH} {Q : zO → zH → Prop} (hWM : Wm h) (he : e < zC h 17) (hli : li < 12) (hto : zI h 38 e li = nI K) (hK : K ≤ 320) {hold : Int32} (hk : k < K) (hn : n < 300) (hj : j < 10) (hs : zI h 39 e k = 1) (hv : zI h 40 e k = 0) (kk : TS l e li j y old (n + 1) hold (k + 1) (zsI h 20 0 n (y)) Q) : TS l e li j y old n hold k h Q := by
  intro x1 x2 x3
  refine w_iload (zat TX14_tells_0 9 rfl) rfl ?_
  refine w_aload_n (zat TX14_tells_0 10 rfl) rfl ?_
  refine w_getR (zat TX14_tells_0 11 rfl) fX14_242 s17 (by decide) (by decide) rfl ((hWM.2.2.2.2 e he).1.2.2.2.1) ?_
  refine w_iload_n (zat TX14_tells_0 12 rfl) rfl ?_
  refine y_iaload _ _ (v := nI K) (zat TX14_tells_0 13 rfl) s38 (by decide) ((hWM.2.2.2.2 e he).2.2.2.2.1) (by decide) rfl hli hto ?_
  refine w_icmp_ge 246 (zat TX14_tells_0 14 rfl) (by decide) (fun Hc22 => ?_) (fun Hc22 => ?_)
  · exact absurd Hc22 (nI_ge hk (by omega))
  · refine w_aload_n (zat TX14_tells_0 15 rfl) rfl ?_
    refine w_getR (zat TX14_tells_0 16 rfl) fX14_301 s17 (by decide) (by decide) rfl ((hWM.2.2.2.2 e he).1.2.2.2.2.1) ?_
    refine w_iload (zat TX14_tells_0 17 rfl) rfl ?_
    refine y_iaload _ _ (v := 1) (zat TX14_tells_0 18 rfl) s39 (by decide) ((hWM.2.2.2.2 e he).2.2.2.2.2.1) (by decide) rfl (by omega) hs ?_
    refine x_istore (ls2 := [_, _, _, _, _, _, _, _, _, _, _, _]) (zat TX14_tells_0 19 rfl) (by decide) rfl ?_
    refine w_iload (zat TX14_tells_0 20 rfl) rfl ?_
    refine w_if_eq 45 (zat TX14_tells_0 21 rfl) (by decide) (fun Hc36 => ?_) (fun Hc36 => ?_)
    · exact absurd Hc36 (by decide)
    · refine w_iload (zat TX14_tells_0 22 rfl) rfl ?_
      refine w_iconst (v := 1) (zat TX14_tells_0 23 rfl) (by decide) ?_
      refine w_icmp_ne 119 (zat TX14_tells_0 24 rfl) (by decide) (fun Hc42 => ?_) (fun Hc42 => ?_)
      · exact absurd Hc42 (by decide)
      · refine w_aload_n (zat TX14_tells_0 25 rfl) rfl ?_
        refine w_getR (zat TX14_tells_0 26 rfl) fX14_303 s17 (by decide) (by decide) rfl ((hWM.2.2.2.2 e he).1.2.2.2.2.2) ?_
        refine w_iload (zat TX14_tells_0 27 rfl) rfl ?_
        refine y_iaload _ _ (v := 0) (zat TX14_tells_0 28 rfl) s40 (by decide) ((hWM.2.2.2.2 e he).2.2.2.2.2.2) (by decide) rfl (by omega) hv ?_
        refine x_istore (ls2 := [_, _, _, _, _, _, _, _, _, _, _, _]) (zat TX14_tells_0 29 rfl) (by decide) rfl ?_
        refine w_aload_n (zat TX14_tells_0 30 rfl) rfl ?_
        refine w_getR (zat TX14_tells_0 31 rfl) fX14_57 s1 (by decide) (by decide) rfl (wmr hWM 9 rfl) ?_
        refine w_iload (zat TX14_tells_0 32 rfl) rfl ?_
        refine w_iload (zat TX14_tells_0 33 rfl) rfl ?_
        refine w_if_ne 70 (zat TX14_tells_0 34 rfl) (by decide) (fun Hc62 => ?_) (fun Hc62 => ?_)
        · refine w_iload (zat TX14_tells_0 37 rfl) rfl ?_
          refine w_if_ne 80 (zat TX14_tells_0 38 rfl) (by decide) (fun Hc72 => ?_) (fun Hc72 => ?_)
          · exact absurd Hc72 (by decide)
          · refine w_iload (zat TX14_tells_0 39 rfl) rfl ?_
            refine w_goto 112 (zat TX14_tells_0 40 rfl) (by decide) ?_
            refine x_iastore _ _ (zat TX14_tells_0 58 rfl) s20 (by decide) (wmn hWM 8 rfl) (by decide) rfl (by omega) ?_
            refine x_iinc (v := nI (n + 1)) (ls2 := [_, _, _, _, _, _, _, _, _, _, _, _]) (zat TX14_tells_0 59 rfl) rfl (nI_inc n) rfl ?_
            refine w_goto 240 (zat TX14_tells_1 0 rfl) (by decide) ?_
            refine x_iinc (v := nI (k + 1)) (ls2 := [_, _, _, _, _, _, _, _, _, _, _, _]) (zat TX14_tells_2 2 rfl) rfl (nI_inc k) rfl ?_
            refine w_goto 14 (zat TX14_tells_2 3 rfl) (by decide) ?_
            exact kk _ _ _
        · first | exact absurd Hc62 (by decide) | exact absurd (by decide) Hc62
theorem ts_name1 {l : Launch} {e li j : Nat} {y old : Int32} {n k K : Nat} {h : zH} {Q : zO → zH → Prop} (hWM : Wm h) (he : e < zC h 17) (hli : li < 12) (hto : zI h 38 e li = nI K) (hK : K ≤ 320) {hold : Int32} (hk : k < K) (hn : n < 300) (hj : j < 10) (hs : zI h 39 e k = 1) (hv : zI h 40 e k = 1) (kk : TS l e li j y old (n + 1) hold (k + 1) (zsI h 20 0 n (zI h 10 0 j)) Q) : TS l e li j y old n hold k h Q := by
  intro x1 x2 x3
  refine w_iload (zat TX14_tells_0 9 rfl) rfl ?_
  refine w_aload_n (zat TX14_tells_0 10 rfl) rfl ?_
  refine w_getR (zat TX14_tells_0 11 rfl) fX14_242 s17 (by decide) (by decide) rfl ((hWM.2.2.2.2 e he).1.2.2.2.1) ?_
  refine w_iload_n (zat TX14_tells_0 12 rfl) rfl ?_
  refine y_iaload _ _ (v := nI K) (zat TX14_tells_0 13 rfl) s38 (by decide) ((hWM.2.2.2.2 e he).2.2.2.2.1) (by decide) rfl hli hto ?_
  refine w_icmp_ge 246 (zat TX14_tells_0 14 rfl) (by decide) (fun Hc22 => ?_) (fun Hc22 => ?_)
  · exact absurd Hc22 (nI_ge hk (by omega))
  · refine w_aload_n (zat TX14_tells_0 15 rfl) rfl ?_
    refine w_getR (zat TX14_tells_0 16 rfl) fX14_301 s17 (by decide) (by decide) rfl ((hWM.2.2.2.2 e he).1.2.2.2.2.1) ?_
    refine w_iload (zat TX14_tells_0 17 rfl) rfl ?_
    refine y_iaload _ _ (v := 1) (zat TX14_tells_0 18 rfl) s39 (by decide) ((hWM.2.2.2.2 e he).2.2.2.2.2.1) (by decide) rfl (by omega) hs ?_
    refine x_istore (ls2 := [_, _, _, _, _, _, _, _, _, _, _, _]) (zat TX14_tells_0 19 rfl) (by decide) rfl ?_
    refine w_iload (zat TX14_tells_0 20 rfl) rfl ?_
    refine w_if_eq 45 (zat TX14_tells_0 21 rfl) (by decide) (fun Hc36 => ?_) (fun Hc36 => ?_)
    · exact absurd Hc36 (by decide)
    · refine w_iload (zat TX14_tells_0 22 rfl) rfl ?_
      refine w_iconst (v := 1) (zat TX14_tells_0 23 rfl) (by decide) ?_
      refine w_icmp_ne 119 (zat TX14_tells_0 24 rfl) (by decide) (fun Hc42 => ?_) (fun Hc42 => ?_)
      · exact absurd Hc42 (by decide)
      · refine w_aload_n (zat TX14_tells_0 25 rfl) rfl ?_
        refine w_getR (zat TX14_tells_0 26 rfl) fX14_303 s17 (by decide) (by decide) rfl ((hWM.2.2.2.2 e he).1.2.2.2.2.2) ?_
        refine w_iload (zat TX14_tells_0 27 rfl) rfl ?_
        refine y_iaload _ _ (v := 1) (zat TX14_tells_0 28 rfl) s40 (by decide) ((hWM.2.2.2.2 e he).2.2.2.2.2.2) (by decide) rfl (by omega) hv ?_
        refine x_istore (ls2 := [_, _, _, _, _, _, _, _, _, _, _, _]) (zat TX14_tells_0 29 rfl) (by decide) rfl ?_
        refine w_aload_n (zat TX14_tells_0 30 rfl) rfl ?_
        refine w_getR (zat TX14_tells_0 31 rfl) fX14_57 s1 (by decide) (by decide) rfl (wmr hWM 9 rfl) ?_
        refine w_iload (zat TX14_tells_0 32 rfl) rfl ?_
        refine w_iload (zat TX14_tells_0 33 rfl) rfl ?_
        refine w_if_ne 70 (zat TX14_tells_0 34 rfl) (by decide) (fun Hc62 => ?_) (fun Hc62 => ?_)
        · refine w_iload (zat TX14_tells_0 37 rfl) rfl ?_
          refine w_if_ne 80 (zat TX14_tells_0 38 rfl) (by decide) (fun Hc72 => ?_) (fun Hc72 => ?_)
          · refine w_iload (zat TX14_tells_0 41 rfl) rfl ?_
            refine w_iconst (v := 1) (zat TX14_tells_0 42 rfl) (by decide) ?_
            refine w_icmp_ne 95 (zat TX14_tells_0 43 rfl) (by decide) (fun Hc83 => ?_) (fun Hc83 => ?_)
            · exact absurd Hc83 (by decide)
            · refine w_aload_n (zat TX14_tells_0 44 rfl) rfl ?_
              refine w_getR (zat TX14_tells_0 45 rfl) fX14_16 s1 (by decide) (by decide) rfl (wmr hWM 0 rfl) ?_
              refine w_iload_n (zat TX14_tells_0 46 rfl) rfl ?_
              refine x_iaload _ _ (zat TX14_tells_0 47 rfl) s10 (by decide) (wmn hWM 0 rfl) (by decide) rfl hj ?_
              refine w_goto 112 (zat TX14_tells_0 48 rfl) (by decide) ?_
              refine x_iastore _ _ (zat TX14_tells_0 58 rfl) s20 (by decide) (wmn hWM 8 rfl) (by decide) rfl (by omega) ?_
              refine x_iinc (v := nI (n + 1)) (ls2 := [_, _, _, _, _, _, _, _, _, _, _, _]) (zat TX14_tells_0 59 rfl) rfl (nI_inc n) rfl ?_
              refine w_goto 240 (zat TX14_tells_1 0 rfl) (by decide) ?_
              refine x_iinc (v := nI (k + 1)) (ls2 := [_, _, _, _, _, _, _, _, _, _, _, _]) (zat TX14_tells_2 2 rfl) rfl (nI_inc k) rfl ?_
              refine w_goto 14 (zat TX14_tells_2 3 rfl) (by decide) ?_
              exact kk _ _ _
          · first | exact absurd Hc72 (by decide) | exact absurd (by decide) Hc72
        · first | exact absurd Hc62 (by decide) | exact absurd (by decide) Hc62
theorem ts_name2 {l : Launch} {e li j : Nat} {y old : Int32} {n k K : Nat} {h : zH} {Q : zO → zH → Prop} (hWM : Wm h) (he : e < zC h 17) (hli : li < 12) (hto : zI h 38 e li = nI K) (hK : K ≤ 320) {hold : Int32} (hk : k < K) (hn : n < 300) (hj : j < 10) (hs : zI h 39 e k = 1) (hv : zI h 40 e k = 2) (kk : TS l e li j y old (n + 1) hold (k + 1) (zsI h 20 0 n (zI h 11 0 j)) Q) : TS l e li j y old n hold k h Q := by
  intro x1 x2 x3
  refine w_iload (zat TX14_tells_0 9 rfl) rfl ?_
  refine w_aload_n (zat TX14_tells_0 10 rfl) rfl ?_
  refine w_getR (zat TX14_tells_0 11 rfl) fX14_242 s17 (by decide) (by decide) rfl ((hWM.2.2.2.2 e he).1.2.2.2.1) ?_
  refine w_iload_n (zat TX14_tells_0 12 rfl) rfl ?_
  refine y_iaload _ _ (v := nI K) (zat TX14_tells_0 13 rfl) s38 (by decide) ((hWM.2.2.2.2 e he).2.2.2.2.1) (by decide) rfl hli hto ?_
  refine w_icmp_ge 246 (zat TX14_tells_0 14 rfl) (by decide) (fun Hc22 => ?_) (fun Hc22 => ?_)
  · exact absurd Hc22 (nI_ge hk (by omega))
  · refine w_aload_n (zat TX14_tells_0 15 rfl) rfl ?_
    refine w_getR (zat TX14_tells_0 16 rfl) fX14_301 s17 (by decide) (by decide) rfl ((hWM.2.2.2.2 e he).1.2.2.2.2.1) ?_
    refine w_iload (zat TX14_tells_0 17 rfl) rfl ?_
    refine y_iaload _ _ (v := 1) (zat TX14_tells_0 18 rfl) s39 (by decide) ((hWM.2.2.2.2 e he).2.2.2.2.2.1) (by decide) rfl (by omega) hs ?_
    refine x_istore (ls2 := [_, _, _, _, _, _, _, _, _, _, _, _]) (zat TX14_tells_0 19 rfl) (by decide) rfl ?_
    refine w_iload (zat TX14_tells_0 20 rfl) rfl ?_
    refine w_if_eq 45 (zat TX14_tells_0 21 rfl) (by decide) (fun Hc36 => ?_) (fun Hc36 => ?_)
    · exact absurd Hc36 (by decide)
    · refine w_iload (zat TX14_tells_0 22 rfl) rfl ?_
      refine w_iconst (v := 1) (zat TX14_tells_0 23 rfl) (by decide) ?_
      refine w_icmp_ne 119 (zat TX14_tells_0 24 rfl) (by decide) (fun Hc42 => ?_) (fun Hc42 => ?_)
      · exact absurd Hc42 (by decide)
      · refine w_aload_n (zat TX14_tells_0 25 rfl) rfl ?_
        refine w_getR (zat TX14_tells_0 26 rfl) fX14_303 s17 (by decide) (by decide) rfl ((hWM.2.2.2.2 e he).1.2.2.2.2.2) ?_
        refine w_iload (zat TX14_tells_0 27 rfl) rfl ?_
        refine y_iaload _ _ (v := 2) (zat TX14_tells_0 28 rfl) s40 (by decide) ((hWM.2.2.2.2 e he).2.2.2.2.2.2) (by decide) rfl (by omega) hv ?_
        refine x_istore (ls2 := [_, _, _, _, _, _, _, _, _, _, _, _]) (zat TX14_tells_0 29 rfl) (by decide) rfl ?_
        refine w_aload_n (zat TX14_tells_0 30 rfl) rfl ?_
        refine w_getR (zat TX14_tells_0 31 rfl) fX14_57 s1 (by decide) (by decide) rfl (wmr hWM 9 rfl) ?_
        refine w_iload (zat TX14_tells_0 32 rfl) rfl ?_
        refine w_iload (zat TX14_tells_0 33 rfl) rfl ?_
        refine w_if_ne 70 (zat TX14_tells_0 34 rfl) (by decide) (fun Hc62 => ?_) (fun Hc62 => ?_)
        · refine w_iload (zat TX14_tells_0 37 rfl) rfl ?_
          refine w_if_ne 80 (zat TX14_tells_0 38 rfl) (by decide) (fun Hc72 => ?_) (fun Hc72 => ?_)
          · refine w_iload (zat TX14_tells_0 41 rfl) rfl ?_
            refine w_iconst (v := 1) (zat TX14_tells_0 42 rfl) (by decide) ?_
            refine w_icmp_ne 95 (zat TX14_tells_0 43 rfl) (by decide) (fun Hc83 => ?_) (fun Hc83 => ?_)
            · refine w_iload (zat TX14_tells_0 49 rfl) rfl ?_
              refine w_iconst (v := 2) (zat TX14_tells_0 50 rfl) (by decide) ?_
              refine w_icmp_ne 110 (zat TX14_tells_0 51 rfl) (by decide) (fun Hc98 => ?_) (fun Hc98 => ?_)
              · exact absurd Hc98 (by decide)
              · refine w_aload_n (zat TX14_tells_0 52 rfl) rfl ?_
                refine w_getR (zat TX14_tells_0 53 rfl) fX14_20 s1 (by decide) (by decide) rfl (wmr hWM 1 rfl) ?_
                refine w_iload_n (zat TX14_tells_0 54 rfl) rfl ?_
                refine x_iaload _ _ (zat TX14_tells_0 55 rfl) s11 (by decide) (wmn hWM 1 rfl) (by decide) rfl hj ?_
                refine w_goto 112 (zat TX14_tells_0 56 rfl) (by decide) ?_
                refine x_iastore _ _ (zat TX14_tells_0 58 rfl) s20 (by decide) (wmn hWM 8 rfl) (by decide) rfl (by omega) ?_
                refine x_iinc (v := nI (n + 1)) (ls2 := [_, _, _, _, _, _, _, _, _, _, _, _]) (zat TX14_tells_0 59 rfl) rfl (nI_inc n) rfl ?_
                refine w_goto 240 (zat TX14_tells_1 0 rfl) (by decide) ?_
                refine x_iinc (v := nI (k + 1)) (ls2 := [_, _, _, _, _, _, _, _, _, _, _, _]) (zat TX14_tells_2 2 rfl) rfl (nI_inc k) rfl ?_
                refine w_goto 14 (zat TX14_tells_2 3 rfl) (by decide) ?_
                exact kk _ _ _
            · first | exact absurd Hc83 (by decide) | exact absurd (by decide) Hc83
          · first | exact absurd Hc72 (by decide) | exact absurd (by decide) Hc72
        · first | exact absurd Hc62 (by decide) | exact absurd (by decide) Hc62
theorem ts_name3 {l : Launch} {e li j : Nat} {y old : Int32} {n k K : Nat} {h : zH} {Q : zO → zH → Prop} (hWM : Wm h) (he : e < zC h 17) (hli : li < 12) (hto : zI h 38 e li = nI K) (hK : K ≤ 320) {hold : Int32} (hk : k < K) (hn : n < 300) (hj : j < 10) (hs : zI h 39 e k = 1) (hv : zI h 40 e k = 3) (kk : TS l e li j y old (n + 1) hold (k + 1) (zsI h 20 0 n (old)) Q) : TS l e li j y old n hold k h Q := by
  intro x1 x2 x3
  refine w_iload (zat TX14_tells_0 9 rfl) rfl ?_
  refine w_aload_n (zat TX14_tells_0 10 rfl) rfl ?_
  refine w_getR (zat TX14_tells_0 11 rfl) fX14_242 s17 (by decide) (by decide) rfl ((hWM.2.2.2.2 e he).1.2.2.2.1) ?_
  refine w_iload_n (zat TX14_tells_0 12 rfl) rfl ?_
  refine y_iaload _ _ (v := nI K) (zat TX14_tells_0 13 rfl) s38 (by decide) ((hWM.2.2.2.2 e he).2.2.2.2.1) (by decide) rfl hli hto ?_
  refine w_icmp_ge 246 (zat TX14_tells_0 14 rfl) (by decide) (fun Hc22 => ?_) (fun Hc22 => ?_)
  · exact absurd Hc22 (nI_ge hk (by omega))
  · refine w_aload_n (zat TX14_tells_0 15 rfl) rfl ?_
    refine w_getR (zat TX14_tells_0 16 rfl) fX14_301 s17 (by decide) (by decide) rfl ((hWM.2.2.2.2 e he).1.2.2.2.2.1) ?_
    refine w_iload (zat TX14_tells_0 17 rfl) rfl ?_
    refine y_iaload _ _ (v := 1) (zat TX14_tells_0 18 rfl) s39 (by decide) ((hWM.2.2.2.2 e he).2.2.2.2.2.1) (by decide) rfl (by omega) hs ?_
    refine x_istore (ls2 := [_, _, _, _, _, _, _, _, _, _, _, _]) (zat TX14_tells_0 19 rfl) (by decide) rfl ?_
    refine w_iload (zat TX14_tells_0 20 rfl) rfl ?_
    refine w_if_eq 45 (zat TX14_tells_0 21 rfl) (by decide) (fun Hc36 => ?_) (fun Hc36 => ?_)
    · exact absurd Hc36 (by decide)
    · refine w_iload (zat TX14_tells_0 22 rfl) rfl ?_
      refine w_iconst (v := 1) (zat TX14_tells_0 23 rfl) (by decide) ?_
      refine w_icmp_ne 119 (zat TX14_tells_0 24 rfl) (by decide) (fun Hc42 => ?_) (fun Hc42 => ?_)
      · exact absurd Hc42 (by decide)
      · refine w_aload_n (zat TX14_tells_0 25 rfl) rfl ?_
        refine w_getR (zat TX14_tells_0 26 rfl) fX14_303 s17 (by decide) (by decide) rfl ((hWM.2.2.2.2 e he).1.2.2.2.2.2) ?_
        refine w_iload (zat TX14_tells_0 27 rfl) rfl ?_
        refine y_iaload _ _ (v := 3) (zat TX14_tells_0 28 rfl) s40 (by decide) ((hWM.2.2.2.2 e he).2.2.2.2.2.2) (by decide) rfl (by omega) hv ?_
        refine x_istore (ls2 := [_, _, _, _, _, _, _, _, _, _, _, _]) (zat TX14_tells_0 29 rfl) (by decide) rfl ?_
        refine w_aload_n (zat TX14_tells_0 30 rfl) rfl ?_
        refine w_getR (zat TX14_tells_0 31 rfl) fX14_57 s1 (by decide) (by decide) rfl (wmr hWM 9 rfl) ?_
        refine w_iload (zat TX14_tells_0 32 rfl) rfl ?_
        refine w_iload (zat TX14_tells_0 33 rfl) rfl ?_
        refine w_if_ne 70 (zat TX14_tells_0 34 rfl) (by decide) (fun Hc62 => ?_) (fun Hc62 => ?_)
        · refine w_iload (zat TX14_tells_0 37 rfl) rfl ?_
          refine w_if_ne 80 (zat TX14_tells_0 38 rfl) (by decide) (fun Hc72 => ?_) (fun Hc72 => ?_)
          · refine w_iload (zat TX14_tells_0 41 rfl) rfl ?_
            refine w_iconst (v := 1) (zat TX14_tells_0 42 rfl) (by decide) ?_
            refine w_icmp_ne 95 (zat TX14_tells_0 43 rfl) (by decide) (fun Hc83 => ?_) (fun Hc83 => ?_)
            · refine w_iload (zat TX14_tells_0 49 rfl) rfl ?_
              refine w_iconst (v := 2) (zat TX14_tells_0 50 rfl) (by decide) ?_
              refine w_icmp_ne 110 (zat TX14_tells_0 51 rfl) (by decide) (fun Hc98 => ?_) (fun Hc98 => ?_)
              · refine w_iload (zat TX14_tells_0 57 rfl) rfl ?_
                refine x_iastore _ _ (zat TX14_tells_0 58 rfl) s20 (by decide) (wmn hWM 8 rfl) (by decide) rfl (by omega) ?_
                refine x_iinc (v := nI (n + 1)) (ls2 := [_, _, _, _, _, _, _, _, _, _, _, _]) (zat TX14_tells_0 59 rfl) rfl (nI_inc n) rfl ?_
                refine w_goto 240 (zat TX14_tells_1 0 rfl) (by decide) ?_
                refine x_iinc (v := nI (k + 1)) (ls2 := [_, _, _, _, _, _, _, _, _, _, _, _]) (zat TX14_tells_2 2 rfl) rfl (nI_inc k) rfl ?_
                refine w_goto 14 (zat TX14_tells_2 3 rfl) (by decide) ?_
                exact kk _ _ _
              · first | exact absurd Hc98 (by decide) | exact absurd (by decide) Hc98
            · first | exact absurd Hc83 (by decide) | exact absurd (by decide) Hc83
          · first | exact absurd Hc72 (by decide) | exact absurd (by decide) Hc72
        · first | exact absurd Hc62 (by decide) | exact absurd (by decide) Hc62
theorem ts_op2 {l : Launch} {e li j : Nat} {y old : Int32} {n k K : Nat} {h : zH} {Q : zO → zH → Prop} (hWM : Wm h) (he : e < zC h 17) (hli : li < 12) (hto : zI h 38 e li = nI K) (hK : K ≤ 320) {hold : Int32} (hk : k < K) (hn : n < 300) (hs : zI h 39 e k = 2) (kk : TS l e li j y old (n + 1) hold (k + 1) (zsI h 20 0 n (opv 2 (zI h 20 0 n) (zI h 20 0 (n + 1)))) Q) : TS l e li j y old (n + 2) hold k h Q := by
  intro x1 x2 x3
  refine w_iload (zat TX14_tells_0 9 rfl) rfl ?_
  refine w_aload_n (zat TX14_tells_0 10 rfl) rfl ?_
  refine w_getR (zat TX14_tells_0 11 rfl) fX14_242 s17 (by decide) (by decide) rfl ((hWM.2.2.2.2 e he).1.2.2.2.1) ?_
  refine w_iload_n (zat TX14_tells_0 12 rfl) rfl ?_
  refine y_iaload _ _ (v := nI K) (zat TX14_tells_0 13 rfl) s38 (by decide) ((hWM.2.2.2.2 e he).2.2.2.2.1) (by decide) rfl hli hto ?_
  refine w_icmp_ge 246 (zat TX14_tells_0 14 rfl) (by decide) (fun Hc22 => ?_) (fun Hc22 => ?_)
  · exact absurd Hc22 (nI_ge hk (by omega))
  · refine w_aload_n (zat TX14_tells_0 15 rfl) rfl ?_
    refine w_getR (zat TX14_tells_0 16 rfl) fX14_301 s17 (by decide) (by decide) rfl ((hWM.2.2.2.2 e he).1.2.2.2.2.1) ?_
    refine w_iload (zat TX14_tells_0 17 rfl) rfl ?_
    refine y_iaload _ _ (v := 2) (zat TX14_tells_0 18 rfl) s39 (by decide) ((hWM.2.2.2.2 e he).2.2.2.2.2.1) (by decide) rfl (by omega) hs ?_
    refine x_istore (ls2 := [_, _, _, _, _, _, _, _, _, _, _, _]) (zat TX14_tells_0 19 rfl) (by decide) rfl ?_
    refine w_iload (zat TX14_tells_0 20 rfl) rfl ?_
    refine w_if_eq 45 (zat TX14_tells_0 21 rfl) (by decide) (fun Hc36 => ?_) (fun Hc36 => ?_)
    · exact absurd Hc36 (by decide)
    · refine w_iload (zat TX14_tells_0 22 rfl) rfl ?_
      refine w_iconst (v := 1) (zat TX14_tells_0 23 rfl) (by decide) ?_
      refine w_icmp_ne 119 (zat TX14_tells_0 24 rfl) (by decide) (fun Hc42 => ?_) (fun Hc42 => ?_)
      · refine w_iload (zat TX14_tells_1 1 rfl) rfl ?_
        refine w_bipush (v := 6) (zat TX14_tells_1 2 rfl) (by decide) ?_
        refine w_icmp_lt 205 (zat TX14_tells_1 3 rfl) (by decide) (fun Hc123 => ?_) (fun Hc123 => ?_)
        · refine x_iinc (v := nI (n + 1)) (ls2 := [_, _, _, _, _, _, _, _, _, _, _, _]) (zat TX14_tells_1 41 rfl) rfl (nI_m1 (n + 1)) rfl ?_
          refine w_aload_n (zat TX14_tells_1 42 rfl) rfl ?_
          refine w_getR (zat TX14_tells_1 43 rfl) fX14_57 s1 (by decide) (by decide) rfl (wmr hWM 9 rfl) ?_
          refine w_iload (zat TX14_tells_1 44 rfl) rfl ?_
          refine w_iconst (v := 1) (zat TX14_tells_1 45 rfl) (by decide) ?_
          refine w_isub (zat TX14_tells_1 46 rfl) ?_
          refine w_iload (zat TX14_tells_1 47 rfl) rfl ?_
          refine w_aload_n (zat TX14_tells_1 48 rfl) rfl ?_
          refine w_getR (zat TX14_tells_1 49 rfl) fX14_57 s1 (by decide) (by decide) rfl (wmr hWM 9 rfl) ?_
          refine w_iload (zat TX14_tells_1 50 rfl) rfl ?_
          refine w_iconst (v := 1) (zat TX14_tells_1 51 rfl) (by decide) ?_
          refine w_isub (zat TX14_tells_1 52 rfl) ?_
          refine x_iaload n _ (zat TX14_tells_1 53 rfl) s20 (by decide) (wmn hWM 8 rfl) (by decide) (nI_pred n) (by omega) ?_
          refine w_i2l (zat TX14_tells_1 54 rfl) ?_
          refine w_aload_n (zat TX14_tells_1 55 rfl) rfl ?_
          refine w_getR (zat TX14_tells_1 56 rfl) fX14_57 s1 (by decide) (by decide) rfl (wmr hWM 9 rfl) ?_
          refine w_iload (zat TX14_tells_1 57 rfl) rfl ?_
          refine x_iaload _ _ (zat TX14_tells_1 58 rfl) s20 (by decide) (wmn hWM 8 rfl) (by decide) rfl (by omega) ?_
          refine w_i2l (zat TX14_tells_1 59 rfl) ?_
          refine x_callv3 (qX14_both_2 l _ _ _) (by decide) kX14_both (rdy_S (zat TX14_tells_2 0 rfl) kX14_both pX14_both zw1337 zw1338) (Nat.le_of_ble_eq_true rfl) rfl rfl ?_
          refine x_iastore n _ (zat TX14_tells_2 1 rfl) s20 (by decide) (wmn hWM 8 rfl) (by decide) (nI_pred n) (by omega) ?_
          refine x_iinc (v := nI (k + 1)) (ls2 := [_, _, _, _, _, _, _, _, _, _, _, _]) (zat TX14_tells_2 2 rfl) rfl (nI_inc k) rfl ?_
          refine w_goto 14 (zat TX14_tells_2 3 rfl) (by decide) ?_
          exact kk _ _ _
        · first | exact absurd Hc123 (by decide) | exact absurd (by decide) Hc123
      · first | exact absurd Hc42 (by decide) | exact absurd (by decide) Hc42
theorem ts_op3 {l : Launch} {e li j : Nat} {y old : Int32} {n k K : Nat} {h : zH} {Q : zO → zH → Prop} (hWM : Wm h) (he : e < zC h 17) (hli : li < 12) (hto : zI h 38 e li = nI K) (hK : K ≤ 320) {hold : Int32} (hk : k < K) (hn : n < 300) (hs : zI h 39 e k = 3) (kk : TS l e li j y old (n + 1) hold (k + 1) (zsI h 20 0 n (opv 3 (zI h 20 0 n) (zI h 20 0 (n + 1)))) Q) : TS l e li j y old (n + 2) hold k h Q := by
  intro x1 x2 x3
  refine w_iload (zat TX14_tells_0 9 rfl) rfl ?_
  refine w_aload_n (zat TX14_tells_0 10 rfl) rfl ?_
  refine w_getR (zat TX14_tells_0 11 rfl) fX14_242 s17 (by decide) (by decide) rfl ((hWM.2.2.2.2 e he).1.2.2.2.1) ?_
  refine w_iload_n (zat TX14_tells_0 12 rfl) rfl ?_
  refine y_iaload _ _ (v := nI K) (zat TX14_tells_0 13 rfl) s38 (by decide) ((hWM.2.2.2.2 e he).2.2.2.2.1) (by decide) rfl hli hto ?_
  refine w_icmp_ge 246 (zat TX14_tells_0 14 rfl) (by decide) (fun Hc22 => ?_) (fun Hc22 => ?_)
  · exact absurd Hc22 (nI_ge hk (by omega))
  · refine w_aload_n (zat TX14_tells_0 15 rfl) rfl ?_
    refine w_getR (zat TX14_tells_0 16 rfl) fX14_301 s17 (by decide) (by decide) rfl ((hWM.2.2.2.2 e he).1.2.2.2.2.1) ?_
    refine w_iload (zat TX14_tells_0 17 rfl) rfl ?_
    refine y_iaload _ _ (v := 3) (zat TX14_tells_0 18 rfl) s39 (by decide) ((hWM.2.2.2.2 e he).2.2.2.2.2.1) (by decide) rfl (by omega) hs ?_
    refine x_istore (ls2 := [_, _, _, _, _, _, _, _, _, _, _, _]) (zat TX14_tells_0 19 rfl) (by decide) rfl ?_
    refine w_iload (zat TX14_tells_0 20 rfl) rfl ?_
    refine w_if_eq 45 (zat TX14_tells_0 21 rfl) (by decide) (fun Hc36 => ?_) (fun Hc36 => ?_)
    · exact absurd Hc36 (by decide)
    · refine w_iload (zat TX14_tells_0 22 rfl) rfl ?_
      refine w_iconst (v := 1) (zat TX14_tells_0 23 rfl) (by decide) ?_
      refine w_icmp_ne 119 (zat TX14_tells_0 24 rfl) (by decide) (fun Hc42 => ?_) (fun Hc42 => ?_)
      · refine w_iload (zat TX14_tells_1 1 rfl) rfl ?_
        refine w_bipush (v := 6) (zat TX14_tells_1 2 rfl) (by decide) ?_
        refine w_icmp_lt 205 (zat TX14_tells_1 3 rfl) (by decide) (fun Hc123 => ?_) (fun Hc123 => ?_)
        · refine x_iinc (v := nI (n + 1)) (ls2 := [_, _, _, _, _, _, _, _, _, _, _, _]) (zat TX14_tells_1 41 rfl) rfl (nI_m1 (n + 1)) rfl ?_
          refine w_aload_n (zat TX14_tells_1 42 rfl) rfl ?_
          refine w_getR (zat TX14_tells_1 43 rfl) fX14_57 s1 (by decide) (by decide) rfl (wmr hWM 9 rfl) ?_
          refine w_iload (zat TX14_tells_1 44 rfl) rfl ?_
          refine w_iconst (v := 1) (zat TX14_tells_1 45 rfl) (by decide) ?_
          refine w_isub (zat TX14_tells_1 46 rfl) ?_
          refine w_iload (zat TX14_tells_1 47 rfl) rfl ?_
          refine w_aload_n (zat TX14_tells_1 48 rfl) rfl ?_
          refine w_getR (zat TX14_tells_1 49 rfl) fX14_57 s1 (by decide) (by decide) rfl (wmr hWM 9 rfl) ?_
          refine w_iload (zat TX14_tells_1 50 rfl) rfl ?_
          refine w_iconst (v := 1) (zat TX14_tells_1 51 rfl) (by decide) ?_
          refine w_isub (zat TX14_tells_1 52 rfl) ?_
          refine x_iaload n _ (zat TX14_tells_1 53 rfl) s20 (by decide) (wmn hWM 8 rfl) (by decide) (nI_pred n) (by omega) ?_
          refine w_i2l (zat TX14_tells_1 54 rfl) ?_
          refine w_aload_n (zat TX14_tells_1 55 rfl) rfl ?_
          refine w_getR (zat TX14_tells_1 56 rfl) fX14_57 s1 (by decide) (by decide) rfl (wmr hWM 9 rfl) ?_
          refine w_iload (zat TX14_tells_1 57 rfl) rfl ?_
          refine x_iaload _ _ (zat TX14_tells_1 58 rfl) s20 (by decide) (wmn hWM 8 rfl) (by decide) rfl (by omega) ?_
          refine w_i2l (zat TX14_tells_1 59 rfl) ?_
          refine x_callv3 (qX14_both_3 l _ _ _) (by decide) kX14_both (rdy_S (zat TX14_tells_2 0 rfl) kX14_both pX14_both zw1337 zw1338) (Nat.le_of_ble_eq_true rfl) rfl rfl ?_
          refine x_iastore n _ (zat TX14_tells_2 1 rfl) s20 (by decide) (wmn hWM 8 rfl) (by decide) (nI_pred n) (by omega) ?_
          refine x_iinc (v := nI (k + 1)) (ls2 := [_, _, _, _, _, _, _, _, _, _, _, _]) (zat TX14_tells_2 2 rfl) rfl (nI_inc k) rfl ?_
          refine w_goto 14 (zat TX14_tells_2 3 rfl) (by decide) ?_
          exact kk _ _ _
        · first | exact absurd Hc123 (by decide) | exact absurd (by decide) Hc123
      · first | exact absurd Hc42 (by decide) | exact absurd (by decide) Hc42
theorem ts_op4 {l : Launch} {e li j : Nat} {y old : Int32} {n k K : Nat} {h : zH} {Q : zO → zH → Prop} (hWM : Wm h) (he : e < zC h 17) (hli : li < 12) (hto : zI h 38 e li = nI K) (hK : K ≤ 320) {hold : Int32} (hk : k < K) (hn : n < 300) (hs : zI h 39 e k = 4) (kk : TS l e li j y old (n + 1) hold (k + 1) (zsI h 20 0 n (opv 4 (zI h 20 0 n) (zI h 20 0 (n + 1)))) Q) : TS l e li j y old (n + 2) hold k h Q := by
  intro x1 x2 x3
  refine w_iload (zat TX14_tells_0 9 rfl) rfl ?_
  refine w_aload_n (zat TX14_tells_0 10 rfl) rfl ?_
  refine w_getR (zat TX14_tells_0 11 rfl) fX14_242 s17 (by decide) (by decide) rfl ((hWM.2.2.2.2 e he).1.2.2.2.1) ?_
  refine w_iload_n (zat TX14_tells_0 12 rfl) rfl ?_
  refine y_iaload _ _ (v := nI K) (zat TX14_tells_0 13 rfl) s38 (by decide) ((hWM.2.2.2.2 e he).2.2.2.2.1) (by decide) rfl hli hto ?_
  refine w_icmp_ge 246 (zat TX14_tells_0 14 rfl) (by decide) (fun Hc22 => ?_) (fun Hc22 => ?_)
  · exact absurd Hc22 (nI_ge hk (by omega))
  · refine w_aload_n (zat TX14_tells_0 15 rfl) rfl ?_
    refine w_getR (zat TX14_tells_0 16 rfl) fX14_301 s17 (by decide) (by decide) rfl ((hWM.2.2.2.2 e he).1.2.2.2.2.1) ?_
    refine w_iload (zat TX14_tells_0 17 rfl) rfl ?_
    refine y_iaload _ _ (v := 4) (zat TX14_tells_0 18 rfl) s39 (by decide) ((hWM.2.2.2.2 e he).2.2.2.2.2.1) (by decide) rfl (by omega) hs ?_
    refine x_istore (ls2 := [_, _, _, _, _, _, _, _, _, _, _, _]) (zat TX14_tells_0 19 rfl) (by decide) rfl ?_
    refine w_iload (zat TX14_tells_0 20 rfl) rfl ?_
    refine w_if_eq 45 (zat TX14_tells_0 21 rfl) (by decide) (fun Hc36 => ?_) (fun Hc36 => ?_)
    · exact absurd Hc36 (by decide)
    · refine w_iload (zat TX14_tells_0 22 rfl) rfl ?_
      refine w_iconst (v := 1) (zat TX14_tells_0 23 rfl) (by decide) ?_
      refine w_icmp_ne 119 (zat TX14_tells_0 24 rfl) (by decide) (fun Hc42 => ?_) (fun Hc42 => ?_)
      · refine w_iload (zat TX14_tells_1 1 rfl) rfl ?_
        refine w_bipush (v := 6) (zat TX14_tells_1 2 rfl) (by decide) ?_
        refine w_icmp_lt 205 (zat TX14_tells_1 3 rfl) (by decide) (fun Hc123 => ?_) (fun Hc123 => ?_)
        · refine x_iinc (v := nI (n + 1)) (ls2 := [_, _, _, _, _, _, _, _, _, _, _, _]) (zat TX14_tells_1 41 rfl) rfl (nI_m1 (n + 1)) rfl ?_
          refine w_aload_n (zat TX14_tells_1 42 rfl) rfl ?_
          refine w_getR (zat TX14_tells_1 43 rfl) fX14_57 s1 (by decide) (by decide) rfl (wmr hWM 9 rfl) ?_
          refine w_iload (zat TX14_tells_1 44 rfl) rfl ?_
          refine w_iconst (v := 1) (zat TX14_tells_1 45 rfl) (by decide) ?_
          refine w_isub (zat TX14_tells_1 46 rfl) ?_
          refine w_iload (zat TX14_tells_1 47 rfl) rfl ?_
          refine w_aload_n (zat TX14_tells_1 48 rfl) rfl ?_
          refine w_getR (zat TX14_tells_1 49 rfl) fX14_57 s1 (by decide) (by decide) rfl (wmr hWM 9 rfl) ?_
          refine w_iload (zat TX14_tells_1 50 rfl) rfl ?_
          refine w_iconst (v := 1) (zat TX14_tells_1 51 rfl) (by decide) ?_
          refine w_isub (zat TX14_tells_1 52 rfl) ?_
          refine x_iaload n _ (zat TX14_tells_1 53 rfl) s20 (by decide) (wmn hWM 8 rfl) (by decide) (nI_pred n) (by omega) ?_
          refine w_i2l (zat TX14_tells_1 54 rfl) ?_
          refine w_aload_n (zat TX14_tells_1 55 rfl) rfl ?_
          refine w_getR (zat TX14_tells_1 56 rfl) fX14_57 s1 (by decide) (by decide) rfl (wmr hWM 9 rfl) ?_
          refine w_iload (zat TX14_tells_1 57 rfl) rfl ?_
          refine x_iaload _ _ (zat TX14_tells_1 58 rfl) s20 (by decide) (wmn hWM 8 rfl) (by decide) rfl (by omega) ?_
          refine w_i2l (zat TX14_tells_1 59 rfl) ?_
          refine x_callv3 (qX14_both_4 l _ _ _) (by decide) kX14_both (rdy_S (zat TX14_tells_2 0 rfl) kX14_both pX14_both zw1337 zw1338) (Nat.le_of_ble_eq_true rfl) rfl rfl ?_
          refine x_iastore n _ (zat TX14_tells_2 1 rfl) s20 (by decide) (wmn hWM 8 rfl) (by decide) (nI_pred n) (by omega) ?_
          refine x_iinc (v := nI (k + 1)) (ls2 := [_, _, _, _, _, _, _, _, _, _, _, _]) (zat TX14_tells_2 2 rfl) rfl (nI_inc k) rfl ?_
          refine w_goto 14 (zat TX14_tells_2 3 rfl) (by decide) ?_
          exact kk _ _ _
        · first | exact absurd Hc123 (by decide) | exact absurd (by decide) Hc123
      · first | exact absurd Hc42 (by decide) | exact absurd (by decide) Hc42
theorem ts_op5 {l : Launch} {e li j : Nat} {y old : Int32} {n k K : Nat} {h : zH} {Q : zO → zH → Prop} (hWM : Wm h) (he : e < zC h 17) (hli : li < 12) (hto : zI h 38 e li = nI K) (hK : K ≤ 320) {hold : Int32} (hk : k < K) (hn : n < 300) (hs : zI h 39 e k = 5) (kk : TS l e li j y old (n + 1) hold (k + 1) (zsI h 20 0 n (opv 5 (zI h 20 0 n) (zI h 20 0 (n + 1)))) Q) : TS l e li j y old (n + 2) hold k h Q := by
  intro x1 x2 x3
  refine w_iload (zat TX14_tells_0 9 rfl) rfl ?_
  refine w_aload_n (zat TX14_tells_0 10 rfl) rfl ?_
  refine w_getR (zat TX14_tells_0 11 rfl) fX14_242 s17 (by decide) (by decide) rfl ((hWM.2.2.2.2 e he).1.2.2.2.1) ?_
  refine w_iload_n (zat TX14_tells_0 12 rfl) rfl ?_
  refine y_iaload _ _ (v := nI K) (zat TX14_tells_0 13 rfl) s38 (by decide) ((hWM.2.2.2.2 e he).2.2.2.2.1) (by decide) rfl hli hto ?_
  refine w_icmp_ge 246 (zat TX14_tells_0 14 rfl) (by decide) (fun Hc22 => ?_) (fun Hc22 => ?_)
  · exact absurd Hc22 (nI_ge hk (by omega))
  · refine w_aload_n (zat TX14_tells_0 15 rfl) rfl ?_
    refine w_getR (zat TX14_tells_0 16 rfl) fX14_301 s17 (by decide) (by decide) rfl ((hWM.2.2.2.2 e he).1.2.2.2.2.1) ?_
    refine w_iload (zat TX14_tells_0 17 rfl) rfl ?_
    refine y_iaload _ _ (v := 5) (zat TX14_tells_0 18 rfl) s39 (by decide) ((hWM.2.2.2.2 e he).2.2.2.2.2.1) (by decide) rfl (by omega) hs ?_
    refine x_istore (ls2 := [_, _, _, _, _, _, _, _, _, _, _, _]) (zat TX14_tells_0 19 rfl) (by decide) rfl ?_
    refine w_iload (zat TX14_tells_0 20 rfl) rfl ?_
    refine w_if_eq 45 (zat TX14_tells_0 21 rfl) (by decide) (fun Hc36 => ?_) (fun Hc36 => ?_)
    · exact absurd Hc36 (by decide)
    · refine w_iload (zat TX14_tells_0 22 rfl) rfl ?_
      refine w_iconst (v := 1) (zat TX14_tells_0 23 rfl) (by decide) ?_
      refine w_icmp_ne 119 (zat TX14_tells_0 24 rfl) (by decide) (fun Hc42 => ?_) (fun Hc42 => ?_)
      · refine w_iload (zat TX14_tells_1 1 rfl) rfl ?_
        refine w_bipush (v := 6) (zat TX14_tells_1 2 rfl) (by decide) ?_
        refine w_icmp_lt 205 (zat TX14_tells_1 3 rfl) (by decide) (fun Hc123 => ?_) (fun Hc123 => ?_)
        · refine x_iinc (v := nI (n + 1)) (ls2 := [_, _, _, _, _, _, _, _, _, _, _, _]) (zat TX14_tells_1 41 rfl) rfl (nI_m1 (n + 1)) rfl ?_
          refine w_aload_n (zat TX14_tells_1 42 rfl) rfl ?_
          refine w_getR (zat TX14_tells_1 43 rfl) fX14_57 s1 (by decide) (by decide) rfl (wmr hWM 9 rfl) ?_
          refine w_iload (zat TX14_tells_1 44 rfl) rfl ?_
          refine w_iconst (v := 1) (zat TX14_tells_1 45 rfl) (by decide) ?_
          refine w_isub (zat TX14_tells_1 46 rfl) ?_
          refine w_iload (zat TX14_tells_1 47 rfl) rfl ?_
          refine w_aload_n (zat TX14_tells_1 48 rfl) rfl ?_
          refine w_getR (zat TX14_tells_1 49 rfl) fX14_57 s1 (by decide) (by decide) rfl (wmr hWM 9 rfl) ?_
          refine w_iload (zat TX14_tells_1 50 rfl) rfl ?_
          refine w_iconst (v := 1) (zat TX14_tells_1 51 rfl) (by decide) ?_
          refine w_isub (zat TX14_tells_1 52 rfl) ?_
          refine x_iaload n _ (zat TX14_tells_1 53 rfl) s20 (by decide) (wmn hWM 8 rfl) (by decide) (nI_pred n) (by omega) ?_
          refine w_i2l (zat TX14_tells_1 54 rfl) ?_
          refine w_aload_n (zat TX14_tells_1 55 rfl) rfl ?_
          refine w_getR (zat TX14_tells_1 56 rfl) fX14_57 s1 (by decide) (by decide) rfl (wmr hWM 9 rfl) ?_
          refine w_iload (zat TX14_tells_1 57 rfl) rfl ?_
          refine x_iaload _ _ (zat TX14_tells_1 58 rfl) s20 (by decide) (wmn hWM 8 rfl) (by decide) rfl (by omega) ?_
          refine w_i2l (zat TX14_tells_1 59 rfl) ?_
          refine x_callv3 (qX14_both_5 l _ _ _) (by decide) kX14_both (rdy_S (zat TX14_tells_2 0 rfl) kX14_both pX14_both zw1337 zw1338) (Nat.le_of_ble_eq_true rfl) rfl rfl ?_
          refine x_iastore n _ (zat TX14_tells_2 1 rfl) s20 (by decide) (wmn hWM 8 rfl) (by decide) (nI_pred n) (by omega) ?_
          refine x_iinc (v := nI (k + 1)) (ls2 := [_, _, _, _, _, _, _, _, _, _, _, _]) (zat TX14_tells_2 2 rfl) rfl (nI_inc k) rfl ?_
          refine w_goto 14 (zat TX14_tells_2 3 rfl) (by decide) ?_
          exact kk _ _ _
        · first | exact absurd Hc123 (by decide) | exact absurd (by decide) Hc123
      · first | exact absurd Hc42 (by decide) | exact absurd (by decide) Hc42
theorem ts_cmp6_f {l : Launch} {e li j : Nat} {y old : Int32} {n k K : Nat} {h : zH} {Q : zO → zH → Prop} (hWM : Wm h) (he : e < zC h 17) (hli : li < 12) (hto : zI h 38 e li = nI K) (hK : K ≤ 320) (hk : k < K) (hn : n < 300) (hs : zI h 39 e k = 6) (kk : TS l e li j y old n 0 (k + 1) h Q) : TS l e li j y old (n + 2) 0 k h Q := by
  intro x1 x2 x3
  refine w_iload (zat TX14_tells_0 9 rfl) rfl ?_
  refine w_aload_n (zat TX14_tells_0 10 rfl) rfl ?_
  refine w_getR (zat TX14_tells_0 11 rfl) fX14_242 s17 (by decide) (by decide) rfl ((hWM.2.2.2.2 e he).1.2.2.2.1) ?_
  refine w_iload_n (zat TX14_tells_0 12 rfl) rfl ?_
  refine y_iaload _ _ (v := nI K) (zat TX14_tells_0 13 rfl) s38 (by decide) ((hWM.2.2.2.2 e he).2.2.2.2.1) (by decide) rfl hli hto ?_
  refine w_icmp_ge 246 (zat TX14_tells_0 14 rfl) (by decide) (fun Hc22 => ?_) (fun Hc22 => ?_)
  · exact absurd Hc22 (nI_ge hk (by omega))
  · refine w_aload_n (zat TX14_tells_0 15 rfl) rfl ?_
    refine w_getR (zat TX14_tells_0 16 rfl) fX14_301 s17 (by decide) (by decide) rfl ((hWM.2.2.2.2 e he).1.2.2.2.2.1) ?_
    refine w_iload (zat TX14_tells_0 17 rfl) rfl ?_
    refine y_iaload _ _ (v := 6) (zat TX14_tells_0 18 rfl) s39 (by decide) ((hWM.2.2.2.2 e he).2.2.2.2.2.1) (by decide) rfl (by omega) hs ?_
    refine x_istore (ls2 := [_, _, _, _, _, _, _, _, _, _, _, _]) (zat TX14_tells_0 19 rfl) (by decide) rfl ?_
    refine w_iload (zat TX14_tells_0 20 rfl) rfl ?_
    refine w_if_eq 45 (zat TX14_tells_0 21 rfl) (by decide) (fun Hc36 => ?_) (fun Hc36 => ?_)
    · exact absurd Hc36 (by decide)
    · refine w_iload (zat TX14_tells_0 22 rfl) rfl ?_
      refine w_iconst (v := 1) (zat TX14_tells_0 23 rfl) (by decide) ?_
      refine w_icmp_ne 119 (zat TX14_tells_0 24 rfl) (by decide) (fun Hc42 => ?_) (fun Hc42 => ?_)
      · refine w_iload (zat TX14_tells_1 1 rfl) rfl ?_
        refine w_bipush (v := 6) (zat TX14_tells_1 2 rfl) (by decide) ?_
        refine w_icmp_lt 205 (zat TX14_tells_1 3 rfl) (by decide) (fun Hc123 => ?_) (fun Hc123 => ?_)
        · exact absurd Hc123 (by decide)
        · refine x_iinc (v := nI n) (ls2 := [_, _, _, _, _, _, _, _, _, _, _, _]) (zat TX14_tells_1 4 rfl) rfl (nI_m2 n) rfl ?_
          refine w_aload_n (zat TX14_tells_1 5 rfl) rfl ?_
          refine w_getR (zat TX14_tells_1 6 rfl) fX14_57 s1 (by decide) (by decide) rfl (wmr hWM 9 rfl) ?_
          refine w_iload (zat TX14_tells_1 7 rfl) rfl ?_
          refine x_iaload _ _ (zat TX14_tells_1 8 rfl) s20 (by decide) (wmn hWM 8 rfl) (by decide) rfl (by omega) ?_
          refine x_istore (ls2 := [_, _, _, _, _, _, _, _, _, _, _, _]) (zat TX14_tells_1 9 rfl) (by decide) rfl ?_
          refine w_aload_n (zat TX14_tells_1 10 rfl) rfl ?_
          refine w_getR (zat TX14_tells_1 11 rfl) fX14_57 s1 (by decide) (by decide) rfl (wmr hWM 9 rfl) ?_
          refine w_iload (zat TX14_tells_1 12 rfl) rfl ?_
          refine w_iconst (v := 1) (zat TX14_tells_1 13 rfl) (by decide) ?_
          refine w_iadd (zat TX14_tells_1 14 rfl) ?_
          refine x_iaload (n + 1) _ (zat TX14_tells_1 15 rfl) s20 (by decide) (wmn hWM 8 rfl) (by decide) (nI_1 n) (by omega) ?_
          refine x_istore (ls2 := [_, _, _, _, _, _, _, _, _, _, _, _]) (zat TX14_tells_1 16 rfl) (by decide) rfl ?_
          refine w_iload (zat TX14_tells_1 17 rfl) rfl ?_
          refine w_if_eq 199 (zat TX14_tells_1 18 rfl) (by decide) (fun Hc151 => ?_) (fun Hc151 => ?_)
          · refine w_iconst (v := 0) (zat TX14_tells_1 38 rfl) (by decide) ?_
            refine x_istore (ls2 := [_, _, _, _, _, _, _, _, _, _, _, _]) (zat TX14_tells_1 39 rfl) (by decide) rfl ?_
            refine w_goto 240 (zat TX14_tells_1 40 rfl) (by decide) ?_
            refine x_iinc (v := nI (k + 1)) (ls2 := [_, _, _, _, _, _, _, _, _, _, _, _]) (zat TX14_tells_2 2 rfl) rfl (nI_inc k) rfl ?_
            refine w_goto 14 (zat TX14_tells_2 3 rfl) (by decide) ?_
            exact kk _ _ _
          · exact absurd rfl Hc151
      · first | exact absurd Hc42 (by decide) | exact absurd (by decide) Hc42
theorem ts_cmp6_t {l : Launch} {e li j : Nat} {y old : Int32} {n k K : Nat} {h : zH} {Q : zO → zH → Prop} (hWM : Wm h) (he : e < zC h 17) (hli : li < 12) (hto : zI h 38 e li = nI K) (hK : K ≤ 320) (hk : k < K) (hn : n < 300) (hs : zI h 39 e k = 6) (kk : TS l e li j y old n (zb (zI h 20 0 n < zI h 20 0 (n + 1))) (k + 1) h Q) : TS l e li j y old (n + 2) 1 k h Q := by
  intro x1 x2 x3
  refine w_iload (zat TX14_tells_0 9 rfl) rfl ?_
  refine w_aload_n (zat TX14_tells_0 10 rfl) rfl ?_
  refine w_getR (zat TX14_tells_0 11 rfl) fX14_242 s17 (by decide) (by decide) rfl ((hWM.2.2.2.2 e he).1.2.2.2.1) ?_
  refine w_iload_n (zat TX14_tells_0 12 rfl) rfl ?_
  refine y_iaload _ _ (v := nI K) (zat TX14_tells_0 13 rfl) s38 (by decide) ((hWM.2.2.2.2 e he).2.2.2.2.1) (by decide) rfl hli hto ?_
  refine w_icmp_ge 246 (zat TX14_tells_0 14 rfl) (by decide) (fun Hc22 => ?_) (fun Hc22 => ?_)
  · exact absurd Hc22 (nI_ge hk (by omega))
  · refine w_aload_n (zat TX14_tells_0 15 rfl) rfl ?_
    refine w_getR (zat TX14_tells_0 16 rfl) fX14_301 s17 (by decide) (by decide) rfl ((hWM.2.2.2.2 e he).1.2.2.2.2.1) ?_
    refine w_iload (zat TX14_tells_0 17 rfl) rfl ?_
    refine y_iaload _ _ (v := 6) (zat TX14_tells_0 18 rfl) s39 (by decide) ((hWM.2.2.2.2 e he).2.2.2.2.2.1) (by decide) rfl (by omega) hs ?_
    refine x_istore (ls2 := [_, _, _, _, _, _, _, _, _, _, _, _]) (zat TX14_tells_0 19 rfl) (by decide) rfl ?_
    refine w_iload (zat TX14_tells_0 20 rfl) rfl ?_
    refine w_if_eq 45 (zat TX14_tells_0 21 rfl) (by decide) (fun Hc36 => ?_) (fun Hc36 => ?_)
    · exact absurd Hc36 (by decide)
    · refine w_iload (zat TX14_tells_0 22 rfl) rfl ?_
      refine w_iconst (v := 1) (zat TX14_tells_0 23 rfl) (by decide) ?_
      refine w_icmp_ne 119 (zat TX14_tells_0 24 rfl) (by decide) (fun Hc42 => ?_) (fun Hc42 => ?_)
      · refine w_iload (zat TX14_tells_1 1 rfl) rfl ?_
        refine w_bipush (v := 6) (zat TX14_tells_1 2 rfl) (by decide) ?_
        refine w_icmp_lt 205 (zat TX14_tells_1 3 rfl) (by decide) (fun Hc123 => ?_) (fun Hc123 => ?_)
        · exact absurd Hc123 (by decide)
        · refine x_iinc (v := nI n) (ls2 := [_, _, _, _, _, _, _, _, _, _, _, _]) (zat TX14_tells_1 4 rfl) rfl (nI_m2 n) rfl ?_
          refine w_aload_n (zat TX14_tells_1 5 rfl) rfl ?_
          refine w_getR (zat TX14_tells_1 6 rfl) fX14_57 s1 (by decide) (by decide) rfl (wmr hWM 9 rfl) ?_
          refine w_iload (zat TX14_tells_1 7 rfl) rfl ?_
          refine x_iaload _ _ (zat TX14_tells_1 8 rfl) s20 (by decide) (wmn hWM 8 rfl) (by decide) rfl (by omega) ?_
          refine x_istore (ls2 := [_, _, _, _, _, _, _, _, _, _, _, _]) (zat TX14_tells_1 9 rfl) (by decide) rfl ?_
          refine w_aload_n (zat TX14_tells_1 10 rfl) rfl ?_
          refine w_getR (zat TX14_tells_1 11 rfl) fX14_57 s1 (by decide) (by decide) rfl (wmr hWM 9 rfl) ?_
          refine w_iload (zat TX14_tells_1 12 rfl) rfl ?_
          refine w_iconst (v := 1) (zat TX14_tells_1 13 rfl) (by decide) ?_
          refine w_iadd (zat TX14_tells_1 14 rfl) ?_
          refine x_iaload (n + 1) _ (zat TX14_tells_1 15 rfl) s20 (by decide) (wmn hWM 8 rfl) (by decide) (nI_1 n) (by omega) ?_
          refine x_istore (ls2 := [_, _, _, _, _, _, _, _, _, _, _, _]) (zat TX14_tells_1 16 rfl) (by decide) rfl ?_
          refine w_iload (zat TX14_tells_1 17 rfl) rfl ?_
          refine w_if_eq 199 (zat TX14_tells_1 18 rfl) (by decide) (fun Hc151 => ?_) (fun Hc151 => ?_)
          · exact absurd Hc151 (by decide)
          · refine w_iload (zat TX14_tells_1 19 rfl) rfl ?_
            refine w_bipush (v := 6) (zat TX14_tells_1 20 rfl) (by decide) ?_
            refine w_icmp_ne 171 (zat TX14_tells_1 21 rfl) (by decide) (fun Hc158 => ?_) (fun Hc158 => ?_)
            · exact absurd Hc158 (by decide)
            · refine w_iload (zat TX14_tells_1 22 rfl) rfl ?_
              refine w_iload (zat TX14_tells_1 23 rfl) rfl ?_
              refine w_icmp_ge 199 (zat TX14_tells_1 24 rfl) (by decide) (fun Hc165 => ?_) (fun Hc165 => ?_)
              · rw [zb_f (Int32.not_lt.mpr Hc165)] at kk
                refine w_iconst (v := 0) (zat TX14_tells_1 38 rfl) (by decide) ?_
                refine x_istore (ls2 := [_, _, _, _, _, _, _, _, _, _, _, _]) (zat TX14_tells_1 39 rfl) (by decide) rfl ?_
                refine w_goto 240 (zat TX14_tells_1 40 rfl) (by decide) ?_
                refine x_iinc (v := nI (k + 1)) (ls2 := [_, _, _, _, _, _, _, _, _, _, _, _]) (zat TX14_tells_2 2 rfl) rfl (nI_inc k) rfl ?_
                refine w_goto 14 (zat TX14_tells_2 3 rfl) (by decide) ?_
                exact kk _ _ _
              · rw [zb_t (Int32.not_le.mp Hc165)] at kk
                refine w_goto 195 (zat TX14_tells_1 25 rfl) (by decide) ?_
                refine w_iconst (v := 1) (zat TX14_tells_1 36 rfl) (by decide) ?_
                refine w_goto 200 (zat TX14_tells_1 37 rfl) (by decide) ?_
                refine x_istore (ls2 := [_, _, _, _, _, _, _, _, _, _, _, _]) (zat TX14_tells_1 39 rfl) (by decide) rfl ?_
                refine w_goto 240 (zat TX14_tells_1 40 rfl) (by decide) ?_
                refine x_iinc (v := nI (k + 1)) (ls2 := [_, _, _, _, _, _, _, _, _, _, _, _]) (zat TX14_tells_2 2 rfl) rfl (nI_inc k) rfl ?_
                refine w_goto 14 (zat TX14_tells_2 3 rfl) (by decide) ?_
                exact kk _ _ _
      · first | exact absurd Hc42 (by decide) | exact absurd (by decide) Hc42
theorem ts_cmp7_f {l : Launch} {e li j : Nat} {y old : Int32} {n k K : Nat} {h : zH} {Q : zO → zH → Prop} (hWM : Wm h) (he : e < zC h 17) (hli : li < 12) (hto : zI h 38 e li = nI K) (hK : K ≤ 320) (hk : k < K) (hn : n < 300) (hs : zI h 39 e k = 7) (kk : TS l e li j y old n 0 (k + 1) h Q) : TS l e li j y old (n + 2) 0 k h Q := by
  intro x1 x2 x3
  refine w_iload (zat TX14_tells_0 9 rfl) rfl ?_
  refine w_aload_n (zat TX14_tells_0 10 rfl) rfl ?_
  refine w_getR (zat TX14_tells_0 11 rfl) fX14_242 s17 (by decide) (by decide) rfl ((hWM.2.2.2.2 e he).1.2.2.2.1) ?_
  refine w_iload_n (zat TX14_tells_0 12 rfl) rfl ?_
  refine y_iaload _ _ (v := nI K) (zat TX14_tells_0 13 rfl) s38 (by decide) ((hWM.2.2.2.2 e he).2.2.2.2.1) (by decide) rfl hli hto ?_
  refine w_icmp_ge 246 (zat TX14_tells_0 14 rfl) (by decide) (fun Hc22 => ?_) (fun Hc22 => ?_)
  · exact absurd Hc22 (nI_ge hk (by omega))
  · refine w_aload_n (zat TX14_tells_0 15 rfl) rfl ?_
    refine w_getR (zat TX14_tells_0 16 rfl) fX14_301 s17 (by decide) (by decide) rfl ((hWM.2.2.2.2 e he).1.2.2.2.2.1) ?_
    refine w_iload (zat TX14_tells_0 17 rfl) rfl ?_
    refine y_iaload _ _ (v := 7) (zat TX14_tells_0 18 rfl) s39 (by decide) ((hWM.2.2.2.2 e he).2.2.2.2.2.1) (by decide) rfl (by omega) hs ?_
    refine x_istore (ls2 := [_, _, _, _, _, _, _, _, _, _, _, _]) (zat TX14_tells_0 19 rfl) (by decide) rfl ?_
    refine w_iload (zat TX14_tells_0 20 rfl) rfl ?_
    refine w_if_eq 45 (zat TX14_tells_0 21 rfl) (by decide) (fun Hc36 => ?_) (fun Hc36 => ?_)
    · exact absurd Hc36 (by decide)
    · refine w_iload (zat TX14_tells_0 22 rfl) rfl ?_
      refine w_iconst (v := 1) (zat TX14_tells_0 23 rfl) (by decide) ?_
      refine w_icmp_ne 119 (zat TX14_tells_0 24 rfl) (by decide) (fun Hc42 => ?_) (fun Hc42 => ?_)
      · refine w_iload (zat TX14_tells_1 1 rfl) rfl ?_
        refine w_bipush (v := 6) (zat TX14_tells_1 2 rfl) (by decide) ?_
        refine w_icmp_lt 205 (zat TX14_tells_1 3 rfl) (by decide) (fun Hc123 => ?_) (fun Hc123 => ?_)
        · exact absurd Hc123 (by decide)
        · refine x_iinc (v := nI n) (ls2 := [_, _, _, _, _, _, _, _, _, _, _, _]) (zat TX14_tells_1 4 rfl) rfl (nI_m2 n) rfl ?_
          refine w_aload_n (zat TX14_tells_1 5 rfl) rfl ?_
          refine w_getR (zat TX14_tells_1 6 rfl) fX14_57 s1 (by decide) (by decide) rfl (wmr hWM 9 rfl) ?_
          refine w_iload (zat TX14_tells_1 7 rfl) rfl ?_
          refine x_iaload _ _ (zat TX14_tells_1 8 rfl) s20 (by decide) (wmn hWM 8 rfl) (by decide) rfl (by omega) ?_
          refine x_istore (ls2 := [_, _, _, _, _, _, _, _, _, _, _, _]) (zat TX14_tells_1 9 rfl) (by decide) rfl ?_
          refine w_aload_n (zat TX14_tells_1 10 rfl) rfl ?_
          refine w_getR (zat TX14_tells_1 11 rfl) fX14_57 s1 (by decide) (by decide) rfl (wmr hWM 9 rfl) ?_
          refine w_iload (zat TX14_tells_1 12 rfl) rfl ?_
          refine w_iconst (v := 1) (zat TX14_tells_1 13 rfl) (by decide) ?_
          refine w_iadd (zat TX14_tells_1 14 rfl) ?_
          refine x_iaload (n + 1) _ (zat TX14_tells_1 15 rfl) s20 (by decide) (wmn hWM 8 rfl) (by decide) (nI_1 n) (by omega) ?_
          refine x_istore (ls2 := [_, _, _, _, _, _, _, _, _, _, _, _]) (zat TX14_tells_1 16 rfl) (by decide) rfl ?_
          refine w_iload (zat TX14_tells_1 17 rfl) rfl ?_
          refine w_if_eq 199 (zat TX14_tells_1 18 rfl) (by decide) (fun Hc151 => ?_) (fun Hc151 => ?_)
          · refine w_iconst (v := 0) (zat TX14_tells_1 38 rfl) (by decide) ?_
            refine x_istore (ls2 := [_, _, _, _, _, _, _, _, _, _, _, _]) (zat TX14_tells_1 39 rfl) (by decide) rfl ?_
            refine w_goto 240 (zat TX14_tells_1 40 rfl) (by decide) ?_
            refine x_iinc (v := nI (k + 1)) (ls2 := [_, _, _, _, _, _, _, _, _, _, _, _]) (zat TX14_tells_2 2 rfl) rfl (nI_inc k) rfl ?_
            refine w_goto 14 (zat TX14_tells_2 3 rfl) (by decide) ?_
            exact kk _ _ _
          · exact absurd rfl Hc151
      · first | exact absurd Hc42 (by decide) | exact absurd (by decide) Hc42
theorem ts_cmp7_t {l : Launch} {e li j : Nat} {y old : Int32} {n k K : Nat} {h : zH} {Q : zO → zH → Prop} (hWM : Wm h) (he : e < zC h 17) (hli : li < 12) (hto : zI h 38 e li = nI K) (hK : K ≤ 320) (hk : k < K) (hn : n < 300) (hs : zI h 39 e k = 7) (kk : TS l e li j y old n (zb (zI h 20 0 (n + 1) < zI h 20 0 n)) (k + 1) h Q) : TS l e li j y old (n + 2) 1 k h Q := by
  intro x1 x2 x3
  refine w_iload (zat TX14_tells_0 9 rfl) rfl ?_
  refine w_aload_n (zat TX14_tells_0 10 rfl) rfl ?_
  refine w_getR (zat TX14_tells_0 11 rfl) fX14_242 s17 (by decide) (by decide) rfl ((hWM.2.2.2.2 e he).1.2.2.2.1) ?_
  refine w_iload_n (zat TX14_tells_0 12 rfl) rfl ?_
  refine y_iaload _ _ (v := nI K) (zat TX14_tells_0 13 rfl) s38 (by decide) ((hWM.2.2.2.2 e he).2.2.2.2.1) (by decide) rfl hli hto ?_
  refine w_icmp_ge 246 (zat TX14_tells_0 14 rfl) (by decide) (fun Hc22 => ?_) (fun Hc22 => ?_)
  · exact absurd Hc22 (nI_ge hk (by omega))
  · refine w_aload_n (zat TX14_tells_0 15 rfl) rfl ?_
    refine w_getR (zat TX14_tells_0 16 rfl) fX14_301 s17 (by decide) (by decide) rfl ((hWM.2.2.2.2 e he).1.2.2.2.2.1) ?_
    refine w_iload (zat TX14_tells_0 17 rfl) rfl ?_
    refine y_iaload _ _ (v := 7) (zat TX14_tells_0 18 rfl) s39 (by decide) ((hWM.2.2.2.2 e he).2.2.2.2.2.1) (by decide) rfl (by omega) hs ?_
    refine x_istore (ls2 := [_, _, _, _, _, _, _, _, _, _, _, _]) (zat TX14_tells_0 19 rfl) (by decide) rfl ?_
    refine w_iload (zat TX14_tells_0 20 rfl) rfl ?_
    refine w_if_eq 45 (zat TX14_tells_0 21 rfl) (by decide) (fun Hc36 => ?_) (fun Hc36 => ?_)
    · exact absurd Hc36 (by decide)
    · refine w_iload (zat TX14_tells_0 22 rfl) rfl ?_
      refine w_iconst (v := 1) (zat TX14_tells_0 23 rfl) (by decide) ?_
      refine w_icmp_ne 119 (zat TX14_tells_0 24 rfl) (by decide) (fun Hc42 => ?_) (fun Hc42 => ?_)
      · refine w_iload (zat TX14_tells_1 1 rfl) rfl ?_
        refine w_bipush (v := 6) (zat TX14_tells_1 2 rfl) (by decide) ?_
        refine w_icmp_lt 205 (zat TX14_tells_1 3 rfl) (by decide) (fun Hc123 => ?_) (fun Hc123 => ?_)
        · exact absurd Hc123 (by decide)
        · refine x_iinc (v := nI n) (ls2 := [_, _, _, _, _, _, _, _, _, _, _, _]) (zat TX14_tells_1 4 rfl) rfl (nI_m2 n) rfl ?_
          refine w_aload_n (zat TX14_tells_1 5 rfl) rfl ?_
          refine w_getR (zat TX14_tells_1 6 rfl) fX14_57 s1 (by decide) (by decide) rfl (wmr hWM 9 rfl) ?_
          refine w_iload (zat TX14_tells_1 7 rfl) rfl ?_
          refine x_iaload _ _ (zat TX14_tells_1 8 rfl) s20 (by decide) (wmn hWM 8 rfl) (by decide) rfl (by omega) ?_
          refine x_istore (ls2 := [_, _, _, _, _, _, _, _, _, _, _, _]) (zat TX14_tells_1 9 rfl) (by decide) rfl ?_
          refine w_aload_n (zat TX14_tells_1 10 rfl) rfl ?_
          refine w_getR (zat TX14_tells_1 11 rfl) fX14_57 s1 (by decide) (by decide) rfl (wmr hWM 9 rfl) ?_
          refine w_iload (zat TX14_tells_1 12 rfl) rfl ?_
          refine w_iconst (v := 1) (zat TX14_tells_1 13 rfl) (by decide) ?_
          refine w_iadd (zat TX14_tells_1 14 rfl) ?_
          refine x_iaload (n + 1) _ (zat TX14_tells_1 15 rfl) s20 (by decide) (wmn hWM 8 rfl) (by decide) (nI_1 n) (by omega) ?_
          refine x_istore (ls2 := [_, _, _, _, _, _, _, _, _, _, _, _]) (zat TX14_tells_1 16 rfl) (by decide) rfl ?_
          refine w_iload (zat TX14_tells_1 17 rfl) rfl ?_
          refine w_if_eq 199 (zat TX14_tells_1 18 rfl) (by decide) (fun Hc151 => ?_) (fun Hc151 => ?_)
          · exact absurd Hc151 (by decide)
          · refine w_iload (zat TX14_tells_1 19 rfl) rfl ?_
            refine w_bipush (v := 6) (zat TX14_tells_1 20 rfl) (by decide) ?_
            refine w_icmp_ne 171 (zat TX14_tells_1 21 rfl) (by decide) (fun Hc158 => ?_) (fun Hc158 => ?_)
            · refine w_iload (zat TX14_tells_1 26 rfl) rfl ?_
              refine w_bipush (v := 7) (zat TX14_tells_1 27 rfl) (by decide) ?_
              refine w_icmp_ne 188 (zat TX14_tells_1 28 rfl) (by decide) (fun Hc175 => ?_) (fun Hc175 => ?_)
              · exact absurd Hc175 (by decide)
              · refine w_iload (zat TX14_tells_1 29 rfl) rfl ?_
                refine w_iload (zat TX14_tells_1 30 rfl) rfl ?_
                refine w_icmp_le 199 (zat TX14_tells_1 31 rfl) (by decide) (fun Hc182 => ?_) (fun Hc182 => ?_)
                · rw [zb_f (Int32.not_lt.mpr Hc182)] at kk
                  refine w_iconst (v := 0) (zat TX14_tells_1 38 rfl) (by decide) ?_
                  refine x_istore (ls2 := [_, _, _, _, _, _, _, _, _, _, _, _]) (zat TX14_tells_1 39 rfl) (by decide) rfl ?_
                  refine w_goto 240 (zat TX14_tells_1 40 rfl) (by decide) ?_
                  refine x_iinc (v := nI (k + 1)) (ls2 := [_, _, _, _, _, _, _, _, _, _, _, _]) (zat TX14_tells_2 2 rfl) rfl (nI_inc k) rfl ?_
                  refine w_goto 14 (zat TX14_tells_2 3 rfl) (by decide) ?_
                  exact kk _ _ _
                · rw [zb_t (Int32.not_le.mp Hc182)] at kk
                  refine w_goto 195 (zat TX14_tells_1 32 rfl) (by decide) ?_
                  refine w_iconst (v := 1) (zat TX14_tells_1 36 rfl) (by decide) ?_
                  refine w_goto 200 (zat TX14_tells_1 37 rfl) (by decide) ?_
                  refine x_istore (ls2 := [_, _, _, _, _, _, _, _, _, _, _, _]) (zat TX14_tells_1 39 rfl) (by decide) rfl ?_
                  refine w_goto 240 (zat TX14_tells_1 40 rfl) (by decide) ?_
                  refine x_iinc (v := nI (k + 1)) (ls2 := [_, _, _, _, _, _, _, _, _, _, _, _]) (zat TX14_tells_2 2 rfl) rfl (nI_inc k) rfl ?_
                  refine w_goto 14 (zat TX14_tells_2 3 rfl) (by decide) ?_
                  exact kk _ _ _
            · first | exact absurd Hc158 (by decide) | exact absurd (by decide) Hc158
      · first | exact absurd Hc42 (by decide) | exact absurd (by decide) Hc42
theorem ts_cmp8_f {l : Launch} {e li j : Nat} {y old : Int32} {n k K : Nat} {h : zH} {Q : zO → zH → Prop} (hWM : Wm h) (he : e < zC h 17) (hli : li < 12) (hto : zI h 38 e li = nI K) (hK : K ≤ 320) (hk : k < K) (hn : n < 300) (hs : zI h 39 e k = 8) (kk : TS l e li j y old n 0 (k + 1) h Q) : TS l e li j y old (n + 2) 0 k h Q := by
  intro x1 x2 x3
  refine w_iload (zat TX14_tells_0 9 rfl) rfl ?_
  refine w_aload_n (zat TX14_tells_0 10 rfl) rfl ?_
  refine w_getR (zat TX14_tells_0 11 rfl) fX14_242 s17 (by decide) (by decide) rfl ((hWM.2.2.2.2 e he).1.2.2.2.1) ?_
  refine w_iload_n (zat TX14_tells_0 12 rfl) rfl ?_
  refine y_iaload _ _ (v := nI K) (zat TX14_tells_0 13 rfl) s38 (by decide) ((hWM.2.2.2.2 e he).2.2.2.2.1) (by decide) rfl hli hto ?_
  refine w_icmp_ge 246 (zat TX14_tells_0 14 rfl) (by decide) (fun Hc22 => ?_) (fun Hc22 => ?_)
  · exact absurd Hc22 (nI_ge hk (by omega))
  · refine w_aload_n (zat TX14_tells_0 15 rfl) rfl ?_
    refine w_getR (zat TX14_tells_0 16 rfl) fX14_301 s17 (by decide) (by decide) rfl ((hWM.2.2.2.2 e he).1.2.2.2.2.1) ?_
    refine w_iload (zat TX14_tells_0 17 rfl) rfl ?_
    refine y_iaload _ _ (v := 8) (zat TX14_tells_0 18 rfl) s39 (by decide) ((hWM.2.2.2.2 e he).2.2.2.2.2.1) (by decide) rfl (by omega) hs ?_
    refine x_istore (ls2 := [_, _, _, _, _, _, _, _, _, _, _, _]) (zat TX14_tells_0 19 rfl) (by decide) rfl ?_
    refine w_iload (zat TX14_tells_0 20 rfl) rfl ?_
    refine w_if_eq 45 (zat TX14_tells_0 21 rfl) (by decide) (fun Hc36 => ?_) (fun Hc36 => ?_)
    · exact absurd Hc36 (by decide)
    · refine w_iload (zat TX14_tells_0 22 rfl) rfl ?_
      refine w_iconst (v := 1) (zat TX14_tells_0 23 rfl) (by decide) ?_
      refine w_icmp_ne 119 (zat TX14_tells_0 24 rfl) (by decide) (fun Hc42 => ?_) (fun Hc42 => ?_)
      · refine w_iload (zat TX14_tells_1 1 rfl) rfl ?_
        refine w_bipush (v := 6) (zat TX14_tells_1 2 rfl) (by decide) ?_
        refine w_icmp_lt 205 (zat TX14_tells_1 3 rfl) (by decide) (fun Hc123 => ?_) (fun Hc123 => ?_)
        · exact absurd Hc123 (by decide)
        · refine x_iinc (v := nI n) (ls2 := [_, _, _, _, _, _, _, _, _, _, _, _]) (zat TX14_tells_1 4 rfl) rfl (nI_m2 n) rfl ?_
          refine w_aload_n (zat TX14_tells_1 5 rfl) rfl ?_
          refine w_getR (zat TX14_tells_1 6 rfl) fX14_57 s1 (by decide) (by decide) rfl (wmr hWM 9 rfl) ?_
          refine w_iload (zat TX14_tells_1 7 rfl) rfl ?_
          refine x_iaload _ _ (zat TX14_tells_1 8 rfl) s20 (by decide) (wmn hWM 8 rfl) (by decide) rfl (by omega) ?_
          refine x_istore (ls2 := [_, _, _, _, _, _, _, _, _, _, _, _]) (zat TX14_tells_1 9 rfl) (by decide) rfl ?_
          refine w_aload_n (zat TX14_tells_1 10 rfl) rfl ?_
          refine w_getR (zat TX14_tells_1 11 rfl) fX14_57 s1 (by decide) (by decide) rfl (wmr hWM 9 rfl) ?_
          refine w_iload (zat TX14_tells_1 12 rfl) rfl ?_
          refine w_iconst (v := 1) (zat TX14_tells_1 13 rfl) (by decide) ?_
          refine w_iadd (zat TX14_tells_1 14 rfl) ?_
          refine x_iaload (n + 1) _ (zat TX14_tells_1 15 rfl) s20 (by decide) (wmn hWM 8 rfl) (by decide) (nI_1 n) (by omega) ?_
          refine x_istore (ls2 := [_, _, _, _, _, _, _, _, _, _, _, _]) (zat TX14_tells_1 16 rfl) (by decide) rfl ?_
          refine w_iload (zat TX14_tells_1 17 rfl) rfl ?_
          refine w_if_eq 199 (zat TX14_tells_1 18 rfl) (by decide) (fun Hc151 => ?_) (fun Hc151 => ?_)
          · refine w_iconst (v := 0) (zat TX14_tells_1 38 rfl) (by decide) ?_
            refine x_istore (ls2 := [_, _, _, _, _, _, _, _, _, _, _, _]) (zat TX14_tells_1 39 rfl) (by decide) rfl ?_
            refine w_goto 240 (zat TX14_tells_1 40 rfl) (by decide) ?_
            refine x_iinc (v := nI (k + 1)) (ls2 := [_, _, _, _, _, _, _, _, _, _, _, _]) (zat TX14_tells_2 2 rfl) rfl (nI_inc k) rfl ?_
            refine w_goto 14 (zat TX14_tells_2 3 rfl) (by decide) ?_
            exact kk _ _ _
          · exact absurd rfl Hc151
      · first | exact absurd Hc42 (by decide) | exact absurd (by decide) Hc42
theorem ts_cmp8_t {l : Launch} {e li j : Nat} {y old : Int32} {n k K : Nat} {h : zH} {Q : zO → zH → Prop} (hWM : Wm h) (he : e < zC h 17) (hli : li < 12) (hto : zI h 38 e li = nI K) (hK : K ≤ 320) (hk : k < K) (hn : n < 300) (hs : zI h 39 e k = 8) (kk : TS l e li j y old n (zb (zI h 20 0 n = zI h 20 0 (n + 1))) (k + 1) h Q) : TS l e li j y old (n + 2) 1 k h Q := by
  intro x1 x2 x3
  refine w_iload (zat TX14_tells_0 9 rfl) rfl ?_
  refine w_aload_n (zat TX14_tells_0 10 rfl) rfl ?_
  refine w_getR (zat TX14_tells_0 11 rfl) fX14_242 s17 (by decide) (by decide) rfl ((hWM.2.2.2.2 e he).1.2.2.2.1) ?_
  refine w_iload_n (zat TX14_tells_0 12 rfl) rfl ?_
  refine y_iaload _ _ (v := nI K) (zat TX14_tells_0 13 rfl) s38 (by decide) ((hWM.2.2.2.2 e he).2.2.2.2.1) (by decide) rfl hli hto ?_
  refine w_icmp_ge 246 (zat TX14_tells_0 14 rfl) (by decide) (fun Hc22 => ?_) (fun Hc22 => ?_)
  · exact absurd Hc22 (nI_ge hk (by omega))
  · refine w_aload_n (zat TX14_tells_0 15 rfl) rfl ?_
    refine w_getR (zat TX14_tells_0 16 rfl) fX14_301 s17 (by decide) (by decide) rfl ((hWM.2.2.2.2 e he).1.2.2.2.2.1) ?_
    refine w_iload (zat TX14_tells_0 17 rfl) rfl ?_
    refine y_iaload _ _ (v := 8) (zat TX14_tells_0 18 rfl) s39 (by decide) ((hWM.2.2.2.2 e he).2.2.2.2.2.1) (by decide) rfl (by omega) hs ?_
    refine x_istore (ls2 := [_, _, _, _, _, _, _, _, _, _, _, _]) (zat TX14_tells_0 19 rfl) (by decide) rfl ?_
    refine w_iload (zat TX14_tells_0 20 rfl) rfl ?_
    refine w_if_eq 45 (zat TX14_tells_0 21 rfl) (by decide) (fun Hc36 => ?_) (fun Hc36 => ?_)
    · exact absurd Hc36 (by decide)
    · refine w_iload (zat TX14_tells_0 22 rfl) rfl ?_
      refine w_iconst (v := 1) (zat TX14_tells_0 23 rfl) (by decide) ?_
      refine w_icmp_ne 119 (zat TX14_tells_0 24 rfl) (by decide) (fun Hc42 => ?_) (fun Hc42 => ?_)
      · refine w_iload (zat TX14_tells_1 1 rfl) rfl ?_
        refine w_bipush (v := 6) (zat TX14_tells_1 2 rfl) (by decide) ?_
        refine w_icmp_lt 205 (zat TX14_tells_1 3 rfl) (by decide) (fun Hc123 => ?_) (fun Hc123 => ?_)
        · exact absurd Hc123 (by decide)
        · refine x_iinc (v := nI n) (ls2 := [_, _, _, _, _, _, _, _, _, _, _, _]) (zat TX14_tells_1 4 rfl) rfl (nI_m2 n) rfl ?_
          refine w_aload_n (zat TX14_tells_1 5 rfl) rfl ?_
          refine w_getR (zat TX14_tells_1 6 rfl) fX14_57 s1 (by decide) (by decide) rfl (wmr hWM 9 rfl) ?_
          refine w_iload (zat TX14_tells_1 7 rfl) rfl ?_
          refine x_iaload _ _ (zat TX14_tells_1 8 rfl) s20 (by decide) (wmn hWM 8 rfl) (by decide) rfl (by omega) ?_
          refine x_istore (ls2 := [_, _, _, _, _, _, _, _, _, _, _, _]) (zat TX14_tells_1 9 rfl) (by decide) rfl ?_
          refine w_aload_n (zat TX14_tells_1 10 rfl) rfl ?_
          refine w_getR (zat TX14_tells_1 11 rfl) fX14_57 s1 (by decide) (by decide) rfl (wmr hWM 9 rfl) ?_
          refine w_iload (zat TX14_tells_1 12 rfl) rfl ?_
          refine w_iconst (v := 1) (zat TX14_tells_1 13 rfl) (by decide) ?_
          refine w_iadd (zat TX14_tells_1 14 rfl) ?_
          refine x_iaload (n + 1) _ (zat TX14_tells_1 15 rfl) s20 (by decide) (wmn hWM 8 rfl) (by decide) (nI_1 n) (by omega) ?_
          refine x_istore (ls2 := [_, _, _, _, _, _, _, _, _, _, _, _]) (zat TX14_tells_1 16 rfl) (by decide) rfl ?_
          refine w_iload (zat TX14_tells_1 17 rfl) rfl ?_
          refine w_if_eq 199 (zat TX14_tells_1 18 rfl) (by decide) (fun Hc151 => ?_) (fun Hc151 => ?_)
          · exact absurd Hc151 (by decide)
          · refine w_iload (zat TX14_tells_1 19 rfl) rfl ?_
            refine w_bipush (v := 6) (zat TX14_tells_1 20 rfl) (by decide) ?_
            refine w_icmp_ne 171 (zat TX14_tells_1 21 rfl) (by decide) (fun Hc158 => ?_) (fun Hc158 => ?_)
            · refine w_iload (zat TX14_tells_1 26 rfl) rfl ?_
              refine w_bipush (v := 7) (zat TX14_tells_1 27 rfl) (by decide) ?_
              refine w_icmp_ne 188 (zat TX14_tells_1 28 rfl) (by decide) (fun Hc175 => ?_) (fun Hc175 => ?_)
              · refine w_iload (zat TX14_tells_1 33 rfl) rfl ?_
                refine w_iload (zat TX14_tells_1 34 rfl) rfl ?_
                refine w_icmp_ne 199 (zat TX14_tells_1 35 rfl) (by decide) (fun Hc192 => ?_) (fun Hc192 => ?_)
                · rw [zb_f Hc192] at kk
                  refine w_iconst (v := 0) (zat TX14_tells_1 38 rfl) (by decide) ?_
                  refine x_istore (ls2 := [_, _, _, _, _, _, _, _, _, _, _, _]) (zat TX14_tells_1 39 rfl) (by decide) rfl ?_
                  refine w_goto 240 (zat TX14_tells_1 40 rfl) (by decide) ?_
                  refine x_iinc (v := nI (k + 1)) (ls2 := [_, _, _, _, _, _, _, _, _, _, _, _]) (zat TX14_tells_2 2 rfl) rfl (nI_inc k) rfl ?_
                  refine w_goto 14 (zat TX14_tells_2 3 rfl) (by decide) ?_
                  exact kk _ _ _
                · rw [zb_t Hc192] at kk
                  refine w_iconst (v := 1) (zat TX14_tells_1 36 rfl) (by decide) ?_
                  refine w_goto 200 (zat TX14_tells_1 37 rfl) (by decide) ?_
                  refine x_istore (ls2 := [_, _, _, _, _, _, _, _, _, _, _, _]) (zat TX14_tells_1 39 rfl) (by decide) rfl ?_
                  refine w_goto 240 (zat TX14_tells_1 40 rfl) (by decide) ?_
                  refine x_iinc (v := nI (k + 1)) (ls2 := [_, _, _, _, _, _, _, _, _, _, _, _]) (zat TX14_tells_2 2 rfl) rfl (nI_inc k) rfl ?_
                  refine w_goto 14 (zat TX14_tells_2 3 rfl) (by decide) ?_
                  exact kk _ _ _
              · first | exact absurd Hc175 (by decide) | exact absurd (by decide) Hc175
            · first | exact absurd Hc158 (by decide) | exact absurd (by decide) Hc158
      · first | exact absurd Hc42 (by decide) | exact absurd (by decide) Hc42
theorem ts_end {l : Launch} {e li j : Nat} {y old : Int32} {n k K : Nat} {h : zH} {Q : zO → zH → Prop} (hWM : Wm h) (he : e < zC h 17) (hli : li < 12) (hto : zI h 38 e li = nI K) (hK : K ≤ 320) {b : Bool} (hk : k = K) (hq : Q (Rv (Vi (if b then zI h 20 0 0 else -1000001))) h) : TS l e li j y old n (zb (b = true)) k h Q := by
  intro x1 x2 x3
  cases b
  · rw [zb_f (by decide)]
    refine w_iload (zat TX14_tells_0 9 rfl) rfl ?_
    refine w_aload_n (zat TX14_tells_0 10 rfl) rfl ?_
    refine w_getR (zat TX14_tells_0 11 rfl) fX14_242 s17 (by decide) (by decide) rfl ((hWM.2.2.2.2 e he).1.2.2.2.1) ?_
    refine w_iload_n (zat TX14_tells_0 12 rfl) rfl ?_
    refine y_iaload _ _ (v := nI K) (zat TX14_tells_0 13 rfl) s38 (by decide) ((hWM.2.2.2.2 e he).2.2.2.2.1) (by decide) rfl hli hto ?_
    refine w_icmp_ge 246 (zat TX14_tells_0 14 rfl) (by decide) (fun Hc22 => ?_) (fun Hc22 => ?_)
    · refine w_iload (zat TX14_tells_2 4 rfl) rfl ?_
      refine w_if_eq 260 (zat TX14_tells_2 5 rfl) (by decide) (fun Hc248 => ?_) (fun Hc248 => ?_)
      · refine w_ldcw (v := -1000001) (zat TX14_tells_2 11 rfl) zw1347 ?_
        refine w_ireturn (zat TX14_tells_2 12 rfl) rfl rfl ?_
        exact hq
      · exact absurd rfl Hc248
    · exact absurd (nI_le (by omega) (by omega)) Hc22
  · rw [zb_t rfl]
    refine w_iload (zat TX14_tells_0 9 rfl) rfl ?_
    refine w_aload_n (zat TX14_tells_0 10 rfl) rfl ?_
    refine w_getR (zat TX14_tells_0 11 rfl) fX14_242 s17 (by decide) (by decide) rfl ((hWM.2.2.2.2 e he).1.2.2.2.1) ?_
    refine w_iload_n (zat TX14_tells_0 12 rfl) rfl ?_
    refine y_iaload _ _ (v := nI K) (zat TX14_tells_0 13 rfl) s38 (by decide) ((hWM.2.2.2.2 e he).2.2.2.2.1) (by decide) rfl hli hto ?_
    refine w_icmp_ge 246 (zat TX14_tells_0 14 rfl) (by decide) (fun Hc22 => ?_) (fun Hc22 => ?_)
    · refine w_iload (zat TX14_tells_2 4 rfl) rfl ?_
      refine w_if_eq 260 (zat TX14_tells_2 5 rfl) (by decide) (fun Hc248 => ?_) (fun Hc248 => ?_)
      · exact absurd Hc248 (by decide)
      · refine w_aload_n (zat TX14_tells_2 6 rfl) rfl ?_
        refine w_getR (zat TX14_tells_2 7 rfl) fX14_57 s1 (by decide) (by decide) rfl (wmr hWM 9 rfl) ?_
        refine w_iconst (v := 0) (zat TX14_tells_2 8 rfl) (by decide) ?_
        refine x_iaload 0 _ (zat TX14_tells_2 9 rfl) s20 (by decide) (wmn hWM 8 rfl) (by decide) (show (0 : Int32) = nI 0 from rfl) (by decide) ?_
        refine w_goto 263 (zat TX14_tells_2 10 rfl) (by decide) ?_
        refine w_ireturn (zat TX14_tells_2 12 rfl) rfl rfl ?_
        exact hq
    · exact absurd (nI_le (by omega) (by omega)) Hc22
