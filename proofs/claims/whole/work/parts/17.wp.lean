-- HANDIER FORMS
section zROWS
variable {l : Launch} {M M2 : zM} {d d2 pc nx : Nat} {ls ls2 : List (Option zV)} {st : List zV} {h h2 h' : zH} {o o2 : zO} {Q : zO → zH → Prop}
/-- exactly this end -/
def Cx (l : Launch) (d : Nat) (M : zM) (as : List zV) (h : zH) (o : zO) (h2 : zH) : Prop := Ct l d M as h (fun o' h' => o' = o ∧ h' = h2)
/-- A METHOD'S CONTRACT out of its body -/
theorem Ct.ofF {as : List zV} (hok : zOK M) (hpl : plainFor (zMy M) = true) (hn : (zent as).length ≤ zMn M) (k : Wp l M d 0 (zent as) [] h Q) : Ct l d M as h Q := by
  obtain ⟨o, h', ⟨hle, hk⟩, hq⟩ := k
  refine ⟨o, h', ⟨hle, fun E ad => ?_⟩, hq⟩
  refine MetFree.of_bodySF (code := zMc M) (maxLocals := zMn M) (ret := zMr M) hpl ?_ ?_
  · intro args s m hpre hnm
    obtain ⟨m', meth, c, h1, h2, h3, h4, h5, h6, h7, h8, -⟩ := zMw_spec (atoms_spec (ws := zMw M :: zALL) hpre _ List.mem_cons_self)
    cases hnm.symm.trans h1
    exact ⟨meth, c, h2, h3, h4, h5, h7, h8⟩
  · intro p e s m args below meth c s₁ B hml hP _
    obtain ⟨rfl, hE, hp, hA, hal⟩ := hP
    have hts := atoms_spec (ws := zMw M :: zALL) B.pre
    obtain ⟨m', meth', c', h1, h2, h3, h4, h5, h6, h7, h8, -⟩ := zMw_spec (hts _ List.mem_cons_self)
    cases B.named.symm.trans h1
    cases B.method.symm.trans h2
    have hX := Stand.of_body B
    cases hX.code.symm.trans h3
    have cx : zCx l M d E p e (headSpec (zMw M :: zALL) (zrm d h h')).room s m ((as.map (zenc ad)).toArray) below meth c :=
      ⟨B.exec, B.bytes, B.returns, hml, findClass_of_methodNamed B.named, fun w hw => hts w (List.mem_cons_of_mem _ hw), B.notSynchronized, (name_of_methodNamed B.named B.method).1, h6, Nat.le_refl _, Nat.le_refl _, hA, hE⟩
    have hlen : (lg_sl (as.map (zenc ad))).length ≤ zMn M := by rw [zent_len]; exact hn
    have hl := lv_entry (as.map (zenc ad)) (n := zMn M) hlen
    have hh0 : s₁.heap = s.heap := by rw [B.state]; rfl
    have hz : zLo ad (zMn M) (zent as) ((lg_sl (as.map (zenc ad)) ++ List.replicate (zMn M - (lg_sl (as.map (zenc ad))).length) Slot.unset).toArray) :=
      ⟨hl.1, hl.2.1, fun i v hi => hl.2.2 (i, zenc ad v) (by have := zent_args (ad := ad) as 0 i v hi; rw [Nat.zero_add] at this; exact this)⟩
    have w := hk E p e _ s m _ below meth c s.heap [] 0 0 ad _ cx hp va_S.rf hz (fun v hv => by cases hv) (fun v hv => hal v (zent_mem hv)) (by show 0 + (zc h' - zc h) ≤ zc h' - zc h; omega) (by show 0 + (zs h' - zs h) ≤ zs h' - zs h; omega)
    obtain ⟨t, a1, b1, ad', b2, b3, b4, b5, b6, b7, L, b8, b9⟩ := w s₁ hh0 hX
    refine ⟨t, _, ?_, b1, b3, ⟨ad', b2, rfl, b4, b5, b6⟩, b7, L, by rw [Nat.zero_add, Nat.zero_add] at b8; exact b8, b9⟩
    rw [lg_entry_eq]
    exact a1
theorem Ct.in {as : List zV} (kp : Nat) (hok : zOK M) (hpl : plainFor (zMy M) = true) (hn : (zent as).length + kp ≤ zMn M) (k : Wp l M d 0 (zent as ++ List.replicate kp none) [] h Q) : Ct l d M as h Q := by
  refine Ct.ofF hok hpl (by omega) ?_
  obtain ⟨o, h', ⟨hle, hk⟩, hq⟩ := k
  refine ⟨o, h', ⟨hle, ?_⟩, hq⟩
  intro E p e R s m args below meth c H locs cells slots ad la cx hp hS hl ha hb hcc hdd
  refine hk E p e R s m args below meth c H locs cells slots ad la cx hp hS ⟨hl.1, hl.2.1, fun i v hi => ?_⟩ ha (fun v hv => ?_) hcc hdd
  · rcases Nat.lt_or_ge i (zent as).length with y | y
    · rw [List.getElem?_append_left y] at hi; exact hl.2.2 i v hi
    · rw [List.getElem?_append_right y] at hi
      rw [List.getElem?_replicate] at hi
      split at hi <;> cases hi
  · rcases List.mem_append.mp hv with y | y
    · exact hb v y
    · have := List.eq_of_mem_replicate y; cases this
theorem x_istore_n {k : Fin 4} {x : Int32} (hd : zAt M pc (.istore_n k) 1 nx) (hn : (k : Nat) < zMn M) (e : zput ls (k : Nat) (Vi x) = ls2) (kk : Wp l M d nx ls2 st h Q) : Wp l M d pc ls (Vi x :: st) h Q := w_istore_n hd hn (e ▸ kk)
theorem x_istore {i : Nat} {x : Int32} (hd : zAt M pc (.istore i) 2 nx) (hn : i < zMn M) (e : zput ls i (Vi x) = ls2) (kk : Wp l M d nx ls2 st h Q) : Wp l M d pc ls (Vi x :: st) h Q := w_istore hd hn (e ▸ kk)
theorem x_lstore_n {k : Fin 4} {x : Int64} (hd : zAt M pc (.lstore_n k) 1 nx) (hn : (k : Nat) + 1 < zMn M) (e : zput ls (k : Nat) (Vj x) = ls2) (kk : Wp l M d nx ls2 st h Q) : Wp l M d pc ls (Vj x :: st) h Q := w_lstore_n hd hn (e ▸ kk)
theorem x_lstore {i : Nat} {x : Int64} (hd : zAt M pc (.lstore i) 2 nx) (hn : i + 1 < zMn M) (e : zput ls i (Vj x) = ls2) (kk : Wp l M d nx ls2 st h Q) : Wp l M d pc ls (Vj x :: st) h Q := w_lstore hd hn (e ▸ kk)
theorem x_astore_n {k : Fin 4} {q : Option zRf} (hd : zAt M pc (.astore_n k) 1 nx) (hn : (k : Nat) < zMn M) (e : zput ls (k : Nat) (Vq q) = ls2) (kk : Wp l M d nx ls2 st h Q) : Wp l M d pc ls (Vq q :: st) h Q := w_astore_n hd hn (e ▸ kk)
theorem x_astore {i : Nat} {q : Option zRf} (hd : zAt M pc (.astore i) 2 nx) (hn : i < zMn M) (e : zput ls i (Vq q) = ls2) (kk : Wp l M d nx ls2 st h Q) : Wp l M d pc ls (Vq q :: st) h Q := w_astore hd hn (e ▸ kk)
theorem x_iinc {i : Nat} {n : Int} {x v : Int32} (hd : zAt M pc (.iinc i n) 3 nx) (hx : ls[i]? = some (some (Vi x))) (hv : x + Int32.ofInt n = v) (e : zput ls i (Vi v) = ls2) (kk : Wp l M d nx ls2 st h Q) : Wp l M d pc ls st h Q := w_iinc hd hx hv (e ▸ kk)
-- arrays by a known length
theorem x_iaload {k i : Nat} {x : Int32} (n L : Nat) (hd : zAt M pc .iaload 1 nx) (hs : zshp k = 100) (hr : k < 900) (hL : zN h k i = L) (hb : L < 2 ^ 31) (hx : x = nI n) (hn : n < L) (kk : Wp l M d nx ls (Vi (zI h k i n) :: st) h Q) : Wp l M d pc ls (Vi x :: Vq (some (k, i)) :: st) h Q := w_iaload n hd hs hr hx (by rw [hL]; exact hn) (by rw [hL]; exact hb) kk
theorem x_baload {k i : Nat} {x : Int32} (n L : Nat) (hd : zAt M pc .baload 1 nx) (hs : zshp k = 102) (hr : k < 900) (hL : zN h k i = L) (hb : L < 2 ^ 31) (hx : x = nI n) (hn : n < L) (kk : Wp l M d nx ls (Vi (zI h k i n) :: st) h Q) : Wp l M d pc ls (Vi x :: Vq (some (k, i)) :: st) h Q := w_baload n hd hs hr hx (by rw [hL]; exact hn) (by rw [hL]; exact hb) kk
theorem x_zaload {k i : Nat} {x : Int32} (n L : Nat) (hd : zAt M pc .baload 1 nx) (hs : zshp k = 103) (hr : k < 900) (hL : zN h k i = L) (hb : L < 2 ^ 31) (hx : x = nI n) (hn : n < L) (kk : Wp l M d nx ls (Vi (zI h k i n) :: st) h Q) : Wp l M d pc ls (Vi x :: Vq (some (k, i)) :: st) h Q := w_zaload n hd hs hr hx (by rw [hL]; exact hn) (by rw [hL]; exact hb) kk
theorem x_laload {k i : Nat} {x : Int32} (n L : Nat) (hd : zAt M pc .laload 1 nx) (hs : zshp k = 101) (hr : k < 900) (hL : zN h k i = L) (hb : L < 2 ^ 31) (hx : x = nI n) (hn : n < L) (kk : Wp l M d nx ls (Vj (zL h k i n) :: st) h Q) : Wp l M d pc ls (Vi x :: Vq (some (k, i)) :: st) h Q := w_laload n hd hs hr hx (by rw [hL]; exact hn) (by rw [hL]; exact hb) kk
theorem x_aaload {k i : Nat} {x : Int32} {q : Option zRf} (n L : Nat) (hd : zAt M pc .aaload 1 nx) (hs : 110 ≤ zshp k) (hr : k < 900) (he : ∃ C, zel (zshp k) = .object C) (hL : zN h k i = L) (hb : L < 2 ^ 31) (hx : x = nI n) (hn : n < L) (hq : zR h k i n = q) (kk : Wp l M d nx ls (Vq q :: st) h Q) : Wp l M d pc ls (Vi x :: Vq (some (k, i)) :: st) h Q := w_aaload n hd hs hr hx (by rw [hL]; exact hn) (by rw [hL]; exact hb) he hq kk
theorem x_iastore {k i : Nat} {x v : Int32} (n L : Nat) (hd : zAt M pc .iastore 1 nx) (hs : zshp k = 100) (hr : k < 900) (hL : zN h k i = L) (hb : L < 2 ^ 31) (hx : x = nI n) (hn : n < L) (kk : Wp l M d nx ls st (zsI h k i n v) Q) : Wp l M d pc ls (Vi v :: Vi x :: Vq (some (k, i)) :: st) h Q := w_iastore n hd hs hr hx (by rw [hL]; exact hn) (by rw [hL]; exact hb) kk
theorem x_bastore {k i : Nat} {x v : Int32} (n L : Nat) (hd : zAt M pc .bastore 1 nx) (hs : zshp k = 102) (hr : k < 900) (hL : zN h k i = L) (hb : L < 2 ^ 31) (hx : x = nI n) (hn : n < L) (kk : Wp l M d nx ls st (zsI h k i n (vp_nar .byte v)) Q) : Wp l M d pc ls (Vi v :: Vi x :: Vq (some (k, i)) :: st) h Q := w_bastore n hd hs hr hx (by rw [hL]; exact hn) (by rw [hL]; exact hb) kk
theorem x_zastore {k i : Nat} {x v : Int32} (n L : Nat) (hd : zAt M pc .bastore 1 nx) (hs : zshp k = 103) (hr : k < 900) (hL : zN h k i = L) (hb : L < 2 ^ 31) (hx : x = nI n) (hn : n < L) (kk : Wp l M d nx ls st (zsI h k i n (vp_nar .boolean v)) Q) : Wp l M d pc ls (Vi v :: Vi x :: Vq (some (k, i)) :: st) h Q := w_zastore n hd hs hr hx (by rw [hL]; exact hn) (by rw [hL]; exact hb) kk
theorem x_lastore {k i : Nat} {x : Int32} {v : Int64} (n L : Nat) (hd : zAt M pc .lastore 1 nx) (hs : zshp k = 101) (hr : k < 900) (hL : zN h k i = L) (hb : L < 2 ^ 31) (hx : x = nI n) (hn : n < L) (kk : Wp l M d nx ls st (zsL h k i n v) Q) : Wp l M d pc ls (Vj v :: Vi x :: Vq (some (k, i)) :: st) h Q := w_lastore n hd hs hr hx (by rw [hL]; exact hn) (by rw [hL]; exact hb) kk
theorem x_aastore {k i ci : Nat} {x : Int32} {r' : zRf} (n L : Nat) (hd : zAt M pc .aastore 1 nx) (hs : zshp k = 110 + ci) (hr : k < 900) (hs' : zshp r'.1 = ci) (hci : ci < 15) (hr' : r'.1 < 900) (hL : zN h k i = L) (hb : L < 2 ^ 31) (hx : x = nI n) (hn : n < L) (kk : Wp l M d nx ls st (zsR h k i n (some r')) Q) : Wp l M d pc ls (Vq (some r') :: Vi x :: Vq (some (k, i)) :: st) h Q := w_aastore n hd hs hr hs' hci hr' hx (by rw [hL]; exact hn) (by rw [hL]; exact hb) kk
-- calls by the number of arguments
def zct (M : zM) (pc : Nat) : Bool := (zMh M).all (fun x => !(decide (x.1 ≤ pc) && decide (pc < x.2.1)))
theorem zct_out {M : zM} {pc : Nat} (h : zct M pc = true) : ∀ x ∈ zMh M, ¬ (x.1 ≤ pc ∧ pc < x.2.1) := by
  intro x hx ⟨a, b⟩
  have := List.all_eq_true.mp h x hx
  simp [a, b] at this
theorem x_call0  {Qc : zO → zH → Prop} (hM : Ct l d2 M2 [] h Qc) (hd : d2 + 1 ≤ d) (hok : zOK M2) (hr : zRdy l M d pc M2 [] h) (hw : (st.map zcat).sum ≤ 8) (hn : nx = pc + 3) (hc : zct M pc = true)
    (kr : ∀ (v : Option zV) (h2 : zH), Qc (Sum.inl v) h2 → Wp l M d nx ls (v.toList ++ st) h2 Q) (kt : ∀ (r : zRf) (h2 : zH), Qc (Sum.inr r) h2 → Q (Sum.inr r) h2) : Wp l M d pc ls (st) h Q :=
  w_call (as := []) (st := st) hM hd hok hr hw hn (zct_out hc) kr kt
theorem x_callv0  {v : zV} (hM : Cx l d2 M2 [] h (Sum.inl (some v)) h2) (hd : d2 + 1 ≤ d) (hok : zOK M2) (hr : zRdy l M d pc M2 [] h) (hw : (st.map zcat).sum ≤ 8) (hn : nx = pc + 3) (hc : zct M pc = true) (kr : Wp l M d nx ls (v :: st) h2 Q) : Wp l M d pc ls (st) h Q :=
  x_call0 (Qc := fun o' h' => o' = Sum.inl (some v) ∧ h' = h2) hM hd hok hr hw hn hc (fun w h3 hq => by
    obtain ⟨e1, e2⟩ := hq
    cases e1
    rw [e2]
    exact kr) (fun r h3 hq => by cases hq.1)
theorem x_callu0  (hM : Cx l d2 M2 [] h (Sum.inl none) h2) (hd : d2 + 1 ≤ d) (hok : zOK M2) (hr : zRdy l M d pc M2 [] h) (hw : (st.map zcat).sum ≤ 8) (hn : nx = pc + 3) (hc : zct M pc = true) (kr : Wp l M d nx ls st h2 Q) : Wp l M d pc ls (st) h Q :=
  x_call0 (Qc := fun o' h' => o' = Sum.inl none ∧ h' = h2) hM hd hok hr hw hn hc (fun w h3 hq => by
    obtain ⟨e1, e2⟩ := hq
    cases e1
    rw [e2]
    exact kr) (fun r h3 hq => by cases hq.1)
theorem x_call1 {a0 : zV} {Qc : zO → zH → Prop} (hM : Ct l d2 M2 [a0] h Qc) (hd : d2 + 1 ≤ d) (hok : zOK M2) (hr : zRdy l M d pc M2 [a0] h) (hw : (st.map zcat).sum ≤ 8) (hn : nx = pc + 3) (hc : zct M pc = true)
    (kr : ∀ (v : Option zV) (h2 : zH), Qc (Sum.inl v) h2 → Wp l M d nx ls (v.toList ++ st) h2 Q) (kt : ∀ (r : zRf) (h2 : zH), Qc (Sum.inr r) h2 → Q (Sum.inr r) h2) : Wp l M d pc ls (a0 :: st) h Q :=
  w_call (as := [a0]) (st := st) hM hd hok hr hw hn (zct_out hc) kr kt
theorem x_callv1 {a0 : zV} {v : zV} (hM : Cx l d2 M2 [a0] h (Sum.inl (some v)) h2) (hd : d2 + 1 ≤ d) (hok : zOK M2) (hr : zRdy l M d pc M2 [a0] h) (hw : (st.map zcat).sum ≤ 8) (hn : nx = pc + 3) (hc : zct M pc = true) (kr : Wp l M d nx ls (v :: st) h2 Q) : Wp l M d pc ls (a0 :: st) h Q :=
  x_call1 (Qc := fun o' h' => o' = Sum.inl (some v) ∧ h' = h2) hM hd hok hr hw hn hc (fun w h3 hq => by
    obtain ⟨e1, e2⟩ := hq
    cases e1
    rw [e2]
    exact kr) (fun r h3 hq => by cases hq.1)
theorem x_callu1 {a0 : zV} (hM : Cx l d2 M2 [a0] h (Sum.inl none) h2) (hd : d2 + 1 ≤ d) (hok : zOK M2) (hr : zRdy l M d pc M2 [a0] h) (hw : (st.map zcat).sum ≤ 8) (hn : nx = pc + 3) (hc : zct M pc = true) (kr : Wp l M d nx ls st h2 Q) : Wp l M d pc ls (a0 :: st) h Q :=
  x_call1 (Qc := fun o' h' => o' = Sum.inl none ∧ h' = h2) hM hd hok hr hw hn hc (fun w h3 hq => by
    obtain ⟨e1, e2⟩ := hq
    cases e1
    rw [e2]
    exact kr) (fun r h3 hq => by cases hq.1)
theorem x_call2 {a0 : zV} {a1 : zV} {Qc : zO → zH → Prop} (hM : Ct l d2 M2 [a0, a1] h Qc) (hd : d2 + 1 ≤ d) (hok : zOK M2) (hr : zRdy l M d pc M2 [a0, a1] h) (hw : (st.map zcat).sum ≤ 8) (hn : nx = pc + 3) (hc : zct M pc = true)
    (kr : ∀ (v : Option zV) (h2 : zH), Qc (Sum.inl v) h2 → Wp l M d nx ls (v.toList ++ st) h2 Q) (kt : ∀ (r : zRf) (h2 : zH), Qc (Sum.inr r) h2 → Q (Sum.inr r) h2) : Wp l M d pc ls (a1 :: a0 :: st) h Q :=
  w_call (as := [a0, a1]) (st := st) hM hd hok hr hw hn (zct_out hc) kr kt
theorem x_callv2 {a0 : zV} {a1 : zV} {v : zV} (hM : Cx l d2 M2 [a0, a1] h (Sum.inl (some v)) h2) (hd : d2 + 1 ≤ d) (hok : zOK M2) (hr : zRdy l M d pc M2 [a0, a1] h) (hw : (st.map zcat).sum ≤ 8) (hn : nx = pc + 3) (hc : zct M pc = true) (kr : Wp l M d nx ls (v :: st) h2 Q) : Wp l M d pc ls (a1 :: a0 :: st) h Q :=
  x_call2 (Qc := fun o' h' => o' = Sum.inl (some v) ∧ h' = h2) hM hd hok hr hw hn hc (fun w h3 hq => by
    obtain ⟨e1, e2⟩ := hq
    cases e1
    rw [e2]
    exact kr) (fun r h3 hq => by cases hq.1)
theorem x_callu2 {a0 : zV} {a1 : zV} (hM : Cx l d2 M2 [a0, a1] h (Sum.inl none) h2) (hd : d2 + 1 ≤ d) (hok : zOK M2) (hr : zRdy l M d pc M2 [a0, a1] h) (hw : (st.map zcat).sum ≤ 8) (hn : nx = pc + 3) (hc : zct M pc = true) (kr : Wp l M d nx ls st h2 Q) : Wp l M d pc ls (a1 :: a0 :: st) h Q :=
  x_call2 (Qc := fun o' h' => o' = Sum.inl none ∧ h' = h2) hM hd hok hr hw hn hc (fun w h3 hq => by
    obtain ⟨e1, e2⟩ := hq
    cases e1
    rw [e2]
    exact kr) (fun r h3 hq => by cases hq.1)
theorem x_call3 {a0 : zV} {a1 : zV} {a2 : zV} {Qc : zO → zH → Prop} (hM : Ct l d2 M2 [a0, a1, a2] h Qc) (hd : d2 + 1 ≤ d) (hok : zOK M2) (hr : zRdy l M d pc M2 [a0, a1, a2] h) (hw : (st.map zcat).sum ≤ 8) (hn : nx = pc + 3) (hc : zct M pc = true)
    (kr : ∀ (v : Option zV) (h2 : zH), Qc (Sum.inl v) h2 → Wp l M d nx ls (v.toList ++ st) h2 Q) (kt : ∀ (r : zRf) (h2 : zH), Qc (Sum.inr r) h2 → Q (Sum.inr r) h2) : Wp l M d pc ls (a2 :: a1 :: a0 :: st) h Q :=
  w_call (as := [a0, a1, a2]) (st := st) hM hd hok hr hw hn (zct_out hc) kr kt
theorem x_callv3 {a0 : zV} {a1 : zV} {a2 : zV} {v : zV} (hM : Cx l d2 M2 [a0, a1, a2] h (Sum.inl (some v)) h2) (hd : d2 + 1 ≤ d) (hok : zOK M2) (hr : zRdy l M d pc M2 [a0, a1, a2] h) (hw : (st.map zcat).sum ≤ 8) (hn : nx = pc + 3) (hc : zct M pc = true) (kr : Wp l M d nx ls (v :: st) h2 Q) : Wp l M d pc ls (a2 :: a1 :: a0 :: st) h Q :=
  x_call3 (Qc := fun o' h' => o' = Sum.inl (some v) ∧ h' = h2) hM hd hok hr hw hn hc (fun w h3 hq => by
    obtain ⟨e1, e2⟩ := hq
    cases e1
    rw [e2]
    exact kr) (fun r h3 hq => by cases hq.1)
theorem x_callu3 {a0 : zV} {a1 : zV} {a2 : zV} (hM : Cx l d2 M2 [a0, a1, a2] h (Sum.inl none) h2) (hd : d2 + 1 ≤ d) (hok : zOK M2) (hr : zRdy l M d pc M2 [a0, a1, a2] h) (hw : (st.map zcat).sum ≤ 8) (hn : nx = pc + 3) (hc : zct M pc = true) (kr : Wp l M d nx ls st h2 Q) : Wp l M d pc ls (a2 :: a1 :: a0 :: st) h Q :=
  x_call3 (Qc := fun o' h' => o' = Sum.inl none ∧ h' = h2) hM hd hok hr hw hn hc (fun w h3 hq => by
    obtain ⟨e1, e2⟩ := hq
    cases e1
    rw [e2]
    exact kr) (fun r h3 hq => by cases hq.1)
theorem x_call4 {a0 : zV} {a1 : zV} {a2 : zV} {a3 : zV} {Qc : zO → zH → Prop} (hM : Ct l d2 M2 [a0, a1, a2, a3] h Qc) (hd : d2 + 1 ≤ d) (hok : zOK M2) (hr : zRdy l M d pc M2 [a0, a1, a2, a3] h) (hw : (st.map zcat).sum ≤ 8) (hn : nx = pc + 3) (hc : zct M pc = true)
    (kr : ∀ (v : Option zV) (h2 : zH), Qc (Sum.inl v) h2 → Wp l M d nx ls (v.toList ++ st) h2 Q) (kt : ∀ (r : zRf) (h2 : zH), Qc (Sum.inr r) h2 → Q (Sum.inr r) h2) : Wp l M d pc ls (a3 :: a2 :: a1 :: a0 :: st) h Q :=
  w_call (as := [a0, a1, a2, a3]) (st := st) hM hd hok hr hw hn (zct_out hc) kr kt
theorem x_callv4 {a0 : zV} {a1 : zV} {a2 : zV} {a3 : zV} {v : zV} (hM : Cx l d2 M2 [a0, a1, a2, a3] h (Sum.inl (some v)) h2) (hd : d2 + 1 ≤ d) (hok : zOK M2) (hr : zRdy l M d pc M2 [a0, a1, a2, a3] h) (hw : (st.map zcat).sum ≤ 8) (hn : nx = pc + 3) (hc : zct M pc = true) (kr : Wp l M d nx ls (v :: st) h2 Q) : Wp l M d pc ls (a3 :: a2 :: a1 :: a0 :: st) h Q :=
  x_call4 (Qc := fun o' h' => o' = Sum.inl (some v) ∧ h' = h2) hM hd hok hr hw hn hc (fun w h3 hq => by
    obtain ⟨e1, e2⟩ := hq
    cases e1
    rw [e2]
    exact kr) (fun r h3 hq => by cases hq.1)
theorem x_callu4 {a0 : zV} {a1 : zV} {a2 : zV} {a3 : zV} (hM : Cx l d2 M2 [a0, a1, a2, a3] h (Sum.inl none) h2) (hd : d2 + 1 ≤ d) (hok : zOK M2) (hr : zRdy l M d pc M2 [a0, a1, a2, a3] h) (hw : (st.map zcat).sum ≤ 8) (hn : nx = pc + 3) (hc : zct M pc = true) (kr : Wp l M d nx ls st h2 Q) : Wp l M d pc ls (a3 :: a2 :: a1 :: a0 :: st) h Q :=
  x_call4 (Qc := fun o' h' => o' = Sum.inl none ∧ h' = h2) hM hd hok hr hw hn hc (fun w h3 hq => by
    obtain ⟨e1, e2⟩ := hq
    cases e1
    rw [e2]
    exact kr) (fun r h3 hq => by cases hq.1)
theorem x_call5 {a0 : zV} {a1 : zV} {a2 : zV} {a3 : zV} {a4 : zV} {Qc : zO → zH → Prop} (hM : Ct l d2 M2 [a0, a1, a2, a3, a4] h Qc) (hd : d2 + 1 ≤ d) (hok : zOK M2) (hr : zRdy l M d pc M2 [a0, a1, a2, a3, a4] h) (hw : (st.map zcat).sum ≤ 8) (hn : nx = pc + 3) (hc : zct M pc = true)
    (kr : ∀ (v : Option zV) (h2 : zH), Qc (Sum.inl v) h2 → Wp l M d nx ls (v.toList ++ st) h2 Q) (kt : ∀ (r : zRf) (h2 : zH), Qc (Sum.inr r) h2 → Q (Sum.inr r) h2) : Wp l M d pc ls (a4 :: a3 :: a2 :: a1 :: a0 :: st) h Q :=
  w_call (as := [a0, a1, a2, a3, a4]) (st := st) hM hd hok hr hw hn (zct_out hc) kr kt
theorem x_callv5 {a0 : zV} {a1 : zV} {a2 : zV} {a3 : zV} {a4 : zV} {v : zV} (hM : Cx l d2 M2 [a0, a1, a2, a3, a4] h (Sum.inl (some v)) h2) (hd : d2 + 1 ≤ d) (hok : zOK M2) (hr : zRdy l M d pc M2 [a0, a1, a2, a3, a4] h) (hw : (st.map zcat).sum ≤ 8) (hn : nx = pc + 3) (hc : zct M pc = true) (kr : Wp l M d nx ls (v :: st) h2 Q) : Wp l M d pc ls (a4 :: a3 :: a2 :: a1 :: a0 :: st) h Q :=
  x_call5 (Qc := fun o' h' => o' = Sum.inl (some v) ∧ h' = h2) hM hd hok hr hw hn hc (fun w h3 hq => by
    obtain ⟨e1, e2⟩ := hq
    cases e1
    rw [e2]
    exact kr) (fun r h3 hq => by cases hq.1)
theorem x_callu5 {a0 : zV} {a1 : zV} {a2 : zV} {a3 : zV} {a4 : zV} (hM : Cx l d2 M2 [a0, a1, a2, a3, a4] h (Sum.inl none) h2) (hd : d2 + 1 ≤ d) (hok : zOK M2) (hr : zRdy l M d pc M2 [a0, a1, a2, a3, a4] h) (hw : (st.map zcat).sum ≤ 8) (hn : nx = pc + 3) (hc : zct M pc = true) (kr : Wp l M d nx ls st h2 Q) : Wp l M d pc ls (a4 :: a3 :: a2 :: a1 :: a0 :: st) h Q :=
  x_call5 (Qc := fun o' h' => o' = Sum.inl none ∧ h' = h2) hM hd hok hr hw hn hc (fun w h3 hq => by
    obtain ⟨e1, e2⟩ := hq
    cases e1
    rw [e2]
    exact kr) (fun r h3 hq => by cases hq.1)
theorem x_call6 {a0 : zV} {a1 : zV} {a2 : zV} {a3 : zV} {a4 : zV} {a5 : zV} {Qc : zO → zH → Prop} (hM : Ct l d2 M2 [a0, a1, a2, a3, a4, a5] h Qc) (hd : d2 + 1 ≤ d) (hok : zOK M2) (hr : zRdy l M d pc M2 [a0, a1, a2, a3, a4, a5] h) (hw : (st.map zcat).sum ≤ 8) (hn : nx = pc + 3) (hc : zct M pc = true)
    (kr : ∀ (v : Option zV) (h2 : zH), Qc (Sum.inl v) h2 → Wp l M d nx ls (v.toList ++ st) h2 Q) (kt : ∀ (r : zRf) (h2 : zH), Qc (Sum.inr r) h2 → Q (Sum.inr r) h2) : Wp l M d pc ls (a5 :: a4 :: a3 :: a2 :: a1 :: a0 :: st) h Q :=
  w_call (as := [a0, a1, a2, a3, a4, a5]) (st := st) hM hd hok hr hw hn (zct_out hc) kr kt
theorem x_callv6 {a0 : zV} {a1 : zV} {a2 : zV} {a3 : zV} {a4 : zV} {a5 : zV} {v : zV} (hM : Cx l d2 M2 [a0, a1, a2, a3, a4, a5] h (Sum.inl (some v)) h2) (hd : d2 + 1 ≤ d) (hok : zOK M2) (hr : zRdy l M d pc M2 [a0, a1, a2, a3, a4, a5] h) (hw : (st.map zcat).sum ≤ 8) (hn : nx = pc + 3) (hc : zct M pc = true) (kr : Wp l M d nx ls (v :: st) h2 Q) : Wp l M d pc ls (a5 :: a4 :: a3 :: a2 :: a1 :: a0 :: st) h Q :=
  x_call6 (Qc := fun o' h' => o' = Sum.inl (some v) ∧ h' = h2) hM hd hok hr hw hn hc (fun w h3 hq => by
    obtain ⟨e1, e2⟩ := hq
    cases e1
    rw [e2]
    exact kr) (fun r h3 hq => by cases hq.1)
theorem x_callu6 {a0 : zV} {a1 : zV} {a2 : zV} {a3 : zV} {a4 : zV} {a5 : zV} (hM : Cx l d2 M2 [a0, a1, a2, a3, a4, a5] h (Sum.inl none) h2) (hd : d2 + 1 ≤ d) (hok : zOK M2) (hr : zRdy l M d pc M2 [a0, a1, a2, a3, a4, a5] h) (hw : (st.map zcat).sum ≤ 8) (hn : nx = pc + 3) (hc : zct M pc = true) (kr : Wp l M d nx ls st h2 Q) : Wp l M d pc ls (a5 :: a4 :: a3 :: a2 :: a1 :: a0 :: st) h Q :=
  x_call6 (Qc := fun o' h' => o' = Sum.inl none ∧ h' = h2) hM hd hok hr hw hn hc (fun w h3 hq => by
    obtain ⟨e1, e2⟩ := hq
    cases e1
    rw [e2]
    exact kr) (fun r h3 hq => by cases hq.1)
end zROWS
