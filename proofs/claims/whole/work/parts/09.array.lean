-- ARRAYS, NEW CELLS
section zROWS
variable {l : Launch} {M : zM} {d pc nx : Nat} {ls : List (Option zV)} {st : List zV} {h h' : zH} {o : zO} {Q : zO → zH → Prop}
theorem zcl2 {x : Int32} {n : Nat} (hx : x = nI n) (hn : n < 2 ^ 31) : x.toNatClampNeg = n := by rw [hx]; exact nI_clamp hn
theorem zin2 {x : Int32} {n L : Nat} (hx : x = nI n) (hn : n < L) (hL : L < 2 ^ 31) : vp_in x L := by rw [hx]; exact vp_in_nI hn hL
/-- an element is read; row: which of the kit's rows serves -/
theorem R_aget {ins : Instr} {r : zRf} {x : Int32} {v : zV} (hd : zAt M pc ins 1 nx) (hr : r.1 < 900) (h1 : 100 ≤ zshp r.1)
    (row : ∀ (E : zEv) (p : Program) (e : Env) (R : Room) (s : State) (m : MethodId) (args : Array Value) (below : List Frame) (meth : Method) (c : Code) (H : Heap) (locs : List Loc) (cells slots : Nat) (ad : zRf → Nat) (la : Array Slot) (Q : State → Prop) (ns : List zRf) (ca : zRf → ClassId) (tys : List (ClassId × FieldType)) (q0 t0 : Nat) (rest : List Value),
      zCx l M d E p e R s m args below meth c → va_K (zD E) zcl tys s → va_P (zD E) zcl (zws ns ad ca h) H → (zws ns ad ca h)[q0]? = some (ad r, zcell ad ca h r) → tys[t0]? = some (ca r, zel (zshp r.1)) → decode (zMc M) pc = .ok (ins, 1) →
      W p l e R s m args below meth c H locs cells slots Q (F0 m (pc + 1) la (zenc ad v :: rest)) → W p l e R s m args below meth c H locs cells slots Q (F0 m pc la (.int x :: .ref (ad r) :: rest)))
    (hva : (∀ (j : Nat) (r' : zRf), zR h r.1 r.2 j = some r' → zal h r') → zalV h v) (k : zRn l M d nx ls (v :: st) h o h') : zRn l M d pc ls (Vi x :: Vq (some r) :: st) h o h' := by
  obtain ⟨hd, rfl⟩ := hd
  refine zRn.step (zLe.rf h) k ?_
  intro E p e R s m args below meth c H locs cells slots ad la Q cx hp hS hl ha hb hcc hdd kk
  rw [Nat.sub_self, Nat.add_zero, Nat.sub_self, Nat.add_zero] at kk
  have hlive : r.2 < zC h r.1 := (zal.st (zk_tl ha)).lt hr
  obtain ⟨-, ns, ca, tys, q0, hh, hq⟩ := hp.at hlive
  have hm := List.mem_of_getElem? hq
  obtain ⟨t0, ht⟩ := hh.2.2.2.2.2.1 r hm h1
  exact row E p e R s m args below meth c H locs cells slots ad la Q ns ca tys q0 t0 _ cx hh.2.2.1 hh.2.2.2.1 (zws_get hq) ht hd (kk ad H locs la (fun _ _ => rfl) hp hS hl (zk_cons (zk_tl2 ha) (hva (hh.2.2.2.2.2.2 r hm))) hb)
theorem w_iaload {k i : Nat} {x : Int32} (n : Nat) (hd : zAt M pc .iaload 1 nx) (hs : zshp k = 100) (hr : k < 900) (hx : x = nI n) (hn : n < zN h k i) (hb : zN h k i < 2 ^ 31) (kk : Wp l M d nx ls (Vi (zI h k i n) :: st) h Q) : Wp l M d pc ls (Vi x :: Vq (some (k, i)) :: st) h Q :=
  wst (fun o h' a => R_aget (r := (k, i)) (v := Vi (zI h k i n)) hd hr (by rw [hs]; decide) (fun E p e R s m args below meth c H locs cells slots ad la Q ns ca tys q0 t0 rest cx hK hP hg ht hdd w => by
    rw [zcell_i (by rw [hs]; decide) (by rw [hs]; decide) (by rw [hs]; decide)] at hg
    rw [hs] at ht
    exact va_iald cx.1 cx.2.1 hK hP q0 t0 hg ht (zin2 hx hn hb) hdd (by rw [zcl2 hx (by omega)]; exact w)) (fun _ => trivial) a) kk
theorem w_baload {k i : Nat} {x : Int32} (n : Nat) (hd : zAt M pc .baload 1 nx) (hs : zshp k = 102) (hr : k < 900) (hx : x = nI n) (hn : n < zN h k i) (hb : zN h k i < 2 ^ 31) (kk : Wp l M d nx ls (Vi (zI h k i n) :: st) h Q) : Wp l M d pc ls (Vi x :: Vq (some (k, i)) :: st) h Q :=
  wst (fun o h' a => R_aget (r := (k, i)) (v := Vi (zI h k i n)) hd hr (by rw [hs]; decide) (fun E p e R s m args below meth c H locs cells slots ad la Q ns ca tys q0 t0 rest cx hK hP hg ht hdd w => by
    rw [zcell_i (by rw [hs]; decide) (by rw [hs]; decide) (by rw [hs]; decide)] at hg
    rw [hs] at ht
    exact va_bald cx.1 cx.2.1 hK hP q0 t0 hg ht (zin2 hx hn hb) hdd (by rw [zcl2 hx (by omega)]; exact w)) (fun _ => trivial) a) kk
theorem w_zaload {k i : Nat} {x : Int32} (n : Nat) (hd : zAt M pc .baload 1 nx) (hs : zshp k = 103) (hr : k < 900) (hx : x = nI n) (hn : n < zN h k i) (hb : zN h k i < 2 ^ 31) (kk : Wp l M d nx ls (Vi (zI h k i n) :: st) h Q) : Wp l M d pc ls (Vi x :: Vq (some (k, i)) :: st) h Q :=
  wst (fun o h' a => R_aget (r := (k, i)) (v := Vi (zI h k i n)) hd hr (by rw [hs]; decide) (fun E p e R s m args below meth c H locs cells slots ad la Q ns ca tys q0 t0 rest cx hK hP hg ht hdd w => by
    rw [zcell_i (by rw [hs]; decide) (by rw [hs]; decide) (by rw [hs]; decide)] at hg
    rw [hs] at ht
    exact va_zald cx.1 cx.2.1 hK hP q0 t0 hg ht (zin2 hx hn hb) hdd (by rw [zcl2 hx (by omega)]; exact w)) (fun _ => trivial) a) kk
theorem w_laload {k i : Nat} {x : Int32} (n : Nat) (hd : zAt M pc .laload 1 nx) (hs : zshp k = 101) (hr : k < 900) (hx : x = nI n) (hn : n < zN h k i) (hb : zN h k i < 2 ^ 31) (kk : Wp l M d nx ls (Vj (zL h k i n) :: st) h Q) : Wp l M d pc ls (Vi x :: Vq (some (k, i)) :: st) h Q :=
  wst (fun o h' a => R_aget (r := (k, i)) (v := Vj (zL h k i n)) hd hr (by rw [hs]; decide) (fun E p e R s m args below meth c H locs cells slots ad la Q ns ca tys q0 t0 rest cx hK hP hg ht hdd w => by
    rw [zcell_l hs] at hg
    rw [hs] at ht
    exact va_lald cx.1 cx.2.1 hK hP q0 t0 hg ht (zin2 hx hn hb) hdd (by rw [zcl2 hx (by omega)]; exact w)) (fun _ => trivial) a) kk
theorem w_aaload {k i : Nat} {x : Int32} {q : Option zRf} (n : Nat) (hd : zAt M pc .aaload 1 nx) (hs : 110 ≤ zshp k) (hr : k < 900) (hx : x = nI n) (hn : n < zN h k i) (hb : zN h k i < 2 ^ 31) (he : ∃ C, zel (zshp k) = .object C) (hq : zR h k i n = q) (kk : Wp l M d nx ls (Vq q :: st) h Q) : Wp l M d pc ls (Vi x :: Vq (some (k, i)) :: st) h Q :=
  wst (fun o h' a => R_aget (r := (k, i)) (v := Vq q) hd hr (Nat.le_trans (by decide) hs) (fun E p e R s m args below meth c H locs cells slots ad la Q ns ca tys q0 t0 rest cx hK hP hg ht hdd w => by
    rw [zcell_q hs] at hg
    obtain ⟨C, hC⟩ := he
    rw [hC] at ht
    refine va_aldq cx.1 cx.2.1 hK hP q0 t0 hg ht (zin2 hx hn hb) hdd ?_
    rw [zcl2 hx (by omega)]
    show W p l e R s m args below meth c H locs cells slots Q (F0 m (pc + 1) la (va_rf ((zR h k i n).map ad) :: rest))
    rw [hq]
    exact w) (fun hall => by
      cases q with
      | none => trivial
      | some r' => exact hall n r' hq) a) kk
theorem R_alen {r : zRf} {v : Int32} (hd : zAt M pc .arraylength 1 nx) (hr : r.1 < 900) (h1 : 100 ≤ zshp r.1) (hv : nI (zN h r.1 r.2) = v) (k : zRn l M d nx ls (Vi v :: st) h o h') : zRn l M d pc ls (Vq (some r) :: st) h o h' := by
  obtain ⟨hd, rfl⟩ := hd
  refine zRn.step (zLe.rf h) k ?_
  intro E p e R s m args below meth c H locs cells slots ad la Q cx hp hS hl ha hb hcc hdd kk
  rw [Nat.sub_self, Nat.add_zero, Nat.sub_self, Nat.add_zero] at kk
  have hlive : r.2 < zC h r.1 := (zal.st ha).lt hr
  obtain ⟨-, ns, ca, tys, q0, hh, hq⟩ := hp.at hlive
  have hm := List.mem_of_getElem? hq
  obtain ⟨t0, ht⟩ := hh.2.2.2.2.2.1 r hm h1
  have kk := kk ad H locs la (fun _ _ => rfl) hp hS hl (zk_cons (zk_tl ha) (zal_i h v)) hb
  have hg := zws_get (ad := ad) (ca := ca) (h := h) hq
  by_cases e1 : zshp r.1 = 101
  · rw [zcell_l e1] at hg
    exact va_alen cx.1 cx.2.1 hh.2.2.1 hh.2.2.2.1 q0 t0 hg ht hv hd kk
  · by_cases e2 : zshp r.1 < 110
    · rw [zcell_i h1 e1 e2] at hg
      exact va_alen cx.1 cx.2.1 hh.2.2.1 hh.2.2.2.1 q0 t0 hg ht hv hd kk
    · rw [zcell_q (by omega)] at hg
      exact va_alen cx.1 cx.2.1 hh.2.2.1 hh.2.2.2.1 q0 t0 hg ht hv hd kk
theorem w_alen {k i : Nat} {v : Int32} (hd : zAt M pc .arraylength 1 nx) (hr : k < 900) (h1 : 100 ≤ zshp k) (hv : nI (zN h k i) = v) (kk : Wp l M d nx ls (Vi v :: st) h Q) : Wp l M d pc ls (Vq (some (k, i)) :: st) h Q :=
  wst (fun o h' a => R_alen (r := (k, i)) hd hr h1 hv a) kk
/-- an element is written -/
theorem R_aput {ins : Instr} {r : zRf} {x : Int32} {v : zV} {h2 : zH} (hd : zAt M pc ins 1 nx) (hr : r.1 < 900) (h1 : 100 ≤ zshp r.1)
    (eC : h2.2.2.2 = h.2.2.2) (e1 : ∀ r' : zRf, r' ≠ r → zI h2 r'.1 r'.2 = zI h r'.1 r'.2) (e2 : ∀ r' : zRf, r' ≠ r → zL h2 r'.1 r'.2 = zL h r'.1 r'.2) (e3 : ∀ r' : zRf, r' ≠ r → zR h2 r'.1 r'.2 = zR h r'.1 r'.2)
    (e4 : zalV h v → (∀ (j : Nat) (r' : zRf), zR h r.1 r.2 j = some r' → zal h r') → ∀ (j : Nat) (r' : zRf), zR h2 r.1 r.2 j = some r' → zal h r')
    (row : ∀ (E : zEv) (p : Program) (e : Env) (R : Room) (s : State) (m : MethodId) (args : Array Value) (below : List Frame) (meth : Method) (c : Code) (H : Heap) (locs : List Loc) (cells slots : Nat) (ad : zRf → Nat) (la : Array Slot) (Q : State → Prop) (ns : List zRf) (ca : zRf → ClassId) (tys : List (ClassId × FieldType)) (q0 t0 : Nat) (rest : List Value),
      zCx l M d E p e R s m args below meth c → zHold E ad s h H ns ca tys → va_S (zA E) s.heap H locs → (zws ns ad ca h)[q0]? = some (ad r, zcell ad ca h r) → tys[t0]? = some (ca r, zel (zshp r.1)) → zalV h v → decode (zMc M) pc = .ok (ins, 1) →
      (∀ (H1 : Heap) (locs1 : List Loc), va_P (zD E) zcl ((zws ns ad ca h).set q0 (ad r, zcell ad ca h2 r)) H1 → va_D (zA E) ((zws ns ad ca h).set q0 (ad r, zcell ad ca h2 r)) → va_S (zA E) s.heap H1 locs1 → W p l e R s m args below meth c H1 locs1 cells slots Q (F0 m (pc + 1) la rest)) →
      W p l e R s m args below meth c H locs cells slots Q (F0 m pc la (zenc ad v :: .int x :: .ref (ad r) :: rest)))
    (k : zRn l M d nx ls st h2 o h') : zRn l M d pc ls (v :: Vi x :: Vq (some r) :: st) h o h' := by
  obtain ⟨hd, rfl⟩ := hd
  have eC1 : zC h2 = zC h := by unfold zC; rw [eC]
  have eN1 : zN h2 = zN h := by unfold zN; rw [eC]
  have ec1 : zc h2 = zc h := by unfold zc; rw [eC]
  have es1 : zs h2 = zs h := by unfold zs; rw [eC]
  have hle : zLe h h2 := ⟨fun k => by rw [eC1]; exact Nat.le_refl _, by rw [ec1]; exact Nat.le_refl _, by rw [es1]; exact Nat.le_refl _⟩
  refine zRn.step hle k ?_
  intro E p e R s m args below meth c H locs cells slots ad la Q cx hp hS hl ha hb hcc hdd kk
  rw [ec1, es1, Nat.sub_self, Nat.add_zero, Nat.sub_self, Nat.add_zero] at kk
  have hlive : r.2 < zC h r.1 := (zal.st (zk_tl2 ha)).lt hr
  obtain ⟨-, ns, ca, tys, q0, hh, hq⟩ := hp.at hlive
  have hm := List.mem_of_getElem? hq
  obtain ⟨t0, ht⟩ := hh.2.2.2.2.2.1 r hm h1
  have hvl : zalV h v := ha _ List.mem_cons_self
  refine row E p e R s m args below meth c H locs cells slots ad la Q ns ca tys q0 t0 _ cx hh hS (zws_get hq) ht hvl hd ?_
  intro H1 locs1 hP1 hD1 hS1
  have hp2 := hp.upd hh hq hr eC1 eN1 e1 e2 e3 (e4 hvl (hh.2.2.2.2.2.2 r hm)) hP1 hD1
  exact kk ad H1 locs1 la (fun _ _ => rfl) hp2 hS1 hl (fun v hv => (zk_tl (zk_tl2 ha) v hv).le hle) (fun v hv => (hb v hv).le hle)
theorem zI_upd (h : zH) (k i j : Nat) (v : Int32) : zI (zsI h k i j v) k i = upd (zI h k i) j v := by
  funext c
  by_cases e : c = j
  · subst e; rw [zI_same, pk_us]
  · rw [zI_oth h k i j v e, pk_un e]
theorem zL_upd (h : zH) (k i j : Nat) (v : Int64) : zL (zsL h k i j v) k i = vp_updL (zL h k i) j v := by
  funext c
  by_cases e : c = j
  · subst e; rw [zL_same, pk_uLs]
  · rw [zL_oth h k i j v e, pk_uLn e]
theorem zR_upd (h : zH) (k i j : Nat) (v : Option zRf) (ad : zRf → Nat) : (fun c => (zR (zsR h k i j v) k i c).map ad) = va_up (fun c => (zR h k i c).map ad) j (v.map ad) := by
  funext c
  by_cases e : c = j
  · subst e; rw [zR_same, va_up_self]
  · rw [zR_oth h k i j v e, va_up_ne _ _ e]
theorem w_iastore {k i : Nat} {x v : Int32} (n : Nat) (hd : zAt M pc .iastore 1 nx) (hs : zshp k = 100) (hr : k < 900) (hx : x = nI n) (hn : n < zN h k i) (hb : zN h k i < 2 ^ 31) (kk : Wp l M d nx ls st (zsI h k i n v) Q) : Wp l M d pc ls (Vi v :: Vi x :: Vq (some (k, i)) :: st) h Q :=
  wst (fun o h' a => R_aput (r := (k, i)) (v := Vi v) (h2 := zsI h k i n v) hd hr (by rw [hs]; decide) rfl (fun r' e => zsI_ne e) (fun _ _ => rfl) (fun _ _ => rfl) (fun _ b => b) (fun E p e R s m args below meth c H locs cells slots ad la Q ns ca tys q0 t0 rest cx hh hS hg ht hvl hdd w => by
    have ec : zcell ad ca (zsI h k i n v) (k, i) = .inl (ca (k, i), zN h k i, .inl (upd (zI h k i) n v)) := by
      rw [zcell_i (by rw [hs]; decide) (by rw [hs]; decide) (by rw [hs]; decide)]
      exact congrArg (fun f => Sum.inl (ca (k, i), zN h k i, Sum.inl f)) (zI_upd h k i n v)
    rw [ec] at w
    rw [zcell_i (by rw [hs]; decide) (by rw [hs]; decide) (by rw [hs]; decide)] at hg
    rw [hs] at ht
    refine va_iast cx.1 cx.2.1 hh.2.2.1 hh.2.2.2.1 hh.2.2.2.2.1 hS q0 t0 hg ht (zin2 hx hn hb) hdd ?_
    rw [zcl2 hx (by omega)]
    exact w) a) kk
theorem w_bastore {k i : Nat} {x v : Int32} (n : Nat) (hd : zAt M pc .bastore 1 nx) (hs : zshp k = 102) (hr : k < 900) (hx : x = nI n) (hn : n < zN h k i) (hb : zN h k i < 2 ^ 31) (kk : Wp l M d nx ls st (zsI h k i n (vp_nar .byte v)) Q) : Wp l M d pc ls (Vi v :: Vi x :: Vq (some (k, i)) :: st) h Q :=
  wst (fun o h' a => R_aput (r := (k, i)) (v := Vi v) (h2 := zsI h k i n (vp_nar .byte v)) hd hr (by rw [hs]; decide) rfl (fun r' e => zsI_ne e) (fun _ _ => rfl) (fun _ _ => rfl) (fun _ b => b) (fun E p e R s m args below meth c H locs cells slots ad la Q ns ca tys q0 t0 rest cx hh hS hg ht hvl hdd w => by
    have ec : zcell ad ca (zsI h k i n (vp_nar .byte v)) (k, i) = .inl (ca (k, i), zN h k i, .inl (upd (zI h k i) n (vp_nar .byte v))) := by
      rw [zcell_i (by rw [hs]; decide) (by rw [hs]; decide) (by rw [hs]; decide)]
      exact congrArg (fun f => Sum.inl (ca (k, i), zN h k i, Sum.inl f)) (zI_upd h k i n (vp_nar .byte v))
    rw [ec] at w
    rw [zcell_i (by rw [hs]; decide) (by rw [hs]; decide) (by rw [hs]; decide)] at hg
    rw [hs] at ht
    refine va_bast cx.1 cx.2.1 hh.2.2.1 hh.2.2.2.1 hh.2.2.2.2.1 hS q0 t0 hg ht (zin2 hx hn hb) hdd ?_
    rw [zcl2 hx (by omega)]
    exact w) a) kk
theorem w_zastore {k i : Nat} {x v : Int32} (n : Nat) (hd : zAt M pc .bastore 1 nx) (hs : zshp k = 103) (hr : k < 900) (hx : x = nI n) (hn : n < zN h k i) (hb : zN h k i < 2 ^ 31) (kk : Wp l M d nx ls st (zsI h k i n (vp_nar .boolean v)) Q) : Wp l M d pc ls (Vi v :: Vi x :: Vq (some (k, i)) :: st) h Q :=
  wst (fun o h' a => R_aput (r := (k, i)) (v := Vi v) (h2 := zsI h k i n (vp_nar .boolean v)) hd hr (by rw [hs]; decide) rfl (fun r' e => zsI_ne e) (fun _ _ => rfl) (fun _ _ => rfl) (fun _ b => b) (fun E p e R s m args below meth c H locs cells slots ad la Q ns ca tys q0 t0 rest cx hh hS hg ht hvl hdd w => by
    have ec : zcell ad ca (zsI h k i n (vp_nar .boolean v)) (k, i) = .inl (ca (k, i), zN h k i, .inl (upd (zI h k i) n (vp_nar .boolean v))) := by
      rw [zcell_i (by rw [hs]; decide) (by rw [hs]; decide) (by rw [hs]; decide)]
      exact congrArg (fun f => Sum.inl (ca (k, i), zN h k i, Sum.inl f)) (zI_upd h k i n (vp_nar .boolean v))
    rw [ec] at w
    rw [zcell_i (by rw [hs]; decide) (by rw [hs]; decide) (by rw [hs]; decide)] at hg
    rw [hs] at ht
    refine va_zast cx.1 cx.2.1 hh.2.2.1 hh.2.2.2.1 hh.2.2.2.2.1 hS q0 t0 hg ht (zin2 hx hn hb) hdd ?_
    rw [zcl2 hx (by omega)]
    exact w) a) kk
theorem w_lastore {k i : Nat} {x : Int32} {v : Int64} (n : Nat) (hd : zAt M pc .lastore 1 nx) (hs : zshp k = 101) (hr : k < 900) (hx : x = nI n) (hn : n < zN h k i) (hb : zN h k i < 2 ^ 31) (kk : Wp l M d nx ls st (zsL h k i n v) Q) : Wp l M d pc ls (Vj v :: Vi x :: Vq (some (k, i)) :: st) h Q :=
  wst (fun o h' a => R_aput (r := (k, i)) (v := Vj v) (h2 := zsL h k i n v) hd hr (by rw [hs]; decide) rfl (fun _ _ => rfl) (fun r' e => zsL_ne e) (fun _ _ => rfl) (fun _ b => b) (fun E p e R s m args below meth c H locs cells slots ad la Q ns ca tys q0 t0 rest cx hh hS hg ht hvl hdd w => by
    have ec : zcell ad ca (zsL h k i n v) (k, i) = .inl (ca (k, i), zN h k i, .inr (.inl (vp_updL (zL h k i) n v))) := by
      rw [zcell_l hs]
      exact congrArg (fun f => Sum.inl (ca (k, i), zN h k i, Sum.inr (Sum.inl f))) (zL_upd h k i n v)
    rw [ec] at w
    rw [zcell_l hs] at hg
    rw [hs] at ht
    refine va_last cx.1 cx.2.1 hh.2.2.1 hh.2.2.2.1 hh.2.2.2.2.1 hS q0 t0 hg ht (zin2 hx hn hb) hdd ?_
    rw [zcl2 hx (by omega)]
    exact w) a) kk
/-- a living object of class ci goes into an array of that class -/
theorem w_aastore {k i ci : Nat} {x : Int32} {r' : zRf} (n : Nat) (hd : zAt M pc .aastore 1 nx) (hs : zshp k = 110 + ci) (hr : k < 900) (hs' : zshp r'.1 = ci) (hci : ci < 15) (hr' : r'.1 < 900) (hx : x = nI n) (hn : n < zN h k i) (hb : zN h k i < 2 ^ 31) (kk : Wp l M d nx ls st (zsR h k i n (some r')) Q) : Wp l M d pc ls (Vq (some r') :: Vi x :: Vq (some (k, i)) :: st) h Q :=
  wst (fun o h' a => R_aput (r := (k, i)) (v := Vq (some r')) (h2 := zsR h k i n (some r')) hd hr (by rw [hs]; exact Nat.le_trans (by decide) (Nat.le_add_right 110 ci)) rfl (fun _ _ => rfl) (fun _ _ => rfl) (fun r' e => zsR_ne e) (fun hq hall j' r'' hj => by
    by_cases e : j' = n
    · subst e
      rw [zR_same] at hj
      cases hj
      exact hq
    · rw [zR_oth h k i n (some r') e] at hj
      exact hall j' r'' hj) (fun E p e R s m args below meth c H locs cells slots ad la Q ns ca tys q0 t0 rest cx hh hS hg ht hvl hdd w => by
    have h110 : 110 ≤ zshp (k, i).1 := by rw [show zshp (k, i).1 = 110 + ci from hs]; exact Nat.le_add_right _ _
    have ec : zcell ad ca (zsR h k i n (some r')) (k, i) = .inl (ca (k, i), zN h k i, .inr (.inr (.inr (.inr (va_up (fun c => (zR h k i c).map ad) n (some (ad r'))))))) := by
      rw [zcell_q h110]
      exact congrArg (fun f => Sum.inl (ca (k, i), zN h k i, Sum.inr (Sum.inr (Sum.inr (Sum.inr f))))) (zR_upd h k i n (some r') ad)
    rw [ec] at w
    rw [zcell_q h110] at hg
    have hlive : r'.2 < zC h r'.1 := zal.lt (h := h) hvl hr'
    obtain ⟨qk, hqk⟩ := List.getElem?_of_mem ((hh.2.1 r').mpr hlive)
    have hv := zws_get (ad := ad) (ca := ca) (h := h) hqk
    rw [zcell_o hs' (by omega)] at hv
    obtain ⟨rc, hrc⟩ : ∃ rc, zcl[ci]? = some rc := ⟨_, List.getElem?_eq_getElem (show ci < zcl.length from hci)⟩
    have hel : zel (zshp k) = .object rc.1 := by
      rw [hs]
      have e1 : zel (110 + ci) = .object ((zcl[ci]?.map (fun q => q.1)).getD "") := by
        unfold zel
        split <;> first | omega | (simp only [Nat.add_sub_cancel_left])
      rw [e1, hrc]; rfl
    rw [show zel (zshp (k, i).1) = .object rc.1 from hel] at ht
    refine va_astq cx.1 cx.2.1 hh.2.2.1 hh.2.2.2.1 hh.2.2.2.2.1 hS q0 t0 qk ci hg ht hv hrc (zin2 hx hn hb) hdd ?_
    rw [zcl2 hx (by omega)]
    exact w) a) kk
end zROWS
