-- RETURNS, CALLS, THROWS
theorem zEnv.warm {E : zEv} {s U : State} {H : Heap} (hW : s.WarmedH U.vm) (h : zEnv E s H) : zEnv E U H := by
  obtain ⟨h1, h2, h3, h4, h5, h6, h7, h7b, h8, h9, h10⟩ := h
  refine ⟨fun w hw => ?_, fun C hC => va_AO.moved hW.alike (h2 C hC), h3.moved hW.alike, fun q hq => (h4 q hq).warm hW, h5.moved hW.alike, h6.moved hW.alike, h7.moved hW.alike, h7b.moved hW.alike, h8.moved hW.alike, h9, h10⟩
  have hb := h1 w hw
  have hn : zisNest w = true := (List.mem_filter.mp hw).2
  cases w <;> first | exact absurd hn Bool.false_ne_true | exact va_Nw.warmM hW hb | exact va_Nw.warmF hW hb | exact va_Nw.warmC hW hb
theorem zEnv.kept {E : zEv} {U : State} {H0 H : Heap} {locs : List Loc} (hS : va_S (zA E) H0 H locs) (h : zEnv E U H0) : zEnv E U H := by
  obtain ⟨h1, h2, h3, h4, h5, h6, h7, h7b, h8, h9, h10⟩ := h
  have hq : ∀ a : Nat, a < H0.size → ¬ zA E a → H[a]? = H0[a]? := hS.2.1
  exact ⟨h1, h2, h3.kept hq, h4, h5.kept hq, h6.kept hq, h7.kept hq, h7b.kept hq, h8.kept (hq _ h10 h9), h9, Nat.lt_of_lt_of_le h10 hS.1⟩
theorem zHp.moved {E : zEv} {ad : zRf → Nat} {s U : State} {h : zH} {H : Heap} (hvm : s.vm.Alike U.vm) (hp : zHp E ad s h H) : zHp E ad U h H := by
  obtain ⟨g1, g2, g3, ns, ca, tys, k1, k2, k3, k4⟩ := hp
  exact ⟨g1, g2, g3, ns, ca, tys, k1, k2, va_K.moved hvm k3, k4⟩
theorem W.imp {p : Program} {l : Launch} {e : Env} {R : Room} {s : State} {m : MethodId} {args : Array Value} {below : List Frame} {meth : Method} {c : Code} {H : Heap} {locs : List Loc} {cells slots : Nat} {Q Q' : State → Prop} {g : JFrame} (k : W p l e R s m args below meth c H locs cells slots Q g) (i : ∀ t, Q t → Q' t) : W p l e R s m args below meth c H locs cells slots Q' g := by
  intro T hT X
  obtain ⟨t, a, b⟩ := k T hT X
  exact ⟨t, a, i t b⟩
/-- called with these arguments, the method ends so that Q holds -/
def Ct (l : Launch) (d : Nat) (M : zM) (as : List zV) (h : zH) (Q : zO → zH → Prop) : Prop := ∃ (o : zO) (h' : zH), zCl l d M as h o h' ∧ Q o h'
/-- the outcome of a return -/
abbrev Rv (v : zV) : zO := Sum.inl (some v)
abbrev R0 : zO := Sum.inl none
abbrev Th (r : zRf) : zO := Sum.inr r
section zROWS
variable {l : Launch} {M : zM} {d pc nx : Nat} {ls : List (Option zV)} {st : List zV} {h h' : zH} {o : zO} {Q : zO → zH → Prop}
theorem zfin_of {E : zEv} {p : Program} {e : Env} {R : Room} {s : State} {m : MethodId} {args : Array Value} {below : List Frame} {meth : Method} {c : Code} {H : Heap} {locs : List Loc} {cells slots : Nat} {ad : zRf → Nat} {ov : Option zV} {t : State} (hp : zHp E ad s h H) (hS : va_S (zA E) s.heap H locs) (hal : zalO h (Sum.inl ov))
    (b : MQ below (fun _ _ o t => o = .returned (ov.map (zenc ad)) ∧ t.heap = H) args s cells slots (zA E) t) : zFin E ad h s below cells slots (Sum.inl ov) h t := by
  obtain ⟨o', b1, b2, ⟨b3, b4⟩, L, b5, b6⟩ := b
  subst b3
  obtain ⟨-, hW, hsame⟩ := b5
  refine ⟨b1, ad, fun _ _ => rfl, b2, hal, by rw [b4]; exact hp.moved hW.alike, hS.F b4, hW, L, ?_, b6⟩
  rw [Nat.sub_self, Nat.add_zero, Nat.sub_self, Nat.add_zero]
  exact hsame
theorem w_ireturn {v : Int32} {ty : FieldType} (hd : zAt M pc .ireturn 1 nx) (hr : zMr M = some ty) (hn : narrow ty (.int v) = .int v) (hq : Q (Rv (Vi v)) h) : Wp l M d pc ls [Vi v] h Q := by
  refine ⟨Rv (Vi v), h, ⟨zLe.rf h, ?_⟩, hq⟩
  intro E p e R s m args below meth c H locs cells slots ad la cx hp hS hl ha hb hcc hdd
  exact W.imp (W.zret (Qc := fun _ _ o t => o = .returned ((some (Vi v)).map (zenc ad)) ∧ t.heap = H) (free := zA E) cx.1 cx.2.1 (cx.2.2.1.trans hr) hn (fun t ht _ => ⟨rfl, ht⟩) hS.2.2 hd.1 cx.2.2.2.2.2.2.1) (fun t b => zfin_of (R := R) (p := p) (e := e) (m := m) (meth := meth) (c := c) hp hS trivial b)
theorem w_lreturn {v : Int64} (hd : zAt M pc .lreturn 1 nx) (hr : zMr M = some .long) (hq : Q (Rv (Vj v)) h) : Wp l M d pc ls [Vj v] h Q := by
  refine ⟨Rv (Vj v), h, ⟨zLe.rf h, ?_⟩, hq⟩
  intro E p e R s m args below meth c H locs cells slots ad la cx hp hS hl ha hb hcc hdd
  exact W.imp (W.lret (Qc := fun _ _ o t => o = .returned ((some (Vj v)).map (zenc ad)) ∧ t.heap = H) (free := zA E) cx.1 cx.2.1 (cx.2.2.1.trans hr) (fun t ht _ => ⟨rfl, ht⟩) hS.2.2 hd.1 cx.2.2.2.2.2.2.1) (fun t b => zfin_of (R := R) (p := p) (e := e) (m := m) (meth := meth) (c := c) hp hS trivial b)
theorem w_return (hd : zAt M pc .return_ 1 nx) (hr : zMr M = none) (hq : Q R0 h) : Wp l M d pc ls [] h Q := by
  refine ⟨R0, h, ⟨zLe.rf h, ?_⟩, hq⟩
  intro E p e R s m args below meth c H locs cells slots ad la cx hp hS hl ha hb hcc hdd
  exact W.imp (W.vret (Qc := fun _ _ o t => o = .returned ((none : Option zV).map (zenc ad)) ∧ t.heap = H) (free := zA E) cx.1 cx.2.1 (cx.2.2.1.trans hr) (fun t ht _ => ⟨rfl, ht⟩) hS.2.2 hd.1 cx.2.2.2.2.2.2.1) (fun t b => zfin_of (R := R) (p := p) (e := e) (m := m) (meth := meth) (c := c) hp hS trivial b)
theorem w_areturn {q : Option zRf} {rt : FieldType} (hd : zAt M pc .areturn 1 nx) (hr : zMr M = some rt) (hrt : (∃ n, rt = .object n) ∨ ∃ t, rt = .array t) (hq : Q (Rv (Vq q)) h) : Wp l M d pc ls [Vq q] h Q := by
  refine ⟨Rv (Vq q), h, ⟨zLe.rf h, ?_⟩, hq⟩
  intro E p e R s m args below meth c H locs cells slots ad la cx hp hS hl ha hb hcc hdd
  exact W.imp (W.aret (Qc := fun _ _ o t => o = .returned ((some (Vq q)).map (zenc ad)) ∧ t.heap = H) (free := zA E) cx.1 cx.2.1 (cx.2.2.1.trans hr) hrt (by cases q with
    | none => exact Or.inl rfl
    | some r => exact Or.inr ⟨ad r, rfl⟩) (fun t ht _ => ⟨rfl, ht⟩) hS.2.2 hd.1 cx.2.2.2.2.2.2.1) (fun t b => zfin_of (R := R) (p := p) (e := e) (m := m) (meth := meth) (c := c) hp hS (ha _ List.mem_cons_self) b)
end zROWS
/-- the callee's words at any warmer state -/
theorem zALL_at {args a' : Array Value} {s U : State} (hW : s.WarmedH U.vm) (h : ∀ w ∈ zALL, w.before args s = true) : ∀ w ∈ zALL, w.before a' U = true := by
  intro w hw
  have hg := zALL_good w hw
  refine word_at hW ?_ (h w hw)
  cases w <;> first | exact Or.inl hg | exact Or.inr ⟨_, rfl⟩
/-- what a method's word says -/
theorem zMw_spec {M : zM} {args : Array Value} {s : State} (h : (zMw M).before args s = true) : ∃ (m : MethodId) (meth : Method) (c : Code), s.methodNamed? (zMy M) = some m ∧ s.vm.method? m = some meth ∧ meth.code = some c ∧ c.code = zMc M ∧ c.maxLocals = zMn M ∧ c.exceptionTable.toList.map (fun h => (h.startPc, h.endPc, h.handlerPc, h.catchType)) = zMh M ∧ meth.sig.returnType = zMr M ∧ meth.locks = false ∧ parseMethodDescriptor (zMy M).desc = some meth.sig := by
  unfold zMw at h
  cases hh : zMh M with
  | nil =>
    rw [hh] at h
    obtain ⟨m, hn⟩ := Cond.code_named h
    obtain ⟨meth, c, h1, h2, h3, h4, h5, h6, h7, h8⟩ := Cond.code_spec hn h
    refine ⟨m, meth, c, hn, h1, h2, h3, h4, ?_, h5, h6, h8⟩
    have h0 : c.exceptionTable.size = 0 := by simpa [Array.isEmpty] using h7
    rw [List.eq_nil_of_length_eq_zero (l := c.exceptionTable.toList) (by simpa using h0)]
    rfl
  | cons a t =>
    rw [hh] at h
    obtain ⟨m, meth, c, hn, h1, h2, h3, h4, h5, h6, h7, h8⟩ := Cond.codeWith_spec h
    exact ⟨m, meth, c, hn, h1, h2, h3, h4, h5, h6, h7, h8⟩
/-- behind the invoking instruction: the callee M2 stands ready, called with as -/
def zRdy (l : Launch) (M : zM) (d pc : Nat) (M2 : zM) (as : List zV) (h : zH) : Prop :=
  ∀ (E : zEv) (p : Program) (e : Env) (R : Room) (s : State) (m : MethodId) (args : Array Value) (below : List Frame) (meth : Method) (c : Code) (H : Heap) (locs : List Loc) (cells slots : Nat) (ad : zRf → Nat) (la : Array Slot) (rest : List Value) (T : State),
    zCx l M d E p e R s m args below meth c → zHp E ad s h H → va_S (zA E) s.heap H locs → la.size = zMn M → (∀ v ∈ as, zalV h v) → T.heap = H → Stand p l e R s m args below meth c T locs cells slots →
    ∃ (vm₁ : Vm) (mk : MethodId) (ig : Instr), Stand p l e R s m args below meth c (T.setVm vm₁) locs cells slots ∧ (T.setVm vm₁).methodNamed? (zMy M2) = some mk ∧ decode c.code pc = .ok (ig, 3) ∧
      ∀ target, Steps p.tables e below (doInvoke e ((T.setVm vm₁).setTop (F0 m pc la rest)) [] mk (as.map (zenc ad)).toArray).1 target → Steps p.tables e below (T.setTop (F0 m pc la ((as.map (zenc ad)).reverse ++ rest))) target
/-- a callee and its word, ready for calls -/
def zOK (M2 : zM) : Prop := zMw M2 ∈ zALL ∧ Cond.initialized (zMy M2).cls ∈ zALL ∧ zMn M2 ≤ 20 ∧ (zMy M2).cls ≠ "java/lang/invoke/MethodHandle" ∧ (zMy M2).cls ≠ "java/lang/invoke/VarHandle"
section zCALL
variable {l : Launch} {M M2 : zM} {d d2 pc nx : Nat} {ls : List (Option zV)} {st : List zV} {h h2 h' : zH} {o o2 : zO} {Q : zO → zH → Prop} {as : List zV}
/-- the call itself: it comes back, or throws; the invocation stands at T2 with the callee's heap -/
theorem zgo (hM : zCl l d2 M2 as h o2 h2) (hd : d2 + 1 ≤ d) (hok : zOK M2) (hr : zRdy l M d pc M2 as h)
    {E : zEv} {p : Program} {e : Env} {R : Room} {s : State} {m : MethodId} {args : Array Value} {below : List Frame} {meth : Method} {c : Code} {H : Heap} {locs : List Loc} {cells slots : Nat} {ad : zRf → Nat} {la : Array Slot} (hw : (st.map zcat).sum ≤ 8)
    (cx : zCx l M d E p e R s m args below meth c) (hp : zHp E ad s h H) (hS : va_S (zA E) s.heap H locs) (hla : la.size = zMn M) (hal : ∀ v ∈ as, zalV h v) (hcc : cells + (zc h2 - zc h) ≤ R.cells) (hdd : slots + (zs h2 - zs h) ≤ R.slots)
    {T : State} (hT : T.heap = H) (X : Stand p l e R s m args below meth c T locs cells slots) :
    ∃ (T2 : State) (ad2 : zRf → Nat) (locs2 : List Loc), Stand p l e R s m args below meth c T2 locs2 (cells + (zc h2 - zc h)) (slots + (zs h2 - zs h)) ∧ (∀ r, zal h r → ad2 r = ad r) ∧ zHp E ad2 s h2 T2.heap ∧ va_S (zA E) s.heap T2.heap locs2 ∧ zalO h2 o2 ∧
      ∀ target, (match o2 with
        | .inl v => Steps p.tables e below (T2.setTop (F0 m (pc + 3) la ((v.map (zenc ad2)).toList ++ st.map (zenc ad)))) target
        | .inr r => Steps p.tables e below ((T2.setTop (F0 m pc la (st.map (zenc ad)))).pushFrame (.throwing (ad2 r))) target) →
        Steps p.tables e below (T.setTop (F0 m pc la ((as.map (zenc ad)).reverse ++ st.map (zenc ad)))) target := by
  obtain ⟨hMle, hMf⟩ := hM
  obtain ⟨ok1, ok2, ok3, ok4, ok5⟩ := hok
  obtain ⟨vm₁, mk, ig, X₁, hn, hdg, hst⟩ := hr E p e R s m args below meth c H locs cells slots ad la (st.map (zenc ad)) T cx hp hS hla hal hT X
  have hwf := cx.2.2.2.2.2.1
  have hfr : d ≤ R.frames := cx.2.2.2.2.2.2.2.2.2.1
  have hlo : 40 * d ≤ R.locals := cx.2.2.2.2.2.2.2.2.2.2.1
  have hAn := cx.2.2.2.2.2.2.2.2.2.2.2.1
  have hEn := cx.2.2.2.2.2.2.2.2.2.2.2.2
  generalize hU : T.setVm vm₁ = U at X₁ hn hst
  have hUh : U.heap = H := by rw [← hU]; exact hT
  generalize hgd : F0 m pc la (st.map (zenc ad)) = g at hst
  have hg : g.method = m := by rw [← hgd]
  have hgpc : g.pc = pc := by rw [← hgd]
  have hgst : g.stack = st.map (zenc ad) := by rw [← hgd]
  have hgl : g.locals = la := by rw [← hgd]
  have hgm : g.monitorRoom = 0 := by rw [← hgd]
  have hsize : g.locals.size = c.maxLocals := by rw [hgl, hla]; exact cx.2.2.2.1.symm
  have hWU := X₁.warmed
  have hAt := zALL_at (a' := (as.map (zenc ad)).toArray) (U := U) hWU hwf
  obtain ⟨mk', methY, cY, hn', hmY, hcY, -, hlY, -, -, -, -⟩ := zMw_spec (hAt _ ok1)
  cases hn.symm.trans hn'
  obtain ⟨kY, hkY, -⟩ := className_of_methodNamed hn
  have hinitY : kY.init = .initialized := Cond.initialized_spec (findClass_of_methodNamed hn) hkY (hAt _ ok2)
  have hA : At U g.method c below := by rw [hg]; exact X₁.here
  have hsum : (g.stack.map fun v => v.category).sum = (st.map zcat).sum := by
    rw [hgst, List.map_map]
    exact congrArg List.sum (List.map_congr_left (fun v _ => zcat_enc ad v))
  have hdg' : decode c.code g.pc = .ok (ig, 3) := by rw [hgpc]; exact hdg
  have happ : (headSpec (zMw M2 :: zALL) (zrm d2 h h2)).appliesLoose (zMy M2) e.platform (U.calling g mk (as.map (zenc ad)).toArray) = true := by
    refine Spec.appliesLoose_calling (g := g) hA hdg' hn hkY hinitY (X₁.room_calling (g := g) (R' := (headSpec (zMw M2 :: zALL) (zrm d2 h h2)).room) hsize hmY hcY ?_ ?_ ?_ ?_) ?_
    · show d2 + 1 ≤ R.frames; omega
    · rw [hlY, hgm, hsum]; show 2 * 0 + (st.map zcat).sum + (zMn M2 + 11) + 40 * d2 ≤ R.locals; omega
    · show cells + (zc h2 - zc h) ≤ R.cells; exact hcc
    · show slots + (zs h2 - zs h) ≤ R.slots; exact hdd
    · exact atoms_intro (ws := zMw M2 :: zALL) (fun w hw => (List.mem_cons.mp hw).elim (fun e => e ▸ hAt _ ok1) (hAt w))
  obtain ⟨mid, hmid⟩ := hA.above
  have hfr2 : (U.setTop g).frames = (.java g :: mid) ++ below := by rw [State.frames_setTop' g hA.top, hmid]; rfl
  have hPc : zPc E ad as h (as.map (zenc ad)).toArray (U.calling g mk (as.map (zenc ad)).toArray) := by
    have hh : (U.calling g mk (as.map (zenc ad)).toArray).heap = H := hUh
    have hWc : s.WarmedH (U.calling g mk (as.map (zenc ad)).toArray).vm := hWU
    refine ⟨rfl, by rw [hh]; exact (hEn.kept hS).warm hWc, by rw [hh]; exact hp.moved hWc.alike, fun q hq => hAn q (Nat.le_trans hS.1 (by rw [hh] at hq; exact hq)), hal⟩
  obtain ⟨oc, s₂, hsteps, hrun, hend, hq⟩ := Steps.callFree (hMf E ad) p X₁.admits X₁.cas X₁.clock (acts := []) hfr2 happ hPc trivial
  have hq' : (zQc E ad h o2 h2 (as.map (zenc ad)).toArray (U.calling g mk (as.map (zenc ad)).toArray) oc s₂ ∧ (U.calling g mk (as.map (zenc ad)).toArray).WarmedH s₂.vm ∧ ∃ L : List Loc, (U.calling g mk (as.map (zenc ad)).toArray).sameButNew ({ s₂ with vm := (U.calling g mk (as.map (zenc ad)).toArray).vm } : State) L (zc h2 - zc h) (zs h2 - zs h) ∧ ∀ q ∈ L, zA E q.base) := hq
  obtain ⟨⟨ad2, had2, hoc, halo, hp2, hF2⟩, hW₂, L, ⟨e2, q2, q3, q4, q5, q6⟩, hL⟩ := hq'
  rw [State.frames_setTop' g hA.top] at hend
  have e3 : s₂ = ({ (U.calling g mk (as.map (zenc ad)).toArray).setFrames s₂.frames with heap := s₂.heap, slotsUsed := s₂.slotsUsed } : State).setVm s₂.vm := by
    have : s₂ = ({ s₂ with vm := (U.calling g mk (as.map (zenc ad)).toArray).vm } : State).setVm s₂.vm := rfl
    rw [e2] at this
    exact this
  have hW' : U.WarmedH s₂.vm := hW₂
  obtain ⟨g₀, hg0⟩ := Option.isSome_iff_exists.mp hA.top
  obtain ⟨r, hr⟩ := State.topJava?_eq_some.mp hg0
  have hsame : U.sameButNew ({ U with heap := s₂.heap, slotsUsed := s₂.slotsUsed } : State) L (zc h2 - zc h) (zs h2 - zs h) := by
    refine ⟨?_, q2, q3, q4, q5, q6⟩
    obtain ⟨t, ht, -⟩ := State.frames_cons hr
    show ({ U with heap := s₂.heap, slotsUsed := s₂.slotsUsed } : State) = { U.setFrames U.frames with heap := s₂.heap, slotsUsed := s₂.slotsUsed }
    rw [State.setFrames_self ht]
  have hr' : (({ U with heap := s₂.heap, slotsUsed := s₂.slotsUsed } : State).setVm s₂.vm).frames = .java g₀ :: r := hr
  have X2 : Stand p l e R s m args below meth c (({ U with heap := s₂.heap, slotsUsed := s₂.slotsUsed } : State).setVm s₂.vm) (locs ++ L) (cells + (zc h2 - zc h)) (slots + (zs h2 - zs h)) :=
    ⟨X₁.admits, X₁.cas, X₁.clock, X₁.frames, X₁.room, X₁.hears, X₁.method, X₁.code, (X₁.here.setHeapUsed s₂.heap s₂.slotsUsed).setVm hW'.alike, X₁.tail, State.WarmedH.trans X₁.warmed hW', X₁.limits, X₁.bytes, X₁.same.trans (hsame.setVm s.vm)⟩
  have hva : va_S (zA E) s.heap s₂.heap (locs ++ L) := by
    have hz : H.size ≤ s₂.heap.size := by have := hF2.1; rw [show (U.calling g mk (as.map (zenc ad)).toArray).heap = H from hUh] at this; exact this
    refine ⟨Nat.le_trans hS.1 hz, fun q h1 h2' => ?_, fun q hq => ?_⟩
    · have hk := hF2.2 q (by rw [show (U.calling g mk (as.map (zenc ad)).toArray).heap = H from hUh]; exact Nat.lt_of_lt_of_le h1 hS.1) h2'
      rw [show (U.calling g mk (as.map (zenc ad)).toArray).heap = H from hUh] at hk
      rw [hk]; exact hS.2.1 q h1 h2'
    · rcases List.mem_append.mp hq with y | y
      · exact hS.2.2 q y
      · exact hL q y
  refine ⟨_, ad2, locs ++ L, X2, had2, hp2.moved (State.WarmedH.trans X₁.warmed hW').alike.symm, hva, halo, ?_⟩
  intro target htg
  refine hst target (hsteps.trans ?_)
  cases o2 with
  | inl v =>
    dsimp only at htg
    rw [hoc] at hend
    obtain ⟨c₂, i₂, len₂, hc₂, hd₂, hf₂⟩ := hend
    have hcc2 : c₂ = c := by
      have h1 : s₂.code? g.method = U.code? g.method := by
        rw [State.code?_eq, State.code?_eq, hW'.alike.method?]
      exact Option.some.inj (hc₂.symm.trans (h1.trans hA.code))
    subst hcc2
    have hlen : len₂ = 3 := by rw [hdg'] at hd₂; cases hd₂; rfl
    subst hlen
    have hs₂ : s₂ = (({ U with heap := s₂.heap, slotsUsed := s₂.slotsUsed } : State).setVm s₂.vm).setTop { g with pc := g.pc + 3, stack := (v.map (zenc ad2)).toList ++ g.stack } := by
      refine e3.trans ?_
      rw [hf₂, State.calling_eq hA.top, State.setFrames_setFrames, State.setTop_of_frames _ hr', hr]
      rfl
    rw [hs₂, ← hgd]
    exact htg
  | inr r2 =>
    dsimp only at htg
    rw [hoc] at hend
    have hf₂ : s₂.frames = .throwing (ad2 r2) :: .java g :: U.frames.tail := hend
    have hs₂ : s₂ = ((({ U with heap := s₂.heap, slotsUsed := s₂.slotsUsed } : State).setVm s₂.vm).setTop g).pushFrame (.throwing (ad2 r2)) := by
      refine e3.trans ?_
      rw [hf₂, State.calling_eq hA.top, State.setFrames_setFrames, State.pushFrame, State.frames_setTop _ hr', State.setTop_of_frames _ hr', State.setFrames_setFrames, hr]
      rfl
    rw [hs₂]
    exact htg
end zCALL
