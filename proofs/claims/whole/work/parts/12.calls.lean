-- THE FIVE KINDS OF CALL; A METHOD'S ENTRY
def zpar (M : zM) (n : Nat) : Prop := (parseMethodDescriptor (zMy M).desc).map (fun s => s.parameters.length) = some n
theorem zpar_len {M : zM} {n : Nat} (h : zpar M n) {sig : MethodDescriptor} (hs : parseMethodDescriptor (zMy M).desc = some sig) : n = sig.parameters.length := by
  unfold zpar at h
  rw [hs] at h
  exact (Option.some.inj h).symm
/-- a reference's class as the machine sees it -/
def zRc (r : zRf) (C : String) : Prop := (r.1 < 900 ∧ zshp r.1 < 100 ∧ (zcl[zshp r.1]?.map (fun q => q.1)) = some C) ∨ (1000 ≤ r.1 ∧ r.1 < 1009 ∧ r.2 = 0 ∧ C = "java/lang/String")
section zCALL
variable {l : Launch} {M M2 : zM} {d d2 pc nx : Nat} {ls : List (Option zV)} {st : List zV} {h h2 h' : zH} {o o2 : zO} {Q Q' : zO → zH → Prop} {as : List zV}
theorem zrecv {E : zEv} {s : State} {ad : zRf → Nat} {H : Heap} {locs : List Loc} {r : zRf} {C : String} (hc : zRc r C) (hE : zEnv E s s.heap) (hp : zHp E ad s h H) (hS : va_S (zA E) s.heap H locs) (ha : zal h r) : ∃ cell : Cell, H[ad r]? = some cell ∧ cell.vm.isStatics = false ∧ s.vm.findClass C = some cell.cls := by
  rcases hc with ⟨c1, c2, c3⟩ | ⟨c1, c2, c3, rfl⟩
  · obtain ⟨-, ns, ca, tys, q0, hh, hq⟩ := hp.at (ha.lt c1)
    have he := zws_get (ad := ad) (ca := ca) (h := h) hq
    rw [zcell_o rfl c2] at he
    cases hz : zcl[zshp r.1]? with
    | none => rw [hz] at c3; cases c3
    | some q =>
      rw [hz] at c3
      have := va_recv hh.2.2.1 hh.2.2.2.1 hz he
      rw [Option.map_some, Option.some.injEq] at c3
      rw [c3] at this
      exact this
  · obtain ⟨j, hj⟩ : ∃ j, r.1 = 1000 + j := ⟨r.1 - 1000, by omega⟩
    have hr : ad r = zX E (1000 + j, 0) := by
      rw [hp.1 r (by omega)]
      exact congrArg (zX E) (Prod.ext hj c3)
    rw [hr]
    exact vk_recv (i := j) hE.2.2.1 (by omega) hS
theorem rdy_V {index : Nat} {r : zRf} {as' : List zV} {C : String} (hd : zAt M pc (.invokevirtual index) 3 nx) (hok : zOK M2) (hp : zpar M2 as'.length) (h1 : Cond.methodLink (zMy M).cls index (zMy M2) ∈ zALL) (h2 : Cond.instanceMethod (zMy M2) ∈ zALL) (h3 : Cond.selects C (zMy M2) (zMy M2) ∈ zALL) (hc : zRc r C) : zRdy l M d pc M2 (Vq (some r) :: as') h := by
  intro E p e R s m args below meth c H locs cells slots ad la rest T cx hp0 hS hla hal hT X
  have hwf := cx.2.2.2.2.2.1
  have hEn := cx.2.2.2.2.2.2.2.2.2.2.2.2
  obtain ⟨mk, methM, hnamed, hmethM, hstM, habM⟩ := Cond.instanceMethod_spec (hwf _ h2)
  obtain ⟨mk', methM', cM, hn', hmethM', -, -, -, -, -, -, hsigM⟩ := zMw_spec (hwf _ hok.1)
  cases hnamed.symm.trans hn'
  cases hmethM.symm.trans hmethM'
  obtain ⟨c2, r2, m2, q1, q2, q3, q4, kP, hkP, hkPi⟩ := Cond.selects_spec (hwf _ h3)
  obtain ⟨cellB, hcB, hoB, hclB⟩ := zrecv hc hEn hp0 hS (hal _ List.mem_cons_self)
  cases hclB.symm.trans q1
  cases (State.methodFound?_of_named hnamed ⟨hok.2.2.2.1, hok.2.2.2.2⟩).symm.trans q2
  cases hnamed.symm.trans q3
  have hselP : selectMethod e.platform s.vm cellB.cls mk = .method mk := by rw [Launch.admits_selectMethod X.admits]; exact q4
  obtain ⟨vm₁, X₁, hstep₁⟩ := X.invokevirtual cx.1 cx.2.2.2.2.1 (hwf _ h1) hnamed hmethM hstM hkP hkPi ⟨hok.2.2.2.1, hok.2.2.2.2⟩ (a := ad r) (cell := cellB) (by rw [hT]; exact hcB)
    (fun z hz => by rw [hz] at hoB; cases hoB) hselP hmethM habM hkP hkPi (g := F0 m pc la (((Vq (some r) :: as').map (zenc ad)).reverse ++ rest)) rfl (argsL := as'.map (zenc ad)) (rest := rest) (by rw [List.length_map]; exact zpar_len hp hsigM) (by simp [zenc, va_rf]) (by rw [cx.2.1]; exact hd.1)
  refine ⟨vm₁, mk, _, X₁, X₁.named hnamed, by rw [cx.2.1]; exact hd.1, fun target ht => hstep₁ _ fun acts => ?_⟩
  rw [doInvoke_state]
  exact ht
theorem rdy_VN {index : Nat} {r : zRf} {as' : List zV} {C host : String} (hd : zAt M pc (.invokevirtual index) 3 nx) (hok : zOK M2) (hp : zpar M2 as'.length) (h1 : Cond.methodLinkNest (zMy M).cls index (zMy M2) host ∈ zNest) (h2 : Cond.instanceMethod (zMy M2) ∈ zALL) (h3 : Cond.selects C (zMy M2) (zMy M2) ∈ zALL) (hc : zRc r C) : zRdy l M d pc M2 (Vq (some r) :: as') h := by
  intro E p e R s m args below meth c H locs cells slots ad la rest T cx hp0 hS hla hal hT X
  have hwf := cx.2.2.2.2.2.1
  have hEn := cx.2.2.2.2.2.2.2.2.2.2.2.2
  obtain ⟨mk, methM, hnamed, hmethM, hstM, habM⟩ := Cond.instanceMethod_spec (hwf _ h2)
  obtain ⟨mk', methM', cM, hn', hmethM', -, -, -, -, -, -, hsigM⟩ := zMw_spec (hwf _ hok.1)
  cases hnamed.symm.trans hn'
  cases hmethM.symm.trans hmethM'
  obtain ⟨c2, r2, m2, q1, q2, q3, q4, kP, hkP, hkPi⟩ := Cond.selects_spec (hwf _ h3)
  obtain ⟨cellB, hcB, hoB, hclB⟩ := zrecv hc hEn hp0 hS (hal _ List.mem_cons_self)
  cases hclB.symm.trans q1
  cases (State.methodFound?_of_named hnamed ⟨hok.2.2.2.1, hok.2.2.2.2⟩).symm.trans q2
  cases hnamed.symm.trans q3
  have hselP : selectMethod e.platform s.vm cellB.cls mk = .method mk := by rw [Launch.admits_selectMethod X.admits]; exact q4
  obtain ⟨vm₁, X₁, hstep₁⟩ := X.invokevirtualNest cx.1 cx.2.2.2.2.1 (va_Nw.use rfl (hEn.1 _ h1)) hnamed hmethM hstM hkP hkPi ⟨hok.2.2.2.1, hok.2.2.2.2⟩ (a := ad r) (cell := cellB) (by rw [hT]; exact hcB)
    (fun z hz => by rw [hz] at hoB; cases hoB) hselP hmethM habM hkP hkPi (g := F0 m pc la (((Vq (some r) :: as').map (zenc ad)).reverse ++ rest)) rfl (argsL := as'.map (zenc ad)) (rest := rest) (by rw [List.length_map]; exact zpar_len hp hsigM) (by simp [zenc, va_rf]) (by rw [cx.2.1]; exact hd.1)
  refine ⟨vm₁, mk, _, X₁, X₁.named hnamed, by rw [cx.2.1]; exact hd.1, fun target ht => hstep₁ _ fun acts => ?_⟩
  rw [doInvoke_state]
  exact ht
theorem rdy_S {index : Nat} (hd : zAt M pc (.invokestatic index) 3 nx) (hok : zOK M2) (hp : zpar M2 as.length) (h1 : Cond.methodLink (zMy M).cls index (zMy M2) ∈ zALL) (h2 : Cond.static (zMy M2) ∈ zALL) : zRdy l M d pc M2 as h := by
  intro E p e R s m args below meth c H locs cells slots ad la rest T cx hp0 hS hla hal hT X
  have hwf := cx.2.2.2.2.2.1
  obtain ⟨mk, methM, cM, hnamed, hmethM, -, -, -, -, -, -, hsigM⟩ := zMw_spec (hwf _ hok.1)
  have hstatic : methM.isStatic = true := Cond.static_spec hnamed hmethM (hwf _ h2)
  obtain ⟨kP, hkP, -⟩ := className_of_methodNamed hnamed
  have hinitP : kP.init = .initialized := Cond.initialized_spec (findClass_of_methodNamed hnamed) hkP (hwf _ hok.2.1)
  obtain ⟨vm₁, X₁, hstep₁⟩ := X.invokestatic cx.1 cx.2.2.2.2.1 (hwf _ h1) hnamed hmethM hstatic hkP hinitP ⟨hok.2.2.2.1, hok.2.2.2.2⟩ (g := F0 m pc la ((as.map (zenc ad)).reverse ++ rest)) rfl (argsL := as.map (zenc ad)) (rest := rest) (by rw [List.length_map]; exact zpar_len hp hsigM) rfl (by rw [cx.2.1]; exact hd.1)
  refine ⟨vm₁, mk, _, X₁, X₁.named hnamed, by rw [cx.2.1]; exact hd.1, fun target ht => hstep₁ _ fun acts => ?_⟩
  rw [doInvoke_state]
  exact ht
theorem rdy_SN {index : Nat} {host : String} (hd : zAt M pc (.invokestatic index) 3 nx) (hok : zOK M2) (hp : zpar M2 as.length) (h1 : Cond.methodLinkNest (zMy M).cls index (zMy M2) host ∈ zNest) (h2 : Cond.static (zMy M2) ∈ zALL) : zRdy l M d pc M2 as h := by
  intro E p e R s m args below meth c H locs cells slots ad la rest T cx hp0 hS hla hal hT X
  have hwf := cx.2.2.2.2.2.1
  have hEn := cx.2.2.2.2.2.2.2.2.2.2.2.2
  obtain ⟨mk, methM, cM, hnamed, hmethM, -, -, -, -, -, -, hsigM⟩ := zMw_spec (hwf _ hok.1)
  have hstatic : methM.isStatic = true := Cond.static_spec hnamed hmethM (hwf _ h2)
  obtain ⟨kP, hkP, -⟩ := className_of_methodNamed hnamed
  have hinitP : kP.init = .initialized := Cond.initialized_spec (findClass_of_methodNamed hnamed) hkP (hwf _ hok.2.1)
  obtain ⟨vm₁, X₁, hstep₁⟩ := X.invokestaticNest cx.1 cx.2.2.2.2.1 (va_Nw.use rfl (hEn.1 _ h1)) hnamed hmethM hstatic hkP hinitP ⟨hok.2.2.2.1, hok.2.2.2.2⟩ (g := F0 m pc la ((as.map (zenc ad)).reverse ++ rest)) rfl (argsL := as.map (zenc ad)) (rest := rest) (by rw [List.length_map]; exact zpar_len hp hsigM) rfl (by rw [cx.2.1]; exact hd.1)
  refine ⟨vm₁, mk, _, X₁, X₁.named hnamed, by rw [cx.2.1]; exact hd.1, fun target ht => hstep₁ _ fun acts => ?_⟩
  rw [doInvoke_state]
  exact ht
theorem rdy_I {index : Nat} {r : zRf} {as' : List zV} (hd : zAt M pc (.invokespecial index) 3 nx) (hok : zOK M2) (hp : zpar M2 as'.length) (hh : zMh M2 = []) (hr : zMr M2 = none) (hnm : (zMy M2).name = "<init>") (h1 : Cond.methodLink (zMy M).cls index (zMy M2) ∈ zALL) (h2 : Cond.instanceMethod (zMy M2) ∈ zALL) : zRdy l M d pc M2 (Vq (some r) :: as') h := by
  intro E p e R s m args below meth c H locs cells slots ad la rest T cx hp0 hS hla hal hT X
  have hwf := cx.2.2.2.2.2.1
  have hpl : e.platform.magicAccessors = ({} : Platform).magicAccessors := by rw [X.admits.platform]
  have hcode : (Cond.code (zMy M2) (zMc M2) (zMn M2) none).before args s = true := by
    have := hwf _ hok.1
    unfold zMw at this
    rw [hh, hr] at this
    exact this
  obtain ⟨mk, methM, cM, kP, vm₁, hnamed, hmethM, hcodeM, -, hlocalsM, -, hkP, -, hW₁, hstep₁⟩ := Steps.initColdArgs (e := e) X.here cx.1 X.warmed hpl cx.2.2.2.2.1 hnm ⟨hok.2.2.2.1, hok.2.2.2.2⟩ (hwf _ h1) (hwf _ h2) hcode (f := F0 m pc la (((Vq (some r) :: as').map (zenc ad)).reverse ++ rest)) rfl (a := ad r) (argsL := as'.map (zenc ad)) (rest := rest) (fun sig hs => by rw [List.length_map]; exact zpar_len hp hs) (by simp [zenc, va_rf]) (by rw [cx.2.1]; exact hd.1)
  have X₁ := X.noted hW₁
  refine ⟨vm₁, mk, _, X₁, X₁.named hnamed, by rw [cx.2.1]; exact hd.1, fun target ht => hstep₁ _ fun acts => ?_⟩
  rw [doInvoke_state]
  exact ht
theorem rdy_IN {index : Nat} {r : zRf} {as' : List zV} {host : String} (hd : zAt M pc (.invokespecial index) 3 nx) (hok : zOK M2) (hp : zpar M2 as'.length) (hh : zMh M2 = []) (hr : zMr M2 = none) (hnm : (zMy M2).name = "<init>") (h1 : Cond.methodLinkNest (zMy M).cls index (zMy M2) host ∈ zNest) (h2 : Cond.instanceMethod (zMy M2) ∈ zALL) : zRdy l M d pc M2 (Vq (some r) :: as') h := by
  intro E p e R s m args below meth c H locs cells slots ad la rest T cx hp0 hS hla hal hT X
  have hwf := cx.2.2.2.2.2.1
  have hEn := cx.2.2.2.2.2.2.2.2.2.2.2.2
  have hpl : e.platform.magicAccessors = ({} : Platform).magicAccessors := by rw [X.admits.platform]
  have hcode : (Cond.code (zMy M2) (zMc M2) (zMn M2) none).before args s = true := by
    have := hwf _ hok.1
    unfold zMw at this
    rw [hh, hr] at this
    exact this
  obtain ⟨mk, methM, cM, kP, vm₁, hnamed, hmethM, hcodeM, -, hlocalsM, -, hkP, -, hW₁, hstep₁⟩ := Steps.initColdArgsNest (e := e) X.here cx.1 X.warmed hpl cx.2.2.2.2.1 hnm ⟨hok.2.2.2.1, hok.2.2.2.2⟩ (va_Nw.use rfl (hEn.1 _ h1)) (hwf _ h2) hcode (f := F0 m pc la (((Vq (some r) :: as').map (zenc ad)).reverse ++ rest)) rfl (a := ad r) (argsL := as'.map (zenc ad)) (rest := rest) (fun sig hs => by rw [List.length_map]; exact zpar_len hp hs) (by simp [zenc, va_rf]) (by rw [cx.2.1]; exact hd.1)
  have X₁ := X.noted hW₁
  refine ⟨vm₁, mk, _, X₁, X₁.named hnamed, by rw [cx.2.1]; exact hd.1, fun target ht => hstep₁ _ fun acts => ?_⟩
  rw [doInvoke_state]
  exact ht
theorem zk_app {h : zH} {as st : List zV} (a : ∀ v ∈ as.reverse ++ st, zalV h v) : (∀ v ∈ as, zalV h v) ∧ ∀ v ∈ st, zalV h v :=
  ⟨fun v hv => a v (List.mem_append_left _ (List.mem_reverse.mpr hv)), fun v hv => a v (List.mem_append_right _ hv)⟩
theorem zmapr {ad : zRf → Nat} (as st : List zV) : (as.reverse ++ st).map (zenc ad) = (as.map (zenc ad)).reverse ++ st.map (zenc ad) := by
  rw [List.map_append, List.map_reverse]
/-- the call comes back -/
theorem R_call {v : Option zV} (hM : zCl l d2 M2 as h (Sum.inl v) h2) (hd : d2 + 1 ≤ d) (hok : zOK M2) (hr : zRdy l M d pc M2 as h) (hw : (st.map zcat).sum ≤ 8) (k : zRn l M d (pc + 3) ls (v.toList ++ st) h2 o h') : zRn l M d pc ls (as.reverse ++ st) h o h' := by
  refine zRn.step hM.1 k ?_
  intro E p e R s m args below meth c H locs cells slots ad la Q cx hp hS hl ha hb hcc hdd kk
  obtain ⟨hal, hst⟩ := zk_app ha
  rw [zmapr]
  intro T hT X
  obtain ⟨T2, ad2, locs2, X2, had, hp2, hS2, halo, hgo⟩ := zgo hM hd hok hr hw cx hp hS hl.1 hal hcc hdd hT X
  have hv : ∀ w ∈ v.toList, zalV h2 w := fun w hw => by
    cases v with
    | none => cases hw
    | some x => rw [List.mem_singleton.mp hw]; exact halo
  have w1 := kk ad2 T2.heap locs2 la had hp2 hS2 (hl.same had hb) (fun w hw => (List.mem_append.mp hw).elim (hv w) (fun z => (hst w z).le hM.1)) (fun w hw => (hb w hw).le hM.1)
  obtain ⟨t, a, b⟩ := w1 T2 rfl X2
  refine ⟨t, hgo t ?_, b⟩
  have e1 : (v.toList ++ st).map (zenc ad2) = (v.map (zenc ad2)).toList ++ st.map (zenc ad) := by
    rw [List.map_append, zenc_list had hst]
    cases v <;> rfl
  rw [e1] at a
  exact a
/-- the call throws, and nothing here catches it -/
theorem R_callT {r : zRf} (hM : zCl l d2 M2 as h (Sum.inr r) h2) (hd : d2 + 1 ≤ d) (hok : zOK M2) (hr : zRdy l M d pc M2 as h) (hw : (st.map zcat).sum ≤ 8) (hout : ∀ x ∈ zMh M, ¬ (x.1 ≤ pc ∧ pc < x.2.1)) : zRn l M d pc ls (as.reverse ++ st) h (Sum.inr r) h2 := by
  refine ⟨hM.1, ?_⟩
  intro E p e R s m args below meth c H locs cells slots ad la cx hp hS hl ha hb hcc hdd
  obtain ⟨hal, hst⟩ := zk_app ha
  rw [zmapr]
  intro T hT X
  obtain ⟨T2, ad2, locs2, X2, had, hp2, hS2, halo, hgo⟩ := zgo hM hd hok hr hw cx hp hS hl.1 hal hcc hdd hT X
  have hex := cx.2.2.2.2.2.2.2.2.1
  obtain ⟨f1, f2, f3, f4, f5⟩ := X2.leaveThrown (ad2 r) (g := F0 m pc la (st.map (zenc ad))) rfl rfl rfl (fun x hx => by
    have hx2 : (x.startPc, x.endPc, x.handlerPc, x.catchType) ∈ zMh M := by rw [← hex]; exact List.mem_map.mpr ⟨x, hx, rfl⟩
    have := hout _ hx2
    simp only [covers]
    simp only [Bool.and_eq_false_iff, decide_eq_false_iff_not]
    by_cases y : x.startPc ≤ pc
    · exact Or.inr (fun z => this ⟨y, z⟩)
    · exact Or.inl y) cx.2.2.2.2.2.2.1
  refine ⟨_, hgo _ f1, f2, ad2, had, f3, halo, hp2.moved f4.alike, ⟨hS2.1, hS2.2.1⟩, f4, locs2, f5, hS2.2.2⟩
theorem Ct.mono (k : Ct l d M as h Q) (i : ∀ o h', Q o h' → Q' o h') : Ct l d M as h Q' := by
  obtain ⟨o, h', a, b⟩ := k
  exact ⟨o, h', a, i o h' b⟩
/-- A CALL: the callee's contract, and what follows each of its ends -/
theorem w_call {Qc : zO → zH → Prop} (hM : Ct l d2 M2 as h Qc) (hd : d2 + 1 ≤ d) (hok : zOK M2) (hr : zRdy l M d pc M2 as h) (hw : (st.map zcat).sum ≤ 8) (hn : nx = pc + 3) (hout : ∀ x ∈ zMh M, ¬ (x.1 ≤ pc ∧ pc < x.2.1))
    (kr : ∀ (v : Option zV) (h2 : zH), Qc (Sum.inl v) h2 → Wp l M d nx ls (v.toList ++ st) h2 Q) (kt : ∀ (r : zRf) (h2 : zH), Qc (Sum.inr r) h2 → Q (Sum.inr r) h2) : Wp l M d pc ls (as.reverse ++ st) h Q := by
  obtain ⟨o2, h2, hc, hq⟩ := hM
  cases o2 with
  | inl v =>
    obtain ⟨o, h', a, b⟩ := kr v h2 hq
    subst hn
    exact ⟨o, h', R_call hc hd hok hr hw a, b⟩
  | inr r => exact ⟨_, _, R_callT hc hd hok hr hw hout, kt r h2 hq⟩
/-- the locals at a method's entry -/
def zent : List zV → List (Option zV)
  | [] => []
  | v :: t => if zcat v = 2 then some v :: none :: zent t else some v :: zent t
theorem zent_mem {as : List zV} {v : zV} (h : some v ∈ zent as) : v ∈ as := by
  induction as with
  | nil => cases h
  | cons a t ih =>
    unfold zent at h
    split at h
    · rcases List.mem_cons.mp h with e | e
      · cases e; exact List.mem_cons_self
      · rcases List.mem_cons.mp e with e | e
        · cases e
        · exact List.mem_cons_of_mem _ (ih e)
    · rcases List.mem_cons.mp h with e | e
      · cases e; exact List.mem_cons_self
      · exact List.mem_cons_of_mem _ (ih e)
theorem zent_args {ad : zRf → Nat} : ∀ (as : List zV) (n i : Nat) (v : zV), (zent as)[i]? = some (some v) → (n + i, zenc ad v) ∈ lv_args n (as.map (zenc ad)) := by
  intro as
  induction as with
  | nil => intro n i v h; simp [zent] at h
  | cons a t ih =>
    intro n i v h
    unfold zent at h
    simp only [List.map_cons, lv_args]
    have hc := zcat_enc ad a
    split at h
    · rename_i h2
      rw [h2] at hc
      cases i with
      | zero => simp at h; subst h; exact List.mem_cons_self
      | succ i =>
        cases i with
        | zero => simp at h
        | succ i =>
          have := ih (n + 2) i v (by simpa using h)
          rw [show n + 2 + i = n + (i + 1 + 1) by omega] at this
          rw [hc]
          exact List.mem_cons_of_mem _ this
    · rename_i h2
      have hc1 : (zenc ad a).category = 1 := by
        rw [hc]
        rcases a with x | x | x
        · rfl
        · exact absurd rfl h2
        · rfl
      cases i with
      | zero => simp at h; subst h; exact List.mem_cons_self
      | succ i =>
        have := ih (n + 1) i v (by simpa using h)
        rw [show n + 1 + i = n + (i + 1) by omega] at this
        rw [hc1]
        exact List.mem_cons_of_mem _ this
theorem zent_len {ad : zRf → Nat} (as : List zV) : (lg_sl (as.map (zenc ad))).length = (zent as).length := by
  induction as with
  | nil => rfl
  | cons a t ih =>
    unfold zent
    have hc := zcat_enc ad a
    simp only [lg_sl, List.map_cons, List.flatMap_cons, List.length_append]
    rw [show ((t.map (zenc ad)).flatMap fun v => if v.category = 2 then [Slot.val v, .second] else [.val v]).length = (zent t).length from ih, hc]
    split <;> simp <;> omega
/-- A METHOD'S CONTRACT out of its body -/
theorem Ct.of (hok : zOK M) (hpl : plainName (zMy M).cls = true) (hn : (zent as).length ≤ zMn M) (k : Wp l M d 0 (zent as) [] h Q) : Ct l d M as h Q := by
  obtain ⟨o, h', ⟨hle, hk⟩, hq⟩ := k
  refine ⟨o, h', ⟨hle, fun E ad => ?_⟩, hq⟩
  refine MetFree.of_bodyS (code := zMc M) (maxLocals := zMn M) (ret := zMr M) hpl ?_ ?_
  · intro args s m hpre hnm
    obtain ⟨m', meth, c, h1, h2, h3, h4, h5, h6, h7, h8, -⟩ := zMw_spec (atoms_spec (ws := zMw M :: zALL) hpre _ List.mem_cons_self)
    cases hnm.symm.trans h1
    exact ⟨meth, c, h2, h3, h4, h5, h7, h8⟩
  · intro p e s m args below meth c s₁ B hml hP _
    obtain ⟨rfl, hE, hp, hA, hal⟩ := hP
    have hts := atoms_spec (ws := zMw M :: zALL) B.pre
    obtain ⟨m', meth', c', h1, h2, h3, h4, h5, h6, h7, h8, -⟩ := zMw_spec (hts _ List.mem_cons_self)
    cases B.named.symm.trans h1
    cases B.method.symm.trans h2
    have hX := Stand.of_body B
    cases hX.code.symm.trans h3
    have cx : zCx l M d E p e (headSpec (zMw M :: zALL) (zrm d h h')).room s m ((as.map (zenc ad)).toArray) below meth c :=
      ⟨B.exec, B.bytes, B.returns, hml, findClass_of_methodNamed B.named, fun w hw => hts w (List.mem_cons_of_mem _ hw), B.notSynchronized, (name_of_methodNamed B.named B.method).1, h6, Nat.le_refl _, Nat.le_refl _, hA, hE⟩
    have hlen : (lg_sl (as.map (zenc ad))).length ≤ zMn M := by rw [zent_len]; exact hn
    have hl := lv_entry (as.map (zenc ad)) (n := zMn M) hlen
    have hh0 : s₁.heap = s.heap := by rw [B.state]; rfl
    have hz : zLo ad (zMn M) (zent as) ((lg_sl (as.map (zenc ad)) ++ List.replicate (zMn M - (lg_sl (as.map (zenc ad))).length) Slot.unset).toArray) :=
      ⟨hl.1, hl.2.1, fun i v hi => hl.2.2 (i, zenc ad v) (by have := zent_args (ad := ad) as 0 i v hi; rw [Nat.zero_add] at this; exact this)⟩
    have w := hk E p e _ s m _ below meth c s.heap [] 0 0 ad _ cx hp va_S.rf hz (fun v hv => by cases hv) (fun v hv => hal v (zent_mem hv)) (by show 0 + (zc h' - zc h) ≤ zc h' - zc h; omega) (by show 0 + (zs h' - zs h) ≤ zs h' - zs h; omega)
    obtain ⟨t, a1, b1, ad', b2, b3, b4, b5, b6, b7, L, b8, b9⟩ := w s₁ hh0 hX
    refine ⟨t, _, ?_, b1, b3, ⟨ad', b2, rfl, b4, b5, b6⟩, b7, L, by rw [Nat.zero_add, Nat.zero_add] at b8; exact b8, b9⟩
    rw [lg_entry_eq]
    exact a1
end zCALL
