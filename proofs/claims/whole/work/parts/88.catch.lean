-- a throw that is caught here, by program (wip/gen/p88.py)
/-- the handler's search, where the table has one entry and its class links, cold or warm -/
theorem zSrch {e : Env} {u : State} {f : JFrame} {a : Addr} {meth : Method} {code : Code} {x : ExceptionTableEntry} {cC : ClassId} {cell : Cell} {vm1 : Vm} (hm : u.vm.method? f.method = some meth) (hc : meth.code = some code) (htab : code.exceptionTable.toList = [x]) (hx : covers x f.pc = true) (h0 : x.catchType ≠ 0)
    (hg : (resolveClass f.method.cls x.catchType).Gives e.toSetting u.vm (.ok cC) vm1) (hcell : u.heap[a]? = some cell) (hobj : ∀ k, cell.vm ≠ .statics k) (hk : ∃ k, vm1.classes[cell.cls]? = some k) (hcl : ∃ k, vm1.classes[cC]? = some k) (hfit : vm1.assignable cell.cls cC = true) (hsz : vm1.classes.size ≤ u.vm.classes.size)
    (Q : Handler → Pre) (E : CtlPost) (d : Bool) (acts : List Action) : wp (findHandler f a) Q E e d acts u ↔ Q (.found x.handlerPc) d acts (u.setVm vm1) := by
  obtain ⟨g1, g2⟩ := hg.op (op := VmOp.resolveClass f.method.cls x.catchType) rfl
  obtain ⟨k1, hk1⟩ := hk
  obtain ⟨k2, hk2⟩ := hcl
  simp only [covers] at hx
  rw [W.findHandler_eq hm hc, htab]
  have g3 := VmOp.lands_eq g2 hsz
  simp [findHandler.go, hx, h0, g1, g3, hcell, hobj, hk1, hk2, hfit, VmOp.dirties, VmOp.acts]
/-- the step from the note to the handler -/
theorem zGoH {tb : Tables} {e : Env} {U target : State} {g : JFrame} {c : Code} {below : List Frame} {a : Addr} {hpc : Nat} {vm1 : Vm} (hA : At U g.method c below)
    (hf : ∀ (Q : Handler → Pre) (E : CtlPost) (d : Bool) (acts : List Action), wp (findHandler g a) Q E e d acts ((U.setTop g).pushFrame (.throwing a)) ↔ Q (.found hpc) d acts (((U.setTop g).pushFrame (.throwing a)).setVm vm1))
    (k : Steps tb e below ((U.setVm vm1).setTop { g with pc := hpc, stack := [.ref a] }) target) : Steps tb e below ((U.setTop g).pushFrame (.throwing a)) target := by
  obtain ⟨w1, w2⟩ := hA.throwing a
  obtain ⟨g0, hg0⟩ := Option.isSome_iff_exists.mp hA.top
  obtain ⟨r, hr⟩ := State.topJava?_eq_some.mp hg0
  have hU : (U.setTop g).pushFrame (.throwing a) = U.setFrames (.throwing a :: .java g :: r) := by
    rw [State.pushFrame, State.setTop_of_frames _ hr, State.frames_setFrames _ (State.cur_lt_of_frames hr), State.setFrames_setFrames]
  have hst : (stepThrowing e ((U.setTop g).pushFrame (.throwing a)) a (.java g :: r)).Is ((((U.setTop g).pushFrame (.throwing a)).setVm vm1).setFrames (.java { g with pc := hpc, stack := [.ref a] } :: r)) [] := by
    simp only [stepThrowing, searchFrame, vmDo]
    generalize hz : Sem.go _ e false [] ((U.setTop g).pushFrame (.throwing a)) = res
    obtain ⟨as, rfl, ha⟩ := Sem.eq_ok_of hz (a := Handler.found hpc) (s' := ((U.setTop g).pushFrame (.throwing a)).setVm vm1) (acts' := []) (by simp [hf _ _ _ _])
    exact ⟨rfl, ha⟩
  refine Steps.head w1 w2 ?_
  have hfr : ((U.setTop g).pushFrame (.throwing a)).frames = .throwing a :: .java g :: r := by
    rw [hU]
    exact State.frames_setFrames _ (State.cur_lt_of_frames hr)
  rw [stepThread_throwing hfr, hst.1, hU]
  have h1 : ((U.setFrames (.throwing a :: .java g :: r)).setVm vm1).setFrames (.java { g with pc := hpc, stack := [.ref a] } :: r) = (U.setVm vm1).setFrames (.java { g with pc := hpc, stack := [.ref a] } :: r) := by
    rw [show (U.setFrames (.throwing a :: .java g :: r)).setVm vm1 = (U.setVm vm1).setFrames (.throwing a :: .java g :: r) from rfl, State.setFrames_setFrames]
  rw [h1, ← State.setTop_of_frames { g with pc := hpc, stack := [.ref a] } (show (U.setVm vm1).frames = .java g0 :: r from hr)]
  exact k
section zCATCH
variable {l : Launch} {M M2 : zM} {d d2 pc nx : Nat} {ls : List (Option zV)} {st : List zV} {h h2 h' : zH} {o o2 : zO} {Q : zO → zH → Prop} {as : List zV}
theorem R_callC {r : zRf} {sa sb hpc ct : Nat} {C : String} (hM : zCl l d2 M2 as h (Sum.inr r) h2) (hd : d2 + 1 ≤ d) (hok : zOK M2) (hr : zRdy l M d pc M2 as h) (hw : (st.map zcat).sum ≤ 8) (htb : zMh M = [(sa, sb, hpc, ct)]) (hcov : sa ≤ pc ∧ pc < sb) (h0 : ct ≠ 0)
    (hlk : Cond.classLink (zMy M).cls ct C ∈ zALL) (hcs : Cond.castable C C ∈ zNest) (hrc : zRc r C) (k : zRn l M d hpc ls [Vq (some r)] h2 o h') : zRn l M d pc ls (as.reverse ++ st) h o h' := by
  refine ⟨hM.1.tr k.1, ?_⟩
  intro E p e R s m args below meth c H locs cells slots ad la cx hp hS hl ha hb hcc hdd
  obtain ⟨hal, hst⟩ := zk_app ha
  rw [zmapr]
  intro T hT X
  have q1 := hM.1.2.1
  have q2 := hM.1.2.2
  have q3 := k.1.2.1
  have q4 := k.1.2.2
  obtain ⟨T2, ad2, locs2, X2, had, hp2, hS2, halo, hgo⟩ := zgo hM hd hok hr hw cx hp hS hl.1 hal (by omega) (by omega) hT X
  have hpl : e.platform.magicAccessors = ({} : Platform).magicAccessors := by rw [X2.admits.platform]
  obtain ⟨cC, hfc, hcl⟩ := Cond.classLink_spec cx.2.2.2.2.1 (cx.2.2.2.2.2.1 _ hlk) e.platform hpl
  obtain ⟨hg1, hwarm, hready⟩ := State.classEntry (e := e) X2.warmed hcl
  have hEn := cx.2.2.2.2.2.2.2.2.2.2.2.2
  obtain ⟨cell, hc1, hc2, hc3⟩ := zrecv hrc hEn hp2 hS2 halo
  cases hfc.symm.trans hc3
  obtain ⟨c1, c2, hf1, hf2, hasg⟩ := Cond.castable_spec (hEn.1 _ hcs)
  cases hfc.symm.trans hf1
  cases hfc.symm.trans hf2
  obtain ⟨kC, hkC⟩ := Vm.classAt_of_findClass hfc
  obtain ⟨kC', hkC', -⟩ := hwarm.alike.2.2 _ _ hkC
  have hex := cx.2.2.2.2.2.2.2.2.1
  obtain ⟨x, hx1, hx2⟩ : ∃ x, c.exceptionTable.toList = [x] ∧ (x.startPc, x.endPc, x.handlerPc, x.catchType) = (sa, sb, hpc, ct) := by
    rw [htb] at hex
    cases hl0 : c.exceptionTable.toList with
    | nil => rw [hl0] at hex; cases hex
    | cons x t =>
      rw [hl0] at hex
      cases t with
      | nil =>
        refine ⟨x, rfl, ?_⟩
        have := hex
        simp only [List.map_cons, List.map_nil, List.cons.injEq, and_true] at this
        exact this
      | cons y t =>
        simp at hex
  cases hx2
  have X3 := X2.noted hwarm
  have kk := k.2 E p e R s m args below meth c T2.heap locs2 (cells + (zc h2 - zc h)) (slots + (zs h2 - zs h)) ad2 la cx hp2 hS2 (hl.same had hb) (fun v hv => by
    rw [List.mem_singleton] at hv
    rw [hv]
    exact halo) (fun v hv => (hb v hv).le hM.1) (by omega) (by omega)
  obtain ⟨t, a1, b1⟩ := kk (T2.setVm (T2.vm.noted m.cls x.catchType (.cls cell.cls))) rfl X3
  refine ⟨t, hgo _ ?_, b1.back hM.1 k.1 had⟩
  have hu1 : ((T2.setTop (F0 m pc la (st.map (zenc ad)))).pushFrame (.throwing (ad2 r))).vm = T2.vm := Stand.throwing_vm T2 _ _
  have hu2 : ((T2.setTop (F0 m pc la (st.map (zenc ad)))).pushFrame (.throwing (ad2 r))).heap = T2.heap := Stand.throwing_heap T2 _ _
  refine zGoH (g := F0 m pc la (st.map (zenc ad))) (vm1 := T2.vm.noted m.cls x.catchType (.cls cell.cls)) (c := c) X2.here (zSrch (meth := meth) (code := c) (x := x) (cC := cell.cls) (cell := cell) (by rw [hu1]; exact X2.method') X2.code hx1 ?_ h0 (by rw [hu1]; exact hg1) (by rw [hu2]; exact hc1) (fun kk => VmData.ne_statics_of hc2 kk) ⟨kC', hkC'⟩ ⟨kC', hkC'⟩ (by rw [hwarm.alike.assignable]; exact hasg) (by rw [hu1, Vm.size_noted]; exact Nat.le_refl _)) ?_
  · simp only [covers, Bool.and_eq_true, decide_eq_true_eq]
    exact hcov
  · exact a1
/-- A CALL whose throw is caught here -/
theorem w_callC {Qc : zO → zH → Prop} {sa sb hpc ct : Nat} {C : String} (hM : Ct l d2 M2 as h Qc) (hd : d2 + 1 ≤ d) (hok : zOK M2) (hr : zRdy l M d pc M2 as h) (hw : (st.map zcat).sum ≤ 8) (hn : nx = pc + 3) (htb : zMh M = [(sa, sb, hpc, ct)]) (hcov : sa ≤ pc ∧ pc < sb) (h0 : ct ≠ 0)
    (hlk : Cond.classLink (zMy M).cls ct C ∈ zALL) (hcs : Cond.castable C C ∈ zNest)
    (kr : ∀ (v : Option zV) (h2 : zH), Qc (Sum.inl v) h2 → Wp l M d nx ls (v.toList ++ st) h2 Q) (kt : ∀ (r : zRf) (h2 : zH), Qc (Sum.inr r) h2 → zRc r C ∧ Wp l M d hpc ls [Vq (some r)] h2 Q) : Wp l M d pc ls (as.reverse ++ st) h Q := by
  obtain ⟨o2, h2, hc, hq⟩ := hM
  cases o2 with
  | inl v =>
    obtain ⟨o, h', a, b⟩ := kr v h2 hq
    subst hn
    exact ⟨o, h', R_call hc hd hok hr hw a, b⟩
  | inr r =>
    obtain ⟨z1, o, h', a, b⟩ := kt r h2 hq
    exact ⟨o, h', R_callC hc hd hok hr hw htb hcov h0 hlk hcs z1 a, b⟩
end zCATCH
