-- STATICS, TEXTS, THE SCRIPT, Object.<init>, athrow, arraycopy
section zROWS
variable {l : Launch} {M : zM} {d pc nx : Nat} {ls : List (Option zV)} {st : List zV} {h h' : zH} {o : zO} {Q : zO → zH → Prop}
/-- a row that pushes something the heap tells -/
theorem R_push {st2 : List zV} {pc2 : Nat} {v : zV} (hst : st2 = v :: st) (hv : zalV h v) (k : zRn l M d pc2 ls st2 h o h')
    (row : ∀ (E : zEv) (p : Program) (e : Env) (R : Room) (s : State) (m : MethodId) (args : Array Value) (below : List Frame) (meth : Method) (c : Code) (H : Heap) (locs : List Loc) (cells slots : Nat) (ad : zRf → Nat) (la : Array Slot) (Q : State → Prop) (rest : List Value),
      zCx l M d E p e R s m args below meth c → zHp E ad s h H → va_S (zA E) s.heap H locs → W p l e R s m args below meth c H locs cells slots Q (F0 m pc2 la (zenc ad v :: rest)) → W p l e R s m args below meth c H locs cells slots Q (F0 m pc la rest)) : zRn l M d pc ls st h o h' := by
  subst hst
  exact zRn.pure k (fun a b => ⟨zk_cons a hv, b⟩) (fun E p e R s m args below meth c H locs cells slots ad la Q cx hp hs hl hc hd' kk => row E p e R s m args below meth c H locs cells slots ad la Q _ cx hp hs (kk la hl))
theorem w_getsC {index : Nat} (hd : zAt M pc (.getstatic index) 3 nx) (hw : Cond.fieldLink (zMy M).cls index "java/lang/String" "COMPACT_STRINGS" "Z" ∈ zALL) (k : Wp l M d nx ls (Vi 1 :: st) h Q) : Wp l M d pc ls st h Q :=
  wst (fun o h' a => by
    obtain ⟨hd, rfl⟩ := hd
    exact R_push (v := Vi 1) rfl trivial a (fun E p e R s m args below meth c H locs cells slots ad la Q rest cx hp hs w => va_gets cx.1 cx.2.1 cx.2.2.2.2.2.2.2.2.2.2.2.2.2.2.2.2.1 hs cx.2.2.2.2.1 (cx.2.2.2.2.2.1 _ hw) (fun x hx => hx) hd w)) k
/-- the JDK's static references, by their number -/
def zsn (j : Nat) : String × String × String := match j with
  | 0 => ("java/lang/Throwable", "UNASSIGNED_STACK", "[Ljava/lang/StackTraceElement;")
  | 1 => ("java/lang/Throwable", "SUPPRESSED_SENTINEL", "Ljava/util/List;")
  | _ => ("jdk/internal/util/Preconditions", "SIOOBE_FORMATTER", "Ljava/util/function/BiFunction;")
theorem zsu_at {E : zEv} {U : State} {H : Heap} (hE : zEnv E U H) {j : Nat} (hj : j < 3) : va_Z (zsn j).1 (zsn j).2.1 (zsn j).2.2 (va_rf ((zSu E j).map (zX E))) (zA E) U H := by
  match j, hj with
  | 0, _ => exact hE.2.2.2.2.2.1
  | 1, _ => exact hE.2.2.2.2.2.2.1
  | 2, _ => exact hE.2.2.2.2.2.2.2.1
theorem zsu_al {E : zEv} {ad : zRf → Nat} {s : State} {H : Heap} (hp : zHp E ad s h H) (j : Nat) : zalV h (Vq (zR h 998 0 j)) := by
  cases hz : zR h 998 0 j with
  | none => trivial
  | some r => exact Or.inr (hp.2.1.2.2.2 j r (by rw [← hp.2.1.2.2.1]; exact hz))
theorem zsu_en {E : zEv} {ad : zRf → Nat} {s : State} {H : Heap} (hp : zHp E ad s h H) (j : Nat) : zenc ad (Vq (zR h 998 0 j)) = va_rf ((zSu E j).map (zX E)) := by
  have h1 : zR h 998 0 j = zSu E j := by rw [hp.2.1.2.2.1]
  rw [← h1]
  cases hz : zR h 998 0 j with
  | none => rfl
  | some r =>
    show Value.ref (ad r) = Value.ref (zX E r)
    rw [hp.1 r (hp.2.1.2.2.2 j r (h1 ▸ hz))]
theorem w_getsU {index : Nat} (j : Nat) (hj : j < 3) (hd : zAt M pc (.getstatic index) 3 nx) (hw : Cond.fieldLink (zMy M).cls index (zsn j).1 (zsn j).2.1 (zsn j).2.2 ∈ zALL) (k : Wp l M d nx ls (Vq (zR h 998 0 j) :: st) h Q) : Wp l M d pc ls st h Q :=
  wst (fun o h' a => by
    obtain ⟨hd, rfl⟩ := hd
    refine zRn.step (zLe.rf h) a ?_
    intro E p e R s m args below meth c H locs cells slots ad la Q cx hp hS hl ha hb hcc hdd kk
    rw [Nat.sub_self, Nat.add_zero, Nat.sub_self, Nat.add_zero] at kk
    have w1 := kk ad H locs la (fun _ _ => rfl) hp hS hl (zk_cons ha (zsu_al hp j)) hb
    rw [List.map_cons, zsu_en hp j] at w1
    exact va_gets cx.1 cx.2.1 (zsu_at cx.2.2.2.2.2.2.2.2.2.2.2.2 hj) hS cx.2.2.2.2.1 (cx.2.2.2.2.2.1 _ hw) (fun x hx => hx) hd w1) k
/-- a text's constant -/
theorem w_ldcS {index : Nat} {tx : String} (j : Nat) (hd : zAt M pc (.ldc index) 2 nx) (hw : ((zMy M).cls, index, tx, j) ∈ zstr) (k : Wp l M d nx ls (Vq (some (1000 + j, 0)) :: st) h Q) : Wp l M d pc ls st h Q :=
  wst (fun o h' a => by
    obtain ⟨hd, rfl⟩ := hd
    exact R_push (v := Vq (some (1000 + j, 0))) rfl (Or.inr (Nat.le_trans (by decide) (Nat.le_add_right 1000 j))) a (fun E p e R s m args below meth c H locs cells slots ad la Q rest cx hp hs w => by
      have e1 : zenc ad (Vq (some (1000 + j, 0))) = .ref (zX E (1000 + j, 0)) := by
        show Value.ref (ad (1000 + j, 0)) = _
        rw [hp.1 (1000 + j, 0) (Nat.le_trans (by decide) (Nat.le_add_right 1000 j))]
      rw [e1] at w
      exact va_ldcS cx.1 cx.2.1 cx.2.2.2.2.1 (cx.2.2.2.2.2.2.2.2.2.2.2.2.2.2.2.1 _ hw) hd w)) k
theorem zout {E : zEv} {ad : zRf → Nat} {s : State} {H : Heap} (hp : zHp E ad s h H) {k : Nat} (hk : 900 ≤ k) : zenc ad (Vq (some (k, 0))) = .ref (zX E (k, 0)) := by
  show Value.ref (ad (k, 0)) = _
  rw [hp.1 (k, 0) hk]
theorem w_getSv {index : Nat} (j : Nat) (hj : j < 9) (hd : zAt M pc (.getfield index) 3 nx) (hw : Cond.fieldLink (zMy M).cls index "java/lang/String" "value" "[B" ∈ zALL) (k : Wp l M d nx ls (Vq (some (1100 + j, 0)) :: st) h Q) : Wp l M d pc ls (Vq (some (1000 + j, 0)) :: st) h Q :=
  wst (fun o h' a => by
    obtain ⟨hd, rfl⟩ := hd
    refine zRn.pure a (fun a b => ⟨zk_cons (zk_tl a) (Or.inr (Nat.le_trans (by decide) (Nat.le_add_right 1100 j))), b⟩) (fun E p e R s m args below meth c H locs cells slots ad la Q cx hp hs hl hc hd' kk => ?_)
    have w := kk la hl
    rw [List.map_cons, zout hp (Nat.le_trans (by decide) (Nat.le_add_right 1100 j))] at w
    rw [List.map_cons, zout hp (Nat.le_trans (by decide) (Nat.le_add_right 1000 j))]
    exact vk_getf cx.1 cx.2.1 (cx.2.2.2.2.2.2.2.2.2.2.2.2.2.2.1.1 j hj).2.2.1 hs cx.2.2.2.2.1 (cx.2.2.2.2.2.1 _ hw) (fun x hx => hx) hd w) k
theorem w_getSc {index : Nat} (j : Nat) (hj : j < 9) (hd : zAt M pc (.getfield index) 3 nx) (hw : Cond.fieldLink (zMy M).cls index "java/lang/String" "coder" "B" ∈ zALL) (k : Wp l M d nx ls (Vi 0 :: st) h Q) : Wp l M d pc ls (Vq (some (1000 + j, 0)) :: st) h Q :=
  wst (fun o h' a => by
    obtain ⟨hd, rfl⟩ := hd
    refine zRn.pure a (fun a b => ⟨zk_cons (zk_tl a) (zal_i h 0), b⟩) (fun E p e R s m args below meth c H locs cells slots ad la Q cx hp hs hl hc hd' kk => ?_)
    have w := kk la hl
    rw [List.map_cons, zout hp (Nat.le_trans (by decide) (Nat.le_add_right 1000 j))]
    exact vk_getf cx.1 cx.2.1 (cx.2.2.2.2.2.2.2.2.2.2.2.2.2.2.1.1 j hj).2.1 hs cx.2.2.2.2.1 (cx.2.2.2.2.2.1 _ hw) (fun x hx => hx) hd w) k
theorem w_Slen (j : Nat) (hj : j < 9) (hd : zAt M pc .arraylength 1 nx) (k : Wp l M d nx ls (Vi (nI (zlen.getD j 0)) :: st) h Q) : Wp l M d pc ls (Vq (some (1100 + j, 0)) :: st) h Q :=
  wst (fun o h' a => by
    obtain ⟨hd, rfl⟩ := hd
    refine zRn.pure a (fun a b => ⟨zk_cons (zk_tl a) (zal_i h _), b⟩) (fun E p e R s m args below meth c H locs cells slots ad la Q cx hp hs hl hc hd' kk => ?_)
    have w := kk la hl
    rw [List.map_cons, zout hp (Nat.le_trans (by decide) (Nat.le_add_right 1100 j))]
    exact va_tlen cx.1 cx.2.1 (cx.2.2.2.2.2.2.2.2.2.2.2.2.2.2.1.1 j hj).2.2.2 hs rfl hd w) k
theorem w_Sbaload {x : Int32} (j n : Nat) (hj : j < 9) (hx : x = nI n) (hn : n < zlen.getD j 0) (hL : zlen.getD j 0 < 2 ^ 31) (hd : zAt M pc .baload 1 nx) (k : Wp l M d nx ls (Vi ((zbyt.getD j []).getD n 0) :: st) h Q) : Wp l M d pc ls (Vi x :: Vq (some (1100 + j, 0)) :: st) h Q :=
  wst (fun o h' a => by
    obtain ⟨hd, rfl⟩ := hd
    refine zRn.pure a (fun a b => ⟨zk_cons (zk_tl2 a) (zal_i h _), b⟩) (fun E p e R s m args below meth c H locs cells slots ad la Q cx hp hs hl hc hd' kk => ?_)
    have w := kk la hl
    rw [List.map_cons, List.map_cons, zout hp (Nat.le_trans (by decide) (Nat.le_add_right 1100 j))]
    exact va_tb cx.1 cx.2.1 (cx.2.2.2.2.2.2.2.2.2.2.2.2.2.2.1.1 j hj).2.2.2 hs (zin2 hx hn hL) (by rw [zcl2 hx (by omega)]; rfl) hd w) k
theorem w_sld {x : Int32} (n : Nat) (hx : x = nI n) (hn : n < zN h 999 0) (hL : zN h 999 0 < 2 ^ 31) (hd : zAt M pc .iaload 1 nx) (k : Wp l M d nx ls (Vi (zI h 999 0 n) :: st) h Q) : Wp l M d pc ls (Vi x :: Vq (some (999, 0)) :: st) h Q :=
  wst (fun o h' a => by
    obtain ⟨hd, rfl⟩ := hd
    refine zRn.pure a (fun a b => ⟨zk_cons (zk_tl2 a) (zal_i h _), b⟩) (fun E p e R s m args below meth c H locs cells slots ad la Q cx hp hs hl hc hd' kk => ?_)
    have w := kk la hl
    rw [List.map_cons, List.map_cons, zout hp (by decide)]
    have hE := cx.2.2.2.2.2.2.2.2.2.2.2.2
    rw [hp.2.1.1] at hn hL
    rw [hp.2.1.2.1] at w
    refine va_sld cx.1 cx.2.1 hE.2.2.2.2.2.2.2.2.1 hE.2.2.2.2.2.2.2.2.2.2 hE.2.2.2.2.2.2.2.2.2.1 hs (zin2 hx hn hL) hd ?_
    rw [zcl2 hx (by omega)]
    exact w) k
theorem w_slen (hd : zAt M pc .arraylength 1 nx) (k : Wp l M d nx ls (Vi (nI (zN h 999 0)) :: st) h Q) : Wp l M d pc ls (Vq (some (999, 0)) :: st) h Q :=
  wst (fun o h' a => by
    obtain ⟨hd, rfl⟩ := hd
    refine zRn.pure a (fun a b => ⟨zk_cons (zk_tl a) (zal_i h _), b⟩) (fun E p e R s m args below meth c H locs cells slots ad la Q cx hp hs hl hc hd' kk => ?_)
    have w := kk la hl
    rw [List.map_cons, zout hp (by decide)]
    have hE := cx.2.2.2.2.2.2.2.2.2.2.2.2
    rw [hp.2.1.1] at w
    exact va_slen cx.1 cx.2.1 hE.2.2.2.2.2.2.2.2.1 hE.2.2.2.2.2.2.2.2.2.2 hE.2.2.2.2.2.2.2.2.2.1 hs hd w) k
theorem w_objInit {index : Nat} {r : zRf} (hd : zAt M pc (.invokespecial index) 3 nx) (hw : Cond.methodLink (zMy M).cls index Lib.objectInit ∈ zALL) (h1 : Cond.instanceMethod Lib.objectInit ∈ zALL) (h2 : Cond.code Lib.objectInit ⟨#[0xb1]⟩ 1 none ∈ zALL) (hw8 : (st.map zcat).sum ≤ 8) (hd1 : 1 ≤ d) (k : Wp l M d nx ls st h Q) : Wp l M d pc ls (Vq (some r) :: st) h Q :=
  wst (fun o h' a => by
    obtain ⟨hd, rfl⟩ := hd
    refine zRn.pure a (fun a b => ⟨zk_tl a, b⟩) (fun E p e R s m args below meth c H locs cells slots ad la Q cx hp hs hl hc hd' kk => ?_)
    have hfr : d ≤ R.frames := cx.2.2.2.2.2.2.2.2.2.1
    have hlo : 40 * d ≤ R.locals := cx.2.2.2.2.2.2.2.2.2.2.1
    have hsum : ((st.map (zenc ad)).map fun v => v.category).sum = (st.map zcat).sum := by
      rw [List.map_map]
      exact congrArg List.sum (List.map_congr_left (fun v _ => zcat_enc ad v))
    refine W.objInit (g := F0 m pc la (zenc ad (Vq (some r)) :: st.map (zenc ad))) cx.1 cx.2.1 cx.2.2.2.2.1 (cx.2.2.2.2.2.1 _ hw) (cx.2.2.2.2.2.1 _ h1) (cx.2.2.2.2.2.1 _ h2) rfl (by show la.size = c.maxLocals; rw [hl.1, cx.2.2.2.1]) (a := ad r) (rest := st.map (zenc ad)) rfl hd (by omega) ?_ (kk la hl)
    show 2 * 0 + ((st.map (zenc ad)).map fun v => v.category).sum + 12 ≤ R.locals
    omega) k
/-- athrow, where nothing here catches it -/
theorem w_athrow {r : zRf} (hd : zAt M pc .athrow 1 nx) (hout : ∀ x ∈ zMh M, ¬ (x.1 ≤ pc ∧ pc < x.2.1)) (hq : Q (Sum.inr r) h) : Wp l M d pc ls (Vq (some r) :: st) h Q := by
  refine ⟨Sum.inr r, h, ⟨zLe.rf h, ?_⟩, hq⟩
  intro E p e R s m args below meth c H locs cells slots ad la cx hp hS hl ha hb hcc hdd
  intro T hT X
  have hex := cx.2.2.2.2.2.2.2.2.1
  obtain ⟨f1, f2, f3, f4, f5⟩ := X.athrowLeaves cx.1 (g := F0 m pc la ((Vq (some r) :: st).map (zenc ad))) rfl rfl rfl (fun x hx => by
    have hx2 : (x.startPc, x.endPc, x.handlerPc, x.catchType) ∈ zMh M := by rw [← hex]; exact List.mem_map.mpr ⟨x, hx, rfl⟩
    have := hout _ hx2
    simp only [covers]
    simp only [Bool.and_eq_false_iff, decide_eq_false_iff_not]
    by_cases y : x.startPc ≤ pc
    · exact Or.inr (fun z => this ⟨y, z⟩)
    · exact Or.inl y) (a := ad r) (rest := st.map (zenc ad)) rfl (by rw [cx.2.1]; exact hd.1) cx.2.2.2.2.2.2.1
  refine ⟨_, f1, f2, ad, fun _ _ => rfl, f3, ha _ List.mem_cons_self, ?_, ?_, f4, locs, ?_, hS.2.2⟩
  · have := hp.moved (U := T.setFrames (.throwing (ad r) :: below)) f4.alike
    rw [← hT] at this
    exact this
  · rw [← hT] at hS
    exact ⟨hS.1, hS.2.1⟩
  · rw [Nat.sub_self, Nat.add_zero, Nat.sub_self, Nat.add_zero]
    exact f5
/-- System.arraycopy between two int arrays -/
theorem w_copyi {index k1 i1 k2 i2 : Nat} {sp dp n : Int32} (a b m : Nat) (hd : zAt M pc (.invokestatic index) 3 nx) (hw : Cond.methodLink (zMy M).cls index arraycopyName ∈ zALL) (h1 : Cond.native arraycopyName ∈ zALL) (h2 : Cond.static arraycopyName ∈ zALL) (h3 : Cond.initialized "java/lang/System" ∈ zALL)
    (hs1 : zshp k1 = 100) (hr1 : k1 < 900) (hs2 : zshp k2 = 100) (hr2 : k2 < 900) (hsp : sp = nI a) (hdp : dp = nI b) (hm : n = nI m) (hb1 : a + m ≤ zN h k1 i1) (hb2 : b + m ≤ zN h k2 i2) (hb3 : a + m < 2 ^ 31 ∧ b + m < 2 ^ 31) (hne : (k1, i1) ≠ (k2, i2)) (hw8 : (st.map zcat).sum ≤ 8) (hd1 : 2 ≤ d)
    (kk : Wp l M d nx ls st (zcp h k1 i1 a k2 i2 b m) Q) : Wp l M d pc ls (Vi n :: Vi dp :: Vq (some (k2, i2)) :: Vi sp :: Vq (some (k1, i1)) :: st) h Q :=
  wst (fun o h' kr => by
    obtain ⟨hd, rfl⟩ := hd
    have hle : zLe h (zcp h k1 i1 a k2 i2 b m) := zLe.rf h
    refine zRn.step hle kr ?_
    intro E p e R s m' args below meth c H locs cells slots ad la Q cx hp hS hl ha hb hcc hdd kk
    have ec1 : zc (zcp h k1 i1 a k2 i2 b m) = zc h := rfl
    have es1 : zs (zcp h k1 i1 a k2 i2 b m) = zs h := rfl
    rw [ec1, es1, Nat.sub_self, Nat.add_zero, Nat.sub_self, Nat.add_zero] at kk
    have hwf := cx.2.2.2.2.2.1
    have hfr : d ≤ R.frames := cx.2.2.2.2.2.2.2.2.2.1
    have hlo : 40 * d ≤ R.locals := cx.2.2.2.2.2.2.2.2.2.2.1
    have hlive2 : i2 < zC h k2 := zal.lt (h := h) (r := (k2, i2)) (ha (Vq (some (k2, i2))) (by simp)) hr2
    have hlive1 : i1 < zC h k1 := zal.lt (h := h) (r := (k1, i1)) (ha (Vq (some (k1, i1))) (by simp)) hr1
    obtain ⟨-, ns, ca, tys, q1, hh, hq1⟩ := hp.at (r := (k2, i2)) hlive2
    obtain ⟨q0, hq0⟩ := List.getElem?_of_mem ((hh.2.1 (k1, i1)).mpr hlive1)
    obtain ⟨t0, ht0⟩ := hh.2.2.2.2.2.1 (k1, i1) (List.mem_of_getElem? hq0) (by show 100 ≤ zshp k1; rw [hs1]; decide)
    obtain ⟨t1, ht1⟩ := hh.2.2.2.2.2.1 (k2, i2) (List.mem_of_getElem? hq1) (by show 100 ≤ zshp k2; rw [hs2]; decide)
    have g0 := zws_get (ad := ad) (ca := ca) (h := h) hq0
    have g1 := zws_get (ad := ad) (ca := ca) (h := h) hq1
    rw [zcell_i (by show 100 ≤ zshp k1; rw [hs1]; decide) (by show zshp k1 ≠ 101; rw [hs1]; decide) (by show zshp k1 < 110; rw [hs1]; decide)] at g0
    rw [zcell_i (by show 100 ≤ zshp k2; rw [hs2]; decide) (by show zshp k2 ≠ 101; rw [hs2]; decide) (by show zshp k2 < 110; rw [hs2]; decide)] at g1
    rw [show zshp (k1, i1).1 = 100 from hs1] at ht0
    rw [show zshp (k2, i2).1 = 100 from hs2] at ht1
    have ca1 := zcl2 hsp (by omega)
    have ca2 := zcl2 hdp (by omega)
    have ca3 := zcl2 hm (by omega)
    have hsum : ((st.map (zenc ad)).map fun v => v.category).sum = (st.map zcat).sum := by
      rw [List.map_map]
      exact congrArg List.sum (List.map_congr_left (fun v _ => zcat_enc ad v))
    have hnw : nativeFrameWords "java/lang/System" "arraycopy" 5 + 11 ≤ 60 := by decide
    refine va_copyi (ty := .int) cx.1 cx.2.1 (by rw [hl.1]; exact cx.2.2.2.1) cx.2.2.2.2.1 (hwf _ hw) (hwf _ h1) (hwf _ h2) (hwf _ h3) hh.2.2.1 hh.2.2.2.1 hh.2.2.2.2.1 hS q0 q1 t0 t1 g0 g1 ht0 ht1 rfl (by rw [hsp]; exact nI_pos (by omega)) (by rw [hdp]; exact nI_pos (by omega)) (by rw [hm]; exact nI_pos (by omega)) (by rw [ca1, ca3]; exact hb1) (by rw [ca2, ca3]; exact hb2) (fun _ _ => rfl) (by omega) (by rw [hsum]; omega) hd ?_
    intro H1 locs1 hP1 hD1 hS1
    rw [ca1, ca2, ca3] at hP1 hD1
    have ec : zcell ad ca (zcp h k1 i1 a k2 i2 b m) (k2, i2) = .inl (ca (k2, i2), zN h k2 i2, .inl (va_cpy (zI h k1 i1) (zI h k2 i2) a b m)) := by
      rw [zcell_i (by show 100 ≤ zshp k2; rw [hs2]; decide) (by show zshp k2 ≠ 101; rw [hs2]; decide) (by show zshp k2 < 110; rw [hs2]; decide)]
      have : zI (zcp h k1 i1 a k2 i2 b m) k2 i2 = va_cpy (zI h k1 i1) (zI h k2 i2) a b m := by
        show (if k2 = k2 ∧ i2 = i2 then _ else _) = _
        rw [if_pos ⟨rfl, rfl⟩]; rfl
      exact congrArg (fun f => Sum.inl (ca (k2, i2), zN h k2 i2, Sum.inl f)) this
    rw [← ec] at hP1 hD1
    have hp2 := hp.upd (h2 := zcp h k1 i1 a k2 i2 b m) hh hq1 hr2 rfl rfl (fun r' e => by
      show (if r'.1 = k2 ∧ r'.2 = i2 then _ else _) = _
      rw [if_neg (fun z => e (Prod.ext z.1 z.2))]; rfl) (fun _ _ => rfl) (fun _ _ => rfl) (hh.2.2.2.2.2.2 (k2, i2) (List.mem_of_getElem? hq1)) hP1 hD1
    exact kk ad H1 locs1 la (fun _ _ => rfl) hp2 hS1 hl (fun v hv => ha v (by simp [hv])) hb) kk
end zROWS
