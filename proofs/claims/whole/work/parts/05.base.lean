-- THE ABSTRACT HEAP: a cell is (site, number of its making at that site)
abbrev zRf : Type := Nat × Nat
abbrev zV : Type := Int32 ⊕ (Int64 ⊕ Option (Nat × Nat))
abbrev Vi (x : Int32) : zV := Sum.inl x
abbrev Vj (x : Int64) : zV := Sum.inr (Sum.inl x)
abbrev Vq (q : Option (Nat × Nat)) : zV := Sum.inr (Sum.inr q)
def zenc (ad : zRf → Nat) (v : zV) : Value := match v with
  | .inl x => .int x
  | .inr (.inl x) => .long x
  | .inr (.inr q) => va_rf (q.map ad)
/-- ints; longs; references; lengths; how many made at a site; cells made; slots made -/
abbrev zH : Type := (Nat → Nat → Nat → Int32) × (Nat → Nat → Nat → Int64) × (Nat → Nat → Nat → Option (Nat × Nat)) × (Nat → Nat → Nat) × (Nat → Nat) × Nat × Nat
def zI (h : zH) : Nat → Nat → Nat → Int32 := h.1
def zL (h : zH) : Nat → Nat → Nat → Int64 := h.2.1
def zR (h : zH) : Nat → Nat → Nat → Option (Nat × Nat) := h.2.2.1
def zN (h : zH) : Nat → Nat → Nat := h.2.2.2.1
def zC (h : zH) : Nat → Nat := h.2.2.2.2.1
def zc (h : zH) : Nat := h.2.2.2.2.2.1
def zs (h : zH) : Nat := h.2.2.2.2.2.2
def zsI (h : zH) (k i j : Nat) (v : Int32) : zH := (fun a b c => if a = k ∧ b = i ∧ c = j then v else h.1 a b c, h.2)
def zsL (h : zH) (k i j : Nat) (v : Int64) : zH := (h.1, fun a b c => if a = k ∧ b = i ∧ c = j then v else h.2.1 a b c, h.2.2)
def zsR (h : zH) (k i j : Nat) (v : Option (Nat × Nat)) : zH := (h.1, h.2.1, fun a b c => if a = k ∧ b = i ∧ c = j then v else h.2.2.1 a b c, h.2.2.2)
/-- a run of ints copied: from (k, i) at sp to (k2, i2) at dp, n of them -/
def zcp (h : zH) (k i sp k2 i2 dp n : Nat) : zH := (fun a b => if a = k2 ∧ b = i2 then va_cpy (h.1 k i) (h.1 k2 i2) sp dp n else h.1 a b, h.2)
/-- a new cell at site k, of length n (arrays), of w slots -/
def znew (h : zH) (k n w : Nat) : zH :=
  (fun a b c => if a = k ∧ b = zC h k then 0 else h.1 a b c, fun a b c => if a = k ∧ b = zC h k then 0 else h.2.1 a b c, fun a b c => if a = k ∧ b = zC h k then none else h.2.2.1 a b c,
   fun a b => if a = k ∧ b = zC h k then n else h.2.2.2.1 a b, fun a => if a = k then h.2.2.2.2.1 a + 1 else h.2.2.2.2.1 a, h.2.2.2.2.2.1 + 1, h.2.2.2.2.2.2 + w)
abbrev zO : Type := Option zV ⊕ zRf
def zencO (ad : zRf → Nat) (o : zO) : Outcome := match o with
  | .inl v => .returned (v.map (zenc ad))
  | .inr r => .threw (ad r)
def zal (h : zH) (r : zRf) : Prop := r.2 < zC h r.1 ∨ 900 ≤ r.1
def zalV (h : zH) (v : zV) : Prop := match v with
  | .inr (.inr (some r)) => zal h r
  | _ => True
def zalO (h : zH) (o : zO) : Prop := match o with
  | .inl (some v) => zalV h v
  | .inl none => True
  | .inr r => zal h r
/-- classes' numbers, their slots; which cells may change; the addresses of what is outside; the script's length and ints -/
abbrev zEv : Type := (Nat → ClassId) × (Nat → Nat → Nat) × (Nat → Prop) × (zRf → Nat) × Nat × (Nat → Int32) × (Nat → Option (Nat × Nat))
abbrev zD (E : zEv) : va_G := (E.1, E.2.1)
abbrev zA (E : zEv) : Nat → Prop := E.2.2.1
abbrev zX (E : zEv) : zRf → Nat := E.2.2.2.1
abbrev zSL (E : zEv) : Nat := E.2.2.2.2.1
abbrev zSx (E : zEv) : Nat → Int32 := E.2.2.2.2.2.1
/-- the JDK's three static references -/
abbrev zSu (E : zEv) : Nat → Option (Nat × Nat) := E.2.2.2.2.2.2
/-- the texts of the string constants: class, entry, text, number of the text -/
def zstr : List (String × Nat × String × Nat) := [("SaltFarm$Tokens", 50, "price", 0), ("SaltFarm$Tokens", 56, "duty", 1), ("SaltFarm$Tokens", 58, "when", 2), ("SaltFarm$Tokens", 60, "and", 3), ("SaltFarm$Tokens", 62, "is", 4), ("SaltFarm$Tokens", 67, "year", 5), ("SaltFarm$Tokens", 69, "mouths", 6), ("SaltFarm$Tokens", 71, "need", 7), ("SaltFarm$Tokens", 73, "old", 8),
  ("SaltFarmModel", 189, "price", 0), ("SaltFarmModel", 194, "duty", 1), ("SaltFarmModel", 195, "when", 2), ("SaltFarmModel", 197, "and", 3), ("SaltFarmModel", 199, "is", 4), ("SaltFarmModel", 204, "year", 5), ("SaltFarmModel", 206, "mouths", 6), ("SaltFarmModel", 207, "need", 7), ("SaltFarmModel", 208, "old", 8)]
def zbyt : List (List Int32) := [[112, 114, 105, 99, 101], [100, 117, 116, 121], [119, 104, 101, 110], [97, 110, 100], [105, 115], [121, 101, 97, 114], [109, 111, 117, 116, 104, 115], [110, 101, 101, 100], [111, 108, 100]]
def zlen : List Nat := [5, 4, 4, 3, 2, 4, 6, 4, 3]
/-- what holds of the world outside, at a state -/
def zEnv (E : zEv) (U : State) (H : Heap) : Prop :=
  (∀ w ∈ zNest, va_Nw w U) ∧ (∀ C : String, Cond.arrayOver (.object C) ∈ zAO → va_AO C U) ∧ vk_S 9 zlen zbyt (fun j => zX E (1000 + j, 0)) (fun j => zX E (1100 + j, 0)) (zA E) U H ∧
  (∀ q ∈ zstr, vk_R q.1 q.2.1 q.2.2.1 (zX E (1000 + q.2.2.2, 0)) U) ∧ va_Z "java/lang/String" "COMPACT_STRINGS" "Z" (.int 1) (zA E) U H ∧
  va_Z "java/lang/Throwable" "UNASSIGNED_STACK" "[Ljava/lang/StackTraceElement;" (va_rf ((zSu E 0).map (zX E))) (zA E) U H ∧ va_Z "java/lang/Throwable" "SUPPRESSED_SENTINEL" "Ljava/util/List;" (va_rf ((zSu E 1).map (zX E))) (zA E) U H ∧ va_Z "jdk/internal/util/Preconditions" "SIOOBE_FORMATTER" "Ljava/util/function/BiFunction;" (va_rf ((zSu E 2).map (zX E))) (zA E) U H ∧
  va_X (zX E (999, 0)) (zSL E) (zSx E) U H ∧ ¬ zA E (zX E (999, 0)) ∧ zX E (999, 0) < H.size
def zel (n : Nat) : FieldType := match n with
  | 100 => .int
  | 101 => .long
  | 102 => .byte
  | 103 => .boolean
  | n => .object ((zcl[n - 110]?.map (fun q => q.1)).getD "")
def zfv (ad : zRf → Nat) (h : zH) (r : zRf) (ty : FieldType) (j : Nat) : Value := match ty with
  | .long => .long (zL h r.1 r.2 j)
  | .object _ => va_rf ((zR h r.1 r.2 j).map ad)
  | .array _ => va_rf ((zR h r.1 r.2 j).map ad)
  | _ => .int (zI h r.1 r.2 j)
def znf (ci : Nat) : Nat := (zcl[ci]?.map (fun q => q.2.2)).getD 0
def zfs (ad : zRf → Nat) (h : zH) (r : zRf) (ci : Nat) : List Value := (List.range (znf ci)).map (fun j => zfv ad h r (zty ci j) j)
def zcell (ad : zRf → Nat) (ca : zRf → ClassId) (h : zH) (r : zRf) : va_E :=
  if zshp r.1 < 100 then .inr (zshp r.1, zfs ad h r (zshp r.1))
  else if zshp r.1 = 101 then .inl (ca r, zN h r.1 r.2, .inr (.inl (zL h r.1 r.2)))
  else if zshp r.1 < 110 then .inl (ca r, zN h r.1 r.2, .inl (zI h r.1 r.2))
  else .inl (ca r, zN h r.1 r.2, .inr (.inr (.inr (.inr (fun j => (zR h r.1 r.2 j).map ad)))))
def zws (ns : List zRf) (ad : zRf → Nat) (ca : zRf → ClassId) (h : zH) : va_W := ns.map (fun r => (ad r, zcell ad ca h r))
/-- the heap H holds the abstract heap h, by the addresses ad -/
def zHp (E : zEv) (ad : zRf → Nat) (U : State) (h : zH) (H : Heap) : Prop :=
  (∀ r : zRf, 900 ≤ r.1 → ad r = zX E r) ∧ (zN h 999 0 = zSL E ∧ zI h 999 0 = zSx E ∧ zR h 998 0 = zSu E ∧ ∀ (j : Nat) (r : zRf), zSu E j = some r → 900 ≤ r.1) ∧ (∀ k, 900 ≤ k → zC h k = 0) ∧
  ∃ (ns : List zRf) (ca : zRf → ClassId) (tys : List (ClassId × FieldType)), ns.Nodup ∧ (∀ r : zRf, r ∈ ns ↔ r.2 < zC h r.1) ∧ va_K (zD E) zcl tys U ∧ va_P (zD E) zcl (zws ns ad ca h) H ∧ va_D (zA E) (zws ns ad ca h) ∧
    (∀ r ∈ ns, 100 ≤ zshp r.1 → ∃ t0 : Nat, tys[t0]? = some (ca r, zel (zshp r.1))) ∧ ∀ r ∈ ns, ∀ (j : Nat) (r' : zRf), zR h r.1 r.2 j = some r' → zal h r'
-- METHODS
abbrev zM : Type := MethodName × ByteArray × Nat × Option FieldType × List (Nat × Nat × Nat × Nat)
abbrev zMy (M : zM) : MethodName := M.1
abbrev zMc (M : zM) : ByteArray := M.2.1
abbrev zMn (M : zM) : Nat := M.2.2.1
abbrev zMr (M : zM) : Option FieldType := M.2.2.2.1
abbrev zMh (M : zM) : List (Nat × Nat × Nat × Nat) := M.2.2.2.2
def zMw (M : zM) : Cond := match zMh M with
  | [] => .code (zMy M) (zMc M) (zMn M) (zMr M)
  | h :: t => .codeWith (zMy M) (zMc M) (zMn M) (zMr M) (h :: t)
def zLo (ad : zRf → Nat) (nL : Nat) (ls : List (Option zV)) (la : Array Slot) : Prop :=
  la.size = nL ∧ lv_wf la ∧ ∀ (i : Nat) (v : zV), ls[i]? = some (some v) → la[i]? = some (.val (zenc ad v))
def zCx (l : Launch) (M : zM) (d : Nat) (E : zEv) (p : Program) (e : Env) (R : Room) (s : State) (m : MethodId) (args : Array Value) (below : List Frame) (meth : Method) (c : Code) : Prop :=
  p.tables.exec = Jvm.exec ∧ c.code = zMc M ∧ meth.sig.returnType = zMr M ∧ c.maxLocals = zMn M ∧ s.vm.findClass (zMy M).cls = some m.cls ∧ (∀ w ∈ zALL, w.before args s = true) ∧ meth.locks = false ∧ meth.name = (zMy M).name ∧
  c.exceptionTable.toList.map (fun h => (h.startPc, h.endPc, h.handlerPc, h.catchType)) = zMh M ∧ d ≤ R.frames ∧ 40 * d ≤ R.locals ∧ (∀ q, s.heap.size ≤ q → zA E q) ∧ zEnv E s s.heap
def zFin (E : zEv) (ad : zRf → Nat) (h : zH) (s : State) (below : List Frame) (cells slots : Nat) (o : zO) (h' : zH) (t : State) : Prop :=
  t.status = .running ∧ ∃ ad' : zRf → Nat, (∀ r, zal h r → ad' r = ad r) ∧ Ended t below (zencO ad' o) ∧ zalO h' o ∧ zHp E ad' t h' t.heap ∧ va_F (zA E) s t ∧ s.WarmedH t.vm ∧
    ∃ L : List Loc, s.sameButNew ({ t with vm := s.vm } : State) L (cells + (zc h' - zc h)) (slots + (zs h' - zs h)) ∧ ∀ q ∈ L, zA E q.base
/-- sites only grow -/
def zLe (h h2 : zH) : Prop := (∀ k, zC h k ≤ zC h2 k) ∧ zc h ≤ zc h2 ∧ zs h ≤ zs h2
/-- FROM HERE the method M, at pc with these locals, stack and heap, ends with o and h' -/
def zRn (l : Launch) (M : zM) (d pc : Nat) (ls : List (Option zV)) (st : List zV) (h : zH) (o : zO) (h' : zH) : Prop :=
  zLe h h' ∧ ∀ (E : zEv) (p : Program) (e : Env) (R : Room) (s : State) (m : MethodId) (args : Array Value) (below : List Frame) (meth : Method) (c : Code) (H : Heap) (locs : List Loc) (cells slots : Nat) (ad : zRf → Nat) (la : Array Slot),
    zCx l M d E p e R s m args below meth c → zHp E ad s h H → va_S (zA E) s.heap H locs → zLo ad (zMn M) ls la → (∀ v ∈ st, zalV h v) → (∀ v, some v ∈ ls → zalV h v) →
    cells + (zc h' - zc h) ≤ R.cells → slots + (zs h' - zs h) ≤ R.slots →
    W p l e R s m args below meth c H locs cells slots (zFin E ad h s below cells slots o h') (F0 m pc la (st.map (zenc ad)))
def zPc (E : zEv) (ad : zRf → Nat) (as : List zV) (h : zH) : Array Value → State → Prop := fun v U =>
  v = (as.map (zenc ad)).toArray ∧ zEnv E U U.heap ∧ zHp E ad U h U.heap ∧ (∀ q, U.heap.size ≤ q → zA E q) ∧ ∀ v ∈ as, zalV h v
def zQc (E : zEv) (ad : zRf → Nat) (h : zH) (o : zO) (h' : zH) : Array Value → State → Outcome → State → Prop := fun _ st oc t =>
  ∃ ad' : zRf → Nat, (∀ r, zal h r → ad' r = ad r) ∧ oc = zencO ad' o ∧ zalO h' o ∧ zHp E ad' t h' t.heap ∧ va_F (zA E) st t
def zrm (d : Nat) (h h' : zH) : Room := { frames := d, cells := zc h' - zc h, slots := zs h' - zs h, locals := 40 * d }
/-- CALLED with these arguments on h, the method ends with o and h' -/
def zCl (l : Launch) (d : Nat) (M : zM) (as : List zV) (h : zH) (o : zO) (h' : zH) : Prop :=
  zLe h h' ∧ ∀ (E : zEv) (ad : zRf → Nat), MetFree l (zMy M) (headSpec (zMw M :: zALL) (zrm d h h')) (zPc E ad as h) (fun _ _ _ _ _ => True)
    (fun a st oc t => zQc E ad h o h' a st oc t ∧ st.WarmedH t.vm ∧ ∃ L : List Loc, st.sameButNew ({ t with vm := st.vm } : State) L (zc h' - zc h) (zs h' - zs h) ∧ ∀ q ∈ L, zA E q.base)
-- FIRST LAWS
theorem zLe.rf (h : zH) : zLe h h := ⟨fun _ => Nat.le_refl _, Nat.le_refl _, Nat.le_refl _⟩
theorem zLe.tr {a b c : zH} (x : zLe a b) (y : zLe b c) : zLe a c := ⟨fun k => Nat.le_trans (x.1 k) (y.1 k), Nat.le_trans x.2.1 y.2.1, Nat.le_trans x.2.2 y.2.2⟩
theorem zal.le {h h2 : zH} (x : zLe h h2) {r : zRf} (a : zal h r) : zal h2 r := a.imp (fun q => Nat.lt_of_lt_of_le q (x.1 r.1)) id
theorem zalV.le {h h2 : zH} (x : zLe h h2) {v : zV} (a : zalV h v) : zalV h2 v := by
  rcases v with i | j | q
  · trivial
  · trivial
  · cases q with
    | none => trivial
    | some r => exact zal.le x a
theorem zenc_same {ad ad2 : zRf → Nat} {h : zH} (e : ∀ r, zal h r → ad2 r = ad r) {v : zV} (a : zalV h v) : zenc ad2 v = zenc ad v := by
  rcases v with i | j | q
  · rfl
  · rfl
  · cases q with
    | none => rfl
    | some r => show va_rf (some (ad2 r)) = va_rf (some (ad r)); rw [e r a]
theorem zenc_list {ad ad2 : zRf → Nat} {h : zH} (e : ∀ r, zal h r → ad2 r = ad r) {st : List zV} (a : ∀ v ∈ st, zalV h v) : st.map (zenc ad2) = st.map (zenc ad) :=
  List.map_congr_left (fun v hv => zenc_same e (a v hv))
theorem zLo.same {ad ad2 : zRf → Nat} {h : zH} {nL : Nat} {ls : List (Option zV)} {la : Array Slot} (e : ∀ r, zal h r → ad2 r = ad r) (a : ∀ v, some v ∈ ls → zalV h v) (x : zLo ad nL ls la) : zLo ad2 nL ls la :=
  ⟨x.1, x.2.1, fun i v hi => by rw [zenc_same e (a v (List.mem_of_getElem? hi))]; exact x.2.2 i v hi⟩
theorem zFin.back {E : zEv} {ad ad2 : zRf → Nat} {h h2 h' : zH} {s : State} {below : List Frame} {cells slots : Nat} {o : zO} {t : State} (x : zLe h h2) (y : zLe h2 h') (e : ∀ r, zal h r → ad2 r = ad r)
    (f : zFin E ad2 h2 s below (cells + (zc h2 - zc h)) (slots + (zs h2 - zs h)) o h' t) : zFin E ad h s below cells slots o h' t := by
  obtain ⟨f1, ad', f2, f3, f4, f5, f6, f7, L, f8, f9⟩ := f
  have e1 : cells + (zc h2 - zc h) + (zc h' - zc h2) = cells + (zc h' - zc h) := by have := x.2.1; have := y.2.1; omega
  have e2 : slots + (zs h2 - zs h) + (zs h' - zs h2) = slots + (zs h' - zs h) := by have := x.2.2; have := y.2.2; omega
  rw [e1, e2] at f8
  exact ⟨f1, ad', fun r hr => (f2 r (hr.le x)).trans (e r hr), f3, f4, f5, f6, f7, L, f8, f9⟩
/-- a step, in general -/
theorem zRn.step {l : Launch} {M : zM} {d pc pc2 : Nat} {ls ls2 : List (Option zV)} {st st2 : List zV} {h h2 h' : zH} {o : zO} (le : zLe h h2) (k : zRn l M d pc2 ls2 st2 h2 o h')
    (row : ∀ (E : zEv) (p : Program) (e : Env) (R : Room) (s : State) (m : MethodId) (args : Array Value) (below : List Frame) (meth : Method) (c : Code) (H : Heap) (locs : List Loc) (cells slots : Nat) (ad : zRf → Nat) (la : Array Slot) (Q : State → Prop),
      zCx l M d E p e R s m args below meth c → zHp E ad s h H → va_S (zA E) s.heap H locs → zLo ad (zMn M) ls la → (∀ v ∈ st, zalV h v) → (∀ v, some v ∈ ls → zalV h v) → cells + (zc h2 - zc h) ≤ R.cells → slots + (zs h2 - zs h) ≤ R.slots →
      (∀ (ad2 : zRf → Nat) (H2 : Heap) (locs2 : List Loc) (la2 : Array Slot), (∀ r, zal h r → ad2 r = ad r) → zHp E ad2 s h2 H2 → va_S (zA E) s.heap H2 locs2 → zLo ad2 (zMn M) ls2 la2 → (∀ v ∈ st2, zalV h2 v) → (∀ v, some v ∈ ls2 → zalV h2 v) →
        W p l e R s m args below meth c H2 locs2 (cells + (zc h2 - zc h)) (slots + (zs h2 - zs h)) Q (F0 m pc2 la2 (st2.map (zenc ad2)))) →
      W p l e R s m args below meth c H locs cells slots Q (F0 m pc la (st.map (zenc ad)))) : zRn l M d pc ls st h o h' := by
  refine ⟨le.tr k.1, ?_⟩
  intro E p e R s m args below meth c H locs cells slots ad la cx hp hs hl ha hb hc hd
  have q1 := le.2.1; have q2 := le.2.2; have q3 := k.1.2.1; have q4 := k.1.2.2
  refine row E p e R s m args below meth c H locs cells slots ad la _ cx hp hs hl ha hb (by omega) (by omega) ?_
  intro ad2 H2 locs2 la2 he hp2 hs2 hl2 ha2 hb2
  have kk := k.2 E p e R s m args below meth c H2 locs2 (cells + (zc h2 - zc h)) (slots + (zs h2 - zs h)) ad2 la2 cx hp2 hs2 hl2 ha2 hb2 (by omega) (by omega)
  intro T hT X
  obtain ⟨t, a, b⟩ := kk T hT X
  exact ⟨t, a, b.back le k.1 he⟩
/-- a step that leaves the heap -/
theorem zRn.pure {l : Launch} {M : zM} {d pc pc2 : Nat} {ls ls2 : List (Option zV)} {st st2 : List zV} {h h' : zH} {o : zO} (k : zRn l M d pc2 ls2 st2 h o h')
    (al : (∀ v ∈ st, zalV h v) → (∀ v, some v ∈ ls → zalV h v) → (∀ v ∈ st2, zalV h v) ∧ ∀ v, some v ∈ ls2 → zalV h v)
    (row : ∀ (E : zEv) (p : Program) (e : Env) (R : Room) (s : State) (m : MethodId) (args : Array Value) (below : List Frame) (meth : Method) (c : Code) (H : Heap) (locs : List Loc) (cells slots : Nat) (ad : zRf → Nat) (la : Array Slot) (Q : State → Prop),
      zCx l M d E p e R s m args below meth c → zHp E ad s h H → va_S (zA E) s.heap H locs → zLo ad (zMn M) ls la → cells ≤ R.cells → slots ≤ R.slots →
      (∀ la2 : Array Slot, zLo ad (zMn M) ls2 la2 → W p l e R s m args below meth c H locs cells slots Q (F0 m pc2 la2 (st2.map (zenc ad)))) →
      W p l e R s m args below meth c H locs cells slots Q (F0 m pc la (st.map (zenc ad)))) : zRn l M d pc ls st h o h' := by
  refine zRn.step (zLe.rf h) k ?_
  intro E p e R s m args below meth c H locs cells slots ad la Q cx hp hs hl ha hb hc hd kk
  rw [Nat.sub_self, Nat.add_zero] at hc hd kk
  refine row E p e R s m args below meth c H locs cells slots ad la Q cx hp hs hl hc hd (fun la2 hl2 => ?_)
  rw [Nat.sub_self, Nat.add_zero] at kk
  exact kk ad H locs la2 (fun _ _ => rfl) hp hs hl2 (al ha hb).1 (al ha hb).2
