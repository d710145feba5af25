-- ROWS THAT LEAVE THE HEAP, by program (wip/gen/rows.py)
/-- instruction ins of length len stands at pc, the next one at nx -/
def zAt (M : zM) (pc : Nat) (ins : Instr) (len nx : Nat) : Prop := decode (zMc M) pc = .ok (ins, len) ∧ nx = pc + len
def zchk (c : ByteArray) (T : List (Nat × Instr × Nat × Nat)) : Bool := T.all (fun q => decide (decode c q.1 = .ok (q.2.1, q.2.2.1)) && (q.2.2.2 == q.1 + q.2.2.1))
theorem zat {M : zM} {T : List (Nat × Instr × Nat × Nat)} (h : zchk (zMc M) T = true) (i : Nat) {pc len nx : Nat} {ins : Instr} (hi : T[i]? = some (pc, ins, len, nx)) : zAt M pc ins len nx := by
  have h1 := List.all_eq_true.mp h _ (List.mem_of_getElem? hi)
  rw [Bool.and_eq_true] at h1
  exact ⟨of_decide_eq_true h1.1, eq_of_beq h1.2⟩
/-- from here the method ends so that Q holds of its outcome and heap -/
def Wp (l : Launch) (M : zM) (d pc : Nat) (ls : List (Option zV)) (st : List zV) (h : zH) (Q : zO → zH → Prop) : Prop := ∃ (o : zO) (h' : zH), zRn l M d pc ls st h o h' ∧ Q o h'
theorem zk_cons {h : zH} {st : List zV} {v : zV} (a : ∀ v ∈ st, zalV h v) (b : zalV h v) : ∀ w ∈ v :: st, zalV h w := fun w hw => (List.mem_cons.mp hw).elim (fun e => e ▸ b) (a w)
theorem zk_tl {h : zH} {st : List zV} {v : zV} (a : ∀ w ∈ v :: st, zalV h w) : ∀ w ∈ st, zalV h w := fun w hw => a w (List.mem_cons_of_mem _ hw)
theorem zk_tl2 {h : zH} {st : List zV} {v v2 : zV} (a : ∀ w ∈ v :: v2 :: st, zalV h w) : ∀ w ∈ st, zalV h w := zk_tl (zk_tl a)
theorem zal_i (h : zH) (x : Int32) : zalV h (Vi x) := trivial
theorem zal_j (h : zH) (x : Int64) : zalV h (Vj x) := trivial
theorem zal_n (h : zH) : zalV h (Vq none) := trivial
section zROWS
variable {l : Launch} {M : zM} {d pc nx : Nat} {ls : List (Option zV)} {st : List zV} {h h' : zH} {o : zO} {Q : zO → zH → Prop}
theorem wst {pc2 : Nat} {ls2 : List (Option zV)} {st2 : List zV} {h2 : zH} (row : ∀ o h', zRn l M d pc2 ls2 st2 h2 o h' → zRn l M d pc ls st h o h') (k : Wp l M d pc2 ls2 st2 h2 Q) : Wp l M d pc ls st h Q := by
  obtain ⟨o, h', a, b⟩ := k
  exact ⟨o, h', row o h' a, b⟩
theorem R_iconst {n : Int} {v : Int32} (hd : zAt M pc (.iconst n) 1 nx) (hv : Int32.ofInt n = v) (k : zRn l M d nx ls (Vi v :: st) h o h') : zRn l M d pc ls (st) h o h' := by
  obtain ⟨hd, rfl⟩ := hd
  exact zRn.pure k (fun a b => ⟨zk_cons a (zal_i h v), b⟩) (fun E p e R s m args below meth c H locs cells slots ad la Q cx hp hs hl hc hd' kk => lv_iconst (v := v) cx.1 cx.2.1 hd hv (kk la hl))
theorem w_iconst {n : Int} {v : Int32} (hd : zAt M pc (.iconst n) 1 nx) (hv : Int32.ofInt n = v) (k : Wp l M d nx ls (Vi v :: st) h Q) : Wp l M d pc ls (st) h Q := wst (fun o h' a => R_iconst hd hv a) k
theorem R_bipush {n : Int} {v : Int32} (hd : zAt M pc (.bipush n) 2 nx) (hv : (Int8.ofInt n).toInt32 = v) (k : zRn l M d nx ls (Vi v :: st) h o h') : zRn l M d pc ls (st) h o h' := by
  obtain ⟨hd, rfl⟩ := hd
  exact zRn.pure k (fun a b => ⟨zk_cons a (zal_i h v), b⟩) (fun E p e R s m args below meth c H locs cells slots ad la Q cx hp hs hl hc hd' kk => lv_bipush (v := v) cx.1 cx.2.1 hd hv (kk la hl))
theorem w_bipush {n : Int} {v : Int32} (hd : zAt M pc (.bipush n) 2 nx) (hv : (Int8.ofInt n).toInt32 = v) (k : Wp l M d nx ls (Vi v :: st) h Q) : Wp l M d pc ls (st) h Q := wst (fun o h' a => R_bipush hd hv a) k
theorem R_sipush {n : Int} {v : Int32} (hd : zAt M pc (.sipush n) 3 nx) (hv : (Int16.ofInt n).toInt32 = v) (k : zRn l M d nx ls (Vi v :: st) h o h') : zRn l M d pc ls (st) h o h' := by
  obtain ⟨hd, rfl⟩ := hd
  exact zRn.pure k (fun a b => ⟨zk_cons a (zal_i h v), b⟩) (fun E p e R s m args below meth c H locs cells slots ad la Q cx hp hs hl hc hd' kk => lv_sipush (v := v) cx.1 cx.2.1 hd hv (kk la hl))
theorem w_sipush {n : Int} {v : Int32} (hd : zAt M pc (.sipush n) 3 nx) (hv : (Int16.ofInt n).toInt32 = v) (k : Wp l M d nx ls (Vi v :: st) h Q) : Wp l M d pc ls (st) h Q := wst (fun o h' a => R_sipush hd hv a) k
theorem R_lconst {n : Fin 2} {v : Int64} (hd : zAt M pc (.lconst n) 1 nx) (hv : Int64.ofNat (n : Nat) = v) (k : zRn l M d nx ls (Vj v :: st) h o h') : zRn l M d pc ls (st) h o h' := by
  obtain ⟨hd, rfl⟩ := hd
  exact zRn.pure k (fun a b => ⟨zk_cons a (zal_j h v), b⟩) (fun E p e R s m args below meth c H locs cells slots ad la Q cx hp hs hl hc hd' kk => lv_lconst (v := v) cx.1 cx.2.1 hd hv (kk la hl))
theorem w_lconst {n : Fin 2} {v : Int64} (hd : zAt M pc (.lconst n) 1 nx) (hv : Int64.ofNat (n : Nat) = v) (k : Wp l M d nx ls (Vj v :: st) h Q) : Wp l M d pc ls (st) h Q := wst (fun o h' a => R_lconst hd hv a) k
theorem R_null  (hd : zAt M pc .aconst_null 1 nx)  (k : zRn l M d nx ls (Vq none :: st) h o h') : zRn l M d pc ls (st) h o h' := by
  obtain ⟨hd, rfl⟩ := hd
  exact zRn.pure k (fun a b => ⟨zk_cons a (zal_n h), b⟩) (fun E p e R s m args below meth c H locs cells slots ad la Q cx hp hs hl hc hd' kk => lv_null cx.1 cx.2.1 hd (kk la hl))
theorem w_null  (hd : zAt M pc .aconst_null 1 nx)  (k : Wp l M d nx ls (Vq none :: st) h Q) : Wp l M d pc ls (st) h Q := wst (fun o h' a => R_null hd  a) k
theorem R_ldc {index : Nat} {v : Int32} (hd : zAt M pc (.ldc index) 2 nx) (hw : Cond.constant (zMy M).cls index v ∈ zALL) (k : zRn l M d nx ls (Vi v :: st) h o h') : zRn l M d pc ls (st) h o h' := by
  obtain ⟨hd, rfl⟩ := hd
  exact zRn.pure k (fun a b => ⟨zk_cons a (zal_i h v), b⟩) (fun E p e R s m args below meth c H locs cells slots ad la Q cx hp hs hl hc hd' kk => lv_ldc cx.1 cx.2.1 cx.2.2.2.2.1 (cx.2.2.2.2.2.1 _ hw) hd (kk la hl))
theorem w_ldc {index : Nat} {v : Int32} (hd : zAt M pc (.ldc index) 2 nx) (hw : Cond.constant (zMy M).cls index v ∈ zALL) (k : Wp l M d nx ls (Vi v :: st) h Q) : Wp l M d pc ls (st) h Q := wst (fun o h' a => R_ldc hd hw a) k
theorem R_ldcw {index : Nat} {v : Int32} (hd : zAt M pc (.ldc_w index) 3 nx) (hw : Cond.constant (zMy M).cls index v ∈ zALL) (k : zRn l M d nx ls (Vi v :: st) h o h') : zRn l M d pc ls (st) h o h' := by
  obtain ⟨hd, rfl⟩ := hd
  exact zRn.pure k (fun a b => ⟨zk_cons a (zal_i h v), b⟩) (fun E p e R s m args below meth c H locs cells slots ad la Q cx hp hs hl hc hd' kk => lv_ldcw cx.1 cx.2.1 cx.2.2.2.2.1 (cx.2.2.2.2.2.1 _ hw) hd (kk la hl))
theorem w_ldcw {index : Nat} {v : Int32} (hd : zAt M pc (.ldc_w index) 3 nx) (hw : Cond.constant (zMy M).cls index v ∈ zALL) (k : Wp l M d nx ls (Vi v :: st) h Q) : Wp l M d pc ls (st) h Q := wst (fun o h' a => R_ldcw hd hw a) k
theorem R_ldc2 {index : Nat} {v : Int64} (hd : zAt M pc (.ldc2_w index) 3 nx) (hw : Cond.constantLong (zMy M).cls index v ∈ zALL) (k : zRn l M d nx ls (Vj v :: st) h o h') : zRn l M d pc ls (st) h o h' := by
  obtain ⟨hd, rfl⟩ := hd
  exact zRn.pure k (fun a b => ⟨zk_cons a (zal_j h v), b⟩) (fun E p e R s m args below meth c H locs cells slots ad la Q cx hp hs hl hc hd' kk => lv_ldc2 cx.1 cx.2.1 cx.2.2.2.2.1 (cx.2.2.2.2.2.1 _ hw) hd (kk la hl))
theorem w_ldc2 {index : Nat} {v : Int64} (hd : zAt M pc (.ldc2_w index) 3 nx) (hw : Cond.constantLong (zMy M).cls index v ∈ zALL) (k : Wp l M d nx ls (Vj v :: st) h Q) : Wp l M d pc ls (st) h Q := wst (fun o h' a => R_ldc2 hd hw a) k
theorem R_iload_n {k : Fin 4} {x : Int32} (hd : zAt M pc (.iload_n k) 1 nx) (hx : ls[(k : Nat)]? = some (some (Vi x))) (k : zRn l M d nx ls (Vi x :: st) h o h') : zRn l M d pc ls (st) h o h' := by
  obtain ⟨hd, rfl⟩ := hd
  exact zRn.pure k (fun a b => ⟨zk_cons a (zal_i h x), b⟩) (fun E p e R s m args below meth c H locs cells slots ad la Q cx hp hs hl hc hd' kk => lv_iload_n cx.1 cx.2.1 hd rfl (hl.2.2 _ _ hx) (kk la hl))
theorem w_iload_n {k : Fin 4} {x : Int32} (hd : zAt M pc (.iload_n k) 1 nx) (hx : ls[(k : Nat)]? = some (some (Vi x))) (k : Wp l M d nx ls (Vi x :: st) h Q) : Wp l M d pc ls (st) h Q := wst (fun o h' a => R_iload_n hd hx a) k
theorem R_iload {i : Nat} {x : Int32} (hd : zAt M pc (.iload i) 2 nx) (hx : ls[i]? = some (some (Vi x))) (k : zRn l M d nx ls (Vi x :: st) h o h') : zRn l M d pc ls (st) h o h' := by
  obtain ⟨hd, rfl⟩ := hd
  exact zRn.pure k (fun a b => ⟨zk_cons a (zal_i h x), b⟩) (fun E p e R s m args below meth c H locs cells slots ad la Q cx hp hs hl hc hd' kk => lv_iload cx.1 cx.2.1 hd (hl.2.2 _ _ hx) (kk la hl))
theorem w_iload {i : Nat} {x : Int32} (hd : zAt M pc (.iload i) 2 nx) (hx : ls[i]? = some (some (Vi x))) (k : Wp l M d nx ls (Vi x :: st) h Q) : Wp l M d pc ls (st) h Q := wst (fun o h' a => R_iload hd hx a) k
theorem R_lload_n {k : Fin 4} {x : Int64} (hd : zAt M pc (.lload_n k) 1 nx) (hx : ls[(k : Nat)]? = some (some (Vj x))) (k : zRn l M d nx ls (Vj x :: st) h o h') : zRn l M d pc ls (st) h o h' := by
  obtain ⟨hd, rfl⟩ := hd
  exact zRn.pure k (fun a b => ⟨zk_cons a (zal_j h x), b⟩) (fun E p e R s m args below meth c H locs cells slots ad la Q cx hp hs hl hc hd' kk => lv_lload_n cx.1 cx.2.1 hd rfl (hl.2.2 _ _ hx) (kk la hl))
theorem w_lload_n {k : Fin 4} {x : Int64} (hd : zAt M pc (.lload_n k) 1 nx) (hx : ls[(k : Nat)]? = some (some (Vj x))) (k : Wp l M d nx ls (Vj x :: st) h Q) : Wp l M d pc ls (st) h Q := wst (fun o h' a => R_lload_n hd hx a) k
theorem R_lload {i : Nat} {x : Int64} (hd : zAt M pc (.lload i) 2 nx) (hx : ls[i]? = some (some (Vj x))) (k : zRn l M d nx ls (Vj x :: st) h o h') : zRn l M d pc ls (st) h o h' := by
  obtain ⟨hd, rfl⟩ := hd
  exact zRn.pure k (fun a b => ⟨zk_cons a (zal_j h x), b⟩) (fun E p e R s m args below meth c H locs cells slots ad la Q cx hp hs hl hc hd' kk => lv_lload cx.1 cx.2.1 hd (hl.2.2 _ _ hx) (kk la hl))
theorem w_lload {i : Nat} {x : Int64} (hd : zAt M pc (.lload i) 2 nx) (hx : ls[i]? = some (some (Vj x))) (k : Wp l M d nx ls (Vj x :: st) h Q) : Wp l M d pc ls (st) h Q := wst (fun o h' a => R_lload hd hx a) k
theorem R_aload_n {k : Fin 4} {q : Option zRf} (hd : zAt M pc (.aload_n k) 1 nx) (hx : ls[(k : Nat)]? = some (some (Vq q))) (k : zRn l M d nx ls (Vq q :: st) h o h') : zRn l M d pc ls (st) h o h' := by
  obtain ⟨hd, rfl⟩ := hd
  exact zRn.pure k (fun a b => ⟨zk_cons a (b _ (List.mem_of_getElem? hx)), b⟩) (fun E p e R s m args below meth c H locs cells slots ad la Q cx hp hs hl hc hd' kk => by
    have hv := hl.2.2 _ _ hx
    cases q with
    | none => exact lv_aload_nN cx.1 cx.2.1 hd rfl hv (kk la hl)
    | some r => exact lv_aload_n cx.1 cx.2.1 hd rfl hv (kk la hl))
theorem w_aload_n {k : Fin 4} {q : Option zRf} (hd : zAt M pc (.aload_n k) 1 nx) (hx : ls[(k : Nat)]? = some (some (Vq q))) (k : Wp l M d nx ls (Vq q :: st) h Q) : Wp l M d pc ls (st) h Q := wst (fun o h' a => R_aload_n hd hx a) k
theorem R_aload {i : Nat} {q : Option zRf} (hd : zAt M pc (.aload i) 2 nx) (hx : ls[i]? = some (some (Vq q))) (k : zRn l M d nx ls (Vq q :: st) h o h') : zRn l M d pc ls (st) h o h' := by
  obtain ⟨hd, rfl⟩ := hd
  exact zRn.pure k (fun a b => ⟨zk_cons a (b _ (List.mem_of_getElem? hx)), b⟩) (fun E p e R s m args below meth c H locs cells slots ad la Q cx hp hs hl hc hd' kk => by
    have hv := hl.2.2 _ _ hx
    cases q with
    | none => exact lv_aloadN cx.1 cx.2.1 hd hv (kk la hl)
    | some r => exact lv_aload cx.1 cx.2.1 hd hv (kk la hl))
theorem w_aload {i : Nat} {q : Option zRf} (hd : zAt M pc (.aload i) 2 nx) (hx : ls[i]? = some (some (Vq q))) (k : Wp l M d nx ls (Vq q :: st) h Q) : Wp l M d pc ls (st) h Q := wst (fun o h' a => R_aload hd hx a) k
theorem R_istore_n {k : Fin 4} {x : Int32} (hd : zAt M pc (.istore_n k) 1 nx) (hn : (k : Nat) < zMn M) (k : zRn l M d nx (zput ls (k : Nat) (Vi x)) (st) h o h') : zRn l M d pc ls (Vi x :: st) h o h' := by
  obtain ⟨hd, rfl⟩ := hd
  exact zRn.pure k (fun a b => ⟨zk_tl a, zput_al b (zal_i h x)⟩) (fun E p e R s m args below meth c H locs cells slots ad la Q cx hp hs hl hc hd' kk => lv_istore_n cx.1 cx.2.1 hd rfl hl.has hn rfl (fun la2 hl2 => kk la2 (zLo.put1 (v := Vi x) hl hl2)))
theorem w_istore_n {k : Fin 4} {x : Int32} (hd : zAt M pc (.istore_n k) 1 nx) (hn : (k : Nat) < zMn M) (k : Wp l M d nx (zput ls (k : Nat) (Vi x)) (st) h Q) : Wp l M d pc ls (Vi x :: st) h Q := wst (fun o h' a => R_istore_n hd hn a) k
theorem R_istore {i : Nat} {x : Int32} (hd : zAt M pc (.istore i) 2 nx) (hn : i < zMn M) (k : zRn l M d nx (zput ls i (Vi x)) (st) h o h') : zRn l M d pc ls (Vi x :: st) h o h' := by
  obtain ⟨hd, rfl⟩ := hd
  exact zRn.pure k (fun a b => ⟨zk_tl a, zput_al b (zal_i h x)⟩) (fun E p e R s m args below meth c H locs cells slots ad la Q cx hp hs hl hc hd' kk => lv_istore cx.1 cx.2.1 hd hl.has hn rfl (fun la2 hl2 => kk la2 (zLo.put1 (v := Vi x) hl hl2)))
theorem w_istore {i : Nat} {x : Int32} (hd : zAt M pc (.istore i) 2 nx) (hn : i < zMn M) (k : Wp l M d nx (zput ls i (Vi x)) (st) h Q) : Wp l M d pc ls (Vi x :: st) h Q := wst (fun o h' a => R_istore hd hn a) k
theorem R_lstore_n {k : Fin 4} {x : Int64} (hd : zAt M pc (.lstore_n k) 1 nx) (hn : (k : Nat) + 1 < zMn M) (k : zRn l M d nx (zput ls (k : Nat) (Vj x)) (st) h o h') : zRn l M d pc ls (Vj x :: st) h o h' := by
  obtain ⟨hd, rfl⟩ := hd
  exact zRn.pure k (fun a b => ⟨zk_tl a, zput_al b (zal_j h x)⟩) (fun E p e R s m args below meth c H locs cells slots ad la Q cx hp hs hl hc hd' kk => lv_lstore_n cx.1 cx.2.1 hd rfl hl.has hn rfl (fun la2 hl2 => kk la2 (zLo.put2 (v := Vj x) hl rfl hl2)))
theorem w_lstore_n {k : Fin 4} {x : Int64} (hd : zAt M pc (.lstore_n k) 1 nx) (hn : (k : Nat) + 1 < zMn M) (k : Wp l M d nx (zput ls (k : Nat) (Vj x)) (st) h Q) : Wp l M d pc ls (Vj x :: st) h Q := wst (fun o h' a => R_lstore_n hd hn a) k
theorem R_lstore {i : Nat} {x : Int64} (hd : zAt M pc (.lstore i) 2 nx) (hn : i + 1 < zMn M) (k : zRn l M d nx (zput ls i (Vj x)) (st) h o h') : zRn l M d pc ls (Vj x :: st) h o h' := by
  obtain ⟨hd, rfl⟩ := hd
  exact zRn.pure k (fun a b => ⟨zk_tl a, zput_al b (zal_j h x)⟩) (fun E p e R s m args below meth c H locs cells slots ad la Q cx hp hs hl hc hd' kk => lv_lstore cx.1 cx.2.1 hd hl.has hn rfl (fun la2 hl2 => kk la2 (zLo.put2 (v := Vj x) hl rfl hl2)))
theorem w_lstore {i : Nat} {x : Int64} (hd : zAt M pc (.lstore i) 2 nx) (hn : i + 1 < zMn M) (k : Wp l M d nx (zput ls i (Vj x)) (st) h Q) : Wp l M d pc ls (Vj x :: st) h Q := wst (fun o h' a => R_lstore hd hn a) k
theorem R_astore_n {k : Fin 4} {q : Option zRf} (hd : zAt M pc (.astore_n k) 1 nx) (hn : (k : Nat) < zMn M) (k : zRn l M d nx (zput ls (k : Nat) (Vq q)) (st) h o h') : zRn l M d pc ls (Vq q :: st) h o h' := by
  obtain ⟨hd, rfl⟩ := hd
  exact zRn.pure k (fun a b => ⟨zk_tl a, zput_al b (a _ List.mem_cons_self)⟩) (fun E p e R s m args below meth c H locs cells slots ad la Q cx hp hs hl hc hd' kk => by
    cases q with
    | none => exact lv_astore_nN cx.1 cx.2.1 hd rfl hl.has hn rfl (fun la2 hl2 => kk la2 (zLo.put1 (v := Vq none) hl hl2))
    | some r => exact lv_astore_n cx.1 cx.2.1 hd rfl hl.has hn rfl (fun la2 hl2 => kk la2 (zLo.put1 (v := Vq (some r)) hl hl2)))
theorem w_astore_n {k : Fin 4} {q : Option zRf} (hd : zAt M pc (.astore_n k) 1 nx) (hn : (k : Nat) < zMn M) (k : Wp l M d nx (zput ls (k : Nat) (Vq q)) (st) h Q) : Wp l M d pc ls (Vq q :: st) h Q := wst (fun o h' a => R_astore_n hd hn a) k
theorem R_astore {i : Nat} {q : Option zRf} (hd : zAt M pc (.astore i) 2 nx) (hn : i < zMn M) (k : zRn l M d nx (zput ls i (Vq q)) (st) h o h') : zRn l M d pc ls (Vq q :: st) h o h' := by
  obtain ⟨hd, rfl⟩ := hd
  exact zRn.pure k (fun a b => ⟨zk_tl a, zput_al b (a _ List.mem_cons_self)⟩) (fun E p e R s m args below meth c H locs cells slots ad la Q cx hp hs hl hc hd' kk => by
    cases q with
    | none => exact lv_astoreN cx.1 cx.2.1 hd hl.has hn rfl (fun la2 hl2 => kk la2 (zLo.put1 (v := Vq none) hl hl2))
    | some r => exact lv_astore cx.1 cx.2.1 hd hl.has hn rfl (fun la2 hl2 => kk la2 (zLo.put1 (v := Vq (some r)) hl hl2)))
theorem w_astore {i : Nat} {q : Option zRf} (hd : zAt M pc (.astore i) 2 nx) (hn : i < zMn M) (k : Wp l M d nx (zput ls i (Vq q)) (st) h Q) : Wp l M d pc ls (Vq q :: st) h Q := wst (fun o h' a => R_astore hd hn a) k
theorem R_iinc {i : Nat} {n : Int} {x v : Int32} (hd : zAt M pc (.iinc i n) 3 nx) (hx : ls[i]? = some (some (Vi x))) (hv : x + Int32.ofInt n = v) (k : zRn l M d nx (zput ls i (Vi v)) (st) h o h') : zRn l M d pc ls (st) h o h' := by
  obtain ⟨hd, rfl⟩ := hd
  exact zRn.pure k (fun a b => ⟨a, zput_al b (zal_i h v)⟩) (fun E p e R s m args below meth c H locs cells slots ad la Q cx hp hs hl hc hd' kk => by
    have hi := hl.lt hx
    obtain ⟨k, hk⟩ := List.getElem?_of_mem (zlv_mem (ad := ad) hi hx)
    exact lv_iinc cx.1 cx.2.1 hd hl.has hk hv hi rfl (fun la2 hl2 => kk la2 (zLo.put1 (v := Vi v) hl hl2)))
theorem w_iinc {i : Nat} {n : Int} {x v : Int32} (hd : zAt M pc (.iinc i n) 3 nx) (hx : ls[i]? = some (some (Vi x))) (hv : x + Int32.ofInt n = v) (k : Wp l M d nx (zput ls i (Vi v)) (st) h Q) : Wp l M d pc ls (st) h Q := wst (fun o h' a => R_iinc hd hx hv a) k
theorem R_iadd {x y : Int32} (hd : zAt M pc .iadd 1 nx)  (k : zRn l M d nx ls (Vi (x + y) :: st) h o h') : zRn l M d pc ls (Vi y :: Vi x :: st) h o h' := by
  obtain ⟨hd, rfl⟩ := hd
  exact zRn.pure k (fun a b => ⟨zk_cons (zk_tl2 a) (zal_i h _), b⟩) (fun E p e R s m args below meth c H locs cells slots ad la Q cx hp hs hl hc hd' kk => lv_iadd cx.1 cx.2.1 hd (kk la hl))
theorem w_iadd {x y : Int32} (hd : zAt M pc .iadd 1 nx)  (k : Wp l M d nx ls (Vi (x + y) :: st) h Q) : Wp l M d pc ls (Vi y :: Vi x :: st) h Q := wst (fun o h' a => R_iadd hd  a) k
theorem R_isub {x y : Int32} (hd : zAt M pc .isub 1 nx)  (k : zRn l M d nx ls (Vi (x - y) :: st) h o h') : zRn l M d pc ls (Vi y :: Vi x :: st) h o h' := by
  obtain ⟨hd, rfl⟩ := hd
  exact zRn.pure k (fun a b => ⟨zk_cons (zk_tl2 a) (zal_i h _), b⟩) (fun E p e R s m args below meth c H locs cells slots ad la Q cx hp hs hl hc hd' kk => lv_isub cx.1 cx.2.1 hd (kk la hl))
theorem w_isub {x y : Int32} (hd : zAt M pc .isub 1 nx)  (k : Wp l M d nx ls (Vi (x - y) :: st) h Q) : Wp l M d pc ls (Vi y :: Vi x :: st) h Q := wst (fun o h' a => R_isub hd  a) k
theorem R_imul {x y : Int32} (hd : zAt M pc .imul 1 nx)  (k : zRn l M d nx ls (Vi (x * y) :: st) h o h') : zRn l M d pc ls (Vi y :: Vi x :: st) h o h' := by
  obtain ⟨hd, rfl⟩ := hd
  exact zRn.pure k (fun a b => ⟨zk_cons (zk_tl2 a) (zal_i h _), b⟩) (fun E p e R s m args below meth c H locs cells slots ad la Q cx hp hs hl hc hd' kk => lv_imul cx.1 cx.2.1 hd (kk la hl))
theorem w_imul {x y : Int32} (hd : zAt M pc .imul 1 nx)  (k : Wp l M d nx ls (Vi (x * y) :: st) h Q) : Wp l M d pc ls (Vi y :: Vi x :: st) h Q := wst (fun o h' a => R_imul hd  a) k
theorem R_iand {x y : Int32} (hd : zAt M pc .iand 1 nx)  (k : zRn l M d nx ls (Vi (x &&& y) :: st) h o h') : zRn l M d pc ls (Vi y :: Vi x :: st) h o h' := by
  obtain ⟨hd, rfl⟩ := hd
  exact zRn.pure k (fun a b => ⟨zk_cons (zk_tl2 a) (zal_i h _), b⟩) (fun E p e R s m args below meth c H locs cells slots ad la Q cx hp hs hl hc hd' kk => lv_iand cx.1 cx.2.1 hd (kk la hl))
theorem w_iand {x y : Int32} (hd : zAt M pc .iand 1 nx)  (k : Wp l M d nx ls (Vi (x &&& y) :: st) h Q) : Wp l M d pc ls (Vi y :: Vi x :: st) h Q := wst (fun o h' a => R_iand hd  a) k
theorem R_ior {x y : Int32} (hd : zAt M pc .ior 1 nx)  (k : zRn l M d nx ls (Vi (x ||| y) :: st) h o h') : zRn l M d pc ls (Vi y :: Vi x :: st) h o h' := by
  obtain ⟨hd, rfl⟩ := hd
  exact zRn.pure k (fun a b => ⟨zk_cons (zk_tl2 a) (zal_i h _), b⟩) (fun E p e R s m args below meth c H locs cells slots ad la Q cx hp hs hl hc hd' kk => lv_ior cx.1 cx.2.1 hd (kk la hl))
theorem w_ior {x y : Int32} (hd : zAt M pc .ior 1 nx)  (k : Wp l M d nx ls (Vi (x ||| y) :: st) h Q) : Wp l M d pc ls (Vi y :: Vi x :: st) h Q := wst (fun o h' a => R_ior hd  a) k
theorem R_ishl {x y : Int32} (hd : zAt M pc .ishl 1 nx)  (k : zRn l M d nx ls (Vi (x <<< (y &&& 31)) :: st) h o h') : zRn l M d pc ls (Vi y :: Vi x :: st) h o h' := by
  obtain ⟨hd, rfl⟩ := hd
  exact zRn.pure k (fun a b => ⟨zk_cons (zk_tl2 a) (zal_i h _), b⟩) (fun E p e R s m args below meth c H locs cells slots ad la Q cx hp hs hl hc hd' kk => lv_ishl cx.1 cx.2.1 hd (kk la hl))
theorem w_ishl {x y : Int32} (hd : zAt M pc .ishl 1 nx)  (k : Wp l M d nx ls (Vi (x <<< (y &&& 31)) :: st) h Q) : Wp l M d pc ls (Vi y :: Vi x :: st) h Q := wst (fun o h' a => R_ishl hd  a) k
theorem R_ishr {x y : Int32} (hd : zAt M pc .ishr 1 nx)  (k : zRn l M d nx ls (Vi (x >>> (y &&& 31)) :: st) h o h') : zRn l M d pc ls (Vi y :: Vi x :: st) h o h' := by
  obtain ⟨hd, rfl⟩ := hd
  exact zRn.pure k (fun a b => ⟨zk_cons (zk_tl2 a) (zal_i h _), b⟩) (fun E p e R s m args below meth c H locs cells slots ad la Q cx hp hs hl hc hd' kk => lv_ishr cx.1 cx.2.1 hd (kk la hl))
theorem w_ishr {x y : Int32} (hd : zAt M pc .ishr 1 nx)  (k : Wp l M d nx ls (Vi (x >>> (y &&& 31)) :: st) h Q) : Wp l M d pc ls (Vi y :: Vi x :: st) h Q := wst (fun o h' a => R_ishr hd  a) k
theorem R_idiv {x y : Int32} (hd : zAt M pc .idiv 1 nx) (hne : ¬ y = 0) (k : zRn l M d nx ls (Vi (x / y) :: st) h o h') : zRn l M d pc ls (Vi y :: Vi x :: st) h o h' := by
  obtain ⟨hd, rfl⟩ := hd
  exact zRn.pure k (fun a b => ⟨zk_cons (zk_tl2 a) (zal_i h _), b⟩) (fun E p e R s m args below meth c H locs cells slots ad la Q cx hp hs hl hc hd' kk => lv_idiv cx.1 cx.2.1 hd hne (kk la hl))
theorem w_idiv {x y : Int32} (hd : zAt M pc .idiv 1 nx) (hne : ¬ y = 0) (k : Wp l M d nx ls (Vi (x / y) :: st) h Q) : Wp l M d pc ls (Vi y :: Vi x :: st) h Q := wst (fun o h' a => R_idiv hd hne a) k
theorem R_irem {x y : Int32} (hd : zAt M pc .irem 1 nx) (hne : ¬ y = 0) (k : zRn l M d nx ls (Vi (x - x / y * y) :: st) h o h') : zRn l M d pc ls (Vi y :: Vi x :: st) h o h' := by
  obtain ⟨hd, rfl⟩ := hd
  exact zRn.pure k (fun a b => ⟨zk_cons (zk_tl2 a) (zal_i h _), b⟩) (fun E p e R s m args below meth c H locs cells slots ad la Q cx hp hs hl hc hd' kk => lv_irem cx.1 cx.2.1 hd hne (kk la hl))
theorem w_irem {x y : Int32} (hd : zAt M pc .irem 1 nx) (hne : ¬ y = 0) (k : Wp l M d nx ls (Vi (x - x / y * y) :: st) h Q) : Wp l M d pc ls (Vi y :: Vi x :: st) h Q := wst (fun o h' a => R_irem hd hne a) k
theorem R_ineg {x : Int32} (hd : zAt M pc .ineg 1 nx)  (k : zRn l M d nx ls (Vi (-x) :: st) h o h') : zRn l M d pc ls (Vi x :: st) h o h' := by
  obtain ⟨hd, rfl⟩ := hd
  exact zRn.pure k (fun a b => ⟨zk_cons (zk_tl a) (zal_i h _), b⟩) (fun E p e R s m args below meth c H locs cells slots ad la Q cx hp hs hl hc hd' kk => lv_ineg cx.1 cx.2.1 hd (kk la hl))
theorem w_ineg {x : Int32} (hd : zAt M pc .ineg 1 nx)  (k : Wp l M d nx ls (Vi (-x) :: st) h Q) : Wp l M d pc ls (Vi x :: st) h Q := wst (fun o h' a => R_ineg hd  a) k
theorem R_ladd {x y : Int64} (hd : zAt M pc .ladd 1 nx)  (k : zRn l M d nx ls (Vj (x + y) :: st) h o h') : zRn l M d pc ls (Vj y :: Vj x :: st) h o h' := by
  obtain ⟨hd, rfl⟩ := hd
  exact zRn.pure k (fun a b => ⟨zk_cons (zk_tl2 a) (zal_j h _), b⟩) (fun E p e R s m args below meth c H locs cells slots ad la Q cx hp hs hl hc hd' kk => lv_ladd cx.1 cx.2.1 hd (kk la hl))
theorem w_ladd {x y : Int64} (hd : zAt M pc .ladd 1 nx)  (k : Wp l M d nx ls (Vj (x + y) :: st) h Q) : Wp l M d pc ls (Vj y :: Vj x :: st) h Q := wst (fun o h' a => R_ladd hd  a) k
theorem R_lsub {x y : Int64} (hd : zAt M pc .lsub 1 nx)  (k : zRn l M d nx ls (Vj (x - y) :: st) h o h') : zRn l M d pc ls (Vj y :: Vj x :: st) h o h' := by
  obtain ⟨hd, rfl⟩ := hd
  exact zRn.pure k (fun a b => ⟨zk_cons (zk_tl2 a) (zal_j h _), b⟩) (fun E p e R s m args below meth c H locs cells slots ad la Q cx hp hs hl hc hd' kk => lv_lsub cx.1 cx.2.1 hd (kk la hl))
theorem w_lsub {x y : Int64} (hd : zAt M pc .lsub 1 nx)  (k : Wp l M d nx ls (Vj (x - y) :: st) h Q) : Wp l M d pc ls (Vj y :: Vj x :: st) h Q := wst (fun o h' a => R_lsub hd  a) k
theorem R_lmul {x y : Int64} (hd : zAt M pc .lmul 1 nx)  (k : zRn l M d nx ls (Vj (x * y) :: st) h o h') : zRn l M d pc ls (Vj y :: Vj x :: st) h o h' := by
  obtain ⟨hd, rfl⟩ := hd
  exact zRn.pure k (fun a b => ⟨zk_cons (zk_tl2 a) (zal_j h _), b⟩) (fun E p e R s m args below meth c H locs cells slots ad la Q cx hp hs hl hc hd' kk => lv_lmul cx.1 cx.2.1 hd (kk la hl))
theorem w_lmul {x y : Int64} (hd : zAt M pc .lmul 1 nx)  (k : Wp l M d nx ls (Vj (x * y) :: st) h Q) : Wp l M d pc ls (Vj y :: Vj x :: st) h Q := wst (fun o h' a => R_lmul hd  a) k
theorem R_ldiv {x y : Int64} (hd : zAt M pc .ldiv 1 nx) (hne : ¬ y = 0) (k : zRn l M d nx ls (Vj (x / y) :: st) h o h') : zRn l M d pc ls (Vj y :: Vj x :: st) h o h' := by
  obtain ⟨hd, rfl⟩ := hd
  exact zRn.pure k (fun a b => ⟨zk_cons (zk_tl2 a) (zal_j h _), b⟩) (fun E p e R s m args below meth c H locs cells slots ad la Q cx hp hs hl hc hd' kk => lv_ldiv cx.1 cx.2.1 hd hne (kk la hl))
theorem w_ldiv {x y : Int64} (hd : zAt M pc .ldiv 1 nx) (hne : ¬ y = 0) (k : Wp l M d nx ls (Vj (x / y) :: st) h Q) : Wp l M d pc ls (Vj y :: Vj x :: st) h Q := wst (fun o h' a => R_ldiv hd hne a) k
theorem R_lcmp {x y : Int64} (hd : zAt M pc .lcmp 1 nx)  (k : zRn l M d nx ls (Vi (lg_cmp x y) :: st) h o h') : zRn l M d pc ls (Vj y :: Vj x :: st) h o h' := by
  obtain ⟨hd, rfl⟩ := hd
  exact zRn.pure k (fun a b => ⟨zk_cons (zk_tl2 a) (zal_i h _), b⟩) (fun E p e R s m args below meth c H locs cells slots ad la Q cx hp hs hl hc hd' kk => W.lcmp cx.1 cx.2.1 hd (kk la hl))
theorem w_lcmp {x y : Int64} (hd : zAt M pc .lcmp 1 nx)  (k : Wp l M d nx ls (Vi (lg_cmp x y) :: st) h Q) : Wp l M d pc ls (Vj y :: Vj x :: st) h Q := wst (fun o h' a => R_lcmp hd  a) k
theorem R_i2l {x : Int32} (hd : zAt M pc .i2l 1 nx)  (k : zRn l M d nx ls (Vj x.toInt64 :: st) h o h') : zRn l M d pc ls (Vi x :: st) h o h' := by
  obtain ⟨hd, rfl⟩ := hd
  exact zRn.pure k (fun a b => ⟨zk_cons (zk_tl a) (zal_j h _), b⟩) (fun E p e R s m args below meth c H locs cells slots ad la Q cx hp hs hl hc hd' kk => lv_i2l cx.1 cx.2.1 hd rfl (kk la hl))
theorem w_i2l {x : Int32} (hd : zAt M pc .i2l 1 nx)  (k : Wp l M d nx ls (Vj x.toInt64 :: st) h Q) : Wp l M d pc ls (Vi x :: st) h Q := wst (fun o h' a => R_i2l hd  a) k
theorem R_l2i {x : Int64} (hd : zAt M pc .l2i 1 nx)  (k : zRn l M d nx ls (Vi x.toInt32 :: st) h o h') : zRn l M d pc ls (Vj x :: st) h o h' := by
  obtain ⟨hd, rfl⟩ := hd
  exact zRn.pure k (fun a b => ⟨zk_cons (zk_tl a) (zal_i h _), b⟩) (fun E p e R s m args below meth c H locs cells slots ad la Q cx hp hs hl hc hd' kk => lv_l2i cx.1 cx.2.1 hd rfl (kk la hl))
theorem w_l2i {x : Int64} (hd : zAt M pc .l2i 1 nx)  (k : Wp l M d nx ls (Vi x.toInt32 :: st) h Q) : Wp l M d pc ls (Vj x :: st) h Q := wst (fun o h' a => R_l2i hd  a) k
theorem R_i2b {x : Int32} (hd : zAt M pc .i2b 1 nx)  (k : zRn l M d nx ls (Vi x.toInt8.toInt32 :: st) h o h') : zRn l M d pc ls (Vi x :: st) h o h' := by
  obtain ⟨hd, rfl⟩ := hd
  exact zRn.pure k (fun a b => ⟨zk_cons (zk_tl a) (zal_i h _), b⟩) (fun E p e R s m args below meth c H locs cells slots ad la Q cx hp hs hl hc hd' kk => lv_i2b cx.1 cx.2.1 hd rfl (kk la hl))
theorem w_i2b {x : Int32} (hd : zAt M pc .i2b 1 nx)  (k : Wp l M d nx ls (Vi x.toInt8.toInt32 :: st) h Q) : Wp l M d pc ls (Vi x :: st) h Q := wst (fun o h' a => R_i2b hd  a) k
theorem R_i2c {x : Int32} (hd : zAt M pc .i2c 1 nx)  (k : zRn l M d nx ls (Vi (x.toUInt32 % 65536).toInt32 :: st) h o h') : zRn l M d pc ls (Vi x :: st) h o h' := by
  obtain ⟨hd, rfl⟩ := hd
  exact zRn.pure k (fun a b => ⟨zk_cons (zk_tl a) (zal_i h _), b⟩) (fun E p e R s m args below meth c H locs cells slots ad la Q cx hp hs hl hc hd' kk => lv_i2c cx.1 cx.2.1 hd rfl (kk la hl))
theorem w_i2c {x : Int32} (hd : zAt M pc .i2c 1 nx)  (k : Wp l M d nx ls (Vi (x.toUInt32 % 65536).toInt32 :: st) h Q) : Wp l M d pc ls (Vi x :: st) h Q := wst (fun o h' a => R_i2c hd  a) k
theorem R_dup {v : zV} (hd : zAt M pc .dup 1 nx) (hv : zcat v = 1) (k : zRn l M d nx ls (v :: v :: st) h o h') : zRn l M d pc ls (v :: st) h o h' := by
  obtain ⟨hd, rfl⟩ := hd
  exact zRn.pure k (fun a b => ⟨zk_cons a (a _ List.mem_cons_self), b⟩) (fun E p e R s m args below meth c H locs cells slots ad la Q cx hp hs hl hc hd' kk => lv_dup cx.1 cx.2.1 hd ((zcat_enc ad v).trans hv) (kk la hl))
theorem w_dup {v : zV} (hd : zAt M pc .dup 1 nx) (hv : zcat v = 1) (k : Wp l M d nx ls (v :: v :: st) h Q) : Wp l M d pc ls (v :: st) h Q := wst (fun o h' a => R_dup hd hv a) k
theorem R_pop {v : zV} (hd : zAt M pc .pop 1 nx) (hv : zcat v = 1) (k : zRn l M d nx ls (st) h o h') : zRn l M d pc ls (v :: st) h o h' := by
  obtain ⟨hd, rfl⟩ := hd
  exact zRn.pure k (fun a b => ⟨zk_tl a, b⟩) (fun E p e R s m args below meth c H locs cells slots ad la Q cx hp hs hl hc hd' kk => lv_pop cx.1 cx.2.1 hd ((zcat_enc ad v).trans hv) (kk la hl))
theorem w_pop {v : zV} (hd : zAt M pc .pop 1 nx) (hv : zcat v = 1) (k : Wp l M d nx ls (st) h Q) : Wp l M d pc ls (v :: st) h Q := wst (fun o h' a => R_pop hd hv a) k
theorem R_dup2 {v w : zV} (hd : zAt M pc .dup2 1 nx) (hv : zcat v = 1) (hw : zcat w = 1) (k : zRn l M d nx ls (v :: w :: v :: w :: st) h o h') : zRn l M d pc ls (v :: w :: st) h o h' := by
  obtain ⟨hd, rfl⟩ := hd
  exact zRn.pure k (fun a b => ⟨zk_cons (zk_cons a (a _ (List.mem_cons_of_mem _ List.mem_cons_self))) (a _ List.mem_cons_self), b⟩) (fun E p e R s m args below meth c H locs cells slots ad la Q cx hp hs hl hc hd' kk => lv_dup2_11 cx.1 cx.2.1 hd ((zcat_enc ad v).trans hv) ((zcat_enc ad w).trans hw) (kk la hl))
theorem w_dup2 {v w : zV} (hd : zAt M pc .dup2 1 nx) (hv : zcat v = 1) (hw : zcat w = 1) (k : Wp l M d nx ls (v :: w :: v :: w :: st) h Q) : Wp l M d pc ls (v :: w :: st) h Q := wst (fun o h' a => R_dup2 hd hv hw a) k
theorem R_goto {off : Int} {len tgt : Nat} (hd : zAt M pc (.goto off) 3 len) (ht : (pc : Int) + off = (tgt : Int)) (k : zRn l M d tgt ls st h o h') : zRn l M d pc ls st h o h' :=
  zRn.pure k (fun a b => ⟨a, b⟩) (fun E p e R s m args below meth c H locs cells slots ad la Q cx hp hs hl hc hd' kk => lv_goto cx.1 cx.2.1 hd.1 ht (kk la hl))
theorem w_goto {off : Int} {len : Nat} (tgt : Nat) (hd : zAt M pc (.goto off) 3 len) (ht : (pc : Int) + off = (tgt : Int)) (k : Wp l M d tgt ls st h Q) : Wp l M d pc ls st h Q := wst (fun o h' a => R_goto hd ht a) k
theorem w_if_eq {x : Int32} {off : Int} (tgt : Nat) (hd : zAt M pc (.ifCond .eq off) 3 nx) (ht : (pc : Int) + off = (tgt : Int)) (kt : x = 0 → Wp l M d tgt ls st h Q) (kf : ¬ (x = 0) → Wp l M d nx ls st h Q) : Wp l M d pc ls (Vi x :: st) h Q := by
  obtain ⟨hd, rfl⟩ := hd
  by_cases hc : x = 0
  · exact wst (fun o h' k => zRn.pure k (fun a b => ⟨zk_tl a, b⟩) (fun E p e R s m args below meth c H locs cells slots ad la Q cx hp hs hl hc' hd' kk => lv_if_eq cx.1 cx.2.1 hd ht (fun _ => kk la hl) (fun z => absurd hc z))) (kt hc)
  · exact wst (fun o h' k => zRn.pure k (fun a b => ⟨zk_tl a, b⟩) (fun E p e R s m args below meth c H locs cells slots ad la Q cx hp hs hl hc' hd' kk => lv_if_eq cx.1 cx.2.1 hd ht (fun z => absurd z hc) (fun _ => kk la hl))) (kf hc)
theorem w_icmp_eq {x y : Int32} {off : Int} (tgt : Nat) (hd : zAt M pc (.if_icmp .eq off) 3 nx) (ht : (pc : Int) + off = (tgt : Int)) (kt : x = y → Wp l M d tgt ls st h Q) (kf : ¬ (x = y) → Wp l M d nx ls st h Q) : Wp l M d pc ls (Vi y :: Vi x :: st) h Q := by
  obtain ⟨hd, rfl⟩ := hd
  by_cases hc : x = y
  · exact wst (fun o h' k => zRn.pure k (fun a b => ⟨zk_tl2 a, b⟩) (fun E p e R s m args below meth c H locs cells slots ad la Q cx hp hs hl hc' hd' kk => lv_icmp_eq cx.1 cx.2.1 hd ht (fun _ => kk la hl) (fun z => absurd hc z))) (kt hc)
  · exact wst (fun o h' k => zRn.pure k (fun a b => ⟨zk_tl2 a, b⟩) (fun E p e R s m args below meth c H locs cells slots ad la Q cx hp hs hl hc' hd' kk => lv_icmp_eq cx.1 cx.2.1 hd ht (fun z => absurd z hc) (fun _ => kk la hl))) (kf hc)
theorem w_if_lt {x : Int32} {off : Int} (tgt : Nat) (hd : zAt M pc (.ifCond .lt off) 3 nx) (ht : (pc : Int) + off = (tgt : Int)) (kt : x < 0 → Wp l M d tgt ls st h Q) (kf : ¬ (x < 0) → Wp l M d nx ls st h Q) : Wp l M d pc ls (Vi x :: st) h Q := by
  obtain ⟨hd, rfl⟩ := hd
  by_cases hc : x < 0
  · exact wst (fun o h' k => zRn.pure k (fun a b => ⟨zk_tl a, b⟩) (fun E p e R s m args below meth c H locs cells slots ad la Q cx hp hs hl hc' hd' kk => lv_if_lt cx.1 cx.2.1 hd ht (fun _ => kk la hl) (fun z => absurd hc z))) (kt hc)
  · exact wst (fun o h' k => zRn.pure k (fun a b => ⟨zk_tl a, b⟩) (fun E p e R s m args below meth c H locs cells slots ad la Q cx hp hs hl hc' hd' kk => lv_if_lt cx.1 cx.2.1 hd ht (fun z => absurd z hc) (fun _ => kk la hl))) (kf hc)
theorem w_icmp_lt {x y : Int32} {off : Int} (tgt : Nat) (hd : zAt M pc (.if_icmp .lt off) 3 nx) (ht : (pc : Int) + off = (tgt : Int)) (kt : x < y → Wp l M d tgt ls st h Q) (kf : ¬ (x < y) → Wp l M d nx ls st h Q) : Wp l M d pc ls (Vi y :: Vi x :: st) h Q := by
  obtain ⟨hd, rfl⟩ := hd
  by_cases hc : x < y
  · exact wst (fun o h' k => zRn.pure k (fun a b => ⟨zk_tl2 a, b⟩) (fun E p e R s m args below meth c H locs cells slots ad la Q cx hp hs hl hc' hd' kk => lv_icmp_lt cx.1 cx.2.1 hd ht (fun _ => kk la hl) (fun z => absurd hc z))) (kt hc)
  · exact wst (fun o h' k => zRn.pure k (fun a b => ⟨zk_tl2 a, b⟩) (fun E p e R s m args below meth c H locs cells slots ad la Q cx hp hs hl hc' hd' kk => lv_icmp_lt cx.1 cx.2.1 hd ht (fun z => absurd z hc) (fun _ => kk la hl))) (kf hc)
theorem w_if_ge {x : Int32} {off : Int} (tgt : Nat) (hd : zAt M pc (.ifCond .ge off) 3 nx) (ht : (pc : Int) + off = (tgt : Int)) (kt : 0 ≤ x → Wp l M d tgt ls st h Q) (kf : ¬ (0 ≤ x) → Wp l M d nx ls st h Q) : Wp l M d pc ls (Vi x :: st) h Q := by
  obtain ⟨hd, rfl⟩ := hd
  by_cases hc : 0 ≤ x
  · exact wst (fun o h' k => zRn.pure k (fun a b => ⟨zk_tl a, b⟩) (fun E p e R s m args below meth c H locs cells slots ad la Q cx hp hs hl hc' hd' kk => lv_if_ge cx.1 cx.2.1 hd ht (fun _ => kk la hl) (fun z => absurd hc z))) (kt hc)
  · exact wst (fun o h' k => zRn.pure k (fun a b => ⟨zk_tl a, b⟩) (fun E p e R s m args below meth c H locs cells slots ad la Q cx hp hs hl hc' hd' kk => lv_if_ge cx.1 cx.2.1 hd ht (fun z => absurd z hc) (fun _ => kk la hl))) (kf hc)
theorem w_icmp_ge {x y : Int32} {off : Int} (tgt : Nat) (hd : zAt M pc (.if_icmp .ge off) 3 nx) (ht : (pc : Int) + off = (tgt : Int)) (kt : y ≤ x → Wp l M d tgt ls st h Q) (kf : ¬ (y ≤ x) → Wp l M d nx ls st h Q) : Wp l M d pc ls (Vi y :: Vi x :: st) h Q := by
  obtain ⟨hd, rfl⟩ := hd
  by_cases hc : y ≤ x
  · exact wst (fun o h' k => zRn.pure k (fun a b => ⟨zk_tl2 a, b⟩) (fun E p e R s m args below meth c H locs cells slots ad la Q cx hp hs hl hc' hd' kk => lv_icmp_ge cx.1 cx.2.1 hd ht (fun _ => kk la hl) (fun z => absurd hc z))) (kt hc)
  · exact wst (fun o h' k => zRn.pure k (fun a b => ⟨zk_tl2 a, b⟩) (fun E p e R s m args below meth c H locs cells slots ad la Q cx hp hs hl hc' hd' kk => lv_icmp_ge cx.1 cx.2.1 hd ht (fun z => absurd z hc) (fun _ => kk la hl))) (kf hc)
theorem w_if_gt {x : Int32} {off : Int} (tgt : Nat) (hd : zAt M pc (.ifCond .gt off) 3 nx) (ht : (pc : Int) + off = (tgt : Int)) (kt : 0 < x → Wp l M d tgt ls st h Q) (kf : ¬ (0 < x) → Wp l M d nx ls st h Q) : Wp l M d pc ls (Vi x :: st) h Q := by
  obtain ⟨hd, rfl⟩ := hd
  by_cases hc : 0 < x
  · exact wst (fun o h' k => zRn.pure k (fun a b => ⟨zk_tl a, b⟩) (fun E p e R s m args below meth c H locs cells slots ad la Q cx hp hs hl hc' hd' kk => lv_if_gt cx.1 cx.2.1 hd ht (fun _ => kk la hl) (fun z => absurd hc z))) (kt hc)
  · exact wst (fun o h' k => zRn.pure k (fun a b => ⟨zk_tl a, b⟩) (fun E p e R s m args below meth c H locs cells slots ad la Q cx hp hs hl hc' hd' kk => lv_if_gt cx.1 cx.2.1 hd ht (fun z => absurd z hc) (fun _ => kk la hl))) (kf hc)
theorem w_icmp_gt {x y : Int32} {off : Int} (tgt : Nat) (hd : zAt M pc (.if_icmp .gt off) 3 nx) (ht : (pc : Int) + off = (tgt : Int)) (kt : y < x → Wp l M d tgt ls st h Q) (kf : ¬ (y < x) → Wp l M d nx ls st h Q) : Wp l M d pc ls (Vi y :: Vi x :: st) h Q := by
  obtain ⟨hd, rfl⟩ := hd
  by_cases hc : y < x
  · exact wst (fun o h' k => zRn.pure k (fun a b => ⟨zk_tl2 a, b⟩) (fun E p e R s m args below meth c H locs cells slots ad la Q cx hp hs hl hc' hd' kk => lv_icmp_gt cx.1 cx.2.1 hd ht (fun _ => kk la hl) (fun z => absurd hc z))) (kt hc)
  · exact wst (fun o h' k => zRn.pure k (fun a b => ⟨zk_tl2 a, b⟩) (fun E p e R s m args below meth c H locs cells slots ad la Q cx hp hs hl hc' hd' kk => lv_icmp_gt cx.1 cx.2.1 hd ht (fun z => absurd z hc) (fun _ => kk la hl))) (kf hc)
theorem w_if_le {x : Int32} {off : Int} (tgt : Nat) (hd : zAt M pc (.ifCond .le off) 3 nx) (ht : (pc : Int) + off = (tgt : Int)) (kt : x ≤ 0 → Wp l M d tgt ls st h Q) (kf : ¬ (x ≤ 0) → Wp l M d nx ls st h Q) : Wp l M d pc ls (Vi x :: st) h Q := by
  obtain ⟨hd, rfl⟩ := hd
  by_cases hc : x ≤ 0
  · exact wst (fun o h' k => zRn.pure k (fun a b => ⟨zk_tl a, b⟩) (fun E p e R s m args below meth c H locs cells slots ad la Q cx hp hs hl hc' hd' kk => lv_if_le cx.1 cx.2.1 hd ht (fun _ => kk la hl) (fun z => absurd hc z))) (kt hc)
  · exact wst (fun o h' k => zRn.pure k (fun a b => ⟨zk_tl a, b⟩) (fun E p e R s m args below meth c H locs cells slots ad la Q cx hp hs hl hc' hd' kk => lv_if_le cx.1 cx.2.1 hd ht (fun z => absurd z hc) (fun _ => kk la hl))) (kf hc)
theorem w_icmp_le {x y : Int32} {off : Int} (tgt : Nat) (hd : zAt M pc (.if_icmp .le off) 3 nx) (ht : (pc : Int) + off = (tgt : Int)) (kt : x ≤ y → Wp l M d tgt ls st h Q) (kf : ¬ (x ≤ y) → Wp l M d nx ls st h Q) : Wp l M d pc ls (Vi y :: Vi x :: st) h Q := by
  obtain ⟨hd, rfl⟩ := hd
  by_cases hc : x ≤ y
  · exact wst (fun o h' k => zRn.pure k (fun a b => ⟨zk_tl2 a, b⟩) (fun E p e R s m args below meth c H locs cells slots ad la Q cx hp hs hl hc' hd' kk => lv_icmp_le cx.1 cx.2.1 hd ht (fun _ => kk la hl) (fun z => absurd hc z))) (kt hc)
  · exact wst (fun o h' k => zRn.pure k (fun a b => ⟨zk_tl2 a, b⟩) (fun E p e R s m args below meth c H locs cells slots ad la Q cx hp hs hl hc' hd' kk => lv_icmp_le cx.1 cx.2.1 hd ht (fun z => absurd z hc) (fun _ => kk la hl))) (kf hc)
theorem w_if_ne {x : Int32} {off : Int} (tgt : Nat) (hd : zAt M pc (.ifCond .ne off) 3 nx) (ht : (pc : Int) + off = (tgt : Int)) (kt : ¬ x = 0 → Wp l M d tgt ls st h Q) (kf : x = 0 → Wp l M d nx ls st h Q) : Wp l M d pc ls (Vi x :: st) h Q := by
  obtain ⟨hd, rfl⟩ := hd
  by_cases hc : x = 0
  · exact wst (fun o h' k => zRn.pure k (fun a b => ⟨zk_tl a, b⟩) (fun E p e R s m args below meth c H locs cells slots ad la Q cx hp hs hl hc' hd' kk => lv_if_ne cx.1 cx.2.1 hd ht (fun z => absurd hc z) (fun _ => kk la hl))) (kf hc)
  · exact wst (fun o h' k => zRn.pure k (fun a b => ⟨zk_tl a, b⟩) (fun E p e R s m args below meth c H locs cells slots ad la Q cx hp hs hl hc' hd' kk => lv_if_ne cx.1 cx.2.1 hd ht (fun _ => kk la hl) (fun z => absurd z hc))) (kt hc)
theorem w_icmp_ne {x y : Int32} {off : Int} (tgt : Nat) (hd : zAt M pc (.if_icmp .ne off) 3 nx) (ht : (pc : Int) + off = (tgt : Int)) (kt : ¬ x = y → Wp l M d tgt ls st h Q) (kf : x = y → Wp l M d nx ls st h Q) : Wp l M d pc ls (Vi y :: Vi x :: st) h Q := by
  obtain ⟨hd, rfl⟩ := hd
  by_cases hc : x = y
  · exact wst (fun o h' k => zRn.pure k (fun a b => ⟨zk_tl2 a, b⟩) (fun E p e R s m args below meth c H locs cells slots ad la Q cx hp hs hl hc' hd' kk => lv_icmp_ne cx.1 cx.2.1 hd ht (fun z => absurd hc z) (fun _ => kk la hl))) (kf hc)
  · exact wst (fun o h' k => zRn.pure k (fun a b => ⟨zk_tl2 a, b⟩) (fun E p e R s m args below meth c H locs cells slots ad la Q cx hp hs hl hc' hd' kk => lv_icmp_ne cx.1 cx.2.1 hd ht (fun _ => kk la hl) (fun z => absurd z hc))) (kt hc)
theorem w_ifnull_t {off : Int} (tgt : Nat) (hd : zAt M pc (.ifnull off) 3 nx) (ht : (pc : Int) + off = (tgt : Int)) (k : Wp l M d tgt ls st h Q) : Wp l M d pc ls (Vq none :: st) h Q := by
  obtain ⟨hd, rfl⟩ := hd
  exact wst (fun o h' k => zRn.pure k (fun a b => ⟨zk_tl a, b⟩) (fun E p e R s m args below meth c H locs cells slots ad la Q cx hp hs hl hc' hd' kk => lv_ifnullN cx.1 cx.2.1 hd ht (kk la hl))) k
theorem w_ifnull_f {off : Int} {r : zRf} (hd : zAt M pc (.ifnull off) 3 nx) (k : Wp l M d nx ls st h Q) : Wp l M d pc ls (Vq (some r) :: st) h Q := by
  obtain ⟨hd, rfl⟩ := hd
  exact wst (fun o h' k => zRn.pure k (fun a b => ⟨zk_tl a, b⟩) (fun E p e R s m args below meth c H locs cells slots ad la Q cx hp hs hl hc' hd' kk => lv_ifnull cx.1 cx.2.1 hd (kk la hl))) k
theorem w_ifnonnull_f {off : Int} (hd : zAt M pc (.ifnonnull off) 3 nx) (k : Wp l M d nx ls st h Q) : Wp l M d pc ls (Vq none :: st) h Q := by
  obtain ⟨hd, rfl⟩ := hd
  exact wst (fun o h' k => zRn.pure k (fun a b => ⟨zk_tl a, b⟩) (fun E p e R s m args below meth c H locs cells slots ad la Q cx hp hs hl hc' hd' kk => lv_ifnonnullN cx.1 cx.2.1 hd (kk la hl))) k
theorem w_ifnonnull_t {off : Int} {r : zRf} (tgt : Nat) (hd : zAt M pc (.ifnonnull off) 3 nx) (ht : (pc : Int) + off = (tgt : Int)) (k : Wp l M d tgt ls st h Q) : Wp l M d pc ls (Vq (some r) :: st) h Q := by
  obtain ⟨hd, rfl⟩ := hd
  exact wst (fun o h' k => zRn.pure k (fun a b => ⟨zk_tl a, b⟩) (fun E p e R s m args below meth c H locs cells slots ad la Q cx hp hs hl hc' hd' kk => lv_ifnonnull cx.1 cx.2.1 hd ht (kk la hl))) k
theorem w_tableIn {dflt lo hi : Int} {offs : Array Int} {len : Nat} {x : Int32} {off : Int} (tgt : Nat) (hd : zAt M pc (.tableswitch dflt lo hi offs) len nx) (h1 : ¬ x.toInt < lo) (h2 : ¬ hi < x.toInt) (ho : offs[(x.toInt - lo).toNat]? = some off) (ht : (pc : Int) + off = (tgt : Int)) (k : Wp l M d tgt ls st h Q) : Wp l M d pc ls (Vi x :: st) h Q := by
  obtain ⟨hd, rfl⟩ := hd
  exact wst (fun o h' k => zRn.pure k (fun a b => ⟨zk_tl a, b⟩) (fun E p e R s m args below meth c H locs cells slots ad la Q cx hp hs hl hc' hd' kk => lv_tableIn cx.1 cx.2.1 hd h1 h2 ho ht (kk la hl))) k
theorem w_tableOut {dflt lo hi : Int} {offs : Array Int} {len : Nat} {x : Int32} (tgt : Nat) (hd : zAt M pc (.tableswitch dflt lo hi offs) len nx) (h1 : x.toInt < lo ∨ hi < x.toInt) (ht : (pc : Int) + dflt = (tgt : Int)) (k : Wp l M d tgt ls st h Q) : Wp l M d pc ls (Vi x :: st) h Q := by
  obtain ⟨hd, rfl⟩ := hd
  exact wst (fun o h' k => zRn.pure k (fun a b => ⟨zk_tl a, b⟩) (fun E p e R s m args below meth c H locs cells slots ad la Q cx hp hs hl hc' hd' kk => lv_tableOut cx.1 cx.2.1 hd h1 ht (kk la hl))) k
theorem w_lookup {dflt : Int} {ps : Array (Int × Int)} {len : Nat} {x : Int32} {off : Int} (tgt : Nat) (hd : zAt M pc (.lookupswitch dflt ps) len nx) (hp : (ps.toList.zip (ps.toList.drop 1)).all (fun (a, next) => a.1 < next.1) = true) (ho : Op.lookupswitch.offset ps.toList dflt x.toInt = off) (ht : (pc : Int) + off = (tgt : Int)) (k : Wp l M d tgt ls st h Q) : Wp l M d pc ls (Vi x :: st) h Q := by
  obtain ⟨hd, rfl⟩ := hd
  exact wst (fun o h' k => zRn.pure k (fun a b => ⟨zk_tl a, b⟩) (fun E p e R s m args below meth c H locs cells slots ad la Q cx hp' hs hl hc' hd' kk => lv_lookup cx.1 cx.2.1 hd hp ho ht (kk la hl))) k
theorem Wp.imp {Q' : zO → zH → Prop} (k : Wp l M d pc ls st h Q) (i : ∀ o h', Q o h' → Q' o h') : Wp l M d pc ls st h Q' := by
  obtain ⟨o, h', a, b⟩ := k
  exact ⟨o, h', a, i o h' b⟩
end zROWS
