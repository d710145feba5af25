-- the end: the claim out of the run (wip/gen/p999.py)
/-! THE CLAIM OUT OF ONE WALK OF THE LAW'S BODY. Your part is whole_start (and what it stands on); all else here is the same for every law, but numbers. -/
def R_law : String := "SaltFarmLaw"
def lw_P (b : Addr) (xs : List Int32) (args : Array Value) (s : State) : Prop := args = #[.ref b] ∧ s.IntsAt b xs ∧ xs.length ≤ 3072 ∧ (Jvm.Cond.and given_1 narrow_1).before args s = true
def lw_Q (_ : Array Value) (s : State) (o : Outcome) (t : State) : Prop := o = .returned (some (.int 1)) ∧ Framed s o t [] 601024 7293034
def lw_Z (below : List Frame) (a : Array Value) (s : State) : State → Prop := fun t => ∃ o, t.status = .running ∧ Ended t below o ∧ lw_Q a s o t
theorem same_nil {s t : State} {L : List Loc} {c n c' n' : Nat} (h : s.sameButNew t L c n) (hL : ∀ q ∈ L, s.heap.size ≤ q.base) (hc : c ≤ c') (hn : n ≤ n') : s.sameButNew t [] c' n' := by
  obtain ⟨h1, h2, h3, h4, h5, h6⟩ := h
  refine ⟨h1, h2, by omega, h4, by omega, fun a x ha => ?_⟩
  obtain ⟨x', g1, g2, g3, g4⟩ := h6 a x ha
  refine ⟨x', g1, g2, g3, fun i _ => g4 i (fun hm => ?_)⟩
  have h7 := hL _ hm
  have h8 := (Array.getElem?_eq_some_iff.mp ha).1
  have h9 : s.heap.size ≤ a := h7
  omega
theorem h00_hp {E : zEv} {s : State} (hsu : ∀ (j : Nat) (r : zRf), zSu E j = some r → 900 ≤ r.1) (hK : ∀ (k : Nat) (q : vw_C), zcl[k]? = some q → u_Kn s q.1 q.2.1 q.2.2 (E.1 k) (E.2.1 k)) : zHp E (zX E) s (h00 (zSx E) (zSL E) (zSu E)) s.heap := by
  refine ⟨fun r _ => rfl, ⟨rfl, rfl, rfl, hsu⟩, fun k _ => rfl, [], fun _ => 0, [], List.nodup_nil, fun r => ⟨fun h => (by cases h), fun h => absurd h (Nat.not_lt_zero _)⟩, ⟨hK, fun k q h => (by simp at h)⟩, fun k q h => (by simp [zws] at h), ⟨fun i j p q h => (by simp [zws] at h), fun k q h => (by simp [zws] at h)⟩, fun r h => (by cases h), fun r h => (by cases h)⟩
set_option maxHeartbeats 4000000 in
theorem lw_walk (l : Launch) (b : Addr) (xs : List Int32) : MetFree l x (headSpec (Jvm.Cond.code x code maxLocals ret :: tables_1) room_1) (lw_P b xs) (fun _ _ _ _ _ => True) lw_Q := by
  refine MetFree.of_bodyS (code := code) (maxLocals := maxLocals) (ret := ret) (by decide) ?_ ?_
  · intro args s m h hn
    obtain ⟨meth, c, h1, h2, h3, h4, h5, h6, -, -⟩ := Cond.code_spec hn (atoms_spec (ws := Jvm.Cond.code x code maxLocals ret :: tables_1) h _ List.mem_cons_self)
    exact ⟨meth, c, h1, h2, h3, h4, h5, h6⟩
  · intro p e s m args below meth c s₁ B hml0 hP _
    obtain ⟨rfl, hx, hbd, hgv⟩ := hP
    obtain ⟨scr, harrAt, hlist, hof, hsmall⟩ := hx
    obtain ⟨hcb, hkn, -, -⟩ := State.arrayAt?_spec harrAt
    have hts0 : ∀ c ∈ (Jvm.Cond.code x code maxLocals ret :: tables_1), c.before #[Value.ref b] s = true := atoms_spec (ws := Jvm.Cond.code x code maxLocals ret :: tables_1) B.pre
    have hts : ∀ w ∈ lw_tbl, w.before #[Value.ref b] s = true := k2_hts_sels lw_privs (fun w hw => hts0 w (List.mem_cons_of_mem _ hw)) lw_privs_ok
    have hml : c.maxLocals = 4 := B.maxLocals_eq (hts0 _ List.mem_cons_self)
    have X₀ : Stand p l e room_1 s m #[Value.ref b] below meth c s₁ [] 0 0 := Stand.of_body B
    have hh0 : s₁.heap = s.heap := by rw [B.state]; rfl
    have hsz : scr.slots.size = xs.length := by rw [← Array.length_toList, hlist, List.length_map]
    have hval : ∀ j : Nat, j < xs.length → scr.slots[j]? = some (.int (xs.getD j 0)) := fun j hj => by
      rw [← Array.getElem?_toList, hlist]
      simp [hj]
    have hbl : b < s.heap.size := (Array.getElem?_eq_some_iff.mp hcb).1
    have hX : va_X b xs.length (fun j => xs.getD j 0) s s.heap := ⟨scr, hcb, hof, hkn, hsz, hval⟩
    obtain ⟨m', meth', c', h1, h2, h3, h4, h5, h6, h7, h8, -⟩ := zMw_spec (M := mL_law) (args := #[Value.ref b]) (s := s) (hts0 _ List.mem_cons_self)
    cases B.named.symm.trans h1
    cases B.method.symm.trans h2
    cases X₀.code.symm.trans h3
    obtain ⟨E, eA, eL, ex, eb, hsu, hE, hK⟩ := lw_env hts hX hbl hgv
    have hp := h00_hp hsu hK
    have hA : ∀ q, s.heap.size ≤ q → zA E q := fun q hq => by rw [eA]; exact hq
    have cx : zCx l mL_law 41 E p e room_1 s m #[Value.ref b] below meth c := ⟨B.exec, B.bytes, B.returns, hml, findClass_of_methodNamed B.named, fun w hw => hts w (zALL_in w hw), B.notSynchronized, (name_of_methodNamed B.named B.method).1, h6, by decide, by decide, hA, hE⟩
    obtain ⟨h', hr, zc1, zs1⟩ := lw_runs l (zSx E) (zSL E) (zSu E) (by rw [eL]; exact hbd)
    have hl := lv_entry ([.ref b]) (n := 4) (Nat.le_of_ble_eq_true rfl)
    have hz : zLo (zX E) 4 [some (Vq (some (999, 0))), none, none, none] ((lg_sl ([.ref b]) ++ List.replicate (4 - (lg_sl ([.ref b])).length) Slot.unset).toArray) := by
      refine ⟨hl.1, hl.2.1, fun i v hi => ?_⟩
      match i, hi with
      | 0, hi =>
        cases hi
        show _ = some (Slot.val (va_rf (some (zX E (999, 0)))))
        rw [eb]
        rfl
      | 1, hi => cases hi
      | 2, hi => cases hi
      | 3, hi => cases hi
      | n + 4, hi => cases hi
    have w := hr.2 E p e room_1 s m #[Value.ref b] below meth c s.heap [] 0 0 (zX E) _ cx hp va_S.rf hz (fun v hv => by cases hv) (fun v hv => ?_) (by show 0 + (zc h' - 0) ≤ 601024; omega) (by show 0 + (zs h' - 0) ≤ 7293034; omega)
    · obtain ⟨t, a1, b1, ad', b2, b3, b4, b5, b6, b7, LL, b8, b9⟩ := w s₁ hh0 X₀
      refine ⟨t, _, ?_, b1, b3, rfl, ⟨_, rfl⟩, b7, same_nil b8 (fun q hq => by have := b9 q hq; rw [eA] at this; exact this) (by show 0 + (zc h' - 0) ≤ 601024; omega) (by show 0 + (zs h' - 0) ≤ 7293034; omega)⟩
      rw [lg_entry_eq]
      exact a1
    · have hv2 : v = Vq (some (999, 0)) := by
        simp at hv
        exact hv
      rw [hv2]
      exact Or.inr (Nat.le_of_ble_eq_true rfl)
theorem lw_pre_spec {args : Array Value} {s : State} (h : (Jvm.Cond.and given_1 narrow_1).before args s = true) (hr : rest_1_c.before args s = true) : ∃ (b : Addr) (xs : List Int32), lw_P b xs args s := by
  have hs := flat_of_before _ h
  have hq := flat_of_before _ hr
  have hc : (Cond.count 1).before args s = true := hs _ (by decide +kernel)
  have harr : (Cond.arrayOf (.arg 0) .int).before args s = true := hs _ (by decide +kernel)
  have hle : (Cond.le (.length (.arg 0)) (.int 3072)).before args s = true := hs _ (by decide +kernel)
  have hlen : (Cond.isInt (.length (.arg 0))).before args s = true := hq _ (by decide +kernel)
  have hall : (Cond.all (.arg 0) (.isInt (.elem (.arg 0) (.index 0)))).before args s = true := hq _ (by decide +kernel)
  obtain ⟨b, xs, hb, hx⟩ := State.ints_of_pre rfl harr hlen hall
  have hsm : xs.length < 2 ^ 31 := hx.choose_spec.2.2.2
  have hev : (Term.length (.arg 0)).eval args s none [] s = some (.int xs.length.toInt32) := hx.length_eval hb
  have hv := Cond.le_ints hev (show (Term.int 3072).eval args s none [] s = some (.int 3072) from rfl)
  have hd : xs.length.toInt32 ≤ 3072 := by
    simpa [Cond.before, Cond.holds, hv] using hle
  have hN : xs.length ≤ 3072 := (Int32.ofNat_le_ofNat hsm (by decide)).mp (show Int32.ofNat xs.length ≤ Int32.ofNat 3072 from hd)
  exact ⟨b, xs, Cond.one_arg hc (show args[0]? = some (.ref b) from hb), hx, hN, h⟩
theorem lw_comes (l : Launch) : Comes l x (Jvm.Cond.code x code maxLocals ret :: tables_1) room_1 (fun tb e args s => Calls_1 tb e args s ∧ rest_1 tb e args s ∧ Pre_1 tb e args s)
    (fun _ _ args s o t => lw_Q args s o t) := by
  intro p e ha hc hk s m args below hf hfit hheap happ hpre
  obtain ⟨b, xs, hP⟩ := lw_pre_spec hpre.2.2 hpre.2.1
  obtain ⟨k, o, h1, h2, h3, hQ⟩ := lw_walk l b xs p e ha hc hk s m args below hf ((Spec.applies_iff_loose hf).mp happ).1 hP trivial
  exact ⟨k, o, h1, h2, h3, hQ⟩
theorem lw_frame {s t : State} {o : Outcome} {args : Array Value} (h : Framed s o t [] 601024 7293034) :
    Framed s o t (fieldLocs frame_1_writes args s ++ arrayLocs frame_1_arrays args s ++ staticLocs frame_1_statics s) 601024 7293034 := h
theorem lw_limb (L : Cond) (hL : ∀ (args : Array Value) (s t : State), L.after args s (.returned (some (.int 1))) t = true) :
    ArmFor flags0 classFile x code maxLocals ret World_1 tables_1 room_1 Calls_1 rest_1 Pre_1
      (fun tb e a s o t => postC L tb e a s o t ∧ Framed s o t (fieldLocs frame_1_writes a s ++ arrayLocs frame_1_arrays a s ++ staticLocs frame_1_statics s) 601024 7293034) := by
  intro l _ _ _ p e ha hc hk s m args below hf hfit hheap happ hpre
  obtain ⟨k, o, h1, h2, h3, rfl, hF⟩ := lw_comes l p e ha hc hk s m args below hf hfit hheap happ hpre
  exact ⟨k, _, h1, h2, h3, hL args s _, lw_frame hF⟩
theorem i_vc : Claimed_1_1 ∧ Claimed_1_2 := ⟨lw_limb limb_1_1 (fun args s t => by simp [limb_1_1, Cond.after, Cond.holds, Cond.value]), lw_limb limb_1_2 (fun args s t => Cond.after_iff.mpr (by
  first | (rw [show limb_1_2 = Cond.eq .result (.int 1) from rfl, Cond.eq_ints (x := 1) (y := 1) rfl rfl]; simp; done) | (simp [limb_1_2, Cond.value, Term.eval]; done)))⟩
