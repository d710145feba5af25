-- NEW CELLS
def zokT (ty : FieldType) : Bool := match ty with
  | .float => false
  | .double => false
  | _ => true
theorem zdef {ad : zRf → Nat} {h : zH} {r : zRf} {ty : FieldType} {j : Nat} (ok : zokT ty = true) (e1 : zI h r.1 r.2 j = 0) (e2 : zL h r.1 r.2 j = 0) (e3 : zR h r.1 r.2 j = none) : defaultValue ty = zfv ad h r ty j := by
  cases ty <;> first | exact absurd ok (by decide) | (simp only [zfv, e1, e2, e3]; rfl)
theorem znew_I (h : zH) (k n w : Nat) {r : zRf} (e : r ≠ (k, zC h k)) : zI (znew h k n w) r.1 r.2 = zI h r.1 r.2 := by
  funext c
  exact if_neg (fun z => e (Prod.ext z.1 z.2))
theorem znew_L (h : zH) (k n w : Nat) {r : zRf} (e : r ≠ (k, zC h k)) : zL (znew h k n w) r.1 r.2 = zL h r.1 r.2 := by
  funext c
  exact if_neg (fun z => e (Prod.ext z.1 z.2))
theorem znew_R (h : zH) (k n w : Nat) {r : zRf} (e : r ≠ (k, zC h k)) : zR (znew h k n w) r.1 r.2 = zR h r.1 r.2 := by
  funext c
  exact if_neg (fun z => e (Prod.ext z.1 z.2))
theorem znew_N (h : zH) (k n w : Nat) {r : zRf} (e : r ≠ (k, zC h k)) : zN (znew h k n w) r.1 r.2 = zN h r.1 r.2 := if_neg (fun z => e (Prod.ext z.1 z.2))
theorem znew_I0 (h : zH) (k n w j : Nat) : zI (znew h k n w) k (zC h k) j = 0 := if_pos ⟨rfl, rfl⟩
theorem znew_L0 (h : zH) (k n w j : Nat) : zL (znew h k n w) k (zC h k) j = 0 := if_pos ⟨rfl, rfl⟩
theorem znew_R0 (h : zH) (k n w j : Nat) : zR (znew h k n w) k (zC h k) j = none := if_pos ⟨rfl, rfl⟩
theorem znew_N0 (h : zH) (k n w : Nat) : zN (znew h k n w) k (zC h k) = n := if_pos ⟨rfl, rfl⟩
theorem znew_C (h : zH) (k n w : Nat) : zC (znew h k n w) k = zC h k + 1 := if_pos rfl
theorem znew_Cn (h : zH) (k n w : Nat) {a : Nat} (e : a ≠ k) : zC (znew h k n w) a = zC h a := if_neg e
theorem znew_le (h : zH) (k n w : Nat) : zLe h (znew h k n w) := by
  refine ⟨fun a => ?_, Nat.le_succ _, Nat.le_add_right _ _⟩
  by_cases e : a = k
  · subst e; rw [znew_C]; exact Nat.le_succ _
  · rw [znew_Cn h k n w e]; exact Nat.le_refl _
theorem zHp.add {E : zEv} {ad : zRf → Nat} {U : State} {h : zH} {H H1 : Heap} {k n w q : Nat} {cA : ClassId} {ns : List zRf} {ca : zRf → ClassId} {tys tys2 : List (ClassId × FieldType)} {cell : va_E} (hp : zHp E ad U h H) (hh : zHold E ad U h H ns ca tys) (hk : k < 900)
    (hK : va_K (zD E) zcl tys2 U) (hsub : ∀ (t0 : Nat) (x : ClassId × FieldType), tys[t0]? = some x → tys2[t0]? = some x)
    (hcell : zcell ad (fun x => if x = (k, zC h k) then cA else ca x) (znew h k n w) (k, zC h k) = cell)
    (hP : va_P (zD E) zcl (zws ns ad ca h ++ [(q, cell)]) H1) (hD : va_D (zA E) (zws ns ad ca h ++ [(q, cell)])) (ht : 100 ≤ zshp k → ∃ t0 : Nat, tys2[t0]? = some (cA, zel (zshp k))) :
    zHp E (fun x => if x = (k, zC h k) then q else ad x) U (znew h k n w) H1 := by
  obtain ⟨g1, g2, g3, -⟩ := hp
  obtain ⟨k1, k2, k3, k4, k5, k6, k7⟩ := hh
  have hnin : (k, zC h k) ∉ ns := fun z => by have := (k2 (k, zC h k)).mp z; exact Nat.lt_irrefl _ this
  have hout : ∀ r : zRf, 900 ≤ r.1 → r ≠ (k, zC h k) := fun r hr z => by rw [z] at hr; exact absurd hk (Nat.not_lt.mpr hr)
  have hold : ∀ r : zRf, zal h r → r ≠ (k, zC h k) := fun r hr z => by
    rcases hr with q | q
    · rw [z] at q; exact Nat.lt_irrefl _ q
    · exact hout r q z
  have hws : zws (ns ++ [(k, zC h k)]) (fun x => if x = (k, zC h k) then q else ad x) (fun x => if x = (k, zC h k) then cA else ca x) (znew h k n w) = zws ns ad ca h ++ [(q, cell)] := by
    unfold zws
    rw [List.map_append]
    congr 1
    · refine List.map_congr_left (fun r hr => ?_)
      have hne : r ≠ (k, zC h k) := fun z => hnin (z ▸ hr)
      have e1 : (if r = (k, zC h k) then q else ad r) = ad r := if_neg hne
      have e2 : zcell (fun x => if x = (k, zC h k) then q else ad x) (fun x => if x = (k, zC h k) then cA else ca x) (znew h k n w) r = zcell ad ca h r :=
        zcell_same (if_neg hne) (znew_I h k n w hne) (znew_L h k n w hne) (fun j => by
          rw [znew_R h k n w hne]
          cases hz : zR h r.1 r.2 j with
          | none => rfl
          | some r' => exact congrArg some (if_neg (hold r' (k7 r hr j r' hz)))) (znew_N h k n w hne)
      exact Prod.ext e1 e2
    · have e2 : zcell (fun x => if x = (k, zC h k) then q else ad x) (fun x => if x = (k, zC h k) then cA else ca x) (znew h k n w) (k, zC h k) = cell := by
        rw [← hcell]
        exact zcell_same rfl rfl rfl (fun j => by rw [show zR (znew h k n w) (k, zC h k).1 (k, zC h k).2 j = none from znew_R0 h k n w j]; rfl) rfl
      show [((if (k, zC h k) = (k, zC h k) then q else ad (k, zC h k)), _)] = _
      rw [if_pos rfl, e2]
  refine ⟨fun r hr => ?_, ⟨?_, ?_, ?_, g2.2.2.2⟩, fun a ha => ?_, ns ++ [(k, zC h k)], fun x => if x = (k, zC h k) then cA else ca x, tys2, ?_, fun r => ?_, hK, by rw [hws]; exact hP, by rw [hws]; exact hD, fun r hr hs => ?_, fun r hr j r' hj => ?_⟩
  · exact (if_neg (hout r hr)).trans (g1 r hr)
  · rw [← g2.1]; exact znew_N h k n w (r := (999, 0)) (hout (999, 0) (by decide))
  · rw [← g2.2.1]; exact znew_I h k n w (r := (999, 0)) (hout (999, 0) (by decide))
  · rw [← g2.2.2.1]; exact znew_R h k n w (r := (998, 0)) (hout (998, 0) (by decide))
  · rw [znew_Cn h k n w (by omega)]; exact g3 a ha
  · rw [List.nodup_append]
    refine ⟨k1, by simp, fun a ha b hb z => ?_⟩
    rw [List.mem_singleton] at hb
    exact hnin (hb ▸ z ▸ ha)
  · rw [List.mem_append, List.mem_singleton, k2]
    by_cases e : r.1 = k
    · rw [e, znew_C]
      constructor
      · rintro (z | z)
        · omega
        · rw [z]; exact Nat.lt_succ_self _
      · intro z
        rcases Nat.lt_or_ge r.2 (zC h k) with y | y
        · exact Or.inl y
        · exact Or.inr (Prod.ext e (by show r.2 = zC h k; omega))
    · rw [znew_Cn h k n w e]
      constructor
      · rintro (z | z)
        · exact z
        · exact absurd (congrArg Prod.fst z) e
      · exact Or.inl
  · rcases List.mem_append.mp hr with hr | hr
    · obtain ⟨t0, h0⟩ := k6 r hr hs
      have hne : r ≠ (k, zC h k) := fun z => hnin (z ▸ hr)
      have e1 : (if r = (k, zC h k) then cA else ca r) = ca r := if_neg hne
      exact ⟨t0, by show tys2[t0]? = some ((if r = (k, zC h k) then cA else ca r), zel (zshp r.1)); rw [e1]; exact hsub t0 _ h0⟩
    · rw [List.mem_singleton] at hr
      subst hr
      obtain ⟨t0, h0⟩ := ht hs
      exact ⟨t0, by show tys2[t0]? = some ((if (k, zC h k) = (k, zC h k) then cA else ca (k, zC h k)), zel (zshp k)); rw [if_pos rfl]; exact h0⟩
  · rcases List.mem_append.mp hr with hr | hr
    · rw [znew_R h k n w (fun z => hnin (z ▸ hr))] at hj
      exact zal.le (znew_le h k n w) (k7 r hr j r' hj)
    · rw [List.mem_singleton] at hr
      subst hr
      rw [show zR (znew h k n w) (k, zC h k).1 (k, zC h k).2 j = none from znew_R0 h k n w j] at hj
      cases hj
section zROWS
variable {l : Launch} {M : zM} {d pc nx : Nat} {ls : List (Option zV)} {st : List zV} {h h' : zH} {o : zO} {Q : zO → zH → Prop}
theorem zdelta (h : zH) (k n w : Nat) : zc (znew h k n w) - zc h = 1 ∧ zs (znew h k n w) - zs h = w := by
  constructor
  · show zc h + 1 - zc h = 1; omega
  · show zs h + w - zs h = w; omega
theorem zHp.any {E : zEv} {ad : zRf → Nat} {U : State} {h : zH} {H : Heap} (hp : zHp E ad U h H) : ∃ (ns : List zRf) (ca : zRf → ClassId) (tys : List (ClassId × FieldType)), zHold E ad U h H ns ca tys := by
  obtain ⟨-, -, -, ns, ca, tys, x⟩ := hp
  exact ⟨ns, ca, tys, x⟩
/-- new: an object of class ci at site k -/
theorem w_new {index ci : Nat} {C : String} {T : u_T} {N : Nat} (k : Nat) (hd : zAt M pc (.new index) 3 nx) (hs : zshp k = ci) (hc : ci < 100) (hk : k < 900) (hcl : zcl[ci]? = some (C, T, N)) (h1 : Cond.classLink (zMy M).cls index C ∈ zALL) (h2 : Cond.instantiable C N ∈ zALL) (h3 : Cond.initialized C ∈ zALL) (hty : ∀ j, j < N → zokT (zty ci j) = true)
    (kk : Wp l M d nx ls (Vq (some (k, zC h k)) :: st) (znew h k 0 N) Q) : Wp l M d pc ls st h Q :=
  wst (fun o h' a => by
    obtain ⟨hd, rfl⟩ := hd
    refine zRn.step (znew_le h k 0 N) a ?_
    intro E p e R s m args below meth c H locs cells slots ad la Q cx hp hS hl ha hb hcc hdd kk
    rw [(zdelta h k 0 N).1] at hcc kk
    rw [(zdelta h k 0 N).2] at hdd kk
    obtain ⟨ns, ca, tys, hh⟩ := hp.any
    have hwf := cx.2.2.2.2.2.1
    have hcx := cx
    refine va_new (ci := ci) (fs := zfs ad (znew h k 0 N) (k, zC h k) ci) cx.1 cx.2.1 hwf (zcl_in hcl) (zty ci) (zcl_ty hcl) cx.2.2.2.2.1 (hwf _ h1) (hwf _ h2) (hwf _ h3) hh.2.2.1 hh.2.2.2.1 hh.2.2.2.2.1 hS cx.2.2.2.2.2.2.2.2.2.2.2.1 hcl (fun j hj => ?_) hcc hdd hd (fun q H1 hP1 hD1 hS1 => ?_)
    · rw [vp_V, List.getD_eq_getElem?_getD, zfs_get _ _ _ _ (by rw [znf_of hcl]; exact hj)]
      exact zdef (hty j hj) (znew_I0 h k 0 N j) (znew_L0 h k 0 N j) (znew_R0 h k 0 N j)
    · have hp2 := zHp.add (k := k) (n := 0) (w := N) (q := q) (cA := 0) hp hh hk hh.2.2.1 (fun _ _ z => z) (zcell_o hs hc) hP1 hD1 (fun z => by omega)
      have hsame : ∀ r, zal h r → (if r = (k, zC h k) then q else ad r) = ad r := fun r hr => if_neg (fun z => by
        rcases hr with y | y
        · rw [z] at y; exact Nat.lt_irrefl _ y
        · rw [z] at y; exact absurd hk (Nat.not_lt.mpr y))
      have w1 := kk (fun x => if x = (k, zC h k) then q else ad x) H1 locs la hsame hp2 hS1 (hl.same hsame hb) (zk_cons (fun v hv => (ha v hv).le (znew_le h k 0 N)) (Or.inl (by show zC h k < zC (znew h k 0 N) k; rw [znew_C]; exact Nat.lt_succ_self _))) (fun v hv => (hb v hv).le (znew_le h k 0 N))
      rw [List.map_cons, zenc_list hsame ha] at w1
      have eq1 : zenc (fun x => if x = (k, zC h k) then q else ad x) (Vq (some (k, zC h k))) = .ref q := by
        show Value.ref (if (k, zC h k) = (k, zC h k) then q else ad (k, zC h k)) = .ref q
        rw [if_pos rfl]
      rw [eq1] at w1
      exact w1) kk
theorem w_newarr {atype : ArrayType} {x : Int32} {sh : Nat} (k n : Nat) (hd : zAt M pc (.newarray atype) 2 nx) (hs : zshp k = sh) (hs1 : sh = 100 ∨ sh = 101 ∨ sh = 102 ∨ sh = 103) (hk : k < 900) (hT : newarray.typeOf atype = zel sh) (hA : Cond.arrayClass (newarray.typeOf atype) ∈ zALL) (hx : x = nI n) (hn : n < 1000000)
    (kk : Wp l M d nx ls (Vq (some (k, zC h k)) :: st) (znew h k n n) Q) : Wp l M d pc ls (Vi x :: st) h Q :=
  wst (fun o h' a => by
    obtain ⟨hd, rfl⟩ := hd
    refine zRn.step (znew_le h k n n) a ?_
    intro E p e R s m args below meth c H locs cells slots ad la Q cx hp hS hl ha hb hcc hdd kk
    rw [(zdelta h k n n).1] at hcc kk
    rw [(zdelta h k n n).2] at hdd kk
    obtain ⟨ns, ca, tys, hh⟩ := hp.any
    have hwf := cx.2.2.2.2.2.1
    have hn31 : n < 2 ^ 31 := by omega
    have hI0 : zI (znew h k n n) k (zC h k) = fun _ => 0 := funext (znew_I0 h k n n)
    have hL0 : zL (znew h k n n) k (zC h k) = fun _ => 0 := funext (znew_L0 h k n n)
    have go : ∀ (a0 : vp_A), (∀ cA : ClassId, vp_cell cA a0 = arrV cA n (fun _ => defaultValue (zel sh))) → n * componentBytes (zel sh) ≤ 536870912 → (∀ cA : ClassId, zcell ad (fun x => if x = (k, zC h k) then cA else ca x) (znew h k n n) (k, zC h k) = .inl (cA, a0)) → W p l e R s m args below meth c H locs cells slots Q (F0 m pc la (.int x :: st.map (zenc ad))) := by
      intro a0 ha0 hby hce
      refine va_newa cx.1 cx.2.1 (hwf _ hA) hT hh.2.2.1 hh.2.2.2.1 hh.2.2.2.2.1 hS cx.2.2.2.2.2.2.2.2.2.2.2.1 ha0 (by rw [hx]; exact nI_pos hn31) (zcl2 hx hn31) hby hcc hdd hd (fun q cA H1 hK1 hP1 hD1 hS1 => ?_)
      have hp2 := zHp.add (k := k) (n := n) (w := n) (q := q) (cA := cA) hp hh hk hK1 (fun t0 z hz => by rw [List.getElem?_append_left (List.getElem?_eq_some_iff.mp hz).1]; exact hz) (hce cA) hP1 hD1 (fun _ => ⟨tys.length, by rw [List.getElem?_append_right (Nat.le_refl _), Nat.sub_self, hs]; rfl⟩)
      have hsame : ∀ r, zal h r → (if r = (k, zC h k) then q else ad r) = ad r := fun r hr => if_neg (fun z => by
        rcases hr with y | y
        · rw [z] at y; exact Nat.lt_irrefl _ y
        · rw [z] at y; exact absurd hk (Nat.not_lt.mpr y))
      have w1 := kk (fun x => if x = (k, zC h k) then q else ad x) H1 locs la hsame hp2 hS1 (hl.same hsame hb) (zk_cons (fun v hv => ((zk_tl ha) v hv).le (znew_le h k n n)) (Or.inl (by show zC h k < zC (znew h k n n) k; rw [znew_C]; exact Nat.lt_succ_self _))) (fun v hv => (hb v hv).le (znew_le h k n n))
      rw [List.map_cons, zenc_list hsame (zk_tl ha)] at w1
      have eq1 : zenc (fun x => if x = (k, zC h k) then q else ad x) (Vq (some (k, zC h k))) = .ref q := by
        show Value.ref (if (k, zC h k) = (k, zC h k) then q else ad (k, zC h k)) = .ref q
        rw [if_pos rfl]
      rw [eq1] at w1
      exact w1
    have hN0 := znew_N0 h k n n
    rcases hs1 with rfl | rfl | rfl | rfl
    · refine go (n, .inl (fun _ => 0)) (fun cA => rfl) (by show n * 4 ≤ _; omega) (fun cA => ?_)
      rw [zcell_i (by rw [hs]; decide) (by rw [hs]; decide) (by rw [hs]; decide)]
      show Sum.inl ((if (k, zC h k) = (k, zC h k) then cA else ca (k, zC h k)), zN (znew h k n n) k (zC h k), Sum.inl (zI (znew h k n n) k (zC h k))) = _
      rw [if_pos rfl, hI0, hN0]
    · refine go (n, .inr (.inl (fun _ => 0))) (fun cA => rfl) (by show n * 8 ≤ _; omega) (fun cA => ?_)
      rw [zcell_l hs]
      show Sum.inl ((if (k, zC h k) = (k, zC h k) then cA else ca (k, zC h k)), zN (znew h k n n) k (zC h k), Sum.inr (Sum.inl (zL (znew h k n n) k (zC h k)))) = _
      rw [if_pos rfl, hL0, hN0]
    · refine go (n, .inl (fun _ => 0)) (fun cA => rfl) (by show n * 1 ≤ _; omega) (fun cA => ?_)
      rw [zcell_i (by rw [hs]; decide) (by rw [hs]; decide) (by rw [hs]; decide)]
      show Sum.inl ((if (k, zC h k) = (k, zC h k) then cA else ca (k, zC h k)), zN (znew h k n n) k (zC h k), Sum.inl (zI (znew h k n n) k (zC h k))) = _
      rw [if_pos rfl, hI0, hN0]
    · refine go (n, .inl (fun _ => 0)) (fun cA => rfl) (by show n * 1 ≤ _; omega) (fun cA => ?_)
      rw [zcell_i (by rw [hs]; decide) (by rw [hs]; decide) (by rw [hs]; decide)]
      show Sum.inl ((if (k, zC h k) = (k, zC h k) then cA else ca (k, zC h k)), zN (znew h k n n) k (zC h k), Sum.inl (zI (znew h k n n) k (zC h k))) = _
      rw [if_pos rfl, hI0, hN0]) kk
/-- anewarray: an array of references to objects of class ci -/
theorem w_anewarr {index ci : Nat} {x : Int32} {C : String} (k n : Nat) (hd : zAt M pc (.anewarray index) 3 nx) (hs : zshp k = 110 + ci) (hk : k < 900) (hT : zel (110 + ci) = .object C) (h1 : Cond.classLink (zMy M).cls index C ∈ zALL) (h2 : Cond.arrayOver (.object C) ∈ zAO) (hx : x = nI n) (hn : n < 1000000)
    (kk : Wp l M d nx ls (Vq (some (k, zC h k)) :: st) (znew h k n n) Q) : Wp l M d pc ls (Vi x :: st) h Q :=
  wst (fun o h' a => by
    obtain ⟨hd, rfl⟩ := hd
    refine zRn.step (znew_le h k n n) a ?_
    intro E p e R s m args below meth c H locs cells slots ad la Q cx hp hS hl ha hb hcc hdd kk
    rw [(zdelta h k n n).1] at hcc kk
    rw [(zdelta h k n n).2] at hdd kk
    obtain ⟨ns, ca, tys, hh⟩ := hp.any
    have hwf := cx.2.2.2.2.2.1
    have hE := cx.2.2.2.2.2.2.2.2.2.2.2.2
    have hn31 : n < 2 ^ 31 := by omega
    have hN0 := znew_N0 h k n n
    refine va_newq cx.1 cx.2.1 cx.2.2.2.2.1 (hwf _ h1) (hE.2.1 C h2) hh.2.2.1 hh.2.2.2.1 hh.2.2.2.2.1 hS cx.2.2.2.2.2.2.2.2.2.2.2.1 (by rw [hx]; exact nI_pos hn31) (zcl2 hx hn31) (by omega) hcc hdd hd (fun q cA H1 hK1 hP1 hD1 hS1 => ?_)
    have h110 : 110 ≤ zshp (k, zC h k).1 := by rw [show zshp (k, zC h k).1 = 110 + ci from hs]; exact Nat.le_add_right _ _
    have hce : zcell ad (fun x => if x = (k, zC h k) then cA else ca x) (znew h k n n) (k, zC h k) = .inl (cA, n, .inr (.inr (.inr (.inr (fun _ => none))))) := by
      rw [zcell_q h110]
      have hR0 : (fun j => (zR (znew h k n n) k (zC h k) j).map ad) = fun _ => none := funext (fun j => by rw [znew_R0]; rfl)
      show Sum.inl ((if (k, zC h k) = (k, zC h k) then cA else ca (k, zC h k)), zN (znew h k n n) k (zC h k), Sum.inr (Sum.inr (Sum.inr (Sum.inr (fun j => (zR (znew h k n n) k (zC h k) j).map ad))))) = _
      rw [if_pos rfl, hN0, hR0]
    have hp2 := zHp.add (k := k) (n := n) (w := n) (q := q) (cA := cA) hp hh hk hK1 (fun t0 z hz => by rw [List.getElem?_append_left (List.getElem?_eq_some_iff.mp hz).1]; exact hz) hce hP1 hD1 (fun _ => ⟨tys.length, by rw [List.getElem?_append_right (Nat.le_refl _), Nat.sub_self, hs, hT]; rfl⟩)
    have hsame : ∀ r, zal h r → (if r = (k, zC h k) then q else ad r) = ad r := fun r hr => if_neg (fun z => by
      rcases hr with y | y
      · rw [z] at y; exact Nat.lt_irrefl _ y
      · rw [z] at y; exact absurd hk (Nat.not_lt.mpr y))
    have w1 := kk (fun x => if x = (k, zC h k) then q else ad x) H1 locs la hsame hp2 hS1 (hl.same hsame hb) (zk_cons (fun v hv => ((zk_tl ha) v hv).le (znew_le h k n n)) (Or.inl (by show zC h k < zC (znew h k n n) k; rw [znew_C]; exact Nat.lt_succ_self _))) (fun v hv => (hb v hv).le (znew_le h k n n))
    rw [List.map_cons, zenc_list hsame (zk_tl ha)] at w1
    have eq1 : zenc (fun x => if x = (k, zC h k) then q else ad x) (Vq (some (k, zC h k))) = .ref q := by
      show Value.ref (if (k, zC h k) = (k, zC h k) then q else ad (k, zC h k)) = .ref q
      rw [if_pos rfl]
    rw [eq1] at w1
    exact w1) kk
end zROWS
