-- THE HEAP'S ROWS
/-- which of the three tables a type's values stand in: 0 ints, 1 longs, 2 references -/
def zkd (ty : FieldType) : Nat := match ty with
  | .long => 1
  | .object _ => 2
  | .array _ => 2
  | _ => 0
theorem zfv_0 {ad : zRf → Nat} {h : zH} {r : zRf} {ty : FieldType} {j : Nat} (e : zkd ty = 0) : zfv ad h r ty j = .int (zI h r.1 r.2 j) := by
  cases ty <;> first | rfl | cases e
theorem zfv_1 {ad : zRf → Nat} {h : zH} {r : zRf} {ty : FieldType} {j : Nat} (e : zkd ty = 1) : zfv ad h r ty j = .long (zL h r.1 r.2 j) := by
  cases ty <;> first | rfl | cases e
theorem zfv_2 {ad : zRf → Nat} {h : zH} {r : zRf} {ty : FieldType} {j : Nat} (e : zkd ty = 2) : zfv ad h r ty j = va_rf ((zR h r.1 r.2 j).map ad) := by
  cases ty <;> first | rfl | cases e
theorem zfv_same {ad ad2 : zRf → Nat} {h h2 : zH} {r : zRf} {ty : FieldType} {j : Nat} (e1 : zI h2 r.1 r.2 j = zI h r.1 r.2 j) (e2 : zL h2 r.1 r.2 j = zL h r.1 r.2 j) (e3 : (zR h2 r.1 r.2 j).map ad2 = (zR h r.1 r.2 j).map ad) : zfv ad2 h2 r ty j = zfv ad h r ty j := by
  cases ty <;> simp only [zfv, e1, e2, e3]
theorem zfs_len (ad : zRf → Nat) (h : zH) (r : zRf) (ci : Nat) : (zfs ad h r ci).length = znf ci := by simp [zfs]
theorem zfs_get (ad : zRf → Nat) (h : zH) (r : zRf) (ci : Nat) {j : Nat} (hj : j < znf ci) : (zfs ad h r ci)[j]? = some (zfv ad h r (zty ci j) j) := by simp [zfs, hj]
theorem zfs_set {ad : zRf → Nat} {h h2 : zH} {r : zRf} {ci j : Nat} {v : Value} (hj : j < znf ci) (hv : zfv ad h2 r (zty ci j) j = v) (ho : ∀ i, i < znf ci → i ≠ j → zfv ad h2 r (zty ci i) i = zfv ad h r (zty ci i) i) : (zfs ad h r ci).set j v = zfs ad h2 r ci := by
  apply List.ext_getElem?
  intro i
  by_cases hi : i < znf ci
  · rw [zfs_get ad h2 r ci hi]
    by_cases e : j = i
    · subst e
      rw [List.getElem?_set_self (by rw [zfs_len]; exact hi), hv]
    · rw [List.getElem?_set_ne e, zfs_get ad h r ci hi, ho i hi (fun q => e q.symm)]
  · rw [List.getElem?_eq_none (by rw [List.length_set, zfs_len]; omega), List.getElem?_eq_none (by rw [zfs_len]; omega)]
theorem zws_get {ns : List zRf} {ad : zRf → Nat} {ca : zRf → ClassId} {h : zH} {q0 : Nat} {r : zRf} (hq : ns[q0]? = some r) : (zws ns ad ca h)[q0]? = some (ad r, zcell ad ca h r) := by simp [zws, hq]
theorem zws_set {ns : List zRf} {ad : zRf → Nat} {ca : zRf → ClassId} {h h2 : zH} {q0 : Nat} {r : zRf} (hn : ns.Nodup) (hq : ns[q0]? = some r) (hc : ∀ r' ∈ ns, r' ≠ r → zcell ad ca h2 r' = zcell ad ca h r') : (zws ns ad ca h).set q0 (ad r, zcell ad ca h2 r) = zws ns ad ca h2 := by
  have hlt : q0 < ns.length := (List.getElem?_eq_some_iff.mp hq).1
  apply List.ext_getElem?
  intro i
  by_cases e : q0 = i
  · subst e
    rw [List.getElem?_set_self (by simp [zws]; exact hlt), zws_get hq]
  · rw [List.getElem?_set_ne e]
    cases hi : ns[i]? with
    | none => simp [zws, hi]
    | some r' =>
      rw [zws_get hi, zws_get hi, hc r' (List.mem_of_getElem? hi) (fun z => e ((List.getElem?_inj hlt hn).mp (by rw [hq, hi, z])))]
/-- two heaps that agree at r hold the same cell there -/
theorem zcell_same {ad ad2 : zRf → Nat} {ca ca2 : zRf → ClassId} {h h2 : zH} {r : zRf} (e0 : ca2 r = ca r) (e1 : zI h2 r.1 r.2 = zI h r.1 r.2) (e2 : zL h2 r.1 r.2 = zL h r.1 r.2) (e3 : ∀ j, (zR h2 r.1 r.2 j).map ad2 = (zR h r.1 r.2 j).map ad) (e4 : zN h2 r.1 r.2 = zN h r.1 r.2) : zcell ad2 ca2 h2 r = zcell ad ca h r := by
  unfold zcell
  have ef : zfs ad2 h2 r (zshp r.1) = zfs ad h r (zshp r.1) := List.map_congr_left (fun j _ => zfv_same (by rw [e1]) (by rw [e2]) (e3 j))
  have eg : (fun j => (zR h2 r.1 r.2 j).map ad2) = fun j => (zR h r.1 r.2 j).map ad := funext e3
  rw [ef, eg, e0, e1, e2, e4]
theorem zcell_o {ad : zRf → Nat} {ca : zRf → ClassId} {h : zH} {r : zRf} {ci : Nat} (hs : zshp r.1 = ci) (hc : ci < 100) : zcell ad ca h r = .inr (ci, zfs ad h r ci) := by
  unfold zcell; rw [hs, if_pos hc]
theorem zcell_i {ad : zRf → Nat} {ca : zRf → ClassId} {h : zH} {r : zRf} (h1 : 100 ≤ zshp r.1) (h2 : zshp r.1 ≠ 101) (h3 : zshp r.1 < 110) : zcell ad ca h r = .inl (ca r, zN h r.1 r.2, .inl (zI h r.1 r.2)) := by
  unfold zcell; rw [if_neg (by omega), if_neg h2, if_pos h3]
theorem zcell_l {ad : zRf → Nat} {ca : zRf → ClassId} {h : zH} {r : zRf} (h2 : zshp r.1 = 101) : zcell ad ca h r = .inl (ca r, zN h r.1 r.2, .inr (.inl (zL h r.1 r.2))) := by
  unfold zcell; rw [if_neg (by omega), if_pos h2]
theorem zcell_q {ad : zRf → Nat} {ca : zRf → ClassId} {h : zH} {r : zRf} (h3 : 110 ≤ zshp r.1) : zcell ad ca h r = .inl (ca r, zN h r.1 r.2, .inr (.inr (.inr (.inr (fun j => (zR h r.1 r.2 j).map ad))))) := by
  unfold zcell; rw [if_neg (by omega), if_neg (by omega), if_neg (by omega)]
/-- the parts of a held heap, at a living cell -/
def zHold (E : zEv) (ad : zRf → Nat) (U : State) (h : zH) (H : Heap) (ns : List zRf) (ca : zRf → ClassId) (tys : List (ClassId × FieldType)) : Prop :=
  ns.Nodup ∧ (∀ r : zRf, r ∈ ns ↔ r.2 < zC h r.1) ∧ va_K (zD E) zcl tys U ∧ va_P (zD E) zcl (zws ns ad ca h) H ∧ va_D (zA E) (zws ns ad ca h) ∧
    (∀ r ∈ ns, 100 ≤ zshp r.1 → ∃ t0 : Nat, tys[t0]? = some (ca r, zel (zshp r.1))) ∧ ∀ r ∈ ns, ∀ (j : Nat) (r' : zRf), zR h r.1 r.2 j = some r' → zal h r'
theorem zHp.at {E : zEv} {ad : zRf → Nat} {U : State} {h : zH} {H : Heap} {r : zRf} (hp : zHp E ad U h H) (hr : r.2 < zC h r.1) : r.1 < 900 ∧ ∃ (ns : List zRf) (ca : zRf → ClassId) (tys : List (ClassId × FieldType)) (q0 : Nat), zHold E ad U h H ns ca tys ∧ ns[q0]? = some r := by
  obtain ⟨h1, h2, h3, ns, ca, tys, h4⟩ := hp
  obtain ⟨q0, hq⟩ := List.getElem?_of_mem ((h4.2.1 r).mpr hr)
  refine ⟨?_, ns, ca, tys, q0, h4, hq⟩
  rcases Nat.lt_or_ge r.1 900 with q | q
  · exact q
  · rw [h3 _ q] at hr; omega
/-- a held heap with one cell rewritten -/
theorem zHp.upd {E : zEv} {ad : zRf → Nat} {U : State} {h h2 : zH} {H H1 : Heap} {r : zRf} {ns : List zRf} {ca : zRf → ClassId} {tys : List (ClassId × FieldType)} {q0 : Nat} (hp : zHp E ad U h H) (hh : zHold E ad U h H ns ca tys) (hq : ns[q0]? = some r) (hr : r.1 < 900)
    (eC : zC h2 = zC h) (eN : zN h2 = zN h) (e1 : ∀ r' : zRf, r' ≠ r → zI h2 r'.1 r'.2 = zI h r'.1 r'.2) (e2 : ∀ r' : zRf, r' ≠ r → zL h2 r'.1 r'.2 = zL h r'.1 r'.2) (e3 : ∀ r' : zRf, r' ≠ r → zR h2 r'.1 r'.2 = zR h r'.1 r'.2) (e4 : ∀ (j : Nat) (r' : zRf), zR h2 r.1 r.2 j = some r' → zal h r')
    (hP : va_P (zD E) zcl ((zws ns ad ca h).set q0 (ad r, zcell ad ca h2 r)) H1) (hD : va_D (zA E) ((zws ns ad ca h).set q0 (ad r, zcell ad ca h2 r))) : zHp E ad U h2 H1 := by
  obtain ⟨g1, g2, g3, -⟩ := hp
  obtain ⟨k1, k2, k3, k4, k5, k6, k7⟩ := hh
  have he := zws_set (ad := ad) (ca := ca) (h := h) (h2 := h2) k1 hq (fun r' _ hne => zcell_same rfl (e1 r' hne) (e2 r' hne) (fun j => by rw [e3 r' hne]) (by rw [eN]))
  rw [he] at hP hD
  refine ⟨g1, ⟨by rw [eN]; exact g2.1, ?_, ?_, g2.2.2.2⟩, fun k hk => by rw [eC]; exact g3 k hk, ns, ca, tys, k1, fun r' => by rw [eC]; exact k2 r', k3, hP, hD, k6, fun r' hr' j r'' hj => ?_⟩
  · rw [show zI h2 999 0 = zI h 999 0 from e1 (999, 0) (fun z => by rw [← z] at hr; exact absurd hr (by decide))]
    exact g2.2.1
  · rw [show zR h2 998 0 = zR h 998 0 from e3 (998, 0) (fun z => by rw [← z] at hr; exact absurd hr (by decide))]
    exact g2.2.2.1
  · have key : zal h r'' := by
      by_cases hne : r' = r
      · subst hne; exact e4 j r'' hj
      · rw [e3 r' hne] at hj; exact k7 r' hr' j r'' hj
    exact key.imp (fun q => by rw [eC]; exact q) id
/-- a living cell is a living cell -/
theorem zal.lt {h : zH} {r : zRf} (a : zal h r) (hr : r.1 < 900) : r.2 < zC h r.1 := a.elim id (fun q => by omega)
theorem zal.st {h : zH} {r : zRf} {st : List zV} (a : ∀ v ∈ Vq (some r) :: st, zalV h v) : zal h r := a _ List.mem_cons_self
-- FIELDS
/-- entry index of class own is the field in slot j of class ci -/
def zFld (own : String) (index ci j : Nat) : Prop := ∃ (C : String) (T : u_T) (N : Nat), zcl[ci]? = some (C, T, N) ∧ j < N ∧ ((Cond.fieldLink own index (T j).1 (T j).2.1 (T j).2.2.1 ∈ zALL) ∨ ∃ host : String, Cond.fieldLinkNest own index (T j).1 (T j).2.1 (T j).2.2.1 host ∈ zNest)
/-- .. and may be written by method M -/
def zFldW (M : zM) (index ci j : Nat) : Prop := ∃ (C : String) (T : u_T) (N : Nat), zcl[ci]? = some (C, T, N) ∧ j < N ∧ (((Cond.fieldLink (zMy M).cls index (T j).1 (T j).2.1 (T j).2.2.1 ∈ zALL) ∧ ((T j).2.2.2 = false ∨ ((T j).2.2.2 = true ∧ (zMy M).name = "<init>" ∧ (T j).1 = (zMy M).cls))) ∨ ∃ host : String, Cond.fieldLinkNest (zMy M).cls index (T j).1 (T j).2.1 (T j).2.2.1 host ∈ zNest ∧ (T j).2.2.2 = false)
theorem znf_of {ci : Nat} {C : String} {T : u_T} {N : Nat} (h : zcl[ci]? = some (C, T, N)) : znf ci = N := by unfold znf; rw [h]; rfl
section zROWS
variable {l : Launch} {M : zM} {d pc nx : Nat} {ls : List (Option zV)} {st : List zV} {h h' : zH} {o : zO} {Q : zO → zH → Prop}
theorem R_get {index ci j : Nat} {r : zRf} {v : zV} (hd : zAt M pc (.getfield index) 3 nx) (hf : zFld (zMy M).cls index ci j) (hs : zshp r.1 = ci) (hc : ci < 100) (hr : r.1 < 900) (hv : ∀ ad, zfv ad h r (zty ci j) j = zenc ad v) (hva : (∀ (j : Nat) (r' : zRf), zR h r.1 r.2 j = some r' → zal h r') → zalV h v)
    (k : zRn l M d nx ls (v :: st) h o h') : zRn l M d pc ls (Vq (some r) :: st) h o h' := by
  obtain ⟨hd, rfl⟩ := hd
  refine zRn.step (zLe.rf h) k ?_
  intro E p e R s m args below meth c H locs cells slots ad la Q cx hp hS hl ha hb hcc hdd kk
  rw [Nat.sub_self, Nat.add_zero] at kk
  rw [Nat.sub_self, Nat.add_zero] at kk
  have hlive : r.2 < zC h r.1 := (zal.st ha).lt hr
  obtain ⟨-, ns, ca, tys, q0, hh, hq⟩ := hp.at hlive
  have hva' := hva (hh.2.2.2.2.2.2 r (List.mem_of_getElem? hq))
  have kk := kk ad H locs la (fun _ _ => rfl) hp hS hl (zk_cons (zk_tl ha) hva') hb
  have hwf := cx.2.2.2.2.2.1
  have hE := cx.2.2.2.2.2.2.2.2.2.2.2.2
  obtain ⟨C, T, N, hcl, hj, hw⟩ := hf
  have he := zws_get (ad := ad) (ca := ca) (h := h) hq
  rw [zcell_o hs hc] at he
  have hfj := zfs_get ad h r ci (j := j) (by rw [znf_of hcl]; exact hj)
  rw [hv ad] at hfj
  rcases hw with hw | ⟨host, hw⟩
  · exact va_get cx.1 cx.2.1 hwf (zcl_in hcl) cx.2.2.2.2.1 hh.2.2.1 hh.2.2.2.1 q0 he hcl j hj (hwf _ hw) (fun x hx => hx) hfj hd kk
  · exact va_getN cx.1 cx.2.1 hwf (zcl_in hcl) cx.2.2.2.2.1 hh.2.2.1 hh.2.2.2.1 q0 he hcl j hj (va_Nw.use rfl (hE.1 _ hw)) (fun x hx => hx) hfj hd kk
theorem w_getI {index ci j k i : Nat} (hd : zAt M pc (.getfield index) 3 nx) (hf : zFld (zMy M).cls index ci j) (hs : zshp k = ci) (hc : ci < 100) (hr : k < 900) (ht : zkd (zty ci j) = 0) (kk : Wp l M d nx ls (Vi (zI h k i j) :: st) h Q) : Wp l M d pc ls (Vq (some (k, i)) :: st) h Q :=
  wst (fun o h' a => R_get (r := (k, i)) (v := Vi (zI h k i j)) hd hf hs hc hr (fun ad => zfv_0 ht) (fun _ => trivial) a) kk
theorem w_getL {index ci j k i : Nat} (hd : zAt M pc (.getfield index) 3 nx) (hf : zFld (zMy M).cls index ci j) (hs : zshp k = ci) (hc : ci < 100) (hr : k < 900) (ht : zkd (zty ci j) = 1) (kk : Wp l M d nx ls (Vj (zL h k i j) :: st) h Q) : Wp l M d pc ls (Vq (some (k, i)) :: st) h Q :=
  wst (fun o h' a => R_get (r := (k, i)) (v := Vj (zL h k i j)) hd hf hs hc hr (fun ad => zfv_1 ht) (fun _ => trivial) a) kk
theorem w_getR {index ci j k i : Nat} {q : Option zRf} (hd : zAt M pc (.getfield index) 3 nx) (hf : zFld (zMy M).cls index ci j) (hs : zshp k = ci) (hc : ci < 100) (hr : k < 900) (ht : zkd (zty ci j) = 2) (hq : zR h k i j = q) (kk : Wp l M d nx ls (Vq q :: st) h Q) : Wp l M d pc ls (Vq (some (k, i)) :: st) h Q :=
  wst (fun o h' a => R_get (r := (k, i)) (v := Vq q) hd hf hs hc hr (fun ad => by rw [zfv_2 ht, ← hq]; rfl) (fun hall => by
    cases q with
    | none => trivial
    | some r' => exact hall j r' hq) a) kk
/-- a field is written: h2 differs from h in that slot -/
theorem R_put {index ci j : Nat} {r : zRf} {v : zV} {h2 : zH} (hd : zAt M pc (.putfield index) 3 nx) (hf : zFldW M index ci j) (hs : zshp r.1 = ci) (hc : ci < 100) (hr : r.1 < 900) (hn : ∀ ad, narrow (zty ci j) (zenc ad v) = zenc ad v ∧ fits (zty ci j) (zenc ad v) = true)
    (eC : h2.2.2.2 = h.2.2.2) (e1 : ∀ r' : zRf, r' ≠ r → zI h2 r'.1 r'.2 = zI h r'.1 r'.2) (e2 : ∀ r' : zRf, r' ≠ r → zL h2 r'.1 r'.2 = zL h r'.1 r'.2) (e3 : ∀ r' : zRf, r' ≠ r → zR h2 r'.1 r'.2 = zR h r'.1 r'.2)
    (e4 : zalV h v → (∀ (j : Nat) (r' : zRf), zR h r.1 r.2 j = some r' → zal h r') → ∀ (j : Nat) (r' : zRf), zR h2 r.1 r.2 j = some r' → zal h r') (hv : ∀ ad, zfv ad h2 r (zty ci j) j = zenc ad v) (ho : ∀ ad i, i ≠ j → zfv ad h2 r (zty ci i) i = zfv ad h r (zty ci i) i)
    (k : zRn l M d nx ls st h2 o h') : zRn l M d pc ls (v :: Vq (some r) :: st) h o h' := by
  obtain ⟨hd, rfl⟩ := hd
  have eC1 : zC h2 = zC h := by unfold zC; rw [eC]
  have eN1 : zN h2 = zN h := by unfold zN; rw [eC]
  have ec1 : zc h2 = zc h := by unfold zc; rw [eC]
  have es1 : zs h2 = zs h := by unfold zs; rw [eC]
  have hle : zLe h h2 := ⟨fun k => by rw [eC1]; exact Nat.le_refl _, by rw [ec1]; exact Nat.le_refl _, by rw [es1]; exact Nat.le_refl _⟩
  refine zRn.step hle k ?_
  intro E p e R s m args below meth c H locs cells slots ad la Q cx hp hS hl ha hb hcc hdd kk
  rw [ec1, es1, Nat.sub_self, Nat.add_zero, Nat.sub_self, Nat.add_zero] at kk
  have hlive : r.2 < zC h r.1 := (zal.st (zk_tl ha)).lt hr
  obtain ⟨-, ns, ca, tys, q0, hh, hq⟩ := hp.at hlive
  have hwf := cx.2.2.2.2.2.1
  have hE := cx.2.2.2.2.2.2.2.2.2.2.2.2
  have hvl : zalV h v := ha _ List.mem_cons_self
  obtain ⟨C, T, N, hcl, hj, hw⟩ := hf
  have he := zws_get (ad := ad) (ca := ca) (h := h) hq
  have hz := zfs_set (ad := ad) (h := h) (h2 := h2) (r := r) (ci := ci) (j := j) (by rw [znf_of hcl]; exact hj) (hv ad) (fun i _ hne => ho ad i hne)
  have hc2 : zcell ad ca h2 r = .inr (ci, (zfs ad h r ci).set j (zenc ad v)) := by rw [hz]; exact zcell_o hs hc
  rw [zcell_o hs hc] at he
  have hty : parseFieldDescriptor (T j).2.2.1 = some (zty ci j) := zcl_ty hcl j hj
  have fin : ∀ (H1 : Heap) (locs1 : List Loc), va_P (zD E) zcl ((zws ns ad ca h).set q0 (ad r, .inr (ci, (zfs ad h r ci).set j (zenc ad v)))) H1 → va_D (zA E) ((zws ns ad ca h).set q0 (ad r, .inr (ci, (zfs ad h r ci).set j (zenc ad v)))) → va_S (zA E) s.heap H1 locs1 → W p l e R s m args below meth c H1 locs1 cells slots Q (F0 m (pc + 3) la (st.map (zenc ad))) := by
    intro H1 locs1 hP1 hD1 hS1
    rw [← hc2] at hP1 hD1
    have hp2 := hp.upd hh hq hr eC1 eN1 e1 e2 e3 (e4 hvl (hh.2.2.2.2.2.2 r (List.mem_of_getElem? hq))) hP1 hD1
    exact kk ad H1 locs1 la (fun _ _ => rfl) hp2 hS1 hl (fun v hv => (zk_tl2 ha v hv).le hle) (fun v hv => (hb v hv).le hle)
  rcases hw with ⟨hw, hfin | ⟨hfin, hnm, hdecl⟩⟩ | ⟨host, hw, hfin⟩
  · exact va_put cx.1 cx.2.1 hwf (zcl_in hcl) (zty ci) (zcl_ty hcl) (zcl_nm hcl) cx.2.2.2.2.1 hh.2.2.1 hh.2.2.2.1 hh.2.2.2.2.1 hS q0 he hcl j hj (hwf _ hw) (fun x hx => hx) hfin hty (hn ad).1 (hn ad).2 (by rw [zfs_len, znf_of hcl]; exact hj) hd fin
  · exact va_putF cx.1 cx.2.1 hwf (zcl_in hcl) (zty ci) (zcl_ty hcl) (zcl_nm hcl) cx.2.2.2.2.1 hh.2.2.1 hh.2.2.2.1 hh.2.2.2.2.1 hS q0 he hcl j hj (hwf _ hw) (fun x hx => hx) hfin (cx.2.2.2.2.2.2.2.1.trans hnm) hdecl hty (hn ad).1 (hn ad).2 (by rw [zfs_len, znf_of hcl]; exact hj) hd fin
  · exact va_putN cx.1 cx.2.1 hwf (zcl_in hcl) (zty ci) (zcl_ty hcl) (zcl_nm hcl) cx.2.2.2.2.1 hh.2.2.1 hh.2.2.2.1 hh.2.2.2.2.1 hS q0 he hcl j hj (va_Nw.use rfl (hE.1 _ hw)) (fun x hx => hx) hfin hty (hn ad).1 (hn ad).2 (by rw [zfs_len, znf_of hcl]; exact hj) hd fin
theorem zsI_ne {k i j : Nat} {v : Int32} {r' : zRf} (e : r' ≠ (k, i)) : zI (zsI h k i j v) r'.1 r'.2 = zI h r'.1 r'.2 := by
  funext c
  exact if_neg (fun z => e (Prod.ext z.1 z.2.1))
theorem zsL_ne {k i j : Nat} {v : Int64} {r' : zRf} (e : r' ≠ (k, i)) : zL (zsL h k i j v) r'.1 r'.2 = zL h r'.1 r'.2 := by
  funext c
  exact if_neg (fun z => e (Prod.ext z.1 z.2.1))
theorem zsR_ne {k i j : Nat} {v : Option zRf} {r' : zRf} (e : r' ≠ (k, i)) : zR (zsR h k i j v) r'.1 r'.2 = zR h r'.1 r'.2 := by
  funext c
  exact if_neg (fun z => e (Prod.ext z.1 z.2.1))
theorem zI_same (h : zH) (k i j : Nat) (v : Int32) : zI (zsI h k i j v) k i j = v := if_pos ⟨rfl, rfl, rfl⟩
theorem zL_same (h : zH) (k i j : Nat) (v : Int64) : zL (zsL h k i j v) k i j = v := if_pos ⟨rfl, rfl, rfl⟩
theorem zR_same (h : zH) (k i j : Nat) (v : Option zRf) : zR (zsR h k i j v) k i j = v := if_pos ⟨rfl, rfl, rfl⟩
theorem zI_oth (h : zH) (k i j : Nat) (v : Int32) {j' : Nat} (e : j' ≠ j) : zI (zsI h k i j v) k i j' = zI h k i j' := if_neg (fun z => e z.2.2)
theorem zL_oth (h : zH) (k i j : Nat) (v : Int64) {j' : Nat} (e : j' ≠ j) : zL (zsL h k i j v) k i j' = zL h k i j' := if_neg (fun z => e z.2.2)
theorem zR_oth (h : zH) (k i j : Nat) (v : Option zRf) {j' : Nat} (e : j' ≠ j) : zR (zsR h k i j v) k i j' = zR h k i j' := if_neg (fun z => e z.2.2)
theorem w_putI {index ci j k i : Nat} {v : Int32} (hd : zAt M pc (.putfield index) 3 nx) (hf : zFldW M index ci j) (hs : zshp k = ci) (hc : ci < 100) (hr : k < 900) (ht : zkd (zty ci j) = 0) (hn : narrow (zty ci j) (.int v) = .int v ∧ fits (zty ci j) (.int v) = true) (kk : Wp l M d nx ls st (zsI h k i j v) Q) : Wp l M d pc ls (Vi v :: Vq (some (k, i)) :: st) h Q :=
  wst (fun o h' a => R_put (r := (k, i)) (v := Vi v) (h2 := zsI h k i j v) hd hf hs hc hr (fun _ => hn) rfl (fun r' e => zsI_ne e) (fun _ _ => rfl) (fun _ _ => rfl) (fun _ b => b) (fun ad => by rw [zfv_0 ht]; exact congrArg Value.int (zI_same h k i j v)) (fun ad i' e => zfv_same (zI_oth h k i j v e) rfl rfl) a) kk
theorem w_putL {index ci j k i : Nat} {v : Int64} (hd : zAt M pc (.putfield index) 3 nx) (hf : zFldW M index ci j) (hs : zshp k = ci) (hc : ci < 100) (hr : k < 900) (ht : zkd (zty ci j) = 1) (hn : narrow (zty ci j) (.long v) = .long v ∧ fits (zty ci j) (.long v) = true) (kk : Wp l M d nx ls st (zsL h k i j v) Q) : Wp l M d pc ls (Vj v :: Vq (some (k, i)) :: st) h Q :=
  wst (fun o h' a => R_put (r := (k, i)) (v := Vj v) (h2 := zsL h k i j v) hd hf hs hc hr (fun _ => hn) rfl (fun _ _ => rfl) (fun r' e => zsL_ne e) (fun _ _ => rfl) (fun _ b => b) (fun ad => by rw [zfv_1 ht]; exact congrArg Value.long (zL_same h k i j v)) (fun ad i' e => zfv_same rfl (zL_oth h k i j v e) rfl) a) kk
theorem w_putR {index ci j k i : Nat} {q : Option zRf} (hd : zAt M pc (.putfield index) 3 nx) (hf : zFldW M index ci j) (hs : zshp k = ci) (hc : ci < 100) (hr : k < 900) (ht : zkd (zty ci j) = 2) (hn : ∀ x : Option Nat, narrow (zty ci j) (va_rf x) = va_rf x ∧ fits (zty ci j) (va_rf x) = true) (kk : Wp l M d nx ls st (zsR h k i j q) Q) : Wp l M d pc ls (Vq q :: Vq (some (k, i)) :: st) h Q :=
  wst (fun o h' a => R_put (r := (k, i)) (v := Vq q) (h2 := zsR h k i j q) hd hf hs hc hr (fun ad => hn (q.map ad)) rfl (fun _ _ => rfl) (fun _ _ => rfl) (fun r' e => zsR_ne e) (fun hq hall j' r' hj => by
    by_cases e : j' = j
    · subst e
      rw [zR_same] at hj
      subst hj
      exact hq
    · rw [zR_oth h k i j q e] at hj
      exact hall j' r' hj) (fun ad => by rw [zfv_2 ht]; exact congrArg (fun q => va_rf (Option.map ad q)) (zR_same h k i j q)) (fun ad i' e => zfv_same rfl rfl (by rw [zR_oth h k i j q e])) a) kk
end zROWS
