-- the start of the machine: the world outside, by program (wip/gen/p998.py)
def tmS (i : Nat) : Term := Term.string "SaltFarm$Tokens" ([50, 56, 58, 60, 62, 67, 69, 71, 73].getD i 0)
abbrev zFl : List Cond := flatC (Jvm.Cond.and given_1 narrow_1)
set_option maxRecDepth 100000 in
theorem me_ex : ∀ i, i < 9 → Cond.exactly (tmS i) "java/lang/String" ∈ zFl := by decide +kernel
set_option maxRecDepth 100000 in
theorem me_co : ∀ i, i < 9 → Cond.eq (.field (tmS i) "java/lang/String" "coder" "B") (.int 0) ∈ zFl := by decide +kernel
set_option maxRecDepth 100000 in
theorem me_ar : ∀ i, i < 9 → Cond.arrayOf (.field (tmS i) "java/lang/String" "value" "[B") .byte ∈ zFl := by decide +kernel
set_option maxRecDepth 100000 in
theorem me_le : ∀ i, i < 9 → Cond.eq (.length (.field (tmS i) "java/lang/String" "value" "[B")) (.int (Int32.ofNat (zlen.getD i 0))) ∈ zFl := by decide +kernel
set_option maxRecDepth 100000 in
theorem me_el : ∀ i, i < 9 → ∀ j, j < zlen.getD i 0 → Cond.eq (.elem (.field (tmS i) "java/lang/String" "value" "[B") (.int (Int32.ofNat j))) (.int ((zbyt.getD i []).getD j 0)) ∈ zFl := by decide +kernel
set_option maxRecDepth 100000 in
theorem me_ne : ∀ i, i < 9 → ∀ j, j < 9 → i ≠ j → Cond.not (Cond.eq (tmS i) (tmS j)) ∈ zFl ∨ Cond.not (Cond.eq (tmS j) (tmS i)) ∈ zFl := by decide +kernel
set_option maxRecDepth 100000 in
theorem zcl_inst : ∀ q ∈ zcl, Cond.instantiable q.1 q.2.2 ∈ lw_tbl := by
  have h : zcl.all (fun q => decide (Cond.instantiable q.1 q.2.2 ∈ lw_tbl)) = true := by decide +kernel
  exact fun q hq => of_decide_eq_true (List.all_eq_true.mp h q hq)
set_option maxRecDepth 100000 in
theorem zstr_in : ∀ q ∈ zstr, Cond.stringRef q.1 q.2.1 q.2.2.1 ∈ lw_tbl := by
  have h : zstr.all (fun q => decide (Cond.stringRef q.1 q.2.1 q.2.2.1 ∈ lw_tbl)) = true := by decide +kernel
  exact fun q hq => of_decide_eq_true (List.all_eq_true.mp h q hq)
-- a string constant is one of the class's nine, or said to be one of them
set_option maxRecDepth 100000 in
theorem zstr_is : ∀ q ∈ zstr, q.2.2.2 < 9 ∧ (Term.string q.1 q.2.1 = tmS q.2.2.2 ∨ Cond.eq (tmS q.2.2.2) (Term.string q.1 q.2.1) ∈ zFl) := by
  have h : zstr.all (fun q => decide (q.2.2.2 < 9 ∧ (Term.string q.1 q.2.1 = tmS q.2.2.2 ∨ Cond.eq (tmS q.2.2.2) (Term.string q.1 q.2.1) ∈ zFl))) = true := by decide +kernel
  exact fun q hq => of_decide_eq_true (List.all_eq_true.mp h q hq)
theorem zNest_on {w : Cond} (h : zisNest w = true) : w.onTables = true := by
  cases w <;> first | exact absurd h Bool.false_ne_true | rfl
theorem vk_S_ad {N : Nat} {len : List Nat} {byt : List (List Int32)} {adK adV adK' adV' : Nat → Nat} {A : Nat → Prop} {U : State} {H : Heap} (h : vk_S N len byt adK adV A U H) (e1 : ∀ i, i < N → adK' i = adK i) (e2 : ∀ i, i < N → adV' i = adV i) : vk_S N len byt adK' adV' A U H :=
  ⟨fun i hi => by rw [e1 i hi, e2 i hi]; exact h.1 i hi, fun i j hi hj e => h.2 i j hi hj (by rw [← e1 i hi, ← e1 j hj]; exact e)⟩
/-- an outside address: the script, the three statics, the texts -/
def zXo (b : Nat) (r0 r1 r2 : Option Nat) (adK adV : Nat → Nat) (r : zRf) : Nat := if r.1 = 999 then b else if r.1 = 990 then r0.getD 0 else if r.1 = 991 then r1.getD 0 else if r.1 = 992 then r2.getD 0 else if r.1 < 1100 then adK (r.1 - 1000) else adV (r.1 - 1100)
def zSuo (r0 r1 r2 : Option Nat) (j : Nat) : Option (Nat × Nat) := if j = 0 then r0.map (fun _ => (990, 0)) else if j = 1 then r1.map (fun _ => (991, 0)) else if j = 2 then r2.map (fun _ => (992, 0)) else none
theorem zq_of {C n d : String} {A : Nat → Prop} {U : State} {H : Heap} (h : va_Zq C n d A U H) : ∃ r : Option Nat, va_Z C n d (va_rf r) A U H := by
  rcases h with h | ⟨t, h⟩
  · exact ⟨none, h⟩
  · exact ⟨some t, h⟩
set_option maxRecDepth 100000 in
theorem ms_0 : Cond.laysStatic "java/lang/Throwable" "UNASSIGNED_STACK" "[Ljava/lang/StackTraceElement;" ∈ lw_tbl ∧ Cond.initialized "java/lang/Throwable" ∈ lw_tbl ∧ Cond.isRef (.static "java/lang/Throwable" "UNASSIGNED_STACK" "[Ljava/lang/StackTraceElement;") ∈ zFl := by decide +kernel
set_option maxRecDepth 100000 in
theorem ms_1 : Cond.laysStatic "java/lang/Throwable" "SUPPRESSED_SENTINEL" "Ljava/util/List;" ∈ lw_tbl ∧ Cond.initialized "java/lang/Throwable" ∈ lw_tbl ∧ Cond.isRef (.static "java/lang/Throwable" "SUPPRESSED_SENTINEL" "Ljava/util/List;") ∈ zFl := by decide +kernel
set_option maxRecDepth 100000 in
theorem ms_2 : Cond.laysStatic "jdk/internal/util/Preconditions" "SIOOBE_FORMATTER" "Ljava/util/function/BiFunction;" ∈ lw_tbl ∧ Cond.initialized "jdk/internal/util/Preconditions" ∈ lw_tbl ∧ Cond.isRef (.static "jdk/internal/util/Preconditions" "SIOOBE_FORMATTER" "Ljava/util/function/BiFunction;") ∈ zFl := by decide +kernel
set_option maxRecDepth 100000 in
theorem ms_c : Cond.laysStatic "java/lang/String" "COMPACT_STRINGS" "Z" ∈ lw_tbl ∧ Cond.initialized "java/lang/String" ∈ lw_tbl ∧ Cond.eq (.static "java/lang/String" "COMPACT_STRINGS" "Z") (.int 1) ∈ zFl := by decide +kernel
theorem lw_env {s : State} {b L : Nat} {xs : Nat → Int32} (hts : ∀ w ∈ lw_tbl, w.before #[Value.ref b] s = true) (hX : va_X b L xs s s.heap) (hbl : b < s.heap.size) (hgv : (Jvm.Cond.and given_1 narrow_1).before #[Value.ref b] s = true) : ∃ E : zEv, zA E = (fun q : Nat => s.heap.size ≤ q) ∧ zSL E = L ∧ zSx E = xs ∧ zX E (999, 0) = b ∧ (∀ (j : Nat) (r : zRf), zSu E j = some r → 900 ≤ r.1) ∧ zEnv E s s.heap ∧ ∀ (k : Nat) (q : vw_C), zcl[k]? = some q → u_Kn s q.1 q.2.1 q.2.2 (E.1 k) (E.2.1 k) := by
  have hs := flat_of_before _ hgv
  have hA0 : ∀ a : Nat, a < s.heap.size → ¬ (fun q : Nat => s.heap.size ≤ q) a := fun a ha => Nat.not_le.mpr ha
  have hcl : ∀ k : Nat, ∃ q : ClassId × (Nat → Nat), ∀ c, zcl[k]? = some c → u_Kn s c.1 c.2.1 c.2.2 q.1 q.2 := by
    intro k
    cases hk : zcl[k]? with
    | none => exact ⟨(0, fun _ => 0), fun c hc => by cases hc⟩
    | some c0 =>
      obtain ⟨C, T, N⟩ := c0
      obtain ⟨cC, iS, hKn⟩ := u_known (C := C) (T := T) (N := N) (n := N) hts (fun w hw => zALL_in w (zcl_in hk w hw)) (hts _ (zcl_inst _ (List.mem_of_getElem? hk)))
      exact ⟨(cC, iS), fun c hc => by cases hc; exact hKn⟩
  obtain ⟨D, hD⟩ := Classical.axiomOfChoice hcl
  obtain ⟨adK, adV, hS9, hev⟩ := vk_Sof (args := #[Value.ref b]) (s := s) (N := 9) (tm := tmS) (len := zlen) (byt := zbyt) (A := fun q : Nat => s.heap.size ≤ q) (by decide) (fun i hi => hs _ (me_ex i hi)) (fun i hi => hs _ (me_co i hi)) (fun i hi => hs _ (me_ar i hi)) (fun i hi => hs _ (me_le i hi)) (fun i hi j hj => hs _ (me_el i hi j hj)) (fun i j hi hj hij => (me_ne i hi j hj hij).imp (fun h => hs _ h) (fun h => hs _ h)) hA0
  obtain ⟨r0, z0⟩ := zq_of (va_Zqof (args := #[Value.ref b]) (A := fun q : Nat => s.heap.size ≤ q) (hts _ ms_0.1) (hts _ ms_0.2.1) (hs _ ms_0.2.2) hA0)
  obtain ⟨r1, z1⟩ := zq_of (va_Zqof (args := #[Value.ref b]) (A := fun q : Nat => s.heap.size ≤ q) (hts _ ms_1.1) (hts _ ms_1.2.1) (hs _ ms_1.2.2) hA0)
  obtain ⟨r2, z2⟩ := zq_of (va_Zqof (args := #[Value.ref b]) (A := fun q : Nat => s.heap.size ≤ q) (hts _ ms_2.1) (hts _ ms_2.2.1) (hs _ ms_2.2.2) hA0)
  have zc : va_Z "java/lang/String" "COMPACT_STRINGS" "Z" (.int 1) (fun q : Nat => s.heap.size ≤ q) s s.heap := va_Zof (hts _ ms_c.1) (hts _ ms_c.2.1) (va_eqi (hs _ ms_c.2.2)) hA0
  have xK : ∀ j, j < 9 → zXo b r0 r1 r2 adK adV (1000 + j, 0) = adK j := fun j hj => by
    unfold zXo
    rw [if_neg (show ¬ 1000 + j = 999 by omega), if_neg (show ¬ 1000 + j = 990 by omega), if_neg (show ¬ 1000 + j = 991 by omega), if_neg (show ¬ 1000 + j = 992 by omega), if_pos (show 1000 + j < 1100 by omega), Nat.add_sub_cancel_left]
  have xV : ∀ j, j < 9 → zXo b r0 r1 r2 adK adV (1100 + j, 0) = adV j := fun j hj => by
    unfold zXo
    rw [if_neg (show ¬ 1100 + j = 999 by omega), if_neg (show ¬ 1100 + j = 990 by omega), if_neg (show ¬ 1100 + j = 991 by omega), if_neg (show ¬ 1100 + j = 992 by omega), if_neg (show ¬ 1100 + j < 1100 by omega), Nat.add_sub_cancel_left]
  refine ⟨(fun k => (D k).1, fun k => (D k).2, fun q : Nat => s.heap.size ≤ q, zXo b r0 r1 r2 adK adV, L, xs, zSuo r0 r1 r2), rfl, rfl, rfl, rfl, fun j r hj => ?_, ⟨fun w hw => ?_, fun C hC => ?_, vk_S_ad hS9 xK xV, fun q hq => ?_, zc, ?_, ?_, ?_, hX, hA0 b hbl, hbl⟩, fun k q hq => hD k q hq⟩
  · change zSuo r0 r1 r2 j = some r at hj
    unfold zSuo at hj
    by_cases e0 : j = 0
    · rw [if_pos e0] at hj
      cases r0 with
      | none => cases hj
      | some t => cases hj; exact Nat.le_of_ble_eq_true rfl
    · rw [if_neg e0] at hj
      by_cases e1 : j = 1
      · rw [if_pos e1] at hj
        cases r1 with
        | none => cases hj
        | some t => cases hj; exact Nat.le_of_ble_eq_true rfl
      · rw [if_neg e1] at hj
        by_cases e2 : j = 2
        · rw [if_pos e2] at hj
          cases r2 with
          | none => cases hj
          | some t => cases hj; exact Nat.le_of_ble_eq_true rfl
        · rw [if_neg e2] at hj
          cases hj
  · obtain ⟨h1, h2⟩ := List.mem_filter.mp hw
    exact va_Nw.of (zNest_on h2) (hts w h1)
  · exact va_AO.of (hts _ (List.mem_filter.mp hC).1)
  · obtain ⟨h9, hq2⟩ := zstr_is q hq
    refine vk_R.of (A := #[Value.ref b]) (hts _ (zstr_in q hq)) ?_
    show _ = some (Value.ref (zXo b r0 r1 r2 adK adV (1000 + q.2.2.2, 0)))
    rw [xK _ h9]
    rcases hq2 with e | e
    · rw [e]; exact hev _ h9
    · exact va_eqR (hs _ e) (hev _ h9)
  · show va_Z _ _ _ (va_rf ((zSuo r0 r1 r2 0).map (zXo b r0 r1 r2 adK adV))) _ _ _
    rw [show (zSuo r0 r1 r2 0).map (zXo b r0 r1 r2 adK adV) = r0 by cases r0 <;> rfl]
    exact z0
  · show va_Z _ _ _ (va_rf ((zSuo r0 r1 r2 1).map (zXo b r0 r1 r2 adK adV))) _ _ _
    rw [show (zSuo r0 r1 r2 1).map (zXo b r0 r1 r2 adK adV) = r1 by cases r1 <;> rfl]
    exact z1
  · show va_Z _ _ _ (va_rf ((zSuo r0 r1 r2 2).map (zXo b r0 r1 r2 adK adV))) _ _ _
    rw [show (zSuo r0 r1 r2 2).map (zXo b r0 r1 r2 adK adV) = r2 by cases r2 <;> rfl]
    exact z2
