-- the law: its start, by program (wip/gen/p997.py)
/-- the heap at the law's entry: the script, the JDK's three statics, nothing made -/
def h00 (s : Nat → Int32) (L : Nat) (u : Nat → Option (Nat × Nat)) : zH := (fun a b c => if a = 999 ∧ b = 0 then s c else 0, fun _ _ _ => 0, fun a b c => if a = 998 ∧ b = 0 then u c else none, fun a b => if a = 999 ∧ b = 0 then L else 0, fun _ => 0, 0, 0)
/-- behind the two constructors -/
def h01 (s : Nat → Int32) (L : Nat) (u : Nat → Option (Nat × Nat)) : zH := iX14 (znew (iX11 (znew (h00 s L u) 0 0 16) 0) 1 0 47) 0
set_option maxRecDepth 100000 in
theorem h01_cR (s : Nat → Int32) (L : Nat) (u : Nat → Option (Nat × Nat)) : ∀ q ∈ wcR, zR (h01 s L u) q.1.1 0 q.1.2 = some (q.2, 0) := List.forall_mem_cons.mpr ⟨rfl, List.forall_mem_cons.mpr ⟨rfl, List.forall_mem_cons.mpr ⟨rfl, List.forall_mem_cons.mpr ⟨rfl, List.forall_mem_cons.mpr ⟨rfl, List.forall_mem_cons.mpr ⟨rfl, List.forall_mem_cons.mpr ⟨rfl, List.forall_mem_cons.mpr ⟨rfl, List.forall_mem_cons.mpr ⟨rfl, List.forall_mem_cons.mpr ⟨rfl, List.forall_mem_cons.mpr ⟨rfl, List.forall_mem_cons.mpr ⟨rfl, List.forall_mem_cons.mpr ⟨rfl, List.forall_mem_cons.mpr ⟨rfl, List.forall_mem_cons.mpr ⟨rfl, List.forall_mem_cons.mpr ⟨rfl, List.forall_mem_cons.mpr ⟨rfl, List.forall_mem_cons.mpr ⟨rfl, List.forall_mem_cons.mpr ⟨rfl, List.forall_mem_cons.mpr ⟨rfl, List.forall_mem_cons.mpr ⟨rfl, List.forall_mem_cons.mpr ⟨rfl, List.forall_mem_cons.mpr ⟨rfl, List.forall_mem_cons.mpr ⟨rfl, List.forall_mem_cons.mpr ⟨rfl, List.forall_mem_cons.mpr ⟨rfl, List.forall_mem_cons.mpr ⟨rfl, List.forall_mem_nil _⟩⟩⟩⟩⟩⟩⟩⟩⟩⟩⟩⟩⟩⟩⟩⟩⟩⟩⟩⟩⟩⟩⟩⟩⟩⟩⟩
set_option maxRecDepth 100000 in
theorem h01_mR (s : Nat → Int32) (L : Nat) (u : Nat → Option (Nat × Nat)) : ∀ q ∈ wmR, zR (h01 s L u) q.1.1 0 q.1.2 = some (q.2, 0) := List.forall_mem_cons.mpr ⟨rfl, List.forall_mem_cons.mpr ⟨rfl, List.forall_mem_cons.mpr ⟨rfl, List.forall_mem_cons.mpr ⟨rfl, List.forall_mem_cons.mpr ⟨rfl, List.forall_mem_cons.mpr ⟨rfl, List.forall_mem_cons.mpr ⟨rfl, List.forall_mem_cons.mpr ⟨rfl, List.forall_mem_cons.mpr ⟨rfl, List.forall_mem_cons.mpr ⟨rfl, List.forall_mem_cons.mpr ⟨rfl, List.forall_mem_cons.mpr ⟨rfl, List.forall_mem_cons.mpr ⟨rfl, List.forall_mem_cons.mpr ⟨rfl, List.forall_mem_cons.mpr ⟨rfl, List.forall_mem_cons.mpr ⟨rfl, List.forall_mem_cons.mpr ⟨rfl, List.forall_mem_cons.mpr ⟨rfl, List.forall_mem_cons.mpr ⟨rfl, List.forall_mem_cons.mpr ⟨rfl, List.forall_mem_cons.mpr ⟨rfl, List.forall_mem_cons.mpr ⟨rfl, List.forall_mem_cons.mpr ⟨rfl, List.forall_mem_nil _⟩⟩⟩⟩⟩⟩⟩⟩⟩⟩⟩⟩⟩⟩⟩⟩⟩⟩⟩⟩⟩⟩⟩
theorem h01_cN (s : Nat → Int32) (L : Nat) (u : Nat → Option (Nat × Nat)) : ∀ q ∈ wcN, zN (h01 s L u) q.1 0 = q.2 := List.forall_mem_cons.mpr ⟨rfl, List.forall_mem_cons.mpr ⟨rfl, List.forall_mem_cons.mpr ⟨rfl, List.forall_mem_cons.mpr ⟨rfl, List.forall_mem_cons.mpr ⟨rfl, List.forall_mem_cons.mpr ⟨rfl, List.forall_mem_cons.mpr ⟨rfl, List.forall_mem_cons.mpr ⟨rfl, List.forall_mem_cons.mpr ⟨rfl, List.forall_mem_cons.mpr ⟨rfl, List.forall_mem_cons.mpr ⟨rfl, List.forall_mem_cons.mpr ⟨rfl, List.forall_mem_cons.mpr ⟨rfl, List.forall_mem_cons.mpr ⟨rfl, List.forall_mem_cons.mpr ⟨rfl, List.forall_mem_cons.mpr ⟨rfl, List.forall_mem_cons.mpr ⟨rfl, List.forall_mem_cons.mpr ⟨rfl, List.forall_mem_cons.mpr ⟨rfl, List.forall_mem_cons.mpr ⟨rfl, List.forall_mem_nil _⟩⟩⟩⟩⟩⟩⟩⟩⟩⟩⟩⟩⟩⟩⟩⟩⟩⟩⟩⟩
theorem h01_mN (s : Nat → Int32) (L : Nat) (u : Nat → Option (Nat × Nat)) : ∀ q ∈ wmN, zN (h01 s L u) q.1 0 = q.2 := List.forall_mem_cons.mpr ⟨rfl, List.forall_mem_cons.mpr ⟨rfl, List.forall_mem_cons.mpr ⟨rfl, List.forall_mem_cons.mpr ⟨rfl, List.forall_mem_cons.mpr ⟨rfl, List.forall_mem_cons.mpr ⟨rfl, List.forall_mem_cons.mpr ⟨rfl, List.forall_mem_cons.mpr ⟨rfl, List.forall_mem_cons.mpr ⟨rfl, List.forall_mem_cons.mpr ⟨rfl, List.forall_mem_cons.mpr ⟨rfl, List.forall_mem_cons.mpr ⟨rfl, List.forall_mem_cons.mpr ⟨rfl, List.forall_mem_cons.mpr ⟨rfl, List.forall_mem_cons.mpr ⟨rfl, List.forall_mem_cons.mpr ⟨rfl, List.forall_mem_cons.mpr ⟨rfl, List.forall_mem_cons.mpr ⟨rfl, List.forall_mem_cons.mpr ⟨rfl, List.forall_mem_cons.mpr ⟨rfl, List.forall_mem_cons.mpr ⟨rfl, List.forall_mem_cons.mpr ⟨rfl, List.forall_mem_nil _⟩⟩⟩⟩⟩⟩⟩⟩⟩⟩⟩⟩⟩⟩⟩⟩⟩⟩⟩⟩⟩⟩
theorem h01_C (s : Nat → Int32) (L : Nat) (u : Nat → Option (Nat × Nat)) : zC (h01 s L u) 58 = 0 ∧ zC (h01 s L u) 59 = 0 ∧ zC (h01 s L u) 60 = 0 ∧ zC (h01 s L u) 61 = 0 ∧ zC (h01 s L u) 17 = 1 ∧ zC (h01 s L u) 76 = 0 ∧ zC (h01 s L u) 77 = 0 ∧ zC (h01 s L u) 75 = 0 ∧ (zC (h01 s L u) 35 = 1 ∧ zC (h01 s L u) 36 = 1 ∧ zC (h01 s L u) 37 = 1 ∧ zC (h01 s L u) 38 = 1 ∧ zC (h01 s L u) 39 = 1 ∧ zC (h01 s L u) 40 = 1) := ⟨rfl, rfl, rfl, rfl, rfl, rfl, rfl, rfl, rfl, rfl, rfl, rfl, rfl, rfl⟩
set_option maxRecDepth 100000 in
theorem h01_z (s : Nat → Int32) (L : Nat) (u : Nat → Option (Nat × Nat)) : zc (h01 s L u) ≤ 200 ∧ zs (h01 s L u) ≤ 20000 := ⟨Nat.le_of_ble_eq_true rfl, Nat.le_of_ble_eq_true rfl⟩
theorem h01_wc (s : Nat → Int32) (L : Nat) (u : Nat → Option (Nat × Nat)) : Wc (h01 s L u) := by
  obtain ⟨c58, c59, c60, c61, c17, c76, c77, c75, -⟩ := h01_C s L u
  refine ⟨h01_cR s L u, h01_cN s L u, ⟨by rw [c76, c58], by rw [c77, c58], fun i hi => ?_⟩, fun i hi => ?_, fun i hi => ?_, by rw [c75, c60], fun i hi => ?_⟩
  · rw [c58] at hi; omega
  · rw [c59] at hi; omega
  · rw [c61] at hi; omega
  · rw [c60] at hi; omega
theorem h01_wm (s : Nat → Int32) (L : Nat) (u : Nat → Option (Nat × Nat)) : Wm (h01 s L u) := by
  obtain ⟨c58, c59, c60, c61, c17, c76, c77, c75, c35, c36, c37, c38, c39, c40⟩ := h01_C s L u
  refine ⟨h01_mR s L u, h01_mN s L u, ⟨by rw [c17]; omega, by rw [c17]; rfl, fun i hi => ?_⟩, ⟨by rw [c35, c17], by rw [c36, c17], by rw [c37, c17], by rw [c38, c17], by rw [c39, c17], by rw [c40, c17]⟩, fun i hi => ?_⟩
  · rw [c17] at hi; omega
  · rw [c17] at hi
    obtain rfl : i = 0 := by omega
    exact ⟨⟨rfl, rfl, rfl, rfl, rfl, rfl⟩, rfl, rfl, rfl, rfl, rfl, rfl⟩
set_option maxRecDepth 100000 in
theorem h01_I (s : Nat → Int32) (L : Nat) (u : Nat → Option (Nat × Nat)) : Inv (h01 s L u) := by
  obtain ⟨c58, c59, c60, c61, c17, -⟩ := h01_C s L u
  obtain ⟨z1, z2⟩ := h01_z s L u
  refine ⟨0, 0, 0, 0, 0, 0, 0, fun _ => [], ⟨h01_wc s L u, h01_wm s L u, c58, c59, c60, c61, c17, by omega, by omega⟩, ⟨⟨rfl, rfl, by omega⟩, ⟨rfl, rfl, by omega⟩, ⟨rfl, rfl, by omega⟩, ⟨rfl, rfl, by omega⟩, ⟨rfl, rfl, by omega⟩⟩, ⟨10, by omega, rfl, rfl⟩, ⟨rfl, rfl, fun z => absurd (show (0 : Int32) = 4 from z) (by decide), fun _ => rfl⟩, fun p hp => by omega, ⟨fun k hk => by omega, fun k _ => rfl⟩, fun e he => by omega, fun p hp => by omega, ⟨fun k hk => by omega, fun k _ => ⟨rfl, rfl, rfl⟩⟩, ⟨by omega, rfl, rfl, fun k hk => by omega⟩, ⟨by omega, rfl, rfl, fun k _ => rfl⟩⟩
theorem lw_run (l : Launch) (Q : zO → zH → Prop) (s : Nat → Int32) (L : Nat) (u : Nat → Option (Nat × Nat)) (hB : L ≤ 3072) (hQ : ∀ h, Inv h → Q (Rv (Vi 1)) h) : Wp l mL_law 41 0 [some (Vq (some (999, 0))), none, none, none] [] (h00 s L u) Q := by
  refine w_new 0 (zat TL_law_0 0 rfl) s0 (by decide) (by decide) rfl zw88 zw89 zw64 (by decide) ?_
  refine w_dup (zat TL_law_0 1 rfl) rfl ?_
  refine x_callu1 (qX11_init0 l (znew (h00 s L u) 0 0 16) 0) (by decide) kX11_init (rdy_I (zat TL_law_0 2 rfl) kX11_init pX11_init rfl rfl rfl zw90 zw91) (Nat.le_of_ble_eq_true rfl) rfl rfl ?_
  refine x_astore_n (ls2 := [_, _, _, _]) (zat TL_law_0 3 rfl) (by decide) rfl ?_
  refine w_new 1 (zat TL_law_0 4 rfl) s1 (by decide) (by decide) rfl zw916 zw917 zw72 (by decide) ?_
  refine w_dup (zat TL_law_0 5 rfl) rfl ?_
  refine x_callu1 (qX14_init0 l (znew (iX11 (znew (h00 s L u) 0 0 16) 0) 1 0 47) 0) (by decide) kX14_init (rdy_I (zat TL_law_0 6 rfl) kX14_init pX14_init rfl rfl rfl zw918 zw919) (Nat.le_of_ble_eq_true rfl) rfl rfl ?_
  refine x_astore_n (ls2 := [_, _, _, _]) (zat TL_law_0 7 rfl) (by decide) rfl ?_
  refine w_iconst (v := 0) (zat TL_law_0 8 rfl) (by decide) ?_
  refine x_istore_n (ls2 := [_, _, _, _]) (zat TL_law_0 9 rfl) (by decide) rfl ?_
  exact lw_loop l Q L hB hQ L 0 (h01 s L u) (h01_I s L u) rfl (by omega) (by omega)
theorem lw_runs (l : Launch) (s : Nat → Int32) (L : Nat) (u : Nat → Option (Nat × Nat)) (hB : L ≤ 3072) : ∃ h', zRn l mL_law 41 0 [some (Vq (some (999, 0))), none, none, none] [] (h00 s L u) (Rv (Vi 1)) h' ∧ zc h' ≤ 600000 ∧ zs h' ≤ 7000000 := by
  obtain ⟨o, h', hr, e, hI⟩ := lw_run l (fun o h => o = Rv (Vi 1) ∧ Inv h) s L u hB (fun h hI => ⟨rfl, hI⟩)
  subst e
  obtain ⟨nP, nB, nE, nS, Y, N, nT, pg, hK, hN1, -⟩ := hI
  obtain ⟨-, -, -, -, -, -, -, kz, ks⟩ := hK
  obtain ⟨⟨-, -, p2⟩, ⟨-, -, b2⟩, ⟨-, -, s2⟩, -, ⟨-, -, e2⟩⟩ := hN1
  exact ⟨h', hr, by omega, by omega⟩
