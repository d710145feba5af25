-- constructors, by program (wip/gen/p89.py)
def iX6 (h : zH) (i : Nat) : zH :=
  let a1 : zH := znew h 78 32 32
  let a2 : zH := zsR a1 63 i 0 (some (78, (zC h 78)))
  let a3 : zH := zsI a2 63 i 1 0
  let a4 : zH := zsI a3 63 i 2 0
  let a5 : zH := zsI a4 63 i 3 0
  let a6 : zH := zsI a5 63 i 4 0
  let a7 : zH := zsI a6 63 i 5 0
  a7
theorem qX6_init0 (l : Launch) (h : zH) (i : Nat) : Cx l 2 mX6_init [Vq (some (63, i))] h R0 (iX6 h i) := by
  refine Ct.in 0 kX6_init (plainFor_of_name rfl) (Nat.le_of_ble_eq_true rfl) ?_
  refine w_aload_n (zat TX6_init 0 rfl) rfl ?_
  refine w_objInit (zat TX6_init 1 rfl) zw181 zw94 zw95 (Nat.le_of_ble_eq_true rfl) (by decide) ?_
  refine w_aload_n (zat TX6_init 2 rfl) rfl ?_
  refine w_bipush (v := 32) (zat TX6_init 3 rfl) (by decide) ?_
  refine w_newarr 78 32 (zat TX6_init 4 rfl) s78 (Or.inl rfl) (by decide) rfl zw143 (by decide) (by decide) ?_
  refine w_putR (zat TX6_init 5 rfl) gX6_init_11 s63 (by decide) (by decide) rfl (fun x => by cases x <;> exact ⟨rfl, rfl⟩) ?_
  refine w_aload_n (zat TX6_init 6 rfl) rfl ?_
  refine w_iconst (v := 0) (zat TX6_init 7 rfl) (by decide) ?_
  refine w_putI (zat TX6_init 8 rfl) gX6_init_15 s63 (by decide) (by decide) rfl ⟨rfl, rfl⟩ ?_
  refine w_aload_n (zat TX6_init 9 rfl) rfl ?_
  refine w_iconst (v := 0) (zat TX6_init 10 rfl) (by decide) ?_
  refine w_putI (zat TX6_init 11 rfl) gX6_init_19 s63 (by decide) (by decide) rfl ⟨rfl, rfl⟩ ?_
  refine w_aload_n (zat TX6_init 12 rfl) rfl ?_
  refine w_iconst (v := 0) (zat TX6_init 13 rfl) (by decide) ?_
  refine w_putI (zat TX6_init 14 rfl) gX6_init_22 s63 (by decide) (by decide) rfl ⟨rfl, rfl⟩ ?_
  refine w_aload_n (zat TX6_init 15 rfl) rfl ?_
  refine w_iconst (v := 0) (zat TX6_init 16 rfl) (by decide) ?_
  refine w_putI (zat TX6_init 17 rfl) gX6_init_25 s63 (by decide) (by decide) rfl ⟨rfl, rfl⟩ ?_
  refine w_aload_n (zat TX6_init 18 rfl) rfl ?_
  refine w_iconst (v := 0) (zat TX6_init 19 rfl) (by decide) ?_
  refine w_putI (zat TX6_init 20 rfl) gX6_init_28 s63 (by decide) (by decide) rfl ⟨rfl, rfl⟩ ?_
  refine w_return (zat TX6_init 21 rfl) rfl ?_
  exact ⟨rfl, rfl⟩
def iX8 (h : zH) (i : Nat) : zH :=
  let a1 : zH := znew h 79 300 300
  let a2 : zH := zsR a1 53 i 0 (some (79, (zC h 79)))
  let a3 : zH := zsI a2 53 i 1 0
  a3
theorem qX8_init0 (l : Launch) (h : zH) (i : Nat) : Cx l 2 mX8_init [Vq (some (53, i))] h R0 (iX8 h i) := by
  refine Ct.in 0 kX8_init (plainFor_of_name rfl) (Nat.le_of_ble_eq_true rfl) ?_
  refine w_aload_n (zat TX8_init 0 rfl) rfl ?_
  refine w_objInit (zat TX8_init 1 rfl) zw107 zw94 zw95 (Nat.le_of_ble_eq_true rfl) (by decide) ?_
  refine w_aload_n (zat TX8_init 2 rfl) rfl ?_
  refine w_sipush (v := 300) (zat TX8_init 3 rfl) (by decide) ?_
  refine w_newarr 79 300 (zat TX8_init 4 rfl) s79 (Or.inr (Or.inr (Or.inl rfl))) (by decide) rfl zw117 (by decide) (by decide) ?_
  refine w_putR (zat TX8_init 5 rfl) gX8_init_9 s53 (by decide) (by decide) rfl (fun x => by cases x <;> exact ⟨rfl, rfl⟩) ?_
  refine w_aload_n (zat TX8_init 6 rfl) rfl ?_
  refine w_iconst (v := 0) (zat TX8_init 7 rfl) (by decide) ?_
  refine w_putI (zat TX8_init 8 rfl) gX8_init_15 s53 (by decide) (by decide) rfl ⟨rfl, rfl⟩ ?_
  refine w_return (zat TX8_init 9 rfl) rfl ?_
  exact ⟨rfl, rfl⟩
def iX9 (h : zH) (i : Nat) : zH :=
  let a1 : zH := znew h 80 301 301
  let a2 : zH := zsR a1 73 i 0 (some (80, (zC h 80)))
  let a3 : zH := znew a2 81 301 301
  let a4 : zH := zsR a3 73 i 1 (some (81, (zC a2 81)))
  let a5 : zH := zsI a4 73 i 2 0
  a5
theorem qX9_init0 (l : Launch) (h : zH) (i : Nat) : Cx l 2 mX9_init [Vq (some (73, i))] h R0 (iX9 h i) := by
  refine Ct.in 0 kX9_init (plainFor_of_name rfl) (Nat.le_of_ble_eq_true rfl) ?_
  refine w_aload_n (zat TX9_init 0 rfl) rfl ?_
  refine w_objInit (zat TX9_init 1 rfl) zw129 zw94 zw95 (Nat.le_of_ble_eq_true rfl) (by decide) ?_
  refine w_aload_n (zat TX9_init 2 rfl) rfl ?_
  refine w_sipush (v := 301) (zat TX9_init 3 rfl) (by decide) ?_
  refine w_newarr 80 301 (zat TX9_init 4 rfl) s80 (Or.inl rfl) (by decide) rfl zw143 (by decide) (by decide) ?_
  refine w_putR (zat TX9_init 5 rfl) gX9_init_9 s73 (by decide) (by decide) rfl (fun x => by cases x <;> exact ⟨rfl, rfl⟩) ?_
  refine w_aload_n (zat TX9_init 6 rfl) rfl ?_
  refine w_sipush (v := 301) (zat TX9_init 7 rfl) (by decide) ?_
  refine w_newarr 81 301 (zat TX9_init 8 rfl) s81 (Or.inl rfl) (by decide) rfl zw143 (by decide) (by decide) ?_
  refine w_putR (zat TX9_init 9 rfl) gX9_init_15 s73 (by decide) (by decide) rfl (fun x => by cases x <;> exact ⟨rfl, rfl⟩) ?_
  refine w_aload_n (zat TX9_init 10 rfl) rfl ?_
  refine w_iconst (v := 0) (zat TX9_init 11 rfl) (by decide) ?_
  refine w_putI (zat TX9_init 12 rfl) gX9_init_18 s73 (by decide) (by decide) rfl ⟨rfl, rfl⟩ ?_
  refine w_return (zat TX9_init 13 rfl) rfl ?_
  exact ⟨rfl, rfl⟩
def iX10 (h : zH) (i : Nat) : zH :=
  let a1 : zH := znew h 82 3 3
  let a2 : zH := zsR a1 57 i 0 (some (82, (zC h 82)))
  let a3 : zH := znew a2 83 16 16
  let a4 : zH := zsR a3 57 i 1 (some (83, (zC a2 83)))
  let a5 : zH := zsI a4 57 i 2 0
  let a6 : zH := zsI a5 57 i 3 0
  a6
theorem qX10_init0 (l : Launch) (h : zH) (i : Nat) : Cx l 2 mX10_init [Vq (some (57, i))] h R0 (iX10 h i) := by
  refine Ct.in 0 kX10_init (plainFor_of_name rfl) (Nat.le_of_ble_eq_true rfl) ?_
  refine w_aload_n (zat TX10_init 0 rfl) rfl ?_
  refine w_objInit (zat TX10_init 1 rfl) zw270 zw94 zw95 (Nat.le_of_ble_eq_true rfl) (by decide) ?_
  refine w_aload_n (zat TX10_init 2 rfl) rfl ?_
  refine w_iconst (v := 3) (zat TX10_init 3 rfl) (by decide) ?_
  refine w_newarr 82 3 (zat TX10_init 4 rfl) s82 (Or.inl rfl) (by decide) rfl zw143 (by decide) (by decide) ?_
  refine w_putR (zat TX10_init 5 rfl) gX10_init_9 s57 (by decide) (by decide) rfl (fun x => by cases x <;> exact ⟨rfl, rfl⟩) ?_
  refine w_aload_n (zat TX10_init 6 rfl) rfl ?_
  refine w_bipush (v := 16) (zat TX10_init 7 rfl) (by decide) ?_
  refine w_newarr 83 16 (zat TX10_init 8 rfl) s83 (Or.inl rfl) (by decide) rfl zw143 (by decide) (by decide) ?_
  refine w_putR (zat TX10_init 9 rfl) gX10_init_15 s57 (by decide) (by decide) rfl (fun x => by cases x <;> exact ⟨rfl, rfl⟩) ?_
  refine w_aload_n (zat TX10_init 10 rfl) rfl ?_
  refine w_iconst (v := 0) (zat TX10_init 11 rfl) (by decide) ?_
  refine w_putI (zat TX10_init 12 rfl) gX10_init_18 s57 (by decide) (by decide) rfl ⟨rfl, rfl⟩ ?_
  refine w_aload_n (zat TX10_init 13 rfl) rfl ?_
  refine w_iconst (v := 0) (zat TX10_init 14 rfl) (by decide) ?_
  refine w_putI (zat TX10_init 15 rfl) gX10_init_22 s57 (by decide) (by decide) rfl ⟨rfl, rfl⟩ ?_
  refine w_return (zat TX10_init 16 rfl) rfl ?_
  exact ⟨rfl, rfl⟩
def iX3 (h : zH) (i : Nat) : zH :=
  let a1 : zH := znew h 64 10 10
  let a2 : zH := zsR a1 56 i 0 (some (64, (zC h 64)))
  let a3 : zH := znew a2 65 10 10
  let a4 : zH := zsR a3 56 i 1 (some (65, (zC a2 65)))
  let a5 : zH := znew a4 66 10 10
  let a6 : zH := zsR a5 56 i 2 (some (66, (zC a4 66)))
  let a7 : zH := znew a6 67 10 10
  let a8 : zH := zsR a7 56 i 3 (some (67, (zC a6 67)))
  let a9 : zH := znew a8 68 10 10
  let a10 : zH := zsR a9 56 i 4 (some (68, (zC a8 68)))
  let a11 : zH := znew a10 69 10 10
  let a12 : zH := zsR a11 56 i 5 (some (69, (zC a10 69)))
  let a13 : zH := znew a12 70 16 16
  let a14 : zH := zsR a13 56 i 6 (some (70, (zC a12 70)))
  let a15 : zH := znew a14 71 16 16
  let a16 : zH := zsR a15 56 i 7 (some (71, (zC a14 71)))
  let a17 : zH := znew a16 72 16 16
  let a18 : zH := zsR a17 56 i 8 (some (72, (zC a16 72)))
  let a19 : zH := zsI a18 56 i 9 0
  let a20 : zH := zsI a19 56 i 10 0
  let a21 : zH := zsI a20 56 i 11 0
  a21
theorem qX3_init0 (l : Launch) (h : zH) (i : Nat) : Cx l 2 mX3_init [Vq (some (56, i))] h R0 (iX3 h i) := by
  refine Ct.in 0 kX3_init (plainFor_of_name rfl) (Nat.le_of_ble_eq_true rfl) ?_
  refine w_aload_n (zat TX3_init 0 rfl) rfl ?_
  refine w_objInit (zat TX3_init 1 rfl) zw221 zw94 zw95 (Nat.le_of_ble_eq_true rfl) (by decide) ?_
  refine w_aload_n (zat TX3_init 2 rfl) rfl ?_
  refine w_bipush (v := 10) (zat TX3_init 3 rfl) (by decide) ?_
  refine w_newarr 64 10 (zat TX3_init 4 rfl) s64 (Or.inl rfl) (by decide) rfl zw143 (by decide) (by decide) ?_
  refine w_putR (zat TX3_init 5 rfl) gX3_init_9 s56 (by decide) (by decide) rfl (fun x => by cases x <;> exact ⟨rfl, rfl⟩) ?_
  refine w_aload_n (zat TX3_init 6 rfl) rfl ?_
  refine w_bipush (v := 10) (zat TX3_init 7 rfl) (by decide) ?_
  refine w_newarr 65 10 (zat TX3_init 8 rfl) s65 (Or.inr (Or.inl rfl)) (by decide) rfl zw264 (by decide) (by decide) ?_
  refine w_putR (zat TX3_init 9 rfl) gX3_init_15 s56 (by decide) (by decide) rfl (fun x => by cases x <;> exact ⟨rfl, rfl⟩) ?_
  refine w_aload_n (zat TX3_init 10 rfl) rfl ?_
  refine w_bipush (v := 10) (zat TX3_init 11 rfl) (by decide) ?_
  refine w_newarr 66 10 (zat TX3_init 12 rfl) s66 (Or.inr (Or.inl rfl)) (by decide) rfl zw264 (by decide) (by decide) ?_
  refine w_putR (zat TX3_init 13 rfl) gX3_init_19 s56 (by decide) (by decide) rfl (fun x => by cases x <;> exact ⟨rfl, rfl⟩) ?_
  refine w_aload_n (zat TX3_init 14 rfl) rfl ?_
  refine w_bipush (v := 10) (zat TX3_init 15 rfl) (by decide) ?_
  refine w_newarr 67 10 (zat TX3_init 16 rfl) s67 (Or.inl rfl) (by decide) rfl zw143 (by decide) (by decide) ?_
  refine w_putR (zat TX3_init 17 rfl) gX3_init_22 s56 (by decide) (by decide) rfl (fun x => by cases x <;> exact ⟨rfl, rfl⟩) ?_
  refine w_aload_n (zat TX3_init 18 rfl) rfl ?_
  refine w_bipush (v := 10) (zat TX3_init 19 rfl) (by decide) ?_
  refine w_newarr 68 10 (zat TX3_init 20 rfl) s68 (Or.inl rfl) (by decide) rfl zw143 (by decide) (by decide) ?_
  refine w_putR (zat TX3_init 21 rfl) gX3_init_25 s56 (by decide) (by decide) rfl (fun x => by cases x <;> exact ⟨rfl, rfl⟩) ?_
  refine w_aload_n (zat TX3_init 22 rfl) rfl ?_
  refine w_bipush (v := 10) (zat TX3_init 23 rfl) (by decide) ?_
  refine w_newarr 69 10 (zat TX3_init 24 rfl) s69 (Or.inl rfl) (by decide) rfl zw143 (by decide) (by decide) ?_
  refine w_putR (zat TX3_init 25 rfl) gX3_init_28 s56 (by decide) (by decide) rfl (fun x => by cases x <;> exact ⟨rfl, rfl⟩) ?_
  refine w_aload_n (zat TX3_init 26 rfl) rfl ?_
  refine w_bipush (v := 16) (zat TX3_init 27 rfl) (by decide) ?_
  refine w_newarr 70 16 (zat TX3_init 28 rfl) s70 (Or.inl rfl) (by decide) rfl zw143 (by decide) (by decide) ?_
  refine w_putR (zat TX3_init 29 rfl) gX3_init_31 s56 (by decide) (by decide) rfl (fun x => by cases x <;> exact ⟨rfl, rfl⟩) ?_
  refine w_aload_n (zat TX3_init 30 rfl) rfl ?_
  refine w_bipush (v := 16) (zat TX3_init 31 rfl) (by decide) ?_
  refine w_newarr 71 16 (zat TX3_init 32 rfl) s71 (Or.inl rfl) (by decide) rfl zw143 (by decide) (by decide) ?_
  refine w_putR (zat TX3_init 33 rfl) gX3_init_34 s56 (by decide) (by decide) rfl (fun x => by cases x <;> exact ⟨rfl, rfl⟩) ?_
  refine w_aload_n (zat TX3_init 34 rfl) rfl ?_
  refine w_bipush (v := 16) (zat TX3_init 35 rfl) (by decide) ?_
  refine w_newarr 72 16 (zat TX3_init 36 rfl) s72 (Or.inl rfl) (by decide) rfl zw143 (by decide) (by decide) ?_
  refine w_putR (zat TX3_init 37 rfl) gX3_init_37 s56 (by decide) (by decide) rfl (fun x => by cases x <;> exact ⟨rfl, rfl⟩) ?_
  refine w_aload_n (zat TX3_init 38 rfl) rfl ?_
  refine w_iconst (v := 0) (zat TX3_init 39 rfl) (by decide) ?_
  refine w_putI (zat TX3_init 40 rfl) gX3_init_40 s56 (by decide) (by decide) rfl ⟨rfl, rfl⟩ ?_
  refine w_aload_n (zat TX3_init 41 rfl) rfl ?_
  refine w_iconst (v := 0) (zat TX3_init 42 rfl) (by decide) ?_
  refine w_putI (zat TX3_init 43 rfl) gX3_init_44 s56 (by decide) (by decide) rfl ⟨rfl, rfl⟩ ?_
  refine w_aload_n (zat TX3_init 44 rfl) rfl ?_
  refine w_iconst (v := 0) (zat TX3_init 45 rfl) (by decide) ?_
  refine w_putI (zat TX3_init 46 rfl) gX3_init_47 s56 (by decide) (by decide) rfl ⟨rfl, rfl⟩ ?_
  refine w_return (zat TX3_init 47 rfl) rfl ?_
  exact ⟨rfl, rfl⟩
def iX2 (h : zH) (i : Nat) : zH :=
  let a1 : zH := znew h 62 30 30
  let a2 : zH := zsR a1 55 i 0 (some (62, (zC h 62)))
  let a3 : zH := znew a2 63 0 6
  let a4 : zH := iX6 a3 (zC a2 63)
  let a5 : zH := zsR a4 55 i 1 (some (63, (zC a2 63)))
  let a6 : zH := zsI a5 55 i 2 0
  a6
theorem qX2_init0 (l : Launch) (h : zH) (i : Nat) : Cx l 3 mX2_init [Vq (some (55, i))] h R0 (iX2 h i) := by
  refine Ct.in 0 kX2_init (plainFor_of_name rfl) (Nat.le_of_ble_eq_true rfl) ?_
  refine w_aload_n (zat TX2_init 0 rfl) rfl ?_
  refine w_objInit (zat TX2_init 1 rfl) zw173 zw94 zw95 (Nat.le_of_ble_eq_true rfl) (by decide) ?_
  refine w_aload_n (zat TX2_init 2 rfl) rfl ?_
  refine w_bipush (v := 30) (zat TX2_init 3 rfl) (by decide) ?_
  refine w_anewarr (ci := 1) 62 30 (zat TX2_init 4 rfl) s62 (by decide) rfl zw174 zw175 (by decide) (by decide) ?_
  refine w_putR (zat TX2_init 5 rfl) gX2_init_11 s55 (by decide) (by decide) rfl (fun x => by cases x <;> exact ⟨rfl, rfl⟩) ?_
  refine w_aload_n (zat TX2_init 6 rfl) rfl ?_
  refine w_new 63 (zat TX2_init 7 rfl) s63 (by decide) (by decide) rfl zw176 zw177 zw69 (by decide) ?_
  refine w_dup (zat TX2_init 8 rfl) rfl ?_
  refine x_callu1 (qX6_init0 l _ _) (by decide) kX6_init (rdy_IN (zat TX2_init 9 rfl) kX6_init pX6_init rfl rfl rfl zw178 zw179) (Nat.le_of_ble_eq_true rfl) rfl rfl ?_
  refine w_putR (zat TX2_init 10 rfl) gX2_init_20 s55 (by decide) (by decide) rfl (fun x => by cases x <;> exact ⟨rfl, rfl⟩) ?_
  refine w_aload_n (zat TX2_init 11 rfl) rfl ?_
  refine w_iconst (v := 0) (zat TX2_init 12 rfl) (by decide) ?_
  refine w_putI (zat TX2_init 13 rfl) gX2_init_24 s55 (by decide) (by decide) rfl ⟨rfl, rfl⟩ ?_
  refine w_return (zat TX2_init 14 rfl) rfl ?_
  exact ⟨rfl, rfl⟩
def iX4 (h : zH) (i : Nat) : zH :=
  let a1 : zH := znew h 73 0 3
  let a2 : zH := iX9 a1 (zC h 73)
  let a3 : zH := zsR a2 54 i 0 (some (73, (zC h 73)))
  let a4 : zH := znew a3 74 301 301
  let a5 : zH := zsR a4 54 i 1 (some (74, (zC a3 74)))
  let a6 : zH := zsI a5 54 i 2 0
  let a7 : zH := zsI a6 54 i 3 0
  let a8 : zH := zsI a7 54 i 4 0
  let a9 : zH := zsI a8 54 i 5 0
  let a10 : zH := zsI a9 54 i 6 (-1)
  a10
theorem qX4_init0 (l : Launch) (h : zH) (i : Nat) : Cx l 3 mX4_init [Vq (some (54, i))] h R0 (iX4 h i) := by
  refine Ct.in 0 kX4_init (plainFor_of_name rfl) (Nat.le_of_ble_eq_true rfl) ?_
  refine w_aload_n (zat TX4_init 0 rfl) rfl ?_
  refine w_objInit (zat TX4_init 1 rfl) zw123 zw94 zw95 (Nat.le_of_ble_eq_true rfl) (by decide) ?_
  refine w_aload_n (zat TX4_init 2 rfl) rfl ?_
  refine w_new 73 (zat TX4_init 3 rfl) s73 (by decide) (by decide) rfl zw124 zw125 zw67 (by decide) ?_
  refine w_dup (zat TX4_init 4 rfl) rfl ?_
  refine x_callu1 (qX9_init0 l _ _) (by decide) kX9_init (rdy_IN (zat TX4_init 5 rfl) kX9_init pX9_init rfl rfl rfl zw126 zw127) (Nat.le_of_ble_eq_true rfl) rfl rfl ?_
  refine w_putR (zat TX4_init 6 rfl) gX4_init_12 s54 (by decide) (by decide) rfl (fun x => by cases x <;> exact ⟨rfl, rfl⟩) ?_
  refine w_aload_n (zat TX4_init 7 rfl) rfl ?_
  refine w_sipush (v := 301) (zat TX4_init 8 rfl) (by decide) ?_
  refine w_newarr 74 301 (zat TX4_init 9 rfl) s74 (Or.inl rfl) (by decide) rfl zw143 (by decide) (by decide) ?_
  refine w_putR (zat TX4_init 10 rfl) gX4_init_18 s54 (by decide) (by decide) rfl (fun x => by cases x <;> exact ⟨rfl, rfl⟩) ?_
  refine w_aload_n (zat TX4_init 11 rfl) rfl ?_
  refine w_iconst (v := 0) (zat TX4_init 12 rfl) (by decide) ?_
  refine w_putI (zat TX4_init 13 rfl) gX4_init_22 s54 (by decide) (by decide) rfl ⟨rfl, rfl⟩ ?_
  refine w_aload_n (zat TX4_init 14 rfl) rfl ?_
  refine w_iconst (v := 0) (zat TX4_init 15 rfl) (by decide) ?_
  refine w_putI (zat TX4_init 16 rfl) gX4_init_26 s54 (by decide) (by decide) rfl ⟨rfl, rfl⟩ ?_
  refine w_aload_n (zat TX4_init 17 rfl) rfl ?_
  refine w_iconst (v := 0) (zat TX4_init 18 rfl) (by decide) ?_
  refine w_putI (zat TX4_init 19 rfl) gX4_init_29 s54 (by decide) (by decide) rfl ⟨rfl, rfl⟩ ?_
  refine w_aload_n (zat TX4_init 20 rfl) rfl ?_
  refine w_iconst (v := 0) (zat TX4_init 21 rfl) (by decide) ?_
  refine w_putI (zat TX4_init 22 rfl) gX4_init_32 s54 (by decide) (by decide) rfl ⟨rfl, rfl⟩ ?_
  refine w_aload_n (zat TX4_init 23 rfl) rfl ?_
  refine w_iconst (v := -1) (zat TX4_init 24 rfl) (by decide) ?_
  refine w_putI (zat TX4_init 25 rfl) gX4_init_35 s54 (by decide) (by decide) rfl ⟨rfl, rfl⟩ ?_
  refine w_return (zat TX4_init 26 rfl) rfl ?_
  exact ⟨rfl, rfl⟩
def iX11 (h : zH) (i : Nat) : zH :=
  let a1 : zH := znew h 50 10 10
  let a2 : zH := zsR a1 0 i 0 (some (50, (zC h 50)))
  let a3 : zH := znew a2 51 16 16
  let a4 : zH := zsR a3 0 i 1 (some (51, (zC a2 51)))
  let a5 : zH := znew a4 52 8 8
  let a6 : zH := zsR a5 0 i 2 (some (52, (zC a4 52)))
  let a7 : zH := znew a6 53 0 2
  let a8 : zH := iX8 a7 (zC a6 53)
  let a9 : zH := zsR a8 0 i 3 (some (53, (zC a6 53)))
  let a10 : zH := znew a9 54 0 7
  let a11 : zH := iX4 a10 (zC a9 54)
  let a12 : zH := zsR a11 0 i 4 (some (54, (zC a9 54)))
  let a13 : zH := znew a12 55 0 3
  let a14 : zH := iX2 a13 (zC a12 55)
  let a15 : zH := zsR a14 0 i 5 (some (55, (zC a12 55)))
  let a16 : zH := znew a15 56 0 12
  let a17 : zH := iX3 a16 (zC a15 56)
  let a18 : zH := zsR a17 0 i 6 (some (56, (zC a15 56)))
  let a19 : zH := znew a18 57 0 4
  let a20 : zH := iX10 a19 (zC a18 57)
  let a21 : zH := zsR a20 0 i 7 (some (57, (zC a18 57)))
  let a22 : zH := zsI a21 0 i 8 0
  let a23 : zH := zsI a22 0 i 9 0
  let a24 : zH := zsI a23 0 i 10 0
  let a25 : zH := zsI a24 0 i 11 0
  let a26 : zH := zsI a25 0 i 12 10
  let a27 : zH := zsI a26 0 i 13 0
  let a28 : zH := zsI a27 0 i 14 0
  let a29 : zH := zsI a28 0 i 15 (-1)
  a29
theorem qX11_init0 (l : Launch) (h : zH) (i : Nat) : Cx l 4 mX11_init [Vq (some (0, i))] h R0 (iX11 h i) := by
  refine Ct.in 0 kX11_init (plainFor_of_name rfl) (Nat.le_of_ble_eq_true rfl) ?_
  refine w_aload_n (zat TX11_init_0 0 rfl) rfl ?_
  refine w_objInit (zat TX11_init_0 1 rfl) zw93 zw94 zw95 (Nat.le_of_ble_eq_true rfl) (by decide) ?_
  refine w_aload_n (zat TX11_init_0 2 rfl) rfl ?_
  refine w_bipush (v := 10) (zat TX11_init_0 3 rfl) (by decide) ?_
  refine w_anewarr (ci := 5) 50 10 (zat TX11_init_0 4 rfl) s50 (by decide) rfl zw96 zw97 (by decide) (by decide) ?_
  refine w_putR (zat TX11_init_0 5 rfl) gX11_init_11 s0 (by decide) (by decide) rfl (fun x => by cases x <;> exact ⟨rfl, rfl⟩) ?_
  refine w_aload_n (zat TX11_init_0 6 rfl) rfl ?_
  refine w_bipush (v := 16) (zat TX11_init_0 7 rfl) (by decide) ?_
  refine w_anewarr (ci := 0) 51 16 (zat TX11_init_0 8 rfl) s51 (by decide) rfl zw98 zw99 (by decide) (by decide) ?_
  refine w_putR (zat TX11_init_0 9 rfl) gX11_init_17 s0 (by decide) (by decide) rfl (fun x => by cases x <;> exact ⟨rfl, rfl⟩) ?_
  refine w_aload_n (zat TX11_init_0 10 rfl) rfl ?_
  refine w_bipush (v := 8) (zat TX11_init_0 11 rfl) (by decide) ?_
  refine w_anewarr (ci := 7) 52 8 (zat TX11_init_0 12 rfl) s52 (by decide) rfl zw100 zw101 (by decide) (by decide) ?_
  refine w_putR (zat TX11_init_0 13 rfl) gX11_init_23 s0 (by decide) (by decide) rfl (fun x => by cases x <;> exact ⟨rfl, rfl⟩) ?_
  refine w_aload_n (zat TX11_init_0 14 rfl) rfl ?_
  refine w_new 53 (zat TX11_init_0 15 rfl) s53 (by decide) (by decide) rfl zw102 zw103 zw65 (by decide) ?_
  refine w_dup (zat TX11_init_0 16 rfl) rfl ?_
  refine x_callu1 (qX8_init0 l _ _) (by decide) kX8_init (rdy_IN (zat TX11_init_0 17 rfl) kX8_init pX8_init rfl rfl rfl zw104 zw105) (Nat.le_of_ble_eq_true rfl) rfl rfl ?_
  refine w_putR (zat TX11_init_0 18 rfl) gX11_init_30 s0 (by decide) (by decide) rfl (fun x => by cases x <;> exact ⟨rfl, rfl⟩) ?_
  refine w_aload_n (zat TX11_init_0 19 rfl) rfl ?_
  refine w_new 54 (zat TX11_init_0 20 rfl) s54 (by decide) (by decide) rfl zw118 zw119 zw66 (by decide) ?_
  refine w_dup (zat TX11_init_0 21 rfl) rfl ?_
  refine x_callu1 (qX4_init0 l _ _) (by decide) kX4_init (rdy_IN (zat TX11_init_0 22 rfl) kX4_init pX4_init rfl rfl rfl zw120 zw121) (Nat.le_of_ble_eq_true rfl) rfl rfl ?_
  refine w_putR (zat TX11_init_0 23 rfl) gX11_init_37 s0 (by decide) (by decide) rfl (fun x => by cases x <;> exact ⟨rfl, rfl⟩) ?_
  refine w_aload_n (zat TX11_init_0 24 rfl) rfl ?_
  refine w_new 55 (zat TX11_init_0 25 rfl) s55 (by decide) (by decide) rfl zw168 zw169 zw68 (by decide) ?_
  refine w_dup (zat TX11_init_0 26 rfl) rfl ?_
  refine x_callu1 (qX2_init0 l _ _) (by decide) kX2_init (rdy_IN (zat TX11_init_0 27 rfl) kX2_init pX2_init rfl rfl rfl zw170 zw171) (Nat.le_of_ble_eq_true rfl) rfl rfl ?_
  refine w_putR (zat TX11_init_0 28 rfl) gX11_init_44 s0 (by decide) (by decide) rfl (fun x => by cases x <;> exact ⟨rfl, rfl⟩) ?_
  refine w_aload_n (zat TX11_init_0 29 rfl) rfl ?_
  refine w_new 56 (zat TX11_init_0 30 rfl) s56 (by decide) (by decide) rfl zw216 zw217 zw70 (by decide) ?_
  refine w_dup (zat TX11_init_0 31 rfl) rfl ?_
  refine x_callu1 (qX3_init0 l _ _) (by decide) kX3_init (rdy_IN (zat TX11_init_0 32 rfl) kX3_init pX3_init rfl rfl rfl zw218 zw219) (Nat.le_of_ble_eq_true rfl) rfl rfl ?_
  refine w_putR (zat TX11_init_0 33 rfl) gX11_init_51 s0 (by decide) (by decide) rfl (fun x => by cases x <;> exact ⟨rfl, rfl⟩) ?_
  refine w_aload_n (zat TX11_init_0 34 rfl) rfl ?_
  refine w_new 57 (zat TX11_init_0 35 rfl) s57 (by decide) (by decide) rfl zw265 zw266 zw71 (by decide) ?_
  refine w_dup (zat TX11_init_0 36 rfl) rfl ?_
  refine x_callu1 (qX10_init0 l _ _) (by decide) kX10_init (rdy_IN (zat TX11_init_0 37 rfl) kX10_init pX10_init rfl rfl rfl zw267 zw268) (Nat.le_of_ble_eq_true rfl) rfl rfl ?_
  refine w_putR (zat TX11_init_0 38 rfl) gX11_init_58 s0 (by decide) (by decide) rfl (fun x => by cases x <;> exact ⟨rfl, rfl⟩) ?_
  refine w_aload_n (zat TX11_init_0 39 rfl) rfl ?_
  refine w_iconst (v := 0) (zat TX11_init_0 40 rfl) (by decide) ?_
  refine w_putI (zat TX11_init_0 41 rfl) gX11_init_62 s0 (by decide) (by decide) rfl ⟨rfl, rfl⟩ ?_
  refine w_aload_n (zat TX11_init_0 42 rfl) rfl ?_
  refine w_iconst (v := 0) (zat TX11_init_0 43 rfl) (by decide) ?_
  refine w_putI (zat TX11_init_0 44 rfl) gX11_init_66 s0 (by decide) (by decide) rfl ⟨rfl, rfl⟩ ?_
  refine w_aload_n (zat TX11_init_0 45 rfl) rfl ?_
  refine w_iconst (v := 0) (zat TX11_init_0 46 rfl) (by decide) ?_
  refine w_putI (zat TX11_init_0 47 rfl) gX11_init_69 s0 (by decide) (by decide) rfl ⟨rfl, rfl⟩ ?_
  refine w_aload_n (zat TX11_init_0 48 rfl) rfl ?_
  refine w_iconst (v := 0) (zat TX11_init_0 49 rfl) (by decide) ?_
  refine w_putI (zat TX11_init_0 50 rfl) gX11_init_72 s0 (by decide) (by decide) rfl ⟨rfl, rfl⟩ ?_
  refine w_aload_n (zat TX11_init_0 51 rfl) rfl ?_
  refine w_bipush (v := 10) (zat TX11_init_0 52 rfl) (by decide) ?_
  refine w_putI (zat TX11_init_0 53 rfl) gX11_init_75 s0 (by decide) (by decide) rfl ⟨rfl, rfl⟩ ?_
  refine w_aload_n (zat TX11_init_0 54 rfl) rfl ?_
  refine w_iconst (v := 0) (zat TX11_init_0 55 rfl) (by decide) ?_
  refine w_putI (zat TX11_init_0 56 rfl) gX11_init_78 s0 (by decide) (by decide) rfl ⟨rfl, rfl⟩ ?_
  refine w_aload_n (zat TX11_init_0 57 rfl) rfl ?_
  refine w_iconst (v := 0) (zat TX11_init_0 58 rfl) (by decide) ?_
  refine w_putI (zat TX11_init_0 59 rfl) gX11_init_81 s0 (by decide) (by decide) rfl ⟨rfl, rfl⟩ ?_
  refine w_aload_n (zat TX11_init_1 0 rfl) rfl ?_
  refine w_iconst (v := -1) (zat TX11_init_1 1 rfl) (by decide) ?_
  refine w_putI (zat TX11_init_1 2 rfl) gX11_init_84 s0 (by decide) (by decide) rfl ⟨rfl, rfl⟩ ?_
  refine w_return (zat TX11_init_1 3 rfl) rfl ?_
  exact ⟨rfl, rfl⟩
def iX12 (h : zH) (i : Nat) : zH :=
  let a1 : zH := znew h 35 12 12
  let a2 : zH := zsR a1 17 i 4 (some (35, (zC h 35)))
  let a3 : zH := znew a2 36 12 12
  let a4 : zH := zsR a3 17 i 5 (some (36, (zC a2 36)))
  let a5 : zH := znew a4 37 12 12
  let a6 : zH := zsR a5 17 i 6 (some (37, (zC a4 37)))
  let a7 : zH := znew a6 38 12 12
  let a8 : zH := zsR a7 17 i 7 (some (38, (zC a6 38)))
  let a9 : zH := znew a8 39 320 320
  let a10 : zH := zsR a9 17 i 8 (some (39, (zC a8 39)))
  let a11 : zH := znew a10 40 320 320
  let a12 : zH := zsR a11 17 i 9 (some (40, (zC a10 40)))
  a12
theorem qX12_init0 (l : Launch) (h : zH) (i : Nat) : Cx l 2 mX12_init [Vq (some (17, i))] h R0 (iX12 h i) := by
  refine Ct.in 0 kX12_init (plainFor_of_name rfl) (Nat.le_of_ble_eq_true rfl) ?_
  refine w_aload_n (zat TX12_init 0 rfl) rfl ?_
  refine w_objInit (zat TX12_init 1 rfl) zw928 zw94 zw95 (Nat.le_of_ble_eq_true rfl) (by decide) ?_
  refine w_aload_n (zat TX12_init 2 rfl) rfl ?_
  refine w_bipush (v := 12) (zat TX12_init 3 rfl) (by decide) ?_
  refine w_newarr 35 12 (zat TX12_init 4 rfl) s35 (Or.inr (Or.inr (Or.inr rfl))) (by decide) rfl zw967 (by decide) (by decide) ?_
  refine w_putR (zat TX12_init 5 rfl) gX12_init_9 s17 (by decide) (by decide) rfl (fun x => by cases x <;> exact ⟨rfl, rfl⟩) ?_
  refine w_aload_n (zat TX12_init 6 rfl) rfl ?_
  refine w_bipush (v := 12) (zat TX12_init 7 rfl) (by decide) ?_
  refine w_newarr 36 12 (zat TX12_init 8 rfl) s36 (Or.inl rfl) (by decide) rfl zw143 (by decide) (by decide) ?_
  refine w_putR (zat TX12_init 9 rfl) gX12_init_15 s17 (by decide) (by decide) rfl (fun x => by cases x <;> exact ⟨rfl, rfl⟩) ?_
  refine w_aload_n (zat TX12_init 10 rfl) rfl ?_
  refine w_bipush (v := 12) (zat TX12_init 11 rfl) (by decide) ?_
  refine w_newarr 37 12 (zat TX12_init 12 rfl) s37 (Or.inl rfl) (by decide) rfl zw143 (by decide) (by decide) ?_
  refine w_putR (zat TX12_init 13 rfl) gX12_init_19 s17 (by decide) (by decide) rfl (fun x => by cases x <;> exact ⟨rfl, rfl⟩) ?_
  refine w_aload_n (zat TX12_init 14 rfl) rfl ?_
  refine w_bipush (v := 12) (zat TX12_init 15 rfl) (by decide) ?_
  refine w_newarr 38 12 (zat TX12_init 16 rfl) s38 (Or.inl rfl) (by decide) rfl zw143 (by decide) (by decide) ?_
  refine w_putR (zat TX12_init 17 rfl) gX12_init_22 s17 (by decide) (by decide) rfl (fun x => by cases x <;> exact ⟨rfl, rfl⟩) ?_
  refine w_aload_n (zat TX12_init 18 rfl) rfl ?_
  refine w_sipush (v := 320) (zat TX12_init 19 rfl) (by decide) ?_
  refine w_newarr 39 320 (zat TX12_init 20 rfl) s39 (Or.inl rfl) (by decide) rfl zw143 (by decide) (by decide) ?_
  refine w_putR (zat TX12_init 21 rfl) gX12_init_25 s17 (by decide) (by decide) rfl (fun x => by cases x <;> exact ⟨rfl, rfl⟩) ?_
  refine w_aload_n (zat TX12_init 22 rfl) rfl ?_
  refine w_sipush (v := 320) (zat TX12_init 23 rfl) (by decide) ?_
  refine w_newarr 40 320 (zat TX12_init 24 rfl) s40 (Or.inl rfl) (by decide) rfl zw143 (by decide) (by decide) ?_
  refine w_putR (zat TX12_init 25 rfl) gX12_init_28 s17 (by decide) (by decide) rfl (fun x => by cases x <;> exact ⟨rfl, rfl⟩) ?_
  refine w_return (zat TX12_init 26 rfl) rfl ?_
  exact ⟨rfl, rfl⟩
def iX13 (h : zH) (i : Nat) : zH :=
  let a1 : zH := zsR h 18 i 0 (some (18, i))
  let a2 : zH := zsR a1 18 i 1 (zR h 998 0 0)
  let a3 : zH := zsR a2 18 i 2 (zR h 998 0 1)
  let a4 : zH := zsR a3 18 i 1 none
  let a5 : zH := zsR a4 18 i 3 none
  let a6 : zH := zsR a5 18 i 0 none
  zsR a6 18 i 2 none
theorem qJT_init (l : Launch) (h : zH) (i : Nat) : Cx l 2 mJT_init [Vq (some (18, i)), Vq none, Vq none, Vi 0, Vi 0] h R0 (iX13 h i) := by
  refine Ct.in 0 kJT_init pnJT_init (Nat.le_of_ble_eq_true rfl) ?_
  refine w_aload_n (zat TJT_init 0 rfl) rfl ?_
  refine w_objInit (zat TJT_init 1 rfl) zw993 zw94 zw95 (Nat.le_of_ble_eq_true rfl) (by decide) ?_
  refine w_aload_n (zat TJT_init 2 rfl) rfl ?_
  refine w_aload_n (zat TJT_init 3 rfl) rfl ?_
  refine w_putR (zat TJT_init 4 rfl) gJT_init_7 s18 (by decide) (by decide) rfl (fun x => by cases x <;> exact ⟨rfl, rfl⟩) ?_
  refine w_aload_n (zat TJT_init 5 rfl) rfl ?_
  refine w_getsU 0 (by decide) (zat TJT_init 6 rfl) zw994 ?_
  refine w_putR (zat TJT_init 7 rfl) gJT_init_17 s18 (by decide) (by decide) rfl (fun x => by cases x <;> exact ⟨rfl, rfl⟩) ?_
  refine w_aload_n (zat TJT_init 8 rfl) rfl ?_
  refine w_getsU 1 (by decide) (zat TJT_init 9 rfl) zw996 ?_
  refine w_putR (zat TJT_init 10 rfl) gJT_init_24 s18 (by decide) (by decide) rfl (fun x => by cases x <;> exact ⟨rfl, rfl⟩) ?_
  refine w_iload (zat TJT_init 11 rfl) rfl ?_
  refine w_if_eq 36 (zat TJT_init 12 rfl) (by decide) (fun Hc25 => ?_) (fun Hc25 => ?_)
  · refine w_aload_n (zat TJT_init 17 rfl) rfl ?_
    refine w_null (zat TJT_init 18 rfl) ?_
    refine w_putR (zat TJT_init 19 rfl) gJT_init_17 s18 (by decide) (by decide) rfl (fun x => by cases x <;> exact ⟨rfl, rfl⟩) ?_
    refine w_aload_n (zat TJT_init 20 rfl) rfl ?_
    refine w_aload_n (zat TJT_init 21 rfl) rfl ?_
    refine w_putR (zat TJT_init 22 rfl) gJT_init_31 s18 (by decide) (by decide) rfl (fun x => by cases x <;> exact ⟨rfl, rfl⟩) ?_
    refine w_aload_n (zat TJT_init 23 rfl) rfl ?_
    refine w_aload_n (zat TJT_init 24 rfl) rfl ?_
    refine w_putR (zat TJT_init 25 rfl) gJT_init_7 s18 (by decide) (by decide) rfl (fun x => by cases x <;> exact ⟨rfl, rfl⟩) ?_
    refine w_iload_n (zat TJT_init 26 rfl) rfl ?_
    refine w_if_ne 60 (zat TJT_init 27 rfl) (by decide) (fun Hc52 => ?_) (fun Hc52 => ?_)
    · exact absurd rfl Hc52
    · refine w_aload_n (zat TJT_init 28 rfl) rfl ?_
      refine w_null (zat TJT_init 29 rfl) ?_
      refine w_putR (zat TJT_init 30 rfl) gJT_init_24 s18 (by decide) (by decide) rfl (fun x => by cases x <;> exact ⟨rfl, rfl⟩) ?_
      refine w_return (zat TJT_init 31 rfl) rfl ?_
      exact ⟨rfl, rfl⟩
  · exact absurd rfl Hc25
theorem qJE_init (l : Launch) (h : zH) (i : Nat) : Cx l 3 mJE_init [Vq (some (18, i)), Vq none, Vq none, Vi 0, Vi 0] h R0 (iX13 h i) := by
  refine Ct.in 0 kJE_init pnJE_init (Nat.le_of_ble_eq_true rfl) ?_
  refine w_aload_n (zat TJE_init 0 rfl) rfl ?_
  refine w_aload_n (zat TJE_init 1 rfl) rfl ?_
  refine w_aload_n (zat TJE_init 2 rfl) rfl ?_
  refine w_iload_n (zat TJE_init 3 rfl) rfl ?_
  refine w_iload (zat TJE_init 4 rfl) rfl ?_
  refine x_callu5 (qJT_init l h i) (by decide) kJT_init (rdy_I (zat TJE_init 5 rfl) kJT_init pJT_init rfl rfl rfl zw1016 zw1017) (Nat.le_of_ble_eq_true rfl) rfl rfl ?_
  refine w_return (zat TJE_init 6 rfl) rfl ?_
  exact ⟨rfl, rfl⟩
theorem qJR_init (l : Launch) (h : zH) (i : Nat) : Cx l 4 mJR_init [Vq (some (18, i)), Vq none, Vq none, Vi 0, Vi 0] h R0 (iX13 h i) := by
  refine Ct.in 0 kJR_init pnJR_init (Nat.le_of_ble_eq_true rfl) ?_
  refine w_aload_n (zat TJR_init 0 rfl) rfl ?_
  refine w_aload_n (zat TJR_init 1 rfl) rfl ?_
  refine w_aload_n (zat TJR_init 2 rfl) rfl ?_
  refine w_iload_n (zat TJR_init 3 rfl) rfl ?_
  refine w_iload (zat TJR_init 4 rfl) rfl ?_
  refine x_callu5 (qJE_init l h i) (by decide) kJE_init (rdy_I (zat TJR_init 5 rfl) kJE_init pJE_init rfl rfl rfl zw1013 zw1014) (Nat.le_of_ble_eq_true rfl) rfl rfl ?_
  refine w_return (zat TJR_init 6 rfl) rfl ?_
  exact ⟨rfl, rfl⟩
theorem qX13_init0 (l : Launch) (h : zH) (i : Nat) : Cx l 5 mX13_init [Vq (some (18, i))] h R0 (iX13 h i) := by
  refine Ct.in 0 kX13_init (plainFor_of_name rfl) (Nat.le_of_ble_eq_true rfl) ?_
  refine w_aload_n (zat TX13_init 0 rfl) rfl ?_
  refine w_null (zat TX13_init 1 rfl) ?_
  refine w_null (zat TX13_init 2 rfl) ?_
  refine w_iconst (v := 0) (zat TX13_init 3 rfl) (by decide) ?_
  refine w_iconst (v := 0) (zat TX13_init 4 rfl) (by decide) ?_
  refine x_callu5 (qJR_init l h i) (by decide) kJR_init (rdy_I (zat TX13_init 5 rfl) kJR_init pJR_init rfl rfl rfl zw1010 zw1011) (Nat.le_of_ble_eq_true rfl) rfl rfl ?_
  refine w_return (zat TX13_init 6 rfl) rfl ?_
  exact ⟨rfl, rfl⟩
def iX14 (h : zH) (i : Nat) : zH :=
  let a1 : zH := zsI h 1 i 2 (-1)
  let a2 : zH := zsI a1 1 i 7 10
  let a3 : zH := znew a2 10 10 10
  let a4 : zH := zsR a3 1 i 8 (some (10, (zC a2 10)))
  let a5 : zH := znew a4 11 10 10
  let a6 : zH := zsR a5 1 i 9 (some (11, (zC a4 11)))
  let a7 : zH := znew a6 12 16 16
  let a8 : zH := zsR a7 1 i 10 (some (12, (zC a6 12)))
  let a9 : zH := znew a8 13 16 16
  let a10 : zH := zsR a9 1 i 11 (some (13, (zC a8 13)))
  let a11 : zH := znew a10 14 16 16
  let a12 : zH := zsR a11 1 i 12 (some (14, (zC a10 14)))
  let a13 : zH := znew a12 15 16 16
  let a14 : zH := zsR a13 1 i 13 (some (15, (zC a12 15)))
  let a15 : zH := znew a14 16 30 30
  let a16 : zH := zsR a15 1 i 15 (some (16, (zC a14 16)))
  let a17 : zH := znew a16 17 0 10
  let a18 : zH := iX12 a17 (zC a16 17)
  let a19 : zH := zsR a18 1 i 16 (some (17, (zC a16 17)))
  let a20 : zH := znew a19 18 0 8
  let a21 : zH := iX13 a20 (zC a19 18)
  let a22 : zH := zsR a21 1 i 17 (some (18, (zC a19 18)))
  let a23 : zH := znew a22 19 300 300
  let a24 : zH := zsR a23 1 i 18 (some (19, (zC a22 19)))
  let a25 : zH := znew a24 20 320 320
  let a26 : zH := zsR a25 1 i 29 (some (20, (zC a24 20)))
  let a27 : zH := znew a26 21 10 10
  let a28 : zH := zsR a27 1 i 30 (some (21, (zC a26 21)))
  let a29 : zH := znew a28 22 10 10
  let a30 : zH := zsR a29 1 i 31 (some (22, (zC a28 22)))
  let a31 : zH := znew a30 23 100 100
  let a32 : zH := zsR a31 1 i 32 (some (23, (zC a30 23)))
  let a33 : zH := znew a32 24 10 10
  let a34 : zH := zsR a33 1 i 33 (some (24, (zC a32 24)))
  let a35 : zH := znew a34 25 10 10
  let a36 : zH := zsR a35 1 i 34 (some (25, (zC a34 25)))
  let a37 : zH := znew a36 26 16 16
  let a38 : zH := zsR a37 1 i 36 (some (26, (zC a36 26)))
  let a39 : zH := znew a38 27 16 16
  let a40 : zH := zsR a39 1 i 37 (some (27, (zC a38 27)))
  let a41 : zH := znew a40 28 8 8
  let a42 : zH := zsR a41 1 i 41 (some (28, (zC a40 28)))
  let a43 : zH := znew a42 29 8 8
  let a44 : zH := zsR a43 1 i 42 (some (29, (zC a42 29)))
  let a45 : zH := znew a44 30 8 8
  let a46 : zH := zsR a45 1 i 43 (some (30, (zC a44 30)))
  let a47 : zH := znew a46 31 8 8
  let a48 : zH := zsR a47 1 i 44 (some (31, (zC a46 31)))
  let a49 : zH := znew a48 32 8 8
  let a50 : zH := zsR a49 1 i 45 (some (32, (zC a48 32)))
  let a51 : zH := znew a50 33 8 8
  let a52 : zH := zsR a51 1 i 46 (some (33, (zC a50 33)))
  a52
theorem qX14_init0 (l : Launch) (h : zH) (i : Nat) : Cx l 6 mX14_init [Vq (some (1, i))] h R0 (iX14 h i) := by
  refine Ct.in 0 kX14_init (plainFor_of_name rfl) (Nat.le_of_ble_eq_true rfl) ?_
  refine w_aload_n (zat TX14_init_0 0 rfl) rfl ?_
  refine w_objInit (zat TX14_init_0 1 rfl) zw921 zw94 zw95 (Nat.le_of_ble_eq_true rfl) (by decide) ?_
  refine w_aload_n (zat TX14_init_0 2 rfl) rfl ?_
  refine w_iconst (v := -1) (zat TX14_init_0 3 rfl) (by decide) ?_
  refine w_putI (zat TX14_init_0 4 rfl) gX14_init_9 s1 (by decide) (by decide) rfl ⟨rfl, rfl⟩ ?_
  refine w_aload_n (zat TX14_init_0 5 rfl) rfl ?_
  refine w_bipush (v := 10) (zat TX14_init_0 6 rfl) (by decide) ?_
  refine w_putI (zat TX14_init_0 7 rfl) gX14_init_13 s1 (by decide) (by decide) rfl ⟨rfl, rfl⟩ ?_
  refine w_aload_n (zat TX14_init_0 8 rfl) rfl ?_
  refine w_bipush (v := 10) (zat TX14_init_0 9 rfl) (by decide) ?_
  refine w_newarr 10 10 (zat TX14_init_0 10 rfl) s10 (Or.inl rfl) (by decide) rfl zw143 (by decide) (by decide) ?_
  refine w_putR (zat TX14_init_0 11 rfl) gX14_init_16 s1 (by decide) (by decide) rfl (fun x => by cases x <;> exact ⟨rfl, rfl⟩) ?_
  refine w_aload_n (zat TX14_init_0 12 rfl) rfl ?_
  refine w_bipush (v := 10) (zat TX14_init_0 13 rfl) (by decide) ?_
  refine w_newarr 11 10 (zat TX14_init_0 14 rfl) s11 (Or.inl rfl) (by decide) rfl zw143 (by decide) (by decide) ?_
  refine w_putR (zat TX14_init_0 15 rfl) gX14_init_20 s1 (by decide) (by decide) rfl (fun x => by cases x <;> exact ⟨rfl, rfl⟩) ?_
  refine w_aload_n (zat TX14_init_0 16 rfl) rfl ?_
  refine w_bipush (v := 16) (zat TX14_init_0 17 rfl) (by decide) ?_
  refine w_newarr 12 16 (zat TX14_init_0 18 rfl) s12 (Or.inl rfl) (by decide) rfl zw143 (by decide) (by decide) ?_
  refine w_putR (zat TX14_init_0 19 rfl) gX14_init_23 s1 (by decide) (by decide) rfl (fun x => by cases x <;> exact ⟨rfl, rfl⟩) ?_
  refine w_aload_n (zat TX14_init_0 20 rfl) rfl ?_
  refine w_bipush (v := 16) (zat TX14_init_0 21 rfl) (by decide) ?_
  refine w_newarr 13 16 (zat TX14_init_0 22 rfl) s13 (Or.inl rfl) (by decide) rfl zw143 (by decide) (by decide) ?_
  refine w_putR (zat TX14_init_0 23 rfl) gX14_init_26 s1 (by decide) (by decide) rfl (fun x => by cases x <;> exact ⟨rfl, rfl⟩) ?_
  refine w_aload_n (zat TX14_init_0 24 rfl) rfl ?_
  refine w_bipush (v := 16) (zat TX14_init_0 25 rfl) (by decide) ?_
  refine w_newarr 14 16 (zat TX14_init_0 26 rfl) s14 (Or.inl rfl) (by decide) rfl zw143 (by decide) (by decide) ?_
  refine w_putR (zat TX14_init_0 27 rfl) gX14_init_29 s1 (by decide) (by decide) rfl (fun x => by cases x <;> exact ⟨rfl, rfl⟩) ?_
  refine w_aload_n (zat TX14_init_0 28 rfl) rfl ?_
  refine w_bipush (v := 16) (zat TX14_init_0 29 rfl) (by decide) ?_
  refine w_newarr 15 16 (zat TX14_init_0 30 rfl) s15 (Or.inl rfl) (by decide) rfl zw143 (by decide) (by decide) ?_
  refine w_putR (zat TX14_init_0 31 rfl) gX14_init_32 s1 (by decide) (by decide) rfl (fun x => by cases x <;> exact ⟨rfl, rfl⟩) ?_
  refine w_aload_n (zat TX14_init_0 32 rfl) rfl ?_
  refine w_bipush (v := 30) (zat TX14_init_0 33 rfl) (by decide) ?_
  refine w_anewarr (ci := 12) 16 30 (zat TX14_init_0 34 rfl) s16 (by decide) rfl zw922 zw923 (by decide) (by decide) ?_
  refine w_putR (zat TX14_init_0 35 rfl) gX14_init_37 s1 (by decide) (by decide) rfl (fun x => by cases x <;> exact ⟨rfl, rfl⟩) ?_
  refine w_aload_n (zat TX14_init_0 36 rfl) rfl ?_
  refine w_new 17 (zat TX14_init_0 37 rfl) s17 (by decide) (by decide) rfl zw922 zw924 zw73 (by decide) ?_
  refine w_dup (zat TX14_init_0 38 rfl) rfl ?_
  refine x_callu1 (qX12_init0 l _ _) (by decide) kX12_init (rdy_IN (zat TX14_init_0 39 rfl) kX12_init pX12_init rfl rfl rfl zw925 zw926) (Nat.le_of_ble_eq_true rfl) rfl rfl ?_
  refine w_putR (zat TX14_init_0 40 rfl) gX14_init_42 s1 (by decide) (by decide) rfl (fun x => by cases x <;> exact ⟨rfl, rfl⟩) ?_
  refine w_aload_n (zat TX14_init_0 41 rfl) rfl ?_
  refine w_new 18 (zat TX14_init_0 42 rfl) s18 (by decide) (by decide) rfl zw968 zw969 zw77 (by decide) ?_
  refine w_dup (zat TX14_init_0 43 rfl) rfl ?_
  refine x_callu1 (qX13_init0 l _ _) (by decide) kX13_init (rdy_I (zat TX14_init_0 44 rfl) kX13_init pX13_init rfl rfl rfl zw1007 zw1008) (Nat.le_of_ble_eq_true rfl) rfl rfl ?_
  refine w_putR (zat TX14_init_0 45 rfl) gX14_init_49 s1 (by decide) (by decide) rfl (fun x => by cases x <;> exact ⟨rfl, rfl⟩) ?_
  refine w_aload_n (zat TX14_init_0 46 rfl) rfl ?_
  refine w_sipush (v := 300) (zat TX14_init_0 47 rfl) (by decide) ?_
  refine w_newarr 19 300 (zat TX14_init_0 48 rfl) s19 (Or.inr (Or.inr (Or.inl rfl))) (by decide) rfl zw117 (by decide) (by decide) ?_
  refine w_putR (zat TX14_init_0 49 rfl) gX14_init_53 s1 (by decide) (by decide) rfl (fun x => by cases x <;> exact ⟨rfl, rfl⟩) ?_
  refine w_aload_n (zat TX14_init_0 50 rfl) rfl ?_
  refine w_sipush (v := 320) (zat TX14_init_0 51 rfl) (by decide) ?_
  refine w_newarr 20 320 (zat TX14_init_0 52 rfl) s20 (Or.inl rfl) (by decide) rfl zw143 (by decide) (by decide) ?_
  refine w_putR (zat TX14_init_0 53 rfl) gX14_init_57 s1 (by decide) (by decide) rfl (fun x => by cases x <;> exact ⟨rfl, rfl⟩) ?_
  refine w_aload_n (zat TX14_init_0 54 rfl) rfl ?_
  refine w_bipush (v := 10) (zat TX14_init_0 55 rfl) (by decide) ?_
  refine w_newarr 21 10 (zat TX14_init_0 56 rfl) s21 (Or.inl rfl) (by decide) rfl zw143 (by decide) (by decide) ?_
  refine w_putR (zat TX14_init_0 57 rfl) gX14_init_60 s1 (by decide) (by decide) rfl (fun x => by cases x <;> exact ⟨rfl, rfl⟩) ?_
  refine w_aload_n (zat TX14_init_0 58 rfl) rfl ?_
  refine w_bipush (v := 10) (zat TX14_init_0 59 rfl) (by decide) ?_
  refine w_newarr 22 10 (zat TX14_init_1 0 rfl) s22 (Or.inl rfl) (by decide) rfl zw143 (by decide) (by decide) ?_
  refine w_putR (zat TX14_init_1 1 rfl) gX14_init_63 s1 (by decide) (by decide) rfl (fun x => by cases x <;> exact ⟨rfl, rfl⟩) ?_
  refine w_aload_n (zat TX14_init_1 2 rfl) rfl ?_
  refine w_bipush (v := 100) (zat TX14_init_1 3 rfl) (by decide) ?_
  refine w_newarr 23 100 (zat TX14_init_1 4 rfl) s23 (Or.inl rfl) (by decide) rfl zw143 (by decide) (by decide) ?_
  refine w_putR (zat TX14_init_1 5 rfl) gX14_init_66 s1 (by decide) (by decide) rfl (fun x => by cases x <;> exact ⟨rfl, rfl⟩) ?_
  refine w_aload_n (zat TX14_init_1 6 rfl) rfl ?_
  refine w_bipush (v := 10) (zat TX14_init_1 7 rfl) (by decide) ?_
  refine w_newarr 24 10 (zat TX14_init_1 8 rfl) s24 (Or.inl rfl) (by decide) rfl zw143 (by decide) (by decide) ?_
  refine w_putR (zat TX14_init_1 9 rfl) gX14_init_69 s1 (by decide) (by decide) rfl (fun x => by cases x <;> exact ⟨rfl, rfl⟩) ?_
  refine w_aload_n (zat TX14_init_1 10 rfl) rfl ?_
  refine w_bipush (v := 10) (zat TX14_init_1 11 rfl) (by decide) ?_
  refine w_newarr 25 10 (zat TX14_init_1 12 rfl) s25 (Or.inl rfl) (by decide) rfl zw143 (by decide) (by decide) ?_
  refine w_putR (zat TX14_init_1 13 rfl) gX14_init_72 s1 (by decide) (by decide) rfl (fun x => by cases x <;> exact ⟨rfl, rfl⟩) ?_
  refine w_aload_n (zat TX14_init_1 14 rfl) rfl ?_
  refine w_bipush (v := 16) (zat TX14_init_1 15 rfl) (by decide) ?_
  refine w_newarr 26 16 (zat TX14_init_1 16 rfl) s26 (Or.inl rfl) (by decide) rfl zw143 (by decide) (by decide) ?_
  refine w_putR (zat TX14_init_1 17 rfl) gX14_init_75 s1 (by decide) (by decide) rfl (fun x => by cases x <;> exact ⟨rfl, rfl⟩) ?_
  refine w_aload_n (zat TX14_init_1 18 rfl) rfl ?_
  refine w_bipush (v := 16) (zat TX14_init_1 19 rfl) (by decide) ?_
  refine w_newarr 27 16 (zat TX14_init_1 20 rfl) s27 (Or.inl rfl) (by decide) rfl zw143 (by decide) (by decide) ?_
  refine w_putR (zat TX14_init_1 21 rfl) gX14_init_78 s1 (by decide) (by decide) rfl (fun x => by cases x <;> exact ⟨rfl, rfl⟩) ?_
  refine w_aload_n (zat TX14_init_1 22 rfl) rfl ?_
  refine w_bipush (v := 8) (zat TX14_init_1 23 rfl) (by decide) ?_
  refine w_newarr 28 8 (zat TX14_init_1 24 rfl) s28 (Or.inl rfl) (by decide) rfl zw143 (by decide) (by decide) ?_
  refine w_putR (zat TX14_init_1 25 rfl) gX14_init_81 s1 (by decide) (by decide) rfl (fun x => by cases x <;> exact ⟨rfl, rfl⟩) ?_
  refine w_aload_n (zat TX14_init_1 26 rfl) rfl ?_
  refine w_bipush (v := 8) (zat TX14_init_1 27 rfl) (by decide) ?_
  refine w_newarr 29 8 (zat TX14_init_1 28 rfl) s29 (Or.inl rfl) (by decide) rfl zw143 (by decide) (by decide) ?_
  refine w_putR (zat TX14_init_1 29 rfl) gX14_init_84 s1 (by decide) (by decide) rfl (fun x => by cases x <;> exact ⟨rfl, rfl⟩) ?_
  refine w_aload_n (zat TX14_init_1 30 rfl) rfl ?_
  refine w_bipush (v := 8) (zat TX14_init_1 31 rfl) (by decide) ?_
  refine w_newarr 30 8 (zat TX14_init_1 32 rfl) s30 (Or.inl rfl) (by decide) rfl zw143 (by decide) (by decide) ?_
  refine w_putR (zat TX14_init_1 33 rfl) gX14_init_87 s1 (by decide) (by decide) rfl (fun x => by cases x <;> exact ⟨rfl, rfl⟩) ?_
  refine w_aload_n (zat TX14_init_1 34 rfl) rfl ?_
  refine w_bipush (v := 8) (zat TX14_init_1 35 rfl) (by decide) ?_
  refine w_newarr 31 8 (zat TX14_init_1 36 rfl) s31 (Or.inl rfl) (by decide) rfl zw143 (by decide) (by decide) ?_
  refine w_putR (zat TX14_init_1 37 rfl) gX14_init_90 s1 (by decide) (by decide) rfl (fun x => by cases x <;> exact ⟨rfl, rfl⟩) ?_
  refine w_aload_n (zat TX14_init_1 38 rfl) rfl ?_
  refine w_bipush (v := 8) (zat TX14_init_1 39 rfl) (by decide) ?_
  refine w_newarr 32 8 (zat TX14_init_1 40 rfl) s32 (Or.inl rfl) (by decide) rfl zw143 (by decide) (by decide) ?_
  refine w_putR (zat TX14_init_1 41 rfl) gX14_init_93 s1 (by decide) (by decide) rfl (fun x => by cases x <;> exact ⟨rfl, rfl⟩) ?_
  refine w_aload_n (zat TX14_init_1 42 rfl) rfl ?_
  refine w_bipush (v := 8) (zat TX14_init_1 43 rfl) (by decide) ?_
  refine w_newarr 33 8 (zat TX14_init_1 44 rfl) s33 (Or.inr (Or.inl rfl)) (by decide) rfl zw264 (by decide) (by decide) ?_
  refine w_putR (zat TX14_init_1 45 rfl) gX14_init_96 s1 (by decide) (by decide) rfl (fun x => by cases x <;> exact ⟨rfl, rfl⟩) ?_
  refine w_return (zat TX14_init_1 46 rfl) rfl ?_
  exact ⟨rfl, rfl⟩
