-- edict of the class, by program (wip/gen/p81.py)
theorem zI_nw (h : zH) (k n w : Nat) {k' : Nat} (e : k' ≠ k) : zI (znew h k n w) k' = zI h k' := funext (fun a => funext (fun b => if_neg (fun z => e z.1)))
theorem zL_nw (h : zH) (k n w : Nat) {k' : Nat} (e : k' ≠ k) : zL (znew h k n w) k' = zL h k' := funext (fun a => funext (fun b => if_neg (fun z => e z.1)))
theorem zR_nw (h : zH) (k n w : Nat) {k' : Nat} (e : k' ≠ k) : zR (znew h k n w) k' = zR h k' := funext (fun a => funext (fun b => if_neg (fun z => e z.1)))
theorem zN_nw (h : zH) (k n w : Nat) {k' : Nat} (e : k' ≠ k) : zN (znew h k n w) k' = zN h k' := funext (fun a => if_neg (fun z => e z.1))
theorem zC_nw (h : zH) (k n w : Nat) {k' : Nat} (e : k' ≠ k) : zC (znew h k n w) k' = zC h k' := if_neg e
theorem zC_nk (h : zH) (k n w : Nat) : zC (znew h k n w) k = zC h k + 1 := if_pos rfl
theorem zN_nk (h : zH) (k n w : Nat) : zN (znew h k n w) k (zC h k) = n := if_pos ⟨rfl, rfl⟩
/-- the class's single objects alone -/
def Wc0 (h : zH) : Prop := (∀ q ∈ wcR, zR h q.1.1 0 q.1.2 = some (q.2, 0)) ∧ ∀ q ∈ wcN, zN h q.1 0 = q.2
theorem wcr0 {h : zH} (hW : Wc0 h) (i : Nat) {k j t : Nat} (hi : wcR[i]? = some ((k, j), t)) : zR h k 0 j = some (t, 0) := hW.1 _ (List.mem_of_getElem? hi)
theorem wcn0 {h : zH} (hW : Wc0 h) (i : Nat) {k n : Nat} (hi : wcN[i]? = some (k, n)) : zN h k 0 = n := hW.2 _ (List.mem_of_getElem? hi)
theorem Wc.o {h : zH} (hW : Wc h) : Wc0 h := ⟨hW.1, hW.2.1⟩
theorem Wc0.nw {h : zH} (hW : Wc0 h) (k n w : Nat) (h1 : ∀ q ∈ wcR, q.1.1 ≠ k) (h2 : ∀ q ∈ wcN, q.1 ≠ k) : Wc0 (znew h k n w) := ⟨fun q hq => by rw [zR_nw h k n w (h1 q hq)]; exact hW.1 q hq, fun q hq => by rw [zN_nw h k n w (h2 q hq)]; exact hW.2 q hq⟩
theorem Wc0.sR {h : zH} (hW : Wc0 h) (k i j : Nat) (v : Option (Nat × Nat)) (h1 : ∀ q ∈ wcR, q.1.1 ≠ k) : Wc0 (zsR h k i j v) := ⟨fun q hq => by
  rw [show zR (zsR h k i j v) q.1.1 0 q.1.2 = zR h q.1.1 0 q.1.2 from if_neg (fun z => h1 q hq z.1)]
  exact hW.1 q hq, hW.2⟩
theorem qX2_add0 (l : Launch) (h : zH) (hW : Wc0 h) (n i : Nat) (hn : zI h 55 0 2 = nI n) (h2 : n < 30) : Cx l 2 mX2_add [Vq (some (55, 0)), Vq (some (60, i))] h (Rv (Vi (nI n))) (zsI (zsR h 62 0 n (some (60, i))) 55 0 2 (nI (n + 1))) := by
  refine Ct.in 0 kX2_add (plainFor_of_name rfl) (Nat.le_of_ble_eq_true rfl) ?_
  refine w_aload_n (zat TX2_add 0 rfl) rfl ?_
  refine x_callv1 (qX2_isFull l _ n hn (by omega)) (by decide) kX2_isFull (rdy_V (zat TX2_add 1 rfl) kX2_isFull pX2_isFull zw632 zw599 zw600 (zrc (by decide) (by decide) rfl)) (Nat.le_of_ble_eq_true rfl) rfl rfl ?_
  refine w_if_eq 9 (zat TX2_add 2 rfl) (by decide) (fun Hc4 => ?_) (fun Hc4 => ?_)
  · refine w_aload_n (zat TX2_add 5 rfl) rfl ?_
    refine w_getR (zat TX2_add 6 rfl) fX2_11 s55 (by decide) (by decide) rfl (wcr0 hW 11 rfl) ?_
    refine w_aload_n (zat TX2_add 7 rfl) rfl ?_
    refine y_getI (v := nI n) (zat TX2_add 8 rfl) fX2_24 s55 (by decide) (by decide) rfl hn ?_
    refine w_aload_n (zat TX2_add 9 rfl) rfl ?_
    refine x_aastore _ _ (zat TX2_add 10 rfl) s62 (by decide) s60 (by decide) (by show 60 < 900; decide) (wcn0 hW 3 rfl) (by decide) rfl (by omega) ?_
    refine w_aload_n (zat TX2_add 11 rfl) rfl ?_
    refine w_dup (zat TX2_add 12 rfl) rfl ?_
    refine y_getI (v := nI n) (zat TX2_add 13 rfl) fX2_24 s55 (by decide) (by decide) rfl hn ?_
    refine w_iconst (v := 1) (zat TX2_add 14 rfl) (by decide) ?_
    refine w_iadd (zat TX2_add 15 rfl) ?_
    rw [nI_1]
    refine w_putI (zat TX2_add 16 rfl) gX2_add_24 s55 (by decide) (by decide) rfl ⟨rfl, rfl⟩ ?_
    refine w_aload_n (zat TX2_add 17 rfl) rfl ?_
    refine y_getI (v := nI (n + 1)) (zat TX2_add 18 rfl) fX2_24 s55 (by decide) (by decide) rfl (zI_same _ 55 0 2 _) ?_
    refine w_iconst (v := 1) (zat TX2_add 19 rfl) (by decide) ?_
    refine w_isub (zat TX2_add 20 rfl) ?_
    rw [show nI (n + 1) - 1 = nI n from nI_pred n]
    refine w_ireturn (zat TX2_add 21 rfl) rfl rfl ?_
    exact ⟨rfl, rfl⟩
  · exact absurd (zb_n.mp Hc4) (by omega)
theorem qX4_copyOfCode (l : Launch) (h : zH) (hW : Wc0 h) (m : Nat) (hm : zI h 54 0 2 = nI m) (hm2 : m ≤ 301) : Cx l 3 mX4_copyOfCode [Vq (some (54, 0))] h (Rv (Vq (some (75, zC h 75)))) (zcp (znew h 75 m m) 74 0 0 75 (zC h 75) 0 m) := by
  have h74 : zN (znew h 75 m m) 74 0 = 301 := by
    rw [zN_nw h 75 m m (by decide)]
    exact wcn0 hW 13 rfl
  have h75 : zN (znew h 75 m m) 75 (zC h 75) = m := zN_nk h 75 m m
  have hmA : zI (znew h 75 m m) 54 0 2 = nI m := by rw [zI_nw h 75 m m (by decide)]; exact hm
  have hr : zR (znew h 75 m m) 54 0 1 = some (74, 0) := by rw [zR_nw h 75 m m (by decide)]; exact wcr0 hW 10 rfl
  refine Ct.in 1 kX4_copyOfCode (plainFor_of_name rfl) (Nat.le_of_ble_eq_true rfl) ?_
  refine w_aload_n (zat TX4_copyOfCode 0 rfl) rfl ?_
  refine y_getI (v := nI m) (zat TX4_copyOfCode 1 rfl) fX4_22 s54 (by decide) (by decide) rfl hm ?_
  refine w_newarr 75 m (zat TX4_copyOfCode 2 rfl) s75 (Or.inl rfl) (by decide) rfl zw143 rfl (by omega) ?_
  refine x_astore_n (ls2 := [_, _]) (zat TX4_copyOfCode 3 rfl) (by decide) rfl ?_
  refine w_aload_n (zat TX4_copyOfCode 4 rfl) rfl ?_
  refine w_getR (zat TX4_copyOfCode 5 rfl) fX4_18 s54 (by decide) (by decide) rfl hr ?_
  refine w_iconst (v := 0) (zat TX4_copyOfCode 6 rfl) (by decide) ?_
  refine w_aload_n (zat TX4_copyOfCode 7 rfl) rfl ?_
  refine w_iconst (v := 0) (zat TX4_copyOfCode 8 rfl) (by decide) ?_
  refine w_aload_n (zat TX4_copyOfCode 9 rfl) rfl ?_
  refine y_getI (v := nI m) (zat TX4_copyOfCode 10 rfl) fX4_22 s54 (by decide) (by decide) rfl hmA ?_
  refine w_copyi 0 0 m (zat TX4_copyOfCode 11 rfl) zw608 zw610 zw609 zw86 s74 (by decide) s75 (by decide) rfl rfl rfl (by rw [h74]; omega) (by rw [h75]; omega) (by omega) (fun z => absurd (congrArg Prod.fst z) (by decide : ¬ 74 = 75)) (Nat.le_of_ble_eq_true rfl) (by decide) ?_
  refine w_aload_n (zat TX4_copyOfCode 12 rfl) rfl ?_
  refine w_areturn (zat TX4_copyOfCode 13 rfl) rfl (Or.inr ⟨_, rfl⟩) ?_
  exact ⟨rfl, rfl⟩
theorem qX11_edict_n (l : Launch) (h : zH) (hW : Wc h) (p y k : Int32) (nP : Nat) (hP : zI h 0 0 8 = nI nP) (hP2 : nP ≤ 10) (hP3 : zC h 58 = nP) (Hp : ¬ (0 ≤ p ∧ p < nI nP)) : Cx l 3 mX11_edict [Vq (some (0, 0)), Vi p, Vi y, Vi k] h (Rv (Vi (-1))) (zsI h 0 0 13 1) := by
  refine Ct.in 2 kX11_edict (plainFor_of_name rfl) (Nat.le_of_ble_eq_true rfl) ?_
  refine w_aload_n (zat TX11_edict_0 0 rfl) rfl ?_
  refine w_iload_n (zat TX11_edict_0 1 rfl) rfl ?_
  refine x_callv2 (qX11_provinceAt_n l _ hW nP hP hP2 hP3 _ Hp) (by decide) kX11_provinceAt (rdy_V (zat TX11_edict_0 2 rfl) kX11_provinceAt pX11_provinceAt zw390 zw392 zw2 (zrc (by decide) (by decide) rfl)) (Nat.le_of_ble_eq_true rfl) rfl rfl ?_
  refine x_astore (ls2 := [_, _, _, _, _, _]) (zat TX11_edict_0 3 rfl) (by decide) rfl ?_
  refine w_aload (zat TX11_edict_0 4 rfl) rfl ?_
  refine w_ifnonnull_f (zat TX11_edict_0 5 rfl) ?_
  refine w_aload_n (zat TX11_edict_0 6 rfl) rfl ?_
  refine w_iconst (v := 1) (zat TX11_edict_0 7 rfl) (by decide) ?_
  refine x_callv2 (qX11_refuse l _ _) (by decide) kX11_refuse (rdy_V (zat TX11_edict_0 8 rfl) kX11_refuse pX11_refuse zw344 zw346 zw0 (zrc (by decide) (by decide) rfl)) (Nat.le_of_ble_eq_true rfl) rfl rfl ?_
  refine w_ireturn (zat TX11_edict_0 9 rfl) rfl rfl ?_
  exact ⟨rfl, rfl⟩
theorem qX11_edict_m (l : Launch) (h : zH) (hW : Wc h) (p y k : Int32) (nP : Nat) (hP : zI h 0 0 8 = nI nP) (hP2 : nP ≤ 10) (hP3 : zC h 58 = nP) (n : Nat) (hn : zI h 53 0 1 = nI n) (Hp : 0 ≤ p ∧ p < nI nP) (Hw : ¬ ((0 ≤ y ∧ y ≤ 99) ∧ (0 ≤ k ∧ k ≤ nI n))) : Cx l 3 mX11_edict [Vq (some (0, 0)), Vi p, Vi y, Vi k] h (Rv (Vi (-1))) (zsI h 0 0 13 2) := by
  obtain ⟨Hx, Hn⟩ := ixC (n := nP) (by omega) Hp
  refine Ct.in 2 kX11_edict (plainFor_of_name rfl) (Nat.le_of_ble_eq_true rfl) ?_
  refine w_aload_n (zat TX11_edict_0 0 rfl) rfl ?_
  refine w_iload_n (zat TX11_edict_0 1 rfl) rfl ?_
  refine x_callv2 (qX11_provinceAt_s l _ hW nP hP hP2 hP3 _ _ Hx Hn) (by decide) kX11_provinceAt (rdy_V (zat TX11_edict_0 2 rfl) kX11_provinceAt pX11_provinceAt zw390 zw392 zw2 (zrc (by decide) (by decide) rfl)) (Nat.le_of_ble_eq_true rfl) rfl rfl ?_
  refine x_astore (ls2 := [_, _, _, _, _, _]) (zat TX11_edict_0 3 rfl) (by decide) rfl ?_
  refine w_aload (zat TX11_edict_0 4 rfl) rfl ?_
  refine w_ifnonnull_t 18 (zat TX11_edict_0 5 rfl) (by decide) ?_
  refine w_iload_n (zat TX11_edict_0 10 rfl) rfl ?_
  refine w_iconst (v := 0) (zat TX11_edict_0 11 rfl) (by decide) ?_
  refine w_bipush (v := 99) (zat TX11_edict_0 12 rfl) (by decide) ?_
  refine x_callv3 (qX11_within l _ _ _ _) (by decide) kX11_within (rdy_S (zat TX11_edict_0 13 rfl) kX11_within pX11_within zw341 zw342) (Nat.le_of_ble_eq_true rfl) rfl rfl ?_
  refine w_if_eq 43 (zat TX11_edict_0 14 rfl) (by decide) (fun Hc25 => ?_) (fun Hc25 => ?_)
  · refine w_aload_n (zat TX11_edict_0 22 rfl) rfl ?_
    refine w_iconst (v := 2) (zat TX11_edict_0 23 rfl) (by decide) ?_
    refine x_callv2 (qX11_refuse l _ _) (by decide) kX11_refuse (rdy_V (zat TX11_edict_0 24 rfl) kX11_refuse pX11_refuse zw344 zw346 zw0 (zrc (by decide) (by decide) rfl)) (Nat.le_of_ble_eq_true rfl) rfl rfl ?_
    refine w_ireturn (zat TX11_edict_0 25 rfl) rfl rfl ?_
    exact ⟨rfl, rfl⟩
  · refine w_iload_n (zat TX11_edict_0 15 rfl) rfl ?_
    refine w_iconst (v := 0) (zat TX11_edict_0 16 rfl) (by decide) ?_
    refine w_aload_n (zat TX11_edict_0 17 rfl) rfl ?_
    refine w_getR (zat TX11_edict_0 18 rfl) fX11_30 s0 (by decide) (by decide) rfl (wcr hW 3 rfl) ?_
    refine y_getI (v := nI n) (zat TX11_edict_0 19 rfl) fX11_143 s53 (by decide) (by decide) rfl hn ?_
    refine x_callv3 (qX11_within l _ _ _ _) (by decide) kX11_within (rdy_S (zat TX11_edict_0 20 rfl) kX11_within pX11_within zw341 zw342) (Nat.le_of_ble_eq_true rfl) rfl rfl ?_
    refine w_if_ne 49 (zat TX11_edict_0 21 rfl) (by decide) (fun Hc40 => ?_) (fun Hc40 => ?_)
    · simp only [zb_0, Decidable.not_not, ne_eq] at Hc25 Hc40
      exact absurd ⟨Hc25, Hc40⟩ Hw
    · refine w_aload_n (zat TX11_edict_0 22 rfl) rfl ?_
      refine w_iconst (v := 2) (zat TX11_edict_0 23 rfl) (by decide) ?_
      refine x_callv2 (qX11_refuse l _ _) (by decide) kX11_refuse (rdy_V (zat TX11_edict_0 24 rfl) kX11_refuse pX11_refuse zw344 zw346 zw0 (zrc (by decide) (by decide) rfl)) (Nat.le_of_ble_eq_true rfl) rfl rfl ?_
      refine w_ireturn (zat TX11_edict_0 25 rfl) rfl rfl ?_
      exact ⟨rfl, rfl⟩
/-- behind the reading: the tape is empty, fault and place are told -/
def cE1 (h : zH) : zH := zsI (zsI (zsI h 53 0 1 0) 0 0 14 (zI h 54 0 5)) 0 0 15 (zI h 54 0 6)
/-- an edict more: e its number, j the province, y the year, m the length of its code -/
def cE2 (h : zH) (e j m : Nat) (y : Int32) : zH := zsI (zsI (zsR (eNew (zcp (znew (znew (zsI h 58 j 4 (if y < zI h 58 j 4 then y else zI h 58 j 4)) 60 0 3) 75 m m) 74 0 0 75 e 0 m) e (nI j) y (75, e)) 62 0 e (some (60, e))) 55 0 2 (nI (e + 1))) 0 0 13 0
theorem qX11_edict_s (l : Launch) (h : zH) (hW : Wc h) (nP : Nat) (hP : zI h 0 0 8 = nI nP) (hP2 : nP ≤ 10) (hP3 : zC h 58 = nP) (B : Nat → Nat) (n : Nat) (hX : Tx h 79 n B) (N : Nat) (hN : zI h 53 0 1 = nI N) (hnN : n ≤ N) (hN2 : N ≤ 300) (j : Nat) (hj : j < nP) (y : Nat) (hy : y ≤ 99) (nE : Nat) (hE : zI h 55 0 2 = nI nE) (hE2 : nE ≤ 30) (hE3 : zC h 60 = nE) : Ct l 32 mX11_edict [Vq (some (0, 0)), Vi (nI j), Vi (nI y), Vi (nI n)] h (fun o h' => (∃ N, NTk B n N) ∧ ∃ h1, FrE h h1 ∧ Rd h1 (plB B n) (txtP B n) ∧ (match txtP B n with | .inl _ => o = Rv (Vi (-1)) ∧ h' = zsI (cE1 h1) 0 0 13 4 | .inr ps => if nE = 30 then o = Rv (Vi (-1)) ∧ h' = zsI (cE1 h1) 0 0 13 3 else o = Rv (Vi (nI nE)) ∧ h' = cE2 (cE1 h1) nE j (enP ps).length (nI y))) := by
  refine Ct.in 2 kX11_edict (plainFor_of_name rfl) (Nat.le_of_ble_eq_true rfl) ?_
  refine w_aload_n (zat TX11_edict_0 0 rfl) rfl ?_
  refine w_iload_n (zat TX11_edict_0 1 rfl) rfl ?_
  refine x_callv2 (qX11_provinceAt_s l _ hW nP hP hP2 hP3 _ j rfl hj) (by decide) kX11_provinceAt (rdy_V (zat TX11_edict_0 2 rfl) kX11_provinceAt pX11_provinceAt zw390 zw392 zw2 (zrc (by decide) (by decide) rfl)) (Nat.le_of_ble_eq_true rfl) rfl rfl ?_
  refine x_astore (ls2 := [_, _, _, _, _, _]) (zat TX11_edict_0 3 rfl) (by decide) rfl ?_
  refine w_aload (zat TX11_edict_0 4 rfl) rfl ?_
  refine w_ifnonnull_t 18 (zat TX11_edict_0 5 rfl) (by decide) ?_
  refine w_iload_n (zat TX11_edict_0 10 rfl) rfl ?_
  refine w_iconst (v := 0) (zat TX11_edict_0 11 rfl) (by decide) ?_
  refine w_bipush (v := 99) (zat TX11_edict_0 12 rfl) (by decide) ?_
  refine x_callv3 (qX11_within l _ _ _ _) (by decide) kX11_within (rdy_S (zat TX11_edict_0 13 rfl) kX11_within pX11_within zw341 zw342) (Nat.le_of_ble_eq_true rfl) rfl rfl ?_
  refine w_if_eq 43 (zat TX11_edict_0 14 rfl) (by decide) (fun Hc25 => ?_) (fun Hc25 => ?_)
  · simp only [zb_0] at Hc25
    exact absurd ⟨nI_pos' (by omega), (nI_leI (b := 99) (by omega) (by omega)).mpr (by omega)⟩ Hc25
  · refine w_iload_n (zat TX11_edict_0 15 rfl) rfl ?_
    refine w_iconst (v := 0) (zat TX11_edict_0 16 rfl) (by decide) ?_
    refine w_aload_n (zat TX11_edict_0 17 rfl) rfl ?_
    refine w_getR (zat TX11_edict_0 18 rfl) fX11_30 s0 (by decide) (by decide) rfl (wcr hW 3 rfl) ?_
    refine y_getI (v := nI N) (zat TX11_edict_0 19 rfl) fX11_143 s53 (by decide) (by decide) rfl hN ?_
    refine x_callv3 (qX11_within l _ _ _ _) (by decide) kX11_within (rdy_S (zat TX11_edict_0 20 rfl) kX11_within pX11_within zw341 zw342) (Nat.le_of_ble_eq_true rfl) rfl rfl ?_
    refine w_if_ne 49 (zat TX11_edict_0 21 rfl) (by decide) (fun Hc40 => ?_) (fun Hc40 => ?_)
    · refine w_aload_n (zat TX11_edict_0 26 rfl) rfl ?_
      refine w_getR (zat TX11_edict_0 27 rfl) fX11_37 s0 (by decide) (by decide) rfl (wcr hW 4 rfl) ?_
      refine w_aload_n (zat TX11_edict_0 28 rfl) rfl ?_
      refine w_getR (zat TX11_edict_0 29 rfl) fX11_30 s0 (by decide) (by decide) rfl (wcr hW 3 rfl) ?_
      refine w_getR (zat TX11_edict_0 30 rfl) fX11_146 s53 (by decide) (by decide) rfl (wcr hW 8 rfl) ?_
      refine w_iload_n (zat TX11_edict_0 31 rfl) rfl ?_
      refine x_call3 (qX4_reads l h hW n B hX) (by decide) kX4_reads (rdy_V (zat TX11_edict_0 32 rfl) kX4_reads pX4_reads zw463 zw464 zw465 (zrc (by decide) (by decide) rfl)) (Nat.le_of_ble_eq_true rfl) rfl rfl (fun v h1 hq => ?_) (fun r h2 hq => by cases hq.2.1)
      obtain ⟨hNT, hq1, hF1, hR1⟩ := hq
      cases hq1
      refine Wp.imp ?_ (fun o h' hz => ⟨hNT, h1, hF1, hR1, hz⟩)
      have hW1 := Wc.same (congrArg Prod.snd hF1.1) hW
      have hE1 : zI (cE1 h1) 55 0 2 = nI nE := by
        unfold cE1
        rw [zI_ss _ 0 0 15 _ (k' := 55) (by decide), zI_ss _ 0 0 14 _ (k' := 55) (by decide), zI_ss _ 53 0 1 _ (k' := 55) (by decide), hF1.2 55 (by decide) (by decide) (by decide) (by decide) (by decide)]
        exact hE
      cases hr : txtP B n with
      | inl e =>
        rw [hr] at hR1
        refine x_istore (ls2 := [_, _, _, _, _, _]) (zat TX11_edict_0 33 rfl) (by decide) rfl ?_
        refine w_aload_n (zat TX11_edict_0 34 rfl) rfl ?_
        refine w_getR (zat TX11_edict_0 35 rfl) fX11_30 s0 (by decide) (by decide) rfl (wcr hW1 3 rfl) ?_
        refine w_iconst (v := 0) (zat TX11_edict_0 36 rfl) (by decide) ?_
        refine w_putI (zat TX11_edict_0 37 rfl) gX11_edict_143 s53 (by decide) (by decide) rfl ⟨rfl, rfl⟩ ?_
        refine w_aload_n (zat TX11_edict_0 38 rfl) rfl ?_
        refine w_aload_n (zat TX11_edict_0 39 rfl) rfl ?_
        refine w_getR (zat TX11_edict_0 40 rfl) fX11_37 s0 (by decide) (by decide) rfl (wcr hW1 4 rfl) ?_
        refine w_getI (zat TX11_edict_0 41 rfl) fX11_154 s54 (by decide) (by decide) rfl ?_
        refine w_putI (zat TX11_edict_0 42 rfl) gX11_edict_81 s0 (by decide) (by decide) rfl ⟨rfl, rfl⟩ ?_
        refine w_aload_n (zat TX11_edict_0 43 rfl) rfl ?_
        refine w_aload_n (zat TX11_edict_0 44 rfl) rfl ?_
        refine w_getR (zat TX11_edict_0 45 rfl) fX11_37 s0 (by decide) (by decide) rfl (wcr hW1 4 rfl) ?_
        refine w_getI (zat TX11_edict_0 46 rfl) fX11_157 s54 (by decide) (by decide) rfl ?_
        refine w_putI (zat TX11_edict_0 47 rfl) gX11_edict_84 s0 (by decide) (by decide) rfl ⟨rfl, rfl⟩ ?_
        show Wp l mX11_edict 32 96 _ _ (cE1 h1) _
        refine w_iload (zat TX11_edict_0 48 rfl) rfl ?_
        refine w_if_ne 107 (zat TX11_edict_0 49 rfl) (by decide) (fun Hc98 => ?_) (fun Hc98 => ?_)
        · exact absurd rfl Hc98
        · refine w_aload_n (zat TX11_edict_0 50 rfl) rfl ?_
          refine w_iconst (v := 4) (zat TX11_edict_0 51 rfl) (by decide) ?_
          refine x_callv2 (qX11_refuse l _ _) (by decide) kX11_refuse (rdy_V (zat TX11_edict_0 52 rfl) kX11_refuse pX11_refuse zw344 zw346 zw0 (zrc (by decide) (by decide) rfl)) (Nat.le_of_ble_eq_true rfl) rfl rfl ?_
          refine w_ireturn (zat TX11_edict_0 53 rfl) rfl rfl ?_
          exact ⟨rfl, rfl⟩
      | inr ps =>
        rw [hr] at hR1
        show Wp _ _ _ _ _ _ _ (fun o h' => if nE = 30 then o = Rv (Vi (-1)) ∧ h' = zsI (cE1 h1) 0 0 13 3 else o = Rv (Vi (nI nE)) ∧ h' = cE2 (cE1 h1) nE j (enP ps).length (nI y))
        by_cases He : nE = 30
        · skip
          refine x_istore (ls2 := [_, _, _, _, _, _]) (zat TX11_edict_0 33 rfl) (by decide) rfl ?_
          refine w_aload_n (zat TX11_edict_0 34 rfl) rfl ?_
          refine w_getR (zat TX11_edict_0 35 rfl) fX11_30 s0 (by decide) (by decide) rfl (wcr hW1 3 rfl) ?_
          refine w_iconst (v := 0) (zat TX11_edict_0 36 rfl) (by decide) ?_
          refine w_putI (zat TX11_edict_0 37 rfl) gX11_edict_143 s53 (by decide) (by decide) rfl ⟨rfl, rfl⟩ ?_
          refine w_aload_n (zat TX11_edict_0 38 rfl) rfl ?_
          refine w_aload_n (zat TX11_edict_0 39 rfl) rfl ?_
          refine w_getR (zat TX11_edict_0 40 rfl) fX11_37 s0 (by decide) (by decide) rfl (wcr hW1 4 rfl) ?_
          refine w_getI (zat TX11_edict_0 41 rfl) fX11_154 s54 (by decide) (by decide) rfl ?_
          refine w_putI (zat TX11_edict_0 42 rfl) gX11_edict_81 s0 (by decide) (by decide) rfl ⟨rfl, rfl⟩ ?_
          refine w_aload_n (zat TX11_edict_0 43 rfl) rfl ?_
          refine w_aload_n (zat TX11_edict_0 44 rfl) rfl ?_
          refine w_getR (zat TX11_edict_0 45 rfl) fX11_37 s0 (by decide) (by decide) rfl (wcr hW1 4 rfl) ?_
          refine w_getI (zat TX11_edict_0 46 rfl) fX11_157 s54 (by decide) (by decide) rfl ?_
          refine w_putI (zat TX11_edict_0 47 rfl) gX11_edict_84 s0 (by decide) (by decide) rfl ⟨rfl, rfl⟩ ?_
          show Wp l mX11_edict 32 96 _ _ (cE1 h1) _
          refine w_iload (zat TX11_edict_0 48 rfl) rfl ?_
          refine w_if_ne 107 (zat TX11_edict_0 49 rfl) (by decide) (fun Hc98 => ?_) (fun Hc98 => ?_)
          · refine w_aload_n (zat TX11_edict_0 54 rfl) rfl ?_
            refine w_getR (zat TX11_edict_0 55 rfl) fX11_44 s0 (by decide) (by decide) rfl (wcr hW1 5 rfl) ?_
            refine x_callv1 (qX2_isFull l _ nE hE1 hE2) (by decide) kX2_isFull (rdy_V (zat TX11_edict_0 56 rfl) kX2_isFull pX2_isFull zw598 zw599 zw600 (zrc (by decide) (by decide) rfl)) (Nat.le_of_ble_eq_true rfl) rfl rfl ?_
            refine w_if_eq 123 (zat TX11_edict_0 57 rfl) (by decide) (fun Hc114 => ?_) (fun Hc114 => ?_)
            · exact absurd He (zb_0.mp Hc114)
            · refine w_aload_n (zat TX11_edict_0 58 rfl) rfl ?_
              refine w_iconst (v := 3) (zat TX11_edict_0 59 rfl) (by decide) ?_
              refine x_callv2 (qX11_refuse l _ _) (by decide) kX11_refuse (rdy_V (zat TX11_edict_1 0 rfl) kX11_refuse pX11_refuse zw344 zw346 zw0 (zrc (by decide) (by decide) rfl)) (Nat.le_of_ble_eq_true rfl) rfl rfl ?_
              refine w_ireturn (zat TX11_edict_1 1 rfl) rfl rfl ?_
              rw [if_pos He]
              exact ⟨rfl, rfl⟩
          · exact absurd Hc98 (show ¬ (1 : Int32) = 0 by decide)
        · skip
          have hC60 : zC (zsI (cE1 h1) 58 j 4 (if nI y < zI (cE1 h1) 58 j 4 then nI y else zI (cE1 h1) 58 j 4)) 60 = nE := by
            show zC h1 60 = nE
            unfold zC
            rw [hF1.1]
            exact hE3
          have hW60 : Wc0 (znew (zsI (cE1 h1) 58 j 4 (if nI y < zI (cE1 h1) 58 j 4 then nI y else zI (cE1 h1) 58 j 4)) 60 0 3) := Wc0.nw (h := (zsI (cE1 h1) 58 j 4 (if nI y < zI (cE1 h1) 58 j 4 then nI y else zI (cE1 h1) 58 j 4))) hW1.o 60 0 3 (by decide) (by decide)
          have hC75 : zC (znew (zsI (cE1 h1) 58 j 4 (if nI y < zI (cE1 h1) 58 j 4 then nI y else zI (cE1 h1) 58 j 4)) 60 0 3) 75 = nE := by
            rw [zC_nw (zsI (cE1 h1) 58 j 4 (if nI y < zI (cE1 h1) 58 j 4 then nI y else zI (cE1 h1) 58 j 4)) 60 0 3 (by decide)]
            exact hW1.2.2.2.2.2.1.trans hC60
          have hm60 : zI (znew (zsI (cE1 h1) 58 j 4 (if nI y < zI (cE1 h1) 58 j 4 then nI y else zI (cE1 h1) 58 j 4)) 60 0 3) 54 0 2 = nI (enP ps).length := by
            rw [zI_nw (zsI (cE1 h1) 58 j 4 (if nI y < zI (cE1 h1) 58 j 4 then nI y else zI (cE1 h1) 58 j 4)) 60 0 3 (by decide), zI_ss (cE1 h1) 58 j 4 _ (k' := 54) (by decide)]
            exact hR1.2.2.1
          have hW75 : Wc0 (eNew (zcp (znew (znew (zsI (cE1 h1) 58 j 4 (if nI y < zI (cE1 h1) 58 j 4 then nI y else zI (cE1 h1) 58 j 4)) 60 0 3) 75 (enP ps).length (enP ps).length) 74 0 0 75 nE 0 (enP ps).length) nE (nI j) (nI y) (75, nE)) := Wc0.sR (h := zsI (zsI (zcp (znew (znew (zsI (cE1 h1) 58 j 4 (if nI y < zI (cE1 h1) 58 j 4 then nI y else zI (cE1 h1) 58 j 4)) 60 0 3) 75 (enP ps).length (enP ps).length) 74 0 0 75 nE 0 (enP ps).length) 60 nE 0 (nI j)) 60 nE 1 (nI y)) (Wc0.nw (h := (znew (zsI (cE1 h1) 58 j 4 (if nI y < zI (cE1 h1) 58 j 4 then nI y else zI (cE1 h1) 58 j 4)) 60 0 3)) hW60 75 (enP ps).length (enP ps).length (by decide) (by decide)) 60 nE 2 _ (by decide)
          have hE75 : zI (eNew (zcp (znew (znew (zsI (cE1 h1) 58 j 4 (if nI y < zI (cE1 h1) 58 j 4 then nI y else zI (cE1 h1) 58 j 4)) 60 0 3) 75 (enP ps).length (enP ps).length) 74 0 0 75 nE 0 (enP ps).length) nE (nI j) (nI y) (75, nE)) 55 0 2 = nI nE := by
            show zI (zsI (zsI (zcp (znew (znew (zsI (cE1 h1) 58 j 4 (if nI y < zI (cE1 h1) 58 j 4 then nI y else zI (cE1 h1) 58 j 4)) 60 0 3) 75 (enP ps).length (enP ps).length) 74 0 0 75 nE 0 (enP ps).length) 60 nE 0 (nI j)) 60 nE 1 (nI y)) 55 0 2 = _
            rw [zI_ss _ 60 nE 1 _ (k' := 55) (by decide), zI_ss _ 60 nE 0 _ (k' := 55) (by decide)]
            show zI (znew (znew (zsI (cE1 h1) 58 j 4 (if nI y < zI (cE1 h1) 58 j 4 then nI y else zI (cE1 h1) 58 j 4)) 60 0 3) 75 (enP ps).length (enP ps).length) 55 0 2 = _
            rw [zI_nw (znew (zsI (cE1 h1) 58 j 4 (if nI y < zI (cE1 h1) 58 j 4 then nI y else zI (cE1 h1) 58 j 4)) 60 0 3) 75 (enP ps).length (enP ps).length (by decide), zI_nw (zsI (cE1 h1) 58 j 4 (if nI y < zI (cE1 h1) 58 j 4 then nI y else zI (cE1 h1) 58 j 4)) 60 0 3 (by decide), zI_ss (cE1 h1) 58 j 4 _ (k' := 55) (by decide)]
            exact hE1
          have hok := progP_ok (hNT.choose_spec.k hX.1) 13 [] 0 0 rfl (by have := hNT.choose_spec.1; omega) (by omega) (fun ln hln => by cases hln) (by show 0 ≤ 0; omega)
          replace hok : PrP hNT.choose (txtP B n) := hok
          rw [hr] at hok
          have hm301 : (enP ps).length ≤ 301 := by have := hok.2.2; have := (hNT.choose_spec.k hX.1).2.1; omega
          refine x_istore (ls2 := [_, _, _, _, _, _]) (zat TX11_edict_0 33 rfl) (by decide) rfl ?_
          refine w_aload_n (zat TX11_edict_0 34 rfl) rfl ?_
          refine w_getR (zat TX11_edict_0 35 rfl) fX11_30 s0 (by decide) (by decide) rfl (wcr hW1 3 rfl) ?_
          refine w_iconst (v := 0) (zat TX11_edict_0 36 rfl) (by decide) ?_
          refine w_putI (zat TX11_edict_0 37 rfl) gX11_edict_143 s53 (by decide) (by decide) rfl ⟨rfl, rfl⟩ ?_
          refine w_aload_n (zat TX11_edict_0 38 rfl) rfl ?_
          refine w_aload_n (zat TX11_edict_0 39 rfl) rfl ?_
          refine w_getR (zat TX11_edict_0 40 rfl) fX11_37 s0 (by decide) (by decide) rfl (wcr hW1 4 rfl) ?_
          refine w_getI (zat TX11_edict_0 41 rfl) fX11_154 s54 (by decide) (by decide) rfl ?_
          refine w_putI (zat TX11_edict_0 42 rfl) gX11_edict_81 s0 (by decide) (by decide) rfl ⟨rfl, rfl⟩ ?_
          refine w_aload_n (zat TX11_edict_0 43 rfl) rfl ?_
          refine w_aload_n (zat TX11_edict_0 44 rfl) rfl ?_
          refine w_getR (zat TX11_edict_0 45 rfl) fX11_37 s0 (by decide) (by decide) rfl (wcr hW1 4 rfl) ?_
          refine w_getI (zat TX11_edict_0 46 rfl) fX11_157 s54 (by decide) (by decide) rfl ?_
          refine w_putI (zat TX11_edict_0 47 rfl) gX11_edict_84 s0 (by decide) (by decide) rfl ⟨rfl, rfl⟩ ?_
          show Wp l mX11_edict 32 96 _ _ (cE1 h1) _
          refine w_iload (zat TX11_edict_0 48 rfl) rfl ?_
          refine w_if_ne 107 (zat TX11_edict_0 49 rfl) (by decide) (fun Hc98 => ?_) (fun Hc98 => ?_)
          · refine w_aload_n (zat TX11_edict_0 54 rfl) rfl ?_
            refine w_getR (zat TX11_edict_0 55 rfl) fX11_44 s0 (by decide) (by decide) rfl (wcr hW1 5 rfl) ?_
            refine x_callv1 (qX2_isFull l _ nE hE1 hE2) (by decide) kX2_isFull (rdy_V (zat TX11_edict_0 56 rfl) kX2_isFull pX2_isFull zw598 zw599 zw600 (zrc (by decide) (by decide) rfl)) (Nat.le_of_ble_eq_true rfl) rfl rfl ?_
            refine w_if_eq 123 (zat TX11_edict_0 57 rfl) (by decide) (fun Hc114 => ?_) (fun Hc114 => ?_)
            · refine w_aload (zat TX11_edict_1 2 rfl) rfl ?_
              refine w_iload_n (zat TX11_edict_1 3 rfl) rfl ?_
              refine x_callu2 (qX5_forgetFrom l _ _ _) (by decide) kX5_forgetFrom (rdy_V (zat TX11_edict_1 4 rfl) kX5_forgetFrom pX5_forgetFrom zw398 zw399 zw400 (zrc (by decide) (by decide) rfl)) (Nat.le_of_ble_eq_true rfl) rfl rfl ?_
              refine w_aload_n (zat TX11_edict_1 5 rfl) rfl ?_
              refine w_aload_n (zat TX11_edict_1 6 rfl) rfl ?_
              refine w_getR (zat TX11_edict_1 7 rfl) fX11_44 s0 (by decide) (by decide) rfl (wcr hW1 5 rfl) ?_
              refine w_new 60 (zat TX11_edict_1 8 rfl) s60 (by decide) (by decide) rfl zw602 zw603 zw85 (by decide) ?_
              refine w_dup (zat TX11_edict_1 9 rfl) rfl ?_
              refine w_iload_n (zat TX11_edict_1 10 rfl) rfl ?_
              refine w_iload_n (zat TX11_edict_1 11 rfl) rfl ?_
              refine w_aload_n (zat TX11_edict_1 12 rfl) rfl ?_
              refine w_getR (zat TX11_edict_1 13 rfl) fX11_37 s0 (by decide) (by decide) rfl (wcr0 hW60 4 rfl) ?_
              rw [hC60]
              refine x_callv1 (qX4_copyOfCode l (znew (zsI (cE1 h1) 58 j 4 (if nI y < zI (cE1 h1) 58 j 4 then nI y else zI (cE1 h1) 58 j 4)) 60 0 3) hW60 (enP ps).length hm60 hm301) (by decide) kX4_copyOfCode (rdy_V (zat TX11_edict_1 14 rfl) kX4_copyOfCode pX4_copyOfCode zw604 zw605 zw606 (zrc (by decide) (by decide) rfl)) (Nat.le_of_ble_eq_true rfl) rfl rfl ?_
              rw [hC75]
              refine x_callu4 (qX1_init l _ nE (nI j) (nI y) (75, nE)) (by decide) kX1_init (rdy_I (zat TX11_edict_1 15 rfl) kX1_init pX1_init rfl rfl rfl zw611 zw612) (Nat.le_of_ble_eq_true rfl) rfl rfl ?_
              refine x_callv2 (qX2_add0 l (eNew (zcp (znew (znew (zsI (cE1 h1) 58 j 4 (if nI y < zI (cE1 h1) 58 j 4 then nI y else zI (cE1 h1) 58 j 4)) 60 0 3) 75 (enP ps).length (enP ps).length) 74 0 0 75 nE 0 (enP ps).length) nE (nI j) (nI y) (75, nE)) hW75 nE nE hE75 (by omega)) (by decide) kX2_add (rdy_V (zat TX11_edict_1 16 rfl) kX2_add pX2_add zw628 zw629 zw630 (zrc (by decide) (by decide) rfl)) (Nat.le_of_ble_eq_true rfl) rfl rfl ?_
              refine x_callv2 (qX11_grant l _ _) (by decide) kX11_grant (rdy_V (zat TX11_edict_1 17 rfl) kX11_grant pX11_grant zw382 zw384 zw1 (zrc (by decide) (by decide) rfl)) (Nat.le_of_ble_eq_true rfl) rfl rfl ?_
              refine w_ireturn (zat TX11_edict_1 18 rfl) rfl rfl ?_
              rw [if_neg He]
              exact ⟨rfl, rfl⟩
            · exact absurd (zb_n.mp Hc114) He
          · exact absurd Hc98 (show ¬ (1 : Int32) = 0 by decide)
    · simp only [zb_0, Decidable.not_not] at Hc40
      exact absurd ⟨nI_pos' (by omega), (nI_leI (by omega) (by omega)).mpr hnN⟩ Hc40
