-- edict of the model, by program (wip/gen/p90.py)
theorem qX14_edict_n (l : Launch) (h : zH) (p y k : Int32) (nP : Nat) (hP : zI h 1 0 4 = nI nP) (hP2 : nP ≤ 10) (Hp : ¬ (0 ≤ p ∧ p < nI nP)) : Cx l 2 mX14_edict [Vq (some (1, 0)), Vi p, Vi y, Vi k] h (Rv (Vi (-1))) (mRef (zsI h 1 0 0 0) 1) := by
  refine Ct.in 1 kX14_edict (plainFor_of_name rfl) (Nat.le_of_ble_eq_true rfl) ?_
  refine w_aload_n (zat TX14_edict_0 0 rfl) rfl ?_
  refine w_iconst (v := 0) (zat TX14_edict_0 1 rfl) (by decide) ?_
  refine w_putI (zat TX14_edict_0 2 rfl) gX14_edict_100 s1 (by decide) (by decide) rfl ⟨rfl, rfl⟩ ?_
  refine w_aload_n (zat TX14_edict_0 3 rfl) rfl ?_
  refine w_iload_n (zat TX14_edict_0 4 rfl) rfl ?_
  refine x_callv2 (qX14_isProvince l _ _ nP hP) (by decide) kX14_isProvince (rdy_V (zat TX14_edict_0 5 rfl) kX14_isProvince pX14_isProvince zw1200 zw1202 zw33 (zrc (by decide) (by decide) rfl)) (Nat.le_of_ble_eq_true rfl) rfl rfl ?_
  refine w_if_ne 19 (zat TX14_edict_0 6 rfl) (by decide) (fun Hc10 => ?_) (fun Hc10 => ?_)
  · simp only [zb_0, Decidable.not_not, ne_eq] at Hc10
    exact absurd Hc10 Hp
  · refine w_aload_n (zat TX14_edict_0 7 rfl) rfl ?_
    refine w_iconst (v := 1) (zat TX14_edict_0 8 rfl) (by decide) ?_
    refine x_callv2 (qX14_refused l _ _) (by decide) kX14_refused (rdy_V (zat TX14_edict_0 9 rfl) kX14_refused pX14_refused zw1188 zw1190 zw31 (zrc (by decide) (by decide) rfl)) (Nat.le_of_ble_eq_true rfl) rfl rfl ?_
    refine w_ireturn (zat TX14_edict_0 10 rfl) rfl rfl ?_
    exact ⟨rfl, rfl⟩
theorem qX14_edict_m (l : Launch) (h : zH) (p y k : Int32) (nP : Nat) (hP : zI h 1 0 4 = nI nP) (hP2 : nP ≤ 10) (n : Nat) (hn : zI h 1 0 19 = nI n) (Hp : 0 ≤ p ∧ p < nI nP) (Hw : ¬ ((0 ≤ y ∧ y ≤ 99) ∧ (0 ≤ k ∧ k ≤ nI n))) : Cx l 2 mX14_edict [Vq (some (1, 0)), Vi p, Vi y, Vi k] h (Rv (Vi (-1))) (mRef (zsI h 1 0 0 0) 2) := by
  refine Ct.in 1 kX14_edict (plainFor_of_name rfl) (Nat.le_of_ble_eq_true rfl) ?_
  refine w_aload_n (zat TX14_edict_0 0 rfl) rfl ?_
  refine w_iconst (v := 0) (zat TX14_edict_0 1 rfl) (by decide) ?_
  refine w_putI (zat TX14_edict_0 2 rfl) gX14_edict_100 s1 (by decide) (by decide) rfl ⟨rfl, rfl⟩ ?_
  refine w_aload_n (zat TX14_edict_0 3 rfl) rfl ?_
  refine w_iload_n (zat TX14_edict_0 4 rfl) rfl ?_
  refine x_callv2 (qX14_isProvince l _ _ nP hP) (by decide) kX14_isProvince (rdy_V (zat TX14_edict_0 5 rfl) kX14_isProvince pX14_isProvince zw1200 zw1202 zw33 (zrc (by decide) (by decide) rfl)) (Nat.le_of_ble_eq_true rfl) rfl rfl ?_
  refine w_if_ne 19 (zat TX14_edict_0 6 rfl) (by decide) (fun Hc10 => ?_) (fun Hc10 => ?_)
  · refine w_iload_n (zat TX14_edict_0 11 rfl) rfl ?_
    refine w_iconst (v := 0) (zat TX14_edict_0 12 rfl) (by decide) ?_
    refine w_bipush (v := 99) (zat TX14_edict_0 13 rfl) (by decide) ?_
    refine x_callv3 (qX14_in l _ _ _ _) (by decide) kX14_in (rdy_S (zat TX14_edict_0 14 rfl) kX14_in pX14_in zw1185 zw1186) (Nat.le_of_ble_eq_true rfl) rfl rfl ?_
    refine w_if_eq 41 (zat TX14_edict_0 15 rfl) (by decide) (fun Hc26 => ?_) (fun Hc26 => ?_)
    · refine w_aload_n (zat TX14_edict_0 22 rfl) rfl ?_
      refine w_iconst (v := 2) (zat TX14_edict_0 23 rfl) (by decide) ?_
      refine x_callv2 (qX14_refused l _ _) (by decide) kX14_refused (rdy_V (zat TX14_edict_0 24 rfl) kX14_refused pX14_refused zw1188 zw1190 zw31 (zrc (by decide) (by decide) rfl)) (Nat.le_of_ble_eq_true rfl) rfl rfl ?_
      refine w_ireturn (zat TX14_edict_0 25 rfl) rfl rfl ?_
      exact ⟨rfl, rfl⟩
    · simp only [zb_0, Decidable.not_not] at Hc26
      refine w_iload_n (zat TX14_edict_0 16 rfl) rfl ?_
      refine w_if_lt 41 (zat TX14_edict_0 17 rfl) (by decide) (fun Hc30 => ?_) (fun Hc30 => ?_)
      · refine w_aload_n (zat TX14_edict_0 22 rfl) rfl ?_
        refine w_iconst (v := 2) (zat TX14_edict_0 23 rfl) (by decide) ?_
        refine x_callv2 (qX14_refused l _ _) (by decide) kX14_refused (rdy_V (zat TX14_edict_0 24 rfl) kX14_refused pX14_refused zw1188 zw1190 zw31 (zrc (by decide) (by decide) rfl)) (Nat.le_of_ble_eq_true rfl) rfl rfl ?_
        refine w_ireturn (zat TX14_edict_0 25 rfl) rfl rfl ?_
        exact ⟨rfl, rfl⟩
      · rw [Int32.not_lt] at Hc30
        refine w_iload_n (zat TX14_edict_0 18 rfl) rfl ?_
        refine w_aload_n (zat TX14_edict_0 19 rfl) rfl ?_
        refine y_getI (v := nI n) (zat TX14_edict_0 20 rfl) fX14_263 s1 (by decide) (by decide) rfl hn ?_
        refine w_icmp_le 47 (zat TX14_edict_0 21 rfl) (by decide) (fun Hc38 => ?_) (fun Hc38 => ?_)
        · exact absurd ⟨Hc26, Hc30, Hc38⟩ Hw
        · refine w_aload_n (zat TX14_edict_0 22 rfl) rfl ?_
          refine w_iconst (v := 2) (zat TX14_edict_0 23 rfl) (by decide) ?_
          refine x_callv2 (qX14_refused l _ _) (by decide) kX14_refused (rdy_V (zat TX14_edict_0 24 rfl) kX14_refused pX14_refused zw1188 zw1190 zw31 (zrc (by decide) (by decide) rfl)) (Nat.le_of_ble_eq_true rfl) rfl rfl ?_
          refine w_ireturn (zat TX14_edict_0 25 rfl) rfl rfl ?_
          exact ⟨rfl, rfl⟩
  · simp only [zb_0] at Hc10
    exact absurd Hp Hc10
def mE0 (h : zH) (n : Nat) : zH := zsI (zsI (zsI (zsI (zsI h 1 0 0 0) 1 0 20 (nI n)) 1 0 19 0) 1 0 21 0) 1 0 3 0
/-- an edict more -/
def mE2 (h : zH) (e j : Nat) (y : Int32) : zH := mRef (zsI (zsR (iX12 (znew (zsR (zsI (zsI h 17 e 0 (nI j)) 17 e 1 y) 16 0 e (some (17, e))) 17 0 10) (e + 1)) 1 0 16 (some (17, e + 1))) 1 0 14 (nI (e + 1))) 0
theorem qX14_edict_s (l : Launch) (h : zH) (hWM : Wm h) (nP : Nat) (hP : zI h 1 0 4 = nI nP) (hP2 : nP ≤ 10) (B : Nat → Nat) (n : Nat) (hX : Tx h 19 n B) (Nt : Nat) (hNt : zI h 1 0 19 = nI Nt) (hnN : n ≤ Nt) (hN2 : Nt ≤ 300) (N : Nat) (hT : Tkk (tkB B n) N) (j : Nat) (hj : j < nP) (y : Nat) (hy : y ≤ 99) (nE : Nat) (hE : zI h 1 0 14 = nI nE) (hE2 : nE ≤ 30) (hE3 : zC h 17 = nE + 1) : Ct l 37 mX14_edict [Vq (some (1, 0)), Vi (nI j), Vi (nI y), Vi (nI n)] h (fun o h' => ∃ h1, FrRd nE (mE0 h n) h1 ∧ (match txtP B n with | .inl q => o = Rv (Vi (-1)) ∧ h' = zsI (zsI (zsI h1 1 0 3 (nI q.1)) 1 0 1 4) 1 0 2 (nI (plB B n q.2)) | .inr ps => (∃ its : List (Nat × Int32), its.length ≤ 301 ∧ Its h1 nE its ∧ LnI h1 nE ps its) ∧ if nE = 30 then o = Rv (Vi (-1)) ∧ h' = mRef h1 3 else o = Rv (Vi (nI nE)) ∧ h' = mE2 h1 nE j (nI y))) := by
  have hXB : Tx (mE0 h n) 19 n B := hX
  refine Ct.in 1 kX14_edict (plainFor_of_name rfl) (Nat.le_of_ble_eq_true rfl) ?_
  refine w_aload_n (zat TX14_edict_0 0 rfl) rfl ?_
  refine w_iconst (v := 0) (zat TX14_edict_0 1 rfl) (by decide) ?_
  refine w_putI (zat TX14_edict_0 2 rfl) gX14_edict_100 s1 (by decide) (by decide) rfl ⟨rfl, rfl⟩ ?_
  refine w_aload_n (zat TX14_edict_0 3 rfl) rfl ?_
  refine w_iload_n (zat TX14_edict_0 4 rfl) rfl ?_
  refine x_callv2 (qX14_isProvince l _ _ nP hP) (by decide) kX14_isProvince (rdy_V (zat TX14_edict_0 5 rfl) kX14_isProvince pX14_isProvince zw1200 zw1202 zw33 (zrc (by decide) (by decide) rfl)) (Nat.le_of_ble_eq_true rfl) rfl rfl ?_
  refine w_if_ne 19 (zat TX14_edict_0 6 rfl) (by decide) (fun Hc10 => ?_) (fun Hc10 => ?_)
  · refine w_iload_n (zat TX14_edict_0 11 rfl) rfl ?_
    refine w_iconst (v := 0) (zat TX14_edict_0 12 rfl) (by decide) ?_
    refine w_bipush (v := 99) (zat TX14_edict_0 13 rfl) (by decide) ?_
    refine x_callv3 (qX14_in l _ _ _ _) (by decide) kX14_in (rdy_S (zat TX14_edict_0 14 rfl) kX14_in pX14_in zw1185 zw1186) (Nat.le_of_ble_eq_true rfl) rfl rfl ?_
    refine w_if_eq 41 (zat TX14_edict_0 15 rfl) (by decide) (fun Hc26 => ?_) (fun Hc26 => ?_)
    · simp only [zb_0] at Hc26
      exact absurd ⟨nI_pos' (by omega), (nI_leI (b := 99) (by omega) (by omega)).mpr (by omega)⟩ Hc26
    · refine w_iload_n (zat TX14_edict_0 16 rfl) rfl ?_
      refine w_if_lt 41 (zat TX14_edict_0 17 rfl) (by decide) (fun Hc30 => ?_) (fun Hc30 => ?_)
      · exact absurd (nI_pos' (by omega)) (Int32.not_le.mpr Hc30)
      · refine w_iload_n (zat TX14_edict_0 18 rfl) rfl ?_
        refine w_aload_n (zat TX14_edict_0 19 rfl) rfl ?_
        refine y_getI (v := nI Nt) (zat TX14_edict_0 20 rfl) fX14_263 s1 (by decide) (by decide) rfl hNt ?_
        refine w_icmp_le 47 (zat TX14_edict_0 21 rfl) (by decide) (fun Hc38 => ?_) (fun Hc38 => ?_)
        · refine w_aload_n (zat TX14_edict_0 26 rfl) rfl ?_
          refine w_iload_n (zat TX14_edict_0 27 rfl) rfl ?_
          refine w_putI (zat TX14_edict_0 28 rfl) gX14_edict_145 s1 (by decide) (by decide) rfl ⟨rfl, rfl⟩ ?_
          refine w_aload_n (zat TX14_edict_0 29 rfl) rfl ?_
          refine w_iconst (v := 0) (zat TX14_edict_0 30 rfl) (by decide) ?_
          refine w_putI (zat TX14_edict_0 31 rfl) gX14_edict_263 s1 (by decide) (by decide) rfl ⟨rfl, rfl⟩ ?_
          refine w_aload_n (zat TX14_edict_0 32 rfl) rfl ?_
          refine w_iconst (v := 0) (zat TX14_edict_0 33 rfl) (by decide) ?_
          refine w_putI (zat TX14_edict_0 34 rfl) gX14_edict_160 s1 (by decide) (by decide) rfl ⟨rfl, rfl⟩ ?_
          refine w_aload_n (zat TX14_edict_0 35 rfl) rfl ?_
          refine w_iconst (v := 0) (zat TX14_edict_0 36 rfl) (by decide) ?_
          refine w_putI (zat TX14_edict_0 37 rfl) gX14_edict_266 s1 (by decide) (by decide) rfl ⟨rfl, rfl⟩ ?_
          refine w_aload_n (zat TX14_edict_0 38 rfl) rfl ?_
          refine w_callC (as := [Vq (some (1, 0))]) (st := []) (sa := 67) (sb := 71) (hpc := 74) (ct := 46) (C := "SaltFarmModel$Stop") (qX14_reads l (mE0 h n) hWM nE hE3 n B hXB rfl N hT rfl) (by decide) kX14_reads (rdy_V (zat TX14_edict_0 39 rfl) kX14_reads pX14_reads zw1236 zw1238 zw37 (zrc (by decide) (by decide) rfl)) (Nat.le_of_ble_eq_true rfl) rfl rfl ⟨by omega, by omega⟩ (by decide) zw968 zw970 (fun v h1 hq => ?_) (fun r h1 hq => ?_)
          · cases hr : txtP B n with
            | inl q => rw [hr] at hq; cases hq.1
            | inr ps =>
              rw [hr] at hq
              obtain ⟨hq1, hq2, hq3⟩ := hq
              cases hq1
              refine Wp.imp ?_ (fun o h' hz => ⟨h1, hq2, hq3, hz⟩)
              have hWM1 := Wm.same hq2.1 hWM
              have hE1 : zI h1 1 0 14 = nI nE := by rw [hq2.2.2.1 0 14 (by omega)]; exact hE
              have hC1 : zC h1 17 = nE + 1 := by unfold zC; rw [hq2.1]; exact hE3
              have hsp : zR h1 1 0 16 = some (17, nE) := by
                have z := hWM1.2.2.1.2.1
                rw [hC1] at z
                exact z
              by_cases He : nE = 30
              · skip
                refine w_goto 101 (zat TX14_edict_0 40 rfl) (by decide) ?_
                refine w_aload_n (zat TX14_edict_0 55 rfl) rfl ?_
                refine y_getI (v := nI nE) (zat TX14_edict_0 56 rfl) fX14_272 s1 (by decide) (by decide) rfl hE1 ?_
                refine w_bipush (v := 30) (zat TX14_edict_0 57 rfl) (by decide) ?_
                refine w_icmp_ne 116 (zat TX14_edict_0 58 rfl) (by decide) (fun Hc107 => ?_) (fun Hc107 => ?_)
                · exact absurd (by rw [He]; rfl) Hc107
                · refine w_aload_n (zat TX14_edict_0 59 rfl) rfl ?_
                  refine w_iconst (v := 3) (zat TX14_edict_1 0 rfl) (by decide) ?_
                  refine x_callv2 (qX14_refused l _ _) (by decide) kX14_refused (rdy_V (zat TX14_edict_1 1 rfl) kX14_refused pX14_refused zw1188 zw1190 zw31 (zrc (by decide) (by decide) rfl)) (Nat.le_of_ble_eq_true rfl) rfl rfl ?_
                  refine w_ireturn (zat TX14_edict_1 2 rfl) rfl rfl ?_
                  rw [if_pos He]
                  exact ⟨rfl, rfl⟩
              · have hC4 : zC (zsR (zsI (zsI h1 17 nE 0 (nI j)) 17 nE 1 (nI y)) 16 0 nE (some (17, nE))) 17 = nE + 1 := hC1
                have hE4 : zI (zsR (iX12 (znew (zsR (zsI (zsI h1 17 nE 0 (nI j)) 17 nE 1 (nI y)) 16 0 nE (some (17, nE))) 17 0 10) (nE + 1)) 1 0 16 (some (17, nE + 1))) 1 0 14 = nI nE := hE1
                refine w_goto 101 (zat TX14_edict_0 40 rfl) (by decide) ?_
                refine w_aload_n (zat TX14_edict_0 55 rfl) rfl ?_
                refine y_getI (v := nI nE) (zat TX14_edict_0 56 rfl) fX14_272 s1 (by decide) (by decide) rfl hE1 ?_
                refine w_bipush (v := 30) (zat TX14_edict_0 57 rfl) (by decide) ?_
                refine w_icmp_ne 116 (zat TX14_edict_0 58 rfl) (by decide) (fun Hc107 => ?_) (fun Hc107 => ?_)
                · refine w_aload_n (zat TX14_edict_1 3 rfl) rfl ?_
                  refine w_getR (zat TX14_edict_1 4 rfl) fX14_42 s1 (by decide) (by decide) rfl hsp ?_
                  refine w_iload_n (zat TX14_edict_1 5 rfl) rfl ?_
                  refine w_putI (zat TX14_edict_1 6 rfl) gX14_edict_275 s17 (by decide) (by decide) rfl ⟨rfl, rfl⟩ ?_
                  refine w_aload_n (zat TX14_edict_1 7 rfl) rfl ?_
                  refine w_getR (zat TX14_edict_1 8 rfl) fX14_42 s1 (by decide) (by decide) rfl hsp ?_
                  refine w_iload_n (zat TX14_edict_1 9 rfl) rfl ?_
                  refine w_putI (zat TX14_edict_1 10 rfl) gX14_edict_278 s17 (by decide) (by decide) rfl ⟨rfl, rfl⟩ ?_
                  refine w_aload_n (zat TX14_edict_1 11 rfl) rfl ?_
                  refine w_getR (zat TX14_edict_1 12 rfl) fX14_37 s1 (by decide) (by decide) rfl (wmr hWM1 6 rfl) ?_
                  refine w_aload_n (zat TX14_edict_1 13 rfl) rfl ?_
                  refine y_getI (v := nI nE) (zat TX14_edict_1 14 rfl) fX14_272 s1 (by decide) (by decide) rfl hE1 ?_
                  refine w_aload_n (zat TX14_edict_1 15 rfl) rfl ?_
                  refine w_getR (zat TX14_edict_1 16 rfl) fX14_42 s1 (by decide) (by decide) rfl hsp ?_
                  refine x_aastore nE _ (zat TX14_edict_1 17 rfl) s16 (by decide) s17 (by decide) (by show 17 < 900; decide) (wmn hWM1 6 rfl) (by decide) rfl (by omega) ?_
                  refine w_aload_n (zat TX14_edict_1 18 rfl) rfl ?_
                  refine w_new 17 (zat TX14_edict_1 19 rfl) s17 (by decide) (by decide) rfl zw922 zw924 zw73 (by decide) ?_
                  refine w_dup (zat TX14_edict_1 20 rfl) rfl ?_
                  rw [hC4]
                  refine x_callu1 (qX12_init0 l _ (nE + 1)) (by decide) kX12_init (rdy_IN (zat TX14_edict_1 21 rfl) kX12_init pX12_init rfl rfl rfl zw925 zw926) (Nat.le_of_ble_eq_true rfl) rfl rfl ?_
                  refine w_putR (zat TX14_edict_1 22 rfl) gX14_edict_42 s1 (by decide) (by decide) rfl (fun x => by cases x <;> exact ⟨rfl, rfl⟩) ?_
                  refine w_aload_n (zat TX14_edict_1 23 rfl) rfl ?_
                  refine w_dup (zat TX14_edict_1 24 rfl) rfl ?_
                  refine y_getI (v := nI nE) (zat TX14_edict_1 25 rfl) fX14_272 s1 (by decide) (by decide) rfl hE4 ?_
                  refine w_iconst (v := 1) (zat TX14_edict_1 26 rfl) (by decide) ?_
                  refine w_iadd (zat TX14_edict_1 27 rfl) ?_
                  rw [nI_1]
                  refine w_putI (zat TX14_edict_1 28 rfl) gX14_edict_272 s1 (by decide) (by decide) rfl ⟨rfl, rfl⟩ ?_
                  refine w_aload_n (zat TX14_edict_1 29 rfl) rfl ?_
                  refine w_aload_n (zat TX14_edict_1 30 rfl) rfl ?_
                  refine y_getI (v := nI (nE + 1)) (zat TX14_edict_1 31 rfl) fX14_272 s1 (by decide) (by decide) rfl (zI_same _ _ _ _ _) ?_
                  refine w_iconst (v := 1) (zat TX14_edict_1 32 rfl) (by decide) ?_
                  refine w_isub (zat TX14_edict_1 33 rfl) ?_
                  rw [nI_pred nE]
                  refine x_callv2 (qX14_done l _ _) (by decide) kX14_done (rdy_V (zat TX14_edict_1 34 rfl) kX14_done pX14_done zw1192 zw1194 zw32 (zrc (by decide) (by decide) rfl)) (Nat.le_of_ble_eq_true rfl) rfl rfl ?_
                  refine w_ireturn (zat TX14_edict_1 35 rfl) rfl rfl ?_
                  rw [if_neg He]
                  exact ⟨rfl, rfl⟩
                · exact absurd (nIe (b := 30) (by omega) (by omega) Hc107) He
          · cases hr : txtP B n with
            | inr ps => rw [hr] at hq; cases hq.1
            | inl q =>
              rw [hr] at hq
              obtain ⟨hq1, hq2, hq3, hq4⟩ := hq
              cases hq1
              refine ⟨zrc (by decide) (by decide) rfl, ?_⟩
              refine Wp.imp ?_ (fun o h' hz => ⟨h1, hq2, hz⟩)
              refine x_astore (ls2 := [_, _, _, _, _]) (zat TX14_edict_0 41 rfl) (by decide) rfl ?_
              refine w_aload_n (zat TX14_edict_0 42 rfl) rfl ?_
              refine w_aload (zat TX14_edict_0 43 rfl) rfl ?_
              refine y_getI (v := nI q.1) (zat TX14_edict_0 44 rfl) fX14_138 s18 (by decide) (by decide) rfl hq3 ?_
              refine w_putI (zat TX14_edict_0 45 rfl) gX14_edict_266 s1 (by decide) (by decide) rfl ⟨rfl, rfl⟩ ?_
              refine w_aload_n (zat TX14_edict_0 46 rfl) rfl ?_
              refine w_iconst (v := 4) (zat TX14_edict_0 47 rfl) (by decide) ?_
              refine w_putI (zat TX14_edict_0 48 rfl) gX14_edict_103 s1 (by decide) (by decide) rfl ⟨rfl, rfl⟩ ?_
              refine w_aload_n (zat TX14_edict_0 49 rfl) rfl ?_
              refine w_aload (zat TX14_edict_0 50 rfl) rfl ?_
              refine y_getI (v := nI (plB B n q.2)) (zat TX14_edict_0 51 rfl) fX14_144 s18 (by decide) (by decide) rfl ((zI_st _ 1 0 1 _ (by decide) 0 7).trans ((zI_st _ 1 0 3 _ (by decide) 0 7).trans hq4)) ?_
              refine w_putI (zat TX14_edict_0 52 rfl) gX14_edict_9 s1 (by decide) (by decide) rfl ⟨rfl, rfl⟩ ?_
              refine w_iconst (v := -1) (zat TX14_edict_0 53 rfl) (by decide) ?_
              refine w_ireturn (zat TX14_edict_0 54 rfl) rfl rfl ?_
              exact ⟨rfl, rfl⟩
        · exact absurd ((nI_leI (by omega) (by omega)).mpr hnN) Hc38
  · simp only [zb_0] at Hc10
    exact absurd (ixI (j := j) (n := nP) (by omega) (by omega)) Hc10
