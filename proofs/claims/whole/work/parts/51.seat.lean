-- seat, join, borderOfWay of the class, by program (wip/gen/p51.py)
def cSeat (h : zH) (j p Y : Nat) : zH := zsL (zsL (zsI h 64 0 j (zI h 76 p Y)) 65 0 j ((zI h 58 p 0).toInt64 * (zI h 77 p Y).toInt64)) 66 0 j ((zI h 58 p 0).toInt64 * (zI h 58 p 1 - zI h 77 p Y).toInt64)
def cJoin (h : zH) (k : Nat) (a b t : Int32) : zH := zsI (zsI (zsI h 70 0 k a) 71 0 k b) 72 0 k t
theorem qX3_seat (l : Launch) (h : zH) (hW : Wc h) (j p Y : Nat) (hj : j < 10) (hp : p < zC h 58) (hY : Y < 100) : Cx l 1 mX3_seat [Vq (some (56, 0)), Vi (nI j), Vq (some (58, p)), Vi (nI Y)] h R0 (cSeat h j p Y) := by
  refine Ct.in 1 kX3_seat (plainFor_of_name rfl) (Nat.le_of_ble_eq_true rfl) ?_
  refine w_aload_n (zat TX3_seat 0 rfl) rfl ?_
  refine w_getR (zat TX3_seat 1 rfl) fX3_50 s58 (by decide) (by decide) rfl ((hW.2.2.1.2.2 p hp).2.2.1) ?_
  refine w_iload_n (zat TX3_seat 2 rfl) rfl ?_
  refine y_iaload _ _ (v := zI h 77 p Y) (zat TX3_seat 3 rfl) s77 (by decide) ((hW.2.2.1.2.2 p hp).2.2.2.2) (by decide) rfl hY rfl ?_
  refine x_istore (ls2 := [_, _, _, _, _]) (zat TX3_seat 4 rfl) (by decide) rfl ?_
  refine w_aload_n (zat TX3_seat 5 rfl) rfl ?_
  refine w_getR (zat TX3_seat 6 rfl) fX3_9 s56 (by decide) (by decide) rfl (wcr hW 13 rfl) ?_
  refine w_iload_n (zat TX3_seat 7 rfl) rfl ?_
  refine w_aload_n (zat TX3_seat 8 rfl) rfl ?_
  refine w_getR (zat TX3_seat 9 rfl) fX3_55 s58 (by decide) (by decide) rfl ((hW.2.2.1.2.2 p hp).2.1) ?_
  refine w_iload_n (zat TX3_seat 10 rfl) rfl ?_
  refine y_iaload _ _ (v := zI h 76 p Y) (zat TX3_seat 11 rfl) s76 (by decide) ((hW.2.2.1.2.2 p hp).2.2.2.1) (by decide) rfl hY rfl ?_
  refine x_iastore j _ (zat TX3_seat 12 rfl) s64 (by decide) (wcn hW 4 rfl) (by decide) rfl hj ?_
  refine w_aload_n (zat TX3_seat 13 rfl) rfl ?_
  refine w_getR (zat TX3_seat 14 rfl) fX3_15 s56 (by decide) (by decide) rfl (wcr hW 14 rfl) ?_
  refine w_iload_n (zat TX3_seat 15 rfl) rfl ?_
  refine w_aload_n (zat TX3_seat 16 rfl) rfl ?_
  refine y_getI (v := zI h 58 p 0) (zat TX3_seat 17 rfl) fX3_56 s58 (by decide) (by decide) rfl rfl ?_
  refine w_i2l (zat TX3_seat 18 rfl) ?_
  refine w_iload (zat TX3_seat 19 rfl) rfl ?_
  refine w_i2l (zat TX3_seat 20 rfl) ?_
  refine w_lmul (zat TX3_seat 21 rfl) ?_
  refine x_lastore j _ (zat TX3_seat 22 rfl) s65 (by decide) (wcn hW 5 rfl) (by decide) rfl hj ?_
  refine w_aload_n (zat TX3_seat 23 rfl) rfl ?_
  refine w_getR (zat TX3_seat 24 rfl) fX3_19 s56 (by decide) (by decide) rfl (wcr hW 15 rfl) ?_
  refine w_iload_n (zat TX3_seat 25 rfl) rfl ?_
  refine w_aload_n (zat TX3_seat 26 rfl) rfl ?_
  refine y_getI (v := zI h 58 p 0) (zat TX3_seat 27 rfl) fX3_56 s58 (by decide) (by decide) rfl rfl ?_
  refine w_i2l (zat TX3_seat 28 rfl) ?_
  refine w_aload_n (zat TX3_seat 29 rfl) rfl ?_
  refine y_getI (v := zI h 58 p 1) (zat TX3_seat 30 rfl) fX3_59 s58 (by decide) (by decide) rfl rfl ?_
  refine w_iload (zat TX3_seat 31 rfl) rfl ?_
  refine w_isub (zat TX3_seat 32 rfl) ?_
  refine w_i2l (zat TX3_seat 33 rfl) ?_
  refine w_lmul (zat TX3_seat 34 rfl) ?_
  refine x_lastore j _ (zat TX3_seat 35 rfl) s66 (by decide) (wcn hW 6 rfl) (by decide) rfl hj ?_
  refine w_return (zat TX3_seat 36 rfl) rfl ?_
  exact ⟨rfl, rfl⟩
theorem qX3_join (l : Launch) (h : zH) (hW : Wc h) (k : Nat) (a b t : Int32) (hk : k < 16) : Cx l 1 mX3_join [Vq (some (56, 0)), Vi (nI k), Vi a, Vi b, Vi t] h R0 (cJoin h k a b t) := by
  refine Ct.in 0 kX3_join (plainFor_of_name rfl) (Nat.le_of_ble_eq_true rfl) ?_
  refine w_aload_n (zat TX3_join 0 rfl) rfl ?_
  refine w_getR (zat TX3_join 1 rfl) fX3_31 s56 (by decide) (by decide) rfl (wcr hW 19 rfl) ?_
  refine w_iload_n (zat TX3_join 2 rfl) rfl ?_
  refine w_iload_n (zat TX3_join 3 rfl) rfl ?_
  refine x_iastore k _ (zat TX3_join 4 rfl) s70 (by decide) (wcn hW 10 rfl) (by decide) rfl hk ?_
  refine w_aload_n (zat TX3_join 5 rfl) rfl ?_
  refine w_getR (zat TX3_join 6 rfl) fX3_34 s56 (by decide) (by decide) rfl (wcr hW 20 rfl) ?_
  refine w_iload_n (zat TX3_join 7 rfl) rfl ?_
  refine w_iload_n (zat TX3_join 8 rfl) rfl ?_
  refine x_iastore k _ (zat TX3_join 9 rfl) s71 (by decide) (wcn hW 11 rfl) (by decide) rfl hk ?_
  refine w_aload_n (zat TX3_join 10 rfl) rfl ?_
  refine w_getR (zat TX3_join 11 rfl) fX3_37 s56 (by decide) (by decide) rfl (wcr hW 21 rfl) ?_
  refine w_iload_n (zat TX3_join 12 rfl) rfl ?_
  refine w_iload (zat TX3_join 13 rfl) rfl ?_
  refine x_iastore k _ (zat TX3_join 14 rfl) s72 (by decide) (wcn hW 12 rfl) (by decide) rfl hk ?_
  refine w_return (zat TX3_join 15 rfl) rfl ?_
  exact ⟨rfl, rfl⟩
