-- THE WIRING, by program (wip/gen/p18.py)
def wcR : List ((Nat × Nat) × Nat) := [((0, 0), 50), ((0, 1), 51), ((0, 2), 52), ((0, 3), 53), ((0, 4), 54), ((0, 5), 55), ((0, 6), 56), ((0, 7), 57), ((53, 0), 79), ((54, 0), 73), ((54, 1), 74), ((55, 0), 62), ((55, 1), 63), ((56, 0), 64), ((56, 1), 65), ((56, 2), 66), ((56, 3), 67), ((56, 4), 68), ((56, 5), 69), ((56, 6), 70), ((56, 7), 71), ((56, 8), 72), ((57, 0), 82), ((57, 1), 83), ((63, 0), 78), ((73, 0), 80), ((73, 1), 81)]
def wmR : List ((Nat × Nat) × Nat) := [((1, 8), 10), ((1, 9), 11), ((1, 10), 12), ((1, 11), 13), ((1, 12), 14), ((1, 13), 15), ((1, 15), 16), ((1, 17), 18), ((1, 18), 19), ((1, 29), 20), ((1, 30), 21), ((1, 31), 22), ((1, 32), 23), ((1, 33), 24), ((1, 34), 25), ((1, 36), 26), ((1, 37), 27), ((1, 41), 28), ((1, 42), 29), ((1, 43), 30), ((1, 44), 31), ((1, 45), 32), ((1, 46), 33)]
def wcN : List (Nat × Nat) := [(50, 10), (51, 16), (52, 8), (62, 30), (64, 10), (65, 10), (66, 10), (67, 10), (68, 10), (69, 10), (70, 16), (71, 16), (72, 16), (74, 301), (78, 32), (79, 300), (80, 301), (81, 301), (82, 3), (83, 16)]
def wmN : List (Nat × Nat) := [(10, 10), (11, 10), (12, 16), (13, 16), (14, 16), (15, 16), (16, 30), (19, 300), (20, 320), (21, 10), (22, 10), (23, 100), (24, 10), (25, 10), (26, 16), (27, 16), (28, 8), (29, 8), (30, 8), (31, 8), (32, 8), (33, 8)]
/-- the class's objects: fields, lengths; provinces; borders; stores; edicts -/
def Wc (h : zH) : Prop := (∀ q ∈ wcR, zR h q.1.1 0 q.1.2 = some (q.2, 0)) ∧ (∀ q ∈ wcN, zN h q.1 0 = q.2) ∧
  (zC h 76 = zC h 58 ∧ zC h 77 = zC h 58 ∧ ∀ i, i < zC h 58 → zR h 50 0 i = some (58, i) ∧ zR h 58 i 2 = some (76, i) ∧ zR h 58 i 3 = some (77, i) ∧ zN h 76 i = 100 ∧ zN h 77 i = 100) ∧
  (∀ i, i < zC h 59 → zR h 51 0 i = some (59, i)) ∧ (∀ i, i < zC h 61 → zR h 52 0 i = some (61, i)) ∧ (zC h 75 = zC h 60 ∧ ∀ i, i < zC h 60 → zR h 62 0 i = some (60, i) ∧ zR h 60 i 2 = some (75, i))
/-- the model's objects -/
def Wm (h : zH) : Prop := (∀ q ∈ wmR, zR h q.1.1 0 q.1.2 = some (q.2, 0)) ∧ (∀ q ∈ wmN, zN h q.1 0 = q.2) ∧ (0 < zC h 17 ∧ zR h 1 0 16 = some (17, zC h 17 - 1) ∧ ∀ i, i + 1 < zC h 17 → zR h 16 0 i = some (17, i)) ∧
  (zC h 35 = zC h 17 ∧ zC h 36 = zC h 17 ∧ zC h 37 = zC h 17 ∧ zC h 38 = zC h 17 ∧ zC h 39 = zC h 17 ∧ zC h 40 = zC h 17) ∧
  ∀ i, i < zC h 17 → (zR h 17 i 4 = some (35, i) ∧ zR h 17 i 5 = some (36, i) ∧ zR h 17 i 6 = some (37, i) ∧ zR h 17 i 7 = some (38, i) ∧ zR h 17 i 8 = some (39, i) ∧ zR h 17 i 9 = some (40, i)) ∧
    zN h 35 i = 12 ∧ zN h 36 i = 12 ∧ zN h 37 i = 12 ∧ zN h 38 i = 12 ∧ zN h 39 i = 320 ∧ zN h 40 i = 320
theorem wcr {h : zH} (hW : Wc h) (i : Nat) {k j t : Nat} (hi : wcR[i]? = some ((k, j), t)) : zR h k 0 j = some (t, 0) := hW.1 _ (List.mem_of_getElem? hi)
theorem wcn {h : zH} (hW : Wc h) (i : Nat) {k n : Nat} (hi : wcN[i]? = some (k, n)) : zN h k 0 = n := hW.2.1 _ (List.mem_of_getElem? hi)
theorem wmr {h : zH} (hW : Wm h) (i : Nat) {k j t : Nat} (hi : wmR[i]? = some ((k, j), t)) : zR h k 0 j = some (t, 0) := hW.1 _ (List.mem_of_getElem? hi)
theorem wmn {h : zH} (hW : Wm h) (i : Nat) {k n : Nat} (hi : wmN[i]? = some (k, n)) : zN h k 0 = n := hW.2.1 _ (List.mem_of_getElem? hi)
theorem Wc.same {h h2 : zH} (e : h2.2.2 = h.2.2) (hW : Wc h) : Wc h2 := by
  have e1 : zR h2 = zR h := by unfold zR; rw [e]
  have e2 : zN h2 = zN h := by unfold zN; rw [e]
  have e3 : zC h2 = zC h := by unfold zC; rw [e]
  unfold Wc
  rw [e1, e2, e3]
  exact hW
theorem Wm.same {h h2 : zH} (e : h2.2.2 = h.2.2) (hW : Wm h) : Wm h2 := by
  have e1 : zR h2 = zR h := by unfold zR; rw [e]
  have e2 : zN h2 = zN h := by unfold zN; rw [e]
  have e3 : zC h2 = zC h := by unfold zC; rw [e]
  unfold Wm
  rw [e1, e2, e3]
  exact hW
/-- truth as the machine has it -/
def zb (p : Prop) [Decidable p] : Int32 := if p then 1 else 0
theorem zb_t {p : Prop} [Decidable p] (h : p) : zb p = 1 := if_pos h
theorem zb_f {p : Prop} [Decidable p] (h : ¬ p) : zb p = 0 := if_neg h
theorem zb_0 {p : Prop} [Decidable p] : zb p = 0 ↔ ¬ p := by
  by_cases h : p
  · rw [zb_t h]; exact ⟨fun q => absurd q (by decide), fun q => absurd h q⟩
  · rw [zb_f h]; exact ⟨fun _ => h, fun _ => rfl⟩
theorem zb_n {p : Prop} [Decidable p] : ¬ zb p = 0 ↔ p := by rw [zb_0]; exact Decidable.not_not
theorem zb_nar {p : Prop} [Decidable p] : narrow .boolean (.int (zb p)) = .int (zb p) := by
  by_cases h : p
  · rw [zb_t h]; rfl
  · rw [zb_f h]; rfl
theorem zb_c {p q : Prop} [Decidable p] [Decidable q] (h : p ↔ q) : zb p = zb q := by
  by_cases hp : p
  · rw [zb_t hp, zb_t (h.mp hp)]
  · rw [zb_f hp, zb_f (fun z => hp (h.mpr z))]
theorem pd_0 : (parseMethodDescriptor "(III)V").map (fun s => s.parameters.length) = some 3 := by decide +kernel
theorem pX0_init : zpar mX0_init 3 := pd_0
theorem pd_1 : (parseMethodDescriptor "(II[I)V").map (fun s => s.parameters.length) = some 3 := by decide +kernel
theorem pX1_init : zpar mX1_init 3 := pd_1
theorem pd_2 : (parseMethodDescriptor "()V").map (fun s => s.parameters.length) = some 0 := by decide +kernel
theorem pX2_init : zpar mX2_init 0 := pd_2
theorem pd_3 : (parseMethodDescriptor "()Z").map (fun s => s.parameters.length) = some 0 := by decide +kernel
theorem pX2_isFull : zpar mX2_isFull 0 := pd_3
theorem pd_4 : (parseMethodDescriptor "(LSaltFarm$Edict;)I").map (fun s => s.parameters.length) = some 1 := by decide +kernel
theorem pX2_add : zpar mX2_add 1 := pd_4
theorem pd_5 : (parseMethodDescriptor "(II)I").map (fun s => s.parameters.length) = some 2 := by decide +kernel
theorem pX2_numberInForce : zpar mX2_numberInForce 2 := pd_5
theorem pd_6 : (parseMethodDescriptor "(LSaltFarm$Province;II)V").map (fun s => s.parameters.length) = some 3 := by decide +kernel
theorem pX2_learn : zpar mX2_learn 3 := pd_6
theorem pX2_learnYear : zpar mX2_learnYear 3 := pd_6
theorem pX3_init : zpar mX3_init 0 := pd_2
theorem pd_7 : (parseMethodDescriptor "(ILSaltFarm$Province;I)V").map (fun s => s.parameters.length) = some 3 := by decide +kernel
theorem pX3_seat : zpar mX3_seat 3 := pd_7
theorem pd_8 : (parseMethodDescriptor "(IIII)V").map (fun s => s.parameters.length) = some 4 := by decide +kernel
theorem pX3_join : zpar mX3_join 4 := pd_8
theorem pX3_settle : zpar mX3_settle 0 := pd_2
theorem pd_9 : (parseMethodDescriptor "(I)I").map (fun s => s.parameters.length) = some 1 := by decide +kernel
theorem pX3_leastCost : zpar mX3_leastCost 1 := pd_9
theorem pX3_sourceOf : zpar mX3_sourceOf 1 := pd_9
theorem pX3_costBetween : zpar mX3_costBetween 2 := pd_5
theorem pd_10 : (parseMethodDescriptor "(I)J").map (fun s => s.parameters.length) = some 1 := by decide +kernel
theorem pX3_takenOf : zpar mX3_takenOf 1 := pd_10
theorem pd_11 : (parseMethodDescriptor "()J").map (fun s => s.parameters.length) = some 0 := by decide +kernel
theorem pX3_takenInAll : zpar mX3_takenInAll 0 := pd_11
theorem pX3_lostInAll : zpar mX3_lostInAll 0 := pd_11
theorem pX3_carriedOver : zpar mX3_carriedOver 1 := pd_10
theorem pd_12 : (parseMethodDescriptor "(I)V").map (fun s => s.parameters.length) = some 1 := by decide +kernel
theorem pX3_trace : zpar mX3_trace 1 := pd_12
theorem pX3_borderOfWay : zpar mX3_borderOfWay 1 := pd_9
theorem pX3_firstOnward : zpar mX3_firstOnward 1 := pd_9
theorem pX3_measureTo : zpar mX3_measureTo 1 := pd_12
theorem pd_13 : (parseMethodDescriptor "([II)V").map (fun s => s.parameters.length) = some 2 := by decide +kernel
theorem pX3_spread : zpar mX3_spread 2 := pd_13
theorem pX4_init : zpar mX4_init 0 := pd_2
theorem pd_14 : (parseMethodDescriptor "([BI)Z").map (fun s => s.parameters.length) = some 2 := by decide +kernel
theorem pX4_reads : zpar mX4_reads 2 := pd_14
theorem pd_15 : (parseMethodDescriptor "()[I").map (fun s => s.parameters.length) = some 0 := by decide +kernel
theorem pX4_copyOfCode : zpar mX4_copyOfCode 0 := pd_15
theorem pd_16 : (parseMethodDescriptor "(I)Z").map (fun s => s.parameters.length) = some 1 := by decide +kernel
theorem pX4_readsLine : zpar mX4_readsLine 1 := pd_16
theorem pX4_readsTests : zpar mX4_readsTests 0 := pd_3
theorem pX4_readsSum : zpar mX4_readsSum 1 := pd_16
theorem pX4_readsTerm : zpar mX4_readsTerm 1 := pd_16
theorem pX4_readsOne : zpar mX4_readsOne 1 := pd_16
theorem pX4_passesSign : zpar mX4_passesSign 0 := pd_3
theorem pX4_faultAsOne : zpar mX4_faultAsOne 1 := pd_9
theorem pd_17 : (parseMethodDescriptor "()I").map (fun s => s.parameters.length) = some 0 := by decide +kernel
theorem pX4_token : zpar mX4_token 0 := pd_17
theorem pX4_fail : zpar mX4_fail 1 := pd_16
theorem pX4_write : zpar mX4_write 1 := pd_12
theorem pd_18 : (parseMethodDescriptor "(II)V").map (fun s => s.parameters.length) = some 2 := by decide +kernel
theorem pX5_init : zpar mX5_init 2 := pd_18
theorem pX5_forgetFrom : zpar mX5_forgetFrom 1 := pd_12
theorem pX6_init : zpar mX6_init 0 := pd_2
theorem pd_19 : (parseMethodDescriptor "([II)I").map (fun s => s.parameters.length) = some 2 := by decide +kernel
theorem pX6_tell : zpar mX6_tell 2 := pd_19
theorem pX6_step : zpar mX6_step 1 := pd_16
theorem pX6_named : zpar mX6_named 1 := pd_9
theorem pd_20 : (parseMethodDescriptor "(III)Z").map (fun s => s.parameters.length) = some 3 := by decide +kernel
theorem pX6_compares : zpar mX6_compares 3 := pd_20
theorem pd_21 : (parseMethodDescriptor "(IJJ)J").map (fun s => s.parameters.length) = some 3 := by decide +kernel
theorem pX6_joined : zpar mX6_joined 3 := pd_21
theorem pX6_push : zpar mX6_push 1 := pd_12
theorem pX6_pop : zpar mX6_pop 0 := pd_17
theorem pX7_init : zpar mX7_init 1 := pd_12
theorem pX7_missingThisYear : zpar mX7_missingThisYear 0 := pd_17
theorem pX7_closeYear : zpar mX7_closeYear 0 := pd_2
theorem pX8_init : zpar mX8_init 0 := pd_2
theorem pX8_hasRoom : zpar mX8_hasRoom 0 := pd_3
theorem pX8_append : zpar mX8_append 1 := pd_12
theorem pX9_init : zpar mX9_init 0 := pd_2
theorem pd_22 : (parseMethodDescriptor "([BI)V").map (fun s => s.parameters.length) = some 2 := by decide +kernel
theorem pX9_scan : zpar mX9_scan 2 := pd_22
theorem pX9_add : zpar mX9_add 2 := pd_18
theorem pd_23 : (parseMethodDescriptor "([BII)I").map (fun s => s.parameters.length) = some 3 := by decide +kernel
theorem pX9_endOfRun : zpar mX9_endOfRun 3 := pd_23
theorem pX9_tokenOf : zpar mX9_tokenOf 3 := pd_23
theorem pX9_numberOf : zpar mX9_numberOf 3 := pd_23
theorem pX9_wordOf : zpar mX9_wordOf 3 := pd_23
theorem pX9_nameOf : zpar mX9_nameOf 3 := pd_23
theorem pd_24 : (parseMethodDescriptor "([BIILjava/lang/String;)Z").map (fun s => s.parameters.length) = some 4 := by decide +kernel
theorem pX9_spells : zpar mX9_spells 4 := pd_24
theorem pd_25 : (parseMethodDescriptor "(B)I").map (fun s => s.parameters.length) = some 1 := by decide +kernel
theorem pX9_signOf : zpar mX9_signOf 1 := pd_25
theorem pd_26 : (parseMethodDescriptor "(B)Z").map (fun s => s.parameters.length) = some 1 := by decide +kernel
theorem pX9_isLetter : zpar mX9_isLetter 1 := pd_26
theorem pX9_isDigit : zpar mX9_isDigit 1 := pd_26
theorem pX10_init : zpar mX10_init 0 := pd_2
theorem pd_27 : (parseMethodDescriptor "(LSaltFarm$Market;II)J").map (fun s => s.parameters.length) = some 3 := by decide +kernel
theorem pX10_lay : zpar mX10_lay 3 := pd_27
theorem pX10_standingOn : zpar mX10_standingOn 1 := pd_9
theorem pd_28 : (parseMethodDescriptor "(LSaltFarm$Market;I)V").map (fun s => s.parameters.length) = some 2 := by decide +kernel
theorem pX10_charge : zpar mX10_charge 2 := pd_28
theorem pX10_keep : zpar mX10_keep 0 := pd_2
theorem pX10_shift : zpar mX10_shift 0 := pd_3
theorem pX11_init : zpar mX11_init 0 := pd_2
theorem pX11_province : zpar mX11_province 2 := pd_5
theorem pX11_people : zpar mX11_people 3 := pd_20
theorem pd_29 : (parseMethodDescriptor "(III)I").map (fun s => s.parameters.length) = some 3 := by decide +kernel
theorem pX11_border : zpar mX11_border 3 := pd_29
theorem pd_30 : (parseMethodDescriptor "(II)Z").map (fun s => s.parameters.length) = some 2 := by decide +kernel
theorem pX11_guard : zpar mX11_guard 2 := pd_30
theorem pX11_weight : zpar mX11_weight 1 := pd_16
theorem pd_31 : (parseMethodDescriptor "(IIIII)I").map (fun s => s.parameters.length) = some 5 := by decide +kernel
theorem pX11_feed : zpar mX11_feed 5 := pd_31
theorem pX11_edict : zpar mX11_edict 3 := pd_29
theorem pX11_fault : zpar mX11_fault 0 := pd_17
theorem pX11_where : zpar mX11_where 0 := pd_17
theorem pX11_force : zpar mX11_force 2 := pd_5
theorem pd_32 : (parseMethodDescriptor "(IIZ)I").map (fun s => s.parameters.length) = some 3 := by decide +kernel
theorem pX11_price : zpar mX11_price 3 := pd_32
theorem pX11_brought : zpar mX11_brought 2 := pd_5
theorem pX11_cheap : zpar mX11_cheap 1 := pd_9
theorem pX11_source : zpar mX11_source 1 := pd_9
theorem pX11_taken : zpar mX11_taken 1 := pd_10
theorem pX11_crown : zpar mX11_crown 0 := pd_11
theorem pX11_lost : zpar mX11_lost 0 := pd_11
theorem pX11_carried : zpar mX11_carried 1 := pd_10
theorem pX11_way : zpar mX11_way 1 := pd_9
theorem pX11_wayAt : zpar mX11_wayAt 2 := pd_5
theorem pX11_best : zpar mX11_best 1 := pd_10
theorem pX11_stand : zpar mX11_stand 1 := pd_9
theorem pX11_pass : zpar mX11_pass 0 := pd_17
theorem pX11_store : zpar mX11_store 2 := pd_5
theorem pX11_moves : zpar mX11_moves 3 := pd_32
theorem pX11_counted : zpar mX11_counted 2 := pd_5
theorem pX11_missing : zpar mX11_missing 1 := pd_10
theorem pX11_worst : zpar mX11_worst 0 := pd_17
theorem pX11_count : zpar mX11_count 1 := pd_9
theorem pX11_trouble : zpar mX11_trouble 0 := pd_17
theorem pX11_refuse : zpar mX11_refuse 1 := pd_9
theorem pX11_grant : zpar mX11_grant 1 := pd_9
theorem pX11_deny : zpar mX11_deny 1 := pd_16
theorem pX11_allow : zpar mX11_allow 0 := pd_3
theorem pd_33 : (parseMethodDescriptor "(I)LSaltFarm$Province;").map (fun s => s.parameters.length) = some 1 := by decide +kernel
theorem pX11_provinceAt : zpar mX11_provinceAt 1 := pd_33
theorem pd_34 : (parseMethodDescriptor "(I)LSaltFarm$Border;").map (fun s => s.parameters.length) = some 1 := by decide +kernel
theorem pX11_borderAt : zpar mX11_borderAt 1 := pd_34
theorem pd_35 : (parseMethodDescriptor "(I)LSaltFarm$Store;").map (fun s => s.parameters.length) = some 1 := by decide +kernel
theorem pX11_storeAt : zpar mX11_storeAt 1 := pd_35
theorem pX11_guardsInAll : zpar mX11_guardsInAll 0 := pd_17
theorem pX11_survey : zpar mX11_survey 0 := pd_2
theorem pX11_fitsPeople : zpar mX11_fitsPeople 2 := pd_30
theorem pX11_within : zpar mX11_within 3 := pd_20
theorem pd_36 : (parseMethodDescriptor "(JII)I").map (fun s => s.parameters.length) = some 3 := by decide +kernel
theorem pX11_bound : zpar mX11_bound 3 := pd_36
theorem pX12_init : zpar mX12_init 0 := pd_2
theorem pX12_put : zpar mX12_put 2 := pd_18
theorem pX13_init : zpar mX13_init 0 := pd_2
theorem pX14_init : zpar mX14_init 0 := pd_2
theorem pX14_refused : zpar mX14_refused 1 := pd_9
theorem pX14_denied : zpar mX14_denied 1 := pd_16
theorem pX14_done : zpar mX14_done 1 := pd_9
theorem pX14_granted : zpar mX14_granted 0 := pd_3
theorem pX14_in : zpar mX14_in 3 := pd_20
theorem pX14_isProvince : zpar mX14_isProvince 1 := pd_16
theorem pX14_isBorder : zpar mX14_isBorder 1 := pd_16
theorem pX14_province : zpar mX14_province 2 := pd_5
theorem pX14_people : zpar mX14_people 3 := pd_20
theorem pX14_border : zpar mX14_border 3 := pd_29
theorem pX14_guard : zpar mX14_guard 2 := pd_30
theorem pX14_weight : zpar mX14_weight 1 := pd_16
theorem pd_37 : (parseMethodDescriptor "(I)LSaltFarmModel$Stop;").map (fun s => s.parameters.length) = some 1 := by decide +kernel
theorem pX14_stop : zpar mX14_stop 1 := pd_37
theorem pX14_byteAt : zpar mX14_byteAt 1 := pd_9
theorem pX14_isLetter : zpar mX14_isLetter 1 := pd_16
theorem pX14_isDigit : zpar mX14_isDigit 1 := pd_16
theorem pd_38 : (parseMethodDescriptor "(Ljava/lang/String;)J").map (fun s => s.parameters.length) = some 1 := by decide +kernel
theorem pX14_wordOf : zpar mX14_wordOf 1 := pd_38
theorem pX14_next : zpar mX14_next 0 := pd_2
theorem pd_39 : (parseMethodDescriptor "(Ljava/lang/String;)Z").map (fun s => s.parameters.length) = some 1 := by decide +kernel
theorem pX14_isWord : zpar mX14_isWord 1 := pd_39
theorem pX14_is : zpar mX14_is 1 := pd_16
theorem pX14_nameHere : zpar mX14_nameHere 0 := pd_17
theorem pX14_reads : zpar mX14_reads 0 := pd_2
theorem pX14_readTest : zpar mX14_readTest 1 := pd_12
theorem pX14_sign : zpar mX14_sign 0 := pd_2
theorem pX14_readSum : zpar mX14_readSum 0 := pd_2
theorem pX14_readTerm : zpar mX14_readTerm 0 := pd_2
theorem pX14_readOne : zpar mX14_readOne 0 := pd_2
theorem pX14_feed : zpar mX14_feed 5 := pd_31
theorem pX14_edict : zpar mX14_edict 3 := pd_29
theorem pX14_fault : zpar mX14_fault 0 := pd_17
theorem pX14_where : zpar mX14_where 0 := pd_17
theorem pX14_forceOf : zpar mX14_forceOf 2 := pd_5
theorem pX14_force : zpar mX14_force 2 := pd_5
theorem pd_40 : (parseMethodDescriptor "(J)I").map (fun s => s.parameters.length) = some 1 := by decide +kernel
theorem pX14_bound : zpar mX14_bound 1 := pd_40
theorem pd_41 : (parseMethodDescriptor "(IJJ)I").map (fun s => s.parameters.length) = some 3 := by decide +kernel
theorem pX14_both : zpar mX14_both 3 := pd_41
theorem pd_42 : (parseMethodDescriptor "(LSaltFarmModel$Edict;IIII)I").map (fun s => s.parameters.length) = some 5 := by decide +kernel
theorem pX14_tells : zpar mX14_tells 5 := pd_42
theorem pX14_priceOf : zpar mX14_priceOf 3 := pd_32
theorem pX14_price : zpar mX14_price 3 := pd_32
theorem pX14_prices : zpar mX14_prices 0 := pd_2
theorem pX14_costOf : zpar mX14_costOf 2 := pd_5
theorem pd_43 : (parseMethodDescriptor "([I)V").map (fun s => s.parameters.length) = some 1 := by decide +kernel
theorem pX14_ways : zpar mX14_ways 1 := pd_43
theorem pX14_now : zpar mX14_now 0 := pd_2
theorem pX14_brought : zpar mX14_brought 2 := pd_5
theorem pX14_cheap : zpar mX14_cheap 1 := pd_9
theorem pX14_source : zpar mX14_source 1 := pd_9
theorem pX14_restOf : zpar mX14_restOf 1 := pd_10
theorem pX14_takenOf : zpar mX14_takenOf 1 := pd_10
theorem pX14_crownOf : zpar mX14_crownOf 0 := pd_11
theorem pX14_taken : zpar mX14_taken 1 := pd_10
theorem pX14_crown : zpar mX14_crown 0 := pd_11
theorem pX14_lost : zpar mX14_lost 0 := pd_11
theorem pX14_walks : zpar mX14_walks 1 := pd_12
theorem pX14_carried : zpar mX14_carried 1 := pd_10
theorem pX14_way : zpar mX14_way 1 := pd_9
theorem pX14_wayAt : zpar mX14_wayAt 2 := pd_5
theorem pX14_tries : zpar mX14_tries 2 := pd_18
theorem pX14_best : zpar mX14_best 1 := pd_10
theorem pX14_stand : zpar mX14_stand 1 := pd_9
theorem pX14_isStore : zpar mX14_isStore 1 := pd_16
theorem pX14_missingNow : zpar mX14_missingNow 1 := pd_9
theorem pX14_pass : zpar mX14_pass 0 := pd_17
theorem pX14_store : zpar mX14_store 2 := pd_5
theorem pX14_moves : zpar mX14_moves 3 := pd_32
theorem pX14_counted : zpar mX14_counted 2 := pd_5
theorem pX14_missing : zpar mX14_missing 1 := pd_10
theorem pX14_worst : zpar mX14_worst 0 := pd_17
theorem pX14_count : zpar mX14_count 1 := pd_9
theorem pX14_trouble : zpar mX14_trouble 0 := pd_17
theorem pJ9_max_7cf53 : zpar mJ9_max_7cf53 2 := pd_5
theorem pd_44 : (parseMethodDescriptor "(JJ)J").map (fun s => s.parameters.length) = some 2 := by decide +kernel
theorem pJ9_max_f86c9 : zpar mJ9_max_f86c9 2 := pd_44
theorem pJ9_min_7cf53 : zpar mJ9_min_7cf53 2 := pd_5
theorem pJ9_min_f86c9 : zpar mJ9_min_f86c9 2 := pd_44
theorem pJ0_length_8abf5 : zpar mJ0_length_8abf5 0 := pd_17
theorem pd_45 : (parseMethodDescriptor "(I)C").map (fun s => s.parameters.length) = some 1 := by decide +kernel
theorem pJ0_charAt_5068e : zpar mJ0_charAt_5068e 1 := pd_45
theorem pd_46 : (parseMethodDescriptor "()B").map (fun s => s.parameters.length) = some 0 := by decide +kernel
theorem pJ0_coder_7d493 : zpar mJ0_coder_7d493 0 := pd_46
theorem pJ0_isLatin1_aae02 : zpar mJ0_isLatin1_aae02 0 := pd_3
theorem pJ0_checkIndex_df160 : zpar mJ0_checkIndex_df160 2 := pd_18
theorem pd_47 : (parseMethodDescriptor "([BI)C").map (fun s => s.parameters.length) = some 2 := by decide +kernel
theorem pJ1_charAt_3b067 : zpar mJ1_charAt_3b067 2 := pd_47
theorem pJ2_getChar_3b067 : zpar mJ2_getChar_3b067 2 := pd_47
theorem pd_48 : (parseMethodDescriptor "([B)I").map (fun s => s.parameters.length) = some 1 := by decide +kernel
theorem pJ2_length_9d52b : zpar mJ2_length_9d52b 1 := pd_48
theorem pJ2_charAt_3b067 : zpar mJ2_charAt_3b067 2 := pd_47
theorem pd_49 : (parseMethodDescriptor "(I[B)V").map (fun s => s.parameters.length) = some 2 := by decide +kernel
theorem pJ2_checkIndex_2214a : zpar mJ2_checkIndex_2214a 2 := pd_49
theorem pd_50 : (parseMethodDescriptor "(IILjava/util/function/BiFunction;)I").map (fun s => s.parameters.length) = some 3 := by decide +kernel
theorem pJ3_checkIndex_8e157 : zpar mJ3_checkIndex_8e157 3 := pd_50
theorem pd_51 : (parseMethodDescriptor "(Ljava/lang/String;Ljava/lang/Throwable;ZZ)V").map (fun s => s.parameters.length) = some 4 := by decide +kernel
theorem pJE_init : zpar mJE_init 4 := pd_51
theorem pJR_init : zpar mJR_init 4 := pd_51
theorem pJT_init : zpar mJT_init 4 := pd_51
theorem pnJ9_max_7cf53 : plainFor (zMy mJ9_max_7cf53) = true := by decide +kernel
theorem pnJ9_max_f86c9 : plainFor (zMy mJ9_max_f86c9) = true := by decide +kernel
theorem pnJ9_min_7cf53 : plainFor (zMy mJ9_min_7cf53) = true := by decide +kernel
theorem pnJ9_min_f86c9 : plainFor (zMy mJ9_min_f86c9) = true := by decide +kernel
theorem pnJ0_length_8abf5 : plainFor (zMy mJ0_length_8abf5) = true := by decide +kernel
theorem pnJ0_charAt_5068e : plainFor (zMy mJ0_charAt_5068e) = true := by decide +kernel
theorem pnJ0_coder_7d493 : plainFor (zMy mJ0_coder_7d493) = true := by decide +kernel
theorem pnJ0_isLatin1_aae02 : plainFor (zMy mJ0_isLatin1_aae02) = true := by decide +kernel
theorem pnJ0_checkIndex_df160 : plainFor (zMy mJ0_checkIndex_df160) = true := by decide +kernel
theorem pnJ1_charAt_3b067 : plainFor (zMy mJ1_charAt_3b067) = true := by decide +kernel
theorem pnJ3_checkIndex_8e157 : plainFor (zMy mJ3_checkIndex_8e157) = true := by decide +kernel
theorem pnJE_init : plainFor (zMy mJE_init) = true := by decide +kernel
theorem pnJR_init : plainFor (zMy mJR_init) = true := by decide +kernel
theorem pnJT_init : plainFor (zMy mJT_init) = true := by decide +kernel
