def FU : Nat := 5000
def FR : Nat := 60
theorem zd_Jd_min_0 : decode prog_14_method_69_code 0 = .ok (.iload_n 0, 1) := by decide +kernel
theorem zd_Jd_min_1 : decode prog_14_method_69_code 1 = .ok (.iload_n 1, 1) := by decide +kernel
theorem zd_Jd_min_2 : decode prog_14_method_69_code 2 = .ok (.if_icmp .gt 7, 3) := by decide +kernel
theorem zd_Jd_min_9 : decode prog_14_method_69_code 9 = .ok (.iload_n 1, 1) := by decide +kernel
theorem zd_Jd_min_5 : decode prog_14_method_69_code 5 = .ok (.iload_n 0, 1) := by decide +kernel
theorem zd_Jd_min_6 : decode prog_14_method_69_code 6 = .ok (.goto 4, 3) := by decide +kernel
theorem zd_Jd_min_10 : decode prog_14_method_69_code 10 = .ok (.ireturn, 1) := by decide +kernel
abbrev zm_Jd_min : zQ := ("java/lang/Math", prog_14_method_69_code, 2, (Option.some Jvm.ClassFile.FieldType.int), false)
set_option maxRecDepth 100000 in
def fn_Jd_min (a0 : Int32) (a1 : Int32) (S : zS) : Option (Int32 × zS) :=
  br (decide (a1 < a0)) (some (a1, S)) <|
  some (a0, S)
set_option maxRecDepth 100000 in
set_option maxHeartbeats 4000000 in
theorem tm_Jd_min {X : zXt} {d : Nat} (hd : 2 ≤ d) {v : Int32} {a0 : Int32} {a1 : Int32} {S : zS} {S' : zS} (h : fn_Jd_min a0 a1 S = some (v, S')) : zM X zy_Jd_min prog_14_method_69_code 2 (Option.some Jvm.ClassFile.FieldType.int) d [.int a0, .int a1] S (some (.int v)) S' := by
  refine zM_of (ini := false) (L := [some (.int a0), some (.int a1)]) (by decide +kernel) (fun h => by cases h) (Nat.le_of_ble_eq_true rfl) rfl ?_
  unfold fn_Jd_min at h
  refine zg_iload_n (pc' := 1) zd_Jd_min_0 rfl rfl ?_
  refine zg_iload_n (pc' := 2) zd_Jd_min_1 rfl rfl ?_
  rcases br_some h with ⟨c1, h⟩ | ⟨c1, h⟩
  · refine zg_icmp_gt (tgt := 9) (pc' := 5) zd_Jd_min_2 (by decide) rfl (fun _ => ?_) (fun q => absurd c1 q)
    refine zg_iload_n (pc' := 10) zd_Jd_min_9 rfl rfl ?_
    obtain ⟨rfl, rfl⟩ := rt_q h
    exact zg_iret zd_Jd_min_10 zrt_i
  · refine zg_icmp_gt (tgt := 9) (pc' := 5) zd_Jd_min_2 (by decide) rfl (fun q => absurd q c1) (fun _ => ?_)
    refine zg_iload_n (pc' := 6) zd_Jd_min_5 rfl rfl ?_
    refine zg_goto (tgt := 10) zd_Jd_min_6 (by decide) ?_
    obtain ⟨rfl, rfl⟩ := rt_q h
    exact zg_iret zd_Jd_min_10 zrt_i
theorem zd_Jd_floorMod_0 : decode prog_14_method_50_code 0 = .ok (.iload_n 0, 1) := by decide +kernel
theorem zd_Jd_floorMod_1 : decode prog_14_method_50_code 1 = .ok (.iload_n 1, 1) := by decide +kernel
theorem zd_Jd_floorMod_2 : decode prog_14_method_50_code 2 = .ok (.irem, 1) := by decide +kernel
theorem zd_Jd_floorMod_3 : decode prog_14_method_50_code 3 = .ok (.istore_n 2, 1) := by decide +kernel
theorem zd_Jd_floorMod_4 : decode prog_14_method_50_code 4 = .ok (.iload_n 0, 1) := by decide +kernel
theorem zd_Jd_floorMod_5 : decode prog_14_method_50_code 5 = .ok (.iload_n 1, 1) := by decide +kernel
theorem zd_Jd_floorMod_6 : decode prog_14_method_50_code 6 = .ok (.ixor, 1) := by decide +kernel
theorem zd_Jd_floorMod_7 : decode prog_14_method_50_code 7 = .ok (.ifCond .ge 11, 3) := by decide +kernel
theorem zd_Jd_floorMod_10 : decode prog_14_method_50_code 10 = .ok (.iload_n 2, 1) := by decide +kernel
theorem zd_Jd_floorMod_11 : decode prog_14_method_50_code 11 = .ok (.ifCond .eq 7, 3) := by decide +kernel
theorem zd_Jd_floorMod_18 : decode prog_14_method_50_code 18 = .ok (.iload_n 2, 1) := by decide +kernel
theorem zd_Jd_floorMod_19 : decode prog_14_method_50_code 19 = .ok (.ireturn, 1) := by decide +kernel
theorem zd_Jd_floorMod_14 : decode prog_14_method_50_code 14 = .ok (.iload_n 2, 1) := by decide +kernel
theorem zd_Jd_floorMod_15 : decode prog_14_method_50_code 15 = .ok (.iload_n 1, 1) := by decide +kernel
theorem zd_Jd_floorMod_16 : decode prog_14_method_50_code 16 = .ok (.iadd, 1) := by decide +kernel
theorem zd_Jd_floorMod_17 : decode prog_14_method_50_code 17 = .ok (.ireturn, 1) := by decide +kernel
abbrev zm_Jd_floorMod : zQ := ("java/lang/Math", prog_14_method_50_code, 3, (Option.some Jvm.ClassFile.FieldType.int), false)
set_option maxRecDepth 100000 in
def fn_Jd_floorMod (a0 : Int32) (a1 : Int32) (S : zS) : Option (Int32 × zS) :=
  gd (gZ a1) <|
  br (decide (0 ≤ (a0 ^^^ a1))) (some ((a0 - a0 / a1 * a1), S)) <|
  br (decide ((a0 - a0 / a1 * a1) = 0)) (some ((a0 - a0 / a1 * a1), S)) <|
  some (((a0 - a0 / a1 * a1) + a1), S)
set_option maxRecDepth 100000 in
set_option maxHeartbeats 4000000 in
theorem tm_Jd_floorMod {X : zXt} {d : Nat} (hd : 2 ≤ d) {v : Int32} {a0 : Int32} {a1 : Int32} {S : zS} {S' : zS} (h : fn_Jd_floorMod a0 a1 S = some (v, S')) : zM X zy_Jd_floorMod prog_14_method_50_code 3 (Option.some Jvm.ClassFile.FieldType.int) d [.int a0, .int a1] S (some (.int v)) S' := by
  refine zM_of (ini := false) (L := [some (.int a0), some (.int a1), none]) (by decide +kernel) (fun h => by cases h) (Nat.le_of_ble_eq_true rfl) rfl ?_
  unfold fn_Jd_floorMod at h
  refine zg_iload_n (pc' := 1) zd_Jd_floorMod_0 rfl rfl ?_
  refine zg_iload_n (pc' := 2) zd_Jd_floorMod_1 rfl rfl ?_
  obtain ⟨g1, h⟩ := gd_some h
  refine zg_irem (pc' := 3) zd_Jd_floorMod_2 rfl (gZ_ok g1) ?_
  refine zg_istore_n (L' := [some (.int a0), some (.int a1), some (.int (a0 - a0 / a1 * a1))]) (pc' := 4) zd_Jd_floorMod_3 (by decide) rfl rfl ?_
  refine zg_iload_n (pc' := 5) zd_Jd_floorMod_4 rfl rfl ?_
  refine zg_iload_n (pc' := 6) zd_Jd_floorMod_5 rfl rfl ?_
  refine zg_ixor (pc' := 7) zd_Jd_floorMod_6 rfl ?_
  rcases br_some h with ⟨c2, h⟩ | ⟨c2, h⟩
  · refine zg_if_ge (tgt := 18) (pc' := 10) zd_Jd_floorMod_7 (by decide) rfl (fun _ => ?_) (fun q => absurd c2 q)
    refine zg_iload_n (pc' := 19) zd_Jd_floorMod_18 rfl rfl ?_
    obtain ⟨rfl, rfl⟩ := rt_q h
    exact zg_iret zd_Jd_floorMod_19 zrt_i
  · refine zg_if_ge (tgt := 18) (pc' := 10) zd_Jd_floorMod_7 (by decide) rfl (fun q => absurd q c2) (fun _ => ?_)
    refine zg_iload_n (pc' := 11) zd_Jd_floorMod_10 rfl rfl ?_
    rcases br_some h with ⟨c3, h⟩ | ⟨c3, h⟩
    · refine zg_if_eq (tgt := 18) (pc' := 14) zd_Jd_floorMod_11 (by decide) rfl (fun _ => ?_) (fun q => absurd c3 q)
      refine zg_iload_n (pc' := 19) zd_Jd_floorMod_18 rfl rfl ?_
      obtain ⟨rfl, rfl⟩ := rt_q h
      exact zg_iret zd_Jd_floorMod_19 zrt_i
    · refine zg_if_eq (tgt := 18) (pc' := 14) zd_Jd_floorMod_11 (by decide) rfl (fun q => absurd q c3) (fun _ => ?_)
      refine zg_iload_n (pc' := 15) zd_Jd_floorMod_14 rfl rfl ?_
      refine zg_iload_n (pc' := 16) zd_Jd_floorMod_15 rfl rfl ?_
      refine zg_iadd (pc' := 17) zd_Jd_floorMod_16 rfl ?_
      obtain ⟨rfl, rfl⟩ := rt_q h
      exact zg_iret zd_Jd_floorMod_17 zrt_i
theorem zd_Jd_bitCount_0 : decode prog_13_method_49_code 0 = .ok (.iload_n 0, 1) := by decide +kernel
theorem zd_Jd_bitCount_1 : decode prog_13_method_49_code 1 = .ok (.iload_n 0, 1) := by decide +kernel
theorem zd_Jd_bitCount_2 : decode prog_13_method_49_code 2 = .ok (.iconst 1, 1) := by decide +kernel
theorem zd_Jd_bitCount_3 : decode prog_13_method_49_code 3 = .ok (.iushr, 1) := by decide +kernel
theorem zd_Jd_bitCount_4 : decode prog_13_method_49_code 4 = .ok (.ldc_w 265, 3) := by decide +kernel
theorem zd_Jd_bitCount_7 : decode prog_13_method_49_code 7 = .ok (.iand, 1) := by decide +kernel
theorem zd_Jd_bitCount_8 : decode prog_13_method_49_code 8 = .ok (.isub, 1) := by decide +kernel
theorem zd_Jd_bitCount_9 : decode prog_13_method_49_code 9 = .ok (.istore_n 0, 1) := by decide +kernel
theorem zd_Jd_bitCount_10 : decode prog_13_method_49_code 10 = .ok (.iload_n 0, 1) := by decide +kernel
theorem zd_Jd_bitCount_11 : decode prog_13_method_49_code 11 = .ok (.ldc_w 266, 3) := by decide +kernel
theorem zd_Jd_bitCount_14 : decode prog_13_method_49_code 14 = .ok (.iand, 1) := by decide +kernel
theorem zd_Jd_bitCount_15 : decode prog_13_method_49_code 15 = .ok (.iload_n 0, 1) := by decide +kernel
theorem zd_Jd_bitCount_16 : decode prog_13_method_49_code 16 = .ok (.iconst 2, 1) := by decide +kernel
theorem zd_Jd_bitCount_17 : decode prog_13_method_49_code 17 = .ok (.iushr, 1) := by decide +kernel
theorem zd_Jd_bitCount_18 : decode prog_13_method_49_code 18 = .ok (.ldc_w 266, 3) := by decide +kernel
theorem zd_Jd_bitCount_21 : decode prog_13_method_49_code 21 = .ok (.iand, 1) := by decide +kernel
theorem zd_Jd_bitCount_22 : decode prog_13_method_49_code 22 = .ok (.iadd, 1) := by decide +kernel
theorem zd_Jd_bitCount_23 : decode prog_13_method_49_code 23 = .ok (.istore_n 0, 1) := by decide +kernel
theorem zd_Jd_bitCount_24 : decode prog_13_method_49_code 24 = .ok (.iload_n 0, 1) := by decide +kernel
theorem zd_Jd_bitCount_25 : decode prog_13_method_49_code 25 = .ok (.iload_n 0, 1) := by decide +kernel
theorem zd_Jd_bitCount_26 : decode prog_13_method_49_code 26 = .ok (.iconst 4, 1) := by decide +kernel
theorem zd_Jd_bitCount_27 : decode prog_13_method_49_code 27 = .ok (.iushr, 1) := by decide +kernel
theorem zd_Jd_bitCount_28 : decode prog_13_method_49_code 28 = .ok (.iadd, 1) := by decide +kernel
theorem zd_Jd_bitCount_29 : decode prog_13_method_49_code 29 = .ok (.ldc_w 267, 3) := by decide +kernel
theorem zd_Jd_bitCount_32 : decode prog_13_method_49_code 32 = .ok (.iand, 1) := by decide +kernel
theorem zd_Jd_bitCount_33 : decode prog_13_method_49_code 33 = .ok (.istore_n 0, 1) := by decide +kernel
theorem zd_Jd_bitCount_34 : decode prog_13_method_49_code 34 = .ok (.iload_n 0, 1) := by decide +kernel
theorem zd_Jd_bitCount_35 : decode prog_13_method_49_code 35 = .ok (.iload_n 0, 1) := by decide +kernel
theorem zd_Jd_bitCount_36 : decode prog_13_method_49_code 36 = .ok (.bipush 8, 2) := by decide +kernel
theorem zd_Jd_bitCount_38 : decode prog_13_method_49_code 38 = .ok (.iushr, 1) := by decide +kernel
theorem zd_Jd_bitCount_39 : decode prog_13_method_49_code 39 = .ok (.iadd, 1) := by decide +kernel
theorem zd_Jd_bitCount_40 : decode prog_13_method_49_code 40 = .ok (.istore_n 0, 1) := by decide +kernel
theorem zd_Jd_bitCount_41 : decode prog_13_method_49_code 41 = .ok (.iload_n 0, 1) := by decide +kernel
theorem zd_Jd_bitCount_42 : decode prog_13_method_49_code 42 = .ok (.iload_n 0, 1) := by decide +kernel
theorem zd_Jd_bitCount_43 : decode prog_13_method_49_code 43 = .ok (.bipush 16, 2) := by decide +kernel
theorem zd_Jd_bitCount_45 : decode prog_13_method_49_code 45 = .ok (.iushr, 1) := by decide +kernel
theorem zd_Jd_bitCount_46 : decode prog_13_method_49_code 46 = .ok (.iadd, 1) := by decide +kernel
theorem zd_Jd_bitCount_47 : decode prog_13_method_49_code 47 = .ok (.istore_n 0, 1) := by decide +kernel
theorem zd_Jd_bitCount_48 : decode prog_13_method_49_code 48 = .ok (.iload_n 0, 1) := by decide +kernel
theorem zd_Jd_bitCount_49 : decode prog_13_method_49_code 49 = .ok (.bipush 63, 2) := by decide +kernel
theorem zd_Jd_bitCount_51 : decode prog_13_method_49_code 51 = .ok (.iand, 1) := by decide +kernel
theorem zd_Jd_bitCount_52 : decode prog_13_method_49_code 52 = .ok (.ireturn, 1) := by decide +kernel
abbrev zm_Jd_bitCount : zQ := ("java/lang/Integer", prog_13_method_49_code, 1, (Option.some Jvm.ClassFile.FieldType.int), false)
set_option maxRecDepth 100000 in
def fn_Jd_bitCount (a0 : Int32) (S : zS) : Option (Int32 × zS) :=
  some (((((((((a0 - (((a0.toUInt32 >>> ((1 : Int32).toUInt32 &&& Int32.toUInt32 31)).toInt32) &&& (1431655765 : Int32))) &&& (858993459 : Int32)) + ((((a0 - (((a0.toUInt32 >>> ((1 : Int32).toUInt32 &&& Int32.toUInt32 31)).toInt32) &&& (1431655765 : Int32))).toUInt32 >>> ((2 : Int32).toUInt32 &&& Int32.toUInt32 31)).toInt32) &&& (858993459 : Int32))) + (((((a0 - (((a0.toUInt32 >>> ((1 : Int32).toUInt32 &&& Int32.toUInt32 31)).toInt32) &&& (1431655765 : Int32))) &&& (858993459 : Int32)) + ((((a0 - (((a0.toUInt32 >>> ((1 : Int32).toUInt32 &&& Int32.toUInt32 31)).toInt32) &&& (1431655765 : Int32))).toUInt32 >>> ((2 : Int32).toUInt32 &&& Int32.toUInt32 31)).toInt32) &&& (858993459 : Int32))).toUInt32 >>> ((4 : Int32).toUInt32 &&& Int32.toUInt32 31)).toInt32)) &&& (252645135 : Int32)) + (((((((a0 - (((a0.toUInt32 >>> ((1 : Int32).toUInt32 &&& Int32.toUInt32 31)).toInt32) &&& (1431655765 : Int32))) &&& (858993459 : Int32)) + ((((a0 - (((a0.toUInt32 >>> ((1 : Int32).toUInt32 &&& Int32.toUInt32 31)).toInt32) &&& (1431655765 : Int32))).toUInt32 >>> ((2 : Int32).toUInt32 &&& Int32.toUInt32 31)).toInt32) &&& (858993459 : Int32))) + (((((a0 - (((a0.toUInt32 >>> ((1 : Int32).toUInt32 &&& Int32.toUInt32 31)).toInt32) &&& (1431655765 : Int32))) &&& (858993459 : Int32)) + ((((a0 - (((a0.toUInt32 >>> ((1 : Int32).toUInt32 &&& Int32.toUInt32 31)).toInt32) &&& (1431655765 : Int32))).toUInt32 >>> ((2 : Int32).toUInt32 &&& Int32.toUInt32 31)).toInt32) &&& (858993459 : Int32))).toUInt32 >>> ((4 : Int32).toUInt32 &&& Int32.toUInt32 31)).toInt32)) &&& (252645135 : Int32)).toUInt32 >>> ((8 : Int32).toUInt32 &&& Int32.toUInt32 31)).toInt32)) + ((((((((a0 - (((a0.toUInt32 >>> ((1 : Int32).toUInt32 &&& Int32.toUInt32 31)).toInt32) &&& (1431655765 : Int32))) &&& (858993459 : Int32)) + ((((a0 - (((a0.toUInt32 >>> ((1 : Int32).toUInt32 &&& Int32.toUInt32 31)).toInt32) &&& (1431655765 : Int32))).toUInt32 >>> ((2 : Int32).toUInt32 &&& Int32.toUInt32 31)).toInt32) &&& (858993459 : Int32))) + (((((a0 - (((a0.toUInt32 >>> ((1 : Int32).toUInt32 &&& Int32.toUInt32 31)).toInt32) &&& (1431655765 : Int32))) &&& (858993459 : Int32)) + ((((a0 - (((a0.toUInt32 >>> ((1 : Int32).toUInt32 &&& Int32.toUInt32 31)).toInt32) &&& (1431655765 : Int32))).toUInt32 >>> ((2 : Int32).toUInt32 &&& Int32.toUInt32 31)).toInt32) &&& (858993459 : Int32))).toUInt32 >>> ((4 : Int32).toUInt32 &&& Int32.toUInt32 31)).toInt32)) &&& (252645135 : Int32)) + (((((((a0 - (((a0.toUInt32 >>> ((1 : Int32).toUInt32 &&& Int32.toUInt32 31)).toInt32) &&& (1431655765 : Int32))) &&& (858993459 : Int32)) + ((((a0 - (((a0.toUInt32 >>> ((1 : Int32).toUInt32 &&& Int32.toUInt32 31)).toInt32) &&& (1431655765 : Int32))).toUInt32 >>> ((2 : Int32).toUInt32 &&& Int32.toUInt32 31)).toInt32) &&& (858993459 : Int32))) + (((((a0 - (((a0.toUInt32 >>> ((1 : Int32).toUInt32 &&& Int32.toUInt32 31)).toInt32) &&& (1431655765 : Int32))) &&& (858993459 : Int32)) + ((((a0 - (((a0.toUInt32 >>> ((1 : Int32).toUInt32 &&& Int32.toUInt32 31)).toInt32) &&& (1431655765 : Int32))).toUInt32 >>> ((2 : Int32).toUInt32 &&& Int32.toUInt32 31)).toInt32) &&& (858993459 : Int32))).toUInt32 >>> ((4 : Int32).toUInt32 &&& Int32.toUInt32 31)).toInt32)) &&& (252645135 : Int32)).toUInt32 >>> ((8 : Int32).toUInt32 &&& Int32.toUInt32 31)).toInt32)).toUInt32 >>> ((16 : Int32).toUInt32 &&& Int32.toUInt32 31)).toInt32)) &&& (63 : Int32)), S)
set_option maxRecDepth 100000 in
set_option maxHeartbeats 4000000 in
theorem tm_Jd_bitCount {X : zXt} {d : Nat} (hd : 2 ≤ d) {v : Int32} {a0 : Int32} {S : zS} {S' : zS} (h : fn_Jd_bitCount a0 S = some (v, S')) : zM X zy_Jd_bitCount prog_13_method_49_code 1 (Option.some Jvm.ClassFile.FieldType.int) d [.int a0] S (some (.int v)) S' := by
  refine zM_of (ini := false) (L := [some (.int a0)]) (plainFor_of_name (by decide)) (fun h => by cases h) (Nat.le_of_ble_eq_true rfl) rfl ?_
  unfold fn_Jd_bitCount at h
  refine zg_iload_n (pc' := 1) zd_Jd_bitCount_0 rfl rfl ?_
  refine zg_iload_n (pc' := 2) zd_Jd_bitCount_1 rfl rfl ?_
  refine zg_iconst (x := (1 : Int32)) (pc' := 3) zd_Jd_bitCount_2 (by decide) rfl ?_
  refine zg_iushr (pc' := 4) zd_Jd_bitCount_3 rfl ?_
  refine zg_ldcw (x := (1431655765 : Int32)) (pc' := 7) zd_Jd_bitCount_4 zq579 rfl ?_
  refine zg_iand (pc' := 8) zd_Jd_bitCount_7 rfl ?_
  refine zg_isub (pc' := 9) zd_Jd_bitCount_8 rfl ?_
  refine zg_istore_n (L' := [some (.int (a0 - (((a0.toUInt32 >>> ((1 : Int32).toUInt32 &&& Int32.toUInt32 31)).toInt32) &&& (1431655765 : Int32))))]) (pc' := 10) zd_Jd_bitCount_9 (by decide) rfl rfl ?_
  refine zg_iload_n (pc' := 11) zd_Jd_bitCount_10 rfl rfl ?_
  refine zg_ldcw (x := (858993459 : Int32)) (pc' := 14) zd_Jd_bitCount_11 zq580 rfl ?_
  refine zg_iand (pc' := 15) zd_Jd_bitCount_14 rfl ?_
  refine zg_iload_n (pc' := 16) zd_Jd_bitCount_15 rfl rfl ?_
  refine zg_iconst (x := (2 : Int32)) (pc' := 17) zd_Jd_bitCount_16 (by decide) rfl ?_
  refine zg_iushr (pc' := 18) zd_Jd_bitCount_17 rfl ?_
  refine zg_ldcw (x := (858993459 : Int32)) (pc' := 21) zd_Jd_bitCount_18 zq580 rfl ?_
  refine zg_iand (pc' := 22) zd_Jd_bitCount_21 rfl ?_
  refine zg_iadd (pc' := 23) zd_Jd_bitCount_22 rfl ?_
  refine zg_istore_n (L' := [some (.int (((a0 - (((a0.toUInt32 >>> ((1 : Int32).toUInt32 &&& Int32.toUInt32 31)).toInt32) &&& (1431655765 : Int32))) &&& (858993459 : Int32)) + ((((a0 - (((a0.toUInt32 >>> ((1 : Int32).toUInt32 &&& Int32.toUInt32 31)).toInt32) &&& (1431655765 : Int32))).toUInt32 >>> ((2 : Int32).toUInt32 &&& Int32.toUInt32 31)).toInt32) &&& (858993459 : Int32))))]) (pc' := 24) zd_Jd_bitCount_23 (by decide) rfl rfl ?_
  refine zg_iload_n (pc' := 25) zd_Jd_bitCount_24 rfl rfl ?_
  refine zg_iload_n (pc' := 26) zd_Jd_bitCount_25 rfl rfl ?_
  refine zg_iconst (x := (4 : Int32)) (pc' := 27) zd_Jd_bitCount_26 (by decide) rfl ?_
  refine zg_iushr (pc' := 28) zd_Jd_bitCount_27 rfl ?_
  refine zg_iadd (pc' := 29) zd_Jd_bitCount_28 rfl ?_
  refine zg_ldcw (x := (252645135 : Int32)) (pc' := 32) zd_Jd_bitCount_29 zq581 rfl ?_
  refine zg_iand (pc' := 33) zd_Jd_bitCount_32 rfl ?_
  refine zg_istore_n (L' := [some (.int (((((a0 - (((a0.toUInt32 >>> ((1 : Int32).toUInt32 &&& Int32.toUInt32 31)).toInt32) &&& (1431655765 : Int32))) &&& (858993459 : Int32)) + ((((a0 - (((a0.toUInt32 >>> ((1 : Int32).toUInt32 &&& Int32.toUInt32 31)).toInt32) &&& (1431655765 : Int32))).toUInt32 >>> ((2 : Int32).toUInt32 &&& Int32.toUInt32 31)).toInt32) &&& (858993459 : Int32))) + (((((a0 - (((a0.toUInt32 >>> ((1 : Int32).toUInt32 &&& Int32.toUInt32 31)).toInt32) &&& (1431655765 : Int32))) &&& (858993459 : Int32)) + ((((a0 - (((a0.toUInt32 >>> ((1 : Int32).toUInt32 &&& Int32.toUInt32 31)).toInt32) &&& (1431655765 : Int32))).toUInt32 >>> ((2 : Int32).toUInt32 &&& Int32.toUInt32 31)).toInt32) &&& (858993459 : Int32))).toUInt32 >>> ((4 : Int32).toUInt32 &&& Int32.toUInt32 31)).toInt32)) &&& (252645135 : Int32)))]) (pc' := 34) zd_Jd_bitCount_33 (by decide) rfl rfl ?_
  refine zg_iload_n (pc' := 35) zd_Jd_bitCount_34 rfl rfl ?_
  refine zg_iload_n (pc' := 36) zd_Jd_bitCount_35 rfl rfl ?_
  refine zg_bipush (x := (8 : Int32)) (pc' := 38) zd_Jd_bitCount_36 (by decide) rfl ?_
  refine zg_iushr (pc' := 39) zd_Jd_bitCount_38 rfl ?_
  refine zg_iadd (pc' := 40) zd_Jd_bitCount_39 rfl ?_
  refine zg_istore_n (L' := [some (.int ((((((a0 - (((a0.toUInt32 >>> ((1 : Int32).toUInt32 &&& Int32.toUInt32 31)).toInt32) &&& (1431655765 : Int32))) &&& (858993459 : Int32)) + ((((a0 - (((a0.toUInt32 >>> ((1 : Int32).toUInt32 &&& Int32.toUInt32 31)).toInt32) &&& (1431655765 : Int32))).toUInt32 >>> ((2 : Int32).toUInt32 &&& Int32.toUInt32 31)).toInt32) &&& (858993459 : Int32))) + (((((a0 - (((a0.toUInt32 >>> ((1 : Int32).toUInt32 &&& Int32.toUInt32 31)).toInt32) &&& (1431655765 : Int32))) &&& (858993459 : Int32)) + ((((a0 - (((a0.toUInt32 >>> ((1 : Int32).toUInt32 &&& Int32.toUInt32 31)).toInt32) &&& (1431655765 : Int32))).toUInt32 >>> ((2 : Int32).toUInt32 &&& Int32.toUInt32 31)).toInt32) &&& (858993459 : Int32))).toUInt32 >>> ((4 : Int32).toUInt32 &&& Int32.toUInt32 31)).toInt32)) &&& (252645135 : Int32)) + (((((((a0 - (((a0.toUInt32 >>> ((1 : Int32).toUInt32 &&& Int32.toUInt32 31)).toInt32) &&& (1431655765 : Int32))) &&& (858993459 : Int32)) + ((((a0 - (((a0.toUInt32 >>> ((1 : Int32).toUInt32 &&& Int32.toUInt32 31)).toInt32) &&& (1431655765 : Int32))).toUInt32 >>> ((2 : Int32).toUInt32 &&& Int32.toUInt32 31)).toInt32) &&& (858993459 : Int32))) + (((((a0 - (((a0.toUInt32 >>> ((1 : Int32).toUInt32 &&& Int32.toUInt32 31)).toInt32) &&& (1431655765 : Int32))) &&& (858993459 : Int32)) + ((((a0 - (((a0.toUInt32 >>> ((1 : Int32).toUInt32 &&& Int32.toUInt32 31)).toInt32) &&& (1431655765 : Int32))).toUInt32 >>> ((2 : Int32).toUInt32 &&& Int32.toUInt32 31)).toInt32) &&& (858993459 : Int32))).toUInt32 >>> ((4 : Int32).toUInt32 &&& Int32.toUInt32 31)).toInt32)) &&& (252645135 : Int32)).toUInt32 >>> ((8 : Int32).toUInt32 &&& Int32.toUInt32 31)).toInt32)))]) (pc' := 41) zd_Jd_bitCount_40 (by decide) rfl rfl ?_
  refine zg_iload_n (pc' := 42) zd_Jd_bitCount_41 rfl rfl ?_
  refine zg_iload_n (pc' := 43) zd_Jd_bitCount_42 rfl rfl ?_
  refine zg_bipush (x := (16 : Int32)) (pc' := 45) zd_Jd_bitCount_43 (by decide) rfl ?_
  refine zg_iushr (pc' := 46) zd_Jd_bitCount_45 rfl ?_
  refine zg_iadd (pc' := 47) zd_Jd_bitCount_46 rfl ?_
  refine zg_istore_n (L' := [some (.int (((((((a0 - (((a0.toUInt32 >>> ((1 : Int32).toUInt32 &&& Int32.toUInt32 31)).toInt32) &&& (1431655765 : Int32))) &&& (858993459 : Int32)) + ((((a0 - (((a0.toUInt32 >>> ((1 : Int32).toUInt32 &&& Int32.toUInt32 31)).toInt32) &&& (1431655765 : Int32))).toUInt32 >>> ((2 : Int32).toUInt32 &&& Int32.toUInt32 31)).toInt32) &&& (858993459 : Int32))) + (((((a0 - (((a0.toUInt32 >>> ((1 : Int32).toUInt32 &&& Int32.toUInt32 31)).toInt32) &&& (1431655765 : Int32))) &&& (858993459 : Int32)) + ((((a0 - (((a0.toUInt32 >>> ((1 : Int32).toUInt32 &&& Int32.toUInt32 31)).toInt32) &&& (1431655765 : Int32))).toUInt32 >>> ((2 : Int32).toUInt32 &&& Int32.toUInt32 31)).toInt32) &&& (858993459 : Int32))).toUInt32 >>> ((4 : Int32).toUInt32 &&& Int32.toUInt32 31)).toInt32)) &&& (252645135 : Int32)) + (((((((a0 - (((a0.toUInt32 >>> ((1 : Int32).toUInt32 &&& Int32.toUInt32 31)).toInt32) &&& (1431655765 : Int32))) &&& (858993459 : Int32)) + ((((a0 - (((a0.toUInt32 >>> ((1 : Int32).toUInt32 &&& Int32.toUInt32 31)).toInt32) &&& (1431655765 : Int32))).toUInt32 >>> ((2 : Int32).toUInt32 &&& Int32.toUInt32 31)).toInt32) &&& (858993459 : Int32))) + (((((a0 - (((a0.toUInt32 >>> ((1 : Int32).toUInt32 &&& Int32.toUInt32 31)).toInt32) &&& (1431655765 : Int32))) &&& (858993459 : Int32)) + ((((a0 - (((a0.toUInt32 >>> ((1 : Int32).toUInt32 &&& Int32.toUInt32 31)).toInt32) &&& (1431655765 : Int32))).toUInt32 >>> ((2 : Int32).toUInt32 &&& Int32.toUInt32 31)).toInt32) &&& (858993459 : Int32))).toUInt32 >>> ((4 : Int32).toUInt32 &&& Int32.toUInt32 31)).toInt32)) &&& (252645135 : Int32)).toUInt32 >>> ((8 : Int32).toUInt32 &&& Int32.toUInt32 31)).toInt32)) + ((((((((a0 - (((a0.toUInt32 >>> ((1 : Int32).toUInt32 &&& Int32.toUInt32 31)).toInt32) &&& (1431655765 : Int32))) &&& (858993459 : Int32)) + ((((a0 - (((a0.toUInt32 >>> ((1 : Int32).toUInt32 &&& Int32.toUInt32 31)).toInt32) &&& (1431655765 : Int32))).toUInt32 >>> ((2 : Int32).toUInt32 &&& Int32.toUInt32 31)).toInt32) &&& (858993459 : Int32))) + (((((a0 - (((a0.toUInt32 >>> ((1 : Int32).toUInt32 &&& Int32.toUInt32 31)).toInt32) &&& (1431655765 : Int32))) &&& (858993459 : Int32)) + ((((a0 - (((a0.toUInt32 >>> ((1 : Int32).toUInt32 &&& Int32.toUInt32 31)).toInt32) &&& (1431655765 : Int32))).toUInt32 >>> ((2 : Int32).toUInt32 &&& Int32.toUInt32 31)).toInt32) &&& (858993459 : Int32))).toUInt32 >>> ((4 : Int32).toUInt32 &&& Int32.toUInt32 31)).toInt32)) &&& (252645135 : Int32)) + (((((((a0 - (((a0.toUInt32 >>> ((1 : Int32).toUInt32 &&& Int32.toUInt32 31)).toInt32) &&& (1431655765 : Int32))) &&& (858993459 : Int32)) + ((((a0 - (((a0.toUInt32 >>> ((1 : Int32).toUInt32 &&& Int32.toUInt32 31)).toInt32) &&& (1431655765 : Int32))).toUInt32 >>> ((2 : Int32).toUInt32 &&& Int32.toUInt32 31)).toInt32) &&& (858993459 : Int32))) + (((((a0 - (((a0.toUInt32 >>> ((1 : Int32).toUInt32 &&& Int32.toUInt32 31)).toInt32) &&& (1431655765 : Int32))) &&& (858993459 : Int32)) + ((((a0 - (((a0.toUInt32 >>> ((1 : Int32).toUInt32 &&& Int32.toUInt32 31)).toInt32) &&& (1431655765 : Int32))).toUInt32 >>> ((2 : Int32).toUInt32 &&& Int32.toUInt32 31)).toInt32) &&& (858993459 : Int32))).toUInt32 >>> ((4 : Int32).toUInt32 &&& Int32.toUInt32 31)).toInt32)) &&& (252645135 : Int32)).toUInt32 >>> ((8 : Int32).toUInt32 &&& Int32.toUInt32 31)).toInt32)).toUInt32 >>> ((16 : Int32).toUInt32 &&& Int32.toUInt32 31)).toInt32)))]) (pc' := 48) zd_Jd_bitCount_47 (by decide) rfl rfl ?_
  refine zg_iload_n (pc' := 49) zd_Jd_bitCount_48 rfl rfl ?_
  refine zg_bipush (x := (63 : Int32)) (pc' := 51) zd_Jd_bitCount_49 (by decide) rfl ?_
  refine zg_iand (pc' := 52) zd_Jd_bitCount_51 rfl ?_
  obtain ⟨rfl, rfl⟩ := rt_q h
  exact zg_iret zd_Jd_bitCount_52 zrt_i
theorem zd_Js_isLatin1_0 : decode prog_15_method_154_code 0 = .ok (.getstatic 38, 3) := by decide +kernel
theorem zd_Js_isLatin1_3 : decode prog_15_method_154_code 3 = .ok (.ifCond .eq 14, 3) := by decide +kernel
theorem zd_Js_isLatin1_6 : decode prog_15_method_154_code 6 = .ok (.aload_n 0, 1) := by decide +kernel
theorem zd_Js_isLatin1_7 : decode prog_15_method_154_code 7 = .ok (.getfield 15, 3) := by decide +kernel
theorem zd_Js_isLatin1_10 : decode prog_15_method_154_code 10 = .ok (.ifCond .ne 7, 3) := by decide +kernel
theorem zd_Js_isLatin1_17 : decode prog_15_method_154_code 17 = .ok (.iconst 0, 1) := by decide +kernel
theorem zd_Js_isLatin1_13 : decode prog_15_method_154_code 13 = .ok (.iconst 1, 1) := by decide +kernel
theorem zd_Js_isLatin1_14 : decode prog_15_method_154_code 14 = .ok (.goto 4, 3) := by decide +kernel
theorem zd_Js_isLatin1_18 : decode prog_15_method_154_code 18 = .ok (.ireturn, 1) := by decide +kernel
abbrev zm_Js_isLatin1 : zQ := ("java/lang/String", prog_15_method_154_code, 1, (Option.some Jvm.ClassFile.FieldType.boolean), false)
set_option maxRecDepth 100000 in
def fn_Js_isLatin1 (a0 : Nat) (S : zS) : Option (Int32 × zS) :=
  br (decide ((1 : Int32) = 0)) (some ((0 : Int32), S)) <|
  gd (gT S a0 7) <|
  br (decide ((0 : Int32) = 0)) (some ((1 : Int32), S)) <|
  some ((0 : Int32), S)
set_option maxRecDepth 100000 in
set_option maxHeartbeats 4000000 in
theorem tm_Js_isLatin1 {X : zXt} {d : Nat} (hd : 2 ≤ d) {v : Int32} {a0 : Nat} {S : zS} {S' : zS} (h : fn_Js_isLatin1 a0 S = some (v, S')) : zM X zy_Js_isLatin1 prog_15_method_154_code 1 (Option.some Jvm.ClassFile.FieldType.boolean) d [.ref a0] S (some (.int v)) S' := by
  refine zM_of (ini := false) (L := [some (.ref a0)]) (plainFor_of_name (by decide)) (fun h => by cases h) (Nat.le_of_ble_eq_true rfl) rfl ?_
  unfold fn_Js_isLatin1 at h
  refine zg_gs0 (w := .int (1 : Int32)) (pc' := 3) zk_compact (Or.inl zq466) zd_Js_isLatin1_0 rfl ?_
  rcases br_some h with ⟨c1, h⟩ | ⟨c1, h⟩
  · refine zg_if_eq (tgt := 17) (pc' := 6) zd_Js_isLatin1_3 (by decide) rfl (fun _ => ?_) (fun q => absurd c1 q)
    refine zg_iconst (x := (0 : Int32)) (pc' := 18) zd_Js_isLatin1_17 (by decide) rfl ?_
    obtain ⟨rfl, rfl⟩ := rt_q h
    exact zg_iret zd_Js_isLatin1_18 (zrt_z (by decide))
  · refine zg_if_eq (tgt := 17) (pc' := 6) zd_Js_isLatin1_3 (by decide) rfl (fun q => absurd q c1) (fun _ => ?_)
    refine zg_aload_n (pc' := 7) zd_Js_isLatin1_6 rfl rfl ?_
    obtain ⟨g2, h⟩ := gd_some h
    refine zg_getSc (pc' := 10) zq1211 zd_Js_isLatin1_7 (gT_ok g2) rfl ?_
    rcases br_some h with ⟨c3, h⟩ | ⟨c3, h⟩
    · refine zg_if_ne (tgt := 17) (pc' := 13) zd_Js_isLatin1_10 (by decide) rfl (fun q => absurd c3 q) (fun _ => ?_)
      refine zg_iconst (x := (1 : Int32)) (pc' := 14) zd_Js_isLatin1_13 (by decide) rfl ?_
      refine zg_goto (tgt := 18) zd_Js_isLatin1_14 (by decide) ?_
      obtain ⟨rfl, rfl⟩ := rt_q h
      exact zg_iret zd_Js_isLatin1_18 (zrt_z (by decide))
    · refine zg_if_ne (tgt := 17) (pc' := 13) zd_Js_isLatin1_10 (by decide) rfl (fun _ => ?_) (fun q => absurd q c3)
      refine zg_iconst (x := (0 : Int32)) (pc' := 18) zd_Js_isLatin1_17 (by decide) rfl ?_
      obtain ⟨rfl, rfl⟩ := rt_q h
      exact zg_iret zd_Js_isLatin1_18 (zrt_z (by decide))
theorem zd_Jp_checkIndex_0 : decode prog_19_method_11_code 0 = .ok (.iload_n 0, 1) := by decide +kernel
theorem zd_Jp_checkIndex_1 : decode prog_19_method_11_code 1 = .ok (.ifCond .lt 8, 3) := by decide +kernel
theorem zd_Jp_checkIndex_4 : decode prog_19_method_11_code 4 = .ok (.iload_n 0, 1) := by decide +kernel
theorem zd_Jp_checkIndex_5 : decode prog_19_method_11_code 5 = .ok (.iload_n 1, 1) := by decide +kernel
theorem zd_Jp_checkIndex_6 : decode prog_19_method_11_code 6 = .ok (.if_icmp .lt 10, 3) := by decide +kernel
theorem zd_Jp_checkIndex_16 : decode prog_19_method_11_code 16 = .ok (.iload_n 0, 1) := by decide +kernel
theorem zd_Jp_checkIndex_17 : decode prog_19_method_11_code 17 = .ok (.ireturn, 1) := by decide +kernel
theorem zd_Jp_checkIndex_9 : decode prog_19_method_11_code 9 = .ok (.aload_n 2, 1) := by decide +kernel
theorem zd_Jp_checkIndex_10 : decode prog_19_method_11_code 10 = .ok (.iload_n 0, 1) := by decide +kernel
theorem zd_Jp_checkIndex_11 : decode prog_19_method_11_code 11 = .ok (.iload_n 1, 1) := by decide +kernel
theorem zd_Jp_checkIndex_12 : decode prog_19_method_11_code 12 = .ok (.invokestatic 95, 3) := by decide +kernel
theorem zd_Jp_checkIndex_15 : decode prog_19_method_11_code 15 = .ok (.athrow, 1) := by decide +kernel
abbrev zm_Jp_checkIndex : zQ := ("jdk/internal/util/Preconditions", prog_19_method_11_code, 3, (Option.some Jvm.ClassFile.FieldType.int), false)
set_option maxRecDepth 100000 in
def fn_Jp_checkIndex (a0 : Int32) (a1 : Int32) (a2 : Nat) (S : zS) : Option (Int32 × zS) :=
  br (decide (a0 < 0)) (none) <|
  br (decide (a0 < a1)) (some (a0, S)) <|
  none
set_option maxRecDepth 100000 in
set_option maxHeartbeats 4000000 in
theorem tm_Jp_checkIndex {X : zXt} {d : Nat} (hd : 2 ≤ d) {v : Int32} {a0 : Int32} {a1 : Int32} {a2 : Nat} {S : zS} {S' : zS} (h : fn_Jp_checkIndex a0 a1 a2 S = some (v, S')) : zM X zy_Jp_checkIndex prog_19_method_11_code 3 (Option.some Jvm.ClassFile.FieldType.int) d [.int a0, .int a1, .ref a2] S (some (.int v)) S' := by
  refine zM_of (ini := false) (L := [some (.int a0), some (.int a1), some (.ref a2)]) (plainFor_of_name (by decide)) (fun h => by cases h) (Nat.le_of_ble_eq_true rfl) rfl ?_
  unfold fn_Jp_checkIndex at h
  refine zg_iload_n (pc' := 1) zd_Jp_checkIndex_0 rfl rfl ?_
  rcases br_some h with ⟨c1, h⟩ | ⟨c1, h⟩
  · refine zg_if_lt (tgt := 9) (pc' := 4) zd_Jp_checkIndex_1 (by decide) rfl (fun _ => ?_) (fun q => absurd c1 q)
    refine zg_aload_n (pc' := 10) zd_Jp_checkIndex_9 rfl rfl ?_
    refine zg_iload_n (pc' := 11) zd_Jp_checkIndex_10 rfl rfl ?_
    refine zg_iload_n (pc' := 12) zd_Jp_checkIndex_11 rfl rfl ?_
    cases h
  · refine zg_if_lt (tgt := 9) (pc' := 4) zd_Jp_checkIndex_1 (by decide) rfl (fun q => absurd q c1) (fun _ => ?_)
    refine zg_iload_n (pc' := 5) zd_Jp_checkIndex_4 rfl rfl ?_
    refine zg_iload_n (pc' := 6) zd_Jp_checkIndex_5 rfl rfl ?_
    rcases br_some h with ⟨c2, h⟩ | ⟨c2, h⟩
    · refine zg_icmp_lt (tgt := 16) (pc' := 9) zd_Jp_checkIndex_6 (by decide) rfl (fun _ => ?_) (fun q => absurd c2 q)
      refine zg_iload_n (pc' := 17) zd_Jp_checkIndex_16 rfl rfl ?_
      obtain ⟨rfl, rfl⟩ := rt_q h
      exact zg_iret zd_Jp_checkIndex_17 zrt_i
    · refine zg_icmp_lt (tgt := 16) (pc' := 9) zd_Jp_checkIndex_6 (by decide) rfl (fun q => absurd q c2) (fun _ => ?_)
      refine zg_aload_n (pc' := 10) zd_Jp_checkIndex_9 rfl rfl ?_
      refine zg_iload_n (pc' := 11) zd_Jp_checkIndex_10 rfl rfl ?_
      refine zg_iload_n (pc' := 12) zd_Jp_checkIndex_11 rfl rfl ?_
      cases h
theorem zd_Js_checkIndex_0 : decode prog_15_method_155_code 0 = .ok (.iload_n 0, 1) := by decide +kernel
theorem zd_Js_checkIndex_1 : decode prog_15_method_155_code 1 = .ok (.iload_n 1, 1) := by decide +kernel
theorem zd_Js_checkIndex_2 : decode prog_15_method_155_code 2 = .ok (.getstatic 1053, 3) := by decide +kernel
theorem zd_Js_checkIndex_5 : decode prog_15_method_155_code 5 = .ok (.invokestatic 1059, 3) := by decide +kernel
theorem zd_Js_checkIndex_8 : decode prog_15_method_155_code 8 = .ok (.pop, 1) := by decide +kernel
theorem zd_Js_checkIndex_9 : decode prog_15_method_155_code 9 = .ok (.return_, 1) := by decide +kernel
abbrev zm_Js_checkIndex : zQ := ("java/lang/String", prog_15_method_155_code, 2, (Option.none : Option Jvm.ClassFile.FieldType), false)
set_option maxRecDepth 100000 in
def fn_Js_checkIndex (a0 : Int32) (a1 : Int32) (S : zS) : Option (zS) :=
  bq (fn_Jp_checkIndex a0 a1 10 S) fun r3 S1 =>
  some S1
set_option maxRecDepth 100000 in
set_option maxHeartbeats 4000000 in
theorem tm_Js_checkIndex {X : zXt} {d : Nat} (hd : 3 ≤ d) {a0 : Int32} {a1 : Int32} {S : zS} {S' : zS} (h : fn_Js_checkIndex a0 a1 S = some S') : zM X zy_Js_checkIndex prog_15_method_155_code 2 (Option.none : Option Jvm.ClassFile.FieldType) d [.int a0, .int a1] S none S' := by
  refine zM_of (ini := false) (L := [some (.int a0), some (.int a1)]) (plainFor_of_name (by decide)) (fun h => by cases h) (Nat.le_of_ble_eq_true rfl) rfl ?_
  unfold fn_Js_checkIndex at h
  refine zg_iload_n (pc' := 1) zd_Js_checkIndex_0 rfl rfl ?_
  refine zg_iload_n (pc' := 2) zd_Js_checkIndex_1 rfl rfl ?_
  refine zg_gs0 (w := .ref 10) (pc' := 5) zk_sioobe (Or.inl zq482) zd_Js_checkIndex_2 rfl ?_
  obtain ⟨r3, S1, e2, h⟩ := bq_some h
  refine zg_callS (As := [.int a0, .int a1, .ref 10]) (rest := []) (pc' := 8) zl_Js_1059 zq485 zd_Js_checkIndex_5 rfl rfl (Nat.le_of_ble_eq_true rfl) (by omega) (tm_Jp_checkIndex (d := 2) (Nat.le_refl _) e2) rfl ?_
  refine zg_st (st' := [.int r3]) rfl ?_
  refine zg_pop (pc' := 9) zd_Js_checkIndex_8 rfl rfl ?_
  obtain rfl := rt_v h
  exact zg_vret zd_Js_checkIndex_9 rfl
theorem zd_Jl_charAt_0 : decode prog_16_method_2_code 0 = .ok (.iload_n 1, 1) := by decide +kernel
theorem zd_Jl_charAt_1 : decode prog_16_method_2_code 1 = .ok (.aload_n 0, 1) := by decide +kernel
theorem zd_Jl_charAt_2 : decode prog_16_method_2_code 2 = .ok (.arraylength, 1) := by decide +kernel
theorem zd_Jl_charAt_3 : decode prog_16_method_2_code 3 = .ok (.invokestatic 9, 3) := by decide +kernel
theorem zd_Jl_charAt_6 : decode prog_16_method_2_code 6 = .ok (.aload_n 0, 1) := by decide +kernel
theorem zd_Jl_charAt_7 : decode prog_16_method_2_code 7 = .ok (.iload_n 1, 1) := by decide +kernel
theorem zd_Jl_charAt_8 : decode prog_16_method_2_code 8 = .ok (.baload, 1) := by decide +kernel
theorem zd_Jl_charAt_9 : decode prog_16_method_2_code 9 = .ok (.sipush 255, 3) := by decide +kernel
theorem zd_Jl_charAt_12 : decode prog_16_method_2_code 12 = .ok (.iand, 1) := by decide +kernel
theorem zd_Jl_charAt_13 : decode prog_16_method_2_code 13 = .ok (.i2c, 1) := by decide +kernel
theorem zd_Jl_charAt_14 : decode prog_16_method_2_code 14 = .ok (.ireturn, 1) := by decide +kernel
abbrev zm_Jl_charAt : zQ := ("java/lang/StringLatin1", prog_16_method_2_code, 2, (Option.some Jvm.ClassFile.FieldType.char), false)
set_option maxRecDepth 100000 in
def fn_Jl_charAt (a0 : Nat) (a1 : Int32) (S : zS) : Option (Int32 × zS) :=
  gd (gT S a0 8) <|
  bv (fn_Js_checkIndex a1 (Int32.ofNat (zT S a0).2) S) fun S2 =>
  gd (gT S2 a0 8) <|
  gd (gB a1 (zT S2 a0).2) <|
  gd (gC ((((zI S2 a0 a1.toNatClampNeg) &&& (255 : Int32)).toUInt32 % 65536).toInt32)) <|
  some (((((zI S2 a0 a1.toNatClampNeg) &&& (255 : Int32)).toUInt32 % 65536).toInt32), S2)
set_option maxRecDepth 100000 in
set_option maxHeartbeats 4000000 in
theorem tm_Jl_charAt {X : zXt} {d : Nat} (hd : 4 ≤ d) {v : Int32} {a0 : Nat} {a1 : Int32} {S : zS} {S' : zS} (h : fn_Jl_charAt a0 a1 S = some (v, S')) : zM X zy_Jl_charAt prog_16_method_2_code 2 (Option.some Jvm.ClassFile.FieldType.char) d [.ref a0, .int a1] S (some (.int v)) S' := by
  refine zM_of (ini := false) (L := [some (.ref a0), some (.int a1)]) (plainFor_of_name (by decide)) (fun h => by cases h) (Nat.le_of_ble_eq_true rfl) rfl ?_
  unfold fn_Jl_charAt at h
  refine zg_iload_n (pc' := 1) zd_Jl_charAt_0 rfl rfl ?_
  refine zg_aload_n (pc' := 2) zd_Jl_charAt_1 rfl rfl ?_
  obtain ⟨g1, h⟩ := gd_some h
  refine zg_alenB (pc' := 3) zd_Jl_charAt_2 (gT_ok g1) rfl ?_
  obtain ⟨S2, e3, h⟩ := bv_some h
  refine zg_callS (As := [.int a1, .int (Int32.ofNat (zT S a0).2)]) (rest := []) (pc' := 6) zl_Jl_9 zq480 zd_Jl_charAt_3 rfl rfl (Nat.le_of_ble_eq_true rfl) (by omega) (tm_Js_checkIndex (d := 3) (Nat.le_refl _) e3) rfl ?_
  refine zg_st (st' := []) rfl ?_
  refine zg_aload_n (pc' := 7) zd_Jl_charAt_6 rfl rfl ?_
  refine zg_iload_n (pc' := 8) zd_Jl_charAt_7 rfl rfl ?_
  obtain ⟨g4, h⟩ := gd_some h
  obtain ⟨g5, h⟩ := gd_some h
  refine zg_bald (pc' := 9) zd_Jl_charAt_8 (gT_ok g4) (gB_ok g5) rfl ?_
  refine zg_sipush (x := (255 : Int32)) (pc' := 12) zd_Jl_charAt_9 (by decide) rfl ?_
  refine zg_iand (pc' := 13) zd_Jl_charAt_12 rfl ?_
  refine zg_i2c (pc' := 14) zd_Jl_charAt_13 rfl ?_
  obtain ⟨g6, h⟩ := gd_some h
  obtain ⟨rfl, rfl⟩ := rt_q h
  exact zg_iret zd_Jl_charAt_14 (zrt_c (gC_ok g6))
theorem zd_Js_charAt_0 : decode prog_15_method_56_code 0 = .ok (.aload_n 0, 1) := by decide +kernel
theorem zd_Js_charAt_1 : decode prog_15_method_56_code 1 = .ok (.invokevirtual 492, 3) := by decide +kernel
theorem zd_Js_charAt_4 : decode prog_15_method_56_code 4 = .ok (.ifCond .eq 12, 3) := by decide +kernel
theorem zd_Js_charAt_16 : decode prog_15_method_56_code 16 = .ok (.aload_n 0, 1) := by decide +kernel
theorem zd_Js_charAt_17 : decode prog_15_method_56_code 17 = .ok (.getfield 9, 3) := by decide +kernel
theorem zd_Js_charAt_20 : decode prog_15_method_56_code 20 = .ok (.iload_n 1, 1) := by decide +kernel
theorem zd_Js_charAt_21 : decode prog_15_method_56_code 21 = .ok (.invokestatic 498, 3) := by decide +kernel
theorem zd_Js_charAt_24 : decode prog_15_method_56_code 24 = .ok (.ireturn, 1) := by decide +kernel
theorem zd_Js_charAt_7 : decode prog_15_method_56_code 7 = .ok (.aload_n 0, 1) := by decide +kernel
theorem zd_Js_charAt_8 : decode prog_15_method_56_code 8 = .ok (.getfield 9, 3) := by decide +kernel
theorem zd_Js_charAt_11 : decode prog_15_method_56_code 11 = .ok (.iload_n 1, 1) := by decide +kernel
theorem zd_Js_charAt_12 : decode prog_15_method_56_code 12 = .ok (.invokestatic 495, 3) := by decide +kernel
theorem zd_Js_charAt_15 : decode prog_15_method_56_code 15 = .ok (.ireturn, 1) := by decide +kernel
abbrev zm_Js_charAt : zQ := ("java/lang/String", prog_15_method_56_code, 2, (Option.some Jvm.ClassFile.FieldType.char), false)
set_option maxRecDepth 100000 in
def fn_Js_charAt (a0 : Nat) (a1 : Int32) (S : zS) : Option (Int32 × zS) :=
  gd (gT S a0 7) <|
  bq (fn_Js_isLatin1 a0 S) fun r4 S2 =>
  br (decide (r4 = 0)) (gd (gT S2 a0 7) <|
  none) <|
  gd (gT S2 a0 7) <|
  bq (fn_Jl_charAt (zR S2 a0 0) a1 S2) fun r10 S8 =>
  gd (gC r10) <|
  some (r10, S8)
set_option maxRecDepth 100000 in
set_option maxHeartbeats 4000000 in
theorem tm_Js_charAt {X : zXt} {d : Nat} (hd : 5 ≤ d) {v : Int32} {a0 : Nat} {a1 : Int32} {S : zS} {S' : zS} (h : fn_Js_charAt a0 a1 S = some (v, S')) : zM X zy_Js_charAt prog_15_method_56_code 2 (Option.some Jvm.ClassFile.FieldType.char) d [.ref a0, .int a1] S (some (.int v)) S' := by
  refine zM_of (ini := false) (L := [some (.ref a0), some (.int a1)]) (plainFor_of_name (by decide)) (fun h => by cases h) (Nat.le_of_ble_eq_true rfl) rfl ?_
  unfold fn_Js_charAt at h
  refine zg_aload_n (pc' := 1) zd_Js_charAt_0 rfl rfl ?_
  obtain ⟨g1, h⟩ := gd_some h
  obtain ⟨r4, S2, e3, h⟩ := bq_some h
  refine zg_callT (As := []) (rest := []) (pc' := 4) zl_Js_492 zq473 zq474 rfl zd_Js_charAt_1 rfl rfl (Nat.le_of_ble_eq_true rfl) (by omega) (gT_ok g1) (tm_Js_isLatin1 (d := 2) (Nat.le_refl _) e3) rfl ?_
  refine zg_st (st' := [.int r4]) rfl ?_
  rcases br_some h with ⟨c5, h⟩ | ⟨c5, h⟩
  · refine zg_if_eq (tgt := 16) (pc' := 7) zd_Js_charAt_4 (by decide) rfl (fun _ => ?_) (fun q => absurd c5 q)
    refine zg_aload_n (pc' := 17) zd_Js_charAt_16 rfl rfl ?_
    obtain ⟨g6, h⟩ := gd_some h
    refine zg_getSv (pc' := 20) zq1210 zd_Js_charAt_17 (gT_ok g6) rfl ?_
    refine zg_iload_n (pc' := 21) zd_Js_charAt_20 rfl rfl ?_
    cases h
  · refine zg_if_eq (tgt := 16) (pc' := 7) zd_Js_charAt_4 (by decide) rfl (fun q => absurd q c5) (fun _ => ?_)
    refine zg_aload_n (pc' := 8) zd_Js_charAt_7 rfl rfl ?_
    obtain ⟨g7, h⟩ := gd_some h
    refine zg_getSv (pc' := 11) zq1210 zd_Js_charAt_8 (gT_ok g7) rfl ?_
    refine zg_iload_n (pc' := 12) zd_Js_charAt_11 rfl rfl ?_
    obtain ⟨r10, S8, e9, h⟩ := bq_some h
    refine zg_callS (As := [.ref (zR S2 a0 0), .int a1]) (rest := []) (pc' := 15) zl_Js_495 zq477 zd_Js_charAt_12 rfl rfl (Nat.le_of_ble_eq_true rfl) (by omega) (tm_Jl_charAt (d := 4) (Nat.le_refl _) e9) rfl ?_
    refine zg_st (st' := [.int r10]) rfl ?_
    obtain ⟨g11, h⟩ := gd_some h
    obtain ⟨rfl, rfl⟩ := rt_q h
    exact zg_iret zd_Js_charAt_15 (zrt_c (gC_ok g11))
theorem zd_Js_coder_0 : decode prog_15_method_152_code 0 = .ok (.getstatic 38, 3) := by decide +kernel
theorem zd_Js_coder_3 : decode prog_15_method_152_code 3 = .ok (.ifCond .eq 10, 3) := by decide +kernel
theorem zd_Js_coder_13 : decode prog_15_method_152_code 13 = .ok (.iconst 1, 1) := by decide +kernel
theorem zd_Js_coder_6 : decode prog_15_method_152_code 6 = .ok (.aload_n 0, 1) := by decide +kernel
theorem zd_Js_coder_7 : decode prog_15_method_152_code 7 = .ok (.getfield 15, 3) := by decide +kernel
theorem zd_Js_coder_10 : decode prog_15_method_152_code 10 = .ok (.goto 4, 3) := by decide +kernel
theorem zd_Js_coder_14 : decode prog_15_method_152_code 14 = .ok (.ireturn, 1) := by decide +kernel
abbrev zm_Js_coder : zQ := ("java/lang/String", prog_15_method_152_code, 1, (Option.some Jvm.ClassFile.FieldType.byte), false)
set_option maxRecDepth 100000 in
def fn_Js_coder (a0 : Nat) (S : zS) : Option (Int32 × zS) :=
  br (decide ((1 : Int32) = 0)) (gd (gE (1 : Int32)) <|
  some ((1 : Int32), S)) <|
  gd (gT S a0 7) <|
  some ((0 : Int32), S)
set_option maxRecDepth 100000 in
set_option maxHeartbeats 4000000 in
theorem tm_Js_coder {X : zXt} {d : Nat} (hd : 2 ≤ d) {v : Int32} {a0 : Nat} {S : zS} {S' : zS} (h : fn_Js_coder a0 S = some (v, S')) : zM X zy_Js_coder prog_15_method_152_code 1 (Option.some Jvm.ClassFile.FieldType.byte) d [.ref a0] S (some (.int v)) S' := by
  refine zM_of (ini := false) (L := [some (.ref a0)]) (plainFor_of_name (by decide)) (fun h => by cases h) (Nat.le_of_ble_eq_true rfl) rfl ?_
  unfold fn_Js_coder at h
  refine zg_gs0 (w := .int (1 : Int32)) (pc' := 3) zk_compact (Or.inl zq466) zd_Js_coder_0 rfl ?_
  rcases br_some h with ⟨c1, h⟩ | ⟨c1, h⟩
  · refine zg_if_eq (tgt := 13) (pc' := 6) zd_Js_coder_3 (by decide) rfl (fun _ => ?_) (fun q => absurd c1 q)
    refine zg_iconst (x := (1 : Int32)) (pc' := 14) zd_Js_coder_13 (by decide) rfl ?_
    obtain ⟨g2, h⟩ := gd_some h
    obtain ⟨rfl, rfl⟩ := rt_q h
    exact zg_iret zd_Js_coder_14 (zrt_b (gE_ok g2))
  · refine zg_if_eq (tgt := 13) (pc' := 6) zd_Js_coder_3 (by decide) rfl (fun q => absurd q c1) (fun _ => ?_)
    refine zg_aload_n (pc' := 7) zd_Js_coder_6 rfl rfl ?_
    obtain ⟨g3, h⟩ := gd_some h
    refine zg_getSc (pc' := 10) zq1211 zd_Js_coder_7 (gT_ok g3) rfl ?_
    refine zg_goto (tgt := 14) zd_Js_coder_10 (by decide) ?_
    obtain ⟨rfl, rfl⟩ := rt_q h
    exact zg_iret zd_Js_coder_14 (zrt_b (by decide))
theorem zd_Js_length_0 : decode prog_15_method_54_code 0 = .ok (.aload_n 0, 1) := by decide +kernel
theorem zd_Js_length_1 : decode prog_15_method_54_code 1 = .ok (.getfield 9, 3) := by decide +kernel
theorem zd_Js_length_4 : decode prog_15_method_54_code 4 = .ok (.arraylength, 1) := by decide +kernel
theorem zd_Js_length_5 : decode prog_15_method_54_code 5 = .ok (.aload_n 0, 1) := by decide +kernel
theorem zd_Js_length_6 : decode prog_15_method_54_code 6 = .ok (.invokevirtual 335, 3) := by decide +kernel
theorem zd_Js_length_9 : decode prog_15_method_54_code 9 = .ok (.ishr, 1) := by decide +kernel
theorem zd_Js_length_10 : decode prog_15_method_54_code 10 = .ok (.ireturn, 1) := by decide +kernel
abbrev zm_Js_length : zQ := ("java/lang/String", prog_15_method_54_code, 1, (Option.some Jvm.ClassFile.FieldType.int), false)
set_option maxRecDepth 100000 in
def fn_Js_length (a0 : Nat) (S : zS) : Option (Int32 × zS) :=
  gd (gT S a0 7) <|
  gd (gT S (zR S a0 0) 8) <|
  bq (fn_Js_coder a0 S) fun r5 S3 =>
  some (((Int32.ofNat (zT S (zR S a0 0)).2) >>> (r5 &&& 31)), S3)
set_option maxRecDepth 100000 in
set_option maxHeartbeats 4000000 in
theorem tm_Js_length {X : zXt} {d : Nat} (hd : 3 ≤ d) {v : Int32} {a0 : Nat} {S : zS} {S' : zS} (h : fn_Js_length a0 S = some (v, S')) : zM X zy_Js_length prog_15_method_54_code 1 (Option.some Jvm.ClassFile.FieldType.int) d [.ref a0] S (some (.int v)) S' := by
  refine zM_of (ini := false) (L := [some (.ref a0)]) (plainFor_of_name (by decide)) (fun h => by cases h) (Nat.le_of_ble_eq_true rfl) rfl ?_
  unfold fn_Js_length at h
  refine zg_aload_n (pc' := 1) zd_Js_length_0 rfl rfl ?_
  obtain ⟨g1, h⟩ := gd_some h
  refine zg_getSv (pc' := 4) zq1210 zd_Js_length_1 (gT_ok g1) rfl ?_
  obtain ⟨g2, h⟩ := gd_some h
  refine zg_alenB (pc' := 5) zd_Js_length_4 (gT_ok g2) rfl ?_
  refine zg_aload_n (pc' := 6) zd_Js_length_5 rfl rfl ?_
  obtain ⟨r5, S3, e4, h⟩ := bq_some h
  refine zg_callT (As := []) (rest := [.int (Int32.ofNat (zT S (zR S a0 0)).2)]) (pc' := 9) zl_Js_335 zq463 zq464 rfl zd_Js_length_6 rfl rfl (Nat.le_of_ble_eq_true rfl) (by omega) (gT_ok g1) (tm_Js_coder (d := 2) (Nat.le_refl _) e4) rfl ?_
  refine zg_st (st' := [.int r5, .int (Int32.ofNat (zT S (zR S a0 0)).2)]) rfl ?_
  refine zg_ishr (pc' := 10) zd_Js_length_9 rfl ?_
  obtain ⟨rfl, rfl⟩ := rt_q h
  exact zg_iret zd_Js_length_10 zrt_i
theorem zd_Jd_max_0 : decode prog_14_method_65_code 0 = .ok (.iload_n 0, 1) := by decide +kernel
theorem zd_Jd_max_1 : decode prog_14_method_65_code 1 = .ok (.iload_n 1, 1) := by decide +kernel
theorem zd_Jd_max_2 : decode prog_14_method_65_code 2 = .ok (.if_icmp .lt 7, 3) := by decide +kernel
theorem zd_Jd_max_9 : decode prog_14_method_65_code 9 = .ok (.iload_n 1, 1) := by decide +kernel
theorem zd_Jd_max_5 : decode prog_14_method_65_code 5 = .ok (.iload_n 0, 1) := by decide +kernel
theorem zd_Jd_max_6 : decode prog_14_method_65_code 6 = .ok (.goto 4, 3) := by decide +kernel
theorem zd_Jd_max_10 : decode prog_14_method_65_code 10 = .ok (.ireturn, 1) := by decide +kernel
abbrev zm_Jd_max : zQ := ("java/lang/Math", prog_14_method_65_code, 2, (Option.some Jvm.ClassFile.FieldType.int), false)
set_option maxRecDepth 100000 in
def fn_Jd_max (a0 : Int32) (a1 : Int32) (S : zS) : Option (Int32 × zS) :=
  br (decide (a0 < a1)) (some (a1, S)) <|
  some (a0, S)
set_option maxRecDepth 100000 in
set_option maxHeartbeats 4000000 in
theorem tm_Jd_max {X : zXt} {d : Nat} (hd : 2 ≤ d) {v : Int32} {a0 : Int32} {a1 : Int32} {S : zS} {S' : zS} (h : fn_Jd_max a0 a1 S = some (v, S')) : zM X zy_Jd_max prog_14_method_65_code 2 (Option.some Jvm.ClassFile.FieldType.int) d [.int a0, .int a1] S (some (.int v)) S' := by
  refine zM_of (ini := false) (L := [some (.int a0), some (.int a1)]) (by decide +kernel) (fun h => by cases h) (Nat.le_of_ble_eq_true rfl) rfl ?_
  unfold fn_Jd_max at h
  refine zg_iload_n (pc' := 1) zd_Jd_max_0 rfl rfl ?_
  refine zg_iload_n (pc' := 2) zd_Jd_max_1 rfl rfl ?_
  rcases br_some h with ⟨c1, h⟩ | ⟨c1, h⟩
  · refine zg_icmp_lt (tgt := 9) (pc' := 5) zd_Jd_max_2 (by decide) rfl (fun _ => ?_) (fun q => absurd c1 q)
    refine zg_iload_n (pc' := 10) zd_Jd_max_9 rfl rfl ?_
    obtain ⟨rfl, rfl⟩ := rt_q h
    exact zg_iret zd_Jd_max_10 zrt_i
  · refine zg_icmp_lt (tgt := 9) (pc' := 5) zd_Jd_max_2 (by decide) rfl (fun q => absurd q c1) (fun _ => ?_)
    refine zg_iload_n (pc' := 6) zd_Jd_max_5 rfl rfl ?_
    refine zg_goto (tgt := 10) zd_Jd_max_6 (by decide) ?_
    obtain ⟨rfl, rfl⟩ := rt_q h
    exact zg_iret zd_Jd_max_10 zrt_i
