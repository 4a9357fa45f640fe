theorem zd_Ls_isKind_0 : decode prog_1_method_40_code 0 = .ok (.iload_n 0, 1) := by decide +kernel
theorem zd_Ls_isKind_1 : decode prog_1_method_40_code 1 = .ok (.ifCond .lt 13, 3) := by decide +kernel
theorem zd_Ls_isKind_4 : decode prog_1_method_40_code 4 = .ok (.iload_n 0, 1) := by decide +kernel
theorem zd_Ls_isKind_5 : decode prog_1_method_40_code 5 = .ok (.bipush 7, 2) := by decide +kernel
theorem zd_Ls_isKind_7 : decode prog_1_method_40_code 7 = .ok (.if_icmp .ge 7, 3) := by decide +kernel
theorem zd_Ls_isKind_14 : decode prog_1_method_40_code 14 = .ok (.iconst 0, 1) := by decide +kernel
theorem zd_Ls_isKind_10 : decode prog_1_method_40_code 10 = .ok (.iconst 1, 1) := by decide +kernel
theorem zd_Ls_isKind_11 : decode prog_1_method_40_code 11 = .ok (.goto 4, 3) := by decide +kernel
theorem zd_Ls_isKind_15 : decode prog_1_method_40_code 15 = .ok (.ireturn, 1) := by decide +kernel
abbrev zm_Ls_isKind : zQ := ("LoofahSaints", prog_1_method_40_code, 1, (Option.some Jvm.ClassFile.FieldType.boolean), false)
set_option maxRecDepth 100000 in
def fn_Ls_isKind (a0 : Int32) (S : zS) : Option (Int32 × zS) :=
  br (decide (a0 < 0)) (some ((0 : Int32), S)) <|
  br (decide ((7 : Int32) ≤ a0)) (some ((0 : Int32), S)) <|
  some ((1 : Int32), S)
set_option maxRecDepth 100000 in
set_option maxHeartbeats 4000000 in
theorem tm_Ls_isKind {X : zXt} {d : Nat} (hd : 2 ≤ d) {v : Int32} {a0 : Int32} {S : zS} {S' : zS} (h : fn_Ls_isKind a0 S = some (v, S')) : zM X zy_Ls_isKind prog_1_method_40_code 1 (Option.some Jvm.ClassFile.FieldType.boolean) d [.int a0] S (some (.int v)) S' := by
  refine zM_of (ini := false) (L := [some (.int a0)]) (plainFor_of_name (by decide)) (fun h => by cases h) (Nat.le_of_ble_eq_true rfl) rfl ?_
  unfold fn_Ls_isKind at h
  refine zg_iload_n (pc' := 1) zd_Ls_isKind_0 rfl rfl ?_
  rcases br_some h with ⟨c1, h⟩ | ⟨c1, h⟩
  · refine zg_if_lt (tgt := 14) (pc' := 4) zd_Ls_isKind_1 (by decide) rfl (fun _ => ?_) (fun q => absurd c1 q)
    refine zg_iconst (x := (0 : Int32)) (pc' := 15) zd_Ls_isKind_14 (by decide) rfl ?_
    obtain ⟨rfl, rfl⟩ := rt_q h
    exact zg_iret zd_Ls_isKind_15 (zrt_z (by decide))
  · refine zg_if_lt (tgt := 14) (pc' := 4) zd_Ls_isKind_1 (by decide) rfl (fun q => absurd q c1) (fun _ => ?_)
    refine zg_iload_n (pc' := 5) zd_Ls_isKind_4 rfl rfl ?_
    refine zg_bipush (x := (7 : Int32)) (pc' := 7) zd_Ls_isKind_5 (by decide) rfl ?_
    rcases br_some h with ⟨c2, h⟩ | ⟨c2, h⟩
    · refine zg_icmp_ge (tgt := 14) (pc' := 10) zd_Ls_isKind_7 (by decide) rfl (fun _ => ?_) (fun q => absurd c2 q)
      refine zg_iconst (x := (0 : Int32)) (pc' := 15) zd_Ls_isKind_14 (by decide) rfl ?_
      obtain ⟨rfl, rfl⟩ := rt_q h
      exact zg_iret zd_Ls_isKind_15 (zrt_z (by decide))
    · refine zg_icmp_ge (tgt := 14) (pc' := 10) zd_Ls_isKind_7 (by decide) rfl (fun q => absurd q c2) (fun _ => ?_)
      refine zg_iconst (x := (1 : Int32)) (pc' := 11) zd_Ls_isKind_10 (by decide) rfl ?_
      refine zg_goto (tgt := 15) zd_Ls_isKind_11 (by decide) ?_
      obtain ⟨rfl, rfl⟩ := rt_q h
      exact zg_iret zd_Ls_isKind_15 (zrt_z (by decide))
theorem zd_Ls_isNovice_0 : decode prog_1_method_38_code 0 = .ok (.iload_n 0, 1) := by decide +kernel
theorem zd_Ls_isNovice_1 : decode prog_1_method_38_code 1 = .ok (.ifCond .lt 12, 3) := by decide +kernel
theorem zd_Ls_isNovice_4 : decode prog_1_method_38_code 4 = .ok (.iload_n 0, 1) := by decide +kernel
theorem zd_Ls_isNovice_5 : decode prog_1_method_38_code 5 = .ok (.iconst 4, 1) := by decide +kernel
theorem zd_Ls_isNovice_6 : decode prog_1_method_38_code 6 = .ok (.if_icmp .ge 7, 3) := by decide +kernel
theorem zd_Ls_isNovice_13 : decode prog_1_method_38_code 13 = .ok (.iconst 0, 1) := by decide +kernel
theorem zd_Ls_isNovice_9 : decode prog_1_method_38_code 9 = .ok (.iconst 1, 1) := by decide +kernel
theorem zd_Ls_isNovice_10 : decode prog_1_method_38_code 10 = .ok (.goto 4, 3) := by decide +kernel
theorem zd_Ls_isNovice_14 : decode prog_1_method_38_code 14 = .ok (.ireturn, 1) := by decide +kernel
abbrev zm_Ls_isNovice : zQ := ("LoofahSaints", prog_1_method_38_code, 1, (Option.some Jvm.ClassFile.FieldType.boolean), false)
set_option maxRecDepth 100000 in
def fn_Ls_isNovice (a0 : Int32) (S : zS) : Option (Int32 × zS) :=
  br (decide (a0 < 0)) (some ((0 : Int32), S)) <|
  br (decide ((4 : Int32) ≤ a0)) (some ((0 : Int32), S)) <|
  some ((1 : Int32), S)
set_option maxRecDepth 100000 in
set_option maxHeartbeats 4000000 in
theorem tm_Ls_isNovice {X : zXt} {d : Nat} (hd : 2 ≤ d) {v : Int32} {a0 : Int32} {S : zS} {S' : zS} (h : fn_Ls_isNovice a0 S = some (v, S')) : zM X zy_Ls_isNovice prog_1_method_38_code 1 (Option.some Jvm.ClassFile.FieldType.boolean) d [.int a0] S (some (.int v)) S' := by
  refine zM_of (ini := false) (L := [some (.int a0)]) (plainFor_of_name (by decide)) (fun h => by cases h) (Nat.le_of_ble_eq_true rfl) rfl ?_
  unfold fn_Ls_isNovice at h
  refine zg_iload_n (pc' := 1) zd_Ls_isNovice_0 rfl rfl ?_
  rcases br_some h with ⟨c1, h⟩ | ⟨c1, h⟩
  · refine zg_if_lt (tgt := 13) (pc' := 4) zd_Ls_isNovice_1 (by decide) rfl (fun _ => ?_) (fun q => absurd c1 q)
    refine zg_iconst (x := (0 : Int32)) (pc' := 14) zd_Ls_isNovice_13 (by decide) rfl ?_
    obtain ⟨rfl, rfl⟩ := rt_q h
    exact zg_iret zd_Ls_isNovice_14 (zrt_z (by decide))
  · refine zg_if_lt (tgt := 13) (pc' := 4) zd_Ls_isNovice_1 (by decide) rfl (fun q => absurd q c1) (fun _ => ?_)
    refine zg_iload_n (pc' := 5) zd_Ls_isNovice_4 rfl rfl ?_
    refine zg_iconst (x := (4 : Int32)) (pc' := 6) zd_Ls_isNovice_5 (by decide) rfl ?_
    rcases br_some h with ⟨c2, h⟩ | ⟨c2, h⟩
    · refine zg_icmp_ge (tgt := 13) (pc' := 9) zd_Ls_isNovice_6 (by decide) rfl (fun _ => ?_) (fun q => absurd c2 q)
      refine zg_iconst (x := (0 : Int32)) (pc' := 14) zd_Ls_isNovice_13 (by decide) rfl ?_
      obtain ⟨rfl, rfl⟩ := rt_q h
      exact zg_iret zd_Ls_isNovice_14 (zrt_z (by decide))
    · refine zg_icmp_ge (tgt := 13) (pc' := 9) zd_Ls_isNovice_6 (by decide) rfl (fun q => absurd q c2) (fun _ => ?_)
      refine zg_iconst (x := (1 : Int32)) (pc' := 10) zd_Ls_isNovice_9 (by decide) rfl ?_
      refine zg_goto (tgt := 14) zd_Ls_isNovice_10 (by decide) ?_
      obtain ⟨rfl, rfl⟩ := rt_q h
      exact zg_iret zd_Ls_isNovice_14 (zrt_z (by decide))
theorem zd_Ls_isSet_0 : decode prog_1_method_39_code 0 = .ok (.iload_n 0, 1) := by decide +kernel
theorem zd_Ls_isSet_1 : decode prog_1_method_39_code 1 = .ok (.ifCond .lt 14, 3) := by decide +kernel
theorem zd_Ls_isSet_4 : decode prog_1_method_39_code 4 = .ok (.iload_n 0, 1) := by decide +kernel
theorem zd_Ls_isSet_5 : decode prog_1_method_39_code 5 = .ok (.sipush 4096, 3) := by decide +kernel
theorem zd_Ls_isSet_8 : decode prog_1_method_39_code 8 = .ok (.if_icmp .ge 7, 3) := by decide +kernel
theorem zd_Ls_isSet_15 : decode prog_1_method_39_code 15 = .ok (.iconst 0, 1) := by decide +kernel
theorem zd_Ls_isSet_11 : decode prog_1_method_39_code 11 = .ok (.iconst 1, 1) := by decide +kernel
theorem zd_Ls_isSet_12 : decode prog_1_method_39_code 12 = .ok (.goto 4, 3) := by decide +kernel
theorem zd_Ls_isSet_16 : decode prog_1_method_39_code 16 = .ok (.ireturn, 1) := by decide +kernel
abbrev zm_Ls_isSet : zQ := ("LoofahSaints", prog_1_method_39_code, 1, (Option.some Jvm.ClassFile.FieldType.boolean), false)
set_option maxRecDepth 100000 in
def fn_Ls_isSet (a0 : Int32) (S : zS) : Option (Int32 × zS) :=
  br (decide (a0 < 0)) (some ((0 : Int32), S)) <|
  br (decide ((4096 : Int32) ≤ a0)) (some ((0 : Int32), S)) <|
  some ((1 : Int32), S)
set_option maxRecDepth 100000 in
set_option maxHeartbeats 4000000 in
theorem tm_Ls_isSet {X : zXt} {d : Nat} (hd : 2 ≤ d) {v : Int32} {a0 : Int32} {S : zS} {S' : zS} (h : fn_Ls_isSet a0 S = some (v, S')) : zM X zy_Ls_isSet prog_1_method_39_code 1 (Option.some Jvm.ClassFile.FieldType.boolean) d [.int a0] S (some (.int v)) S' := by
  refine zM_of (ini := false) (L := [some (.int a0)]) (plainFor_of_name (by decide)) (fun h => by cases h) (Nat.le_of_ble_eq_true rfl) rfl ?_
  unfold fn_Ls_isSet at h
  refine zg_iload_n (pc' := 1) zd_Ls_isSet_0 rfl rfl ?_
  rcases br_some h with ⟨c1, h⟩ | ⟨c1, h⟩
  · refine zg_if_lt (tgt := 15) (pc' := 4) zd_Ls_isSet_1 (by decide) rfl (fun _ => ?_) (fun q => absurd c1 q)
    refine zg_iconst (x := (0 : Int32)) (pc' := 16) zd_Ls_isSet_15 (by decide) rfl ?_
    obtain ⟨rfl, rfl⟩ := rt_q h
    exact zg_iret zd_Ls_isSet_16 (zrt_z (by decide))
  · refine zg_if_lt (tgt := 15) (pc' := 4) zd_Ls_isSet_1 (by decide) rfl (fun q => absurd q c1) (fun _ => ?_)
    refine zg_iload_n (pc' := 5) zd_Ls_isSet_4 rfl rfl ?_
    refine zg_sipush (x := (4096 : Int32)) (pc' := 8) zd_Ls_isSet_5 (by decide) rfl ?_
    rcases br_some h with ⟨c2, h⟩ | ⟨c2, h⟩
    · refine zg_icmp_ge (tgt := 15) (pc' := 11) zd_Ls_isSet_8 (by decide) rfl (fun _ => ?_) (fun q => absurd c2 q)
      refine zg_iconst (x := (0 : Int32)) (pc' := 16) zd_Ls_isSet_15 (by decide) rfl ?_
      obtain ⟨rfl, rfl⟩ := rt_q h
      exact zg_iret zd_Ls_isSet_16 (zrt_z (by decide))
    · refine zg_icmp_ge (tgt := 15) (pc' := 11) zd_Ls_isSet_8 (by decide) rfl (fun q => absurd q c2) (fun _ => ?_)
      refine zg_iconst (x := (1 : Int32)) (pc' := 12) zd_Ls_isSet_11 (by decide) rfl ?_
      refine zg_goto (tgt := 16) zd_Ls_isSet_12 (by decide) ?_
      obtain ⟨rfl, rfl⟩ := rt_q h
      exact zg_iret zd_Ls_isSet_16 (zrt_z (by decide))
theorem zd_Ls_someone_0 : decode prog_1_method_42_code 0 = .ok (.iload_n 0, 1) := by decide +kernel
theorem zd_Ls_someone_1 : decode prog_1_method_42_code 1 = .ok (.iconst (-1), 1) := by decide +kernel
theorem zd_Ls_someone_2 : decode prog_1_method_42_code 2 = .ok (.if_icmp .ne 8, 3) := by decide +kernel
theorem zd_Ls_someone_10 : decode prog_1_method_42_code 10 = .ok (.iload_n 0, 1) := by decide +kernel
theorem zd_Ls_someone_5 : decode prog_1_method_42_code 5 = .ok (.bipush (-5), 2) := by decide +kernel
theorem zd_Ls_someone_7 : decode prog_1_method_42_code 7 = .ok (.goto 4, 3) := by decide +kernel
theorem zd_Ls_someone_11 : decode prog_1_method_42_code 11 = .ok (.ireturn, 1) := by decide +kernel
abbrev zm_Ls_someone : zQ := ("LoofahSaints", prog_1_method_42_code, 1, (Option.some Jvm.ClassFile.FieldType.int), false)
set_option maxRecDepth 100000 in
def fn_Ls_someone (a0 : Int32) (S : zS) : Option (Int32 × zS) :=
  br (decide (a0 = (-1 : Int32))) (some ((-5 : Int32), S)) <|
  some (a0, S)
set_option maxRecDepth 100000 in
set_option maxHeartbeats 4000000 in
theorem tm_Ls_someone {X : zXt} {d : Nat} (hd : 2 ≤ d) {v : Int32} {a0 : Int32} {S : zS} {S' : zS} (h : fn_Ls_someone a0 S = some (v, S')) : zM X zy_Ls_someone prog_1_method_42_code 1 (Option.some Jvm.ClassFile.FieldType.int) d [.int a0] S (some (.int v)) S' := by
  refine zM_of (ini := false) (L := [some (.int a0)]) (plainFor_of_name (by decide)) (fun h => by cases h) (Nat.le_of_ble_eq_true rfl) rfl ?_
  unfold fn_Ls_someone at h
  refine zg_iload_n (pc' := 1) zd_Ls_someone_0 rfl rfl ?_
  refine zg_iconst (x := (-1 : Int32)) (pc' := 2) zd_Ls_someone_1 (by decide) rfl ?_
  rcases br_some h with ⟨c1, h⟩ | ⟨c1, h⟩
  · refine zg_icmp_ne (tgt := 10) (pc' := 5) zd_Ls_someone_2 (by decide) rfl (fun q => absurd c1 q) (fun _ => ?_)
    refine zg_bipush (x := (-5 : Int32)) (pc' := 7) zd_Ls_someone_5 (by decide) rfl ?_
    refine zg_goto (tgt := 11) zd_Ls_someone_7 (by decide) ?_
    obtain ⟨rfl, rfl⟩ := rt_q h
    exact zg_iret zd_Ls_someone_11 zrt_i
  · refine zg_icmp_ne (tgt := 10) (pc' := 5) zd_Ls_someone_2 (by decide) rfl (fun _ => ?_) (fun q => absurd q c1)
    refine zg_iload_n (pc' := 11) zd_Ls_someone_10 rfl rfl ?_
    obtain ⟨rfl, rfl⟩ := rt_q h
    exact zg_iret zd_Ls_someone_11 zrt_i
theorem zd_Ls_lowest_0 : decode prog_1_method_22_code 0 = .ok (.iload_n 1, 1) := by decide +kernel
theorem zd_Ls_lowest_1 : decode prog_1_method_22_code 1 = .ok (.istore_n 3, 1) := by decide +kernel
theorem zd_Ls_lowest_2 : decode prog_1_method_22_code 2 = .ok (.iload_n 3, 1) := by decide +kernel
theorem zd_Ls_lowest_3 : decode prog_1_method_22_code 3 = .ok (.iconst 1, 1) := by decide +kernel
theorem zd_Ls_lowest_4 : decode prog_1_method_22_code 4 = .ok (.if_icmp .le 21, 3) := by decide +kernel
theorem zd_Ls_lowest_7 : decode prog_1_method_22_code 7 = .ok (.iload_n 0, 1) := by decide +kernel
theorem zd_Ls_lowest_8 : decode prog_1_method_22_code 8 = .ok (.iload_n 3, 1) := by decide +kernel
theorem zd_Ls_lowest_9 : decode prog_1_method_22_code 9 = .ok (.irem, 1) := by decide +kernel
theorem zd_Ls_lowest_10 : decode prog_1_method_22_code 10 = .ok (.ifCond .ne 9, 3) := by decide +kernel
theorem zd_Ls_lowest_13 : decode prog_1_method_22_code 13 = .ok (.iload_n 1, 1) := by decide +kernel
theorem zd_Ls_lowest_14 : decode prog_1_method_22_code 14 = .ok (.iload_n 3, 1) := by decide +kernel
theorem zd_Ls_lowest_15 : decode prog_1_method_22_code 15 = .ok (.irem, 1) := by decide +kernel
theorem zd_Ls_lowest_16 : decode prog_1_method_22_code 16 = .ok (.ifCond .eq 9, 3) := by decide +kernel
theorem zd_Ls_lowest_25 : decode prog_1_method_22_code 25 = .ok (.iload_n 3, 1) := by decide +kernel
theorem zd_Ls_lowest_26 : decode prog_1_method_22_code 26 = .ok (.iconst 1, 1) := by decide +kernel
theorem zd_Ls_lowest_27 : decode prog_1_method_22_code 27 = .ok (.if_icmp .ge 7, 3) := by decide +kernel
theorem zd_Ls_lowest_34 : decode prog_1_method_22_code 34 = .ok (.iload_n 2, 1) := by decide +kernel
theorem zd_Ls_lowest_35 : decode prog_1_method_22_code 35 = .ok (.ifCond .ne 10, 3) := by decide +kernel
theorem zd_Ls_lowest_45 : decode prog_1_method_22_code 45 = .ok (.iload_n 1, 1) := by decide +kernel
theorem zd_Ls_lowest_46 : decode prog_1_method_22_code 46 = .ok (.iload_n 3, 1) := by decide +kernel
theorem zd_Ls_lowest_47 : decode prog_1_method_22_code 47 = .ok (.idiv, 1) := by decide +kernel
theorem zd_Ls_lowest_48 : decode prog_1_method_22_code 48 = .ok (.i2l, 1) := by decide +kernel
theorem zd_Ls_lowest_38 : decode prog_1_method_22_code 38 = .ok (.iload_n 0, 1) := by decide +kernel
theorem zd_Ls_lowest_39 : decode prog_1_method_22_code 39 = .ok (.iload_n 3, 1) := by decide +kernel
theorem zd_Ls_lowest_40 : decode prog_1_method_22_code 40 = .ok (.idiv, 1) := by decide +kernel
theorem zd_Ls_lowest_41 : decode prog_1_method_22_code 41 = .ok (.i2l, 1) := by decide +kernel
theorem zd_Ls_lowest_42 : decode prog_1_method_22_code 42 = .ok (.goto 7, 3) := by decide +kernel
theorem zd_Ls_lowest_49 : decode prog_1_method_22_code 49 = .ok (.lreturn, 1) := by decide +kernel
theorem zd_Ls_lowest_30 : decode prog_1_method_22_code 30 = .ok (.ldc2_w 249, 3) := by decide +kernel
theorem zd_Ls_lowest_33 : decode prog_1_method_22_code 33 = .ok (.lreturn, 1) := by decide +kernel
theorem zd_Ls_lowest_19 : decode prog_1_method_22_code 19 = .ok (.iinc 3 (-1), 3) := by decide +kernel
theorem zd_Ls_lowest_22 : decode prog_1_method_22_code 22 = .ok (.goto (-20), 3) := by decide +kernel
abbrev zm_Ls_lowest : zQ := ("LoofahSaints", prog_1_method_22_code, 4, (Option.some Jvm.ClassFile.FieldType.long), false)
set_option maxRecDepth 100000 in
def fn_Ls_lowest_L25 (a0 : Int32) (a1 : Int32) (a2 : Int32) (a3 : Int32) (S : zS) : Option (Int64 × zS) :=
  br (decide ((1 : Int32) ≤ a3)) (br (decide (a2 = 0)) (gd (gZ a3) <|
  some (((a0 / a3).toInt64), S)) <|
  gd (gZ a3) <|
  some (((a1 / a3).toInt64), S)) <|
  some ((-9223372036854775808 : Int64), S)
set_option maxRecDepth 100000 in
set_option maxHeartbeats 4000000 in
theorem tm_Ls_lowest_L25 {X : zXt} {d : Nat} (hd : 2 ≤ d) {v : Int64} {S' : zS}  {a0 : Int32} {a1 : Int32} {a2 : Int32} {a3 : Int32} {S : zS} (h : fn_Ls_lowest_L25 a0 a1 a2 a3 S = some (v, S')) : zG X zm_Ls_lowest d 25 [some (.int a0), some (.int a1), some (.int a2), some (.int a3)] [] S (some (.long v)) S' := by
  unfold fn_Ls_lowest_L25 at h
  refine zg_iload_n (pc' := 26) zd_Ls_lowest_25 rfl rfl ?_
  refine zg_iconst (x := (1 : Int32)) (pc' := 27) zd_Ls_lowest_26 (by decide) rfl ?_
  rcases br_some h with ⟨c1, h⟩ | ⟨c1, h⟩
  · refine zg_icmp_ge (tgt := 34) (pc' := 30) zd_Ls_lowest_27 (by decide) rfl (fun _ => ?_) (fun q => absurd c1 q)
    refine zg_iload_n (pc' := 35) zd_Ls_lowest_34 rfl rfl ?_
    rcases br_some h with ⟨c2, h⟩ | ⟨c2, h⟩
    · refine zg_if_ne (tgt := 45) (pc' := 38) zd_Ls_lowest_35 (by decide) rfl (fun q => absurd c2 q) (fun _ => ?_)
      refine zg_iload_n (pc' := 39) zd_Ls_lowest_38 rfl rfl ?_
      refine zg_iload_n (pc' := 40) zd_Ls_lowest_39 rfl rfl ?_
      obtain ⟨g4, h⟩ := gd_some h
      refine zg_idiv (pc' := 41) zd_Ls_lowest_40 rfl (gZ_ok g4) ?_
      refine zg_i2l (pc' := 42) zd_Ls_lowest_41 rfl ?_
      refine zg_goto (tgt := 49) zd_Ls_lowest_42 (by decide) ?_
      obtain ⟨rfl, rfl⟩ := rt_q h
      exact zg_lret zd_Ls_lowest_49 zrt_l
    · refine zg_if_ne (tgt := 45) (pc' := 38) zd_Ls_lowest_35 (by decide) rfl (fun _ => ?_) (fun q => absurd q c2)
      refine zg_iload_n (pc' := 46) zd_Ls_lowest_45 rfl rfl ?_
      refine zg_iload_n (pc' := 47) zd_Ls_lowest_46 rfl rfl ?_
      obtain ⟨g3, h⟩ := gd_some h
      refine zg_idiv (pc' := 48) zd_Ls_lowest_47 rfl (gZ_ok g3) ?_
      refine zg_i2l (pc' := 49) zd_Ls_lowest_48 rfl ?_
      obtain ⟨rfl, rfl⟩ := rt_q h
      exact zg_lret zd_Ls_lowest_49 zrt_l
  · refine zg_icmp_ge (tgt := 34) (pc' := 30) zd_Ls_lowest_27 (by decide) rfl (fun q => absurd q c1) (fun _ => ?_)
    refine zg_ldc2 (x := (-9223372036854775808 : Int64)) (pc' := 33) zd_Ls_lowest_30 zq678 rfl ?_
    obtain ⟨rfl, rfl⟩ := rt_q h
    exact zg_lret zd_Ls_lowest_33 zrt_l
set_option maxRecDepth 100000 in
def fn_Ls_lowest_L2 (a0 : Int32) (a1 : Int32) (a2 : Int32) (a3 : Int32) (S : zS) (K2 : Int32 → Int32 → Int32 → Int32 → zS → Option (Int64 × zS)) : Option (Int64 × zS) :=
  br (decide (a3 ≤ (1 : Int32))) (fn_Ls_lowest_L25 a0 a1 a2 a3 S) <|
  gd (gZ a3) <|
  br (decide ((a0 - a0 / a3 * a3) = 0)) (br (decide ((a1 - a1 / a3 * a3) = 0)) (fn_Ls_lowest_L25 a0 a1 a2 a3 S) <|
  K2 a0 a1 a2 (a3 + (-1 : Int32)) S) <|
  K2 a0 a1 a2 (a3 + (-1 : Int32)) S
set_option maxRecDepth 100000 in
set_option maxHeartbeats 4000000 in
theorem tm_Ls_lowest_L2 {X : zXt} {d : Nat} (hd : 2 ≤ d) {v : Int64} {S' : zS}  {K2 : Int32 → Int32 → Int32 → Int32 → zS → Option (Int64 × zS)} (hK2 : ∀ (a0 : Int32) (a1 : Int32) (a2 : Int32) (a3 : Int32) (S : zS), K2 a0 a1 a2 a3 S = some (v, S') → zG X zm_Ls_lowest d 2 [some (.int a0), some (.int a1), some (.int a2), some (.int a3)] [] S (some (.long v)) S') {a0 : Int32} {a1 : Int32} {a2 : Int32} {a3 : Int32} {S : zS} (h : fn_Ls_lowest_L2 a0 a1 a2 a3 S K2 = some (v, S')) : zG X zm_Ls_lowest d 2 [some (.int a0), some (.int a1), some (.int a2), some (.int a3)] [] S (some (.long v)) S' := by
  unfold fn_Ls_lowest_L2 at h
  refine zg_iload_n (pc' := 3) zd_Ls_lowest_2 rfl rfl ?_
  refine zg_iconst (x := (1 : Int32)) (pc' := 4) zd_Ls_lowest_3 (by decide) rfl ?_
  rcases br_some h with ⟨c1, h⟩ | ⟨c1, h⟩
  · refine zg_icmp_le (tgt := 25) (pc' := 7) zd_Ls_lowest_4 (by decide) rfl (fun _ => ?_) (fun q => absurd c1 q)
    exact tm_Ls_lowest_L25 hd h
  · refine zg_icmp_le (tgt := 25) (pc' := 7) zd_Ls_lowest_4 (by decide) rfl (fun q => absurd q c1) (fun _ => ?_)
    refine zg_iload_n (pc' := 8) zd_Ls_lowest_7 rfl rfl ?_
    refine zg_iload_n (pc' := 9) zd_Ls_lowest_8 rfl rfl ?_
    obtain ⟨g2, h⟩ := gd_some h
    refine zg_irem (pc' := 10) zd_Ls_lowest_9 rfl (gZ_ok g2) ?_
    rcases br_some h with ⟨c3, h⟩ | ⟨c3, h⟩
    · refine zg_if_ne (tgt := 19) (pc' := 13) zd_Ls_lowest_10 (by decide) rfl (fun q => absurd c3 q) (fun _ => ?_)
      refine zg_iload_n (pc' := 14) zd_Ls_lowest_13 rfl rfl ?_
      refine zg_iload_n (pc' := 15) zd_Ls_lowest_14 rfl rfl ?_
      refine zg_irem (pc' := 16) zd_Ls_lowest_15 rfl (gZ_ok g2) ?_
      rcases br_some h with ⟨c4, h⟩ | ⟨c4, h⟩
      · refine zg_if_eq (tgt := 25) (pc' := 19) zd_Ls_lowest_16 (by decide) rfl (fun _ => ?_) (fun q => absurd c4 q)
        exact tm_Ls_lowest_L25 hd h
      · refine zg_if_eq (tgt := 25) (pc' := 19) zd_Ls_lowest_16 (by decide) rfl (fun q => absurd q c4) (fun _ => ?_)
        refine zg_iinc (y := (a3 + (-1 : Int32))) (L' := [some (.int a0), some (.int a1), some (.int a2), some (.int (a3 + (-1 : Int32)))]) (pc' := 22) zd_Ls_lowest_19 rfl rfl (by decide) rfl rfl ?_
        refine zg_goto (tgt := 2) zd_Ls_lowest_22 (by decide) ?_
        exact hK2 _ _ _ _ _ h
    · refine zg_if_ne (tgt := 19) (pc' := 13) zd_Ls_lowest_10 (by decide) rfl (fun _ => ?_) (fun q => absurd q c3)
      refine zg_iinc (y := (a3 + (-1 : Int32))) (L' := [some (.int a0), some (.int a1), some (.int a2), some (.int (a3 + (-1 : Int32)))]) (pc' := 22) zd_Ls_lowest_19 rfl rfl (by decide) rfl rfl ?_
      refine zg_goto (tgt := 2) zd_Ls_lowest_22 (by decide) ?_
      exact hK2 _ _ _ _ _ h
set_option maxRecDepth 100000 in
def fn_Ls_lowest (a0 : Int32) (a1 : Int32) (a2 : Int32) (S : zS) : Option (Int64 × zS) :=
  lp (σ := Int32 × Int32 × Int32 × Int32 × zS) (fun k s => fn_Ls_lowest_L2 s.1 s.2.1 s.2.2.1 s.2.2.2.1 s.2.2.2.2 (fun (a0 : Int32) (a1 : Int32) (a2 : Int32) (a3 : Int32) (S : zS) => k (a0, a1, a2, a3, S))) FU (a0, a1, a2, a1, S)
set_option maxRecDepth 100000 in
set_option maxHeartbeats 4000000 in
theorem tm_Ls_lowest {X : zXt} {d : Nat} (hd : 2 ≤ d) {v : Int64} {a0 : Int32} {a1 : Int32} {a2 : Int32} {S : zS} {S' : zS} (h : fn_Ls_lowest a0 a1 a2 S = some (v, S')) : zM X zy_Ls_lowest prog_1_method_22_code 4 (Option.some Jvm.ClassFile.FieldType.long) d [.int a0, .int a1, .int a2] S (some (.long v)) S' := by
  refine zM_of (ini := false) (L := [some (.int a0), some (.int a1), some (.int a2), none]) (plainFor_of_name (by decide)) (fun h => by cases h) (Nat.le_of_ble_eq_true rfl) rfl ?_
  unfold fn_Ls_lowest at h
  refine zg_iload_n (pc' := 1) zd_Ls_lowest_0 rfl rfl ?_
  refine zg_istore_n (L' := [some (.int a0), some (.int a1), some (.int a2), some (.int a1)]) (pc' := 2) zd_Ls_lowest_1 (by decide) rfl rfl ?_
  exact lp_indh h (P := fun s => zG X zm_Ls_lowest d 2 [some (.int (s.1)), some (.int (s.2.1)), some (.int (s.2.2.1)), some (.int (s.2.2.2.1))] [] (s.2.2.2.2) (some (.long v)) S') (fun k hk s h => tm_Ls_lowest_L2 hd (fun a0 a1 a2 a3 S h => hk (a0, a1, a2, a3, S) h) h)
theorem zd_Ls_isTape_0 : decode prog_1_method_41_code 0 = .ok (.iload_n 0, 1) := by decide +kernel
theorem zd_Ls_isTape_1 : decode prog_1_method_41_code 1 = .ok (.ifCond .lt 13, 3) := by decide +kernel
theorem zd_Ls_isTape_4 : decode prog_1_method_41_code 4 = .ok (.iload_n 0, 1) := by decide +kernel
theorem zd_Ls_isTape_5 : decode prog_1_method_41_code 5 = .ok (.bipush 6, 2) := by decide +kernel
theorem zd_Ls_isTape_7 : decode prog_1_method_41_code 7 = .ok (.if_icmp .ge 7, 3) := by decide +kernel
theorem zd_Ls_isTape_14 : decode prog_1_method_41_code 14 = .ok (.iconst 0, 1) := by decide +kernel
theorem zd_Ls_isTape_10 : decode prog_1_method_41_code 10 = .ok (.iconst 1, 1) := by decide +kernel
theorem zd_Ls_isTape_11 : decode prog_1_method_41_code 11 = .ok (.goto 4, 3) := by decide +kernel
theorem zd_Ls_isTape_15 : decode prog_1_method_41_code 15 = .ok (.ireturn, 1) := by decide +kernel
abbrev zm_Ls_isTape : zQ := ("LoofahSaints", prog_1_method_41_code, 1, (Option.some Jvm.ClassFile.FieldType.boolean), false)
set_option maxRecDepth 100000 in
def fn_Ls_isTape (a0 : Int32) (S : zS) : Option (Int32 × zS) :=
  br (decide (a0 < 0)) (some ((0 : Int32), S)) <|
  br (decide ((6 : Int32) ≤ a0)) (some ((0 : Int32), S)) <|
  some ((1 : Int32), S)
set_option maxRecDepth 100000 in
set_option maxHeartbeats 4000000 in
theorem tm_Ls_isTape {X : zXt} {d : Nat} (hd : 2 ≤ d) {v : Int32} {a0 : Int32} {S : zS} {S' : zS} (h : fn_Ls_isTape a0 S = some (v, S')) : zM X zy_Ls_isTape prog_1_method_41_code 1 (Option.some Jvm.ClassFile.FieldType.boolean) d [.int a0] S (some (.int v)) S' := by
  refine zM_of (ini := false) (L := [some (.int a0)]) (plainFor_of_name (by decide)) (fun h => by cases h) (Nat.le_of_ble_eq_true rfl) rfl ?_
  unfold fn_Ls_isTape at h
  refine zg_iload_n (pc' := 1) zd_Ls_isTape_0 rfl rfl ?_
  rcases br_some h with ⟨c1, h⟩ | ⟨c1, h⟩
  · refine zg_if_lt (tgt := 14) (pc' := 4) zd_Ls_isTape_1 (by decide) rfl (fun _ => ?_) (fun q => absurd c1 q)
    refine zg_iconst (x := (0 : Int32)) (pc' := 15) zd_Ls_isTape_14 (by decide) rfl ?_
    obtain ⟨rfl, rfl⟩ := rt_q h
    exact zg_iret zd_Ls_isTape_15 (zrt_z (by decide))
  · refine zg_if_lt (tgt := 14) (pc' := 4) zd_Ls_isTape_1 (by decide) rfl (fun q => absurd q c1) (fun _ => ?_)
    refine zg_iload_n (pc' := 5) zd_Ls_isTape_4 rfl rfl ?_
    refine zg_bipush (x := (6 : Int32)) (pc' := 7) zd_Ls_isTape_5 (by decide) rfl ?_
    rcases br_some h with ⟨c2, h⟩ | ⟨c2, h⟩
    · refine zg_icmp_ge (tgt := 14) (pc' := 10) zd_Ls_isTape_7 (by decide) rfl (fun _ => ?_) (fun q => absurd c2 q)
      refine zg_iconst (x := (0 : Int32)) (pc' := 15) zd_Ls_isTape_14 (by decide) rfl ?_
      obtain ⟨rfl, rfl⟩ := rt_q h
      exact zg_iret zd_Ls_isTape_15 (zrt_z (by decide))
    · refine zg_icmp_ge (tgt := 14) (pc' := 10) zd_Ls_isTape_7 (by decide) rfl (fun q => absurd q c2) (fun _ => ?_)
      refine zg_iconst (x := (1 : Int32)) (pc' := 11) zd_Ls_isTape_10 (by decide) rfl ?_
      refine zg_goto (tgt := 15) zd_Ls_isTape_11 (by decide) ?_
      obtain ⟨rfl, rfl⟩ := rt_q h
      exact zg_iret zd_Ls_isTape_15 (zrt_z (by decide))
