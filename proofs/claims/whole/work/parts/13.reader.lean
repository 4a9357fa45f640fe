theorem zd_Re_init_0 : decode prog_5_method_1_code 0 = .ok (.aload_n 0, 1) := by decide +kernel
theorem zd_Re_init_1 : decode prog_5_method_1_code 1 = .ok (.invokespecial 3, 3) := by decide +kernel
theorem zd_Re_init_4 : decode prog_5_method_1_code 4 = .ok (.aload_n 0, 1) := by decide +kernel
theorem zd_Re_init_5 : decode prog_5_method_1_code 5 = .ok (.bipush 100, 2) := by decide +kernel
theorem zd_Re_init_7 : decode prog_5_method_1_code 7 = .ok (.newarray .int, 2) := by decide +kernel
theorem zd_Re_init_9 : decode prog_5_method_1_code 9 = .ok (.putfield 9, 3) := by decide +kernel
theorem zd_Re_init_12 : decode prog_5_method_1_code 12 = .ok (.aload_n 0, 1) := by decide +kernel
theorem zd_Re_init_13 : decode prog_5_method_1_code 13 = .ok (.iconst 0, 1) := by decide +kernel
theorem zd_Re_init_14 : decode prog_5_method_1_code 14 = .ok (.putfield 15, 3) := by decide +kernel
theorem zd_Re_init_17 : decode prog_5_method_1_code 17 = .ok (.aload_n 0, 1) := by decide +kernel
theorem zd_Re_init_18 : decode prog_5_method_1_code 18 = .ok (.iconst 0, 1) := by decide +kernel
theorem zd_Re_init_19 : decode prog_5_method_1_code 19 = .ok (.putfield 19, 3) := by decide +kernel
theorem zd_Re_init_22 : decode prog_5_method_1_code 22 = .ok (.aload_n 0, 1) := by decide +kernel
theorem zd_Re_init_23 : decode prog_5_method_1_code 23 = .ok (.iconst 0, 1) := by decide +kernel
theorem zd_Re_init_24 : decode prog_5_method_1_code 24 = .ok (.putfield 22, 3) := by decide +kernel
theorem zd_Re_init_27 : decode prog_5_method_1_code 27 = .ok (.aload_n 0, 1) := by decide +kernel
theorem zd_Re_init_28 : decode prog_5_method_1_code 28 = .ok (.new 25, 3) := by decide +kernel
theorem zd_Re_init_31 : decode prog_5_method_1_code 31 = .ok (.dup, 1) := by decide +kernel
theorem zd_Re_init_32 : decode prog_5_method_1_code 32 = .ok (.iconst 0, 1) := by decide +kernel
theorem zd_Re_init_33 : decode prog_5_method_1_code 33 = .ok (.invokespecial 27, 3) := by decide +kernel
theorem zd_Re_init_36 : decode prog_5_method_1_code 36 = .ok (.putfield 30, 3) := by decide +kernel
theorem zd_Re_init_39 : decode prog_5_method_1_code 39 = .ok (.return_, 1) := by decide +kernel
abbrev zm_Re_init : zQ := ("LoofahSaints$Reader", prog_5_method_1_code, 1, (Option.none : Option Jvm.ClassFile.FieldType), true)
set_option maxRecDepth 100000 in
def fn_Re_init (a0 : Nat) (S : zS) : Option (zS) :=
  gd (gT S a0 103) <|
  gd (gN (100 : Int32)) <|
  nm (uN S (1, (100 : Int32).toNatClampNeg)) fun S3 =>
  gd (gT S3 a0 103) <|
  nm (uR S3 a0 0 (zN S)) fun S5 =>
  gd (gT S5 a0 103) <|
  nm (uI S5 a0 1 (0 : Int32)) fun S7 =>
  gd (gT S7 a0 103) <|
  nm (uI S7 a0 2 (0 : Int32)) fun S9 =>
  gd (gT S9 a0 103) <|
  nm (uI S9 a0 3 (0 : Int32)) fun S11 =>
  nm (uN S11 (100 + 2, 4)) fun S12 =>
  gd (gT S12 (zN S11) 102) <|
  bv (fn_Or_init (zN S11) (0 : Int32) S12) fun S14 =>
  gd (gT S14 a0 103) <|
  nm (uR S14 a0 4 (zN S11)) fun S17 =>
  some S17
set_option maxRecDepth 100000 in
set_option maxHeartbeats 4000000 in
theorem tm_Re_init {X : zXt} {d : Nat} (hd : 3 ≤ d) {a0 : Nat} {S : zS} {S' : zS} (h : fn_Re_init a0 S = some S') : zM X zy_Re_init prog_5_method_1_code 1 (Option.none : Option Jvm.ClassFile.FieldType) d [.ref a0] S none S' := by
  refine zM_of (ini := true) (L := [some (.ref a0)]) (plainFor_of_name (by decide)) (fun _ => rfl) (Nat.le_of_ble_eq_true rfl) rfl ?_
  unfold fn_Re_init at h
  refine zg_aload_n (pc' := 1) zd_Re_init_0 rfl rfl ?_
  obtain ⟨g1, h⟩ := gd_some h
  refine zg_oinit (ci := 3) (pc' := 4) zq36 zq25 zq26 zd_Re_init_1 (by omega) (gT_ok g1) (Nat.le_of_ble_eq_true rfl) rfl ?_
  refine zg_aload_n (pc' := 5) zd_Re_init_4 rfl rfl ?_
  refine zg_bipush (x := (100 : Int32)) (pc' := 7) zd_Re_init_5 (by decide) rfl ?_
  obtain ⟨g2, h⟩ := gd_some h
  refine zg_newa (t := 1) (ty := .int) (pc' := 9) rfl (by simp) zq59 zd_Re_init_7 (gN_ok g2).1 (gN_ok g2).2 rfl ?_
  obtain ⟨S3, eS3, h⟩ := nm_some h
  refine zg_nm eS3 ?_
  obtain ⟨g4, h⟩ := gd_some h
  refine zg_putR (pc' := 12) zf_Re_9 rfl zd_Re_init_9 (Or.inr ⟨rfl, _, rfl, rfl⟩) (gT_ok g4) rfl ?_
  obtain ⟨S5, eS5, h⟩ := nm_some h
  refine zg_nm eS5 ?_
  refine zg_aload_n (pc' := 13) zd_Re_init_12 rfl rfl ?_
  refine zg_iconst (x := (0 : Int32)) (pc' := 14) zd_Re_init_13 (by decide) rfl ?_
  obtain ⟨g6, h⟩ := gd_some h
  refine zg_putI (pc' := 17) zf_Re_15 zd_Re_init_14 (Or.inl rfl) (gT_ok g6) rfl ?_
  obtain ⟨S7, eS7, h⟩ := nm_some h
  refine zg_nm eS7 ?_
  refine zg_aload_n (pc' := 18) zd_Re_init_17 rfl rfl ?_
  refine zg_iconst (x := (0 : Int32)) (pc' := 19) zd_Re_init_18 (by decide) rfl ?_
  obtain ⟨g8, h⟩ := gd_some h
  refine zg_putI (pc' := 22) zf_Re_19 zd_Re_init_19 (Or.inl rfl) (gT_ok g8) rfl ?_
  obtain ⟨S9, eS9, h⟩ := nm_some h
  refine zg_nm eS9 ?_
  refine zg_aload_n (pc' := 23) zd_Re_init_22 rfl rfl ?_
  refine zg_iconst (x := (0 : Int32)) (pc' := 24) zd_Re_init_23 (by decide) rfl ?_
  obtain ⟨g10, h⟩ := gd_some h
  refine zg_putI (pc' := 27) zf_Re_22 zd_Re_init_24 (Or.inl rfl) (gT_ok g10) rfl ?_
  obtain ⟨S11, eS11, h⟩ := nm_some h
  refine zg_nm eS11 ?_
  refine zg_aload_n (pc' := 28) zd_Re_init_27 rfl rfl ?_
  refine zg_new (pc' := 31) zc_Re_25 zd_Re_init_28 rfl ?_
  obtain ⟨S12, eS12, h⟩ := nm_some h
  refine zg_nm eS12 ?_
  refine zg_dup (pc' := 32) zd_Re_init_31 rfl rfl ?_
  refine zg_iconst (x := (0 : Int32)) (pc' := 33) zd_Re_init_32 (by decide) rfl ?_
  obtain ⟨g13, h⟩ := gd_some h
  obtain ⟨S14, e15, h⟩ := bv_some h
  refine zg_callI (ci := 2) (As := [.int (0 : Int32)]) (rest := [.ref (zN S11), .ref a0]) (pc' := 36) zl_Re_27 zq40 rfl ⟨_, rfl, rfl⟩ zd_Re_init_33 rfl rfl (Nat.le_of_ble_eq_true rfl) (by omega) (gT_ok g13) (tm_Or_init (d := 2) (Nat.le_refl _) e15) rfl ?_
  refine zg_st (st' := [.ref (zN S11), .ref a0]) rfl ?_
  obtain ⟨g16, h⟩ := gd_some h
  refine zg_putR (pc' := 39) zf_Re_30 rfl zd_Re_init_36 (Or.inl rfl) (gT_ok g16) rfl ?_
  obtain ⟨S17, eS17, h⟩ := nm_some h
  refine zg_nm eS17 ?_
  obtain rfl := rt_v h
  exact zg_vret zd_Re_init_39 rfl
theorem zd_Re_sign_0 : decode prog_5_method_12_code 0 = .ok (.aload_n 0, 1) := by decide +kernel
theorem zd_Re_sign_1 : decode prog_5_method_12_code 1 = .ok (.getfield 19, 3) := by decide +kernel
theorem zd_Re_sign_4 : decode prog_5_method_12_code 4 = .ok (.iload_n 1, 1) := by decide +kernel
theorem zd_Re_sign_5 : decode prog_5_method_12_code 5 = .ok (.iadd, 1) := by decide +kernel
theorem zd_Re_sign_6 : decode prog_5_method_12_code 6 = .ok (.istore_n 2, 1) := by decide +kernel
theorem zd_Re_sign_7 : decode prog_5_method_12_code 7 = .ok (.iload_n 2, 1) := by decide +kernel
theorem zd_Re_sign_8 : decode prog_5_method_12_code 8 = .ok (.ifCond .lt 26, 3) := by decide +kernel
theorem zd_Re_sign_11 : decode prog_5_method_12_code 11 = .ok (.iload_n 2, 1) := by decide +kernel
theorem zd_Re_sign_12 : decode prog_5_method_12_code 12 = .ok (.aload_n 0, 1) := by decide +kernel
theorem zd_Re_sign_13 : decode prog_5_method_12_code 13 = .ok (.getfield 15, 3) := by decide +kernel
theorem zd_Re_sign_16 : decode prog_5_method_12_code 16 = .ok (.if_icmp .ge 18, 3) := by decide +kernel
theorem zd_Re_sign_19 : decode prog_5_method_12_code 19 = .ok (.iload_n 2, 1) := by decide +kernel
theorem zd_Re_sign_20 : decode prog_5_method_12_code 20 = .ok (.bipush 100, 2) := by decide +kernel
theorem zd_Re_sign_22 : decode prog_5_method_12_code 22 = .ok (.if_icmp .ge 12, 3) := by decide +kernel
theorem zd_Re_sign_34 : decode prog_5_method_12_code 34 = .ok (.iconst (-1), 1) := by decide +kernel
theorem zd_Re_sign_25 : decode prog_5_method_12_code 25 = .ok (.aload_n 0, 1) := by decide +kernel
theorem zd_Re_sign_26 : decode prog_5_method_12_code 26 = .ok (.getfield 9, 3) := by decide +kernel
theorem zd_Re_sign_29 : decode prog_5_method_12_code 29 = .ok (.iload_n 2, 1) := by decide +kernel
theorem zd_Re_sign_30 : decode prog_5_method_12_code 30 = .ok (.iaload, 1) := by decide +kernel
theorem zd_Re_sign_31 : decode prog_5_method_12_code 31 = .ok (.goto 4, 3) := by decide +kernel
theorem zd_Re_sign_35 : decode prog_5_method_12_code 35 = .ok (.ireturn, 1) := by decide +kernel
abbrev zm_Re_sign : zQ := ("LoofahSaints$Reader", prog_5_method_12_code, 3, (Option.some Jvm.ClassFile.FieldType.int), false)
set_option maxRecDepth 100000 in
def fn_Re_sign (a0 : Nat) (a1 : Int32) (S : zS) : Option (Int32 × zS) :=
  gd (gT S a0 103) <|
  br (decide (((zI S a0 2) + a1) < 0)) (some ((-1 : Int32), S)) <|
  br (decide ((zI S a0 1) ≤ ((zI S a0 2) + a1))) (some ((-1 : Int32), S)) <|
  br (decide ((100 : Int32) ≤ ((zI S a0 2) + a1))) (some ((-1 : Int32), S)) <|
  gd (gT S (zR S a0 0) 1) <|
  gd (gB ((zI S a0 2) + a1) (zT S (zR S a0 0)).2) <|
  some ((zI S (zR S a0 0) ((zI S a0 2) + a1).toNatClampNeg), S)
set_option maxRecDepth 100000 in
set_option maxHeartbeats 4000000 in
theorem tm_Re_sign {X : zXt} {d : Nat} (hd : 2 ≤ d) {v : Int32} {a0 : Nat} {a1 : Int32} {S : zS} {S' : zS} (h : fn_Re_sign a0 a1 S = some (v, S')) : zM X zy_Re_sign prog_5_method_12_code 3 (Option.some Jvm.ClassFile.FieldType.int) d [.ref a0, .int a1] S (some (.int v)) S' := by
  refine zM_of (ini := false) (L := [some (.ref a0), some (.int a1), none]) (plainFor_of_name (by decide)) (fun h => by cases h) (Nat.le_of_ble_eq_true rfl) rfl ?_
  unfold fn_Re_sign at h
  refine zg_aload_n (pc' := 1) zd_Re_sign_0 rfl rfl ?_
  obtain ⟨g1, h⟩ := gd_some h
  refine zg_getI (pc' := 4) zf_Re_19 zd_Re_sign_1 (gT_ok g1) rfl ?_
  refine zg_iload_n (pc' := 5) zd_Re_sign_4 rfl rfl ?_
  refine zg_iadd (pc' := 6) zd_Re_sign_5 rfl ?_
  refine zg_istore_n (L' := [some (.ref a0), some (.int a1), some (.int ((zI S a0 2) + a1))]) (pc' := 7) zd_Re_sign_6 (by decide) rfl rfl ?_
  refine zg_iload_n (pc' := 8) zd_Re_sign_7 rfl rfl ?_
  rcases br_some h with ⟨c2, h⟩ | ⟨c2, h⟩
  · refine zg_if_lt (tgt := 34) (pc' := 11) zd_Re_sign_8 (by decide) rfl (fun _ => ?_) (fun q => absurd c2 q)
    refine zg_iconst (x := (-1 : Int32)) (pc' := 35) zd_Re_sign_34 (by decide) rfl ?_
    obtain ⟨rfl, rfl⟩ := rt_q h
    exact zg_iret zd_Re_sign_35 zrt_i
  · refine zg_if_lt (tgt := 34) (pc' := 11) zd_Re_sign_8 (by decide) rfl (fun q => absurd q c2) (fun _ => ?_)
    refine zg_iload_n (pc' := 12) zd_Re_sign_11 rfl rfl ?_
    refine zg_aload_n (pc' := 13) zd_Re_sign_12 rfl rfl ?_
    refine zg_getI (pc' := 16) zf_Re_15 zd_Re_sign_13 (gT_ok g1) rfl ?_
    rcases br_some h with ⟨c3, h⟩ | ⟨c3, h⟩
    · refine zg_icmp_ge (tgt := 34) (pc' := 19) zd_Re_sign_16 (by decide) rfl (fun _ => ?_) (fun q => absurd c3 q)
      refine zg_iconst (x := (-1 : Int32)) (pc' := 35) zd_Re_sign_34 (by decide) rfl ?_
      obtain ⟨rfl, rfl⟩ := rt_q h
      exact zg_iret zd_Re_sign_35 zrt_i
    · refine zg_icmp_ge (tgt := 34) (pc' := 19) zd_Re_sign_16 (by decide) rfl (fun q => absurd q c3) (fun _ => ?_)
      refine zg_iload_n (pc' := 20) zd_Re_sign_19 rfl rfl ?_
      refine zg_bipush (x := (100 : Int32)) (pc' := 22) zd_Re_sign_20 (by decide) rfl ?_
      rcases br_some h with ⟨c4, h⟩ | ⟨c4, h⟩
      · refine zg_icmp_ge (tgt := 34) (pc' := 25) zd_Re_sign_22 (by decide) rfl (fun _ => ?_) (fun q => absurd c4 q)
        refine zg_iconst (x := (-1 : Int32)) (pc' := 35) zd_Re_sign_34 (by decide) rfl ?_
        obtain ⟨rfl, rfl⟩ := rt_q h
        exact zg_iret zd_Re_sign_35 zrt_i
      · refine zg_icmp_ge (tgt := 34) (pc' := 25) zd_Re_sign_22 (by decide) rfl (fun q => absurd q c4) (fun _ => ?_)
        refine zg_aload_n (pc' := 26) zd_Re_sign_25 rfl rfl ?_
        refine zg_getR (pc' := 29) zf_Re_9 rfl zd_Re_sign_26 (gT_ok g1) rfl ?_
        refine zg_iload_n (pc' := 30) zd_Re_sign_29 rfl rfl ?_
        obtain ⟨g5, h⟩ := gd_some h
        obtain ⟨g6, h⟩ := gd_some h
        refine zg_iald (pc' := 31) zd_Re_sign_30 (gT_ok g5) (gB_ok g6) rfl ?_
        refine zg_goto (tgt := 35) zd_Re_sign_31 (by decide) ?_
        obtain ⟨rfl, rfl⟩ := rt_q h
        exact zg_iret zd_Re_sign_35 zrt_i
theorem zd_Re_eat_0 : decode prog_5_method_11_code 0 = .ok (.aload_n 0, 1) := by decide +kernel
theorem zd_Re_eat_1 : decode prog_5_method_11_code 1 = .ok (.iconst 0, 1) := by decide +kernel
theorem zd_Re_eat_2 : decode prog_5_method_11_code 2 = .ok (.invokevirtual 45, 3) := by decide +kernel
theorem zd_Re_eat_5 : decode prog_5_method_11_code 5 = .ok (.iload_n 1, 1) := by decide +kernel
theorem zd_Re_eat_6 : decode prog_5_method_11_code 6 = .ok (.if_icmp .eq 5, 3) := by decide +kernel
theorem zd_Re_eat_11 : decode prog_5_method_11_code 11 = .ok (.aload_n 0, 1) := by decide +kernel
theorem zd_Re_eat_12 : decode prog_5_method_11_code 12 = .ok (.dup, 1) := by decide +kernel
theorem zd_Re_eat_13 : decode prog_5_method_11_code 13 = .ok (.getfield 19, 3) := by decide +kernel
theorem zd_Re_eat_16 : decode prog_5_method_11_code 16 = .ok (.iconst 1, 1) := by decide +kernel
theorem zd_Re_eat_17 : decode prog_5_method_11_code 17 = .ok (.iadd, 1) := by decide +kernel
theorem zd_Re_eat_18 : decode prog_5_method_11_code 18 = .ok (.putfield 19, 3) := by decide +kernel
theorem zd_Re_eat_21 : decode prog_5_method_11_code 21 = .ok (.iconst 1, 1) := by decide +kernel
theorem zd_Re_eat_22 : decode prog_5_method_11_code 22 = .ok (.ireturn, 1) := by decide +kernel
theorem zd_Re_eat_9 : decode prog_5_method_11_code 9 = .ok (.iconst 0, 1) := by decide +kernel
theorem zd_Re_eat_10 : decode prog_5_method_11_code 10 = .ok (.ireturn, 1) := by decide +kernel
abbrev zm_Re_eat : zQ := ("LoofahSaints$Reader", prog_5_method_11_code, 2, (Option.some Jvm.ClassFile.FieldType.boolean), false)
set_option maxRecDepth 100000 in
def fn_Re_eat (a0 : Nat) (a1 : Int32) (S : zS) : Option (Int32 × zS) :=
  gd (gT S a0 103) <|
  bq (fn_Re_sign a0 (0 : Int32) S) fun r4 S2 =>
  br (decide (r4 = a1)) (gd (gT S2 a0 103) <|
  nm (uI S2 a0 2 ((zI S2 a0 2) + (1 : Int32))) fun S7 =>
  some ((1 : Int32), S7)) <|
  some ((0 : Int32), S2)
set_option maxRecDepth 100000 in
set_option maxHeartbeats 4000000 in
theorem tm_Re_eat {X : zXt} {d : Nat} (hd : 3 ≤ d) {v : Int32} {a0 : Nat} {a1 : Int32} {S : zS} {S' : zS} (h : fn_Re_eat a0 a1 S = some (v, S')) : zM X zy_Re_eat prog_5_method_11_code 2 (Option.some Jvm.ClassFile.FieldType.boolean) d [.ref a0, .int a1] S (some (.int v)) S' := by
  refine zM_of (ini := false) (L := [some (.ref a0), some (.int a1)]) (plainFor_of_name (by decide)) (fun h => by cases h) (Nat.le_of_ble_eq_true rfl) rfl ?_
  unfold fn_Re_eat at h
  refine zg_aload_n (pc' := 1) zd_Re_eat_0 rfl rfl ?_
  refine zg_iconst (x := (0 : Int32)) (pc' := 2) zd_Re_eat_1 (by decide) rfl ?_
  obtain ⟨g1, h⟩ := gd_some h
  obtain ⟨r4, S2, e3, h⟩ := bq_some h
  refine zg_callV (ci := 3) (As := [.int (0 : Int32)]) (rest := []) (pc' := 5) zl_Re_45 zq451 zqp1 ⟨_, rfl, rfl⟩ zd_Re_eat_2 rfl rfl (Nat.le_of_ble_eq_true rfl) (by omega) (gT_ok g1) (tm_Re_sign (d := 2) (Nat.le_refl _) e3) rfl ?_
  refine zg_st (st' := [.int r4]) rfl ?_
  refine zg_iload_n (pc' := 6) zd_Re_eat_5 rfl rfl ?_
  rcases br_some h with ⟨c5, h⟩ | ⟨c5, h⟩
  · refine zg_icmp_eq (tgt := 11) (pc' := 9) zd_Re_eat_6 (by decide) rfl (fun _ => ?_) (fun q => absurd c5 q)
    refine zg_aload_n (pc' := 12) zd_Re_eat_11 rfl rfl ?_
    refine zg_dup (pc' := 13) zd_Re_eat_12 rfl rfl ?_
    obtain ⟨g6, h⟩ := gd_some h
    refine zg_getI (pc' := 16) zf_Re_19 zd_Re_eat_13 (gT_ok g6) rfl ?_
    refine zg_iconst (x := (1 : Int32)) (pc' := 17) zd_Re_eat_16 (by decide) rfl ?_
    refine zg_iadd (pc' := 18) zd_Re_eat_17 rfl ?_
    refine zg_putI (pc' := 21) zf_Re_19 zd_Re_eat_18 (Or.inl rfl) (gT_ok g6) rfl ?_
    obtain ⟨S7, eS7, h⟩ := nm_some h
    refine zg_nm eS7 ?_
    refine zg_iconst (x := (1 : Int32)) (pc' := 22) zd_Re_eat_21 (by decide) rfl ?_
    obtain ⟨rfl, rfl⟩ := rt_q h
    exact zg_iret zd_Re_eat_22 (zrt_z (by decide))
  · refine zg_icmp_eq (tgt := 11) (pc' := 9) zd_Re_eat_6 (by decide) rfl (fun q => absurd q c5) (fun _ => ?_)
    refine zg_iconst (x := (0 : Int32)) (pc' := 10) zd_Re_eat_9 (by decide) rfl ?_
    obtain ⟨rfl, rfl⟩ := rt_q h
    exact zg_iret zd_Re_eat_10 (zrt_z (by decide))
theorem zd_Re_isLetter_0 : decode prog_5_method_7_code 0 = .ok (.iload_n 0, 1) := by decide +kernel
theorem zd_Re_isLetter_1 : decode prog_5_method_7_code 1 = .ok (.bipush 112, 2) := by decide +kernel
theorem zd_Re_isLetter_3 : decode prog_5_method_7_code 3 = .ok (.if_icmp .eq 33, 3) := by decide +kernel
theorem zd_Re_isLetter_6 : decode prog_5_method_7_code 6 = .ok (.iload_n 0, 1) := by decide +kernel
theorem zd_Re_isLetter_7 : decode prog_5_method_7_code 7 = .ok (.bipush 107, 2) := by decide +kernel
theorem zd_Re_isLetter_9 : decode prog_5_method_7_code 9 = .ok (.if_icmp .eq 27, 3) := by decide +kernel
theorem zd_Re_isLetter_12 : decode prog_5_method_7_code 12 = .ok (.iload_n 0, 1) := by decide +kernel
theorem zd_Re_isLetter_13 : decode prog_5_method_7_code 13 = .ok (.bipush 118, 2) := by decide +kernel
theorem zd_Re_isLetter_15 : decode prog_5_method_7_code 15 = .ok (.if_icmp .eq 21, 3) := by decide +kernel
theorem zd_Re_isLetter_18 : decode prog_5_method_7_code 18 = .ok (.iload_n 0, 1) := by decide +kernel
theorem zd_Re_isLetter_19 : decode prog_5_method_7_code 19 = .ok (.bipush 119, 2) := by decide +kernel
theorem zd_Re_isLetter_21 : decode prog_5_method_7_code 21 = .ok (.if_icmp .eq 15, 3) := by decide +kernel
theorem zd_Re_isLetter_24 : decode prog_5_method_7_code 24 = .ok (.iload_n 0, 1) := by decide +kernel
theorem zd_Re_isLetter_25 : decode prog_5_method_7_code 25 = .ok (.bipush 116, 2) := by decide +kernel
theorem zd_Re_isLetter_27 : decode prog_5_method_7_code 27 = .ok (.if_icmp .eq 9, 3) := by decide +kernel
theorem zd_Re_isLetter_30 : decode prog_5_method_7_code 30 = .ok (.iload_n 0, 1) := by decide +kernel
theorem zd_Re_isLetter_31 : decode prog_5_method_7_code 31 = .ok (.bipush 100, 2) := by decide +kernel
theorem zd_Re_isLetter_33 : decode prog_5_method_7_code 33 = .ok (.if_icmp .ne 7, 3) := by decide +kernel
theorem zd_Re_isLetter_40 : decode prog_5_method_7_code 40 = .ok (.iconst 0, 1) := by decide +kernel
theorem zd_Re_isLetter_36 : decode prog_5_method_7_code 36 = .ok (.iconst 1, 1) := by decide +kernel
theorem zd_Re_isLetter_37 : decode prog_5_method_7_code 37 = .ok (.goto 4, 3) := by decide +kernel
theorem zd_Re_isLetter_41 : decode prog_5_method_7_code 41 = .ok (.ireturn, 1) := by decide +kernel
abbrev zm_Re_isLetter : zQ := ("LoofahSaints$Reader", prog_5_method_7_code, 1, (Option.some Jvm.ClassFile.FieldType.boolean), false)
set_option maxRecDepth 100000 in
def fn_Re_isLetter (a0 : Int32) (S : zS) : Option (Int32 × zS) :=
  br (decide (a0 = (112 : Int32))) (some ((1 : Int32), S)) <|
  br (decide (a0 = (107 : Int32))) (some ((1 : Int32), S)) <|
  br (decide (a0 = (118 : Int32))) (some ((1 : Int32), S)) <|
  br (decide (a0 = (119 : Int32))) (some ((1 : Int32), S)) <|
  br (decide (a0 = (116 : Int32))) (some ((1 : Int32), S)) <|
  br (decide (a0 = (100 : Int32))) (some ((1 : Int32), S)) <|
  some ((0 : Int32), S)
set_option maxRecDepth 100000 in
set_option maxHeartbeats 4000000 in
theorem tm_Re_isLetter {X : zXt} {d : Nat} (hd : 2 ≤ d) {v : Int32} {a0 : Int32} {S : zS} {S' : zS} (h : fn_Re_isLetter a0 S = some (v, S')) : zM X zy_Re_isLetter prog_5_method_7_code 1 (Option.some Jvm.ClassFile.FieldType.boolean) d [.int a0] S (some (.int v)) S' := by
  refine zM_of (ini := false) (L := [some (.int a0)]) (plainFor_of_name (by decide)) (fun h => by cases h) (Nat.le_of_ble_eq_true rfl) rfl ?_
  unfold fn_Re_isLetter at h
  refine zg_iload_n (pc' := 1) zd_Re_isLetter_0 rfl rfl ?_
  refine zg_bipush (x := (112 : Int32)) (pc' := 3) zd_Re_isLetter_1 (by decide) rfl ?_
  rcases br_some h with ⟨c1, h⟩ | ⟨c1, h⟩
  · refine zg_icmp_eq (tgt := 36) (pc' := 6) zd_Re_isLetter_3 (by decide) rfl (fun _ => ?_) (fun q => absurd c1 q)
    refine zg_iconst (x := (1 : Int32)) (pc' := 37) zd_Re_isLetter_36 (by decide) rfl ?_
    refine zg_goto (tgt := 41) zd_Re_isLetter_37 (by decide) ?_
    obtain ⟨rfl, rfl⟩ := rt_q h
    exact zg_iret zd_Re_isLetter_41 (zrt_z (by decide))
  · refine zg_icmp_eq (tgt := 36) (pc' := 6) zd_Re_isLetter_3 (by decide) rfl (fun q => absurd q c1) (fun _ => ?_)
    refine zg_iload_n (pc' := 7) zd_Re_isLetter_6 rfl rfl ?_
    refine zg_bipush (x := (107 : Int32)) (pc' := 9) zd_Re_isLetter_7 (by decide) rfl ?_
    rcases br_some h with ⟨c2, h⟩ | ⟨c2, h⟩
    · refine zg_icmp_eq (tgt := 36) (pc' := 12) zd_Re_isLetter_9 (by decide) rfl (fun _ => ?_) (fun q => absurd c2 q)
      refine zg_iconst (x := (1 : Int32)) (pc' := 37) zd_Re_isLetter_36 (by decide) rfl ?_
      refine zg_goto (tgt := 41) zd_Re_isLetter_37 (by decide) ?_
      obtain ⟨rfl, rfl⟩ := rt_q h
      exact zg_iret zd_Re_isLetter_41 (zrt_z (by decide))
    · refine zg_icmp_eq (tgt := 36) (pc' := 12) zd_Re_isLetter_9 (by decide) rfl (fun q => absurd q c2) (fun _ => ?_)
      refine zg_iload_n (pc' := 13) zd_Re_isLetter_12 rfl rfl ?_
      refine zg_bipush (x := (118 : Int32)) (pc' := 15) zd_Re_isLetter_13 (by decide) rfl ?_
      rcases br_some h with ⟨c3, h⟩ | ⟨c3, h⟩
      · refine zg_icmp_eq (tgt := 36) (pc' := 18) zd_Re_isLetter_15 (by decide) rfl (fun _ => ?_) (fun q => absurd c3 q)
        refine zg_iconst (x := (1 : Int32)) (pc' := 37) zd_Re_isLetter_36 (by decide) rfl ?_
        refine zg_goto (tgt := 41) zd_Re_isLetter_37 (by decide) ?_
        obtain ⟨rfl, rfl⟩ := rt_q h
        exact zg_iret zd_Re_isLetter_41 (zrt_z (by decide))
      · refine zg_icmp_eq (tgt := 36) (pc' := 18) zd_Re_isLetter_15 (by decide) rfl (fun q => absurd q c3) (fun _ => ?_)
        refine zg_iload_n (pc' := 19) zd_Re_isLetter_18 rfl rfl ?_
        refine zg_bipush (x := (119 : Int32)) (pc' := 21) zd_Re_isLetter_19 (by decide) rfl ?_
        rcases br_some h with ⟨c4, h⟩ | ⟨c4, h⟩
        · refine zg_icmp_eq (tgt := 36) (pc' := 24) zd_Re_isLetter_21 (by decide) rfl (fun _ => ?_) (fun q => absurd c4 q)
          refine zg_iconst (x := (1 : Int32)) (pc' := 37) zd_Re_isLetter_36 (by decide) rfl ?_
          refine zg_goto (tgt := 41) zd_Re_isLetter_37 (by decide) ?_
          obtain ⟨rfl, rfl⟩ := rt_q h
          exact zg_iret zd_Re_isLetter_41 (zrt_z (by decide))
        · refine zg_icmp_eq (tgt := 36) (pc' := 24) zd_Re_isLetter_21 (by decide) rfl (fun q => absurd q c4) (fun _ => ?_)
          refine zg_iload_n (pc' := 25) zd_Re_isLetter_24 rfl rfl ?_
          refine zg_bipush (x := (116 : Int32)) (pc' := 27) zd_Re_isLetter_25 (by decide) rfl ?_
          rcases br_some h with ⟨c5, h⟩ | ⟨c5, h⟩
          · refine zg_icmp_eq (tgt := 36) (pc' := 30) zd_Re_isLetter_27 (by decide) rfl (fun _ => ?_) (fun q => absurd c5 q)
            refine zg_iconst (x := (1 : Int32)) (pc' := 37) zd_Re_isLetter_36 (by decide) rfl ?_
            refine zg_goto (tgt := 41) zd_Re_isLetter_37 (by decide) ?_
            obtain ⟨rfl, rfl⟩ := rt_q h
            exact zg_iret zd_Re_isLetter_41 (zrt_z (by decide))
          · refine zg_icmp_eq (tgt := 36) (pc' := 30) zd_Re_isLetter_27 (by decide) rfl (fun q => absurd q c5) (fun _ => ?_)
            refine zg_iload_n (pc' := 31) zd_Re_isLetter_30 rfl rfl ?_
            refine zg_bipush (x := (100 : Int32)) (pc' := 33) zd_Re_isLetter_31 (by decide) rfl ?_
            rcases br_some h with ⟨c6, h⟩ | ⟨c6, h⟩
            · refine zg_icmp_ne (tgt := 40) (pc' := 36) zd_Re_isLetter_33 (by decide) rfl (fun q => absurd c6 q) (fun _ => ?_)
              refine zg_iconst (x := (1 : Int32)) (pc' := 37) zd_Re_isLetter_36 (by decide) rfl ?_
              refine zg_goto (tgt := 41) zd_Re_isLetter_37 (by decide) ?_
              obtain ⟨rfl, rfl⟩ := rt_q h
              exact zg_iret zd_Re_isLetter_41 (zrt_z (by decide))
            · refine zg_icmp_ne (tgt := 40) (pc' := 36) zd_Re_isLetter_33 (by decide) rfl (fun _ => ?_) (fun q => absurd q c6)
              refine zg_iconst (x := (0 : Int32)) (pc' := 41) zd_Re_isLetter_40 (by decide) rfl ?_
              obtain ⟨rfl, rfl⟩ := rt_q h
              exact zg_iret zd_Re_isLetter_41 (zrt_z (by decide))
theorem zd_Re_isDigit_0 : decode prog_5_method_9_code 0 = .ok (.iload_n 0, 1) := by decide +kernel
theorem zd_Re_isDigit_1 : decode prog_5_method_9_code 1 = .ok (.bipush 48, 2) := by decide +kernel
theorem zd_Re_isDigit_3 : decode prog_5_method_9_code 3 = .ok (.if_icmp .lt 13, 3) := by decide +kernel
theorem zd_Re_isDigit_6 : decode prog_5_method_9_code 6 = .ok (.iload_n 0, 1) := by decide +kernel
theorem zd_Re_isDigit_7 : decode prog_5_method_9_code 7 = .ok (.bipush 57, 2) := by decide +kernel
theorem zd_Re_isDigit_9 : decode prog_5_method_9_code 9 = .ok (.if_icmp .gt 7, 3) := by decide +kernel
theorem zd_Re_isDigit_16 : decode prog_5_method_9_code 16 = .ok (.iconst 0, 1) := by decide +kernel
theorem zd_Re_isDigit_12 : decode prog_5_method_9_code 12 = .ok (.iconst 1, 1) := by decide +kernel
theorem zd_Re_isDigit_13 : decode prog_5_method_9_code 13 = .ok (.goto 4, 3) := by decide +kernel
theorem zd_Re_isDigit_17 : decode prog_5_method_9_code 17 = .ok (.ireturn, 1) := by decide +kernel
abbrev zm_Re_isDigit : zQ := ("LoofahSaints$Reader", prog_5_method_9_code, 1, (Option.some Jvm.ClassFile.FieldType.boolean), false)
set_option maxRecDepth 100000 in
def fn_Re_isDigit (a0 : Int32) (S : zS) : Option (Int32 × zS) :=
  br (decide (a0 < (48 : Int32))) (some ((0 : Int32), S)) <|
  br (decide ((57 : Int32) < a0)) (some ((0 : Int32), S)) <|
  some ((1 : Int32), S)
set_option maxRecDepth 100000 in
set_option maxHeartbeats 4000000 in
theorem tm_Re_isDigit {X : zXt} {d : Nat} (hd : 2 ≤ d) {v : Int32} {a0 : Int32} {S : zS} {S' : zS} (h : fn_Re_isDigit a0 S = some (v, S')) : zM X zy_Re_isDigit prog_5_method_9_code 1 (Option.some Jvm.ClassFile.FieldType.boolean) d [.int a0] S (some (.int v)) S' := by
  refine zM_of (ini := false) (L := [some (.int a0)]) (plainFor_of_name (by decide)) (fun h => by cases h) (Nat.le_of_ble_eq_true rfl) rfl ?_
  unfold fn_Re_isDigit at h
  refine zg_iload_n (pc' := 1) zd_Re_isDigit_0 rfl rfl ?_
  refine zg_bipush (x := (48 : Int32)) (pc' := 3) zd_Re_isDigit_1 (by decide) rfl ?_
  rcases br_some h with ⟨c1, h⟩ | ⟨c1, h⟩
  · refine zg_icmp_lt (tgt := 16) (pc' := 6) zd_Re_isDigit_3 (by decide) rfl (fun _ => ?_) (fun q => absurd c1 q)
    refine zg_iconst (x := (0 : Int32)) (pc' := 17) zd_Re_isDigit_16 (by decide) rfl ?_
    obtain ⟨rfl, rfl⟩ := rt_q h
    exact zg_iret zd_Re_isDigit_17 (zrt_z (by decide))
  · refine zg_icmp_lt (tgt := 16) (pc' := 6) zd_Re_isDigit_3 (by decide) rfl (fun q => absurd q c1) (fun _ => ?_)
    refine zg_iload_n (pc' := 7) zd_Re_isDigit_6 rfl rfl ?_
    refine zg_bipush (x := (57 : Int32)) (pc' := 9) zd_Re_isDigit_7 (by decide) rfl ?_
    rcases br_some h with ⟨c2, h⟩ | ⟨c2, h⟩
    · refine zg_icmp_gt (tgt := 16) (pc' := 12) zd_Re_isDigit_9 (by decide) rfl (fun _ => ?_) (fun q => absurd c2 q)
      refine zg_iconst (x := (0 : Int32)) (pc' := 17) zd_Re_isDigit_16 (by decide) rfl ?_
      obtain ⟨rfl, rfl⟩ := rt_q h
      exact zg_iret zd_Re_isDigit_17 (zrt_z (by decide))
    · refine zg_icmp_gt (tgt := 16) (pc' := 12) zd_Re_isDigit_9 (by decide) rfl (fun q => absurd q c2) (fun _ => ?_)
      refine zg_iconst (x := (1 : Int32)) (pc' := 13) zd_Re_isDigit_12 (by decide) rfl ?_
      refine zg_goto (tgt := 17) zd_Re_isDigit_13 (by decide) ?_
      obtain ⟨rfl, rfl⟩ := rt_q h
      exact zg_iret zd_Re_isDigit_17 (zrt_z (by decide))
theorem zd_Re_numeral_0 : decode prog_5_method_8_code 0 = .ok (.aload_n 0, 1) := by decide +kernel
theorem zd_Re_numeral_1 : decode prog_5_method_8_code 1 = .ok (.iconst 0, 1) := by decide +kernel
theorem zd_Re_numeral_2 : decode prog_5_method_8_code 2 = .ok (.invokevirtual 45, 3) := by decide +kernel
theorem zd_Re_numeral_5 : decode prog_5_method_8_code 5 = .ok (.invokestatic 81, 3) := by decide +kernel
theorem zd_Re_numeral_8 : decode prog_5_method_8_code 8 = .ok (.ifCond .ne 5, 3) := by decide +kernel
theorem zd_Re_numeral_13 : decode prog_5_method_8_code 13 = .ok (.aload_n 0, 1) := by decide +kernel
theorem zd_Re_numeral_14 : decode prog_5_method_8_code 14 = .ok (.aload_n 0, 1) := by decide +kernel
theorem zd_Re_numeral_15 : decode prog_5_method_8_code 15 = .ok (.iconst 0, 1) := by decide +kernel
theorem zd_Re_numeral_16 : decode prog_5_method_8_code 16 = .ok (.invokevirtual 45, 3) := by decide +kernel
theorem zd_Re_numeral_19 : decode prog_5_method_8_code 19 = .ok (.bipush 48, 2) := by decide +kernel
theorem zd_Re_numeral_21 : decode prog_5_method_8_code 21 = .ok (.isub, 1) := by decide +kernel
theorem zd_Re_numeral_22 : decode prog_5_method_8_code 22 = .ok (.putfield 22, 3) := by decide +kernel
theorem zd_Re_numeral_25 : decode prog_5_method_8_code 25 = .ok (.aload_n 0, 1) := by decide +kernel
theorem zd_Re_numeral_26 : decode prog_5_method_8_code 26 = .ok (.dup, 1) := by decide +kernel
theorem zd_Re_numeral_27 : decode prog_5_method_8_code 27 = .ok (.getfield 19, 3) := by decide +kernel
theorem zd_Re_numeral_30 : decode prog_5_method_8_code 30 = .ok (.iconst 1, 1) := by decide +kernel
theorem zd_Re_numeral_31 : decode prog_5_method_8_code 31 = .ok (.iadd, 1) := by decide +kernel
theorem zd_Re_numeral_32 : decode prog_5_method_8_code 32 = .ok (.putfield 19, 3) := by decide +kernel
theorem zd_Re_numeral_35 : decode prog_5_method_8_code 35 = .ok (.aload_n 0, 1) := by decide +kernel
theorem zd_Re_numeral_36 : decode prog_5_method_8_code 36 = .ok (.iconst 0, 1) := by decide +kernel
theorem zd_Re_numeral_37 : decode prog_5_method_8_code 37 = .ok (.invokevirtual 45, 3) := by decide +kernel
theorem zd_Re_numeral_40 : decode prog_5_method_8_code 40 = .ok (.invokestatic 81, 3) := by decide +kernel
theorem zd_Re_numeral_43 : decode prog_5_method_8_code 43 = .ok (.ifCond .eq 33, 3) := by decide +kernel
theorem zd_Re_numeral_46 : decode prog_5_method_8_code 46 = .ok (.aload_n 0, 1) := by decide +kernel
theorem zd_Re_numeral_47 : decode prog_5_method_8_code 47 = .ok (.aload_n 0, 1) := by decide +kernel
theorem zd_Re_numeral_48 : decode prog_5_method_8_code 48 = .ok (.getfield 22, 3) := by decide +kernel
theorem zd_Re_numeral_51 : decode prog_5_method_8_code 51 = .ok (.bipush 10, 2) := by decide +kernel
theorem zd_Re_numeral_53 : decode prog_5_method_8_code 53 = .ok (.imul, 1) := by decide +kernel
theorem zd_Re_numeral_54 : decode prog_5_method_8_code 54 = .ok (.aload_n 0, 1) := by decide +kernel
theorem zd_Re_numeral_55 : decode prog_5_method_8_code 55 = .ok (.iconst 0, 1) := by decide +kernel
theorem zd_Re_numeral_56 : decode prog_5_method_8_code 56 = .ok (.invokevirtual 45, 3) := by decide +kernel
theorem zd_Re_numeral_59 : decode prog_5_method_8_code 59 = .ok (.iadd, 1) := by decide +kernel
theorem zd_Re_numeral_60 : decode prog_5_method_8_code 60 = .ok (.bipush 48, 2) := by decide +kernel
theorem zd_Re_numeral_62 : decode prog_5_method_8_code 62 = .ok (.isub, 1) := by decide +kernel
theorem zd_Re_numeral_63 : decode prog_5_method_8_code 63 = .ok (.putfield 22, 3) := by decide +kernel
theorem zd_Re_numeral_66 : decode prog_5_method_8_code 66 = .ok (.aload_n 0, 1) := by decide +kernel
theorem zd_Re_numeral_67 : decode prog_5_method_8_code 67 = .ok (.dup, 1) := by decide +kernel
theorem zd_Re_numeral_68 : decode prog_5_method_8_code 68 = .ok (.getfield 19, 3) := by decide +kernel
theorem zd_Re_numeral_71 : decode prog_5_method_8_code 71 = .ok (.iconst 1, 1) := by decide +kernel
theorem zd_Re_numeral_72 : decode prog_5_method_8_code 72 = .ok (.iadd, 1) := by decide +kernel
theorem zd_Re_numeral_73 : decode prog_5_method_8_code 73 = .ok (.putfield 19, 3) := by decide +kernel
theorem zd_Re_numeral_76 : decode prog_5_method_8_code 76 = .ok (.iconst 1, 1) := by decide +kernel
theorem zd_Re_numeral_77 : decode prog_5_method_8_code 77 = .ok (.ireturn, 1) := by decide +kernel
theorem zd_Re_numeral_11 : decode prog_5_method_8_code 11 = .ok (.iconst 0, 1) := by decide +kernel
theorem zd_Re_numeral_12 : decode prog_5_method_8_code 12 = .ok (.ireturn, 1) := by decide +kernel
abbrev zm_Re_numeral : zQ := ("LoofahSaints$Reader", prog_5_method_8_code, 1, (Option.some Jvm.ClassFile.FieldType.boolean), false)
set_option maxRecDepth 100000 in
def fn_Re_numeral (a0 : Nat) (S : zS) : Option (Int32 × zS) :=
  gd (gT S a0 103) <|
  bq (fn_Re_sign a0 (0 : Int32) S) fun r4 S2 =>
  bq (fn_Re_isDigit r4 S2) fun r7 S5 =>
  br (decide (r7 = 0)) (some ((0 : Int32), S5)) <|
  gd (gT S5 a0 103) <|
  bq (fn_Re_sign a0 (0 : Int32) S5) fun r12 S10 =>
  gd (gT S10 a0 103) <|
  nm (uI S10 a0 3 (r12 - (48 : Int32))) fun S14 =>
  gd (gT S14 a0 103) <|
  nm (uI S14 a0 2 ((zI S14 a0 2) + (1 : Int32))) fun S16 =>
  gd (gT S16 a0 103) <|
  bq (fn_Re_sign a0 (0 : Int32) S16) fun r20 S18 =>
  bq (fn_Re_isDigit r20 S18) fun r23 S21 =>
  br (decide (r23 = 0)) (some ((1 : Int32), S21)) <|
  gd (gT S21 a0 103) <|
  bq (fn_Re_sign a0 (0 : Int32) S21) fun r28 S26 =>
  gd (gT S26 a0 103) <|
  nm (uI S26 a0 3 ((((zI S21 a0 3) * (10 : Int32)) + r28) - (48 : Int32))) fun S30 =>
  gd (gT S30 a0 103) <|
  nm (uI S30 a0 2 ((zI S30 a0 2) + (1 : Int32))) fun S32 =>
  some ((1 : Int32), S32)
set_option maxRecDepth 100000 in
set_option maxHeartbeats 4000000 in
theorem tm_Re_numeral {X : zXt} {d : Nat} (hd : 3 ≤ d) {v : Int32} {a0 : Nat} {S : zS} {S' : zS} (h : fn_Re_numeral a0 S = some (v, S')) : zM X zy_Re_numeral prog_5_method_8_code 1 (Option.some Jvm.ClassFile.FieldType.boolean) d [.ref a0] S (some (.int v)) S' := by
  refine zM_of (ini := false) (L := [some (.ref a0)]) (plainFor_of_name (by decide)) (fun h => by cases h) (Nat.le_of_ble_eq_true rfl) rfl ?_
  unfold fn_Re_numeral at h
  refine zg_aload_n (pc' := 1) zd_Re_numeral_0 rfl rfl ?_
  refine zg_iconst (x := (0 : Int32)) (pc' := 2) zd_Re_numeral_1 (by decide) rfl ?_
  obtain ⟨g1, h⟩ := gd_some h
  obtain ⟨r4, S2, e3, h⟩ := bq_some h
  refine zg_callV (ci := 3) (As := [.int (0 : Int32)]) (rest := []) (pc' := 5) zl_Re_45 zq451 zqp1 ⟨_, rfl, rfl⟩ zd_Re_numeral_2 rfl rfl (Nat.le_of_ble_eq_true rfl) (by omega) (gT_ok g1) (tm_Re_sign (d := 2) (Nat.le_refl _) e3) rfl ?_
  refine zg_st (st' := [.int r4]) rfl ?_
  obtain ⟨r7, S5, e6, h⟩ := bq_some h
  refine zg_callS (As := [.int r4]) (rest := []) (pc' := 8) zl_Re_81 zq515 zd_Re_numeral_5 rfl rfl (Nat.le_of_ble_eq_true rfl) (by omega) (tm_Re_isDigit (d := 2) (Nat.le_refl _) e6) rfl ?_
  refine zg_st (st' := [.int r7]) rfl ?_
  rcases br_some h with ⟨c8, h⟩ | ⟨c8, h⟩
  · refine zg_if_ne (tgt := 13) (pc' := 11) zd_Re_numeral_8 (by decide) rfl (fun q => absurd c8 q) (fun _ => ?_)
    refine zg_iconst (x := (0 : Int32)) (pc' := 12) zd_Re_numeral_11 (by decide) rfl ?_
    obtain ⟨rfl, rfl⟩ := rt_q h
    exact zg_iret zd_Re_numeral_12 (zrt_z (by decide))
  · refine zg_if_ne (tgt := 13) (pc' := 11) zd_Re_numeral_8 (by decide) rfl (fun _ => ?_) (fun q => absurd q c8)
    refine zg_aload_n (pc' := 14) zd_Re_numeral_13 rfl rfl ?_
    refine zg_aload_n (pc' := 15) zd_Re_numeral_14 rfl rfl ?_
    refine zg_iconst (x := (0 : Int32)) (pc' := 16) zd_Re_numeral_15 (by decide) rfl ?_
    obtain ⟨g9, h⟩ := gd_some h
    obtain ⟨r12, S10, e11, h⟩ := bq_some h
    refine zg_callV (ci := 3) (As := [.int (0 : Int32)]) (rest := [.ref a0]) (pc' := 19) zl_Re_45 zq451 zqp1 ⟨_, rfl, rfl⟩ zd_Re_numeral_16 rfl rfl (Nat.le_of_ble_eq_true rfl) (by omega) (gT_ok g9) (tm_Re_sign (d := 2) (Nat.le_refl _) e11) rfl ?_
    refine zg_st (st' := [.int r12, .ref a0]) rfl ?_
    refine zg_bipush (x := (48 : Int32)) (pc' := 21) zd_Re_numeral_19 (by decide) rfl ?_
    refine zg_isub (pc' := 22) zd_Re_numeral_21 rfl ?_
    obtain ⟨g13, h⟩ := gd_some h
    refine zg_putI (pc' := 25) zf_Re_22 zd_Re_numeral_22 (Or.inl rfl) (gT_ok g13) rfl ?_
    obtain ⟨S14, eS14, h⟩ := nm_some h
    refine zg_nm eS14 ?_
    refine zg_aload_n (pc' := 26) zd_Re_numeral_25 rfl rfl ?_
    refine zg_dup (pc' := 27) zd_Re_numeral_26 rfl rfl ?_
    obtain ⟨g15, h⟩ := gd_some h
    refine zg_getI (pc' := 30) zf_Re_19 zd_Re_numeral_27 (gT_ok g15) rfl ?_
    refine zg_iconst (x := (1 : Int32)) (pc' := 31) zd_Re_numeral_30 (by decide) rfl ?_
    refine zg_iadd (pc' := 32) zd_Re_numeral_31 rfl ?_
    refine zg_putI (pc' := 35) zf_Re_19 zd_Re_numeral_32 (Or.inl rfl) (gT_ok g15) rfl ?_
    obtain ⟨S16, eS16, h⟩ := nm_some h
    refine zg_nm eS16 ?_
    refine zg_aload_n (pc' := 36) zd_Re_numeral_35 rfl rfl ?_
    refine zg_iconst (x := (0 : Int32)) (pc' := 37) zd_Re_numeral_36 (by decide) rfl ?_
    obtain ⟨g17, h⟩ := gd_some h
    obtain ⟨r20, S18, e19, h⟩ := bq_some h
    refine zg_callV (ci := 3) (As := [.int (0 : Int32)]) (rest := []) (pc' := 40) zl_Re_45 zq451 zqp1 ⟨_, rfl, rfl⟩ zd_Re_numeral_37 rfl rfl (Nat.le_of_ble_eq_true rfl) (by omega) (gT_ok g17) (tm_Re_sign (d := 2) (Nat.le_refl _) e19) rfl ?_
    refine zg_st (st' := [.int r20]) rfl ?_
    obtain ⟨r23, S21, e22, h⟩ := bq_some h
    refine zg_callS (As := [.int r20]) (rest := []) (pc' := 43) zl_Re_81 zq515 zd_Re_numeral_40 rfl rfl (Nat.le_of_ble_eq_true rfl) (by omega) (tm_Re_isDigit (d := 2) (Nat.le_refl _) e22) rfl ?_
    refine zg_st (st' := [.int r23]) rfl ?_
    rcases br_some h with ⟨c24, h⟩ | ⟨c24, h⟩
    · refine zg_if_eq (tgt := 76) (pc' := 46) zd_Re_numeral_43 (by decide) rfl (fun _ => ?_) (fun q => absurd c24 q)
      refine zg_iconst (x := (1 : Int32)) (pc' := 77) zd_Re_numeral_76 (by decide) rfl ?_
      obtain ⟨rfl, rfl⟩ := rt_q h
      exact zg_iret zd_Re_numeral_77 (zrt_z (by decide))
    · refine zg_if_eq (tgt := 76) (pc' := 46) zd_Re_numeral_43 (by decide) rfl (fun q => absurd q c24) (fun _ => ?_)
      refine zg_aload_n (pc' := 47) zd_Re_numeral_46 rfl rfl ?_
      refine zg_aload_n (pc' := 48) zd_Re_numeral_47 rfl rfl ?_
      obtain ⟨g25, h⟩ := gd_some h
      refine zg_getI (pc' := 51) zf_Re_22 zd_Re_numeral_48 (gT_ok g25) rfl ?_
      refine zg_bipush (x := (10 : Int32)) (pc' := 53) zd_Re_numeral_51 (by decide) rfl ?_
      refine zg_imul (pc' := 54) zd_Re_numeral_53 rfl ?_
      refine zg_aload_n (pc' := 55) zd_Re_numeral_54 rfl rfl ?_
      refine zg_iconst (x := (0 : Int32)) (pc' := 56) zd_Re_numeral_55 (by decide) rfl ?_
      obtain ⟨r28, S26, e27, h⟩ := bq_some h
      refine zg_callV (ci := 3) (As := [.int (0 : Int32)]) (rest := [.int ((zI S21 a0 3) * (10 : Int32)), .ref a0]) (pc' := 59) zl_Re_45 zq451 zqp1 ⟨_, rfl, rfl⟩ zd_Re_numeral_56 rfl rfl (Nat.le_of_ble_eq_true rfl) (by omega) (gT_ok g25) (tm_Re_sign (d := 2) (Nat.le_refl _) e27) rfl ?_
      refine zg_st (st' := [.int r28, .int ((zI S21 a0 3) * (10 : Int32)), .ref a0]) rfl ?_
      refine zg_iadd (pc' := 60) zd_Re_numeral_59 rfl ?_
      refine zg_bipush (x := (48 : Int32)) (pc' := 62) zd_Re_numeral_60 (by decide) rfl ?_
      refine zg_isub (pc' := 63) zd_Re_numeral_62 rfl ?_
      obtain ⟨g29, h⟩ := gd_some h
      refine zg_putI (pc' := 66) zf_Re_22 zd_Re_numeral_63 (Or.inl rfl) (gT_ok g29) rfl ?_
      obtain ⟨S30, eS30, h⟩ := nm_some h
      refine zg_nm eS30 ?_
      refine zg_aload_n (pc' := 67) zd_Re_numeral_66 rfl rfl ?_
      refine zg_dup (pc' := 68) zd_Re_numeral_67 rfl rfl ?_
      obtain ⟨g31, h⟩ := gd_some h
      refine zg_getI (pc' := 71) zf_Re_19 zd_Re_numeral_68 (gT_ok g31) rfl ?_
      refine zg_iconst (x := (1 : Int32)) (pc' := 72) zd_Re_numeral_71 (by decide) rfl ?_
      refine zg_iadd (pc' := 73) zd_Re_numeral_72 rfl ?_
      refine zg_putI (pc' := 76) zf_Re_19 zd_Re_numeral_73 (Or.inl rfl) (gT_ok g31) rfl ?_
      obtain ⟨S32, eS32, h⟩ := nm_some h
      refine zg_nm eS32 ?_
      refine zg_iconst (x := (1 : Int32)) (pc' := 77) zd_Re_numeral_76 (by decide) rfl ?_
      obtain ⟨rfl, rfl⟩ := rt_q h
      exact zg_iret zd_Re_numeral_77 (zrt_z (by decide))
theorem zd_Re_test_0 : decode prog_5_method_6_code 0 = .ok (.aload_n 0, 1) := by decide +kernel
theorem zd_Re_test_1 : decode prog_5_method_6_code 1 = .ok (.iconst 0, 1) := by decide +kernel
theorem zd_Re_test_2 : decode prog_5_method_6_code 2 = .ok (.invokevirtual 45, 3) := by decide +kernel
theorem zd_Re_test_5 : decode prog_5_method_6_code 5 = .ok (.istore_n 1, 1) := by decide +kernel
theorem zd_Re_test_6 : decode prog_5_method_6_code 6 = .ok (.iload_n 1, 1) := by decide +kernel
theorem zd_Re_test_7 : decode prog_5_method_6_code 7 = .ok (.invokestatic 78, 3) := by decide +kernel
theorem zd_Re_test_10 : decode prog_5_method_6_code 10 = .ok (.ifCond .ne 5, 3) := by decide +kernel
theorem zd_Re_test_15 : decode prog_5_method_6_code 15 = .ok (.aload_n 0, 1) := by decide +kernel
theorem zd_Re_test_16 : decode prog_5_method_6_code 16 = .ok (.dup, 1) := by decide +kernel
theorem zd_Re_test_17 : decode prog_5_method_6_code 17 = .ok (.getfield 19, 3) := by decide +kernel
theorem zd_Re_test_20 : decode prog_5_method_6_code 20 = .ok (.iconst 1, 1) := by decide +kernel
theorem zd_Re_test_21 : decode prog_5_method_6_code 21 = .ok (.iadd, 1) := by decide +kernel
theorem zd_Re_test_22 : decode prog_5_method_6_code 22 = .ok (.putfield 19, 3) := by decide +kernel
theorem zd_Re_test_25 : decode prog_5_method_6_code 25 = .ok (.aload_n 0, 1) := by decide +kernel
theorem zd_Re_test_26 : decode prog_5_method_6_code 26 = .ok (.iconst 0, 1) := by decide +kernel
theorem zd_Re_test_27 : decode prog_5_method_6_code 27 = .ok (.invokevirtual 45, 3) := by decide +kernel
theorem zd_Re_test_30 : decode prog_5_method_6_code 30 = .ok (.istore_n 2, 1) := by decide +kernel
theorem zd_Re_test_31 : decode prog_5_method_6_code 31 = .ok (.iload_n 2, 1) := by decide +kernel
theorem zd_Re_test_32 : decode prog_5_method_6_code 32 = .ok (.bipush 60, 2) := by decide +kernel
theorem zd_Re_test_34 : decode prog_5_method_6_code 34 = .ok (.if_icmp .eq 17, 3) := by decide +kernel
theorem zd_Re_test_37 : decode prog_5_method_6_code 37 = .ok (.iload_n 2, 1) := by decide +kernel
theorem zd_Re_test_38 : decode prog_5_method_6_code 38 = .ok (.bipush 61, 2) := by decide +kernel
theorem zd_Re_test_40 : decode prog_5_method_6_code 40 = .ok (.if_icmp .eq 11, 3) := by decide +kernel
theorem zd_Re_test_43 : decode prog_5_method_6_code 43 = .ok (.iload_n 2, 1) := by decide +kernel
theorem zd_Re_test_44 : decode prog_5_method_6_code 44 = .ok (.bipush 62, 2) := by decide +kernel
theorem zd_Re_test_46 : decode prog_5_method_6_code 46 = .ok (.if_icmp .eq 5, 3) := by decide +kernel
theorem zd_Re_test_51 : decode prog_5_method_6_code 51 = .ok (.aload_n 0, 1) := by decide +kernel
theorem zd_Re_test_52 : decode prog_5_method_6_code 52 = .ok (.dup, 1) := by decide +kernel
theorem zd_Re_test_53 : decode prog_5_method_6_code 53 = .ok (.getfield 19, 3) := by decide +kernel
theorem zd_Re_test_56 : decode prog_5_method_6_code 56 = .ok (.iconst 1, 1) := by decide +kernel
theorem zd_Re_test_57 : decode prog_5_method_6_code 57 = .ok (.iadd, 1) := by decide +kernel
theorem zd_Re_test_58 : decode prog_5_method_6_code 58 = .ok (.putfield 19, 3) := by decide +kernel
theorem zd_Re_test_61 : decode prog_5_method_6_code 61 = .ok (.aload_n 0, 1) := by decide +kernel
theorem zd_Re_test_62 : decode prog_5_method_6_code 62 = .ok (.invokevirtual 55, 3) := by decide +kernel
theorem zd_Re_test_65 : decode prog_5_method_6_code 65 = .ok (.ifCond .ne 5, 3) := by decide +kernel
theorem zd_Re_test_70 : decode prog_5_method_6_code 70 = .ok (.aload_n 0, 1) := by decide +kernel
theorem zd_Re_test_71 : decode prog_5_method_6_code 71 = .ok (.getfield 30, 3) := by decide +kernel
theorem zd_Re_test_74 : decode prog_5_method_6_code 74 = .ok (.iload_n 1, 1) := by decide +kernel
theorem zd_Re_test_75 : decode prog_5_method_6_code 75 = .ok (.iload_n 2, 1) := by decide +kernel
theorem zd_Re_test_76 : decode prog_5_method_6_code 76 = .ok (.bipush 100, 2) := by decide +kernel
theorem zd_Re_test_78 : decode prog_5_method_6_code 78 = .ok (.imul, 1) := by decide +kernel
theorem zd_Re_test_79 : decode prog_5_method_6_code 79 = .ok (.aload_n 0, 1) := by decide +kernel
theorem zd_Re_test_80 : decode prog_5_method_6_code 80 = .ok (.getfield 22, 3) := by decide +kernel
theorem zd_Re_test_83 : decode prog_5_method_6_code 83 = .ok (.iadd, 1) := by decide +kernel
theorem zd_Re_test_84 : decode prog_5_method_6_code 84 = .ok (.invokevirtual 68, 3) := by decide +kernel
theorem zd_Re_test_87 : decode prog_5_method_6_code 87 = .ok (.iconst 1, 1) := by decide +kernel
theorem zd_Re_test_88 : decode prog_5_method_6_code 88 = .ok (.ireturn, 1) := by decide +kernel
theorem zd_Re_test_68 : decode prog_5_method_6_code 68 = .ok (.iconst 0, 1) := by decide +kernel
theorem zd_Re_test_69 : decode prog_5_method_6_code 69 = .ok (.ireturn, 1) := by decide +kernel
theorem zd_Re_test_49 : decode prog_5_method_6_code 49 = .ok (.iconst 0, 1) := by decide +kernel
theorem zd_Re_test_50 : decode prog_5_method_6_code 50 = .ok (.ireturn, 1) := by decide +kernel
theorem zd_Re_test_13 : decode prog_5_method_6_code 13 = .ok (.iconst 0, 1) := by decide +kernel
theorem zd_Re_test_14 : decode prog_5_method_6_code 14 = .ok (.ireturn, 1) := by decide +kernel
abbrev zm_Re_test : zQ := ("LoofahSaints$Reader", prog_5_method_6_code, 3, (Option.some Jvm.ClassFile.FieldType.boolean), false)
set_option maxRecDepth 100000 in
def fn_Re_test_L51 (a0 : Nat) (a1 : Int32) (a2 : Int32) (S : zS) : Option (Int32 × zS) :=
  gd (gT S a0 103) <|
  nm (uI S a0 2 ((zI S a0 2) + (1 : Int32))) fun S2 =>
  gd (gT S2 a0 103) <|
  bq (fn_Re_numeral a0 S2) fun r6 S4 =>
  br (decide (r6 = 0)) (some ((0 : Int32), S4)) <|
  gd (gT S4 a0 103) <|
  gd (gT S4 (zR S4 a0 4) 102) <|
  bv (fn_Or_put (zR S4 a0 4) a1 ((a2 * (100 : Int32)) + (zI S4 a0 3)) S4) fun S10 =>
  some ((1 : Int32), S10)
set_option maxRecDepth 100000 in
set_option maxHeartbeats 4000000 in
theorem tm_Re_test_L51 {X : zXt} {d : Nat} (hd : 4 ≤ d) {v : Int32} {S' : zS}  {a0 : Nat} {a1 : Int32} {a2 : Int32} {S : zS} (h : fn_Re_test_L51 a0 a1 a2 S = some (v, S')) : zG X zm_Re_test d 51 [some (.ref a0), some (.int a1), some (.int a2)] [] S (some (.int v)) S' := by
  unfold fn_Re_test_L51 at h
  refine zg_aload_n (pc' := 52) zd_Re_test_51 rfl rfl ?_
  refine zg_dup (pc' := 53) zd_Re_test_52 rfl rfl ?_
  obtain ⟨g1, h⟩ := gd_some h
  refine zg_getI (pc' := 56) zf_Re_19 zd_Re_test_53 (gT_ok g1) rfl ?_
  refine zg_iconst (x := (1 : Int32)) (pc' := 57) zd_Re_test_56 (by decide) rfl ?_
  refine zg_iadd (pc' := 58) zd_Re_test_57 rfl ?_
  refine zg_putI (pc' := 61) zf_Re_19 zd_Re_test_58 (Or.inl rfl) (gT_ok g1) rfl ?_
  obtain ⟨S2, eS2, h⟩ := nm_some h
  refine zg_nm eS2 ?_
  refine zg_aload_n (pc' := 62) zd_Re_test_61 rfl rfl ?_
  obtain ⟨g3, h⟩ := gd_some h
  obtain ⟨r6, S4, e5, h⟩ := bq_some h
  refine zg_callV (ci := 3) (As := []) (rest := []) (pc' := 65) zl_Re_55 zq512 zqp4 ⟨_, rfl, rfl⟩ zd_Re_test_62 rfl rfl (Nat.le_of_ble_eq_true rfl) (by omega) (gT_ok g3) (tm_Re_numeral (d := 3) (Nat.le_refl _) e5) rfl ?_
  refine zg_st (st' := [.int r6]) rfl ?_
  rcases br_some h with ⟨c7, h⟩ | ⟨c7, h⟩
  · refine zg_if_ne (tgt := 70) (pc' := 68) zd_Re_test_65 (by decide) rfl (fun q => absurd c7 q) (fun _ => ?_)
    refine zg_iconst (x := (0 : Int32)) (pc' := 69) zd_Re_test_68 (by decide) rfl ?_
    obtain ⟨rfl, rfl⟩ := rt_q h
    exact zg_iret zd_Re_test_69 (zrt_z (by decide))
  · refine zg_if_ne (tgt := 70) (pc' := 68) zd_Re_test_65 (by decide) rfl (fun _ => ?_) (fun q => absurd q c7)
    refine zg_aload_n (pc' := 71) zd_Re_test_70 rfl rfl ?_
    obtain ⟨g8, h⟩ := gd_some h
    refine zg_getR (pc' := 74) zf_Re_30 rfl zd_Re_test_71 (gT_ok g8) rfl ?_
    refine zg_iload_n (pc' := 75) zd_Re_test_74 rfl rfl ?_
    refine zg_iload_n (pc' := 76) zd_Re_test_75 rfl rfl ?_
    refine zg_bipush (x := (100 : Int32)) (pc' := 78) zd_Re_test_76 (by decide) rfl ?_
    refine zg_imul (pc' := 79) zd_Re_test_78 rfl ?_
    refine zg_aload_n (pc' := 80) zd_Re_test_79 rfl rfl ?_
    refine zg_getI (pc' := 83) zf_Re_22 zd_Re_test_80 (gT_ok g8) rfl ?_
    refine zg_iadd (pc' := 84) zd_Re_test_83 rfl ?_
    obtain ⟨g9, h⟩ := gd_some h
    obtain ⟨S10, e11, h⟩ := bv_some h
    refine zg_callV (ci := 2) (As := [.int a1, .int ((a2 * (100 : Int32)) + (zI S4 a0 3))]) (rest := []) (pc' := 87) zl_Re_68 zq528 zq529 ⟨_, rfl, rfl⟩ zd_Re_test_84 rfl rfl (Nat.le_of_ble_eq_true rfl) (by omega) (gT_ok g9) (tm_Or_put (d := 2) (Nat.le_refl _) e11) rfl ?_
    refine zg_st (st' := []) rfl ?_
    refine zg_iconst (x := (1 : Int32)) (pc' := 88) zd_Re_test_87 (by decide) rfl ?_
    obtain ⟨rfl, rfl⟩ := rt_q h
    exact zg_iret zd_Re_test_88 (zrt_z (by decide))
set_option maxRecDepth 100000 in
def fn_Re_test (a0 : Nat) (S : zS) : Option (Int32 × zS) :=
  gd (gT S a0 103) <|
  bq (fn_Re_sign a0 (0 : Int32) S) fun r4 S2 =>
  bq (fn_Re_isLetter r4 S2) fun r7 S5 =>
  br (decide (r7 = 0)) (some ((0 : Int32), S5)) <|
  gd (gT S5 a0 103) <|
  nm (uI S5 a0 2 ((zI S5 a0 2) + (1 : Int32))) fun S10 =>
  gd (gT S10 a0 103) <|
  bq (fn_Re_sign a0 (0 : Int32) S10) fun r14 S12 =>
  br (decide (r14 = (60 : Int32))) (fn_Re_test_L51 a0 r4 r14 S12) <|
  br (decide (r14 = (61 : Int32))) (fn_Re_test_L51 a0 r4 r14 S12) <|
  br (decide (r14 = (62 : Int32))) (fn_Re_test_L51 a0 r4 r14 S12) <|
  some ((0 : Int32), S12)
set_option maxRecDepth 100000 in
set_option maxHeartbeats 4000000 in
theorem tm_Re_test {X : zXt} {d : Nat} (hd : 4 ≤ d) {v : Int32} {a0 : Nat} {S : zS} {S' : zS} (h : fn_Re_test a0 S = some (v, S')) : zM X zy_Re_test prog_5_method_6_code 3 (Option.some Jvm.ClassFile.FieldType.boolean) d [.ref a0] S (some (.int v)) S' := by
  refine zM_of (ini := false) (L := [some (.ref a0), none, none]) (plainFor_of_name (by decide)) (fun h => by cases h) (Nat.le_of_ble_eq_true rfl) rfl ?_
  unfold fn_Re_test at h
  refine zg_aload_n (pc' := 1) zd_Re_test_0 rfl rfl ?_
  refine zg_iconst (x := (0 : Int32)) (pc' := 2) zd_Re_test_1 (by decide) rfl ?_
  obtain ⟨g1, h⟩ := gd_some h
  obtain ⟨r4, S2, e3, h⟩ := bq_some h
  refine zg_callV (ci := 3) (As := [.int (0 : Int32)]) (rest := []) (pc' := 5) zl_Re_45 zq451 zqp1 ⟨_, rfl, rfl⟩ zd_Re_test_2 rfl rfl (Nat.le_of_ble_eq_true rfl) (by omega) (gT_ok g1) (tm_Re_sign (d := 2) (Nat.le_refl _) e3) rfl ?_
  refine zg_st (st' := [.int r4]) rfl ?_
  refine zg_istore_n (L' := [some (.ref a0), some (.int r4), none]) (pc' := 6) zd_Re_test_5 (by decide) rfl rfl ?_
  refine zg_iload_n (pc' := 7) zd_Re_test_6 rfl rfl ?_
  obtain ⟨r7, S5, e6, h⟩ := bq_some h
  refine zg_callS (As := [.int r4]) (rest := []) (pc' := 10) zl_Re_78 zq536 zd_Re_test_7 rfl rfl (Nat.le_of_ble_eq_true rfl) (by omega) (tm_Re_isLetter (d := 2) (Nat.le_refl _) e6) rfl ?_
  refine zg_st (st' := [.int r7]) rfl ?_
  rcases br_some h with ⟨c8, h⟩ | ⟨c8, h⟩
  · refine zg_if_ne (tgt := 15) (pc' := 13) zd_Re_test_10 (by decide) rfl (fun q => absurd c8 q) (fun _ => ?_)
    refine zg_iconst (x := (0 : Int32)) (pc' := 14) zd_Re_test_13 (by decide) rfl ?_
    obtain ⟨rfl, rfl⟩ := rt_q h
    exact zg_iret zd_Re_test_14 (zrt_z (by decide))
  · refine zg_if_ne (tgt := 15) (pc' := 13) zd_Re_test_10 (by decide) rfl (fun _ => ?_) (fun q => absurd q c8)
    refine zg_aload_n (pc' := 16) zd_Re_test_15 rfl rfl ?_
    refine zg_dup (pc' := 17) zd_Re_test_16 rfl rfl ?_
    obtain ⟨g9, h⟩ := gd_some h
    refine zg_getI (pc' := 20) zf_Re_19 zd_Re_test_17 (gT_ok g9) rfl ?_
    refine zg_iconst (x := (1 : Int32)) (pc' := 21) zd_Re_test_20 (by decide) rfl ?_
    refine zg_iadd (pc' := 22) zd_Re_test_21 rfl ?_
    refine zg_putI (pc' := 25) zf_Re_19 zd_Re_test_22 (Or.inl rfl) (gT_ok g9) rfl ?_
    obtain ⟨S10, eS10, h⟩ := nm_some h
    refine zg_nm eS10 ?_
    refine zg_aload_n (pc' := 26) zd_Re_test_25 rfl rfl ?_
    refine zg_iconst (x := (0 : Int32)) (pc' := 27) zd_Re_test_26 (by decide) rfl ?_
    obtain ⟨g11, h⟩ := gd_some h
    obtain ⟨r14, S12, e13, h⟩ := bq_some h
    refine zg_callV (ci := 3) (As := [.int (0 : Int32)]) (rest := []) (pc' := 30) zl_Re_45 zq451 zqp1 ⟨_, rfl, rfl⟩ zd_Re_test_27 rfl rfl (Nat.le_of_ble_eq_true rfl) (by omega) (gT_ok g11) (tm_Re_sign (d := 2) (Nat.le_refl _) e13) rfl ?_
    refine zg_st (st' := [.int r14]) rfl ?_
    refine zg_istore_n (L' := [some (.ref a0), some (.int r4), some (.int r14)]) (pc' := 31) zd_Re_test_30 (by decide) rfl rfl ?_
    refine zg_iload_n (pc' := 32) zd_Re_test_31 rfl rfl ?_
    refine zg_bipush (x := (60 : Int32)) (pc' := 34) zd_Re_test_32 (by decide) rfl ?_
    rcases br_some h with ⟨c15, h⟩ | ⟨c15, h⟩
    · refine zg_icmp_eq (tgt := 51) (pc' := 37) zd_Re_test_34 (by decide) rfl (fun _ => ?_) (fun q => absurd c15 q)
      exact tm_Re_test_L51 hd h
    · refine zg_icmp_eq (tgt := 51) (pc' := 37) zd_Re_test_34 (by decide) rfl (fun q => absurd q c15) (fun _ => ?_)
      refine zg_iload_n (pc' := 38) zd_Re_test_37 rfl rfl ?_
      refine zg_bipush (x := (61 : Int32)) (pc' := 40) zd_Re_test_38 (by decide) rfl ?_
      rcases br_some h with ⟨c16, h⟩ | ⟨c16, h⟩
      · refine zg_icmp_eq (tgt := 51) (pc' := 43) zd_Re_test_40 (by decide) rfl (fun _ => ?_) (fun q => absurd c16 q)
        exact tm_Re_test_L51 hd h
      · refine zg_icmp_eq (tgt := 51) (pc' := 43) zd_Re_test_40 (by decide) rfl (fun q => absurd q c16) (fun _ => ?_)
        refine zg_iload_n (pc' := 44) zd_Re_test_43 rfl rfl ?_
        refine zg_bipush (x := (62 : Int32)) (pc' := 46) zd_Re_test_44 (by decide) rfl ?_
        rcases br_some h with ⟨c17, h⟩ | ⟨c17, h⟩
        · refine zg_icmp_eq (tgt := 51) (pc' := 49) zd_Re_test_46 (by decide) rfl (fun _ => ?_) (fun q => absurd c17 q)
          exact tm_Re_test_L51 hd h
        · refine zg_icmp_eq (tgt := 51) (pc' := 49) zd_Re_test_46 (by decide) rfl (fun q => absurd q c17) (fun _ => ?_)
          refine zg_iconst (x := (0 : Int32)) (pc' := 50) zd_Re_test_49 (by decide) rfl ?_
          obtain ⟨rfl, rfl⟩ := rt_q h
          exact zg_iret zd_Re_test_50 (zrt_z (by decide))
theorem zd_Re_either_0 : decode prog_5_method_4_code 0 = .ok (.iconst 0, 1) := by decide +kernel
theorem zd_Re_either_1 : decode prog_5_method_4_code 1 = .ok (.istore_n 2, 1) := by decide +kernel
theorem zd_Re_either_2 : decode prog_5_method_4_code 2 = .ok (.iload_n 2, 1) := by decide +kernel
theorem zd_Re_either_3 : decode prog_5_method_4_code 3 = .ok (.bipush 100, 2) := by decide +kernel
theorem zd_Re_either_5 : decode prog_5_method_4_code 5 = .ok (.if_icmp .ge 85, 3) := by decide +kernel
theorem zd_Re_either_90 : decode prog_5_method_4_code 90 = .ok (.iconst 0, 1) := by decide +kernel
theorem zd_Re_either_91 : decode prog_5_method_4_code 91 = .ok (.ireturn, 1) := by decide +kernel
theorem zd_Re_either_8 : decode prog_5_method_4_code 8 = .ok (.iconst 0, 1) := by decide +kernel
theorem zd_Re_either_9 : decode prog_5_method_4_code 9 = .ok (.istore_n 3, 1) := by decide +kernel
theorem zd_Re_either_10 : decode prog_5_method_4_code 10 = .ok (.iload_n 3, 1) := by decide +kernel
theorem zd_Re_either_11 : decode prog_5_method_4_code 11 = .ok (.ifCond .eq 18, 3) := by decide +kernel
theorem zd_Re_either_14 : decode prog_5_method_4_code 14 = .ok (.iload_n 3, 1) := by decide +kernel
theorem zd_Re_either_15 : decode prog_5_method_4_code 15 = .ok (.bipush 100, 2) := by decide +kernel
theorem zd_Re_either_17 : decode prog_5_method_4_code 17 = .ok (.if_icmp .ge 42, 3) := by decide +kernel
theorem zd_Re_either_20 : decode prog_5_method_4_code 20 = .ok (.aload_n 0, 1) := by decide +kernel
theorem zd_Re_either_21 : decode prog_5_method_4_code 21 = .ok (.bipush 38, 2) := by decide +kernel
theorem zd_Re_either_23 : decode prog_5_method_4_code 23 = .ok (.invokevirtual 41, 3) := by decide +kernel
theorem zd_Re_either_26 : decode prog_5_method_4_code 26 = .ok (.ifCond .eq 33, 3) := by decide +kernel
theorem zd_Re_either_59 : decode prog_5_method_4_code 59 = .ok (.iload_n 2, 1) := by decide +kernel
theorem zd_Re_either_60 : decode prog_5_method_4_code 60 = .ok (.ifCond .le 13, 3) := by decide +kernel
theorem zd_Re_either_63 : decode prog_5_method_4_code 63 = .ok (.aload_n 0, 1) := by decide +kernel
theorem zd_Re_either_64 : decode prog_5_method_4_code 64 = .ok (.getfield 30, 3) := by decide +kernel
theorem zd_Re_either_67 : decode prog_5_method_4_code 67 = .ok (.bipush 124, 2) := by decide +kernel
theorem zd_Re_either_69 : decode prog_5_method_4_code 69 = .ok (.iconst 0, 1) := by decide +kernel
theorem zd_Re_either_70 : decode prog_5_method_4_code 70 = .ok (.invokevirtual 68, 3) := by decide +kernel
theorem zd_Re_either_73 : decode prog_5_method_4_code 73 = .ok (.aload_n 0, 1) := by decide +kernel
theorem zd_Re_either_74 : decode prog_5_method_4_code 74 = .ok (.bipush 124, 2) := by decide +kernel
theorem zd_Re_either_76 : decode prog_5_method_4_code 76 = .ok (.invokevirtual 41, 3) := by decide +kernel
theorem zd_Re_either_79 : decode prog_5_method_4_code 79 = .ok (.ifCond .ne 5, 3) := by decide +kernel
theorem zd_Re_either_84 : decode prog_5_method_4_code 84 = .ok (.iinc 2 1, 3) := by decide +kernel
theorem zd_Re_either_87 : decode prog_5_method_4_code 87 = .ok (.goto (-85), 3) := by decide +kernel
theorem zd_Re_either_82 : decode prog_5_method_4_code 82 = .ok (.iconst 1, 1) := by decide +kernel
theorem zd_Re_either_83 : decode prog_5_method_4_code 83 = .ok (.ireturn, 1) := by decide +kernel
theorem zd_Re_either_29 : decode prog_5_method_4_code 29 = .ok (.aload_n 0, 1) := by decide +kernel
theorem zd_Re_either_30 : decode prog_5_method_4_code 30 = .ok (.iload_n 1, 1) := by decide +kernel
theorem zd_Re_either_31 : decode prog_5_method_4_code 31 = .ok (.invokevirtual 72, 3) := by decide +kernel
theorem zd_Re_either_34 : decode prog_5_method_4_code 34 = .ok (.ifCond .ne 5, 3) := by decide +kernel
theorem zd_Re_either_39 : decode prog_5_method_4_code 39 = .ok (.iload_n 3, 1) := by decide +kernel
theorem zd_Re_either_40 : decode prog_5_method_4_code 40 = .ok (.ifCond .le 13, 3) := by decide +kernel
theorem zd_Re_either_43 : decode prog_5_method_4_code 43 = .ok (.aload_n 0, 1) := by decide +kernel
theorem zd_Re_either_44 : decode prog_5_method_4_code 44 = .ok (.getfield 30, 3) := by decide +kernel
theorem zd_Re_either_47 : decode prog_5_method_4_code 47 = .ok (.bipush 38, 2) := by decide +kernel
theorem zd_Re_either_49 : decode prog_5_method_4_code 49 = .ok (.iconst 0, 1) := by decide +kernel
theorem zd_Re_either_50 : decode prog_5_method_4_code 50 = .ok (.invokevirtual 68, 3) := by decide +kernel
theorem zd_Re_either_53 : decode prog_5_method_4_code 53 = .ok (.iinc 3 1, 3) := by decide +kernel
theorem zd_Re_either_56 : decode prog_5_method_4_code 56 = .ok (.goto (-46), 3) := by decide +kernel
theorem zd_Re_either_37 : decode prog_5_method_4_code 37 = .ok (.iconst 0, 1) := by decide +kernel
theorem zd_Re_either_38 : decode prog_5_method_4_code 38 = .ok (.ireturn, 1) := by decide +kernel
abbrev zm_Re_either : zQ := ("LoofahSaints$Reader", prog_5_method_4_code, 4, (Option.some Jvm.ClassFile.FieldType.boolean), false)
set_option maxRecDepth 100000 in
def fn_Re_either_L29 (o0 : Nat → Int32 → zS → Option (Int32 × zS)) (o1 : Nat → Int32 → zS → Option (Int32 × zS)) (a0 : Nat) (a1 : Int32) (a2 : Int32) (a3 : Int32) (S : zS) (K10 : Nat → Int32 → Int32 → Int32 → zS → Option (Int32 × zS)) : Option (Int32 × zS) :=
  gd (gT S a0 103) <|
  bq (o1 a0 a1 S) fun r4 S2 =>
  br (decide (r4 = 0)) (some ((0 : Int32), S2)) <|
  br (decide (a3 ≤ 0)) (K10 a0 a1 a2 (a3 + (1 : Int32)) S2) <|
  gd (gT S2 a0 103) <|
  gd (gT S2 (zR S2 a0 4) 102) <|
  bv (fn_Or_put (zR S2 a0 4) (38 : Int32) (0 : Int32) S2) fun S9 =>
  K10 a0 a1 a2 (a3 + (1 : Int32)) S9
set_option maxRecDepth 100000 in
set_option maxHeartbeats 4000000 in
theorem tm_Re_either_L29 {X : zXt} {d : Nat} {d' : Nat} (hd : 5 ≤ d ∧ d' + 1 ≤ d) {o0 : Nat → Int32 → zS → Option (Int32 × zS)} (ho0 : ∀ {b0 : Nat} {b1 : Int32} {S : zS} {r : Int32} {S1 : zS}, o0 b0 b1 S = some (r, S1) → zM X zy_Re_either prog_5_method_4_code 4 (Option.some Jvm.ClassFile.FieldType.boolean) d' [.ref b0, .int b1] S (some (.int r)) S1) {o1 : Nat → Int32 → zS → Option (Int32 × zS)} (ho1 : ∀ {b0 : Nat} {b1 : Int32} {S : zS} {r : Int32} {S1 : zS}, o1 b0 b1 S = some (r, S1) → zM X zy_Re_factor prog_5_method_5_code 2 (Option.some Jvm.ClassFile.FieldType.boolean) d' [.ref b0, .int b1] S (some (.int r)) S1) {v : Int32} {S' : zS}  {K10 : Nat → Int32 → Int32 → Int32 → zS → Option (Int32 × zS)} (hK10 : ∀ (a0 : Nat) (a1 : Int32) (a2 : Int32) (a3 : Int32) (S : zS), K10 a0 a1 a2 a3 S = some (v, S') → zG X zm_Re_either d 10 [some (.ref a0), some (.int a1), some (.int a2), some (.int a3)] [] S (some (.int v)) S') {a0 : Nat} {a1 : Int32} {a2 : Int32} {a3 : Int32} {S : zS} (h : fn_Re_either_L29 o0 o1 a0 a1 a2 a3 S K10 = some (v, S')) : zG X zm_Re_either d 29 [some (.ref a0), some (.int a1), some (.int a2), some (.int a3)] [] S (some (.int v)) S' := by
  have hd1 := hd.1
  have hd2 := hd.2
  unfold fn_Re_either_L29 at h
  refine zg_aload_n (pc' := 30) zd_Re_either_29 rfl rfl ?_
  refine zg_iload_n (pc' := 31) zd_Re_either_30 rfl rfl ?_
  obtain ⟨g1, h⟩ := gd_some h
  obtain ⟨r4, S2, e3, h⟩ := bq_some h
  refine zg_callV (ci := 3) (As := [.int a1]) (rest := []) (pc' := 34) zl_Re_72 zq525 zqp6 ⟨_, rfl, rfl⟩ zd_Re_either_31 rfl rfl (Nat.le_of_ble_eq_true rfl) (by omega) (gT_ok g1) (ho1 e3) rfl ?_
  refine zg_st (st' := [.int r4]) rfl ?_
  rcases br_some h with ⟨c5, h⟩ | ⟨c5, h⟩
  · refine zg_if_ne (tgt := 39) (pc' := 37) zd_Re_either_34 (by decide) rfl (fun q => absurd c5 q) (fun _ => ?_)
    refine zg_iconst (x := (0 : Int32)) (pc' := 38) zd_Re_either_37 (by decide) rfl ?_
    obtain ⟨rfl, rfl⟩ := rt_q h
    exact zg_iret zd_Re_either_38 (zrt_z (by decide))
  · refine zg_if_ne (tgt := 39) (pc' := 37) zd_Re_either_34 (by decide) rfl (fun _ => ?_) (fun q => absurd q c5)
    refine zg_iload_n (pc' := 40) zd_Re_either_39 rfl rfl ?_
    rcases br_some h with ⟨c6, h⟩ | ⟨c6, h⟩
    · refine zg_if_le (tgt := 53) (pc' := 43) zd_Re_either_40 (by decide) rfl (fun _ => ?_) (fun q => absurd c6 q)
      refine zg_iinc (y := (a3 + (1 : Int32))) (L' := [some (.ref a0), some (.int a1), some (.int a2), some (.int (a3 + (1 : Int32)))]) (pc' := 56) zd_Re_either_53 rfl rfl (by decide) rfl rfl ?_
      refine zg_goto (tgt := 10) zd_Re_either_56 (by decide) ?_
      exact hK10 _ _ _ _ _ h
    · refine zg_if_le (tgt := 53) (pc' := 43) zd_Re_either_40 (by decide) rfl (fun q => absurd q c6) (fun _ => ?_)
      refine zg_aload_n (pc' := 44) zd_Re_either_43 rfl rfl ?_
      obtain ⟨g7, h⟩ := gd_some h
      refine zg_getR (pc' := 47) zf_Re_30 rfl zd_Re_either_44 (gT_ok g7) rfl ?_
      refine zg_bipush (x := (38 : Int32)) (pc' := 49) zd_Re_either_47 (by decide) rfl ?_
      refine zg_iconst (x := (0 : Int32)) (pc' := 50) zd_Re_either_49 (by decide) rfl ?_
      obtain ⟨g8, h⟩ := gd_some h
      obtain ⟨S9, e10, h⟩ := bv_some h
      refine zg_callV (ci := 2) (As := [.int (38 : Int32), .int (0 : Int32)]) (rest := []) (pc' := 53) zl_Re_68 zq528 zq529 ⟨_, rfl, rfl⟩ zd_Re_either_50 rfl rfl (Nat.le_of_ble_eq_true rfl) (by omega) (gT_ok g8) (tm_Or_put (d := 2) (Nat.le_refl _) e10) rfl ?_
      refine zg_st (st' := []) rfl ?_
      refine zg_iinc (y := (a3 + (1 : Int32))) (L' := [some (.ref a0), some (.int a1), some (.int a2), some (.int (a3 + (1 : Int32)))]) (pc' := 56) zd_Re_either_53 rfl rfl (by decide) rfl rfl ?_
      refine zg_goto (tgt := 10) zd_Re_either_56 (by decide) ?_
      exact hK10 _ _ _ _ _ h
set_option maxRecDepth 100000 in
def fn_Re_either_L59 (o0 : Nat → Int32 → zS → Option (Int32 × zS)) (o1 : Nat → Int32 → zS → Option (Int32 × zS)) (a0 : Nat) (a1 : Int32) (a2 : Int32) (S : zS) (K2 : Nat → Int32 → Int32 → zS → Option (Int32 × zS)) : Option (Int32 × zS) :=
  br (decide (a2 ≤ 0)) (gd (gT S a0 103) <|
  bq (fn_Re_eat a0 (124 : Int32) S) fun r5 S3 =>
  br (decide (r5 = 0)) (some ((1 : Int32), S3)) <|
  K2 a0 a1 (a2 + (1 : Int32)) S3) <|
  gd (gT S a0 103) <|
  gd (gT S (zR S a0 4) 102) <|
  bv (fn_Or_put (zR S a0 4) (124 : Int32) (0 : Int32) S) fun S9 =>
  gd (gT S9 a0 103) <|
  bq (fn_Re_eat a0 (124 : Int32) S9) fun r14 S12 =>
  br (decide (r14 = 0)) (some ((1 : Int32), S12)) <|
  K2 a0 a1 (a2 + (1 : Int32)) S12
set_option maxRecDepth 100000 in
set_option maxHeartbeats 4000000 in
theorem tm_Re_either_L59 {X : zXt} {d : Nat} {d' : Nat} (hd : 5 ≤ d ∧ d' + 1 ≤ d) {o0 : Nat → Int32 → zS → Option (Int32 × zS)} (ho0 : ∀ {b0 : Nat} {b1 : Int32} {S : zS} {r : Int32} {S1 : zS}, o0 b0 b1 S = some (r, S1) → zM X zy_Re_either prog_5_method_4_code 4 (Option.some Jvm.ClassFile.FieldType.boolean) d' [.ref b0, .int b1] S (some (.int r)) S1) {o1 : Nat → Int32 → zS → Option (Int32 × zS)} (ho1 : ∀ {b0 : Nat} {b1 : Int32} {S : zS} {r : Int32} {S1 : zS}, o1 b0 b1 S = some (r, S1) → zM X zy_Re_factor prog_5_method_5_code 2 (Option.some Jvm.ClassFile.FieldType.boolean) d' [.ref b0, .int b1] S (some (.int r)) S1) {v : Int32} {S' : zS}  {K2 : Nat → Int32 → Int32 → zS → Option (Int32 × zS)} (hK2 : ∀ (a0 : Nat) (a1 : Int32) (a2 : Int32) (S : zS), K2 a0 a1 a2 S = some (v, S') → zG X zm_Re_either d 2 [some (.ref a0), some (.int a1), some (.int a2), none] [] S (some (.int v)) S') {a0 : Nat} {a1 : Int32} {a2 : Int32} {S : zS} (h : fn_Re_either_L59 o0 o1 a0 a1 a2 S K2 = some (v, S')) : zG X zm_Re_either d 59 [some (.ref a0), some (.int a1), some (.int a2), none] [] S (some (.int v)) S' := by
  have hd1 := hd.1
  have hd2 := hd.2
  unfold fn_Re_either_L59 at h
  refine zg_iload_n (pc' := 60) zd_Re_either_59 rfl rfl ?_
  rcases br_some h with ⟨c1, h⟩ | ⟨c1, h⟩
  · refine zg_if_le (tgt := 73) (pc' := 63) zd_Re_either_60 (by decide) rfl (fun _ => ?_) (fun q => absurd c1 q)
    refine zg_aload_n (pc' := 74) zd_Re_either_73 rfl rfl ?_
    refine zg_bipush (x := (124 : Int32)) (pc' := 76) zd_Re_either_74 (by decide) rfl ?_
    obtain ⟨g2, h⟩ := gd_some h
    obtain ⟨r5, S3, e4, h⟩ := bq_some h
    refine zg_callV (ci := 3) (As := [.int (124 : Int32)]) (rest := []) (pc' := 79) zl_Re_41 zq508 zqp3 ⟨_, rfl, rfl⟩ zd_Re_either_76 rfl rfl (Nat.le_of_ble_eq_true rfl) (by omega) (gT_ok g2) (tm_Re_eat (d := 3) (Nat.le_refl _) e4) rfl ?_
    refine zg_st (st' := [.int r5]) rfl ?_
    rcases br_some h with ⟨c6, h⟩ | ⟨c6, h⟩
    · refine zg_if_ne (tgt := 84) (pc' := 82) zd_Re_either_79 (by decide) rfl (fun q => absurd c6 q) (fun _ => ?_)
      refine zg_iconst (x := (1 : Int32)) (pc' := 83) zd_Re_either_82 (by decide) rfl ?_
      obtain ⟨rfl, rfl⟩ := rt_q h
      exact zg_iret zd_Re_either_83 (zrt_z (by decide))
    · refine zg_if_ne (tgt := 84) (pc' := 82) zd_Re_either_79 (by decide) rfl (fun _ => ?_) (fun q => absurd q c6)
      refine zg_iinc (y := (a2 + (1 : Int32))) (L' := [some (.ref a0), some (.int a1), some (.int (a2 + (1 : Int32))), none]) (pc' := 87) zd_Re_either_84 rfl rfl (by decide) rfl rfl ?_
      refine zg_goto (tgt := 2) zd_Re_either_87 (by decide) ?_
      exact hK2 _ _ _ _ h
  · refine zg_if_le (tgt := 73) (pc' := 63) zd_Re_either_60 (by decide) rfl (fun q => absurd q c1) (fun _ => ?_)
    refine zg_aload_n (pc' := 64) zd_Re_either_63 rfl rfl ?_
    obtain ⟨g7, h⟩ := gd_some h
    refine zg_getR (pc' := 67) zf_Re_30 rfl zd_Re_either_64 (gT_ok g7) rfl ?_
    refine zg_bipush (x := (124 : Int32)) (pc' := 69) zd_Re_either_67 (by decide) rfl ?_
    refine zg_iconst (x := (0 : Int32)) (pc' := 70) zd_Re_either_69 (by decide) rfl ?_
    obtain ⟨g8, h⟩ := gd_some h
    obtain ⟨S9, e10, h⟩ := bv_some h
    refine zg_callV (ci := 2) (As := [.int (124 : Int32), .int (0 : Int32)]) (rest := []) (pc' := 73) zl_Re_68 zq528 zq529 ⟨_, rfl, rfl⟩ zd_Re_either_70 rfl rfl (Nat.le_of_ble_eq_true rfl) (by omega) (gT_ok g8) (tm_Or_put (d := 2) (Nat.le_refl _) e10) rfl ?_
    refine zg_st (st' := []) rfl ?_
    refine zg_aload_n (pc' := 74) zd_Re_either_73 rfl rfl ?_
    refine zg_bipush (x := (124 : Int32)) (pc' := 76) zd_Re_either_74 (by decide) rfl ?_
    obtain ⟨g11, h⟩ := gd_some h
    obtain ⟨r14, S12, e13, h⟩ := bq_some h
    refine zg_callV (ci := 3) (As := [.int (124 : Int32)]) (rest := []) (pc' := 79) zl_Re_41 zq508 zqp3 ⟨_, rfl, rfl⟩ zd_Re_either_76 rfl rfl (Nat.le_of_ble_eq_true rfl) (by omega) (gT_ok g11) (tm_Re_eat (d := 3) (Nat.le_refl _) e13) rfl ?_
    refine zg_st (st' := [.int r14]) rfl ?_
    rcases br_some h with ⟨c15, h⟩ | ⟨c15, h⟩
    · refine zg_if_ne (tgt := 84) (pc' := 82) zd_Re_either_79 (by decide) rfl (fun q => absurd c15 q) (fun _ => ?_)
      refine zg_iconst (x := (1 : Int32)) (pc' := 83) zd_Re_either_82 (by decide) rfl ?_
      obtain ⟨rfl, rfl⟩ := rt_q h
      exact zg_iret zd_Re_either_83 (zrt_z (by decide))
    · refine zg_if_ne (tgt := 84) (pc' := 82) zd_Re_either_79 (by decide) rfl (fun _ => ?_) (fun q => absurd q c15)
      refine zg_iinc (y := (a2 + (1 : Int32))) (L' := [some (.ref a0), some (.int a1), some (.int (a2 + (1 : Int32))), none]) (pc' := 87) zd_Re_either_84 rfl rfl (by decide) rfl rfl ?_
      refine zg_goto (tgt := 2) zd_Re_either_87 (by decide) ?_
      exact hK2 _ _ _ _ h
set_option maxRecDepth 100000 in
def fn_Re_either_L10 (o0 : Nat → Int32 → zS → Option (Int32 × zS)) (o1 : Nat → Int32 → zS → Option (Int32 × zS)) (a0 : Nat) (a1 : Int32) (a2 : Int32) (a3 : Int32) (S : zS) (K2 : Nat → Int32 → Int32 → zS → Option (Int32 × zS)) (K10 : Nat → Int32 → Int32 → Int32 → zS → Option (Int32 × zS)) : Option (Int32 × zS) :=
  br (decide (a3 = 0)) (fn_Re_either_L29 o0 o1 a0 a1 a2 a3 S K10) <|
  br (decide ((100 : Int32) ≤ a3)) (fn_Re_either_L59 o0 o1 a0 a1 a2 S K2) <|
  gd (gT S a0 103) <|
  bq (fn_Re_eat a0 (38 : Int32) S) fun r6 S4 =>
  br (decide (r6 = 0)) (fn_Re_either_L59 o0 o1 a0 a1 a2 S4 K2) <|
  fn_Re_either_L29 o0 o1 a0 a1 a2 a3 S4 K10
set_option maxRecDepth 100000 in
set_option maxHeartbeats 4000000 in
theorem tm_Re_either_L10 {X : zXt} {d : Nat} {d' : Nat} (hd : 5 ≤ d ∧ d' + 1 ≤ d) {o0 : Nat → Int32 → zS → Option (Int32 × zS)} (ho0 : ∀ {b0 : Nat} {b1 : Int32} {S : zS} {r : Int32} {S1 : zS}, o0 b0 b1 S = some (r, S1) → zM X zy_Re_either prog_5_method_4_code 4 (Option.some Jvm.ClassFile.FieldType.boolean) d' [.ref b0, .int b1] S (some (.int r)) S1) {o1 : Nat → Int32 → zS → Option (Int32 × zS)} (ho1 : ∀ {b0 : Nat} {b1 : Int32} {S : zS} {r : Int32} {S1 : zS}, o1 b0 b1 S = some (r, S1) → zM X zy_Re_factor prog_5_method_5_code 2 (Option.some Jvm.ClassFile.FieldType.boolean) d' [.ref b0, .int b1] S (some (.int r)) S1) {v : Int32} {S' : zS}  {K2 : Nat → Int32 → Int32 → zS → Option (Int32 × zS)} (hK2 : ∀ (a0 : Nat) (a1 : Int32) (a2 : Int32) (S : zS), K2 a0 a1 a2 S = some (v, S') → zG X zm_Re_either d 2 [some (.ref a0), some (.int a1), some (.int a2), none] [] S (some (.int v)) S') {K10 : Nat → Int32 → Int32 → Int32 → zS → Option (Int32 × zS)} (hK10 : ∀ (a0 : Nat) (a1 : Int32) (a2 : Int32) (a3 : Int32) (S : zS), K10 a0 a1 a2 a3 S = some (v, S') → zG X zm_Re_either d 10 [some (.ref a0), some (.int a1), some (.int a2), some (.int a3)] [] S (some (.int v)) S') {a0 : Nat} {a1 : Int32} {a2 : Int32} {a3 : Int32} {S : zS} (h : fn_Re_either_L10 o0 o1 a0 a1 a2 a3 S K2 K10 = some (v, S')) : zG X zm_Re_either d 10 [some (.ref a0), some (.int a1), some (.int a2), some (.int a3)] [] S (some (.int v)) S' := by
  have hd1 := hd.1
  have hd2 := hd.2
  unfold fn_Re_either_L10 at h
  refine zg_iload_n (pc' := 11) zd_Re_either_10 rfl rfl ?_
  rcases br_some h with ⟨c1, h⟩ | ⟨c1, h⟩
  · refine zg_if_eq (tgt := 29) (pc' := 14) zd_Re_either_11 (by decide) rfl (fun _ => ?_) (fun q => absurd c1 q)
    exact tm_Re_either_L29 hd ho0 ho1 hK10 h
  · refine zg_if_eq (tgt := 29) (pc' := 14) zd_Re_either_11 (by decide) rfl (fun q => absurd q c1) (fun _ => ?_)
    refine zg_iload_n (pc' := 15) zd_Re_either_14 rfl rfl ?_
    refine zg_bipush (x := (100 : Int32)) (pc' := 17) zd_Re_either_15 (by decide) rfl ?_
    rcases br_some h with ⟨c2, h⟩ | ⟨c2, h⟩
    · refine zg_icmp_ge (tgt := 59) (pc' := 20) zd_Re_either_17 (by decide) rfl (fun _ => ?_) (fun q => absurd c2 q)
      refine zg_mask (L' := [some (.ref a0), some (.int a1), some (.int a2), none]) (zmk_ok _ _ ⟨rfl, ⟨rfl, ⟨rfl, trivial⟩⟩⟩) ?_
      exact tm_Re_either_L59 hd ho0 ho1 hK2 h
    · refine zg_icmp_ge (tgt := 59) (pc' := 20) zd_Re_either_17 (by decide) rfl (fun q => absurd q c2) (fun _ => ?_)
      refine zg_aload_n (pc' := 21) zd_Re_either_20 rfl rfl ?_
      refine zg_bipush (x := (38 : Int32)) (pc' := 23) zd_Re_either_21 (by decide) rfl ?_
      obtain ⟨g3, h⟩ := gd_some h
      obtain ⟨r6, S4, e5, h⟩ := bq_some h
      refine zg_callV (ci := 3) (As := [.int (38 : Int32)]) (rest := []) (pc' := 26) zl_Re_41 zq508 zqp3 ⟨_, rfl, rfl⟩ zd_Re_either_23 rfl rfl (Nat.le_of_ble_eq_true rfl) (by omega) (gT_ok g3) (tm_Re_eat (d := 3) (Nat.le_refl _) e5) rfl ?_
      refine zg_st (st' := [.int r6]) rfl ?_
      rcases br_some h with ⟨c7, h⟩ | ⟨c7, h⟩
      · refine zg_if_eq (tgt := 59) (pc' := 29) zd_Re_either_26 (by decide) rfl (fun _ => ?_) (fun q => absurd c7 q)
        refine zg_mask (L' := [some (.ref a0), some (.int a1), some (.int a2), none]) (zmk_ok _ _ ⟨rfl, ⟨rfl, ⟨rfl, trivial⟩⟩⟩) ?_
        exact tm_Re_either_L59 hd ho0 ho1 hK2 h
      · refine zg_if_eq (tgt := 59) (pc' := 29) zd_Re_either_26 (by decide) rfl (fun q => absurd q c7) (fun _ => ?_)
        exact tm_Re_either_L29 hd ho0 ho1 hK10 h
set_option maxRecDepth 100000 in
def fn_Re_either_L2 (o0 : Nat → Int32 → zS → Option (Int32 × zS)) (o1 : Nat → Int32 → zS → Option (Int32 × zS)) (a0 : Nat) (a1 : Int32) (a2 : Int32) (S : zS) (K2 : Nat → Int32 → Int32 → zS → Option (Int32 × zS)) : Option (Int32 × zS) :=
  br (decide ((100 : Int32) ≤ a2)) (some ((0 : Int32), S)) <|
  lp (σ := Nat × Int32 × Int32 × Int32 × zS) (fun k s => fn_Re_either_L10 o0 o1 s.1 s.2.1 s.2.2.1 s.2.2.2.1 s.2.2.2.2 K2 (fun (a0 : Nat) (a1 : Int32) (a2 : Int32) (a3 : Int32) (S : zS) => k (a0, a1, a2, a3, S))) FU (a0, a1, a2, (0 : Int32), S)
set_option maxRecDepth 100000 in
set_option maxHeartbeats 4000000 in
theorem tm_Re_either_L2 {X : zXt} {d : Nat} {d' : Nat} (hd : 5 ≤ d ∧ d' + 1 ≤ d) {o0 : Nat → Int32 → zS → Option (Int32 × zS)} (ho0 : ∀ {b0 : Nat} {b1 : Int32} {S : zS} {r : Int32} {S1 : zS}, o0 b0 b1 S = some (r, S1) → zM X zy_Re_either prog_5_method_4_code 4 (Option.some Jvm.ClassFile.FieldType.boolean) d' [.ref b0, .int b1] S (some (.int r)) S1) {o1 : Nat → Int32 → zS → Option (Int32 × zS)} (ho1 : ∀ {b0 : Nat} {b1 : Int32} {S : zS} {r : Int32} {S1 : zS}, o1 b0 b1 S = some (r, S1) → zM X zy_Re_factor prog_5_method_5_code 2 (Option.some Jvm.ClassFile.FieldType.boolean) d' [.ref b0, .int b1] S (some (.int r)) S1) {v : Int32} {S' : zS}  {K2 : Nat → Int32 → Int32 → zS → Option (Int32 × zS)} (hK2 : ∀ (a0 : Nat) (a1 : Int32) (a2 : Int32) (S : zS), K2 a0 a1 a2 S = some (v, S') → zG X zm_Re_either d 2 [some (.ref a0), some (.int a1), some (.int a2), none] [] S (some (.int v)) S') {a0 : Nat} {a1 : Int32} {a2 : Int32} {S : zS} (h : fn_Re_either_L2 o0 o1 a0 a1 a2 S K2 = some (v, S')) : zG X zm_Re_either d 2 [some (.ref a0), some (.int a1), some (.int a2), none] [] S (some (.int v)) S' := by
  have hd1 := hd.1
  have hd2 := hd.2
  unfold fn_Re_either_L2 at h
  refine zg_iload_n (pc' := 3) zd_Re_either_2 rfl rfl ?_
  refine zg_bipush (x := (100 : Int32)) (pc' := 5) zd_Re_either_3 (by decide) rfl ?_
  rcases br_some h with ⟨c1, h⟩ | ⟨c1, h⟩
  · refine zg_icmp_ge (tgt := 90) (pc' := 8) zd_Re_either_5 (by decide) rfl (fun _ => ?_) (fun q => absurd c1 q)
    refine zg_iconst (x := (0 : Int32)) (pc' := 91) zd_Re_either_90 (by decide) rfl ?_
    obtain ⟨rfl, rfl⟩ := rt_q h
    exact zg_iret zd_Re_either_91 (zrt_z (by decide))
  · refine zg_icmp_ge (tgt := 90) (pc' := 8) zd_Re_either_5 (by decide) rfl (fun q => absurd q c1) (fun _ => ?_)
    refine zg_iconst (x := (0 : Int32)) (pc' := 9) zd_Re_either_8 (by decide) rfl ?_
    refine zg_istore_n (L' := [some (.ref a0), some (.int a1), some (.int a2), some (.int (0 : Int32))]) (pc' := 10) zd_Re_either_9 (by decide) rfl rfl ?_
    exact lp_indh h (P := fun s => zG X zm_Re_either d 10 [some (.ref (s.1)), some (.int (s.2.1)), some (.int (s.2.2.1)), some (.int (s.2.2.2.1))] [] (s.2.2.2.2) (some (.int v)) S') (fun k hk s h => tm_Re_either_L10 hd ho0 ho1 hK2 (fun a0 a1 a2 a3 S h => hk (a0, a1, a2, a3, S) h) h)
set_option maxRecDepth 100000 in
def fn_Re_either_o (o0 : Nat → Int32 → zS → Option (Int32 × zS)) (o1 : Nat → Int32 → zS → Option (Int32 × zS)) (a0 : Nat) (a1 : Int32) (S : zS) : Option (Int32 × zS) :=
  lp (σ := Nat × Int32 × Int32 × zS) (fun k s => fn_Re_either_L2 o0 o1 s.1 s.2.1 s.2.2.1 s.2.2.2 (fun (a0 : Nat) (a1 : Int32) (a2 : Int32) (S : zS) => k (a0, a1, a2, S))) FU (a0, a1, (0 : Int32), S)
set_option maxRecDepth 100000 in
set_option maxHeartbeats 4000000 in
theorem tm_Re_either_o {X : zXt} {d : Nat} {d' : Nat} (hd : 5 ≤ d ∧ d' + 1 ≤ d) {o0 : Nat → Int32 → zS → Option (Int32 × zS)} (ho0 : ∀ {b0 : Nat} {b1 : Int32} {S : zS} {r : Int32} {S1 : zS}, o0 b0 b1 S = some (r, S1) → zM X zy_Re_either prog_5_method_4_code 4 (Option.some Jvm.ClassFile.FieldType.boolean) d' [.ref b0, .int b1] S (some (.int r)) S1) {o1 : Nat → Int32 → zS → Option (Int32 × zS)} (ho1 : ∀ {b0 : Nat} {b1 : Int32} {S : zS} {r : Int32} {S1 : zS}, o1 b0 b1 S = some (r, S1) → zM X zy_Re_factor prog_5_method_5_code 2 (Option.some Jvm.ClassFile.FieldType.boolean) d' [.ref b0, .int b1] S (some (.int r)) S1) {v : Int32} {a0 : Nat} {a1 : Int32} {S : zS} {S' : zS} (h : fn_Re_either_o o0 o1 a0 a1 S = some (v, S')) : zM X zy_Re_either prog_5_method_4_code 4 (Option.some Jvm.ClassFile.FieldType.boolean) d [.ref a0, .int a1] S (some (.int v)) S' := by
  refine zM_of (ini := false) (L := [some (.ref a0), some (.int a1), none, none]) (plainFor_of_name (by decide)) (fun h => by cases h) (Nat.le_of_ble_eq_true rfl) rfl ?_
  have hd1 := hd.1
  have hd2 := hd.2
  unfold fn_Re_either_o at h
  refine zg_iconst (x := (0 : Int32)) (pc' := 1) zd_Re_either_0 (by decide) rfl ?_
  refine zg_istore_n (L' := [some (.ref a0), some (.int a1), some (.int (0 : Int32)), none]) (pc' := 2) zd_Re_either_1 (by decide) rfl rfl ?_
  exact lp_indh h (P := fun s => zG X zm_Re_either d 2 [some (.ref (s.1)), some (.int (s.2.1)), some (.int (s.2.2.1)), none] [] (s.2.2.2) (some (.int v)) S') (fun k hk s h => tm_Re_either_L2 hd ho0 ho1 (fun a0 a1 a2 S h => hk (a0, a1, a2, S) h) h)
theorem zd_Re_factor_0 : decode prog_5_method_5_code 0 = .ok (.iload_n 1, 1) := by decide +kernel
theorem zd_Re_factor_1 : decode prog_5_method_5_code 1 = .ok (.iconst 4, 1) := by decide +kernel
theorem zd_Re_factor_2 : decode prog_5_method_5_code 2 = .ok (.if_icmp .ge 37, 3) := by decide +kernel
theorem zd_Re_factor_5 : decode prog_5_method_5_code 5 = .ok (.aload_n 0, 1) := by decide +kernel
theorem zd_Re_factor_6 : decode prog_5_method_5_code 6 = .ok (.bipush 40, 2) := by decide +kernel
theorem zd_Re_factor_8 : decode prog_5_method_5_code 8 = .ok (.invokevirtual 41, 3) := by decide +kernel
theorem zd_Re_factor_11 : decode prog_5_method_5_code 11 = .ok (.ifCond .eq 28, 3) := by decide +kernel
theorem zd_Re_factor_39 : decode prog_5_method_5_code 39 = .ok (.iload_n 1, 1) := by decide +kernel
theorem zd_Re_factor_40 : decode prog_5_method_5_code 40 = .ok (.iconst 4, 1) := by decide +kernel
theorem zd_Re_factor_41 : decode prog_5_method_5_code 41 = .ok (.if_icmp .ge 36, 3) := by decide +kernel
theorem zd_Re_factor_44 : decode prog_5_method_5_code 44 = .ok (.aload_n 0, 1) := by decide +kernel
theorem zd_Re_factor_45 : decode prog_5_method_5_code 45 = .ok (.bipush 33, 2) := by decide +kernel
theorem zd_Re_factor_47 : decode prog_5_method_5_code 47 = .ok (.invokevirtual 41, 3) := by decide +kernel
theorem zd_Re_factor_50 : decode prog_5_method_5_code 50 = .ok (.ifCond .eq 27, 3) := by decide +kernel
theorem zd_Re_factor_77 : decode prog_5_method_5_code 77 = .ok (.aload_n 0, 1) := by decide +kernel
theorem zd_Re_factor_78 : decode prog_5_method_5_code 78 = .ok (.invokevirtual 75, 3) := by decide +kernel
theorem zd_Re_factor_81 : decode prog_5_method_5_code 81 = .ok (.ireturn, 1) := by decide +kernel
theorem zd_Re_factor_53 : decode prog_5_method_5_code 53 = .ok (.aload_n 0, 1) := by decide +kernel
theorem zd_Re_factor_54 : decode prog_5_method_5_code 54 = .ok (.iload_n 1, 1) := by decide +kernel
theorem zd_Re_factor_55 : decode prog_5_method_5_code 55 = .ok (.iconst 1, 1) := by decide +kernel
theorem zd_Re_factor_56 : decode prog_5_method_5_code 56 = .ok (.iadd, 1) := by decide +kernel
theorem zd_Re_factor_57 : decode prog_5_method_5_code 57 = .ok (.invokevirtual 72, 3) := by decide +kernel
theorem zd_Re_factor_60 : decode prog_5_method_5_code 60 = .ok (.ifCond .ne 5, 3) := by decide +kernel
theorem zd_Re_factor_65 : decode prog_5_method_5_code 65 = .ok (.aload_n 0, 1) := by decide +kernel
theorem zd_Re_factor_66 : decode prog_5_method_5_code 66 = .ok (.getfield 30, 3) := by decide +kernel
theorem zd_Re_factor_69 : decode prog_5_method_5_code 69 = .ok (.bipush 33, 2) := by decide +kernel
theorem zd_Re_factor_71 : decode prog_5_method_5_code 71 = .ok (.iconst 0, 1) := by decide +kernel
theorem zd_Re_factor_72 : decode prog_5_method_5_code 72 = .ok (.invokevirtual 68, 3) := by decide +kernel
theorem zd_Re_factor_75 : decode prog_5_method_5_code 75 = .ok (.iconst 1, 1) := by decide +kernel
theorem zd_Re_factor_76 : decode prog_5_method_5_code 76 = .ok (.ireturn, 1) := by decide +kernel
theorem zd_Re_factor_63 : decode prog_5_method_5_code 63 = .ok (.iconst 0, 1) := by decide +kernel
theorem zd_Re_factor_64 : decode prog_5_method_5_code 64 = .ok (.ireturn, 1) := by decide +kernel
theorem zd_Re_factor_14 : decode prog_5_method_5_code 14 = .ok (.aload_n 0, 1) := by decide +kernel
theorem zd_Re_factor_15 : decode prog_5_method_5_code 15 = .ok (.iload_n 1, 1) := by decide +kernel
theorem zd_Re_factor_16 : decode prog_5_method_5_code 16 = .ok (.iconst 1, 1) := by decide +kernel
theorem zd_Re_factor_17 : decode prog_5_method_5_code 17 = .ok (.iadd, 1) := by decide +kernel
theorem zd_Re_factor_18 : decode prog_5_method_5_code 18 = .ok (.invokevirtual 65, 3) := by decide +kernel
theorem zd_Re_factor_21 : decode prog_5_method_5_code 21 = .ok (.ifCond .eq 16, 3) := by decide +kernel
theorem zd_Re_factor_24 : decode prog_5_method_5_code 24 = .ok (.aload_n 0, 1) := by decide +kernel
theorem zd_Re_factor_25 : decode prog_5_method_5_code 25 = .ok (.bipush 41, 2) := by decide +kernel
theorem zd_Re_factor_27 : decode prog_5_method_5_code 27 = .ok (.invokevirtual 41, 3) := by decide +kernel
theorem zd_Re_factor_30 : decode prog_5_method_5_code 30 = .ok (.ifCond .eq 7, 3) := by decide +kernel
theorem zd_Re_factor_37 : decode prog_5_method_5_code 37 = .ok (.iconst 0, 1) := by decide +kernel
theorem zd_Re_factor_33 : decode prog_5_method_5_code 33 = .ok (.iconst 1, 1) := by decide +kernel
theorem zd_Re_factor_34 : decode prog_5_method_5_code 34 = .ok (.goto 4, 3) := by decide +kernel
theorem zd_Re_factor_38 : decode prog_5_method_5_code 38 = .ok (.ireturn, 1) := by decide +kernel
abbrev zm_Re_factor : zQ := ("LoofahSaints$Reader", prog_5_method_5_code, 2, (Option.some Jvm.ClassFile.FieldType.boolean), false)
set_option maxRecDepth 100000 in
def fn_Re_factor_L39 (o0 : Nat → Int32 → zS → Option (Int32 × zS)) (o1 : Nat → Int32 → zS → Option (Int32 × zS)) (a0 : Nat) (a1 : Int32) (S : zS) : Option (Int32 × zS) :=
  br (decide ((4 : Int32) ≤ a1)) (gd (gT S a0 103) <|
  bq (fn_Re_test a0 S) fun r5 S3 =>
  gd (gZo r5) <|
  some (r5, S3)) <|
  gd (gT S a0 103) <|
  bq (fn_Re_eat a0 (33 : Int32) S) fun r10 S8 =>
  br (decide (r10 = 0)) (gd (gT S8 a0 103) <|
  bq (fn_Re_test a0 S8) fun r15 S13 =>
  gd (gZo r15) <|
  some (r15, S13)) <|
  gd (gT S8 a0 103) <|
  bq (o1 a0 (a1 + (1 : Int32)) S8) fun r20 S18 =>
  br (decide (r20 = 0)) (some ((0 : Int32), S18)) <|
  gd (gT S18 a0 103) <|
  gd (gT S18 (zR S18 a0 4) 102) <|
  bv (fn_Or_put (zR S18 a0 4) (33 : Int32) (0 : Int32) S18) fun S24 =>
  some ((1 : Int32), S24)
set_option maxRecDepth 100000 in
set_option maxHeartbeats 4000000 in
theorem tm_Re_factor_L39 {X : zXt} {d : Nat} {d' : Nat} (hd : 5 ≤ d ∧ d' + 1 ≤ d) {o0 : Nat → Int32 → zS → Option (Int32 × zS)} (ho0 : ∀ {b0 : Nat} {b1 : Int32} {S : zS} {r : Int32} {S1 : zS}, o0 b0 b1 S = some (r, S1) → zM X zy_Re_either prog_5_method_4_code 4 (Option.some Jvm.ClassFile.FieldType.boolean) d' [.ref b0, .int b1] S (some (.int r)) S1) {o1 : Nat → Int32 → zS → Option (Int32 × zS)} (ho1 : ∀ {b0 : Nat} {b1 : Int32} {S : zS} {r : Int32} {S1 : zS}, o1 b0 b1 S = some (r, S1) → zM X zy_Re_factor prog_5_method_5_code 2 (Option.some Jvm.ClassFile.FieldType.boolean) d' [.ref b0, .int b1] S (some (.int r)) S1) {v : Int32} {S' : zS}  {a0 : Nat} {a1 : Int32} {S : zS} (h : fn_Re_factor_L39 o0 o1 a0 a1 S = some (v, S')) : zG X zm_Re_factor d 39 [some (.ref a0), some (.int a1)] [] S (some (.int v)) S' := by
  have hd1 := hd.1
  have hd2 := hd.2
  unfold fn_Re_factor_L39 at h
  refine zg_iload_n (pc' := 40) zd_Re_factor_39 rfl rfl ?_
  refine zg_iconst (x := (4 : Int32)) (pc' := 41) zd_Re_factor_40 (by decide) rfl ?_
  rcases br_some h with ⟨c1, h⟩ | ⟨c1, h⟩
  · refine zg_icmp_ge (tgt := 77) (pc' := 44) zd_Re_factor_41 (by decide) rfl (fun _ => ?_) (fun q => absurd c1 q)
    refine zg_aload_n (pc' := 78) zd_Re_factor_77 rfl rfl ?_
    obtain ⟨g2, h⟩ := gd_some h
    obtain ⟨r5, S3, e4, h⟩ := bq_some h
    refine zg_callV (ci := 3) (As := []) (rest := []) (pc' := 81) zl_Re_75 zq533 zqp7 ⟨_, rfl, rfl⟩ zd_Re_factor_78 rfl rfl (Nat.le_of_ble_eq_true rfl) (by omega) (gT_ok g2) (tm_Re_test (d := 4) (Nat.le_refl _) e4) rfl ?_
    refine zg_st (st' := [.int r5]) rfl ?_
    obtain ⟨g6, h⟩ := gd_some h
    obtain ⟨rfl, rfl⟩ := rt_q h
    exact zg_iret zd_Re_factor_81 (zrt_z (gZo_ok g6))
  · refine zg_icmp_ge (tgt := 77) (pc' := 44) zd_Re_factor_41 (by decide) rfl (fun q => absurd q c1) (fun _ => ?_)
    refine zg_aload_n (pc' := 45) zd_Re_factor_44 rfl rfl ?_
    refine zg_bipush (x := (33 : Int32)) (pc' := 47) zd_Re_factor_45 (by decide) rfl ?_
    obtain ⟨g7, h⟩ := gd_some h
    obtain ⟨r10, S8, e9, h⟩ := bq_some h
    refine zg_callV (ci := 3) (As := [.int (33 : Int32)]) (rest := []) (pc' := 50) zl_Re_41 zq508 zqp3 ⟨_, rfl, rfl⟩ zd_Re_factor_47 rfl rfl (Nat.le_of_ble_eq_true rfl) (by omega) (gT_ok g7) (tm_Re_eat (d := 3) (Nat.le_refl _) e9) rfl ?_
    refine zg_st (st' := [.int r10]) rfl ?_
    rcases br_some h with ⟨c11, h⟩ | ⟨c11, h⟩
    · refine zg_if_eq (tgt := 77) (pc' := 53) zd_Re_factor_50 (by decide) rfl (fun _ => ?_) (fun q => absurd c11 q)
      refine zg_aload_n (pc' := 78) zd_Re_factor_77 rfl rfl ?_
      obtain ⟨g12, h⟩ := gd_some h
      obtain ⟨r15, S13, e14, h⟩ := bq_some h
      refine zg_callV (ci := 3) (As := []) (rest := []) (pc' := 81) zl_Re_75 zq533 zqp7 ⟨_, rfl, rfl⟩ zd_Re_factor_78 rfl rfl (Nat.le_of_ble_eq_true rfl) (by omega) (gT_ok g12) (tm_Re_test (d := 4) (Nat.le_refl _) e14) rfl ?_
      refine zg_st (st' := [.int r15]) rfl ?_
      obtain ⟨g16, h⟩ := gd_some h
      obtain ⟨rfl, rfl⟩ := rt_q h
      exact zg_iret zd_Re_factor_81 (zrt_z (gZo_ok g16))
    · refine zg_if_eq (tgt := 77) (pc' := 53) zd_Re_factor_50 (by decide) rfl (fun q => absurd q c11) (fun _ => ?_)
      refine zg_aload_n (pc' := 54) zd_Re_factor_53 rfl rfl ?_
      refine zg_iload_n (pc' := 55) zd_Re_factor_54 rfl rfl ?_
      refine zg_iconst (x := (1 : Int32)) (pc' := 56) zd_Re_factor_55 (by decide) rfl ?_
      refine zg_iadd (pc' := 57) zd_Re_factor_56 rfl ?_
      obtain ⟨g17, h⟩ := gd_some h
      obtain ⟨r20, S18, e19, h⟩ := bq_some h
      refine zg_callV (ci := 3) (As := [.int (a1 + (1 : Int32))]) (rest := []) (pc' := 60) zl_Re_72 zq525 zqp6 ⟨_, rfl, rfl⟩ zd_Re_factor_57 rfl rfl (Nat.le_of_ble_eq_true rfl) (by omega) (gT_ok g17) (ho1 e19) rfl ?_
      refine zg_st (st' := [.int r20]) rfl ?_
      rcases br_some h with ⟨c21, h⟩ | ⟨c21, h⟩
      · refine zg_if_ne (tgt := 65) (pc' := 63) zd_Re_factor_60 (by decide) rfl (fun q => absurd c21 q) (fun _ => ?_)
        refine zg_iconst (x := (0 : Int32)) (pc' := 64) zd_Re_factor_63 (by decide) rfl ?_
        obtain ⟨rfl, rfl⟩ := rt_q h
        exact zg_iret zd_Re_factor_64 (zrt_z (by decide))
      · refine zg_if_ne (tgt := 65) (pc' := 63) zd_Re_factor_60 (by decide) rfl (fun _ => ?_) (fun q => absurd q c21)
        refine zg_aload_n (pc' := 66) zd_Re_factor_65 rfl rfl ?_
        obtain ⟨g22, h⟩ := gd_some h
        refine zg_getR (pc' := 69) zf_Re_30 rfl zd_Re_factor_66 (gT_ok g22) rfl ?_
        refine zg_bipush (x := (33 : Int32)) (pc' := 71) zd_Re_factor_69 (by decide) rfl ?_
        refine zg_iconst (x := (0 : Int32)) (pc' := 72) zd_Re_factor_71 (by decide) rfl ?_
        obtain ⟨g23, h⟩ := gd_some h
        obtain ⟨S24, e25, h⟩ := bv_some h
        refine zg_callV (ci := 2) (As := [.int (33 : Int32), .int (0 : Int32)]) (rest := []) (pc' := 75) zl_Re_68 zq528 zq529 ⟨_, rfl, rfl⟩ zd_Re_factor_72 rfl rfl (Nat.le_of_ble_eq_true rfl) (by omega) (gT_ok g23) (tm_Or_put (d := 2) (Nat.le_refl _) e25) rfl ?_
        refine zg_st (st' := []) rfl ?_
        refine zg_iconst (x := (1 : Int32)) (pc' := 76) zd_Re_factor_75 (by decide) rfl ?_
        obtain ⟨rfl, rfl⟩ := rt_q h
        exact zg_iret zd_Re_factor_76 (zrt_z (by decide))
set_option maxRecDepth 100000 in
def fn_Re_factor_o (o0 : Nat → Int32 → zS → Option (Int32 × zS)) (o1 : Nat → Int32 → zS → Option (Int32 × zS)) (a0 : Nat) (a1 : Int32) (S : zS) : Option (Int32 × zS) :=
  br (decide ((4 : Int32) ≤ a1)) (fn_Re_factor_L39 o0 o1 a0 a1 S) <|
  gd (gT S a0 103) <|
  bq (fn_Re_eat a0 (40 : Int32) S) fun r5 S3 =>
  br (decide (r5 = 0)) (fn_Re_factor_L39 o0 o1 a0 a1 S3) <|
  gd (gT S3 a0 103) <|
  bq (o0 a0 (a1 + (1 : Int32)) S3) fun r10 S8 =>
  br (decide (r10 = 0)) (some ((0 : Int32), S8)) <|
  gd (gT S8 a0 103) <|
  bq (fn_Re_eat a0 (41 : Int32) S8) fun r15 S13 =>
  br (decide (r15 = 0)) (some ((0 : Int32), S13)) <|
  some ((1 : Int32), S13)
set_option maxRecDepth 100000 in
set_option maxHeartbeats 4000000 in
theorem tm_Re_factor_o {X : zXt} {d : Nat} {d' : Nat} (hd : 5 ≤ d ∧ d' + 1 ≤ d) {o0 : Nat → Int32 → zS → Option (Int32 × zS)} (ho0 : ∀ {b0 : Nat} {b1 : Int32} {S : zS} {r : Int32} {S1 : zS}, o0 b0 b1 S = some (r, S1) → zM X zy_Re_either prog_5_method_4_code 4 (Option.some Jvm.ClassFile.FieldType.boolean) d' [.ref b0, .int b1] S (some (.int r)) S1) {o1 : Nat → Int32 → zS → Option (Int32 × zS)} (ho1 : ∀ {b0 : Nat} {b1 : Int32} {S : zS} {r : Int32} {S1 : zS}, o1 b0 b1 S = some (r, S1) → zM X zy_Re_factor prog_5_method_5_code 2 (Option.some Jvm.ClassFile.FieldType.boolean) d' [.ref b0, .int b1] S (some (.int r)) S1) {v : Int32} {a0 : Nat} {a1 : Int32} {S : zS} {S' : zS} (h : fn_Re_factor_o o0 o1 a0 a1 S = some (v, S')) : zM X zy_Re_factor prog_5_method_5_code 2 (Option.some Jvm.ClassFile.FieldType.boolean) d [.ref a0, .int a1] S (some (.int v)) S' := by
  refine zM_of (ini := false) (L := [some (.ref a0), some (.int a1)]) (plainFor_of_name (by decide)) (fun h => by cases h) (Nat.le_of_ble_eq_true rfl) rfl ?_
  have hd1 := hd.1
  have hd2 := hd.2
  unfold fn_Re_factor_o at h
  refine zg_iload_n (pc' := 1) zd_Re_factor_0 rfl rfl ?_
  refine zg_iconst (x := (4 : Int32)) (pc' := 2) zd_Re_factor_1 (by decide) rfl ?_
  rcases br_some h with ⟨c1, h⟩ | ⟨c1, h⟩
  · refine zg_icmp_ge (tgt := 39) (pc' := 5) zd_Re_factor_2 (by decide) rfl (fun _ => ?_) (fun q => absurd c1 q)
    exact tm_Re_factor_L39 hd ho0 ho1 h
  · refine zg_icmp_ge (tgt := 39) (pc' := 5) zd_Re_factor_2 (by decide) rfl (fun q => absurd q c1) (fun _ => ?_)
    refine zg_aload_n (pc' := 6) zd_Re_factor_5 rfl rfl ?_
    refine zg_bipush (x := (40 : Int32)) (pc' := 8) zd_Re_factor_6 (by decide) rfl ?_
    obtain ⟨g2, h⟩ := gd_some h
    obtain ⟨r5, S3, e4, h⟩ := bq_some h
    refine zg_callV (ci := 3) (As := [.int (40 : Int32)]) (rest := []) (pc' := 11) zl_Re_41 zq508 zqp3 ⟨_, rfl, rfl⟩ zd_Re_factor_8 rfl rfl (Nat.le_of_ble_eq_true rfl) (by omega) (gT_ok g2) (tm_Re_eat (d := 3) (Nat.le_refl _) e4) rfl ?_
    refine zg_st (st' := [.int r5]) rfl ?_
    rcases br_some h with ⟨c6, h⟩ | ⟨c6, h⟩
    · refine zg_if_eq (tgt := 39) (pc' := 14) zd_Re_factor_11 (by decide) rfl (fun _ => ?_) (fun q => absurd c6 q)
      exact tm_Re_factor_L39 hd ho0 ho1 h
    · refine zg_if_eq (tgt := 39) (pc' := 14) zd_Re_factor_11 (by decide) rfl (fun q => absurd q c6) (fun _ => ?_)
      refine zg_aload_n (pc' := 15) zd_Re_factor_14 rfl rfl ?_
      refine zg_iload_n (pc' := 16) zd_Re_factor_15 rfl rfl ?_
      refine zg_iconst (x := (1 : Int32)) (pc' := 17) zd_Re_factor_16 (by decide) rfl ?_
      refine zg_iadd (pc' := 18) zd_Re_factor_17 rfl ?_
      obtain ⟨g7, h⟩ := gd_some h
      obtain ⟨r10, S8, e9, h⟩ := bq_some h
      refine zg_callV (ci := 3) (As := [.int (a1 + (1 : Int32))]) (rest := []) (pc' := 21) zl_Re_65 zq521 zqp5 ⟨_, rfl, rfl⟩ zd_Re_factor_18 rfl rfl (Nat.le_of_ble_eq_true rfl) (by omega) (gT_ok g7) (ho0 e9) rfl ?_
      refine zg_st (st' := [.int r10]) rfl ?_
      rcases br_some h with ⟨c11, h⟩ | ⟨c11, h⟩
      · refine zg_if_eq (tgt := 37) (pc' := 24) zd_Re_factor_21 (by decide) rfl (fun _ => ?_) (fun q => absurd c11 q)
        refine zg_iconst (x := (0 : Int32)) (pc' := 38) zd_Re_factor_37 (by decide) rfl ?_
        obtain ⟨rfl, rfl⟩ := rt_q h
        exact zg_iret zd_Re_factor_38 (zrt_z (by decide))
      · refine zg_if_eq (tgt := 37) (pc' := 24) zd_Re_factor_21 (by decide) rfl (fun q => absurd q c11) (fun _ => ?_)
        refine zg_aload_n (pc' := 25) zd_Re_factor_24 rfl rfl ?_
        refine zg_bipush (x := (41 : Int32)) (pc' := 27) zd_Re_factor_25 (by decide) rfl ?_
        obtain ⟨g12, h⟩ := gd_some h
        obtain ⟨r15, S13, e14, h⟩ := bq_some h
        refine zg_callV (ci := 3) (As := [.int (41 : Int32)]) (rest := []) (pc' := 30) zl_Re_41 zq508 zqp3 ⟨_, rfl, rfl⟩ zd_Re_factor_27 rfl rfl (Nat.le_of_ble_eq_true rfl) (by omega) (gT_ok g12) (tm_Re_eat (d := 3) (Nat.le_refl _) e14) rfl ?_
        refine zg_st (st' := [.int r15]) rfl ?_
        rcases br_some h with ⟨c16, h⟩ | ⟨c16, h⟩
        · refine zg_if_eq (tgt := 37) (pc' := 33) zd_Re_factor_30 (by decide) rfl (fun _ => ?_) (fun q => absurd c16 q)
          refine zg_iconst (x := (0 : Int32)) (pc' := 38) zd_Re_factor_37 (by decide) rfl ?_
          obtain ⟨rfl, rfl⟩ := rt_q h
          exact zg_iret zd_Re_factor_38 (zrt_z (by decide))
        · refine zg_if_eq (tgt := 37) (pc' := 33) zd_Re_factor_30 (by decide) rfl (fun q => absurd q c16) (fun _ => ?_)
          refine zg_iconst (x := (1 : Int32)) (pc' := 34) zd_Re_factor_33 (by decide) rfl ?_
          refine zg_goto (tgt := 38) zd_Re_factor_34 (by decide) ?_
          obtain ⟨rfl, rfl⟩ := rt_q h
          exact zg_iret zd_Re_factor_38 (zrt_z (by decide))
def fs_Re_either_Re_factor (k : ((Nat × Int32 × zS) ⊕ (Nat × Int32 × zS)) → Option (Int32 × zS)) (s : (Nat × Int32 × zS) ⊕ (Nat × Int32 × zS)) : Option (Int32 × zS) :=
  match s with
    | .inl (s) => fn_Re_either_o (fun (b0 : Nat) (b1 : Int32) (S : zS) => k (.inl (b0, b1, S))) (fun (b0 : Nat) (b1 : Int32) (S : zS) => k (.inr (b0, b1, S))) s.1 s.2.1 s.2.2
    | .inr (s) => fn_Re_factor_o (fun (b0 : Nat) (b1 : Int32) (S : zS) => k (.inl (b0, b1, S))) (fun (b0 : Nat) (b1 : Int32) (S : zS) => k (.inr (b0, b1, S))) s.1 s.2.1 s.2.2
def fn_Re_either (n : Nat) (b0 : Nat) (b1 : Int32) (S : zS) : Option (Int32 × zS) := lp fs_Re_either_Re_factor n (.inl (b0, b1, S))
def fn_Re_factor (n : Nat) (b0 : Nat) (b1 : Int32) (S : zS) : Option (Int32 × zS) := lp fs_Re_either_Re_factor n (.inr (b0, b1, S))
def ps_Re_either_Re_factor (X : zXt) (n : Nat) (s : (Nat × Int32 × zS) ⊕ (Nat × Int32 × zS)) (r : Int32 × zS) : Prop :=
  match s with
    | .inl (s) => ∀ d, 5 + n ≤ d → zM X zy_Re_either prog_5_method_4_code 4 (Option.some Jvm.ClassFile.FieldType.boolean) d [.ref (s.1), .int (s.2.1)] (s.2.2) (some (.int r.1)) (r.2)
    | .inr (s) => ∀ d, 5 + n ≤ d → zM X zy_Re_factor prog_5_method_5_code 2 (Option.some Jvm.ClassFile.FieldType.boolean) d [.ref (s.1), .int (s.2.1)] (s.2.2) (some (.int r.1)) (r.2)
set_option maxRecDepth 100000 in
theorem tr_Re_either_Re_factor {X : zXt} : ∀ (n : Nat) (s : (Nat × Int32 × zS) ⊕ (Nat × Int32 × zS)) (r : Int32 × zS), lp fs_Re_either_Re_factor n s = some r → ps_Re_either_Re_factor X n s r := by
  refine lp_rec (fun n k hk s r h => ?_)
  cases s with
  | inl s =>
    intro d hd
    obtain ⟨v, S'⟩ := r
    exact tm_Re_either_o (d' := 5 + n) ⟨by omega, by omega⟩ (fun {b0 b1 S r S1} e => hk (.inl (_, _, _)) _ e (5 + n) (Nat.le_refl _)) (fun {b0 b1 S r S1} e => hk (.inr (_, _, _)) _ e (5 + n) (Nat.le_refl _)) h
  | inr s =>
    intro d hd
    obtain ⟨v, S'⟩ := r
    exact tm_Re_factor_o (d' := 5 + n) ⟨by omega, by omega⟩ (fun {b0 b1 S r S1} e => hk (.inl (_, _, _)) _ e (5 + n) (Nat.le_refl _)) (fun {b0 b1 S r S1} e => hk (.inr (_, _, _)) _ e (5 + n) (Nat.le_refl _)) h

theorem tm_Re_either {X : zXt} {n d : Nat} (hd : 5 + n ≤ d) {v : Int32} {b0 : Nat} {b1 : Int32} {S S' : zS} (h : fn_Re_either n b0 b1 S = some (v, S')) : zM X zy_Re_either prog_5_method_4_code 4 (Option.some Jvm.ClassFile.FieldType.boolean) d [.ref b0, .int b1] S (some (.int v)) S' :=
  tr_Re_either_Re_factor n (.inl (b0, b1, S)) _ h d hd
theorem tm_Re_factor {X : zXt} {n d : Nat} (hd : 5 + n ≤ d) {v : Int32} {b0 : Nat} {b1 : Int32} {S S' : zS} (h : fn_Re_factor n b0 b1 S = some (v, S')) : zM X zy_Re_factor prog_5_method_5_code 2 (Option.some Jvm.ClassFile.FieldType.boolean) d [.ref b0, .int b1] S (some (.int v)) S' :=
  tr_Re_either_Re_factor n (.inr (b0, b1, S)) _ h d hd
theorem zd_Re_word_0 : decode prog_5_method_10_code 0 = .ok (.iconst 0, 1) := by decide +kernel
theorem zd_Re_word_1 : decode prog_5_method_10_code 1 = .ok (.istore_n 2, 1) := by decide +kernel
theorem zd_Re_word_2 : decode prog_5_method_10_code 2 = .ok (.iload_n 2, 1) := by decide +kernel
theorem zd_Re_word_3 : decode prog_5_method_10_code 3 = .ok (.aload_n 1, 1) := by decide +kernel
theorem zd_Re_word_4 : decode prog_5_method_10_code 4 = .ok (.invokevirtual 84, 3) := by decide +kernel
theorem zd_Re_word_7 : decode prog_5_method_10_code 7 = .ok (.if_icmp .ge 23, 3) := by decide +kernel
theorem zd_Re_word_30 : decode prog_5_method_10_code 30 = .ok (.iconst 1, 1) := by decide +kernel
theorem zd_Re_word_31 : decode prog_5_method_10_code 31 = .ok (.ireturn, 1) := by decide +kernel
theorem zd_Re_word_10 : decode prog_5_method_10_code 10 = .ok (.aload_n 0, 1) := by decide +kernel
theorem zd_Re_word_11 : decode prog_5_method_10_code 11 = .ok (.aload_n 1, 1) := by decide +kernel
theorem zd_Re_word_12 : decode prog_5_method_10_code 12 = .ok (.iload_n 2, 1) := by decide +kernel
theorem zd_Re_word_13 : decode prog_5_method_10_code 13 = .ok (.invokevirtual 89, 3) := by decide +kernel
theorem zd_Re_word_16 : decode prog_5_method_10_code 16 = .ok (.invokevirtual 41, 3) := by decide +kernel
theorem zd_Re_word_19 : decode prog_5_method_10_code 19 = .ok (.ifCond .ne 5, 3) := by decide +kernel
theorem zd_Re_word_24 : decode prog_5_method_10_code 24 = .ok (.iinc 2 1, 3) := by decide +kernel
theorem zd_Re_word_27 : decode prog_5_method_10_code 27 = .ok (.goto (-25), 3) := by decide +kernel
theorem zd_Re_word_22 : decode prog_5_method_10_code 22 = .ok (.iconst 0, 1) := by decide +kernel
theorem zd_Re_word_23 : decode prog_5_method_10_code 23 = .ok (.ireturn, 1) := by decide +kernel
abbrev zm_Re_word : zQ := ("LoofahSaints$Reader", prog_5_method_10_code, 3, (Option.some Jvm.ClassFile.FieldType.boolean), false)
set_option maxRecDepth 100000 in
def fn_Re_word_L2 (a0 : Nat) (a1 : Nat) (a2 : Int32) (S : zS) (K2 : Nat → Nat → Int32 → zS → Option (Int32 × zS)) : Option (Int32 × zS) :=
  gd (gT S a1 7) <|
  bq (fn_Js_length a1 S) fun r4 S2 =>
  br (decide (r4 ≤ a2)) (some ((1 : Int32), S2)) <|
  gd (gT S2 a1 7) <|
  bq (fn_Js_charAt a1 a2 S2) fun r9 S7 =>
  gd (gT S7 a0 103) <|
  bq (fn_Re_eat a0 r9 S7) fun r13 S11 =>
  br (decide (r13 = 0)) (some ((0 : Int32), S11)) <|
  K2 a0 a1 (a2 + (1 : Int32)) S11
set_option maxRecDepth 100000 in
set_option maxHeartbeats 4000000 in
theorem tm_Re_word_L2 {X : zXt} {d : Nat} (hd : 6 ≤ d) {v : Int32} {S' : zS}  {K2 : Nat → Nat → Int32 → zS → Option (Int32 × zS)} (hK2 : ∀ (a0 : Nat) (a1 : Nat) (a2 : Int32) (S : zS), K2 a0 a1 a2 S = some (v, S') → zG X zm_Re_word d 2 [some (.ref a0), some (.ref a1), some (.int a2)] [] S (some (.int v)) S') {a0 : Nat} {a1 : Nat} {a2 : Int32} {S : zS} (h : fn_Re_word_L2 a0 a1 a2 S K2 = some (v, S')) : zG X zm_Re_word d 2 [some (.ref a0), some (.ref a1), some (.int a2)] [] S (some (.int v)) S' := by
  unfold fn_Re_word_L2 at h
  refine zg_iload_n (pc' := 3) zd_Re_word_2 rfl rfl ?_
  refine zg_aload_n (pc' := 4) zd_Re_word_3 rfl rfl ?_
  obtain ⟨g1, h⟩ := gd_some h
  obtain ⟨r4, S2, e3, h⟩ := bq_some h
  refine zg_callT (As := []) (rest := [.int a2]) (pc' := 7) zl_Re_84 zq459 zq460 rfl zd_Re_word_4 rfl rfl (Nat.le_of_ble_eq_true rfl) (by omega) (gT_ok g1) (tm_Js_length (d := 3) (Nat.le_refl _) e3) rfl ?_
  refine zg_st (st' := [.int r4, .int a2]) rfl ?_
  rcases br_some h with ⟨c5, h⟩ | ⟨c5, h⟩
  · refine zg_icmp_ge (tgt := 30) (pc' := 10) zd_Re_word_7 (by decide) rfl (fun _ => ?_) (fun q => absurd c5 q)
    refine zg_iconst (x := (1 : Int32)) (pc' := 31) zd_Re_word_30 (by decide) rfl ?_
    obtain ⟨rfl, rfl⟩ := rt_q h
    exact zg_iret zd_Re_word_31 (zrt_z (by decide))
  · refine zg_icmp_ge (tgt := 30) (pc' := 10) zd_Re_word_7 (by decide) rfl (fun q => absurd q c5) (fun _ => ?_)
    refine zg_aload_n (pc' := 11) zd_Re_word_10 rfl rfl ?_
    refine zg_aload_n (pc' := 12) zd_Re_word_11 rfl rfl ?_
    refine zg_iload_n (pc' := 13) zd_Re_word_12 rfl rfl ?_
    obtain ⟨g6, h⟩ := gd_some h
    obtain ⟨r9, S7, e8, h⟩ := bq_some h
    refine zg_callT (As := [.int a2]) (rest := [.ref a0]) (pc' := 16) zl_Re_89 zq469 zq470 rfl zd_Re_word_13 rfl rfl (Nat.le_of_ble_eq_true rfl) (by omega) (gT_ok g6) (tm_Js_charAt (d := 5) (Nat.le_refl _) e8) rfl ?_
    refine zg_st (st' := [.int r9, .ref a0]) rfl ?_
    obtain ⟨g10, h⟩ := gd_some h
    obtain ⟨r13, S11, e12, h⟩ := bq_some h
    refine zg_callV (ci := 3) (As := [.int r9]) (rest := []) (pc' := 19) zl_Re_41 zq508 zqp3 ⟨_, rfl, rfl⟩ zd_Re_word_16 rfl rfl (Nat.le_of_ble_eq_true rfl) (by omega) (gT_ok g10) (tm_Re_eat (d := 3) (Nat.le_refl _) e12) rfl ?_
    refine zg_st (st' := [.int r13]) rfl ?_
    rcases br_some h with ⟨c14, h⟩ | ⟨c14, h⟩
    · refine zg_if_ne (tgt := 24) (pc' := 22) zd_Re_word_19 (by decide) rfl (fun q => absurd c14 q) (fun _ => ?_)
      refine zg_iconst (x := (0 : Int32)) (pc' := 23) zd_Re_word_22 (by decide) rfl ?_
      obtain ⟨rfl, rfl⟩ := rt_q h
      exact zg_iret zd_Re_word_23 (zrt_z (by decide))
    · refine zg_if_ne (tgt := 24) (pc' := 22) zd_Re_word_19 (by decide) rfl (fun _ => ?_) (fun q => absurd q c14)
      refine zg_iinc (y := (a2 + (1 : Int32))) (L' := [some (.ref a0), some (.ref a1), some (.int (a2 + (1 : Int32)))]) (pc' := 27) zd_Re_word_24 rfl rfl (by decide) rfl rfl ?_
      refine zg_goto (tgt := 2) zd_Re_word_27 (by decide) ?_
      exact hK2 _ _ _ _ h
set_option maxRecDepth 100000 in
def fn_Re_word (a0 : Nat) (a1 : Nat) (S : zS) : Option (Int32 × zS) :=
  lp (σ := Nat × Nat × Int32 × zS) (fun k s => fn_Re_word_L2 s.1 s.2.1 s.2.2.1 s.2.2.2 (fun (a0 : Nat) (a1 : Nat) (a2 : Int32) (S : zS) => k (a0, a1, a2, S))) FU (a0, a1, (0 : Int32), S)
set_option maxRecDepth 100000 in
set_option maxHeartbeats 4000000 in
theorem tm_Re_word {X : zXt} {d : Nat} (hd : 6 ≤ d) {v : Int32} {a0 : Nat} {a1 : Nat} {S : zS} {S' : zS} (h : fn_Re_word a0 a1 S = some (v, S')) : zM X zy_Re_word prog_5_method_10_code 3 (Option.some Jvm.ClassFile.FieldType.boolean) d [.ref a0, .ref a1] S (some (.int v)) S' := by
  refine zM_of (ini := false) (L := [some (.ref a0), some (.ref a1), none]) (plainFor_of_name (by decide)) (fun h => by cases h) (Nat.le_of_ble_eq_true rfl) rfl ?_
  unfold fn_Re_word at h
  refine zg_iconst (x := (0 : Int32)) (pc' := 1) zd_Re_word_0 (by decide) rfl ?_
  refine zg_istore_n (L' := [some (.ref a0), some (.ref a1), some (.int (0 : Int32))]) (pc' := 2) zd_Re_word_1 (by decide) rfl rfl ?_
  exact lp_indh h (P := fun s => zG X zm_Re_word d 2 [some (.ref (s.1)), some (.ref (s.2.1)), some (.int (s.2.2.1))] [] (s.2.2.2) (some (.int v)) S') (fun k hk s h => tm_Re_word_L2 hd (fun a0 a1 a2 S h => hk (a0, a1, a2, S) h) h)
theorem zd_Re_clause_0 : decode prog_5_method_3_code 0 = .ok (.aload_n 0, 1) := by decide +kernel
theorem zd_Re_clause_1 : decode prog_5_method_3_code 1 = .ok (.iconst 0, 1) := by decide +kernel
theorem zd_Re_clause_2 : decode prog_5_method_3_code 2 = .ok (.invokevirtual 45, 3) := by decide +kernel
theorem zd_Re_clause_5 : decode prog_5_method_3_code 5 = .ok (.bipush 115, 2) := by decide +kernel
theorem zd_Re_clause_7 : decode prog_5_method_3_code 7 = .ok (.if_icmp .eq 43, 3) := by decide +kernel
theorem zd_Re_clause_50 : decode prog_5_method_3_code 50 = .ok (.aload_n 0, 1) := by decide +kernel
theorem zd_Re_clause_51 : decode prog_5_method_3_code 51 = .ok (.iconst 1, 1) := by decide +kernel
theorem zd_Re_clause_52 : decode prog_5_method_3_code 52 = .ok (.invokevirtual 45, 3) := by decide +kernel
theorem zd_Re_clause_55 : decode prog_5_method_3_code 55 = .ok (.bipush 99, 2) := by decide +kernel
theorem zd_Re_clause_57 : decode prog_5_method_3_code 57 = .ok (.if_icmp .ne 7, 3) := by decide +kernel
theorem zd_Re_clause_64 : decode prog_5_method_3_code 64 = .ok (.iconst 0, 1) := by decide +kernel
theorem zd_Re_clause_60 : decode prog_5_method_3_code 60 = .ok (.iconst 1, 1) := by decide +kernel
theorem zd_Re_clause_61 : decode prog_5_method_3_code 61 = .ok (.goto 4, 3) := by decide +kernel
theorem zd_Re_clause_65 : decode prog_5_method_3_code 65 = .ok (.istore_n 1, 1) := by decide +kernel
theorem zd_Re_clause_66 : decode prog_5_method_3_code 66 = .ok (.aload_n 0, 1) := by decide +kernel
theorem zd_Re_clause_67 : decode prog_5_method_3_code 67 = .ok (.iload_n 1, 1) := by decide +kernel
theorem zd_Re_clause_68 : decode prog_5_method_3_code 68 = .ok (.ifCond .eq 8, 3) := by decide +kernel
theorem zd_Re_clause_76 : decode prog_5_method_3_code 76 = .ok (.ldc 63, 2) := by decide +kernel
theorem zd_Re_clause_71 : decode prog_5_method_3_code 71 = .ok (.ldc 61, 2) := by decide +kernel
theorem zd_Re_clause_73 : decode prog_5_method_3_code 73 = .ok (.goto 5, 3) := by decide +kernel
theorem zd_Re_clause_78 : decode prog_5_method_3_code 78 = .ok (.invokevirtual 51, 3) := by decide +kernel
theorem zd_Re_clause_81 : decode prog_5_method_3_code 81 = .ok (.ifCond .eq 19, 3) := by decide +kernel
theorem zd_Re_clause_84 : decode prog_5_method_3_code 84 = .ok (.aload_n 0, 1) := by decide +kernel
theorem zd_Re_clause_85 : decode prog_5_method_3_code 85 = .ok (.bipush 32, 2) := by decide +kernel
theorem zd_Re_clause_87 : decode prog_5_method_3_code 87 = .ok (.invokevirtual 41, 3) := by decide +kernel
theorem zd_Re_clause_90 : decode prog_5_method_3_code 90 = .ok (.ifCond .eq 10, 3) := by decide +kernel
theorem zd_Re_clause_93 : decode prog_5_method_3_code 93 = .ok (.aload_n 0, 1) := by decide +kernel
theorem zd_Re_clause_94 : decode prog_5_method_3_code 94 = .ok (.invokevirtual 55, 3) := by decide +kernel
theorem zd_Re_clause_97 : decode prog_5_method_3_code 97 = .ok (.ifCond .ne 5, 3) := by decide +kernel
theorem zd_Re_clause_102 : decode prog_5_method_3_code 102 = .ok (.aload_n 0, 1) := by decide +kernel
theorem zd_Re_clause_103 : decode prog_5_method_3_code 103 = .ok (.getfield 22, 3) := by decide +kernel
theorem zd_Re_clause_106 : decode prog_5_method_3_code 106 = .ok (.istore_n 2, 1) := by decide +kernel
theorem zd_Re_clause_107 : decode prog_5_method_3_code 107 = .ok (.aload_n 0, 1) := by decide +kernel
theorem zd_Re_clause_108 : decode prog_5_method_3_code 108 = .ok (.bipush 32, 2) := by decide +kernel
theorem zd_Re_clause_110 : decode prog_5_method_3_code 110 = .ok (.invokevirtual 41, 3) := by decide +kernel
theorem zd_Re_clause_113 : decode prog_5_method_3_code 113 = .ok (.ifCond .eq 11, 3) := by decide +kernel
theorem zd_Re_clause_116 : decode prog_5_method_3_code 116 = .ok (.aload_n 0, 1) := by decide +kernel
theorem zd_Re_clause_117 : decode prog_5_method_3_code 117 = .ok (.iconst 0, 1) := by decide +kernel
theorem zd_Re_clause_118 : decode prog_5_method_3_code 118 = .ok (.invokevirtual 65, 3) := by decide +kernel
theorem zd_Re_clause_121 : decode prog_5_method_3_code 121 = .ok (.ifCond .ne 5, 3) := by decide +kernel
theorem zd_Re_clause_126 : decode prog_5_method_3_code 126 = .ok (.aload_n 0, 1) := by decide +kernel
theorem zd_Re_clause_127 : decode prog_5_method_3_code 127 = .ok (.getfield 30, 3) := by decide +kernel
theorem zd_Re_clause_130 : decode prog_5_method_3_code 130 = .ok (.iload_n 1, 1) := by decide +kernel
theorem zd_Re_clause_131 : decode prog_5_method_3_code 131 = .ok (.ifCond .eq 8, 3) := by decide +kernel
theorem zd_Re_clause_139 : decode prog_5_method_3_code 139 = .ok (.bipush 115, 2) := by decide +kernel
theorem zd_Re_clause_134 : decode prog_5_method_3_code 134 = .ok (.bipush 83, 2) := by decide +kernel
theorem zd_Re_clause_136 : decode prog_5_method_3_code 136 = .ok (.goto 5, 3) := by decide +kernel
theorem zd_Re_clause_141 : decode prog_5_method_3_code 141 = .ok (.iload_n 2, 1) := by decide +kernel
theorem zd_Re_clause_142 : decode prog_5_method_3_code 142 = .ok (.invokevirtual 68, 3) := by decide +kernel
theorem zd_Re_clause_145 : decode prog_5_method_3_code 145 = .ok (.iconst 1, 1) := by decide +kernel
theorem zd_Re_clause_146 : decode prog_5_method_3_code 146 = .ok (.ireturn, 1) := by decide +kernel
theorem zd_Re_clause_124 : decode prog_5_method_3_code 124 = .ok (.iconst 0, 1) := by decide +kernel
theorem zd_Re_clause_125 : decode prog_5_method_3_code 125 = .ok (.ireturn, 1) := by decide +kernel
theorem zd_Re_clause_100 : decode prog_5_method_3_code 100 = .ok (.iconst 0, 1) := by decide +kernel
theorem zd_Re_clause_101 : decode prog_5_method_3_code 101 = .ok (.ireturn, 1) := by decide +kernel
theorem zd_Re_clause_10 : decode prog_5_method_3_code 10 = .ok (.aload_n 0, 1) := by decide +kernel
theorem zd_Re_clause_11 : decode prog_5_method_3_code 11 = .ok (.ldc 49, 2) := by decide +kernel
theorem zd_Re_clause_13 : decode prog_5_method_3_code 13 = .ok (.invokevirtual 51, 3) := by decide +kernel
theorem zd_Re_clause_16 : decode prog_5_method_3_code 16 = .ok (.ifCond .eq 19, 3) := by decide +kernel
theorem zd_Re_clause_19 : decode prog_5_method_3_code 19 = .ok (.aload_n 0, 1) := by decide +kernel
theorem zd_Re_clause_20 : decode prog_5_method_3_code 20 = .ok (.bipush 32, 2) := by decide +kernel
theorem zd_Re_clause_22 : decode prog_5_method_3_code 22 = .ok (.invokevirtual 41, 3) := by decide +kernel
theorem zd_Re_clause_25 : decode prog_5_method_3_code 25 = .ok (.ifCond .eq 10, 3) := by decide +kernel
theorem zd_Re_clause_28 : decode prog_5_method_3_code 28 = .ok (.aload_n 0, 1) := by decide +kernel
theorem zd_Re_clause_29 : decode prog_5_method_3_code 29 = .ok (.invokevirtual 55, 3) := by decide +kernel
theorem zd_Re_clause_32 : decode prog_5_method_3_code 32 = .ok (.ifCond .ne 5, 3) := by decide +kernel
theorem zd_Re_clause_37 : decode prog_5_method_3_code 37 = .ok (.aload_n 0, 1) := by decide +kernel
theorem zd_Re_clause_38 : decode prog_5_method_3_code 38 = .ok (.getfield 30, 3) := by decide +kernel
theorem zd_Re_clause_41 : decode prog_5_method_3_code 41 = .ok (.aload_n 0, 1) := by decide +kernel
theorem zd_Re_clause_42 : decode prog_5_method_3_code 42 = .ok (.getfield 22, 3) := by decide +kernel
theorem zd_Re_clause_45 : decode prog_5_method_3_code 45 = .ok (.putfield 58, 3) := by decide +kernel
theorem zd_Re_clause_48 : decode prog_5_method_3_code 48 = .ok (.iconst 1, 1) := by decide +kernel
theorem zd_Re_clause_49 : decode prog_5_method_3_code 49 = .ok (.ireturn, 1) := by decide +kernel
theorem zd_Re_clause_35 : decode prog_5_method_3_code 35 = .ok (.iconst 0, 1) := by decide +kernel
theorem zd_Re_clause_36 : decode prog_5_method_3_code 36 = .ok (.ireturn, 1) := by decide +kernel
abbrev zm_Re_clause : zQ := ("LoofahSaints$Reader", prog_5_method_3_code, 3, (Option.some Jvm.ClassFile.FieldType.boolean), false)
set_option maxRecDepth 100000 in
def fn_Re_clause_L78 (a0 : Nat) (a1 : Int32) (t0 : Nat) (t1 : Nat) (S : zS) : Option (Int32 × zS) :=
  gd (gT S t0 103) <|
  bq (fn_Re_word t0 t1 S) fun r4 S2 =>
  br (decide (r4 = 0)) (some ((0 : Int32), S2)) <|
  gd (gT S2 a0 103) <|
  bq (fn_Re_eat a0 (32 : Int32) S2) fun r9 S7 =>
  br (decide (r9 = 0)) (some ((0 : Int32), S7)) <|
  gd (gT S7 a0 103) <|
  bq (fn_Re_numeral a0 S7) fun r14 S12 =>
  br (decide (r14 = 0)) (some ((0 : Int32), S12)) <|
  gd (gT S12 a0 103) <|
  bq (fn_Re_eat a0 (32 : Int32) S12) fun r19 S17 =>
  br (decide (r19 = 0)) (some ((0 : Int32), S17)) <|
  gd (gT S17 a0 103) <|
  bq (fn_Re_either FR a0 (0 : Int32) S17) fun r24 S22 =>
  br (decide (r24 = 0)) (some ((0 : Int32), S22)) <|
  gd (gT S22 a0 103) <|
  br (decide (a1 = 0)) (gd (gT S22 (zR S22 a0 4) 102) <|
  bv (fn_Or_put (zR S22 a0 4) (115 : Int32) (zI S12 a0 3) S22) fun S29 =>
  some ((1 : Int32), S29)) <|
  gd (gT S22 (zR S22 a0 4) 102) <|
  bv (fn_Or_put (zR S22 a0 4) (83 : Int32) (zI S12 a0 3) S22) fun S32 =>
  some ((1 : Int32), S32)
set_option maxRecDepth 100000 in
set_option maxHeartbeats 4000000 in
theorem tm_Re_clause_L78 {X : zXt} {d : Nat} (hd : 66 ≤ d) {v : Int32} {S' : zS}  {a0 : Nat} {a1 : Int32} {t0 : Nat} {t1 : Nat} {S : zS} (h : fn_Re_clause_L78 a0 a1 t0 t1 S = some (v, S')) : zG X zm_Re_clause d 78 [some (.ref a0), some (.int a1), none] [.ref t1, .ref t0] S (some (.int v)) S' := by
  unfold fn_Re_clause_L78 at h
  obtain ⟨g1, h⟩ := gd_some h
  obtain ⟨r4, S2, e3, h⟩ := bq_some h
  refine zg_callV (ci := 3) (As := [.ref t1]) (rest := []) (pc' := 81) zl_Re_51 zq456 zqp2 ⟨_, rfl, rfl⟩ zd_Re_clause_78 rfl rfl (Nat.le_of_ble_eq_true rfl) (by omega) (gT_ok g1) (tm_Re_word (d := 6) (Nat.le_refl _) e3) rfl ?_
  refine zg_st (st' := [.int r4]) rfl ?_
  rcases br_some h with ⟨c5, h⟩ | ⟨c5, h⟩
  · refine zg_if_eq (tgt := 100) (pc' := 84) zd_Re_clause_81 (by decide) rfl (fun _ => ?_) (fun q => absurd c5 q)
    refine zg_iconst (x := (0 : Int32)) (pc' := 101) zd_Re_clause_100 (by decide) rfl ?_
    obtain ⟨rfl, rfl⟩ := rt_q h
    exact zg_iret zd_Re_clause_101 (zrt_z (by decide))
  · refine zg_if_eq (tgt := 100) (pc' := 84) zd_Re_clause_81 (by decide) rfl (fun q => absurd q c5) (fun _ => ?_)
    refine zg_aload_n (pc' := 85) zd_Re_clause_84 rfl rfl ?_
    refine zg_bipush (x := (32 : Int32)) (pc' := 87) zd_Re_clause_85 (by decide) rfl ?_
    obtain ⟨g6, h⟩ := gd_some h
    obtain ⟨r9, S7, e8, h⟩ := bq_some h
    refine zg_callV (ci := 3) (As := [.int (32 : Int32)]) (rest := []) (pc' := 90) zl_Re_41 zq508 zqp3 ⟨_, rfl, rfl⟩ zd_Re_clause_87 rfl rfl (Nat.le_of_ble_eq_true rfl) (by omega) (gT_ok g6) (tm_Re_eat (d := 3) (Nat.le_refl _) e8) rfl ?_
    refine zg_st (st' := [.int r9]) rfl ?_
    rcases br_some h with ⟨c10, h⟩ | ⟨c10, h⟩
    · refine zg_if_eq (tgt := 100) (pc' := 93) zd_Re_clause_90 (by decide) rfl (fun _ => ?_) (fun q => absurd c10 q)
      refine zg_iconst (x := (0 : Int32)) (pc' := 101) zd_Re_clause_100 (by decide) rfl ?_
      obtain ⟨rfl, rfl⟩ := rt_q h
      exact zg_iret zd_Re_clause_101 (zrt_z (by decide))
    · refine zg_if_eq (tgt := 100) (pc' := 93) zd_Re_clause_90 (by decide) rfl (fun q => absurd q c10) (fun _ => ?_)
      refine zg_aload_n (pc' := 94) zd_Re_clause_93 rfl rfl ?_
      obtain ⟨g11, h⟩ := gd_some h
      obtain ⟨r14, S12, e13, h⟩ := bq_some h
      refine zg_callV (ci := 3) (As := []) (rest := []) (pc' := 97) zl_Re_55 zq512 zqp4 ⟨_, rfl, rfl⟩ zd_Re_clause_94 rfl rfl (Nat.le_of_ble_eq_true rfl) (by omega) (gT_ok g11) (tm_Re_numeral (d := 3) (Nat.le_refl _) e13) rfl ?_
      refine zg_st (st' := [.int r14]) rfl ?_
      rcases br_some h with ⟨c15, h⟩ | ⟨c15, h⟩
      · refine zg_if_ne (tgt := 102) (pc' := 100) zd_Re_clause_97 (by decide) rfl (fun q => absurd c15 q) (fun _ => ?_)
        refine zg_iconst (x := (0 : Int32)) (pc' := 101) zd_Re_clause_100 (by decide) rfl ?_
        obtain ⟨rfl, rfl⟩ := rt_q h
        exact zg_iret zd_Re_clause_101 (zrt_z (by decide))
      · refine zg_if_ne (tgt := 102) (pc' := 100) zd_Re_clause_97 (by decide) rfl (fun _ => ?_) (fun q => absurd q c15)
        refine zg_aload_n (pc' := 103) zd_Re_clause_102 rfl rfl ?_
        obtain ⟨g16, h⟩ := gd_some h
        refine zg_getI (pc' := 106) zf_Re_22 zd_Re_clause_103 (gT_ok g16) rfl ?_
        refine zg_istore_n (L' := [some (.ref a0), some (.int a1), some (.int (zI S12 a0 3))]) (pc' := 107) zd_Re_clause_106 (by decide) rfl rfl ?_
        refine zg_aload_n (pc' := 108) zd_Re_clause_107 rfl rfl ?_
        refine zg_bipush (x := (32 : Int32)) (pc' := 110) zd_Re_clause_108 (by decide) rfl ?_
        obtain ⟨r19, S17, e18, h⟩ := bq_some h
        refine zg_callV (ci := 3) (As := [.int (32 : Int32)]) (rest := []) (pc' := 113) zl_Re_41 zq508 zqp3 ⟨_, rfl, rfl⟩ zd_Re_clause_110 rfl rfl (Nat.le_of_ble_eq_true rfl) (by omega) (gT_ok g16) (tm_Re_eat (d := 3) (Nat.le_refl _) e18) rfl ?_
        refine zg_st (st' := [.int r19]) rfl ?_
        rcases br_some h with ⟨c20, h⟩ | ⟨c20, h⟩
        · refine zg_if_eq (tgt := 124) (pc' := 116) zd_Re_clause_113 (by decide) rfl (fun _ => ?_) (fun q => absurd c20 q)
          refine zg_iconst (x := (0 : Int32)) (pc' := 125) zd_Re_clause_124 (by decide) rfl ?_
          obtain ⟨rfl, rfl⟩ := rt_q h
          exact zg_iret zd_Re_clause_125 (zrt_z (by decide))
        · refine zg_if_eq (tgt := 124) (pc' := 116) zd_Re_clause_113 (by decide) rfl (fun q => absurd q c20) (fun _ => ?_)
          refine zg_aload_n (pc' := 117) zd_Re_clause_116 rfl rfl ?_
          refine zg_iconst (x := (0 : Int32)) (pc' := 118) zd_Re_clause_117 (by decide) rfl ?_
          obtain ⟨g21, h⟩ := gd_some h
          obtain ⟨r24, S22, e23, h⟩ := bq_some h
          refine zg_callV (ci := 3) (As := [.int (0 : Int32)]) (rest := []) (pc' := 121) zl_Re_65 zq521 zqp5 ⟨_, rfl, rfl⟩ zd_Re_clause_118 rfl rfl (Nat.le_of_ble_eq_true rfl) (by omega) (gT_ok g21) (tm_Re_either (d := 65) (by decide) e23) rfl ?_
          refine zg_st (st' := [.int r24]) rfl ?_
          rcases br_some h with ⟨c25, h⟩ | ⟨c25, h⟩
          · refine zg_if_ne (tgt := 126) (pc' := 124) zd_Re_clause_121 (by decide) rfl (fun q => absurd c25 q) (fun _ => ?_)
            refine zg_iconst (x := (0 : Int32)) (pc' := 125) zd_Re_clause_124 (by decide) rfl ?_
            obtain ⟨rfl, rfl⟩ := rt_q h
            exact zg_iret zd_Re_clause_125 (zrt_z (by decide))
          · refine zg_if_ne (tgt := 126) (pc' := 124) zd_Re_clause_121 (by decide) rfl (fun _ => ?_) (fun q => absurd q c25)
            refine zg_aload_n (pc' := 127) zd_Re_clause_126 rfl rfl ?_
            obtain ⟨g26, h⟩ := gd_some h
            refine zg_getR (pc' := 130) zf_Re_30 rfl zd_Re_clause_127 (gT_ok g26) rfl ?_
            refine zg_iload_n (pc' := 131) zd_Re_clause_130 rfl rfl ?_
            rcases br_some h with ⟨c27, h⟩ | ⟨c27, h⟩
            · refine zg_if_eq (tgt := 139) (pc' := 134) zd_Re_clause_131 (by decide) rfl (fun _ => ?_) (fun q => absurd c27 q)
              refine zg_bipush (x := (115 : Int32)) (pc' := 141) zd_Re_clause_139 (by decide) rfl ?_
              refine zg_iload_n (pc' := 142) zd_Re_clause_141 rfl rfl ?_
              obtain ⟨g28, h⟩ := gd_some h
              obtain ⟨S29, e30, h⟩ := bv_some h
              refine zg_callV (ci := 2) (As := [.int (115 : Int32), .int (zI S12 a0 3)]) (rest := []) (pc' := 145) zl_Re_68 zq528 zq529 ⟨_, rfl, rfl⟩ zd_Re_clause_142 rfl rfl (Nat.le_of_ble_eq_true rfl) (by omega) (gT_ok g28) (tm_Or_put (d := 2) (Nat.le_refl _) e30) rfl ?_
              refine zg_st (st' := []) rfl ?_
              refine zg_iconst (x := (1 : Int32)) (pc' := 146) zd_Re_clause_145 (by decide) rfl ?_
              obtain ⟨rfl, rfl⟩ := rt_q h
              exact zg_iret zd_Re_clause_146 (zrt_z (by decide))
            · refine zg_if_eq (tgt := 139) (pc' := 134) zd_Re_clause_131 (by decide) rfl (fun q => absurd q c27) (fun _ => ?_)
              refine zg_bipush (x := (83 : Int32)) (pc' := 136) zd_Re_clause_134 (by decide) rfl ?_
              refine zg_goto (tgt := 141) zd_Re_clause_136 (by decide) ?_
              refine zg_iload_n (pc' := 142) zd_Re_clause_141 rfl rfl ?_
              obtain ⟨g31, h⟩ := gd_some h
              obtain ⟨S32, e33, h⟩ := bv_some h
              refine zg_callV (ci := 2) (As := [.int (83 : Int32), .int (zI S12 a0 3)]) (rest := []) (pc' := 145) zl_Re_68 zq528 zq529 ⟨_, rfl, rfl⟩ zd_Re_clause_142 rfl rfl (Nat.le_of_ble_eq_true rfl) (by omega) (gT_ok g31) (tm_Or_put (d := 2) (Nat.le_refl _) e33) rfl ?_
              refine zg_st (st' := []) rfl ?_
              refine zg_iconst (x := (1 : Int32)) (pc' := 146) zd_Re_clause_145 (by decide) rfl ?_
              obtain ⟨rfl, rfl⟩ := rt_q h
              exact zg_iret zd_Re_clause_146 (zrt_z (by decide))
set_option maxRecDepth 100000 in
def fn_Re_clause (a0 : Nat) (S : zS) : Option (Int32 × zS) :=
  gd (gT S a0 103) <|
  bq (fn_Re_sign a0 (0 : Int32) S) fun r4 S2 =>
  br (decide (r4 = (115 : Int32))) (gd (gT S2 a0 103) <|
  bq (fn_Re_sign a0 (1 : Int32) S2) fun r9 S7 =>
  br (decide (r9 = (99 : Int32))) (br (decide ((1 : Int32) = 0)) (fn_Re_clause_L78 a0 (1 : Int32) a0 6 S7) <|
  fn_Re_clause_L78 a0 (1 : Int32) a0 5 S7) <|
  br (decide ((0 : Int32) = 0)) (fn_Re_clause_L78 a0 (0 : Int32) a0 6 S7) <|
  fn_Re_clause_L78 a0 (0 : Int32) a0 5 S7) <|
  gd (gT S2 a0 103) <|
  bq (fn_Re_word a0 4 S2) fun r16 S14 =>
  br (decide (r16 = 0)) (some ((0 : Int32), S14)) <|
  gd (gT S14 a0 103) <|
  bq (fn_Re_eat a0 (32 : Int32) S14) fun r21 S19 =>
  br (decide (r21 = 0)) (some ((0 : Int32), S19)) <|
  gd (gT S19 a0 103) <|
  bq (fn_Re_numeral a0 S19) fun r26 S24 =>
  br (decide (r26 = 0)) (some ((0 : Int32), S24)) <|
  gd (gT S24 a0 103) <|
  gd (gT S24 (zR S24 a0 4) 102) <|
  nm (uI S24 (zR S24 a0 4) 3 (zI S24 a0 3)) fun S30 =>
  some ((1 : Int32), S30)
set_option maxRecDepth 100000 in
set_option maxHeartbeats 4000000 in
theorem tm_Re_clause {X : zXt} {d : Nat} (hd : 66 ≤ d) {v : Int32} {a0 : Nat} {S : zS} {S' : zS} (h : fn_Re_clause a0 S = some (v, S')) : zM X zy_Re_clause prog_5_method_3_code 3 (Option.some Jvm.ClassFile.FieldType.boolean) d [.ref a0] S (some (.int v)) S' := by
  refine zM_of (ini := false) (L := [some (.ref a0), none, none]) (plainFor_of_name (by decide)) (fun h => by cases h) (Nat.le_of_ble_eq_true rfl) rfl ?_
  unfold fn_Re_clause at h
  refine zg_aload_n (pc' := 1) zd_Re_clause_0 rfl rfl ?_
  refine zg_iconst (x := (0 : Int32)) (pc' := 2) zd_Re_clause_1 (by decide) rfl ?_
  obtain ⟨g1, h⟩ := gd_some h
  obtain ⟨r4, S2, e3, h⟩ := bq_some h
  refine zg_callV (ci := 3) (As := [.int (0 : Int32)]) (rest := []) (pc' := 5) zl_Re_45 zq451 zqp1 ⟨_, rfl, rfl⟩ zd_Re_clause_2 rfl rfl (Nat.le_of_ble_eq_true rfl) (by omega) (gT_ok g1) (tm_Re_sign (d := 2) (Nat.le_refl _) e3) rfl ?_
  refine zg_st (st' := [.int r4]) rfl ?_
  refine zg_bipush (x := (115 : Int32)) (pc' := 7) zd_Re_clause_5 (by decide) rfl ?_
  rcases br_some h with ⟨c5, h⟩ | ⟨c5, h⟩
  · refine zg_icmp_eq (tgt := 50) (pc' := 10) zd_Re_clause_7 (by decide) rfl (fun _ => ?_) (fun q => absurd c5 q)
    refine zg_aload_n (pc' := 51) zd_Re_clause_50 rfl rfl ?_
    refine zg_iconst (x := (1 : Int32)) (pc' := 52) zd_Re_clause_51 (by decide) rfl ?_
    obtain ⟨g6, h⟩ := gd_some h
    obtain ⟨r9, S7, e8, h⟩ := bq_some h
    refine zg_callV (ci := 3) (As := [.int (1 : Int32)]) (rest := []) (pc' := 55) zl_Re_45 zq451 zqp1 ⟨_, rfl, rfl⟩ zd_Re_clause_52 rfl rfl (Nat.le_of_ble_eq_true rfl) (by omega) (gT_ok g6) (tm_Re_sign (d := 2) (Nat.le_refl _) e8) rfl ?_
    refine zg_st (st' := [.int r9]) rfl ?_
    refine zg_bipush (x := (99 : Int32)) (pc' := 57) zd_Re_clause_55 (by decide) rfl ?_
    rcases br_some h with ⟨c10, h⟩ | ⟨c10, h⟩
    · refine zg_icmp_ne (tgt := 64) (pc' := 60) zd_Re_clause_57 (by decide) rfl (fun q => absurd c10 q) (fun _ => ?_)
      refine zg_iconst (x := (1 : Int32)) (pc' := 61) zd_Re_clause_60 (by decide) rfl ?_
      refine zg_goto (tgt := 65) zd_Re_clause_61 (by decide) ?_
      refine zg_istore_n (L' := [some (.ref a0), some (.int (1 : Int32)), none]) (pc' := 66) zd_Re_clause_65 (by decide) rfl rfl ?_
      refine zg_aload_n (pc' := 67) zd_Re_clause_66 rfl rfl ?_
      refine zg_iload_n (pc' := 68) zd_Re_clause_67 rfl rfl ?_
      rcases br_some h with ⟨c12, h⟩ | ⟨c12, h⟩
      · refine zg_if_eq (tgt := 76) (pc' := 71) zd_Re_clause_68 (by decide) rfl (fun _ => ?_) (fun q => absurd c12 q)
        refine zg_ldcS (pc' := 78) zk_soft zd_Re_clause_76 rfl ?_
        exact tm_Re_clause_L78 hd h
      · refine zg_if_eq (tgt := 76) (pc' := 71) zd_Re_clause_68 (by decide) rfl (fun q => absurd q c12) (fun _ => ?_)
        refine zg_ldcS (pc' := 73) zk_scrub zd_Re_clause_71 rfl ?_
        refine zg_goto (tgt := 78) zd_Re_clause_73 (by decide) ?_
        exact tm_Re_clause_L78 hd h
    · refine zg_icmp_ne (tgt := 64) (pc' := 60) zd_Re_clause_57 (by decide) rfl (fun _ => ?_) (fun q => absurd q c10)
      refine zg_iconst (x := (0 : Int32)) (pc' := 65) zd_Re_clause_64 (by decide) rfl ?_
      refine zg_istore_n (L' := [some (.ref a0), some (.int (0 : Int32)), none]) (pc' := 66) zd_Re_clause_65 (by decide) rfl rfl ?_
      refine zg_aload_n (pc' := 67) zd_Re_clause_66 rfl rfl ?_
      refine zg_iload_n (pc' := 68) zd_Re_clause_67 rfl rfl ?_
      rcases br_some h with ⟨c11, h⟩ | ⟨c11, h⟩
      · refine zg_if_eq (tgt := 76) (pc' := 71) zd_Re_clause_68 (by decide) rfl (fun _ => ?_) (fun q => absurd c11 q)
        refine zg_ldcS (pc' := 78) zk_soft zd_Re_clause_76 rfl ?_
        exact tm_Re_clause_L78 hd h
      · refine zg_if_eq (tgt := 76) (pc' := 71) zd_Re_clause_68 (by decide) rfl (fun q => absurd q c11) (fun _ => ?_)
        refine zg_ldcS (pc' := 73) zk_scrub zd_Re_clause_71 rfl ?_
        refine zg_goto (tgt := 78) zd_Re_clause_73 (by decide) ?_
        exact tm_Re_clause_L78 hd h
  · refine zg_icmp_eq (tgt := 50) (pc' := 10) zd_Re_clause_7 (by decide) rfl (fun q => absurd q c5) (fun _ => ?_)
    refine zg_aload_n (pc' := 11) zd_Re_clause_10 rfl rfl ?_
    refine zg_ldcS (pc' := 13) zk_wear zd_Re_clause_11 rfl ?_
    obtain ⟨g13, h⟩ := gd_some h
    obtain ⟨r16, S14, e15, h⟩ := bq_some h
    refine zg_callV (ci := 3) (As := [.ref 4]) (rest := []) (pc' := 16) zl_Re_51 zq456 zqp2 ⟨_, rfl, rfl⟩ zd_Re_clause_13 rfl rfl (Nat.le_of_ble_eq_true rfl) (by omega) (gT_ok g13) (tm_Re_word (d := 6) (Nat.le_refl _) e15) rfl ?_
    refine zg_st (st' := [.int r16]) rfl ?_
    rcases br_some h with ⟨c17, h⟩ | ⟨c17, h⟩
    · refine zg_if_eq (tgt := 35) (pc' := 19) zd_Re_clause_16 (by decide) rfl (fun _ => ?_) (fun q => absurd c17 q)
      refine zg_iconst (x := (0 : Int32)) (pc' := 36) zd_Re_clause_35 (by decide) rfl ?_
      obtain ⟨rfl, rfl⟩ := rt_q h
      exact zg_iret zd_Re_clause_36 (zrt_z (by decide))
    · refine zg_if_eq (tgt := 35) (pc' := 19) zd_Re_clause_16 (by decide) rfl (fun q => absurd q c17) (fun _ => ?_)
      refine zg_aload_n (pc' := 20) zd_Re_clause_19 rfl rfl ?_
      refine zg_bipush (x := (32 : Int32)) (pc' := 22) zd_Re_clause_20 (by decide) rfl ?_
      obtain ⟨g18, h⟩ := gd_some h
      obtain ⟨r21, S19, e20, h⟩ := bq_some h
      refine zg_callV (ci := 3) (As := [.int (32 : Int32)]) (rest := []) (pc' := 25) zl_Re_41 zq508 zqp3 ⟨_, rfl, rfl⟩ zd_Re_clause_22 rfl rfl (Nat.le_of_ble_eq_true rfl) (by omega) (gT_ok g18) (tm_Re_eat (d := 3) (Nat.le_refl _) e20) rfl ?_
      refine zg_st (st' := [.int r21]) rfl ?_
      rcases br_some h with ⟨c22, h⟩ | ⟨c22, h⟩
      · refine zg_if_eq (tgt := 35) (pc' := 28) zd_Re_clause_25 (by decide) rfl (fun _ => ?_) (fun q => absurd c22 q)
        refine zg_iconst (x := (0 : Int32)) (pc' := 36) zd_Re_clause_35 (by decide) rfl ?_
        obtain ⟨rfl, rfl⟩ := rt_q h
        exact zg_iret zd_Re_clause_36 (zrt_z (by decide))
      · refine zg_if_eq (tgt := 35) (pc' := 28) zd_Re_clause_25 (by decide) rfl (fun q => absurd q c22) (fun _ => ?_)
        refine zg_aload_n (pc' := 29) zd_Re_clause_28 rfl rfl ?_
        obtain ⟨g23, h⟩ := gd_some h
        obtain ⟨r26, S24, e25, h⟩ := bq_some h
        refine zg_callV (ci := 3) (As := []) (rest := []) (pc' := 32) zl_Re_55 zq512 zqp4 ⟨_, rfl, rfl⟩ zd_Re_clause_29 rfl rfl (Nat.le_of_ble_eq_true rfl) (by omega) (gT_ok g23) (tm_Re_numeral (d := 3) (Nat.le_refl _) e25) rfl ?_
        refine zg_st (st' := [.int r26]) rfl ?_
        rcases br_some h with ⟨c27, h⟩ | ⟨c27, h⟩
        · refine zg_if_ne (tgt := 37) (pc' := 35) zd_Re_clause_32 (by decide) rfl (fun q => absurd c27 q) (fun _ => ?_)
          refine zg_iconst (x := (0 : Int32)) (pc' := 36) zd_Re_clause_35 (by decide) rfl ?_
          obtain ⟨rfl, rfl⟩ := rt_q h
          exact zg_iret zd_Re_clause_36 (zrt_z (by decide))
        · refine zg_if_ne (tgt := 37) (pc' := 35) zd_Re_clause_32 (by decide) rfl (fun _ => ?_) (fun q => absurd q c27)
          refine zg_aload_n (pc' := 38) zd_Re_clause_37 rfl rfl ?_
          obtain ⟨g28, h⟩ := gd_some h
          refine zg_getR (pc' := 41) zf_Re_30 rfl zd_Re_clause_38 (gT_ok g28) rfl ?_
          refine zg_aload_n (pc' := 42) zd_Re_clause_41 rfl rfl ?_
          refine zg_getI (pc' := 45) zf_Re_22 zd_Re_clause_42 (gT_ok g28) rfl ?_
          obtain ⟨g29, h⟩ := gd_some h
          refine zg_putI (pc' := 48) zf_Re_58 zd_Re_clause_45 (Or.inl rfl) (gT_ok g29) rfl ?_
          obtain ⟨S30, eS30, h⟩ := nm_some h
          refine zg_nm eS30 ?_
          refine zg_iconst (x := (1 : Int32)) (pc' := 49) zd_Re_clause_48 (by decide) rfl ?_
          obtain ⟨rfl, rfl⟩ := rt_q h
          exact zg_iret zd_Re_clause_49 (zrt_z (by decide))
theorem zd_Re_reads_0 : decode prog_5_method_2_code 0 = .ok (.aload_n 0, 1) := by decide +kernel
theorem zd_Re_reads_1 : decode prog_5_method_2_code 1 = .ok (.iconst 0, 1) := by decide +kernel
theorem zd_Re_reads_2 : decode prog_5_method_2_code 2 = .ok (.putfield 19, 3) := by decide +kernel
theorem zd_Re_reads_5 : decode prog_5_method_2_code 5 = .ok (.aload_n 0, 1) := by decide +kernel
theorem zd_Re_reads_6 : decode prog_5_method_2_code 6 = .ok (.aload_n 1, 1) := by decide +kernel
theorem zd_Re_reads_7 : decode prog_5_method_2_code 7 = .ok (.putfield 30, 3) := by decide +kernel
theorem zd_Re_reads_10 : decode prog_5_method_2_code 10 = .ok (.aload_n 0, 1) := by decide +kernel
theorem zd_Re_reads_11 : decode prog_5_method_2_code 11 = .ok (.getfield 30, 3) := by decide +kernel
theorem zd_Re_reads_14 : decode prog_5_method_2_code 14 = .ok (.invokevirtual 34, 3) := by decide +kernel
theorem zd_Re_reads_17 : decode prog_5_method_2_code 17 = .ok (.iconst 0, 1) := by decide +kernel
theorem zd_Re_reads_18 : decode prog_5_method_2_code 18 = .ok (.istore_n 2, 1) := by decide +kernel
theorem zd_Re_reads_19 : decode prog_5_method_2_code 19 = .ok (.iload_n 2, 1) := by decide +kernel
theorem zd_Re_reads_20 : decode prog_5_method_2_code 20 = .ok (.bipush 10, 2) := by decide +kernel
theorem zd_Re_reads_22 : decode prog_5_method_2_code 22 = .ok (.if_icmp .ge 50, 3) := by decide +kernel
theorem zd_Re_reads_72 : decode prog_5_method_2_code 72 = .ok (.iconst 0, 1) := by decide +kernel
theorem zd_Re_reads_73 : decode prog_5_method_2_code 73 = .ok (.ireturn, 1) := by decide +kernel
theorem zd_Re_reads_25 : decode prog_5_method_2_code 25 = .ok (.aload_n 0, 1) := by decide +kernel
theorem zd_Re_reads_26 : decode prog_5_method_2_code 26 = .ok (.invokevirtual 37, 3) := by decide +kernel
theorem zd_Re_reads_29 : decode prog_5_method_2_code 29 = .ok (.ifCond .ne 5, 3) := by decide +kernel
theorem zd_Re_reads_34 : decode prog_5_method_2_code 34 = .ok (.aload_n 0, 1) := by decide +kernel
theorem zd_Re_reads_35 : decode prog_5_method_2_code 35 = .ok (.getfield 19, 3) := by decide +kernel
theorem zd_Re_reads_38 : decode prog_5_method_2_code 38 = .ok (.aload_n 0, 1) := by decide +kernel
theorem zd_Re_reads_39 : decode prog_5_method_2_code 39 = .ok (.getfield 15, 3) := by decide +kernel
theorem zd_Re_reads_42 : decode prog_5_method_2_code 42 = .ok (.if_icmp .ne 5, 3) := by decide +kernel
theorem zd_Re_reads_47 : decode prog_5_method_2_code 47 = .ok (.iload_n 2, 1) := by decide +kernel
theorem zd_Re_reads_48 : decode prog_5_method_2_code 48 = .ok (.iconst 1, 1) := by decide +kernel
theorem zd_Re_reads_49 : decode prog_5_method_2_code 49 = .ok (.iadd, 1) := by decide +kernel
theorem zd_Re_reads_50 : decode prog_5_method_2_code 50 = .ok (.bipush 10, 2) := by decide +kernel
theorem zd_Re_reads_52 : decode prog_5_method_2_code 52 = .ok (.if_icmp .eq 12, 3) := by decide +kernel
theorem zd_Re_reads_55 : decode prog_5_method_2_code 55 = .ok (.aload_n 0, 1) := by decide +kernel
theorem zd_Re_reads_56 : decode prog_5_method_2_code 56 = .ok (.bipush 59, 2) := by decide +kernel
theorem zd_Re_reads_58 : decode prog_5_method_2_code 58 = .ok (.invokevirtual 41, 3) := by decide +kernel
theorem zd_Re_reads_61 : decode prog_5_method_2_code 61 = .ok (.ifCond .ne 5, 3) := by decide +kernel
theorem zd_Re_reads_66 : decode prog_5_method_2_code 66 = .ok (.iinc 2 1, 3) := by decide +kernel
theorem zd_Re_reads_69 : decode prog_5_method_2_code 69 = .ok (.goto (-50), 3) := by decide +kernel
theorem zd_Re_reads_64 : decode prog_5_method_2_code 64 = .ok (.iconst 0, 1) := by decide +kernel
theorem zd_Re_reads_65 : decode prog_5_method_2_code 65 = .ok (.ireturn, 1) := by decide +kernel
theorem zd_Re_reads_45 : decode prog_5_method_2_code 45 = .ok (.iconst 1, 1) := by decide +kernel
theorem zd_Re_reads_46 : decode prog_5_method_2_code 46 = .ok (.ireturn, 1) := by decide +kernel
theorem zd_Re_reads_32 : decode prog_5_method_2_code 32 = .ok (.iconst 0, 1) := by decide +kernel
theorem zd_Re_reads_33 : decode prog_5_method_2_code 33 = .ok (.ireturn, 1) := by decide +kernel
abbrev zm_Re_reads : zQ := ("LoofahSaints$Reader", prog_5_method_2_code, 3, (Option.some Jvm.ClassFile.FieldType.boolean), false)
set_option maxRecDepth 100000 in
def fn_Re_reads_L19 (a0 : Nat) (a2 : Int32) (S : zS) (K19 : Nat → Int32 → zS → Option (Int32 × zS)) : Option (Int32 × zS) :=
  br (decide ((10 : Int32) ≤ a2)) (some ((0 : Int32), S)) <|
  gd (gT S a0 103) <|
  bq (fn_Re_clause a0 S) fun r5 S3 =>
  br (decide (r5 = 0)) (some ((0 : Int32), S3)) <|
  gd (gT S3 a0 103) <|
  br (decide ((zI S3 a0 2) = (zI S3 a0 1))) (some ((1 : Int32), S3)) <|
  br (decide ((a2 + (1 : Int32)) = (10 : Int32))) (some ((0 : Int32), S3)) <|
  bq (fn_Re_eat a0 (59 : Int32) S3) fun r12 S10 =>
  br (decide (r12 = 0)) (some ((0 : Int32), S10)) <|
  K19 a0 (a2 + (1 : Int32)) S10
set_option maxRecDepth 100000 in
set_option maxHeartbeats 4000000 in
theorem tm_Re_reads_L19 {X : zXt} {d : Nat} (hd : 67 ≤ d) {v : Int32} {S' : zS}  {K19 : Nat → Int32 → zS → Option (Int32 × zS)} (hK19 : ∀ (a0 : Nat) (a2 : Int32) (S : zS), K19 a0 a2 S = some (v, S') → zG X zm_Re_reads d 19 [some (.ref a0), none, some (.int a2)] [] S (some (.int v)) S') {a0 : Nat} {a2 : Int32} {S : zS} (h : fn_Re_reads_L19 a0 a2 S K19 = some (v, S')) : zG X zm_Re_reads d 19 [some (.ref a0), none, some (.int a2)] [] S (some (.int v)) S' := by
  unfold fn_Re_reads_L19 at h
  refine zg_iload_n (pc' := 20) zd_Re_reads_19 rfl rfl ?_
  refine zg_bipush (x := (10 : Int32)) (pc' := 22) zd_Re_reads_20 (by decide) rfl ?_
  rcases br_some h with ⟨c1, h⟩ | ⟨c1, h⟩
  · refine zg_icmp_ge (tgt := 72) (pc' := 25) zd_Re_reads_22 (by decide) rfl (fun _ => ?_) (fun q => absurd c1 q)
    refine zg_iconst (x := (0 : Int32)) (pc' := 73) zd_Re_reads_72 (by decide) rfl ?_
    obtain ⟨rfl, rfl⟩ := rt_q h
    exact zg_iret zd_Re_reads_73 (zrt_z (by decide))
  · refine zg_icmp_ge (tgt := 72) (pc' := 25) zd_Re_reads_22 (by decide) rfl (fun q => absurd q c1) (fun _ => ?_)
    refine zg_aload_n (pc' := 26) zd_Re_reads_25 rfl rfl ?_
    obtain ⟨g2, h⟩ := gd_some h
    obtain ⟨r5, S3, e4, h⟩ := bq_some h
    refine zg_callV (ci := 3) (As := []) (rest := []) (pc' := 29) zl_Re_37 zq447 zqp0 ⟨_, rfl, rfl⟩ zd_Re_reads_26 rfl rfl (Nat.le_of_ble_eq_true rfl) (by omega) (gT_ok g2) (tm_Re_clause (d := 66) (Nat.le_refl _) e4) rfl ?_
    refine zg_st (st' := [.int r5]) rfl ?_
    rcases br_some h with ⟨c6, h⟩ | ⟨c6, h⟩
    · refine zg_if_ne (tgt := 34) (pc' := 32) zd_Re_reads_29 (by decide) rfl (fun q => absurd c6 q) (fun _ => ?_)
      refine zg_iconst (x := (0 : Int32)) (pc' := 33) zd_Re_reads_32 (by decide) rfl ?_
      obtain ⟨rfl, rfl⟩ := rt_q h
      exact zg_iret zd_Re_reads_33 (zrt_z (by decide))
    · refine zg_if_ne (tgt := 34) (pc' := 32) zd_Re_reads_29 (by decide) rfl (fun _ => ?_) (fun q => absurd q c6)
      refine zg_aload_n (pc' := 35) zd_Re_reads_34 rfl rfl ?_
      obtain ⟨g7, h⟩ := gd_some h
      refine zg_getI (pc' := 38) zf_Re_19 zd_Re_reads_35 (gT_ok g7) rfl ?_
      refine zg_aload_n (pc' := 39) zd_Re_reads_38 rfl rfl ?_
      refine zg_getI (pc' := 42) zf_Re_15 zd_Re_reads_39 (gT_ok g7) rfl ?_
      rcases br_some h with ⟨c8, h⟩ | ⟨c8, h⟩
      · refine zg_icmp_ne (tgt := 47) (pc' := 45) zd_Re_reads_42 (by decide) rfl (fun q => absurd c8 q) (fun _ => ?_)
        refine zg_iconst (x := (1 : Int32)) (pc' := 46) zd_Re_reads_45 (by decide) rfl ?_
        obtain ⟨rfl, rfl⟩ := rt_q h
        exact zg_iret zd_Re_reads_46 (zrt_z (by decide))
      · refine zg_icmp_ne (tgt := 47) (pc' := 45) zd_Re_reads_42 (by decide) rfl (fun _ => ?_) (fun q => absurd q c8)
        refine zg_iload_n (pc' := 48) zd_Re_reads_47 rfl rfl ?_
        refine zg_iconst (x := (1 : Int32)) (pc' := 49) zd_Re_reads_48 (by decide) rfl ?_
        refine zg_iadd (pc' := 50) zd_Re_reads_49 rfl ?_
        refine zg_bipush (x := (10 : Int32)) (pc' := 52) zd_Re_reads_50 (by decide) rfl ?_
        rcases br_some h with ⟨c9, h⟩ | ⟨c9, h⟩
        · refine zg_icmp_eq (tgt := 64) (pc' := 55) zd_Re_reads_52 (by decide) rfl (fun _ => ?_) (fun q => absurd c9 q)
          refine zg_iconst (x := (0 : Int32)) (pc' := 65) zd_Re_reads_64 (by decide) rfl ?_
          obtain ⟨rfl, rfl⟩ := rt_q h
          exact zg_iret zd_Re_reads_65 (zrt_z (by decide))
        · refine zg_icmp_eq (tgt := 64) (pc' := 55) zd_Re_reads_52 (by decide) rfl (fun q => absurd q c9) (fun _ => ?_)
          refine zg_aload_n (pc' := 56) zd_Re_reads_55 rfl rfl ?_
          refine zg_bipush (x := (59 : Int32)) (pc' := 58) zd_Re_reads_56 (by decide) rfl ?_
          obtain ⟨r12, S10, e11, h⟩ := bq_some h
          refine zg_callV (ci := 3) (As := [.int (59 : Int32)]) (rest := []) (pc' := 61) zl_Re_41 zq508 zqp3 ⟨_, rfl, rfl⟩ zd_Re_reads_58 rfl rfl (Nat.le_of_ble_eq_true rfl) (by omega) (gT_ok g7) (tm_Re_eat (d := 3) (Nat.le_refl _) e11) rfl ?_
          refine zg_st (st' := [.int r12]) rfl ?_
          rcases br_some h with ⟨c13, h⟩ | ⟨c13, h⟩
          · refine zg_if_ne (tgt := 66) (pc' := 64) zd_Re_reads_61 (by decide) rfl (fun q => absurd c13 q) (fun _ => ?_)
            refine zg_iconst (x := (0 : Int32)) (pc' := 65) zd_Re_reads_64 (by decide) rfl ?_
            obtain ⟨rfl, rfl⟩ := rt_q h
            exact zg_iret zd_Re_reads_65 (zrt_z (by decide))
          · refine zg_if_ne (tgt := 66) (pc' := 64) zd_Re_reads_61 (by decide) rfl (fun _ => ?_) (fun q => absurd q c13)
            refine zg_iinc (y := (a2 + (1 : Int32))) (L' := [some (.ref a0), none, some (.int (a2 + (1 : Int32)))]) (pc' := 69) zd_Re_reads_66 rfl rfl (by decide) rfl rfl ?_
            refine zg_goto (tgt := 19) zd_Re_reads_69 (by decide) ?_
            exact hK19 _ _ _ h
set_option maxRecDepth 100000 in
def fn_Re_reads (a0 : Nat) (a1 : Nat) (S : zS) : Option (Int32 × zS) :=
  gd (gT S a0 103) <|
  nm (uI S a0 2 (0 : Int32)) fun S2 =>
  gd (gT S2 a0 103) <|
  nm (uR S2 a0 4 a1) fun S4 =>
  gd (gT S4 a0 103) <|
  gd (gT S4 (zR S4 a0 4) 102) <|
  bv (fn_Or_begin (zR S4 a0 4) S4) fun S7 =>
  lp (σ := Nat × Int32 × zS) (fun k s => fn_Re_reads_L19 s.1 s.2.1 s.2.2 (fun (a0 : Nat) (a2 : Int32) (S : zS) => k (a0, a2, S))) FU (a0, (0 : Int32), S7)
set_option maxRecDepth 100000 in
set_option maxHeartbeats 4000000 in
theorem tm_Re_reads {X : zXt} {d : Nat} (hd : 67 ≤ d) {v : Int32} {a0 : Nat} {a1 : Nat} {S : zS} {S' : zS} (h : fn_Re_reads a0 a1 S = some (v, S')) : zM X zy_Re_reads prog_5_method_2_code 3 (Option.some Jvm.ClassFile.FieldType.boolean) d [.ref a0, .ref a1] S (some (.int v)) S' := by
  refine zM_of (ini := false) (L := [some (.ref a0), some (.ref a1), none]) (plainFor_of_name (by decide)) (fun h => by cases h) (Nat.le_of_ble_eq_true rfl) rfl ?_
  unfold fn_Re_reads at h
  refine zg_aload_n (pc' := 1) zd_Re_reads_0 rfl rfl ?_
  refine zg_iconst (x := (0 : Int32)) (pc' := 2) zd_Re_reads_1 (by decide) rfl ?_
  obtain ⟨g1, h⟩ := gd_some h
  refine zg_putI (pc' := 5) zf_Re_19 zd_Re_reads_2 (Or.inl rfl) (gT_ok g1) rfl ?_
  obtain ⟨S2, eS2, h⟩ := nm_some h
  refine zg_nm eS2 ?_
  refine zg_aload_n (pc' := 6) zd_Re_reads_5 rfl rfl ?_
  refine zg_aload_n (pc' := 7) zd_Re_reads_6 rfl rfl ?_
  obtain ⟨g3, h⟩ := gd_some h
  refine zg_putR (pc' := 10) zf_Re_30 rfl zd_Re_reads_7 (Or.inl rfl) (gT_ok g3) rfl ?_
  obtain ⟨S4, eS4, h⟩ := nm_some h
  refine zg_nm eS4 ?_
  refine zg_aload_n (pc' := 11) zd_Re_reads_10 rfl rfl ?_
  obtain ⟨g5, h⟩ := gd_some h
  refine zg_getR (pc' := 14) zf_Re_30 rfl zd_Re_reads_11 (gT_ok g5) rfl ?_
  obtain ⟨g6, h⟩ := gd_some h
  obtain ⟨S7, e8, h⟩ := bv_some h
  refine zg_callV (ci := 2) (As := []) (rest := []) (pc' := 17) zl_Re_34 zq442 zq443 ⟨_, rfl, rfl⟩ zd_Re_reads_14 rfl rfl (Nat.le_of_ble_eq_true rfl) (by omega) (gT_ok g6) (tm_Or_begin (d := 2) (Nat.le_refl _) e8) rfl ?_
  refine zg_st (st' := []) rfl ?_
  refine zg_iconst (x := (0 : Int32)) (pc' := 18) zd_Re_reads_17 (by decide) rfl ?_
  refine zg_istore_n (L' := [some (.ref a0), some (.ref a1), some (.int (0 : Int32))]) (pc' := 19) zd_Re_reads_18 (by decide) rfl rfl ?_
  refine zg_mask (L' := [some (.ref a0), none, some (.int (0 : Int32))]) (zmk_ok _ _ ⟨rfl, ⟨rfl, trivial⟩⟩) ?_
  exact lp_indh h (P := fun s => zG X zm_Re_reads d 19 [some (.ref (s.1)), none, some (.int (s.2.1))] [] (s.2.2) (some (.int v)) S') (fun k hk s h => tm_Re_reads_L19 hd (fun a0 a2 S h => hk (a0, a2, S) h) h)
