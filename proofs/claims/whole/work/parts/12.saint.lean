theorem zd_Sa_init_0 : decode prog_7_method_1_code 0 = .ok (.aload_n 0, 1) := by decide +kernel
theorem zd_Sa_init_1 : decode prog_7_method_1_code 1 = .ok (.invokespecial 3, 3) := by decide +kernel
theorem zd_Sa_init_4 : decode prog_7_method_1_code 4 = .ok (.aload_n 0, 1) := by decide +kernel
theorem zd_Sa_init_5 : decode prog_7_method_1_code 5 = .ok (.iconst 4, 1) := by decide +kernel
theorem zd_Sa_init_6 : decode prog_7_method_1_code 6 = .ok (.newarray .int, 2) := by decide +kernel
theorem zd_Sa_init_8 : decode prog_7_method_1_code 8 = .ok (.putfield 9, 3) := by decide +kernel
theorem zd_Sa_init_11 : decode prog_7_method_1_code 11 = .ok (.aload_n 0, 1) := by decide +kernel
theorem zd_Sa_init_12 : decode prog_7_method_1_code 12 = .ok (.iconst 0, 1) := by decide +kernel
theorem zd_Sa_init_13 : decode prog_7_method_1_code 13 = .ok (.putfield 15, 3) := by decide +kernel
theorem zd_Sa_init_16 : decode prog_7_method_1_code 16 = .ok (.aload_n 0, 1) := by decide +kernel
theorem zd_Sa_init_17 : decode prog_7_method_1_code 17 = .ok (.iconst 0, 1) := by decide +kernel
theorem zd_Sa_init_18 : decode prog_7_method_1_code 18 = .ok (.putfield 19, 3) := by decide +kernel
theorem zd_Sa_init_21 : decode prog_7_method_1_code 21 = .ok (.aload_n 0, 1) := by decide +kernel
theorem zd_Sa_init_22 : decode prog_7_method_1_code 22 = .ok (.iconst 0, 1) := by decide +kernel
theorem zd_Sa_init_23 : decode prog_7_method_1_code 23 = .ok (.putfield 22, 3) := by decide +kernel
theorem zd_Sa_init_26 : decode prog_7_method_1_code 26 = .ok (.aload_n 0, 1) := by decide +kernel
theorem zd_Sa_init_27 : decode prog_7_method_1_code 27 = .ok (.iconst 0, 1) := by decide +kernel
theorem zd_Sa_init_28 : decode prog_7_method_1_code 28 = .ok (.putfield 25, 3) := by decide +kernel
theorem zd_Sa_init_31 : decode prog_7_method_1_code 31 = .ok (.aload_n 0, 1) := by decide +kernel
theorem zd_Sa_init_32 : decode prog_7_method_1_code 32 = .ok (.iconst (-1), 1) := by decide +kernel
theorem zd_Sa_init_33 : decode prog_7_method_1_code 33 = .ok (.putfield 28, 3) := by decide +kernel
theorem zd_Sa_init_36 : decode prog_7_method_1_code 36 = .ok (.aload_n 0, 1) := by decide +kernel
theorem zd_Sa_init_37 : decode prog_7_method_1_code 37 = .ok (.iconst 0, 1) := by decide +kernel
theorem zd_Sa_init_38 : decode prog_7_method_1_code 38 = .ok (.putfield 31, 3) := by decide +kernel
theorem zd_Sa_init_41 : decode prog_7_method_1_code 41 = .ok (.aload_n 0, 1) := by decide +kernel
theorem zd_Sa_init_42 : decode prog_7_method_1_code 42 = .ok (.iload_n 1, 1) := by decide +kernel
theorem zd_Sa_init_43 : decode prog_7_method_1_code 43 = .ok (.putfield 35, 3) := by decide +kernel
theorem zd_Sa_init_46 : decode prog_7_method_1_code 46 = .ok (.return_, 1) := by decide +kernel
abbrev zm_Sa_init : zQ := ("LoofahSaints$Saint", prog_7_method_1_code, 2, (Option.none : Option Jvm.ClassFile.FieldType), true)
set_option maxRecDepth 100000 in
def fn_Sa_init (a0 : Nat) (a1 : Int32) (S : zS) : Option (zS) :=
  gd (gT S a0 105) <|
  gd (gN (4 : Int32)) <|
  nm (uN S (1, (4 : Int32).toNatClampNeg)) fun S3 =>
  gd (gT S3 a0 105) <|
  nm (uR S3 a0 0 (zN S)) fun S5 =>
  gd (gT S5 a0 105) <|
  nm (uI S5 a0 2 (0 : Int32)) fun S7 =>
  gd (gT S7 a0 105) <|
  nm (uI S7 a0 3 (0 : Int32)) fun S9 =>
  gd (gT S9 a0 105) <|
  nm (uI S9 a0 4 (0 : Int32)) fun S11 =>
  gd (gT S11 a0 105) <|
  nm (uI S11 a0 5 (0 : Int32)) fun S13 =>
  gd (gT S13 a0 105) <|
  nm (uI S13 a0 6 (-1 : Int32)) fun S15 =>
  gd (gT S15 a0 105) <|
  nm (uI S15 a0 7 (0 : Int32)) fun S17 =>
  gd (gT S17 a0 105) <|
  nm (uI S17 a0 1 a1) fun S19 =>
  some S19
set_option maxRecDepth 100000 in
set_option maxHeartbeats 4000000 in
theorem tm_Sa_init {X : zXt} {d : Nat} (hd : 2 ≤ d) {a0 : Nat} {a1 : Int32} {S : zS} {S' : zS} (h : fn_Sa_init a0 a1 S = some S') : zM X zy_Sa_init prog_7_method_1_code 2 (Option.none : Option Jvm.ClassFile.FieldType) d [.ref a0, .int a1] S none S' := by
  refine zM_of (ini := true) (L := [some (.ref a0), some (.int a1)]) (plainFor_of_name (by decide)) (fun _ => rfl) (Nat.le_of_ble_eq_true rfl) rfl ?_
  unfold fn_Sa_init at h
  refine zg_aload_n (pc' := 1) zd_Sa_init_0 rfl rfl ?_
  obtain ⟨g1, h⟩ := gd_some h
  refine zg_oinit (ci := 5) (pc' := 4) zq137 zq25 zq26 zd_Sa_init_1 (by omega) (gT_ok g1) (Nat.le_of_ble_eq_true rfl) rfl ?_
  refine zg_aload_n (pc' := 5) zd_Sa_init_4 rfl rfl ?_
  refine zg_iconst (x := (4 : Int32)) (pc' := 6) zd_Sa_init_5 (by decide) rfl ?_
  obtain ⟨g2, h⟩ := gd_some h
  refine zg_newa (t := 1) (ty := .int) (pc' := 8) rfl (by simp) zq59 zd_Sa_init_6 (gN_ok g2).1 (gN_ok g2).2 rfl ?_
  obtain ⟨S3, eS3, h⟩ := nm_some h
  refine zg_nm eS3 ?_
  obtain ⟨g4, h⟩ := gd_some h
  refine zg_putR (pc' := 11) zf_Sa_9 rfl zd_Sa_init_8 (Or.inr ⟨rfl, _, rfl, rfl⟩) (gT_ok g4) rfl ?_
  obtain ⟨S5, eS5, h⟩ := nm_some h
  refine zg_nm eS5 ?_
  refine zg_aload_n (pc' := 12) zd_Sa_init_11 rfl rfl ?_
  refine zg_iconst (x := (0 : Int32)) (pc' := 13) zd_Sa_init_12 (by decide) rfl ?_
  obtain ⟨g6, h⟩ := gd_some h
  refine zg_putI (pc' := 16) zf_Sa_15 zd_Sa_init_13 (Or.inl rfl) (gT_ok g6) rfl ?_
  obtain ⟨S7, eS7, h⟩ := nm_some h
  refine zg_nm eS7 ?_
  refine zg_aload_n (pc' := 17) zd_Sa_init_16 rfl rfl ?_
  refine zg_iconst (x := (0 : Int32)) (pc' := 18) zd_Sa_init_17 (by decide) rfl ?_
  obtain ⟨g8, h⟩ := gd_some h
  refine zg_putI (pc' := 21) zf_Sa_19 zd_Sa_init_18 (Or.inl rfl) (gT_ok g8) rfl ?_
  obtain ⟨S9, eS9, h⟩ := nm_some h
  refine zg_nm eS9 ?_
  refine zg_aload_n (pc' := 22) zd_Sa_init_21 rfl rfl ?_
  refine zg_iconst (x := (0 : Int32)) (pc' := 23) zd_Sa_init_22 (by decide) rfl ?_
  obtain ⟨g10, h⟩ := gd_some h
  refine zg_putI (pc' := 26) zf_Sa_22 zd_Sa_init_23 (Or.inl rfl) (gT_ok g10) rfl ?_
  obtain ⟨S11, eS11, h⟩ := nm_some h
  refine zg_nm eS11 ?_
  refine zg_aload_n (pc' := 27) zd_Sa_init_26 rfl rfl ?_
  refine zg_iconst (x := (0 : Int32)) (pc' := 28) zd_Sa_init_27 (by decide) rfl ?_
  obtain ⟨g12, h⟩ := gd_some h
  refine zg_putI (pc' := 31) zf_Sa_25 zd_Sa_init_28 (Or.inl rfl) (gT_ok g12) rfl ?_
  obtain ⟨S13, eS13, h⟩ := nm_some h
  refine zg_nm eS13 ?_
  refine zg_aload_n (pc' := 32) zd_Sa_init_31 rfl rfl ?_
  refine zg_iconst (x := (-1 : Int32)) (pc' := 33) zd_Sa_init_32 (by decide) rfl ?_
  obtain ⟨g14, h⟩ := gd_some h
  refine zg_putI (pc' := 36) zf_Sa_28 zd_Sa_init_33 (Or.inl rfl) (gT_ok g14) rfl ?_
  obtain ⟨S15, eS15, h⟩ := nm_some h
  refine zg_nm eS15 ?_
  refine zg_aload_n (pc' := 37) zd_Sa_init_36 rfl rfl ?_
  refine zg_iconst (x := (0 : Int32)) (pc' := 38) zd_Sa_init_37 (by decide) rfl ?_
  obtain ⟨g16, h⟩ := gd_some h
  refine zg_putZ (pc' := 41) zf_Sa_31 zd_Sa_init_38 (Or.inl rfl) (gT_ok g16) (by decide) rfl ?_
  obtain ⟨S17, eS17, h⟩ := nm_some h
  refine zg_nm eS17 ?_
  refine zg_aload_n (pc' := 42) zd_Sa_init_41 rfl rfl ?_
  refine zg_iload_n (pc' := 43) zd_Sa_init_42 rfl rfl ?_
  obtain ⟨g18, h⟩ := gd_some h
  refine zg_putI (pc' := 46) zf_Sa_35 zd_Sa_init_43 (Or.inl rfl) (gT_ok g18) rfl ?_
  obtain ⟨S19, eS19, h⟩ := nm_some h
  refine zg_nm eS19 ?_
  obtain rfl := rt_v h
  exact zg_vret zd_Sa_init_46 rfl
theorem zd_Rw_init_0 : decode prog_6_method_1_code 0 = .ok (.aload_n 0, 1) := by decide +kernel
theorem zd_Rw_init_1 : decode prog_6_method_1_code 1 = .ok (.invokespecial 3, 3) := by decide +kernel
theorem zd_Rw_init_4 : decode prog_6_method_1_code 4 = .ok (.aload_n 0, 1) := by decide +kernel
theorem zd_Rw_init_5 : decode prog_6_method_1_code 5 = .ok (.iconst 0, 1) := by decide +kernel
theorem zd_Rw_init_6 : decode prog_6_method_1_code 6 = .ok (.putfield 9, 3) := by decide +kernel
theorem zd_Rw_init_9 : decode prog_6_method_1_code 9 = .ok (.aload_n 0, 1) := by decide +kernel
theorem zd_Rw_init_10 : decode prog_6_method_1_code 10 = .ok (.iload_n 1, 1) := by decide +kernel
theorem zd_Rw_init_11 : decode prog_6_method_1_code 11 = .ok (.putfield 15, 3) := by decide +kernel
theorem zd_Rw_init_14 : decode prog_6_method_1_code 14 = .ok (.aload_n 0, 1) := by decide +kernel
theorem zd_Rw_init_15 : decode prog_6_method_1_code 15 = .ok (.iload_n 1, 1) := by decide +kernel
theorem zd_Rw_init_16 : decode prog_6_method_1_code 16 = .ok (.iconst 3, 1) := by decide +kernel
theorem zd_Rw_init_17 : decode prog_6_method_1_code 17 = .ok (.imul, 1) := by decide +kernel
theorem zd_Rw_init_18 : decode prog_6_method_1_code 18 = .ok (.newarray .int, 2) := by decide +kernel
theorem zd_Rw_init_20 : decode prog_6_method_1_code 20 = .ok (.putfield 18, 3) := by decide +kernel
theorem zd_Rw_init_23 : decode prog_6_method_1_code 23 = .ok (.return_, 1) := by decide +kernel
abbrev zm_Rw_init : zQ := ("LoofahSaints$Rows", prog_6_method_1_code, 2, (Option.none : Option Jvm.ClassFile.FieldType), true)
set_option maxRecDepth 100000 in
def fn_Rw_init (a0 : Nat) (a1 : Int32) (S : zS) : Option (zS) :=
  gd (gT S a0 104) <|
  nm (uI S a0 2 (0 : Int32)) fun S2 =>
  gd (gT S2 a0 104) <|
  nm (uI S2 a0 1 a1) fun S4 =>
  gd (gN (a1 * (3 : Int32))) <|
  nm (uN S4 (1, (a1 * (3 : Int32)).toNatClampNeg)) fun S6 =>
  gd (gT S6 a0 104) <|
  nm (uR S6 a0 0 (zN S4)) fun S8 =>
  some S8
set_option maxRecDepth 100000 in
set_option maxHeartbeats 4000000 in
theorem tm_Rw_init {X : zXt} {d : Nat} (hd : 2 ≤ d) {a0 : Nat} {a1 : Int32} {S : zS} {S' : zS} (h : fn_Rw_init a0 a1 S = some S') : zM X zy_Rw_init prog_6_method_1_code 2 (Option.none : Option Jvm.ClassFile.FieldType) d [.ref a0, .int a1] S none S' := by
  refine zM_of (ini := true) (L := [some (.ref a0), some (.int a1)]) (plainFor_of_name (by decide)) (fun _ => rfl) (Nat.le_of_ble_eq_true rfl) rfl ?_
  unfold fn_Rw_init at h
  refine zg_aload_n (pc' := 1) zd_Rw_init_0 rfl rfl ?_
  obtain ⟨g1, h⟩ := gd_some h
  refine zg_oinit (ci := 4) (pc' := 4) zq209 zq25 zq26 zd_Rw_init_1 (by omega) (gT_ok g1) (Nat.le_of_ble_eq_true rfl) rfl ?_
  refine zg_aload_n (pc' := 5) zd_Rw_init_4 rfl rfl ?_
  refine zg_iconst (x := (0 : Int32)) (pc' := 6) zd_Rw_init_5 (by decide) rfl ?_
  refine zg_putI (pc' := 9) zf_Rw_9 zd_Rw_init_6 (Or.inl rfl) (gT_ok g1) rfl ?_
  obtain ⟨S2, eS2, h⟩ := nm_some h
  refine zg_nm eS2 ?_
  refine zg_aload_n (pc' := 10) zd_Rw_init_9 rfl rfl ?_
  refine zg_iload_n (pc' := 11) zd_Rw_init_10 rfl rfl ?_
  obtain ⟨g3, h⟩ := gd_some h
  refine zg_putI (pc' := 14) zf_Rw_15 zd_Rw_init_11 (Or.inr ⟨rfl, _, rfl, rfl⟩) (gT_ok g3) rfl ?_
  obtain ⟨S4, eS4, h⟩ := nm_some h
  refine zg_nm eS4 ?_
  refine zg_aload_n (pc' := 15) zd_Rw_init_14 rfl rfl ?_
  refine zg_iload_n (pc' := 16) zd_Rw_init_15 rfl rfl ?_
  refine zg_iconst (x := (3 : Int32)) (pc' := 17) zd_Rw_init_16 (by decide) rfl ?_
  refine zg_imul (pc' := 18) zd_Rw_init_17 rfl ?_
  obtain ⟨g5, h⟩ := gd_some h
  refine zg_newa (t := 1) (ty := .int) (pc' := 20) rfl (by simp) zq59 zd_Rw_init_18 (gN_ok g5).1 (gN_ok g5).2 rfl ?_
  obtain ⟨S6, eS6, h⟩ := nm_some h
  refine zg_nm eS6 ?_
  obtain ⟨g7, h⟩ := gd_some h
  refine zg_putR (pc' := 23) zf_Rw_18 rfl zd_Rw_init_20 (Or.inr ⟨rfl, _, rfl, rfl⟩) (gT_ok g7) rfl ?_
  obtain ⟨S8, eS8, h⟩ := nm_some h
  refine zg_nm eS8 ?_
  obtain rfl := rt_v h
  exact zg_vret zd_Rw_init_23 rfl
theorem zd_Rw_copy_0 : decode prog_6_method_5_code 0 = .ok (.aload_n 0, 1) := by decide +kernel
theorem zd_Rw_copy_1 : decode prog_6_method_5_code 1 = .ok (.aload_n 1, 1) := by decide +kernel
theorem zd_Rw_copy_2 : decode prog_6_method_5_code 2 = .ok (.getfield 9, 3) := by decide +kernel
theorem zd_Rw_copy_5 : decode prog_6_method_5_code 5 = .ok (.aload_n 0, 1) := by decide +kernel
theorem zd_Rw_copy_6 : decode prog_6_method_5_code 6 = .ok (.getfield 15, 3) := by decide +kernel
theorem zd_Rw_copy_9 : decode prog_6_method_5_code 9 = .ok (.invokestatic 22, 3) := by decide +kernel
theorem zd_Rw_copy_12 : decode prog_6_method_5_code 12 = .ok (.putfield 9, 3) := by decide +kernel
theorem zd_Rw_copy_15 : decode prog_6_method_5_code 15 = .ok (.aload_n 1, 1) := by decide +kernel
theorem zd_Rw_copy_16 : decode prog_6_method_5_code 16 = .ok (.getfield 18, 3) := by decide +kernel
theorem zd_Rw_copy_19 : decode prog_6_method_5_code 19 = .ok (.iconst 0, 1) := by decide +kernel
theorem zd_Rw_copy_20 : decode prog_6_method_5_code 20 = .ok (.aload_n 0, 1) := by decide +kernel
theorem zd_Rw_copy_21 : decode prog_6_method_5_code 21 = .ok (.getfield 18, 3) := by decide +kernel
theorem zd_Rw_copy_24 : decode prog_6_method_5_code 24 = .ok (.iconst 0, 1) := by decide +kernel
theorem zd_Rw_copy_25 : decode prog_6_method_5_code 25 = .ok (.aload_n 0, 1) := by decide +kernel
theorem zd_Rw_copy_26 : decode prog_6_method_5_code 26 = .ok (.getfield 9, 3) := by decide +kernel
theorem zd_Rw_copy_29 : decode prog_6_method_5_code 29 = .ok (.iconst 3, 1) := by decide +kernel
theorem zd_Rw_copy_30 : decode prog_6_method_5_code 30 = .ok (.imul, 1) := by decide +kernel
theorem zd_Rw_copy_31 : decode prog_6_method_5_code 31 = .ok (.invokestatic 28, 3) := by decide +kernel
theorem zd_Rw_copy_34 : decode prog_6_method_5_code 34 = .ok (.return_, 1) := by decide +kernel
abbrev zm_Rw_copy : zQ := ("LoofahSaints$Rows", prog_6_method_5_code, 2, (Option.none : Option Jvm.ClassFile.FieldType), false)
set_option maxRecDepth 100000 in
def fn_Rw_copy (a0 : Nat) (a1 : Nat) (S : zS) : Option (zS) :=
  gd (gT S a1 104) <|
  gd (gT S a0 104) <|
  bq (fn_Jd_min (zI S a1 2) (zI S a0 1) S) fun r5 S3 =>
  gd (gT S3 a0 104) <|
  nm (uI S3 a0 2 r5) fun S7 =>
  gd (gT S7 a1 104) <|
  gd (gT S7 a0 104) <|
  gd (gK S7 1 (zR S7 a1 0) (zR S7 a0 0) (0 : Int32) (0 : Int32) ((zI S7 a0 2) * (3 : Int32))) <|
  nm (kI S7 (zR S7 a1 0) (0 : Int32).toNatClampNeg (zR S7 a0 0) (0 : Int32).toNatClampNeg ((zI S7 a0 2) * (3 : Int32)).toNatClampNeg) fun S11 =>
  some S11
set_option maxRecDepth 100000 in
set_option maxHeartbeats 4000000 in
theorem tm_Rw_copy {X : zXt} {d : Nat} (hd : 3 ≤ d) {a0 : Nat} {a1 : Nat} {S : zS} {S' : zS} (h : fn_Rw_copy a0 a1 S = some S') : zM X zy_Rw_copy prog_6_method_5_code 2 (Option.none : Option Jvm.ClassFile.FieldType) d [.ref a0, .ref a1] S none S' := by
  refine zM_of (ini := false) (L := [some (.ref a0), some (.ref a1)]) (plainFor_of_name (by decide)) (fun h => by cases h) (Nat.le_of_ble_eq_true rfl) rfl ?_
  unfold fn_Rw_copy at h
  refine zg_aload_n (pc' := 1) zd_Rw_copy_0 rfl rfl ?_
  refine zg_aload_n (pc' := 2) zd_Rw_copy_1 rfl rfl ?_
  obtain ⟨g1, h⟩ := gd_some h
  refine zg_getI (pc' := 5) zf_Rw_9 zd_Rw_copy_2 (gT_ok g1) rfl ?_
  refine zg_aload_n (pc' := 6) zd_Rw_copy_5 rfl rfl ?_
  obtain ⟨g2, h⟩ := gd_some h
  refine zg_getI (pc' := 9) zf_Rw_15 zd_Rw_copy_6 (gT_ok g2) rfl ?_
  obtain ⟨r5, S3, e4, h⟩ := bq_some h
  refine zg_callS (As := [.int (zI S a1 2), .int (zI S a0 1)]) (rest := [.ref a0]) (pc' := 12) zl_Rw_22 zq398 zd_Rw_copy_9 rfl rfl (Nat.le_of_ble_eq_true rfl) (by omega) (tm_Jd_min (d := 2) (Nat.le_refl _) e4) rfl ?_
  refine zg_st (st' := [.int r5, .ref a0]) rfl ?_
  obtain ⟨g6, h⟩ := gd_some h
  refine zg_putI (pc' := 15) zf_Rw_9 zd_Rw_copy_12 (Or.inl rfl) (gT_ok g6) rfl ?_
  obtain ⟨S7, eS7, h⟩ := nm_some h
  refine zg_nm eS7 ?_
  refine zg_aload_n (pc' := 16) zd_Rw_copy_15 rfl rfl ?_
  obtain ⟨g8, h⟩ := gd_some h
  refine zg_getR (pc' := 19) zf_Rw_18 rfl zd_Rw_copy_16 (gT_ok g8) rfl ?_
  refine zg_iconst (x := (0 : Int32)) (pc' := 20) zd_Rw_copy_19 (by decide) rfl ?_
  refine zg_aload_n (pc' := 21) zd_Rw_copy_20 rfl rfl ?_
  obtain ⟨g9, h⟩ := gd_some h
  refine zg_getR (pc' := 24) zf_Rw_18 rfl zd_Rw_copy_21 (gT_ok g9) rfl ?_
  refine zg_iconst (x := (0 : Int32)) (pc' := 25) zd_Rw_copy_24 (by decide) rfl ?_
  refine zg_aload_n (pc' := 26) zd_Rw_copy_25 rfl rfl ?_
  refine zg_getI (pc' := 29) zf_Rw_9 zd_Rw_copy_26 (gT_ok g9) rfl ?_
  refine zg_iconst (x := (3 : Int32)) (pc' := 30) zd_Rw_copy_29 (by decide) rfl ?_
  refine zg_imul (pc' := 31) zd_Rw_copy_30 rfl ?_
  obtain ⟨g10, h⟩ := gd_some h
  refine zg_copyI (pc' := 34) zq564 zq557 zq556 zq17 zd_Rw_copy_31 (by omega) (Nat.le_of_ble_eq_true rfl) (gK_ok g10).1 (gK_ok g10).2.1 (gK_ok g10).2.2.1 (gK_ok g10).2.2.2.1 (gK_ok g10).2.2.2.2.1 (gK_ok g10).2.2.2.2.2.1 (gK_ok g10).2.2.2.2.2.2.1 (gK_ok g10).2.2.2.2.2.2.2.1 (gK_ok g10).2.2.2.2.2.2.2.2 rfl ?_
  obtain ⟨S11, eS11, h⟩ := nm_some h
  refine zg_nm eS11 ?_
  obtain rfl := rt_v h
  exact zg_vret zd_Rw_copy_34 rfl
theorem zd_Sa_copy_0 : decode prog_7_method_3_code 0 = .ok (.aload_n 0, 1) := by decide +kernel
theorem zd_Sa_copy_1 : decode prog_7_method_3_code 1 = .ok (.aload_n 1, 1) := by decide +kernel
theorem zd_Sa_copy_2 : decode prog_7_method_3_code 2 = .ok (.getfield 35, 3) := by decide +kernel
theorem zd_Sa_copy_5 : decode prog_7_method_3_code 5 = .ok (.putfield 35, 3) := by decide +kernel
theorem zd_Sa_copy_8 : decode prog_7_method_3_code 8 = .ok (.aload_n 0, 1) := by decide +kernel
theorem zd_Sa_copy_9 : decode prog_7_method_3_code 9 = .ok (.aload_n 1, 1) := by decide +kernel
theorem zd_Sa_copy_10 : decode prog_7_method_3_code 10 = .ok (.getfield 15, 3) := by decide +kernel
theorem zd_Sa_copy_13 : decode prog_7_method_3_code 13 = .ok (.putfield 15, 3) := by decide +kernel
theorem zd_Sa_copy_16 : decode prog_7_method_3_code 16 = .ok (.aload_n 0, 1) := by decide +kernel
theorem zd_Sa_copy_17 : decode prog_7_method_3_code 17 = .ok (.aload_n 1, 1) := by decide +kernel
theorem zd_Sa_copy_18 : decode prog_7_method_3_code 18 = .ok (.getfield 19, 3) := by decide +kernel
theorem zd_Sa_copy_21 : decode prog_7_method_3_code 21 = .ok (.putfield 19, 3) := by decide +kernel
theorem zd_Sa_copy_24 : decode prog_7_method_3_code 24 = .ok (.aload_n 0, 1) := by decide +kernel
theorem zd_Sa_copy_25 : decode prog_7_method_3_code 25 = .ok (.aload_n 1, 1) := by decide +kernel
theorem zd_Sa_copy_26 : decode prog_7_method_3_code 26 = .ok (.getfield 22, 3) := by decide +kernel
theorem zd_Sa_copy_29 : decode prog_7_method_3_code 29 = .ok (.putfield 22, 3) := by decide +kernel
theorem zd_Sa_copy_32 : decode prog_7_method_3_code 32 = .ok (.aload_n 0, 1) := by decide +kernel
theorem zd_Sa_copy_33 : decode prog_7_method_3_code 33 = .ok (.aload_n 1, 1) := by decide +kernel
theorem zd_Sa_copy_34 : decode prog_7_method_3_code 34 = .ok (.getfield 25, 3) := by decide +kernel
theorem zd_Sa_copy_37 : decode prog_7_method_3_code 37 = .ok (.putfield 25, 3) := by decide +kernel
theorem zd_Sa_copy_40 : decode prog_7_method_3_code 40 = .ok (.aload_n 0, 1) := by decide +kernel
theorem zd_Sa_copy_41 : decode prog_7_method_3_code 41 = .ok (.aload_n 1, 1) := by decide +kernel
theorem zd_Sa_copy_42 : decode prog_7_method_3_code 42 = .ok (.getfield 28, 3) := by decide +kernel
theorem zd_Sa_copy_45 : decode prog_7_method_3_code 45 = .ok (.putfield 28, 3) := by decide +kernel
theorem zd_Sa_copy_48 : decode prog_7_method_3_code 48 = .ok (.aload_n 0, 1) := by decide +kernel
theorem zd_Sa_copy_49 : decode prog_7_method_3_code 49 = .ok (.aload_n 1, 1) := by decide +kernel
theorem zd_Sa_copy_50 : decode prog_7_method_3_code 50 = .ok (.getfield 31, 3) := by decide +kernel
theorem zd_Sa_copy_53 : decode prog_7_method_3_code 53 = .ok (.putfield 31, 3) := by decide +kernel
theorem zd_Sa_copy_56 : decode prog_7_method_3_code 56 = .ok (.aload_n 1, 1) := by decide +kernel
theorem zd_Sa_copy_57 : decode prog_7_method_3_code 57 = .ok (.getfield 9, 3) := by decide +kernel
theorem zd_Sa_copy_60 : decode prog_7_method_3_code 60 = .ok (.iconst 0, 1) := by decide +kernel
theorem zd_Sa_copy_61 : decode prog_7_method_3_code 61 = .ok (.aload_n 0, 1) := by decide +kernel
theorem zd_Sa_copy_62 : decode prog_7_method_3_code 62 = .ok (.getfield 9, 3) := by decide +kernel
theorem zd_Sa_copy_65 : decode prog_7_method_3_code 65 = .ok (.iconst 0, 1) := by decide +kernel
theorem zd_Sa_copy_66 : decode prog_7_method_3_code 66 = .ok (.iconst 4, 1) := by decide +kernel
theorem zd_Sa_copy_67 : decode prog_7_method_3_code 67 = .ok (.invokestatic 38, 3) := by decide +kernel
theorem zd_Sa_copy_70 : decode prog_7_method_3_code 70 = .ok (.return_, 1) := by decide +kernel
abbrev zm_Sa_copy : zQ := ("LoofahSaints$Saint", prog_7_method_3_code, 2, (Option.none : Option Jvm.ClassFile.FieldType), false)
set_option maxRecDepth 100000 in
def fn_Sa_copy (a0 : Nat) (a1 : Nat) (S : zS) : Option (zS) :=
  gd (gT S a1 105) <|
  gd (gT S a0 105) <|
  nm (uI S a0 1 (zI S a1 1)) fun S3 =>
  gd (gT S3 a1 105) <|
  gd (gT S3 a0 105) <|
  nm (uI S3 a0 2 (zI S3 a1 2)) fun S6 =>
  gd (gT S6 a1 105) <|
  gd (gT S6 a0 105) <|
  nm (uI S6 a0 3 (zI S6 a1 3)) fun S9 =>
  gd (gT S9 a1 105) <|
  gd (gT S9 a0 105) <|
  nm (uI S9 a0 4 (zI S9 a1 4)) fun S12 =>
  gd (gT S12 a1 105) <|
  gd (gT S12 a0 105) <|
  nm (uI S12 a0 5 (zI S12 a1 5)) fun S15 =>
  gd (gT S15 a1 105) <|
  gd (gT S15 a0 105) <|
  nm (uI S15 a0 6 (zI S15 a1 6)) fun S18 =>
  gd (gT S18 a1 105) <|
  gd (gT S18 a0 105) <|
  gd (gZo (zI S18 a1 7)) <|
  nm (uI S18 a0 7 (zI S18 a1 7)) fun S22 =>
  gd (gT S22 a1 105) <|
  gd (gT S22 a0 105) <|
  gd (gK S22 1 (zR S22 a1 0) (zR S22 a0 0) (0 : Int32) (0 : Int32) (4 : Int32)) <|
  nm (kI S22 (zR S22 a1 0) (0 : Int32).toNatClampNeg (zR S22 a0 0) (0 : Int32).toNatClampNeg (4 : Int32).toNatClampNeg) fun S26 =>
  some S26
set_option maxRecDepth 100000 in
set_option maxHeartbeats 4000000 in
theorem tm_Sa_copy {X : zXt} {d : Nat} (hd : 2 ≤ d) {a0 : Nat} {a1 : Nat} {S : zS} {S' : zS} (h : fn_Sa_copy a0 a1 S = some S') : zM X zy_Sa_copy prog_7_method_3_code 2 (Option.none : Option Jvm.ClassFile.FieldType) d [.ref a0, .ref a1] S none S' := by
  refine zM_of (ini := false) (L := [some (.ref a0), some (.ref a1)]) (plainFor_of_name (by decide)) (fun h => by cases h) (Nat.le_of_ble_eq_true rfl) rfl ?_
  unfold fn_Sa_copy at h
  refine zg_aload_n (pc' := 1) zd_Sa_copy_0 rfl rfl ?_
  refine zg_aload_n (pc' := 2) zd_Sa_copy_1 rfl rfl ?_
  obtain ⟨g1, h⟩ := gd_some h
  refine zg_getI (pc' := 5) zf_Sa_35 zd_Sa_copy_2 (gT_ok g1) rfl ?_
  obtain ⟨g2, h⟩ := gd_some h
  refine zg_putI (pc' := 8) zf_Sa_35 zd_Sa_copy_5 (Or.inl rfl) (gT_ok g2) rfl ?_
  obtain ⟨S3, eS3, h⟩ := nm_some h
  refine zg_nm eS3 ?_
  refine zg_aload_n (pc' := 9) zd_Sa_copy_8 rfl rfl ?_
  refine zg_aload_n (pc' := 10) zd_Sa_copy_9 rfl rfl ?_
  obtain ⟨g4, h⟩ := gd_some h
  refine zg_getI (pc' := 13) zf_Sa_15 zd_Sa_copy_10 (gT_ok g4) rfl ?_
  obtain ⟨g5, h⟩ := gd_some h
  refine zg_putI (pc' := 16) zf_Sa_15 zd_Sa_copy_13 (Or.inl rfl) (gT_ok g5) rfl ?_
  obtain ⟨S6, eS6, h⟩ := nm_some h
  refine zg_nm eS6 ?_
  refine zg_aload_n (pc' := 17) zd_Sa_copy_16 rfl rfl ?_
  refine zg_aload_n (pc' := 18) zd_Sa_copy_17 rfl rfl ?_
  obtain ⟨g7, h⟩ := gd_some h
  refine zg_getI (pc' := 21) zf_Sa_19 zd_Sa_copy_18 (gT_ok g7) rfl ?_
  obtain ⟨g8, h⟩ := gd_some h
  refine zg_putI (pc' := 24) zf_Sa_19 zd_Sa_copy_21 (Or.inl rfl) (gT_ok g8) rfl ?_
  obtain ⟨S9, eS9, h⟩ := nm_some h
  refine zg_nm eS9 ?_
  refine zg_aload_n (pc' := 25) zd_Sa_copy_24 rfl rfl ?_
  refine zg_aload_n (pc' := 26) zd_Sa_copy_25 rfl rfl ?_
  obtain ⟨g10, h⟩ := gd_some h
  refine zg_getI (pc' := 29) zf_Sa_22 zd_Sa_copy_26 (gT_ok g10) rfl ?_
  obtain ⟨g11, h⟩ := gd_some h
  refine zg_putI (pc' := 32) zf_Sa_22 zd_Sa_copy_29 (Or.inl rfl) (gT_ok g11) rfl ?_
  obtain ⟨S12, eS12, h⟩ := nm_some h
  refine zg_nm eS12 ?_
  refine zg_aload_n (pc' := 33) zd_Sa_copy_32 rfl rfl ?_
  refine zg_aload_n (pc' := 34) zd_Sa_copy_33 rfl rfl ?_
  obtain ⟨g13, h⟩ := gd_some h
  refine zg_getI (pc' := 37) zf_Sa_25 zd_Sa_copy_34 (gT_ok g13) rfl ?_
  obtain ⟨g14, h⟩ := gd_some h
  refine zg_putI (pc' := 40) zf_Sa_25 zd_Sa_copy_37 (Or.inl rfl) (gT_ok g14) rfl ?_
  obtain ⟨S15, eS15, h⟩ := nm_some h
  refine zg_nm eS15 ?_
  refine zg_aload_n (pc' := 41) zd_Sa_copy_40 rfl rfl ?_
  refine zg_aload_n (pc' := 42) zd_Sa_copy_41 rfl rfl ?_
  obtain ⟨g16, h⟩ := gd_some h
  refine zg_getI (pc' := 45) zf_Sa_28 zd_Sa_copy_42 (gT_ok g16) rfl ?_
  obtain ⟨g17, h⟩ := gd_some h
  refine zg_putI (pc' := 48) zf_Sa_28 zd_Sa_copy_45 (Or.inl rfl) (gT_ok g17) rfl ?_
  obtain ⟨S18, eS18, h⟩ := nm_some h
  refine zg_nm eS18 ?_
  refine zg_aload_n (pc' := 49) zd_Sa_copy_48 rfl rfl ?_
  refine zg_aload_n (pc' := 50) zd_Sa_copy_49 rfl rfl ?_
  obtain ⟨g19, h⟩ := gd_some h
  refine zg_getZ (pc' := 53) zf_Sa_31 zd_Sa_copy_50 (gT_ok g19) rfl ?_
  obtain ⟨g20, h⟩ := gd_some h
  obtain ⟨g21, h⟩ := gd_some h
  refine zg_putZ (pc' := 56) zf_Sa_31 zd_Sa_copy_53 (Or.inl rfl) (gT_ok g20) (gZo_ok g21) rfl ?_
  obtain ⟨S22, eS22, h⟩ := nm_some h
  refine zg_nm eS22 ?_
  refine zg_aload_n (pc' := 57) zd_Sa_copy_56 rfl rfl ?_
  obtain ⟨g23, h⟩ := gd_some h
  refine zg_getR (pc' := 60) zf_Sa_9 rfl zd_Sa_copy_57 (gT_ok g23) rfl ?_
  refine zg_iconst (x := (0 : Int32)) (pc' := 61) zd_Sa_copy_60 (by decide) rfl ?_
  refine zg_aload_n (pc' := 62) zd_Sa_copy_61 rfl rfl ?_
  obtain ⟨g24, h⟩ := gd_some h
  refine zg_getR (pc' := 65) zf_Sa_9 rfl zd_Sa_copy_62 (gT_ok g24) rfl ?_
  refine zg_iconst (x := (0 : Int32)) (pc' := 66) zd_Sa_copy_65 (by decide) rfl ?_
  refine zg_iconst (x := (4 : Int32)) (pc' := 67) zd_Sa_copy_66 (by decide) rfl ?_
  obtain ⟨g25, h⟩ := gd_some h
  refine zg_copyI (pc' := 70) zq555 zq557 zq556 zq17 zd_Sa_copy_67 (by omega) (Nat.le_of_ble_eq_true rfl) (gK_ok g25).1 (gK_ok g25).2.1 (gK_ok g25).2.2.1 (gK_ok g25).2.2.2.1 (gK_ok g25).2.2.2.2.1 (gK_ok g25).2.2.2.2.2.1 (gK_ok g25).2.2.2.2.2.2.1 (gK_ok g25).2.2.2.2.2.2.2.1 (gK_ok g25).2.2.2.2.2.2.2.2 rfl ?_
  obtain ⟨S26, eS26, h⟩ := nm_some h
  refine zg_nm eS26 ?_
  obtain rfl := rt_v h
  exact zg_vret zd_Sa_copy_70 rfl
theorem zd_Or_holds_0 : decode prog_4_method_5_code 0 = .ok (.iload_n 1, 1) := by decide +kernel
theorem zd_Or_holds_1 : decode prog_4_method_5_code 1 = .ok (.bipush 100, 2) := by decide +kernel
theorem zd_Or_holds_3 : decode prog_4_method_5_code 3 = .ok (.irem, 1) := by decide +kernel
theorem zd_Or_holds_4 : decode prog_4_method_5_code 4 = .ok (.istore_n 2, 1) := by decide +kernel
theorem zd_Or_holds_5 : decode prog_4_method_5_code 5 = .ok (.iload_n 1, 1) := by decide +kernel
theorem zd_Or_holds_6 : decode prog_4_method_5_code 6 = .ok (.bipush 100, 2) := by decide +kernel
theorem zd_Or_holds_8 : decode prog_4_method_5_code 8 = .ok (.idiv, 1) := by decide +kernel
theorem zd_Or_holds_9 : decode prog_4_method_5_code 9 = .ok (.lookupswitch 49 #[(60, 27), (61, 38)], 27) := by decide +kernel
theorem zd_Or_holds_58 : decode prog_4_method_5_code 58 = .ok (.iload_n 0, 1) := by decide +kernel
theorem zd_Or_holds_59 : decode prog_4_method_5_code 59 = .ok (.iload_n 2, 1) := by decide +kernel
theorem zd_Or_holds_60 : decode prog_4_method_5_code 60 = .ok (.if_icmp .le 7, 3) := by decide +kernel
theorem zd_Or_holds_67 : decode prog_4_method_5_code 67 = .ok (.iconst 0, 1) := by decide +kernel
theorem zd_Or_holds_63 : decode prog_4_method_5_code 63 = .ok (.iconst 1, 1) := by decide +kernel
theorem zd_Or_holds_64 : decode prog_4_method_5_code 64 = .ok (.goto 4, 3) := by decide +kernel
theorem zd_Or_holds_68 : decode prog_4_method_5_code 68 = .ok (.ireturn, 1) := by decide +kernel
theorem zd_Or_holds_47 : decode prog_4_method_5_code 47 = .ok (.iload_n 0, 1) := by decide +kernel
theorem zd_Or_holds_48 : decode prog_4_method_5_code 48 = .ok (.iload_n 2, 1) := by decide +kernel
theorem zd_Or_holds_49 : decode prog_4_method_5_code 49 = .ok (.if_icmp .ne 7, 3) := by decide +kernel
theorem zd_Or_holds_56 : decode prog_4_method_5_code 56 = .ok (.iconst 0, 1) := by decide +kernel
theorem zd_Or_holds_52 : decode prog_4_method_5_code 52 = .ok (.iconst 1, 1) := by decide +kernel
theorem zd_Or_holds_53 : decode prog_4_method_5_code 53 = .ok (.goto 4, 3) := by decide +kernel
theorem zd_Or_holds_57 : decode prog_4_method_5_code 57 = .ok (.ireturn, 1) := by decide +kernel
theorem zd_Or_holds_36 : decode prog_4_method_5_code 36 = .ok (.iload_n 0, 1) := by decide +kernel
theorem zd_Or_holds_37 : decode prog_4_method_5_code 37 = .ok (.iload_n 2, 1) := by decide +kernel
theorem zd_Or_holds_38 : decode prog_4_method_5_code 38 = .ok (.if_icmp .ge 7, 3) := by decide +kernel
theorem zd_Or_holds_45 : decode prog_4_method_5_code 45 = .ok (.iconst 0, 1) := by decide +kernel
theorem zd_Or_holds_41 : decode prog_4_method_5_code 41 = .ok (.iconst 1, 1) := by decide +kernel
theorem zd_Or_holds_42 : decode prog_4_method_5_code 42 = .ok (.goto 4, 3) := by decide +kernel
theorem zd_Or_holds_46 : decode prog_4_method_5_code 46 = .ok (.ireturn, 1) := by decide +kernel
abbrev zm_Or_holds : zQ := ("LoofahSaints$Order", prog_4_method_5_code, 3, (Option.some Jvm.ClassFile.FieldType.boolean), false)
set_option maxRecDepth 100000 in
def fn_Or_holds (a0 : Int32) (a1 : Int32) (S : zS) : Option (Int32 × zS) :=
  br (decide ((a1 / (100 : Int32)) = (60 : Int32))) (br (decide ((a1 - a1 / (100 : Int32) * (100 : Int32)) ≤ a0)) (some ((0 : Int32), S)) <|
  some ((1 : Int32), S)) <|
  br (decide ((a1 / (100 : Int32)) = (61 : Int32))) (br (decide (a0 = (a1 - a1 / (100 : Int32) * (100 : Int32)))) (some ((1 : Int32), S)) <|
  some ((0 : Int32), S)) <|
  br (decide (a0 ≤ (a1 - a1 / (100 : Int32) * (100 : Int32)))) (some ((0 : Int32), S)) <|
  some ((1 : Int32), S)
set_option maxRecDepth 100000 in
set_option maxHeartbeats 4000000 in
theorem tm_Or_holds {X : zXt} {d : Nat} (hd : 2 ≤ d) {v : Int32} {a0 : Int32} {a1 : Int32} {S : zS} {S' : zS} (h : fn_Or_holds a0 a1 S = some (v, S')) : zM X zy_Or_holds prog_4_method_5_code 3 (Option.some Jvm.ClassFile.FieldType.boolean) d [.int a0, .int a1] S (some (.int v)) S' := by
  refine zM_of (ini := false) (L := [some (.int a0), some (.int a1), none]) (plainFor_of_name (by decide)) (fun h => by cases h) (Nat.le_of_ble_eq_true rfl) rfl ?_
  unfold fn_Or_holds at h
  refine zg_iload_n (pc' := 1) zd_Or_holds_0 rfl rfl ?_
  refine zg_bipush (x := (100 : Int32)) (pc' := 3) zd_Or_holds_1 (by decide) rfl ?_
  refine zg_irem (pc' := 4) zd_Or_holds_3 rfl (by decide) ?_
  refine zg_istore_n (L' := [some (.int a0), some (.int a1), some (.int (a1 - a1 / (100 : Int32) * (100 : Int32)))]) (pc' := 5) zd_Or_holds_4 (by decide) rfl rfl ?_
  refine zg_iload_n (pc' := 6) zd_Or_holds_5 rfl rfl ?_
  refine zg_bipush (x := (100 : Int32)) (pc' := 8) zd_Or_holds_6 (by decide) rfl ?_
  refine zg_idiv (pc' := 9) zd_Or_holds_8 rfl (by decide) ?_
  rcases br_some h with ⟨c1, h⟩ | ⟨c1, h⟩
  · refine zg_lookI (tgt := 36) (60 : Int32) zd_Or_holds_9 (by decide) c1 rfl (by decide) ?_
    refine zg_iload_n (pc' := 37) zd_Or_holds_36 rfl rfl ?_
    refine zg_iload_n (pc' := 38) zd_Or_holds_37 rfl rfl ?_
    rcases br_some h with ⟨c2, h⟩ | ⟨c2, h⟩
    · refine zg_icmp_ge (tgt := 45) (pc' := 41) zd_Or_holds_38 (by decide) rfl (fun _ => ?_) (fun q => absurd c2 q)
      refine zg_iconst (x := (0 : Int32)) (pc' := 46) zd_Or_holds_45 (by decide) rfl ?_
      obtain ⟨rfl, rfl⟩ := rt_q h
      exact zg_iret zd_Or_holds_46 (zrt_z (by decide))
    · refine zg_icmp_ge (tgt := 45) (pc' := 41) zd_Or_holds_38 (by decide) rfl (fun q => absurd q c2) (fun _ => ?_)
      refine zg_iconst (x := (1 : Int32)) (pc' := 42) zd_Or_holds_41 (by decide) rfl ?_
      refine zg_goto (tgt := 46) zd_Or_holds_42 (by decide) ?_
      obtain ⟨rfl, rfl⟩ := rt_q h
      exact zg_iret zd_Or_holds_46 (zrt_z (by decide))
  rcases br_some h with ⟨c3, h⟩ | ⟨c3, h⟩
  · refine zg_lookI (tgt := 47) (61 : Int32) zd_Or_holds_9 (by decide) c3 rfl (by decide) ?_
    refine zg_iload_n (pc' := 48) zd_Or_holds_47 rfl rfl ?_
    refine zg_iload_n (pc' := 49) zd_Or_holds_48 rfl rfl ?_
    rcases br_some h with ⟨c4, h⟩ | ⟨c4, h⟩
    · refine zg_icmp_ne (tgt := 56) (pc' := 52) zd_Or_holds_49 (by decide) rfl (fun q => absurd c4 q) (fun _ => ?_)
      refine zg_iconst (x := (1 : Int32)) (pc' := 53) zd_Or_holds_52 (by decide) rfl ?_
      refine zg_goto (tgt := 57) zd_Or_holds_53 (by decide) ?_
      obtain ⟨rfl, rfl⟩ := rt_q h
      exact zg_iret zd_Or_holds_57 (zrt_z (by decide))
    · refine zg_icmp_ne (tgt := 56) (pc' := 52) zd_Or_holds_49 (by decide) rfl (fun _ => ?_) (fun q => absurd q c4)
      refine zg_iconst (x := (0 : Int32)) (pc' := 57) zd_Or_holds_56 (by decide) rfl ?_
      obtain ⟨rfl, rfl⟩ := rt_q h
      exact zg_iret zd_Or_holds_57 (zrt_z (by decide))
  refine zg_lookD (tgt := 58) [(60 : Int32), (61 : Int32)] zd_Or_holds_9 (by decide) (by decide) (List.forall_mem_cons.mpr ⟨c1, List.forall_mem_cons.mpr ⟨c3, fun _ h => absurd h List.not_mem_nil⟩⟩) (by decide) ?_
  refine zg_iload_n (pc' := 59) zd_Or_holds_58 rfl rfl ?_
  refine zg_iload_n (pc' := 60) zd_Or_holds_59 rfl rfl ?_
  rcases br_some h with ⟨c5, h⟩ | ⟨c5, h⟩
  · refine zg_icmp_le (tgt := 67) (pc' := 63) zd_Or_holds_60 (by decide) rfl (fun _ => ?_) (fun q => absurd c5 q)
    refine zg_iconst (x := (0 : Int32)) (pc' := 68) zd_Or_holds_67 (by decide) rfl ?_
    obtain ⟨rfl, rfl⟩ := rt_q h
    exact zg_iret zd_Or_holds_68 (zrt_z (by decide))
  · refine zg_icmp_le (tgt := 67) (pc' := 63) zd_Or_holds_60 (by decide) rfl (fun q => absurd q c5) (fun _ => ?_)
    refine zg_iconst (x := (1 : Int32)) (pc' := 64) zd_Or_holds_63 (by decide) rfl ?_
    refine zg_goto (tgt := 68) zd_Or_holds_64 (by decide) ?_
    obtain ⟨rfl, rfl⟩ := rt_q h
    exact zg_iret zd_Or_holds_68 (zrt_z (by decide))
theorem zd_Or_letter_0 : decode prog_4_method_6_code 0 = .ok (.iload_n 0, 1) := by decide +kernel
theorem zd_Or_letter_1 : decode prog_4_method_6_code 1 = .ok (.tableswitch 103 107 119 #[72, 103, 103, 103, 103, 67, 103, 103, 103, 90, 103, 77, 82], 67) := by decide +kernel
theorem zd_Or_letter_83 : decode prog_4_method_6_code 83 = .ok (.aload_n 1, 1) := by decide +kernel
theorem zd_Or_letter_84 : decode prog_4_method_6_code 84 = .ok (.getfield 44, 3) := by decide +kernel
theorem zd_Or_letter_87 : decode prog_4_method_6_code 87 = .ok (.bipush 10, 2) := by decide +kernel
theorem zd_Or_letter_89 : decode prog_4_method_6_code 89 = .ok (.idiv, 1) := by decide +kernel
theorem zd_Or_letter_90 : decode prog_4_method_6_code 90 = .ok (.ireturn, 1) := by decide +kernel
theorem zd_Or_letter_78 : decode prog_4_method_6_code 78 = .ok (.aload_n 1, 1) := by decide +kernel
theorem zd_Or_letter_79 : decode prog_4_method_6_code 79 = .ok (.getfield 41, 3) := by decide +kernel
theorem zd_Or_letter_82 : decode prog_4_method_6_code 82 = .ok (.ireturn, 1) := by decide +kernel
theorem zd_Or_letter_91 : decode prog_4_method_6_code 91 = .ok (.aload_n 1, 1) := by decide +kernel
theorem zd_Or_letter_92 : decode prog_4_method_6_code 92 = .ok (.getfield 47, 3) := by decide +kernel
theorem zd_Or_letter_95 : decode prog_4_method_6_code 95 = .ok (.ifCond .eq 7, 3) := by decide +kernel
theorem zd_Or_letter_102 : decode prog_4_method_6_code 102 = .ok (.iconst 0, 1) := by decide +kernel
theorem zd_Or_letter_98 : decode prog_4_method_6_code 98 = .ok (.iconst 1, 1) := by decide +kernel
theorem zd_Or_letter_99 : decode prog_4_method_6_code 99 = .ok (.goto 4, 3) := by decide +kernel
theorem zd_Or_letter_103 : decode prog_4_method_6_code 103 = .ok (.ireturn, 1) := by decide +kernel
theorem zd_Or_letter_68 : decode prog_4_method_6_code 68 = .ok (.aload_n 1, 1) := by decide +kernel
theorem zd_Or_letter_69 : decode prog_4_method_6_code 69 = .ok (.getfield 33, 3) := by decide +kernel
theorem zd_Or_letter_72 : decode prog_4_method_6_code 72 = .ok (.ireturn, 1) := by decide +kernel
theorem zd_Or_letter_104 : decode prog_4_method_6_code 104 = .ok (.iload_n 2, 1) := by decide +kernel
theorem zd_Or_letter_105 : decode prog_4_method_6_code 105 = .ok (.bipush 10, 2) := by decide +kernel
theorem zd_Or_letter_107 : decode prog_4_method_6_code 107 = .ok (.irem, 1) := by decide +kernel
theorem zd_Or_letter_108 : decode prog_4_method_6_code 108 = .ok (.ireturn, 1) := by decide +kernel
theorem zd_Or_letter_73 : decode prog_4_method_6_code 73 = .ok (.aload_n 1, 1) := by decide +kernel
theorem zd_Or_letter_74 : decode prog_4_method_6_code 74 = .ok (.getfield 38, 3) := by decide +kernel
theorem zd_Or_letter_77 : decode prog_4_method_6_code 77 = .ok (.ireturn, 1) := by decide +kernel
abbrev zm_Or_letter : zQ := ("LoofahSaints$Order", prog_4_method_6_code, 3, (Option.some Jvm.ClassFile.FieldType.int), false)
set_option maxRecDepth 100000 in
def fn_Or_letter (a0 : Int32) (a1 : Nat) (a2 : Int32) (S : zS) : Option (Int32 × zS) :=
  br (decide (a0 = (107 : Int32))) (gd (gT S a1 105) <|
  some ((zI S a1 2), S)) <|
  br (decide (a0 = (108 : Int32))) (some ((a2 - a2 / (10 : Int32) * (10 : Int32)), S)) <|
  br (decide (a0 = (109 : Int32))) (some ((a2 - a2 / (10 : Int32) * (10 : Int32)), S)) <|
  br (decide (a0 = (110 : Int32))) (some ((a2 - a2 / (10 : Int32) * (10 : Int32)), S)) <|
  br (decide (a0 = (111 : Int32))) (some ((a2 - a2 / (10 : Int32) * (10 : Int32)), S)) <|
  br (decide (a0 = (112 : Int32))) (gd (gT S a1 105) <|
  some ((zI S a1 1), S)) <|
  br (decide (a0 = (113 : Int32))) (some ((a2 - a2 / (10 : Int32) * (10 : Int32)), S)) <|
  br (decide (a0 = (114 : Int32))) (some ((a2 - a2 / (10 : Int32) * (10 : Int32)), S)) <|
  br (decide (a0 = (115 : Int32))) (some ((a2 - a2 / (10 : Int32) * (10 : Int32)), S)) <|
  br (decide (a0 = (116 : Int32))) (gd (gT S a1 105) <|
  br (decide ((zI S a1 7) = 0)) (some ((0 : Int32), S)) <|
  some ((1 : Int32), S)) <|
  br (decide (a0 = (117 : Int32))) (some ((a2 - a2 / (10 : Int32) * (10 : Int32)), S)) <|
  br (decide (a0 = (118 : Int32))) (gd (gT S a1 105) <|
  some ((zI S a1 3), S)) <|
  br (decide (a0 = (119 : Int32))) (gd (gT S a1 105) <|
  some (((zI S a1 5) / (10 : Int32)), S)) <|
  some ((a2 - a2 / (10 : Int32) * (10 : Int32)), S)
set_option maxRecDepth 100000 in
set_option maxHeartbeats 4000000 in
theorem tm_Or_letter {X : zXt} {d : Nat} (hd : 2 ≤ d) {v : Int32} {a0 : Int32} {a1 : Nat} {a2 : Int32} {S : zS} {S' : zS} (h : fn_Or_letter a0 a1 a2 S = some (v, S')) : zM X zy_Or_letter prog_4_method_6_code 3 (Option.some Jvm.ClassFile.FieldType.int) d [.int a0, .ref a1, .int a2] S (some (.int v)) S' := by
  refine zM_of (ini := false) (L := [some (.int a0), some (.ref a1), some (.int a2)]) (plainFor_of_name (by decide)) (fun h => by cases h) (Nat.le_of_ble_eq_true rfl) rfl ?_
  unfold fn_Or_letter at h
  refine zg_iload_n (pc' := 1) zd_Or_letter_0 rfl rfl ?_
  rcases br_some h with ⟨c1, h⟩ | ⟨c1, h⟩
  · refine zg_tabI (tgt := 73) (107 : Int32) zd_Or_letter_1 c1 (by decide) (by decide) rfl (by decide) ?_
    refine zg_aload_n (pc' := 74) zd_Or_letter_73 rfl rfl ?_
    obtain ⟨g2, h⟩ := gd_some h
    refine zg_getI (pc' := 77) zf_Or_38 zd_Or_letter_74 (gT_ok g2) rfl ?_
    obtain ⟨rfl, rfl⟩ := rt_q h
    exact zg_iret zd_Or_letter_77 zrt_i
  rcases br_some h with ⟨c3, h⟩ | ⟨c3, h⟩
  · refine zg_tabI (tgt := 104) (108 : Int32) zd_Or_letter_1 c3 (by decide) (by decide) rfl (by decide) ?_
    refine zg_iload_n (pc' := 105) zd_Or_letter_104 rfl rfl ?_
    refine zg_bipush (x := (10 : Int32)) (pc' := 107) zd_Or_letter_105 (by decide) rfl ?_
    refine zg_irem (pc' := 108) zd_Or_letter_107 rfl (by decide) ?_
    obtain ⟨rfl, rfl⟩ := rt_q h
    exact zg_iret zd_Or_letter_108 zrt_i
  rcases br_some h with ⟨c4, h⟩ | ⟨c4, h⟩
  · refine zg_tabI (tgt := 104) (109 : Int32) zd_Or_letter_1 c4 (by decide) (by decide) rfl (by decide) ?_
    refine zg_iload_n (pc' := 105) zd_Or_letter_104 rfl rfl ?_
    refine zg_bipush (x := (10 : Int32)) (pc' := 107) zd_Or_letter_105 (by decide) rfl ?_
    refine zg_irem (pc' := 108) zd_Or_letter_107 rfl (by decide) ?_
    obtain ⟨rfl, rfl⟩ := rt_q h
    exact zg_iret zd_Or_letter_108 zrt_i
  rcases br_some h with ⟨c5, h⟩ | ⟨c5, h⟩
  · refine zg_tabI (tgt := 104) (110 : Int32) zd_Or_letter_1 c5 (by decide) (by decide) rfl (by decide) ?_
    refine zg_iload_n (pc' := 105) zd_Or_letter_104 rfl rfl ?_
    refine zg_bipush (x := (10 : Int32)) (pc' := 107) zd_Or_letter_105 (by decide) rfl ?_
    refine zg_irem (pc' := 108) zd_Or_letter_107 rfl (by decide) ?_
    obtain ⟨rfl, rfl⟩ := rt_q h
    exact zg_iret zd_Or_letter_108 zrt_i
  rcases br_some h with ⟨c6, h⟩ | ⟨c6, h⟩
  · refine zg_tabI (tgt := 104) (111 : Int32) zd_Or_letter_1 c6 (by decide) (by decide) rfl (by decide) ?_
    refine zg_iload_n (pc' := 105) zd_Or_letter_104 rfl rfl ?_
    refine zg_bipush (x := (10 : Int32)) (pc' := 107) zd_Or_letter_105 (by decide) rfl ?_
    refine zg_irem (pc' := 108) zd_Or_letter_107 rfl (by decide) ?_
    obtain ⟨rfl, rfl⟩ := rt_q h
    exact zg_iret zd_Or_letter_108 zrt_i
  rcases br_some h with ⟨c7, h⟩ | ⟨c7, h⟩
  · refine zg_tabI (tgt := 68) (112 : Int32) zd_Or_letter_1 c7 (by decide) (by decide) rfl (by decide) ?_
    refine zg_aload_n (pc' := 69) zd_Or_letter_68 rfl rfl ?_
    obtain ⟨g8, h⟩ := gd_some h
    refine zg_getI (pc' := 72) zf_Or_33 zd_Or_letter_69 (gT_ok g8) rfl ?_
    obtain ⟨rfl, rfl⟩ := rt_q h
    exact zg_iret zd_Or_letter_72 zrt_i
  rcases br_some h with ⟨c9, h⟩ | ⟨c9, h⟩
  · refine zg_tabI (tgt := 104) (113 : Int32) zd_Or_letter_1 c9 (by decide) (by decide) rfl (by decide) ?_
    refine zg_iload_n (pc' := 105) zd_Or_letter_104 rfl rfl ?_
    refine zg_bipush (x := (10 : Int32)) (pc' := 107) zd_Or_letter_105 (by decide) rfl ?_
    refine zg_irem (pc' := 108) zd_Or_letter_107 rfl (by decide) ?_
    obtain ⟨rfl, rfl⟩ := rt_q h
    exact zg_iret zd_Or_letter_108 zrt_i
  rcases br_some h with ⟨c10, h⟩ | ⟨c10, h⟩
  · refine zg_tabI (tgt := 104) (114 : Int32) zd_Or_letter_1 c10 (by decide) (by decide) rfl (by decide) ?_
    refine zg_iload_n (pc' := 105) zd_Or_letter_104 rfl rfl ?_
    refine zg_bipush (x := (10 : Int32)) (pc' := 107) zd_Or_letter_105 (by decide) rfl ?_
    refine zg_irem (pc' := 108) zd_Or_letter_107 rfl (by decide) ?_
    obtain ⟨rfl, rfl⟩ := rt_q h
    exact zg_iret zd_Or_letter_108 zrt_i
  rcases br_some h with ⟨c11, h⟩ | ⟨c11, h⟩
  · refine zg_tabI (tgt := 104) (115 : Int32) zd_Or_letter_1 c11 (by decide) (by decide) rfl (by decide) ?_
    refine zg_iload_n (pc' := 105) zd_Or_letter_104 rfl rfl ?_
    refine zg_bipush (x := (10 : Int32)) (pc' := 107) zd_Or_letter_105 (by decide) rfl ?_
    refine zg_irem (pc' := 108) zd_Or_letter_107 rfl (by decide) ?_
    obtain ⟨rfl, rfl⟩ := rt_q h
    exact zg_iret zd_Or_letter_108 zrt_i
  rcases br_some h with ⟨c12, h⟩ | ⟨c12, h⟩
  · refine zg_tabI (tgt := 91) (116 : Int32) zd_Or_letter_1 c12 (by decide) (by decide) rfl (by decide) ?_
    refine zg_aload_n (pc' := 92) zd_Or_letter_91 rfl rfl ?_
    obtain ⟨g13, h⟩ := gd_some h
    refine zg_getZ (pc' := 95) zf_Or_47 zd_Or_letter_92 (gT_ok g13) rfl ?_
    rcases br_some h with ⟨c14, h⟩ | ⟨c14, h⟩
    · refine zg_if_eq (tgt := 102) (pc' := 98) zd_Or_letter_95 (by decide) rfl (fun _ => ?_) (fun q => absurd c14 q)
      refine zg_iconst (x := (0 : Int32)) (pc' := 103) zd_Or_letter_102 (by decide) rfl ?_
      obtain ⟨rfl, rfl⟩ := rt_q h
      exact zg_iret zd_Or_letter_103 zrt_i
    · refine zg_if_eq (tgt := 102) (pc' := 98) zd_Or_letter_95 (by decide) rfl (fun q => absurd q c14) (fun _ => ?_)
      refine zg_iconst (x := (1 : Int32)) (pc' := 99) zd_Or_letter_98 (by decide) rfl ?_
      refine zg_goto (tgt := 103) zd_Or_letter_99 (by decide) ?_
      obtain ⟨rfl, rfl⟩ := rt_q h
      exact zg_iret zd_Or_letter_103 zrt_i
  rcases br_some h with ⟨c15, h⟩ | ⟨c15, h⟩
  · refine zg_tabI (tgt := 104) (117 : Int32) zd_Or_letter_1 c15 (by decide) (by decide) rfl (by decide) ?_
    refine zg_iload_n (pc' := 105) zd_Or_letter_104 rfl rfl ?_
    refine zg_bipush (x := (10 : Int32)) (pc' := 107) zd_Or_letter_105 (by decide) rfl ?_
    refine zg_irem (pc' := 108) zd_Or_letter_107 rfl (by decide) ?_
    obtain ⟨rfl, rfl⟩ := rt_q h
    exact zg_iret zd_Or_letter_108 zrt_i
  rcases br_some h with ⟨c16, h⟩ | ⟨c16, h⟩
  · refine zg_tabI (tgt := 78) (118 : Int32) zd_Or_letter_1 c16 (by decide) (by decide) rfl (by decide) ?_
    refine zg_aload_n (pc' := 79) zd_Or_letter_78 rfl rfl ?_
    obtain ⟨g17, h⟩ := gd_some h
    refine zg_getI (pc' := 82) zf_Or_41 zd_Or_letter_79 (gT_ok g17) rfl ?_
    obtain ⟨rfl, rfl⟩ := rt_q h
    exact zg_iret zd_Or_letter_82 zrt_i
  rcases br_some h with ⟨c18, h⟩ | ⟨c18, h⟩
  · refine zg_tabI (tgt := 83) (119 : Int32) zd_Or_letter_1 c18 (by decide) (by decide) rfl (by decide) ?_
    refine zg_aload_n (pc' := 84) zd_Or_letter_83 rfl rfl ?_
    obtain ⟨g19, h⟩ := gd_some h
    refine zg_getI (pc' := 87) zf_Or_44 zd_Or_letter_84 (gT_ok g19) rfl ?_
    refine zg_bipush (x := (10 : Int32)) (pc' := 89) zd_Or_letter_87 (by decide) rfl ?_
    refine zg_idiv (pc' := 90) zd_Or_letter_89 rfl (by decide) ?_
    obtain ⟨rfl, rfl⟩ := rt_q h
    exact zg_iret zd_Or_letter_90 zrt_i
  refine zg_tableD (tgt := 104) [(107 : Int32), (108 : Int32), (109 : Int32), (110 : Int32), (111 : Int32), (112 : Int32), (113 : Int32), (114 : Int32), (115 : Int32), (116 : Int32), (117 : Int32), (118 : Int32), (119 : Int32)] zd_Or_letter_1 (by decide) (List.forall_mem_cons.mpr ⟨c1, List.forall_mem_cons.mpr ⟨c3, List.forall_mem_cons.mpr ⟨c4, List.forall_mem_cons.mpr ⟨c5, List.forall_mem_cons.mpr ⟨c6, List.forall_mem_cons.mpr ⟨c7, List.forall_mem_cons.mpr ⟨c9, List.forall_mem_cons.mpr ⟨c10, List.forall_mem_cons.mpr ⟨c11, List.forall_mem_cons.mpr ⟨c12, List.forall_mem_cons.mpr ⟨c15, List.forall_mem_cons.mpr ⟨c16, List.forall_mem_cons.mpr ⟨c18, fun _ h => absurd h List.not_mem_nil⟩⟩⟩⟩⟩⟩⟩⟩⟩⟩⟩⟩⟩) (by decide) ?_
  refine zg_iload_n (pc' := 105) zd_Or_letter_104 rfl rfl ?_
  refine zg_bipush (x := (10 : Int32)) (pc' := 107) zd_Or_letter_105 (by decide) rfl ?_
  refine zg_irem (pc' := 108) zd_Or_letter_107 rfl (by decide) ?_
  obtain ⟨rfl, rfl⟩ := rt_q h
  exact zg_iret zd_Or_letter_108 zrt_i
theorem zd_Or_sum_0 : decode prog_4_method_4_code 0 = .ok (.iconst 3, 1) := by decide +kernel
theorem zd_Or_sum_1 : decode prog_4_method_4_code 1 = .ok (.istore_n 3, 1) := by decide +kernel
theorem zd_Or_sum_2 : decode prog_4_method_4_code 2 = .ok (.iconst 0, 1) := by decide +kernel
theorem zd_Or_sum_3 : decode prog_4_method_4_code 3 = .ok (.istore 4, 2) := by decide +kernel
theorem zd_Or_sum_5 : decode prog_4_method_4_code 5 = .ok (.iconst 0, 1) := by decide +kernel
theorem zd_Or_sum_6 : decode prog_4_method_4_code 6 = .ok (.istore 5, 2) := by decide +kernel
theorem zd_Or_sum_8 : decode prog_4_method_4_code 8 = .ok (.iload 5, 2) := by decide +kernel
theorem zd_Or_sum_10 : decode prog_4_method_4_code 10 = .ok (.aload_n 0, 1) := by decide +kernel
theorem zd_Or_sum_11 : decode prog_4_method_4_code 11 = .ok (.getfield 9, 3) := by decide +kernel
theorem zd_Or_sum_14 : decode prog_4_method_4_code 14 = .ok (.if_icmp .ge 182, 3) := by decide +kernel
theorem zd_Or_sum_196 : decode prog_4_method_4_code 196 = .ok (.iload_n 3, 1) := by decide +kernel
theorem zd_Or_sum_197 : decode prog_4_method_4_code 197 = .ok (.ireturn, 1) := by decide +kernel
theorem zd_Or_sum_17 : decode prog_4_method_4_code 17 = .ok (.aload_n 0, 1) := by decide +kernel
theorem zd_Or_sum_18 : decode prog_4_method_4_code 18 = .ok (.getfield 22, 3) := by decide +kernel
theorem zd_Or_sum_21 : decode prog_4_method_4_code 21 = .ok (.iload 5, 2) := by decide +kernel
theorem zd_Or_sum_23 : decode prog_4_method_4_code 23 = .ok (.iaload, 1) := by decide +kernel
theorem zd_Or_sum_24 : decode prog_4_method_4_code 24 = .ok (.istore 6, 2) := by decide +kernel
theorem zd_Or_sum_26 : decode prog_4_method_4_code 26 = .ok (.iload 4, 2) := by decide +kernel
theorem zd_Or_sum_28 : decode prog_4_method_4_code 28 = .ok (.iconst 1, 1) := by decide +kernel
theorem zd_Or_sum_29 : decode prog_4_method_4_code 29 = .ok (.iand, 1) := by decide +kernel
theorem zd_Or_sum_30 : decode prog_4_method_4_code 30 = .ok (.istore 7, 2) := by decide +kernel
theorem zd_Or_sum_32 : decode prog_4_method_4_code 32 = .ok (.aload_n 0, 1) := by decide +kernel
theorem zd_Or_sum_33 : decode prog_4_method_4_code 33 = .ok (.getfield 18, 3) := by decide +kernel
theorem zd_Or_sum_36 : decode prog_4_method_4_code 36 = .ok (.iload 5, 2) := by decide +kernel
theorem zd_Or_sum_38 : decode prog_4_method_4_code 38 = .ok (.iaload, 1) := by decide +kernel
theorem zd_Or_sum_39 : decode prog_4_method_4_code 39 = .ok (.lookupswitch 119 #[(33, 49), (38, 58), (83, 85), (115, 102), (124, 73)], 49) := by decide +kernel
theorem zd_Or_sum_158 : decode prog_4_method_4_code 158 = .ok (.iload 4, 2) := by decide +kernel
theorem zd_Or_sum_160 : decode prog_4_method_4_code 160 = .ok (.iconst 1, 1) := by decide +kernel
theorem zd_Or_sum_161 : decode prog_4_method_4_code 161 = .ok (.ishl, 1) := by decide +kernel
theorem zd_Or_sum_162 : decode prog_4_method_4_code 162 = .ok (.aload_n 0, 1) := by decide +kernel
theorem zd_Or_sum_163 : decode prog_4_method_4_code 163 = .ok (.getfield 18, 3) := by decide +kernel
theorem zd_Or_sum_166 : decode prog_4_method_4_code 166 = .ok (.iload 5, 2) := by decide +kernel
theorem zd_Or_sum_168 : decode prog_4_method_4_code 168 = .ok (.iaload, 1) := by decide +kernel
theorem zd_Or_sum_169 : decode prog_4_method_4_code 169 = .ok (.aload_n 1, 1) := by decide +kernel
theorem zd_Or_sum_170 : decode prog_4_method_4_code 170 = .ok (.iload_n 2, 1) := by decide +kernel
theorem zd_Or_sum_171 : decode prog_4_method_4_code 171 = .ok (.invokestatic 25, 3) := by decide +kernel
theorem zd_Or_sum_174 : decode prog_4_method_4_code 174 = .ok (.iload 6, 2) := by decide +kernel
theorem zd_Or_sum_176 : decode prog_4_method_4_code 176 = .ok (.invokestatic 29, 3) := by decide +kernel
theorem zd_Or_sum_179 : decode prog_4_method_4_code 179 = .ok (.ifCond .eq 7, 3) := by decide +kernel
theorem zd_Or_sum_186 : decode prog_4_method_4_code 186 = .ok (.iconst 0, 1) := by decide +kernel
theorem zd_Or_sum_182 : decode prog_4_method_4_code 182 = .ok (.iconst 1, 1) := by decide +kernel
theorem zd_Or_sum_183 : decode prog_4_method_4_code 183 = .ok (.goto 4, 3) := by decide +kernel
theorem zd_Or_sum_187 : decode prog_4_method_4_code 187 = .ok (.ior, 1) := by decide +kernel
theorem zd_Or_sum_188 : decode prog_4_method_4_code 188 = .ok (.istore 4, 2) := by decide +kernel
theorem zd_Or_sum_112 : decode prog_4_method_4_code 112 = .ok (.iload 4, 2) := by decide +kernel
theorem zd_Or_sum_114 : decode prog_4_method_4_code 114 = .ok (.iconst 1, 1) := by decide +kernel
theorem zd_Or_sum_115 : decode prog_4_method_4_code 115 = .ok (.ishr, 1) := by decide +kernel
theorem zd_Or_sum_116 : decode prog_4_method_4_code 116 = .ok (.iload 7, 2) := by decide +kernel
theorem zd_Or_sum_118 : decode prog_4_method_4_code 118 = .ok (.ior, 1) := by decide +kernel
theorem zd_Or_sum_119 : decode prog_4_method_4_code 119 = .ok (.istore 4, 2) := by decide +kernel
theorem zd_Or_sum_121 : decode prog_4_method_4_code 121 = .ok (.goto 69, 3) := by decide +kernel
theorem zd_Or_sum_141 : decode prog_4_method_4_code 141 = .ok (.iload_n 3, 1) := by decide +kernel
theorem zd_Or_sum_142 : decode prog_4_method_4_code 142 = .ok (.iload 7, 2) := by decide +kernel
theorem zd_Or_sum_144 : decode prog_4_method_4_code 144 = .ok (.iload 6, 2) := by decide +kernel
theorem zd_Or_sum_146 : decode prog_4_method_4_code 146 = .ok (.imul, 1) := by decide +kernel
theorem zd_Or_sum_147 : decode prog_4_method_4_code 147 = .ok (.isub, 1) := by decide +kernel
theorem zd_Or_sum_148 : decode prog_4_method_4_code 148 = .ok (.istore_n 3, 1) := by decide +kernel
theorem zd_Or_sum_149 : decode prog_4_method_4_code 149 = .ok (.iload 4, 2) := by decide +kernel
theorem zd_Or_sum_151 : decode prog_4_method_4_code 151 = .ok (.iconst 1, 1) := by decide +kernel
theorem zd_Or_sum_152 : decode prog_4_method_4_code 152 = .ok (.ishr, 1) := by decide +kernel
theorem zd_Or_sum_153 : decode prog_4_method_4_code 153 = .ok (.istore 4, 2) := by decide +kernel
theorem zd_Or_sum_155 : decode prog_4_method_4_code 155 = .ok (.goto 35, 3) := by decide +kernel
theorem zd_Or_sum_124 : decode prog_4_method_4_code 124 = .ok (.iload_n 3, 1) := by decide +kernel
theorem zd_Or_sum_125 : decode prog_4_method_4_code 125 = .ok (.iload 7, 2) := by decide +kernel
theorem zd_Or_sum_127 : decode prog_4_method_4_code 127 = .ok (.iload 6, 2) := by decide +kernel
theorem zd_Or_sum_129 : decode prog_4_method_4_code 129 = .ok (.imul, 1) := by decide +kernel
theorem zd_Or_sum_130 : decode prog_4_method_4_code 130 = .ok (.iadd, 1) := by decide +kernel
theorem zd_Or_sum_131 : decode prog_4_method_4_code 131 = .ok (.istore_n 3, 1) := by decide +kernel
theorem zd_Or_sum_132 : decode prog_4_method_4_code 132 = .ok (.iload 4, 2) := by decide +kernel
theorem zd_Or_sum_134 : decode prog_4_method_4_code 134 = .ok (.iconst 1, 1) := by decide +kernel
theorem zd_Or_sum_135 : decode prog_4_method_4_code 135 = .ok (.ishr, 1) := by decide +kernel
theorem zd_Or_sum_136 : decode prog_4_method_4_code 136 = .ok (.istore 4, 2) := by decide +kernel
theorem zd_Or_sum_138 : decode prog_4_method_4_code 138 = .ok (.goto 52, 3) := by decide +kernel
theorem zd_Or_sum_97 : decode prog_4_method_4_code 97 = .ok (.iload 4, 2) := by decide +kernel
theorem zd_Or_sum_99 : decode prog_4_method_4_code 99 = .ok (.iconst 1, 1) := by decide +kernel
theorem zd_Or_sum_100 : decode prog_4_method_4_code 100 = .ok (.ishr, 1) := by decide +kernel
theorem zd_Or_sum_101 : decode prog_4_method_4_code 101 = .ok (.bipush (-2), 2) := by decide +kernel
theorem zd_Or_sum_103 : decode prog_4_method_4_code 103 = .ok (.iload 7, 2) := by decide +kernel
theorem zd_Or_sum_105 : decode prog_4_method_4_code 105 = .ok (.ior, 1) := by decide +kernel
theorem zd_Or_sum_106 : decode prog_4_method_4_code 106 = .ok (.iand, 1) := by decide +kernel
theorem zd_Or_sum_107 : decode prog_4_method_4_code 107 = .ok (.istore 4, 2) := by decide +kernel
theorem zd_Or_sum_109 : decode prog_4_method_4_code 109 = .ok (.goto 81, 3) := by decide +kernel
theorem zd_Or_sum_88 : decode prog_4_method_4_code 88 = .ok (.iload 4, 2) := by decide +kernel
theorem zd_Or_sum_90 : decode prog_4_method_4_code 90 = .ok (.iconst 1, 1) := by decide +kernel
theorem zd_Or_sum_91 : decode prog_4_method_4_code 91 = .ok (.ixor, 1) := by decide +kernel
theorem zd_Or_sum_92 : decode prog_4_method_4_code 92 = .ok (.istore 4, 2) := by decide +kernel
theorem zd_Or_sum_94 : decode prog_4_method_4_code 94 = .ok (.goto 96, 3) := by decide +kernel
theorem zd_Or_sum_190 : decode prog_4_method_4_code 190 = .ok (.iinc 5 1, 3) := by decide +kernel
theorem zd_Or_sum_193 : decode prog_4_method_4_code 193 = .ok (.goto (-185), 3) := by decide +kernel
abbrev zm_Or_sum : zQ := ("LoofahSaints$Order", prog_4_method_4_code, 8, (Option.some Jvm.ClassFile.FieldType.int), false)
set_option maxRecDepth 100000 in
def fn_Or_sum_L8 (a0 : Nat) (a1 : Nat) (a2 : Int32) (a3 : Int32) (a4 : Int32) (a5 : Int32) (S : zS) (K8 : Nat → Nat → Int32 → Int32 → Int32 → Int32 → zS → Option (Int32 × zS)) : Option (Int32 × zS) :=
  gd (gT S a0 102) <|
  br (decide ((zI S a0 2) ≤ a5)) (some (a3, S)) <|
  gd (gT S (zR S a0 1) 1) <|
  gd (gB a5 (zT S (zR S a0 1)).2) <|
  gd (gT S (zR S a0 0) 1) <|
  gd (gB a5 (zT S (zR S a0 0)).2) <|
  br (decide ((zI S (zR S a0 0) a5.toNatClampNeg) = (33 : Int32))) (K8 a0 a1 a2 a3 (a4 ^^^ (1 : Int32)) (a5 + (1 : Int32)) S) <|
  br (decide ((zI S (zR S a0 0) a5.toNatClampNeg) = (38 : Int32))) (K8 a0 a1 a2 a3 ((a4 >>> ((1 : Int32) &&& 31)) &&& ((-2 : Int32) ||| (a4 &&& (1 : Int32)))) (a5 + (1 : Int32)) S) <|
  br (decide ((zI S (zR S a0 0) a5.toNatClampNeg) = (83 : Int32))) (K8 a0 a1 a2 (a3 + ((a4 &&& (1 : Int32)) * (zI S (zR S a0 1) a5.toNatClampNeg))) (a4 >>> ((1 : Int32) &&& 31)) (a5 + (1 : Int32)) S) <|
  br (decide ((zI S (zR S a0 0) a5.toNatClampNeg) = (115 : Int32))) (K8 a0 a1 a2 (a3 - ((a4 &&& (1 : Int32)) * (zI S (zR S a0 1) a5.toNatClampNeg))) (a4 >>> ((1 : Int32) &&& 31)) (a5 + (1 : Int32)) S) <|
  br (decide ((zI S (zR S a0 0) a5.toNatClampNeg) = (124 : Int32))) (K8 a0 a1 a2 a3 ((a4 >>> ((1 : Int32) &&& 31)) ||| (a4 &&& (1 : Int32))) (a5 + (1 : Int32)) S) <|
  bq (fn_Or_letter (zI S (zR S a0 0) a5.toNatClampNeg) a1 a2 S) fun r14 S12 =>
  bq (fn_Or_holds r14 (zI S (zR S a0 1) a5.toNatClampNeg) S12) fun r17 S15 =>
  br (decide (r17 = 0)) (K8 a0 a1 a2 a3 ((a4 <<< ((1 : Int32) &&& 31)) ||| (0 : Int32)) (a5 + (1 : Int32)) S15) <|
  K8 a0 a1 a2 a3 ((a4 <<< ((1 : Int32) &&& 31)) ||| (1 : Int32)) (a5 + (1 : Int32)) S15
set_option maxRecDepth 100000 in
set_option maxHeartbeats 4000000 in
theorem tm_Or_sum_L8 {X : zXt} {d : Nat} (hd : 3 ≤ d) {v : Int32} {S' : zS}  {K8 : Nat → Nat → Int32 → Int32 → Int32 → Int32 → zS → Option (Int32 × zS)} (hK8 : ∀ (a0 : Nat) (a1 : Nat) (a2 : Int32) (a3 : Int32) (a4 : Int32) (a5 : Int32) (S : zS), K8 a0 a1 a2 a3 a4 a5 S = some (v, S') → zG X zm_Or_sum d 8 [some (.ref a0), some (.ref a1), some (.int a2), some (.int a3), some (.int a4), some (.int a5), none, none] [] S (some (.int v)) S') {a0 : Nat} {a1 : Nat} {a2 : Int32} {a3 : Int32} {a4 : Int32} {a5 : Int32} {S : zS} (h : fn_Or_sum_L8 a0 a1 a2 a3 a4 a5 S K8 = some (v, S')) : zG X zm_Or_sum d 8 [some (.ref a0), some (.ref a1), some (.int a2), some (.int a3), some (.int a4), some (.int a5), none, none] [] S (some (.int v)) S' := by
  unfold fn_Or_sum_L8 at h
  refine zg_iload (pc' := 10) zd_Or_sum_8 rfl rfl ?_
  refine zg_aload_n (pc' := 11) zd_Or_sum_10 rfl rfl ?_
  obtain ⟨g1, h⟩ := gd_some h
  refine zg_getI (pc' := 14) zf_Or_9 zd_Or_sum_11 (gT_ok g1) rfl ?_
  rcases br_some h with ⟨c2, h⟩ | ⟨c2, h⟩
  · refine zg_icmp_ge (tgt := 196) (pc' := 17) zd_Or_sum_14 (by decide) rfl (fun _ => ?_) (fun q => absurd c2 q)
    refine zg_iload_n (pc' := 197) zd_Or_sum_196 rfl rfl ?_
    obtain ⟨rfl, rfl⟩ := rt_q h
    exact zg_iret zd_Or_sum_197 zrt_i
  · refine zg_icmp_ge (tgt := 196) (pc' := 17) zd_Or_sum_14 (by decide) rfl (fun q => absurd q c2) (fun _ => ?_)
    refine zg_aload_n (pc' := 18) zd_Or_sum_17 rfl rfl ?_
    refine zg_getR (pc' := 21) zf_Or_22 rfl zd_Or_sum_18 (gT_ok g1) rfl ?_
    refine zg_iload (pc' := 23) zd_Or_sum_21 rfl rfl ?_
    obtain ⟨g3, h⟩ := gd_some h
    obtain ⟨g4, h⟩ := gd_some h
    refine zg_iald (pc' := 24) zd_Or_sum_23 (gT_ok g3) (gB_ok g4) rfl ?_
    refine zg_istore (L' := [some (.ref a0), some (.ref a1), some (.int a2), some (.int a3), some (.int a4), some (.int a5), some (.int (zI S (zR S a0 1) a5.toNatClampNeg)), none]) (pc' := 26) zd_Or_sum_24 (by decide) rfl rfl ?_
    refine zg_iload (pc' := 28) zd_Or_sum_26 rfl rfl ?_
    refine zg_iconst (x := (1 : Int32)) (pc' := 29) zd_Or_sum_28 (by decide) rfl ?_
    refine zg_iand (pc' := 30) zd_Or_sum_29 rfl ?_
    refine zg_istore (L' := [some (.ref a0), some (.ref a1), some (.int a2), some (.int a3), some (.int a4), some (.int a5), some (.int (zI S (zR S a0 1) a5.toNatClampNeg)), some (.int (a4 &&& (1 : Int32)))]) (pc' := 32) zd_Or_sum_30 (by decide) rfl rfl ?_
    refine zg_aload_n (pc' := 33) zd_Or_sum_32 rfl rfl ?_
    refine zg_getR (pc' := 36) zf_Or_18 rfl zd_Or_sum_33 (gT_ok g1) rfl ?_
    refine zg_iload (pc' := 38) zd_Or_sum_36 rfl rfl ?_
    obtain ⟨g5, h⟩ := gd_some h
    obtain ⟨g6, h⟩ := gd_some h
    refine zg_iald (pc' := 39) zd_Or_sum_38 (gT_ok g5) (gB_ok g6) rfl ?_
    rcases br_some h with ⟨c7, h⟩ | ⟨c7, h⟩
    · refine zg_lookI (tgt := 88) (33 : Int32) zd_Or_sum_39 (by decide) c7 rfl (by decide) ?_
      refine zg_iload (pc' := 90) zd_Or_sum_88 rfl rfl ?_
      refine zg_iconst (x := (1 : Int32)) (pc' := 91) zd_Or_sum_90 (by decide) rfl ?_
      refine zg_ixor (pc' := 92) zd_Or_sum_91 rfl ?_
      refine zg_istore (L' := [some (.ref a0), some (.ref a1), some (.int a2), some (.int a3), some (.int (a4 ^^^ (1 : Int32))), some (.int a5), some (.int (zI S (zR S a0 1) a5.toNatClampNeg)), some (.int (a4 &&& (1 : Int32)))]) (pc' := 94) zd_Or_sum_92 (by decide) rfl rfl ?_
      refine zg_goto (tgt := 190) zd_Or_sum_94 (by decide) ?_
      refine zg_iinc (y := (a5 + (1 : Int32))) (L' := [some (.ref a0), some (.ref a1), some (.int a2), some (.int a3), some (.int (a4 ^^^ (1 : Int32))), some (.int (a5 + (1 : Int32))), some (.int (zI S (zR S a0 1) a5.toNatClampNeg)), some (.int (a4 &&& (1 : Int32)))]) (pc' := 193) zd_Or_sum_190 rfl rfl (by decide) rfl rfl ?_
      refine zg_goto (tgt := 8) zd_Or_sum_193 (by decide) ?_
      refine zg_mask (L' := [some (.ref a0), some (.ref a1), some (.int a2), some (.int a3), some (.int (a4 ^^^ (1 : Int32))), some (.int (a5 + (1 : Int32))), none, none]) (zmk_ok _ _ ⟨rfl, ⟨rfl, ⟨rfl, ⟨rfl, ⟨rfl, ⟨rfl, trivial⟩⟩⟩⟩⟩⟩) ?_
      exact hK8 _ _ _ _ _ _ _ h
    rcases br_some h with ⟨c8, h⟩ | ⟨c8, h⟩
    · refine zg_lookI (tgt := 97) (38 : Int32) zd_Or_sum_39 (by decide) c8 rfl (by decide) ?_
      refine zg_iload (pc' := 99) zd_Or_sum_97 rfl rfl ?_
      refine zg_iconst (x := (1 : Int32)) (pc' := 100) zd_Or_sum_99 (by decide) rfl ?_
      refine zg_ishr (pc' := 101) zd_Or_sum_100 rfl ?_
      refine zg_bipush (x := (-2 : Int32)) (pc' := 103) zd_Or_sum_101 (by decide) rfl ?_
      refine zg_iload (pc' := 105) zd_Or_sum_103 rfl rfl ?_
      refine zg_ior (pc' := 106) zd_Or_sum_105 rfl ?_
      refine zg_iand (pc' := 107) zd_Or_sum_106 rfl ?_
      refine zg_istore (L' := [some (.ref a0), some (.ref a1), some (.int a2), some (.int a3), some (.int ((a4 >>> ((1 : Int32) &&& 31)) &&& ((-2 : Int32) ||| (a4 &&& (1 : Int32))))), some (.int a5), some (.int (zI S (zR S a0 1) a5.toNatClampNeg)), some (.int (a4 &&& (1 : Int32)))]) (pc' := 109) zd_Or_sum_107 (by decide) rfl rfl ?_
      refine zg_goto (tgt := 190) zd_Or_sum_109 (by decide) ?_
      refine zg_iinc (y := (a5 + (1 : Int32))) (L' := [some (.ref a0), some (.ref a1), some (.int a2), some (.int a3), some (.int ((a4 >>> ((1 : Int32) &&& 31)) &&& ((-2 : Int32) ||| (a4 &&& (1 : Int32))))), some (.int (a5 + (1 : Int32))), some (.int (zI S (zR S a0 1) a5.toNatClampNeg)), some (.int (a4 &&& (1 : Int32)))]) (pc' := 193) zd_Or_sum_190 rfl rfl (by decide) rfl rfl ?_
      refine zg_goto (tgt := 8) zd_Or_sum_193 (by decide) ?_
      refine zg_mask (L' := [some (.ref a0), some (.ref a1), some (.int a2), some (.int a3), some (.int ((a4 >>> ((1 : Int32) &&& 31)) &&& ((-2 : Int32) ||| (a4 &&& (1 : Int32))))), some (.int (a5 + (1 : Int32))), none, none]) (zmk_ok _ _ ⟨rfl, ⟨rfl, ⟨rfl, ⟨rfl, ⟨rfl, ⟨rfl, trivial⟩⟩⟩⟩⟩⟩) ?_
      exact hK8 _ _ _ _ _ _ _ h
    rcases br_some h with ⟨c9, h⟩ | ⟨c9, h⟩
    · refine zg_lookI (tgt := 124) (83 : Int32) zd_Or_sum_39 (by decide) c9 rfl (by decide) ?_
      refine zg_iload_n (pc' := 125) zd_Or_sum_124 rfl rfl ?_
      refine zg_iload (pc' := 127) zd_Or_sum_125 rfl rfl ?_
      refine zg_iload (pc' := 129) zd_Or_sum_127 rfl rfl ?_
      refine zg_imul (pc' := 130) zd_Or_sum_129 rfl ?_
      refine zg_iadd (pc' := 131) zd_Or_sum_130 rfl ?_
      refine zg_istore_n (L' := [some (.ref a0), some (.ref a1), some (.int a2), some (.int (a3 + ((a4 &&& (1 : Int32)) * (zI S (zR S a0 1) a5.toNatClampNeg)))), some (.int a4), some (.int a5), some (.int (zI S (zR S a0 1) a5.toNatClampNeg)), some (.int (a4 &&& (1 : Int32)))]) (pc' := 132) zd_Or_sum_131 (by decide) rfl rfl ?_
      refine zg_iload (pc' := 134) zd_Or_sum_132 rfl rfl ?_
      refine zg_iconst (x := (1 : Int32)) (pc' := 135) zd_Or_sum_134 (by decide) rfl ?_
      refine zg_ishr (pc' := 136) zd_Or_sum_135 rfl ?_
      refine zg_istore (L' := [some (.ref a0), some (.ref a1), some (.int a2), some (.int (a3 + ((a4 &&& (1 : Int32)) * (zI S (zR S a0 1) a5.toNatClampNeg)))), some (.int (a4 >>> ((1 : Int32) &&& 31))), some (.int a5), some (.int (zI S (zR S a0 1) a5.toNatClampNeg)), some (.int (a4 &&& (1 : Int32)))]) (pc' := 138) zd_Or_sum_136 (by decide) rfl rfl ?_
      refine zg_goto (tgt := 190) zd_Or_sum_138 (by decide) ?_
      refine zg_iinc (y := (a5 + (1 : Int32))) (L' := [some (.ref a0), some (.ref a1), some (.int a2), some (.int (a3 + ((a4 &&& (1 : Int32)) * (zI S (zR S a0 1) a5.toNatClampNeg)))), some (.int (a4 >>> ((1 : Int32) &&& 31))), some (.int (a5 + (1 : Int32))), some (.int (zI S (zR S a0 1) a5.toNatClampNeg)), some (.int (a4 &&& (1 : Int32)))]) (pc' := 193) zd_Or_sum_190 rfl rfl (by decide) rfl rfl ?_
      refine zg_goto (tgt := 8) zd_Or_sum_193 (by decide) ?_
      refine zg_mask (L' := [some (.ref a0), some (.ref a1), some (.int a2), some (.int (a3 + ((a4 &&& (1 : Int32)) * (zI S (zR S a0 1) a5.toNatClampNeg)))), some (.int (a4 >>> ((1 : Int32) &&& 31))), some (.int (a5 + (1 : Int32))), none, none]) (zmk_ok _ _ ⟨rfl, ⟨rfl, ⟨rfl, ⟨rfl, ⟨rfl, ⟨rfl, trivial⟩⟩⟩⟩⟩⟩) ?_
      exact hK8 _ _ _ _ _ _ _ h
    rcases br_some h with ⟨c10, h⟩ | ⟨c10, h⟩
    · refine zg_lookI (tgt := 141) (115 : Int32) zd_Or_sum_39 (by decide) c10 rfl (by decide) ?_
      refine zg_iload_n (pc' := 142) zd_Or_sum_141 rfl rfl ?_
      refine zg_iload (pc' := 144) zd_Or_sum_142 rfl rfl ?_
      refine zg_iload (pc' := 146) zd_Or_sum_144 rfl rfl ?_
      refine zg_imul (pc' := 147) zd_Or_sum_146 rfl ?_
      refine zg_isub (pc' := 148) zd_Or_sum_147 rfl ?_
      refine zg_istore_n (L' := [some (.ref a0), some (.ref a1), some (.int a2), some (.int (a3 - ((a4 &&& (1 : Int32)) * (zI S (zR S a0 1) a5.toNatClampNeg)))), some (.int a4), some (.int a5), some (.int (zI S (zR S a0 1) a5.toNatClampNeg)), some (.int (a4 &&& (1 : Int32)))]) (pc' := 149) zd_Or_sum_148 (by decide) rfl rfl ?_
      refine zg_iload (pc' := 151) zd_Or_sum_149 rfl rfl ?_
      refine zg_iconst (x := (1 : Int32)) (pc' := 152) zd_Or_sum_151 (by decide) rfl ?_
      refine zg_ishr (pc' := 153) zd_Or_sum_152 rfl ?_
      refine zg_istore (L' := [some (.ref a0), some (.ref a1), some (.int a2), some (.int (a3 - ((a4 &&& (1 : Int32)) * (zI S (zR S a0 1) a5.toNatClampNeg)))), some (.int (a4 >>> ((1 : Int32) &&& 31))), some (.int a5), some (.int (zI S (zR S a0 1) a5.toNatClampNeg)), some (.int (a4 &&& (1 : Int32)))]) (pc' := 155) zd_Or_sum_153 (by decide) rfl rfl ?_
      refine zg_goto (tgt := 190) zd_Or_sum_155 (by decide) ?_
      refine zg_iinc (y := (a5 + (1 : Int32))) (L' := [some (.ref a0), some (.ref a1), some (.int a2), some (.int (a3 - ((a4 &&& (1 : Int32)) * (zI S (zR S a0 1) a5.toNatClampNeg)))), some (.int (a4 >>> ((1 : Int32) &&& 31))), some (.int (a5 + (1 : Int32))), some (.int (zI S (zR S a0 1) a5.toNatClampNeg)), some (.int (a4 &&& (1 : Int32)))]) (pc' := 193) zd_Or_sum_190 rfl rfl (by decide) rfl rfl ?_
      refine zg_goto (tgt := 8) zd_Or_sum_193 (by decide) ?_
      refine zg_mask (L' := [some (.ref a0), some (.ref a1), some (.int a2), some (.int (a3 - ((a4 &&& (1 : Int32)) * (zI S (zR S a0 1) a5.toNatClampNeg)))), some (.int (a4 >>> ((1 : Int32) &&& 31))), some (.int (a5 + (1 : Int32))), none, none]) (zmk_ok _ _ ⟨rfl, ⟨rfl, ⟨rfl, ⟨rfl, ⟨rfl, ⟨rfl, trivial⟩⟩⟩⟩⟩⟩) ?_
      exact hK8 _ _ _ _ _ _ _ h
    rcases br_some h with ⟨c11, h⟩ | ⟨c11, h⟩
    · refine zg_lookI (tgt := 112) (124 : Int32) zd_Or_sum_39 (by decide) c11 rfl (by decide) ?_
      refine zg_iload (pc' := 114) zd_Or_sum_112 rfl rfl ?_
      refine zg_iconst (x := (1 : Int32)) (pc' := 115) zd_Or_sum_114 (by decide) rfl ?_
      refine zg_ishr (pc' := 116) zd_Or_sum_115 rfl ?_
      refine zg_iload (pc' := 118) zd_Or_sum_116 rfl rfl ?_
      refine zg_ior (pc' := 119) zd_Or_sum_118 rfl ?_
      refine zg_istore (L' := [some (.ref a0), some (.ref a1), some (.int a2), some (.int a3), some (.int ((a4 >>> ((1 : Int32) &&& 31)) ||| (a4 &&& (1 : Int32)))), some (.int a5), some (.int (zI S (zR S a0 1) a5.toNatClampNeg)), some (.int (a4 &&& (1 : Int32)))]) (pc' := 121) zd_Or_sum_119 (by decide) rfl rfl ?_
      refine zg_goto (tgt := 190) zd_Or_sum_121 (by decide) ?_
      refine zg_iinc (y := (a5 + (1 : Int32))) (L' := [some (.ref a0), some (.ref a1), some (.int a2), some (.int a3), some (.int ((a4 >>> ((1 : Int32) &&& 31)) ||| (a4 &&& (1 : Int32)))), some (.int (a5 + (1 : Int32))), some (.int (zI S (zR S a0 1) a5.toNatClampNeg)), some (.int (a4 &&& (1 : Int32)))]) (pc' := 193) zd_Or_sum_190 rfl rfl (by decide) rfl rfl ?_
      refine zg_goto (tgt := 8) zd_Or_sum_193 (by decide) ?_
      refine zg_mask (L' := [some (.ref a0), some (.ref a1), some (.int a2), some (.int a3), some (.int ((a4 >>> ((1 : Int32) &&& 31)) ||| (a4 &&& (1 : Int32)))), some (.int (a5 + (1 : Int32))), none, none]) (zmk_ok _ _ ⟨rfl, ⟨rfl, ⟨rfl, ⟨rfl, ⟨rfl, ⟨rfl, trivial⟩⟩⟩⟩⟩⟩) ?_
      exact hK8 _ _ _ _ _ _ _ h
    refine zg_lookD (tgt := 158) [(33 : Int32), (38 : Int32), (83 : Int32), (115 : Int32), (124 : Int32)] zd_Or_sum_39 (by decide) (by decide) (List.forall_mem_cons.mpr ⟨c7, List.forall_mem_cons.mpr ⟨c8, List.forall_mem_cons.mpr ⟨c9, List.forall_mem_cons.mpr ⟨c10, List.forall_mem_cons.mpr ⟨c11, fun _ h => absurd h List.not_mem_nil⟩⟩⟩⟩⟩) (by decide) ?_
    refine zg_iload (pc' := 160) zd_Or_sum_158 rfl rfl ?_
    refine zg_iconst (x := (1 : Int32)) (pc' := 161) zd_Or_sum_160 (by decide) rfl ?_
    refine zg_ishl (pc' := 162) zd_Or_sum_161 rfl ?_
    refine zg_aload_n (pc' := 163) zd_Or_sum_162 rfl rfl ?_
    refine zg_getR (pc' := 166) zf_Or_18 rfl zd_Or_sum_163 (gT_ok g1) rfl ?_
    refine zg_iload (pc' := 168) zd_Or_sum_166 rfl rfl ?_
    refine zg_iald (pc' := 169) zd_Or_sum_168 (gT_ok g5) (gB_ok g6) rfl ?_
    refine zg_aload_n (pc' := 170) zd_Or_sum_169 rfl rfl ?_
    refine zg_iload_n (pc' := 171) zd_Or_sum_170 rfl rfl ?_
    obtain ⟨r14, S12, e13, h⟩ := bq_some h
    refine zg_callS (As := [.int (zI S (zR S a0 0) a5.toNatClampNeg), .ref a1, .int a2]) (rest := [.int (a4 <<< ((1 : Int32) &&& 31))]) (pc' := 174) zl_Or_25 zq364 zd_Or_sum_171 rfl rfl (Nat.le_of_ble_eq_true rfl) (by omega) (tm_Or_letter (d := 2) (Nat.le_refl _) e13) rfl ?_
    refine zg_st (st' := [.int r14, .int (a4 <<< ((1 : Int32) &&& 31))]) rfl ?_
    refine zg_iload (pc' := 176) zd_Or_sum_174 rfl rfl ?_
    obtain ⟨r17, S15, e16, h⟩ := bq_some h
    refine zg_callS (As := [.int r14, .int (zI S (zR S a0 1) a5.toNatClampNeg)]) (rest := [.int (a4 <<< ((1 : Int32) &&& 31))]) (pc' := 179) zl_Or_29 zq367 zd_Or_sum_176 rfl rfl (Nat.le_of_ble_eq_true rfl) (by omega) (tm_Or_holds (d := 2) (Nat.le_refl _) e16) rfl ?_
    refine zg_st (st' := [.int r17, .int (a4 <<< ((1 : Int32) &&& 31))]) rfl ?_
    rcases br_some h with ⟨c18, h⟩ | ⟨c18, h⟩
    · refine zg_if_eq (tgt := 186) (pc' := 182) zd_Or_sum_179 (by decide) rfl (fun _ => ?_) (fun q => absurd c18 q)
      refine zg_iconst (x := (0 : Int32)) (pc' := 187) zd_Or_sum_186 (by decide) rfl ?_
      refine zg_ior (pc' := 188) zd_Or_sum_187 rfl ?_
      refine zg_istore (L' := [some (.ref a0), some (.ref a1), some (.int a2), some (.int a3), some (.int ((a4 <<< ((1 : Int32) &&& 31)) ||| (0 : Int32))), some (.int a5), some (.int (zI S (zR S a0 1) a5.toNatClampNeg)), some (.int (a4 &&& (1 : Int32)))]) (pc' := 190) zd_Or_sum_188 (by decide) rfl rfl ?_
      refine zg_iinc (y := (a5 + (1 : Int32))) (L' := [some (.ref a0), some (.ref a1), some (.int a2), some (.int a3), some (.int ((a4 <<< ((1 : Int32) &&& 31)) ||| (0 : Int32))), some (.int (a5 + (1 : Int32))), some (.int (zI S (zR S a0 1) a5.toNatClampNeg)), some (.int (a4 &&& (1 : Int32)))]) (pc' := 193) zd_Or_sum_190 rfl rfl (by decide) rfl rfl ?_
      refine zg_goto (tgt := 8) zd_Or_sum_193 (by decide) ?_
      refine zg_mask (L' := [some (.ref a0), some (.ref a1), some (.int a2), some (.int a3), some (.int ((a4 <<< ((1 : Int32) &&& 31)) ||| (0 : Int32))), some (.int (a5 + (1 : Int32))), none, none]) (zmk_ok _ _ ⟨rfl, ⟨rfl, ⟨rfl, ⟨rfl, ⟨rfl, ⟨rfl, trivial⟩⟩⟩⟩⟩⟩) ?_
      exact hK8 _ _ _ _ _ _ _ h
    · refine zg_if_eq (tgt := 186) (pc' := 182) zd_Or_sum_179 (by decide) rfl (fun q => absurd q c18) (fun _ => ?_)
      refine zg_iconst (x := (1 : Int32)) (pc' := 183) zd_Or_sum_182 (by decide) rfl ?_
      refine zg_goto (tgt := 187) zd_Or_sum_183 (by decide) ?_
      refine zg_ior (pc' := 188) zd_Or_sum_187 rfl ?_
      refine zg_istore (L' := [some (.ref a0), some (.ref a1), some (.int a2), some (.int a3), some (.int ((a4 <<< ((1 : Int32) &&& 31)) ||| (1 : Int32))), some (.int a5), some (.int (zI S (zR S a0 1) a5.toNatClampNeg)), some (.int (a4 &&& (1 : Int32)))]) (pc' := 190) zd_Or_sum_188 (by decide) rfl rfl ?_
      refine zg_iinc (y := (a5 + (1 : Int32))) (L' := [some (.ref a0), some (.ref a1), some (.int a2), some (.int a3), some (.int ((a4 <<< ((1 : Int32) &&& 31)) ||| (1 : Int32))), some (.int (a5 + (1 : Int32))), some (.int (zI S (zR S a0 1) a5.toNatClampNeg)), some (.int (a4 &&& (1 : Int32)))]) (pc' := 193) zd_Or_sum_190 rfl rfl (by decide) rfl rfl ?_
      refine zg_goto (tgt := 8) zd_Or_sum_193 (by decide) ?_
      refine zg_mask (L' := [some (.ref a0), some (.ref a1), some (.int a2), some (.int a3), some (.int ((a4 <<< ((1 : Int32) &&& 31)) ||| (1 : Int32))), some (.int (a5 + (1 : Int32))), none, none]) (zmk_ok _ _ ⟨rfl, ⟨rfl, ⟨rfl, ⟨rfl, ⟨rfl, ⟨rfl, trivial⟩⟩⟩⟩⟩⟩) ?_
      exact hK8 _ _ _ _ _ _ _ h
set_option maxRecDepth 100000 in
def fn_Or_sum (a0 : Nat) (a1 : Nat) (a2 : Int32) (S : zS) : Option (Int32 × zS) :=
  lp (σ := Nat × Nat × Int32 × Int32 × Int32 × Int32 × zS) (fun k s => fn_Or_sum_L8 s.1 s.2.1 s.2.2.1 s.2.2.2.1 s.2.2.2.2.1 s.2.2.2.2.2.1 s.2.2.2.2.2.2 (fun (a0 : Nat) (a1 : Nat) (a2 : Int32) (a3 : Int32) (a4 : Int32) (a5 : Int32) (S : zS) => k (a0, a1, a2, a3, a4, a5, S))) FU (a0, a1, a2, (3 : Int32), (0 : Int32), (0 : Int32), S)
set_option maxRecDepth 100000 in
set_option maxHeartbeats 4000000 in
theorem tm_Or_sum {X : zXt} {d : Nat} (hd : 3 ≤ d) {v : Int32} {a0 : Nat} {a1 : Nat} {a2 : Int32} {S : zS} {S' : zS} (h : fn_Or_sum a0 a1 a2 S = some (v, S')) : zM X zy_Or_sum prog_4_method_4_code 8 (Option.some Jvm.ClassFile.FieldType.int) d [.ref a0, .ref a1, .int a2] S (some (.int v)) S' := by
  refine zM_of (ini := false) (L := [some (.ref a0), some (.ref a1), some (.int a2), none, none, none, none, none]) (plainFor_of_name (by decide)) (fun h => by cases h) (Nat.le_of_ble_eq_true rfl) rfl ?_
  unfold fn_Or_sum at h
  refine zg_iconst (x := (3 : Int32)) (pc' := 1) zd_Or_sum_0 (by decide) rfl ?_
  refine zg_istore_n (L' := [some (.ref a0), some (.ref a1), some (.int a2), some (.int (3 : Int32)), none, none, none, none]) (pc' := 2) zd_Or_sum_1 (by decide) rfl rfl ?_
  refine zg_iconst (x := (0 : Int32)) (pc' := 3) zd_Or_sum_2 (by decide) rfl ?_
  refine zg_istore (L' := [some (.ref a0), some (.ref a1), some (.int a2), some (.int (3 : Int32)), some (.int (0 : Int32)), none, none, none]) (pc' := 5) zd_Or_sum_3 (by decide) rfl rfl ?_
  refine zg_iconst (x := (0 : Int32)) (pc' := 6) zd_Or_sum_5 (by decide) rfl ?_
  refine zg_istore (L' := [some (.ref a0), some (.ref a1), some (.int a2), some (.int (3 : Int32)), some (.int (0 : Int32)), some (.int (0 : Int32)), none, none]) (pc' := 8) zd_Or_sum_6 (by decide) rfl rfl ?_
  exact lp_indh h (P := fun s => zG X zm_Or_sum d 8 [some (.ref (s.1)), some (.ref (s.2.1)), some (.int (s.2.2.1)), some (.int (s.2.2.2.1)), some (.int (s.2.2.2.2.1)), some (.int (s.2.2.2.2.2.1)), none, none] [] (s.2.2.2.2.2.2) (some (.int v)) S') (fun k hk s h => tm_Or_sum_L8 hd (fun a0 a1 a2 a3 a4 a5 S h => hk (a0, a1, a2, a3, a4, a5, S) h) h)
theorem zd_Sa_grit_0 : decode prog_7_method_6_code 0 = .ok (.aload_n 1, 1) := by decide +kernel
theorem zd_Sa_grit_1 : decode prog_7_method_6_code 1 = .ok (.aload_n 0, 1) := by decide +kernel
theorem zd_Sa_grit_2 : decode prog_7_method_6_code 2 = .ok (.iload_n 2, 1) := by decide +kernel
theorem zd_Sa_grit_3 : decode prog_7_method_6_code 3 = .ok (.invokevirtual 47, 3) := by decide +kernel
theorem zd_Sa_grit_6 : decode prog_7_method_6_code 6 = .ok (.istore_n 3, 1) := by decide +kernel
theorem zd_Sa_grit_7 : decode prog_7_method_6_code 7 = .ok (.aload_n 0, 1) := by decide +kernel
theorem zd_Sa_grit_8 : decode prog_7_method_6_code 8 = .ok (.getfield 15, 3) := by decide +kernel
theorem zd_Sa_grit_11 : decode prog_7_method_6_code 11 = .ok (.tableswitch 89 1 6 #[37, 44, 89, 48, 66, 76], 37) := by decide +kernel
theorem zd_Sa_grit_87 : decode prog_7_method_6_code 87 = .ok (.iload_n 3, 1) := by decide +kernel
theorem zd_Sa_grit_88 : decode prog_7_method_6_code 88 = .ok (.aload_n 0, 1) := by decide +kernel
theorem zd_Sa_grit_89 : decode prog_7_method_6_code 89 = .ok (.getfield 9, 3) := by decide +kernel
theorem zd_Sa_grit_92 : decode prog_7_method_6_code 92 = .ok (.iload_n 2, 1) := by decide +kernel
theorem zd_Sa_grit_93 : decode prog_7_method_6_code 93 = .ok (.iconst 4, 1) := by decide +kernel
theorem zd_Sa_grit_94 : decode prog_7_method_6_code 94 = .ok (.invokestatic 53, 3) := by decide +kernel
theorem zd_Sa_grit_97 : decode prog_7_method_6_code 97 = .ok (.iaload, 1) := by decide +kernel
theorem zd_Sa_grit_98 : decode prog_7_method_6_code 98 = .ok (.iadd, 1) := by decide +kernel
theorem zd_Sa_grit_99 : decode prog_7_method_6_code 99 = .ok (.ireturn, 1) := by decide +kernel
theorem zd_Sa_grit_77 : decode prog_7_method_6_code 77 = .ok (.iload_n 3, 1) := by decide +kernel
theorem zd_Sa_grit_78 : decode prog_7_method_6_code 78 = .ok (.iconst 2, 1) := by decide +kernel
theorem zd_Sa_grit_79 : decode prog_7_method_6_code 79 = .ok (.idiv, 1) := by decide +kernel
theorem zd_Sa_grit_80 : decode prog_7_method_6_code 80 = .ok (.iload_n 2, 1) := by decide +kernel
theorem zd_Sa_grit_81 : decode prog_7_method_6_code 81 = .ok (.iconst 2, 1) := by decide +kernel
theorem zd_Sa_grit_82 : decode prog_7_method_6_code 82 = .ok (.invokestatic 53, 3) := by decide +kernel
theorem zd_Sa_grit_85 : decode prog_7_method_6_code 85 = .ok (.iadd, 1) := by decide +kernel
theorem zd_Sa_grit_86 : decode prog_7_method_6_code 86 = .ok (.ireturn, 1) := by decide +kernel
theorem zd_Sa_grit_59 : decode prog_7_method_6_code 59 = .ok (.aload_n 0, 1) := by decide +kernel
theorem zd_Sa_grit_60 : decode prog_7_method_6_code 60 = .ok (.getfield 31, 3) := by decide +kernel
theorem zd_Sa_grit_63 : decode prog_7_method_6_code 63 = .ok (.ifCond .eq 12, 3) := by decide +kernel
theorem zd_Sa_grit_75 : decode prog_7_method_6_code 75 = .ok (.iconst 0, 1) := by decide +kernel
theorem zd_Sa_grit_66 : decode prog_7_method_6_code 66 = .ok (.iload_n 3, 1) := by decide +kernel
theorem zd_Sa_grit_67 : decode prog_7_method_6_code 67 = .ok (.aload_n 0, 1) := by decide +kernel
theorem zd_Sa_grit_68 : decode prog_7_method_6_code 68 = .ok (.getfield 19, 3) := by decide +kernel
theorem zd_Sa_grit_71 : decode prog_7_method_6_code 71 = .ok (.iadd, 1) := by decide +kernel
theorem zd_Sa_grit_72 : decode prog_7_method_6_code 72 = .ok (.goto 4, 3) := by decide +kernel
theorem zd_Sa_grit_76 : decode prog_7_method_6_code 76 = .ok (.ireturn, 1) := by decide +kernel
theorem zd_Sa_grit_100 : decode prog_7_method_6_code 100 = .ok (.iload_n 3, 1) := by decide +kernel
theorem zd_Sa_grit_101 : decode prog_7_method_6_code 101 = .ok (.ireturn, 1) := by decide +kernel
theorem zd_Sa_grit_55 : decode prog_7_method_6_code 55 = .ok (.iload_n 3, 1) := by decide +kernel
theorem zd_Sa_grit_56 : decode prog_7_method_6_code 56 = .ok (.iconst 2, 1) := by decide +kernel
theorem zd_Sa_grit_57 : decode prog_7_method_6_code 57 = .ok (.idiv, 1) := by decide +kernel
theorem zd_Sa_grit_58 : decode prog_7_method_6_code 58 = .ok (.ireturn, 1) := by decide +kernel
theorem zd_Sa_grit_48 : decode prog_7_method_6_code 48 = .ok (.iload_n 3, 1) := by decide +kernel
theorem zd_Sa_grit_49 : decode prog_7_method_6_code 49 = .ok (.aload_n 0, 1) := by decide +kernel
theorem zd_Sa_grit_50 : decode prog_7_method_6_code 50 = .ok (.getfield 19, 3) := by decide +kernel
theorem zd_Sa_grit_53 : decode prog_7_method_6_code 53 = .ok (.iadd, 1) := by decide +kernel
theorem zd_Sa_grit_54 : decode prog_7_method_6_code 54 = .ok (.ireturn, 1) := by decide +kernel
abbrev zm_Sa_grit : zQ := ("LoofahSaints$Saint", prog_7_method_6_code, 4, (Option.some Jvm.ClassFile.FieldType.int), false)
set_option maxRecDepth 100000 in
def fn_Sa_grit (a0 : Nat) (a1 : Nat) (a2 : Int32) (S : zS) : Option (Int32 × zS) :=
  gd (gT S a1 102) <|
  bq (fn_Or_sum a1 a0 a2 S) fun r4 S2 =>
  gd (gT S2 a0 105) <|
  br (decide ((zI S2 a0 2) = (1 : Int32))) (some ((r4 + (zI S2 a0 3)), S2)) <|
  br (decide ((zI S2 a0 2) = (2 : Int32))) (some ((r4 / (2 : Int32)), S2)) <|
  br (decide ((zI S2 a0 2) = (3 : Int32))) (some (r4, S2)) <|
  br (decide ((zI S2 a0 2) = (4 : Int32))) (br (decide ((zI S2 a0 7) = 0)) (some ((0 : Int32), S2)) <|
  some ((r4 + (zI S2 a0 3)), S2)) <|
  br (decide ((zI S2 a0 2) = (5 : Int32))) (bq (fn_Jd_floorMod a2 (2 : Int32) S2) fun r14 S12 =>
  some (((r4 / (2 : Int32)) + r14), S12)) <|
  br (decide ((zI S2 a0 2) = (6 : Int32))) (bq (fn_Jd_floorMod a2 (4 : Int32) S2) fun r18 S16 =>
  gd (gT S16 (zR S2 a0 0) 1) <|
  gd (gB r18 (zT S16 (zR S2 a0 0)).2) <|
  some ((r4 + (zI S16 (zR S2 a0 0) r18.toNatClampNeg)), S16)) <|
  some (r4, S2)
set_option maxRecDepth 100000 in
set_option maxHeartbeats 4000000 in
theorem tm_Sa_grit {X : zXt} {d : Nat} (hd : 4 ≤ d) {v : Int32} {a0 : Nat} {a1 : Nat} {a2 : Int32} {S : zS} {S' : zS} (h : fn_Sa_grit a0 a1 a2 S = some (v, S')) : zM X zy_Sa_grit prog_7_method_6_code 4 (Option.some Jvm.ClassFile.FieldType.int) d [.ref a0, .ref a1, .int a2] S (some (.int v)) S' := by
  refine zM_of (ini := false) (L := [some (.ref a0), some (.ref a1), some (.int a2), none]) (plainFor_of_name (by decide)) (fun h => by cases h) (Nat.le_of_ble_eq_true rfl) rfl ?_
  unfold fn_Sa_grit at h
  refine zg_aload_n (pc' := 1) zd_Sa_grit_0 rfl rfl ?_
  refine zg_aload_n (pc' := 2) zd_Sa_grit_1 rfl rfl ?_
  refine zg_iload_n (pc' := 3) zd_Sa_grit_2 rfl rfl ?_
  obtain ⟨g1, h⟩ := gd_some h
  obtain ⟨r4, S2, e3, h⟩ := bq_some h
  refine zg_callV (ci := 2) (As := [.ref a0, .int a2]) (rest := []) (pc' := 6) zl_Sa_47 zq360 zq361 ⟨_, rfl, rfl⟩ zd_Sa_grit_3 rfl rfl (Nat.le_of_ble_eq_true rfl) (by omega) (gT_ok g1) (tm_Or_sum (d := 3) (Nat.le_refl _) e3) rfl ?_
  refine zg_st (st' := [.int r4]) rfl ?_
  refine zg_istore_n (L' := [some (.ref a0), some (.ref a1), some (.int a2), some (.int r4)]) (pc' := 7) zd_Sa_grit_6 (by decide) rfl rfl ?_
  refine zg_aload_n (pc' := 8) zd_Sa_grit_7 rfl rfl ?_
  obtain ⟨g5, h⟩ := gd_some h
  refine zg_getI (pc' := 11) zf_Sa_15 zd_Sa_grit_8 (gT_ok g5) rfl ?_
  rcases br_some h with ⟨c6, h⟩ | ⟨c6, h⟩
  · refine zg_tabI (tgt := 48) (1 : Int32) zd_Sa_grit_11 c6 (by decide) (by decide) rfl (by decide) ?_
    refine zg_iload_n (pc' := 49) zd_Sa_grit_48 rfl rfl ?_
    refine zg_aload_n (pc' := 50) zd_Sa_grit_49 rfl rfl ?_
    refine zg_getI (pc' := 53) zf_Sa_19 zd_Sa_grit_50 (gT_ok g5) rfl ?_
    refine zg_iadd (pc' := 54) zd_Sa_grit_53 rfl ?_
    obtain ⟨rfl, rfl⟩ := rt_q h
    exact zg_iret zd_Sa_grit_54 zrt_i
  rcases br_some h with ⟨c7, h⟩ | ⟨c7, h⟩
  · refine zg_tabI (tgt := 55) (2 : Int32) zd_Sa_grit_11 c7 (by decide) (by decide) rfl (by decide) ?_
    refine zg_iload_n (pc' := 56) zd_Sa_grit_55 rfl rfl ?_
    refine zg_iconst (x := (2 : Int32)) (pc' := 57) zd_Sa_grit_56 (by decide) rfl ?_
    refine zg_idiv (pc' := 58) zd_Sa_grit_57 rfl (by decide) ?_
    obtain ⟨rfl, rfl⟩ := rt_q h
    exact zg_iret zd_Sa_grit_58 zrt_i
  rcases br_some h with ⟨c8, h⟩ | ⟨c8, h⟩
  · refine zg_tabI (tgt := 100) (3 : Int32) zd_Sa_grit_11 c8 (by decide) (by decide) rfl (by decide) ?_
    refine zg_iload_n (pc' := 101) zd_Sa_grit_100 rfl rfl ?_
    obtain ⟨rfl, rfl⟩ := rt_q h
    exact zg_iret zd_Sa_grit_101 zrt_i
  rcases br_some h with ⟨c9, h⟩ | ⟨c9, h⟩
  · refine zg_tabI (tgt := 59) (4 : Int32) zd_Sa_grit_11 c9 (by decide) (by decide) rfl (by decide) ?_
    refine zg_aload_n (pc' := 60) zd_Sa_grit_59 rfl rfl ?_
    refine zg_getZ (pc' := 63) zf_Sa_31 zd_Sa_grit_60 (gT_ok g5) rfl ?_
    rcases br_some h with ⟨c10, h⟩ | ⟨c10, h⟩
    · refine zg_if_eq (tgt := 75) (pc' := 66) zd_Sa_grit_63 (by decide) rfl (fun _ => ?_) (fun q => absurd c10 q)
      refine zg_iconst (x := (0 : Int32)) (pc' := 76) zd_Sa_grit_75 (by decide) rfl ?_
      obtain ⟨rfl, rfl⟩ := rt_q h
      exact zg_iret zd_Sa_grit_76 zrt_i
    · refine zg_if_eq (tgt := 75) (pc' := 66) zd_Sa_grit_63 (by decide) rfl (fun q => absurd q c10) (fun _ => ?_)
      refine zg_iload_n (pc' := 67) zd_Sa_grit_66 rfl rfl ?_
      refine zg_aload_n (pc' := 68) zd_Sa_grit_67 rfl rfl ?_
      refine zg_getI (pc' := 71) zf_Sa_19 zd_Sa_grit_68 (gT_ok g5) rfl ?_
      refine zg_iadd (pc' := 72) zd_Sa_grit_71 rfl ?_
      refine zg_goto (tgt := 76) zd_Sa_grit_72 (by decide) ?_
      obtain ⟨rfl, rfl⟩ := rt_q h
      exact zg_iret zd_Sa_grit_76 zrt_i
  rcases br_some h with ⟨c11, h⟩ | ⟨c11, h⟩
  · refine zg_tabI (tgt := 77) (5 : Int32) zd_Sa_grit_11 c11 (by decide) (by decide) rfl (by decide) ?_
    refine zg_iload_n (pc' := 78) zd_Sa_grit_77 rfl rfl ?_
    refine zg_iconst (x := (2 : Int32)) (pc' := 79) zd_Sa_grit_78 (by decide) rfl ?_
    refine zg_idiv (pc' := 80) zd_Sa_grit_79 rfl (by decide) ?_
    refine zg_iload_n (pc' := 81) zd_Sa_grit_80 rfl rfl ?_
    refine zg_iconst (x := (2 : Int32)) (pc' := 82) zd_Sa_grit_81 (by decide) rfl ?_
    obtain ⟨r14, S12, e13, h⟩ := bq_some h
    refine zg_callS (As := [.int a2, .int (2 : Int32)]) (rest := [.int (r4 / (2 : Int32))]) (pc' := 85) zl_Sa_53 zq370 zd_Sa_grit_82 rfl rfl (Nat.le_of_ble_eq_true rfl) (by omega) (tm_Jd_floorMod (d := 2) (Nat.le_refl _) e13) rfl ?_
    refine zg_st (st' := [.int r14, .int (r4 / (2 : Int32))]) rfl ?_
    refine zg_iadd (pc' := 86) zd_Sa_grit_85 rfl ?_
    obtain ⟨rfl, rfl⟩ := rt_q h
    exact zg_iret zd_Sa_grit_86 zrt_i
  rcases br_some h with ⟨c15, h⟩ | ⟨c15, h⟩
  · refine zg_tabI (tgt := 87) (6 : Int32) zd_Sa_grit_11 c15 (by decide) (by decide) rfl (by decide) ?_
    refine zg_iload_n (pc' := 88) zd_Sa_grit_87 rfl rfl ?_
    refine zg_aload_n (pc' := 89) zd_Sa_grit_88 rfl rfl ?_
    refine zg_getR (pc' := 92) zf_Sa_9 rfl zd_Sa_grit_89 (gT_ok g5) rfl ?_
    refine zg_iload_n (pc' := 93) zd_Sa_grit_92 rfl rfl ?_
    refine zg_iconst (x := (4 : Int32)) (pc' := 94) zd_Sa_grit_93 (by decide) rfl ?_
    obtain ⟨r18, S16, e17, h⟩ := bq_some h
    refine zg_callS (As := [.int a2, .int (4 : Int32)]) (rest := [.ref (zR S2 a0 0), .int r4]) (pc' := 97) zl_Sa_53 zq370 zd_Sa_grit_94 rfl rfl (Nat.le_of_ble_eq_true rfl) (by omega) (tm_Jd_floorMod (d := 2) (Nat.le_refl _) e17) rfl ?_
    refine zg_st (st' := [.int r18, .ref (zR S2 a0 0), .int r4]) rfl ?_
    obtain ⟨g19, h⟩ := gd_some h
    obtain ⟨g20, h⟩ := gd_some h
    refine zg_iald (pc' := 98) zd_Sa_grit_97 (gT_ok g19) (gB_ok g20) rfl ?_
    refine zg_iadd (pc' := 99) zd_Sa_grit_98 rfl ?_
    obtain ⟨rfl, rfl⟩ := rt_q h
    exact zg_iret zd_Sa_grit_99 zrt_i
  refine zg_tableD (tgt := 100) [(1 : Int32), (2 : Int32), (3 : Int32), (4 : Int32), (5 : Int32), (6 : Int32)] zd_Sa_grit_11 (by decide) (List.forall_mem_cons.mpr ⟨c6, List.forall_mem_cons.mpr ⟨c7, List.forall_mem_cons.mpr ⟨c8, List.forall_mem_cons.mpr ⟨c9, List.forall_mem_cons.mpr ⟨c11, List.forall_mem_cons.mpr ⟨c15, fun _ h => absurd h List.not_mem_nil⟩⟩⟩⟩⟩⟩) (by decide) ?_
  refine zg_iload_n (pc' := 101) zd_Sa_grit_100 rfl rfl ?_
  obtain ⟨rfl, rfl⟩ := rt_q h
  exact zg_iret zd_Sa_grit_101 zrt_i
theorem zd_Sa_isOf_0 : decode prog_7_method_5_code 0 = .ok (.aload_n 0, 1) := by decide +kernel
theorem zd_Sa_isOf_1 : decode prog_7_method_5_code 1 = .ok (.getfield 15, 3) := by decide +kernel
theorem zd_Sa_isOf_4 : decode prog_7_method_5_code 4 = .ok (.istore_n 2, 1) := by decide +kernel
theorem zd_Sa_isOf_5 : decode prog_7_method_5_code 5 = .ok (.iconst 0, 1) := by decide +kernel
theorem zd_Sa_isOf_6 : decode prog_7_method_5_code 6 = .ok (.istore_n 3, 1) := by decide +kernel
theorem zd_Sa_isOf_7 : decode prog_7_method_5_code 7 = .ok (.iload_n 3, 1) := by decide +kernel
theorem zd_Sa_isOf_8 : decode prog_7_method_5_code 8 = .ok (.bipush 7, 2) := by decide +kernel
theorem zd_Sa_isOf_10 : decode prog_7_method_5_code 10 = .ok (.if_icmp .ge 24, 3) := by decide +kernel
theorem zd_Sa_isOf_13 : decode prog_7_method_5_code 13 = .ok (.iload_n 2, 1) := by decide +kernel
theorem zd_Sa_isOf_14 : decode prog_7_method_5_code 14 = .ok (.ifCond .lt 20, 3) := by decide +kernel
theorem zd_Sa_isOf_17 : decode prog_7_method_5_code 17 = .ok (.iload_n 2, 1) := by decide +kernel
theorem zd_Sa_isOf_18 : decode prog_7_method_5_code 18 = .ok (.iload_n 1, 1) := by decide +kernel
theorem zd_Sa_isOf_19 : decode prog_7_method_5_code 19 = .ok (.if_icmp .eq 15, 3) := by decide +kernel
theorem zd_Sa_isOf_34 : decode prog_7_method_5_code 34 = .ok (.iload_n 2, 1) := by decide +kernel
theorem zd_Sa_isOf_35 : decode prog_7_method_5_code 35 = .ok (.iload_n 1, 1) := by decide +kernel
theorem zd_Sa_isOf_36 : decode prog_7_method_5_code 36 = .ok (.if_icmp .ne 7, 3) := by decide +kernel
theorem zd_Sa_isOf_43 : decode prog_7_method_5_code 43 = .ok (.iconst 0, 1) := by decide +kernel
theorem zd_Sa_isOf_39 : decode prog_7_method_5_code 39 = .ok (.iconst 1, 1) := by decide +kernel
theorem zd_Sa_isOf_40 : decode prog_7_method_5_code 40 = .ok (.goto 4, 3) := by decide +kernel
theorem zd_Sa_isOf_44 : decode prog_7_method_5_code 44 = .ok (.ireturn, 1) := by decide +kernel
theorem zd_Sa_isOf_22 : decode prog_7_method_5_code 22 = .ok (.getstatic 44, 3) := by decide +kernel
theorem zd_Sa_isOf_25 : decode prog_7_method_5_code 25 = .ok (.iload_n 2, 1) := by decide +kernel
theorem zd_Sa_isOf_26 : decode prog_7_method_5_code 26 = .ok (.iaload, 1) := by decide +kernel
theorem zd_Sa_isOf_27 : decode prog_7_method_5_code 27 = .ok (.istore_n 2, 1) := by decide +kernel
theorem zd_Sa_isOf_28 : decode prog_7_method_5_code 28 = .ok (.iinc 3 1, 3) := by decide +kernel
theorem zd_Sa_isOf_31 : decode prog_7_method_5_code 31 = .ok (.goto (-24), 3) := by decide +kernel
abbrev zm_Sa_isOf : zQ := ("LoofahSaints$Saint", prog_7_method_5_code, 4, (Option.some Jvm.ClassFile.FieldType.boolean), false)
set_option maxRecDepth 100000 in
def fn_Sa_isOf_L7 (a1 : Int32) (a2 : Int32) (a3 : Int32) (S : zS) (K7 : Int32 → Int32 → Int32 → zS → Option (Int32 × zS)) : Option (Int32 × zS) :=
  br (decide ((7 : Int32) ≤ a3)) (br (decide (a2 = a1)) (some ((1 : Int32), S)) <|
  some ((0 : Int32), S)) <|
  br (decide (a2 < 0)) (br (decide (a2 = a1)) (some ((1 : Int32), S)) <|
  some ((0 : Int32), S)) <|
  br (decide (a2 = a1)) (br (decide (a2 = a1)) (some ((1 : Int32), S)) <|
  some ((0 : Int32), S)) <|
  gd (gT S 1 1) <|
  gd (gB a2 (zT S 1).2) <|
  K7 a1 (zI S 1 a2.toNatClampNeg) (a3 + (1 : Int32)) S
set_option maxRecDepth 100000 in
set_option maxHeartbeats 4000000 in
theorem tm_Sa_isOf_L7 {X : zXt} {d : Nat} (hd : 2 ≤ d) {v : Int32} {S' : zS}  {K7 : Int32 → Int32 → Int32 → zS → Option (Int32 × zS)} (hK7 : ∀ (a1 : Int32) (a2 : Int32) (a3 : Int32) (S : zS), K7 a1 a2 a3 S = some (v, S') → zG X zm_Sa_isOf d 7 [none, some (.int a1), some (.int a2), some (.int a3)] [] S (some (.int v)) S') {a1 : Int32} {a2 : Int32} {a3 : Int32} {S : zS} (h : fn_Sa_isOf_L7 a1 a2 a3 S K7 = some (v, S')) : zG X zm_Sa_isOf d 7 [none, some (.int a1), some (.int a2), some (.int a3)] [] S (some (.int v)) S' := by
  unfold fn_Sa_isOf_L7 at h
  refine zg_iload_n (pc' := 8) zd_Sa_isOf_7 rfl rfl ?_
  refine zg_bipush (x := (7 : Int32)) (pc' := 10) zd_Sa_isOf_8 (by decide) rfl ?_
  rcases br_some h with ⟨c1, h⟩ | ⟨c1, h⟩
  · refine zg_icmp_ge (tgt := 34) (pc' := 13) zd_Sa_isOf_10 (by decide) rfl (fun _ => ?_) (fun q => absurd c1 q)
    refine zg_iload_n (pc' := 35) zd_Sa_isOf_34 rfl rfl ?_
    refine zg_iload_n (pc' := 36) zd_Sa_isOf_35 rfl rfl ?_
    rcases br_some h with ⟨c2, h⟩ | ⟨c2, h⟩
    · refine zg_icmp_ne (tgt := 43) (pc' := 39) zd_Sa_isOf_36 (by decide) rfl (fun q => absurd c2 q) (fun _ => ?_)
      refine zg_iconst (x := (1 : Int32)) (pc' := 40) zd_Sa_isOf_39 (by decide) rfl ?_
      refine zg_goto (tgt := 44) zd_Sa_isOf_40 (by decide) ?_
      obtain ⟨rfl, rfl⟩ := rt_q h
      exact zg_iret zd_Sa_isOf_44 (zrt_z (by decide))
    · refine zg_icmp_ne (tgt := 43) (pc' := 39) zd_Sa_isOf_36 (by decide) rfl (fun _ => ?_) (fun q => absurd q c2)
      refine zg_iconst (x := (0 : Int32)) (pc' := 44) zd_Sa_isOf_43 (by decide) rfl ?_
      obtain ⟨rfl, rfl⟩ := rt_q h
      exact zg_iret zd_Sa_isOf_44 (zrt_z (by decide))
  · refine zg_icmp_ge (tgt := 34) (pc' := 13) zd_Sa_isOf_10 (by decide) rfl (fun q => absurd q c1) (fun _ => ?_)
    refine zg_iload_n (pc' := 14) zd_Sa_isOf_13 rfl rfl ?_
    rcases br_some h with ⟨c3, h⟩ | ⟨c3, h⟩
    · refine zg_if_lt (tgt := 34) (pc' := 17) zd_Sa_isOf_14 (by decide) rfl (fun _ => ?_) (fun q => absurd c3 q)
      refine zg_iload_n (pc' := 35) zd_Sa_isOf_34 rfl rfl ?_
      refine zg_iload_n (pc' := 36) zd_Sa_isOf_35 rfl rfl ?_
      rcases br_some h with ⟨c4, h⟩ | ⟨c4, h⟩
      · refine zg_icmp_ne (tgt := 43) (pc' := 39) zd_Sa_isOf_36 (by decide) rfl (fun q => absurd c4 q) (fun _ => ?_)
        refine zg_iconst (x := (1 : Int32)) (pc' := 40) zd_Sa_isOf_39 (by decide) rfl ?_
        refine zg_goto (tgt := 44) zd_Sa_isOf_40 (by decide) ?_
        obtain ⟨rfl, rfl⟩ := rt_q h
        exact zg_iret zd_Sa_isOf_44 (zrt_z (by decide))
      · refine zg_icmp_ne (tgt := 43) (pc' := 39) zd_Sa_isOf_36 (by decide) rfl (fun _ => ?_) (fun q => absurd q c4)
        refine zg_iconst (x := (0 : Int32)) (pc' := 44) zd_Sa_isOf_43 (by decide) rfl ?_
        obtain ⟨rfl, rfl⟩ := rt_q h
        exact zg_iret zd_Sa_isOf_44 (zrt_z (by decide))
    · refine zg_if_lt (tgt := 34) (pc' := 17) zd_Sa_isOf_14 (by decide) rfl (fun q => absurd q c3) (fun _ => ?_)
      refine zg_iload_n (pc' := 18) zd_Sa_isOf_17 rfl rfl ?_
      refine zg_iload_n (pc' := 19) zd_Sa_isOf_18 rfl rfl ?_
      rcases br_some h with ⟨c5, h⟩ | ⟨c5, h⟩
      · refine zg_icmp_eq (tgt := 34) (pc' := 22) zd_Sa_isOf_19 (by decide) rfl (fun _ => ?_) (fun q => absurd c5 q)
        refine zg_iload_n (pc' := 35) zd_Sa_isOf_34 rfl rfl ?_
        refine zg_iload_n (pc' := 36) zd_Sa_isOf_35 rfl rfl ?_
        rcases br_some h with ⟨c6, h⟩ | ⟨c6, h⟩
        · refine zg_icmp_ne (tgt := 43) (pc' := 39) zd_Sa_isOf_36 (by decide) rfl (fun q => absurd c6 q) (fun _ => ?_)
          refine zg_iconst (x := (1 : Int32)) (pc' := 40) zd_Sa_isOf_39 (by decide) rfl ?_
          refine zg_goto (tgt := 44) zd_Sa_isOf_40 (by decide) ?_
          obtain ⟨rfl, rfl⟩ := rt_q h
          exact zg_iret zd_Sa_isOf_44 (zrt_z (by decide))
        · refine zg_icmp_ne (tgt := 43) (pc' := 39) zd_Sa_isOf_36 (by decide) rfl (fun _ => ?_) (fun q => absurd q c6)
          refine zg_iconst (x := (0 : Int32)) (pc' := 44) zd_Sa_isOf_43 (by decide) rfl ?_
          obtain ⟨rfl, rfl⟩ := rt_q h
          exact zg_iret zd_Sa_isOf_44 (zrt_z (by decide))
      · refine zg_icmp_eq (tgt := 34) (pc' := 22) zd_Sa_isOf_19 (by decide) rfl (fun q => absurd q c5) (fun _ => ?_)
        refine zg_gs0 (w := .ref 1) (pc' := 25) zk_above (Or.inr ⟨_, .tail _ (.tail _ (.tail _ (.tail _ (.tail _ (.head _)))))⟩) zd_Sa_isOf_22 rfl ?_
        refine zg_iload_n (pc' := 26) zd_Sa_isOf_25 rfl rfl ?_
        obtain ⟨g7, h⟩ := gd_some h
        obtain ⟨g8, h⟩ := gd_some h
        refine zg_iald (pc' := 27) zd_Sa_isOf_26 (gT_ok g7) (gB_ok g8) rfl ?_
        refine zg_istore_n (L' := [none, some (.int a1), some (.int (zI S 1 a2.toNatClampNeg)), some (.int a3)]) (pc' := 28) zd_Sa_isOf_27 (by decide) rfl rfl ?_
        refine zg_iinc (y := (a3 + (1 : Int32))) (L' := [none, some (.int a1), some (.int (zI S 1 a2.toNatClampNeg)), some (.int (a3 + (1 : Int32)))]) (pc' := 31) zd_Sa_isOf_28 rfl rfl (by decide) rfl rfl ?_
        refine zg_goto (tgt := 7) zd_Sa_isOf_31 (by decide) ?_
        exact hK7 _ _ _ _ h
set_option maxRecDepth 100000 in
def fn_Sa_isOf (a0 : Nat) (a1 : Int32) (S : zS) : Option (Int32 × zS) :=
  gd (gT S a0 105) <|
  lp (σ := Int32 × Int32 × Int32 × zS) (fun k s => fn_Sa_isOf_L7 s.1 s.2.1 s.2.2.1 s.2.2.2 (fun (a1 : Int32) (a2 : Int32) (a3 : Int32) (S : zS) => k (a1, a2, a3, S))) FU (a1, (zI S a0 2), (0 : Int32), S)
set_option maxRecDepth 100000 in
set_option maxHeartbeats 4000000 in
theorem tm_Sa_isOf {X : zXt} {d : Nat} (hd : 2 ≤ d) {v : Int32} {a0 : Nat} {a1 : Int32} {S : zS} {S' : zS} (h : fn_Sa_isOf a0 a1 S = some (v, S')) : zM X zy_Sa_isOf prog_7_method_5_code 4 (Option.some Jvm.ClassFile.FieldType.boolean) d [.ref a0, .int a1] S (some (.int v)) S' := by
  refine zM_of (ini := false) (L := [some (.ref a0), some (.int a1), none, none]) (plainFor_of_name (by decide)) (fun h => by cases h) (Nat.le_of_ble_eq_true rfl) rfl ?_
  unfold fn_Sa_isOf at h
  refine zg_aload_n (pc' := 1) zd_Sa_isOf_0 rfl rfl ?_
  obtain ⟨g1, h⟩ := gd_some h
  refine zg_getI (pc' := 4) zf_Sa_15 zd_Sa_isOf_1 (gT_ok g1) rfl ?_
  refine zg_istore_n (L' := [some (.ref a0), some (.int a1), some (.int (zI S a0 2)), none]) (pc' := 5) zd_Sa_isOf_4 (by decide) rfl rfl ?_
  refine zg_iconst (x := (0 : Int32)) (pc' := 6) zd_Sa_isOf_5 (by decide) rfl ?_
  refine zg_istore_n (L' := [some (.ref a0), some (.int a1), some (.int (zI S a0 2)), some (.int (0 : Int32))]) (pc' := 7) zd_Sa_isOf_6 (by decide) rfl rfl ?_
  refine zg_mask (L' := [none, some (.int a1), some (.int (zI S a0 2)), some (.int (0 : Int32))]) (zmk_ok _ _ ⟨rfl, ⟨rfl, ⟨rfl, trivial⟩⟩⟩) ?_
  exact lp_indh h (P := fun s => zG X zm_Sa_isOf d 7 [none, some (.int (s.1)), some (.int (s.2.1)), some (.int (s.2.2.1))] [] (s.2.2.2) (some (.int v)) S') (fun k hk s h => tm_Sa_isOf_L7 hd (fun a1 a2 a3 S h => hk (a1, a2, a3, S) h) h)
theorem zd_Sa_isThread_0 : decode prog_7_method_4_code 0 = .ok (.aload_n 0, 1) := by decide +kernel
theorem zd_Sa_isThread_1 : decode prog_7_method_4_code 1 = .ok (.getfield 25, 3) := by decide +kernel
theorem zd_Sa_isThread_4 : decode prog_7_method_4_code 4 = .ok (.bipush 99, 2) := by decide +kernel
theorem zd_Sa_isThread_6 : decode prog_7_method_4_code 6 = .ok (.if_icmp .lt 7, 3) := by decide +kernel
theorem zd_Sa_isThread_13 : decode prog_7_method_4_code 13 = .ok (.iconst 0, 1) := by decide +kernel
theorem zd_Sa_isThread_9 : decode prog_7_method_4_code 9 = .ok (.iconst 1, 1) := by decide +kernel
theorem zd_Sa_isThread_10 : decode prog_7_method_4_code 10 = .ok (.goto 4, 3) := by decide +kernel
theorem zd_Sa_isThread_14 : decode prog_7_method_4_code 14 = .ok (.ireturn, 1) := by decide +kernel
abbrev zm_Sa_isThread : zQ := ("LoofahSaints$Saint", prog_7_method_4_code, 1, (Option.some Jvm.ClassFile.FieldType.boolean), false)
set_option maxRecDepth 100000 in
def fn_Sa_isThread (a0 : Nat) (S : zS) : Option (Int32 × zS) :=
  gd (gT S a0 105) <|
  br (decide ((zI S a0 5) < (99 : Int32))) (some ((0 : Int32), S)) <|
  some ((1 : Int32), S)
set_option maxRecDepth 100000 in
set_option maxHeartbeats 4000000 in
theorem tm_Sa_isThread {X : zXt} {d : Nat} (hd : 2 ≤ d) {v : Int32} {a0 : Nat} {S : zS} {S' : zS} (h : fn_Sa_isThread a0 S = some (v, S')) : zM X zy_Sa_isThread prog_7_method_4_code 1 (Option.some Jvm.ClassFile.FieldType.boolean) d [.ref a0] S (some (.int v)) S' := by
  refine zM_of (ini := false) (L := [some (.ref a0)]) (plainFor_of_name (by decide)) (fun h => by cases h) (Nat.le_of_ble_eq_true rfl) rfl ?_
  unfold fn_Sa_isThread at h
  refine zg_aload_n (pc' := 1) zd_Sa_isThread_0 rfl rfl ?_
  obtain ⟨g1, h⟩ := gd_some h
  refine zg_getI (pc' := 4) zf_Sa_25 zd_Sa_isThread_1 (gT_ok g1) rfl ?_
  refine zg_bipush (x := (99 : Int32)) (pc' := 6) zd_Sa_isThread_4 (by decide) rfl ?_
  rcases br_some h with ⟨c2, h⟩ | ⟨c2, h⟩
  · refine zg_icmp_lt (tgt := 13) (pc' := 9) zd_Sa_isThread_6 (by decide) rfl (fun _ => ?_) (fun q => absurd c2 q)
    refine zg_iconst (x := (0 : Int32)) (pc' := 14) zd_Sa_isThread_13 (by decide) rfl ?_
    obtain ⟨rfl, rfl⟩ := rt_q h
    exact zg_iret zd_Sa_isThread_14 (zrt_z (by decide))
  · refine zg_icmp_lt (tgt := 13) (pc' := 9) zd_Sa_isThread_6 (by decide) rfl (fun q => absurd q c2) (fun _ => ?_)
    refine zg_iconst (x := (1 : Int32)) (pc' := 10) zd_Sa_isThread_9 (by decide) rfl ?_
    refine zg_goto (tgt := 14) zd_Sa_isThread_10 (by decide) ?_
    obtain ⟨rfl, rfl⟩ := rt_q h
    exact zg_iret zd_Sa_isThread_14 (zrt_z (by decide))
theorem zd_Sa_takes_0 : decode prog_7_method_7_code 0 = .ok (.aload_n 0, 1) := by decide +kernel
theorem zd_Sa_takes_1 : decode prog_7_method_7_code 1 = .ok (.invokevirtual 59, 3) := by decide +kernel
theorem zd_Sa_takes_4 : decode prog_7_method_7_code 4 = .ok (.ifCond .eq 5, 3) := by decide +kernel
theorem zd_Sa_takes_9 : decode prog_7_method_7_code 9 = .ok (.aload_n 0, 1) := by decide +kernel
theorem zd_Sa_takes_10 : decode prog_7_method_7_code 10 = .ok (.iconst 3, 1) := by decide +kernel
theorem zd_Sa_takes_11 : decode prog_7_method_7_code 11 = .ok (.invokevirtual 63, 3) := by decide +kernel
theorem zd_Sa_takes_14 : decode prog_7_method_7_code 14 = .ok (.ifCond .eq 14, 3) := by decide +kernel
theorem zd_Sa_takes_28 : decode prog_7_method_7_code 28 = .ok (.iload_n 1, 1) := by decide +kernel
theorem zd_Sa_takes_29 : decode prog_7_method_7_code 29 = .ok (.aload_n 0, 1) := by decide +kernel
theorem zd_Sa_takes_30 : decode prog_7_method_7_code 30 = .ok (.getfield 22, 3) := by decide +kernel
theorem zd_Sa_takes_33 : decode prog_7_method_7_code 33 = .ok (.iand, 1) := by decide +kernel
theorem zd_Sa_takes_17 : decode prog_7_method_7_code 17 = .ok (.iload_n 1, 1) := by decide +kernel
theorem zd_Sa_takes_18 : decode prog_7_method_7_code 18 = .ok (.aload_n 0, 1) := by decide +kernel
theorem zd_Sa_takes_19 : decode prog_7_method_7_code 19 = .ok (.getfield 22, 3) := by decide +kernel
theorem zd_Sa_takes_22 : decode prog_7_method_7_code 22 = .ok (.iconst (-1), 1) := by decide +kernel
theorem zd_Sa_takes_23 : decode prog_7_method_7_code 23 = .ok (.ixor, 1) := by decide +kernel
theorem zd_Sa_takes_24 : decode prog_7_method_7_code 24 = .ok (.iand, 1) := by decide +kernel
theorem zd_Sa_takes_25 : decode prog_7_method_7_code 25 = .ok (.goto 9, 3) := by decide +kernel
theorem zd_Sa_takes_34 : decode prog_7_method_7_code 34 = .ok (.istore_n 3, 1) := by decide +kernel
theorem zd_Sa_takes_35 : decode prog_7_method_7_code 35 = .ok (.iconst 0, 1) := by decide +kernel
theorem zd_Sa_takes_36 : decode prog_7_method_7_code 36 = .ok (.istore 4, 2) := by decide +kernel
theorem zd_Sa_takes_38 : decode prog_7_method_7_code 38 = .ok (.iconst 0, 1) := by decide +kernel
theorem zd_Sa_takes_39 : decode prog_7_method_7_code 39 = .ok (.istore 5, 2) := by decide +kernel
theorem zd_Sa_takes_41 : decode prog_7_method_7_code 41 = .ok (.iload 5, 2) := by decide +kernel
theorem zd_Sa_takes_43 : decode prog_7_method_7_code 43 = .ok (.iload_n 2, 1) := by decide +kernel
theorem zd_Sa_takes_44 : decode prog_7_method_7_code 44 = .ok (.if_icmp .ge 31, 3) := by decide +kernel
theorem zd_Sa_takes_47 : decode prog_7_method_7_code 47 = .ok (.iload_n 3, 1) := by decide +kernel
theorem zd_Sa_takes_48 : decode prog_7_method_7_code 48 = .ok (.ifCond .eq 27, 3) := by decide +kernel
theorem zd_Sa_takes_75 : decode prog_7_method_7_code 75 = .ok (.iload 4, 2) := by decide +kernel
theorem zd_Sa_takes_77 : decode prog_7_method_7_code 77 = .ok (.ireturn, 1) := by decide +kernel
theorem zd_Sa_takes_51 : decode prog_7_method_7_code 51 = .ok (.iload_n 3, 1) := by decide +kernel
theorem zd_Sa_takes_52 : decode prog_7_method_7_code 52 = .ok (.iload_n 3, 1) := by decide +kernel
theorem zd_Sa_takes_53 : decode prog_7_method_7_code 53 = .ok (.ineg, 1) := by decide +kernel
theorem zd_Sa_takes_54 : decode prog_7_method_7_code 54 = .ok (.iand, 1) := by decide +kernel
theorem zd_Sa_takes_55 : decode prog_7_method_7_code 55 = .ok (.istore 6, 2) := by decide +kernel
theorem zd_Sa_takes_57 : decode prog_7_method_7_code 57 = .ok (.iload 4, 2) := by decide +kernel
theorem zd_Sa_takes_59 : decode prog_7_method_7_code 59 = .ok (.iload 6, 2) := by decide +kernel
theorem zd_Sa_takes_61 : decode prog_7_method_7_code 61 = .ok (.ior, 1) := by decide +kernel
theorem zd_Sa_takes_62 : decode prog_7_method_7_code 62 = .ok (.istore 4, 2) := by decide +kernel
theorem zd_Sa_takes_64 : decode prog_7_method_7_code 64 = .ok (.iload_n 3, 1) := by decide +kernel
theorem zd_Sa_takes_65 : decode prog_7_method_7_code 65 = .ok (.iload 6, 2) := by decide +kernel
theorem zd_Sa_takes_67 : decode prog_7_method_7_code 67 = .ok (.ixor, 1) := by decide +kernel
theorem zd_Sa_takes_68 : decode prog_7_method_7_code 68 = .ok (.istore_n 3, 1) := by decide +kernel
theorem zd_Sa_takes_69 : decode prog_7_method_7_code 69 = .ok (.iinc 5 1, 3) := by decide +kernel
theorem zd_Sa_takes_72 : decode prog_7_method_7_code 72 = .ok (.goto (-31), 3) := by decide +kernel
theorem zd_Sa_takes_7 : decode prog_7_method_7_code 7 = .ok (.iconst 0, 1) := by decide +kernel
theorem zd_Sa_takes_8 : decode prog_7_method_7_code 8 = .ok (.ireturn, 1) := by decide +kernel
abbrev zm_Sa_takes : zQ := ("LoofahSaints$Saint", prog_7_method_7_code, 7, (Option.some Jvm.ClassFile.FieldType.int), false)
set_option maxRecDepth 100000 in
def fn_Sa_takes_L41 (a2 : Int32) (a3 : Int32) (a4 : Int32) (a5 : Int32) (S : zS) (K41 : Int32 → Int32 → Int32 → Int32 → zS → Option (Int32 × zS)) : Option (Int32 × zS) :=
  br (decide (a2 ≤ a5)) (some (a4, S)) <|
  br (decide (a3 = 0)) (some (a4, S)) <|
  K41 a2 (a3 ^^^ (a3 &&& (-a3))) (a4 ||| (a3 &&& (-a3))) (a5 + (1 : Int32)) S
set_option maxRecDepth 100000 in
set_option maxHeartbeats 4000000 in
theorem tm_Sa_takes_L41 {X : zXt} {d : Nat} (hd : 3 ≤ d) {v : Int32} {S' : zS}  {K41 : Int32 → Int32 → Int32 → Int32 → zS → Option (Int32 × zS)} (hK41 : ∀ (a2 : Int32) (a3 : Int32) (a4 : Int32) (a5 : Int32) (S : zS), K41 a2 a3 a4 a5 S = some (v, S') → zG X zm_Sa_takes d 41 [none, none, some (.int a2), some (.int a3), some (.int a4), some (.int a5), none] [] S (some (.int v)) S') {a2 : Int32} {a3 : Int32} {a4 : Int32} {a5 : Int32} {S : zS} (h : fn_Sa_takes_L41 a2 a3 a4 a5 S K41 = some (v, S')) : zG X zm_Sa_takes d 41 [none, none, some (.int a2), some (.int a3), some (.int a4), some (.int a5), none] [] S (some (.int v)) S' := by
  unfold fn_Sa_takes_L41 at h
  refine zg_iload (pc' := 43) zd_Sa_takes_41 rfl rfl ?_
  refine zg_iload_n (pc' := 44) zd_Sa_takes_43 rfl rfl ?_
  rcases br_some h with ⟨c1, h⟩ | ⟨c1, h⟩
  · refine zg_icmp_ge (tgt := 75) (pc' := 47) zd_Sa_takes_44 (by decide) rfl (fun _ => ?_) (fun q => absurd c1 q)
    refine zg_iload (pc' := 77) zd_Sa_takes_75 rfl rfl ?_
    obtain ⟨rfl, rfl⟩ := rt_q h
    exact zg_iret zd_Sa_takes_77 zrt_i
  · refine zg_icmp_ge (tgt := 75) (pc' := 47) zd_Sa_takes_44 (by decide) rfl (fun q => absurd q c1) (fun _ => ?_)
    refine zg_iload_n (pc' := 48) zd_Sa_takes_47 rfl rfl ?_
    rcases br_some h with ⟨c2, h⟩ | ⟨c2, h⟩
    · refine zg_if_eq (tgt := 75) (pc' := 51) zd_Sa_takes_48 (by decide) rfl (fun _ => ?_) (fun q => absurd c2 q)
      refine zg_iload (pc' := 77) zd_Sa_takes_75 rfl rfl ?_
      obtain ⟨rfl, rfl⟩ := rt_q h
      exact zg_iret zd_Sa_takes_77 zrt_i
    · refine zg_if_eq (tgt := 75) (pc' := 51) zd_Sa_takes_48 (by decide) rfl (fun q => absurd q c2) (fun _ => ?_)
      refine zg_iload_n (pc' := 52) zd_Sa_takes_51 rfl rfl ?_
      refine zg_iload_n (pc' := 53) zd_Sa_takes_52 rfl rfl ?_
      refine zg_ineg (pc' := 54) zd_Sa_takes_53 rfl ?_
      refine zg_iand (pc' := 55) zd_Sa_takes_54 rfl ?_
      refine zg_istore (L' := [none, none, some (.int a2), some (.int a3), some (.int a4), some (.int a5), some (.int (a3 &&& (-a3)))]) (pc' := 57) zd_Sa_takes_55 (by decide) rfl rfl ?_
      refine zg_iload (pc' := 59) zd_Sa_takes_57 rfl rfl ?_
      refine zg_iload (pc' := 61) zd_Sa_takes_59 rfl rfl ?_
      refine zg_ior (pc' := 62) zd_Sa_takes_61 rfl ?_
      refine zg_istore (L' := [none, none, some (.int a2), some (.int a3), some (.int (a4 ||| (a3 &&& (-a3)))), some (.int a5), some (.int (a3 &&& (-a3)))]) (pc' := 64) zd_Sa_takes_62 (by decide) rfl rfl ?_
      refine zg_iload_n (pc' := 65) zd_Sa_takes_64 rfl rfl ?_
      refine zg_iload (pc' := 67) zd_Sa_takes_65 rfl rfl ?_
      refine zg_ixor (pc' := 68) zd_Sa_takes_67 rfl ?_
      refine zg_istore_n (L' := [none, none, some (.int a2), some (.int (a3 ^^^ (a3 &&& (-a3)))), some (.int (a4 ||| (a3 &&& (-a3)))), some (.int a5), some (.int (a3 &&& (-a3)))]) (pc' := 69) zd_Sa_takes_68 (by decide) rfl rfl ?_
      refine zg_iinc (y := (a5 + (1 : Int32))) (L' := [none, none, some (.int a2), some (.int (a3 ^^^ (a3 &&& (-a3)))), some (.int (a4 ||| (a3 &&& (-a3)))), some (.int (a5 + (1 : Int32))), some (.int (a3 &&& (-a3)))]) (pc' := 72) zd_Sa_takes_69 rfl rfl (by decide) rfl rfl ?_
      refine zg_goto (tgt := 41) zd_Sa_takes_72 (by decide) ?_
      refine zg_mask (L' := [none, none, some (.int a2), some (.int (a3 ^^^ (a3 &&& (-a3)))), some (.int (a4 ||| (a3 &&& (-a3)))), some (.int (a5 + (1 : Int32))), none]) (zmk_ok _ _ ⟨rfl, ⟨rfl, ⟨rfl, ⟨rfl, trivial⟩⟩⟩⟩) ?_
      exact hK41 _ _ _ _ _ h
set_option maxRecDepth 100000 in
def fn_Sa_takes (a0 : Nat) (a1 : Int32) (a2 : Int32) (S : zS) : Option (Int32 × zS) :=
  gd (gT S a0 105) <|
  bq (fn_Sa_isThread a0 S) fun r4 S2 =>
  br (decide (r4 = 0)) (gd (gT S2 a0 105) <|
  bq (fn_Sa_isOf a0 (3 : Int32) S2) fun r9 S7 =>
  br (decide (r9 = 0)) (gd (gT S7 a0 105) <|
  lp (σ := Int32 × Int32 × Int32 × Int32 × zS) (fun k s => fn_Sa_takes_L41 s.1 s.2.1 s.2.2.1 s.2.2.2.1 s.2.2.2.2 (fun (a2 : Int32) (a3 : Int32) (a4 : Int32) (a5 : Int32) (S : zS) => k (a2, a3, a4, a5, S))) FU (a2, (a1 &&& (zI S7 a0 4)), (0 : Int32), (0 : Int32), S7)) <|
  gd (gT S7 a0 105) <|
  lp (σ := Int32 × Int32 × Int32 × Int32 × zS) (fun k s => fn_Sa_takes_L41 s.1 s.2.1 s.2.2.1 s.2.2.2.1 s.2.2.2.2 (fun (a2 : Int32) (a3 : Int32) (a4 : Int32) (a5 : Int32) (S : zS) => k (a2, a3, a4, a5, S))) FU (a2, (a1 &&& ((zI S7 a0 4) ^^^ (-1 : Int32))), (0 : Int32), (0 : Int32), S7)) <|
  some ((0 : Int32), S2)
set_option maxRecDepth 100000 in
set_option maxHeartbeats 4000000 in
theorem tm_Sa_takes {X : zXt} {d : Nat} (hd : 3 ≤ d) {v : Int32} {a0 : Nat} {a1 : Int32} {a2 : Int32} {S : zS} {S' : zS} (h : fn_Sa_takes a0 a1 a2 S = some (v, S')) : zM X zy_Sa_takes prog_7_method_7_code 7 (Option.some Jvm.ClassFile.FieldType.int) d [.ref a0, .int a1, .int a2] S (some (.int v)) S' := by
  refine zM_of (ini := false) (L := [some (.ref a0), some (.int a1), some (.int a2), none, none, none, none]) (plainFor_of_name (by decide)) (fun h => by cases h) (Nat.le_of_ble_eq_true rfl) rfl ?_
  unfold fn_Sa_takes at h
  refine zg_aload_n (pc' := 1) zd_Sa_takes_0 rfl rfl ?_
  obtain ⟨g1, h⟩ := gd_some h
  obtain ⟨r4, S2, e3, h⟩ := bq_some h
  refine zg_callV (ci := 5) (As := []) (rest := []) (pc' := 4) zl_Sa_59 zq377 zq378 ⟨_, rfl, rfl⟩ zd_Sa_takes_1 rfl rfl (Nat.le_of_ble_eq_true rfl) (by omega) (gT_ok g1) (tm_Sa_isThread (d := 2) (Nat.le_refl _) e3) rfl ?_
  refine zg_st (st' := [.int r4]) rfl ?_
  rcases br_some h with ⟨c5, h⟩ | ⟨c5, h⟩
  · refine zg_if_eq (tgt := 9) (pc' := 7) zd_Sa_takes_4 (by decide) rfl (fun _ => ?_) (fun q => absurd c5 q)
    refine zg_aload_n (pc' := 10) zd_Sa_takes_9 rfl rfl ?_
    refine zg_iconst (x := (3 : Int32)) (pc' := 11) zd_Sa_takes_10 (by decide) rfl ?_
    obtain ⟨g6, h⟩ := gd_some h
    obtain ⟨r9, S7, e8, h⟩ := bq_some h
    refine zg_callV (ci := 5) (As := [.int (3 : Int32)]) (rest := []) (pc' := 14) zl_Sa_63 zq381 zq382 ⟨_, rfl, rfl⟩ zd_Sa_takes_11 rfl rfl (Nat.le_of_ble_eq_true rfl) (by omega) (gT_ok g6) (tm_Sa_isOf (d := 2) (Nat.le_refl _) e8) rfl ?_
    refine zg_st (st' := [.int r9]) rfl ?_
    rcases br_some h with ⟨c10, h⟩ | ⟨c10, h⟩
    · refine zg_if_eq (tgt := 28) (pc' := 17) zd_Sa_takes_14 (by decide) rfl (fun _ => ?_) (fun q => absurd c10 q)
      refine zg_iload_n (pc' := 29) zd_Sa_takes_28 rfl rfl ?_
      refine zg_aload_n (pc' := 30) zd_Sa_takes_29 rfl rfl ?_
      obtain ⟨g11, h⟩ := gd_some h
      refine zg_getI (pc' := 33) zf_Sa_22 zd_Sa_takes_30 (gT_ok g11) rfl ?_
      refine zg_iand (pc' := 34) zd_Sa_takes_33 rfl ?_
      refine zg_istore_n (L' := [some (.ref a0), some (.int a1), some (.int a2), some (.int (a1 &&& (zI S7 a0 4))), none, none, none]) (pc' := 35) zd_Sa_takes_34 (by decide) rfl rfl ?_
      refine zg_iconst (x := (0 : Int32)) (pc' := 36) zd_Sa_takes_35 (by decide) rfl ?_
      refine zg_istore (L' := [some (.ref a0), some (.int a1), some (.int a2), some (.int (a1 &&& (zI S7 a0 4))), some (.int (0 : Int32)), none, none]) (pc' := 38) zd_Sa_takes_36 (by decide) rfl rfl ?_
      refine zg_iconst (x := (0 : Int32)) (pc' := 39) zd_Sa_takes_38 (by decide) rfl ?_
      refine zg_istore (L' := [some (.ref a0), some (.int a1), some (.int a2), some (.int (a1 &&& (zI S7 a0 4))), some (.int (0 : Int32)), some (.int (0 : Int32)), none]) (pc' := 41) zd_Sa_takes_39 (by decide) rfl rfl ?_
      refine zg_mask (L' := [none, none, some (.int a2), some (.int (a1 &&& (zI S7 a0 4))), some (.int (0 : Int32)), some (.int (0 : Int32)), none]) (zmk_ok _ _ ⟨rfl, ⟨rfl, ⟨rfl, ⟨rfl, trivial⟩⟩⟩⟩) ?_
      exact lp_indh h (P := fun s => zG X zm_Sa_takes d 41 [none, none, some (.int (s.1)), some (.int (s.2.1)), some (.int (s.2.2.1)), some (.int (s.2.2.2.1)), none] [] (s.2.2.2.2) (some (.int v)) S') (fun k hk s h => tm_Sa_takes_L41 hd (fun a2 a3 a4 a5 S h => hk (a2, a3, a4, a5, S) h) h)
    · refine zg_if_eq (tgt := 28) (pc' := 17) zd_Sa_takes_14 (by decide) rfl (fun q => absurd q c10) (fun _ => ?_)
      refine zg_iload_n (pc' := 18) zd_Sa_takes_17 rfl rfl ?_
      refine zg_aload_n (pc' := 19) zd_Sa_takes_18 rfl rfl ?_
      obtain ⟨g12, h⟩ := gd_some h
      refine zg_getI (pc' := 22) zf_Sa_22 zd_Sa_takes_19 (gT_ok g12) rfl ?_
      refine zg_iconst (x := (-1 : Int32)) (pc' := 23) zd_Sa_takes_22 (by decide) rfl ?_
      refine zg_ixor (pc' := 24) zd_Sa_takes_23 rfl ?_
      refine zg_iand (pc' := 25) zd_Sa_takes_24 rfl ?_
      refine zg_goto (tgt := 34) zd_Sa_takes_25 (by decide) ?_
      refine zg_istore_n (L' := [some (.ref a0), some (.int a1), some (.int a2), some (.int (a1 &&& ((zI S7 a0 4) ^^^ (-1 : Int32)))), none, none, none]) (pc' := 35) zd_Sa_takes_34 (by decide) rfl rfl ?_
      refine zg_iconst (x := (0 : Int32)) (pc' := 36) zd_Sa_takes_35 (by decide) rfl ?_
      refine zg_istore (L' := [some (.ref a0), some (.int a1), some (.int a2), some (.int (a1 &&& ((zI S7 a0 4) ^^^ (-1 : Int32)))), some (.int (0 : Int32)), none, none]) (pc' := 38) zd_Sa_takes_36 (by decide) rfl rfl ?_
      refine zg_iconst (x := (0 : Int32)) (pc' := 39) zd_Sa_takes_38 (by decide) rfl ?_
      refine zg_istore (L' := [some (.ref a0), some (.int a1), some (.int a2), some (.int (a1 &&& ((zI S7 a0 4) ^^^ (-1 : Int32)))), some (.int (0 : Int32)), some (.int (0 : Int32)), none]) (pc' := 41) zd_Sa_takes_39 (by decide) rfl rfl ?_
      refine zg_mask (L' := [none, none, some (.int a2), some (.int (a1 &&& ((zI S7 a0 4) ^^^ (-1 : Int32)))), some (.int (0 : Int32)), some (.int (0 : Int32)), none]) (zmk_ok _ _ ⟨rfl, ⟨rfl, ⟨rfl, ⟨rfl, trivial⟩⟩⟩⟩) ?_
      exact lp_indh h (P := fun s => zG X zm_Sa_takes d 41 [none, none, some (.int (s.1)), some (.int (s.2.1)), some (.int (s.2.2.1)), some (.int (s.2.2.2.1)), none] [] (s.2.2.2.2) (some (.int v)) S') (fun k hk s h => tm_Sa_takes_L41 hd (fun a2 a3 a4 a5 S h => hk (a2, a3, a4, a5, S) h) h)
  · refine zg_if_eq (tgt := 9) (pc' := 7) zd_Sa_takes_4 (by decide) rfl (fun q => absurd q c5) (fun _ => ?_)
    refine zg_iconst (x := (0 : Int32)) (pc' := 8) zd_Sa_takes_7 (by decide) rfl ?_
    obtain ⟨rfl, rfl⟩ := rt_q h
    exact zg_iret zd_Sa_takes_8 zrt_i
theorem zd_Sa_worn_0 : decode prog_7_method_10_code 0 = .ok (.bipush 99, 2) := by decide +kernel
theorem zd_Sa_worn_2 : decode prog_7_method_10_code 2 = .ok (.iload_n 0, 1) := by decide +kernel
theorem zd_Sa_worn_3 : decode prog_7_method_10_code 3 = .ok (.iload_n 1, 1) := by decide +kernel
theorem zd_Sa_worn_4 : decode prog_7_method_10_code 4 = .ok (.ifCond .eq 9, 3) := by decide +kernel
theorem zd_Sa_worn_13 : decode prog_7_method_10_code 13 = .ok (.iload_n 2, 1) := by decide +kernel
theorem zd_Sa_worn_7 : decode prog_7_method_10_code 7 = .ok (.iload_n 2, 1) := by decide +kernel
theorem zd_Sa_worn_8 : decode prog_7_method_10_code 8 = .ok (.iconst 2, 1) := by decide +kernel
theorem zd_Sa_worn_9 : decode prog_7_method_10_code 9 = .ok (.idiv, 1) := by decide +kernel
theorem zd_Sa_worn_10 : decode prog_7_method_10_code 10 = .ok (.goto 4, 3) := by decide +kernel
theorem zd_Sa_worn_14 : decode prog_7_method_10_code 14 = .ok (.iadd, 1) := by decide +kernel
theorem zd_Sa_worn_15 : decode prog_7_method_10_code 15 = .ok (.invokestatic 71, 3) := by decide +kernel
theorem zd_Sa_worn_18 : decode prog_7_method_10_code 18 = .ok (.ireturn, 1) := by decide +kernel
abbrev zm_Sa_worn : zQ := ("LoofahSaints$Saint", prog_7_method_10_code, 3, (Option.some Jvm.ClassFile.FieldType.int), false)
set_option maxRecDepth 100000 in
def fn_Sa_worn (a0 : Int32) (a1 : Int32) (a2 : Int32) (S : zS) : Option (Int32 × zS) :=
  br (decide (a1 = 0)) (bq (fn_Jd_min (99 : Int32) (a0 + a2) S) fun r4 S2 =>
  some (r4, S2)) <|
  bq (fn_Jd_min (99 : Int32) (a0 + (a2 / (2 : Int32))) S) fun r7 S5 =>
  some (r7, S5)
set_option maxRecDepth 100000 in
set_option maxHeartbeats 4000000 in
theorem tm_Sa_worn {X : zXt} {d : Nat} (hd : 3 ≤ d) {v : Int32} {a0 : Int32} {a1 : Int32} {a2 : Int32} {S : zS} {S' : zS} (h : fn_Sa_worn a0 a1 a2 S = some (v, S')) : zM X zy_Sa_worn prog_7_method_10_code 3 (Option.some Jvm.ClassFile.FieldType.int) d [.int a0, .int a1, .int a2] S (some (.int v)) S' := by
  refine zM_of (ini := false) (L := [some (.int a0), some (.int a1), some (.int a2)]) (plainFor_of_name (by decide)) (fun h => by cases h) (Nat.le_of_ble_eq_true rfl) rfl ?_
  unfold fn_Sa_worn at h
  refine zg_bipush (x := (99 : Int32)) (pc' := 2) zd_Sa_worn_0 (by decide) rfl ?_
  refine zg_iload_n (pc' := 3) zd_Sa_worn_2 rfl rfl ?_
  refine zg_iload_n (pc' := 4) zd_Sa_worn_3 rfl rfl ?_
  rcases br_some h with ⟨c1, h⟩ | ⟨c1, h⟩
  · refine zg_if_eq (tgt := 13) (pc' := 7) zd_Sa_worn_4 (by decide) rfl (fun _ => ?_) (fun q => absurd c1 q)
    refine zg_iload_n (pc' := 14) zd_Sa_worn_13 rfl rfl ?_
    refine zg_iadd (pc' := 15) zd_Sa_worn_14 rfl ?_
    obtain ⟨r4, S2, e3, h⟩ := bq_some h
    refine zg_callS (As := [.int (99 : Int32), .int (a0 + a2)]) (rest := []) (pc' := 18) zl_Sa_71 zq398 zd_Sa_worn_15 rfl rfl (Nat.le_of_ble_eq_true rfl) (by omega) (tm_Jd_min (d := 2) (Nat.le_refl _) e3) rfl ?_
    refine zg_st (st' := [.int r4]) rfl ?_
    obtain ⟨rfl, rfl⟩ := rt_q h
    exact zg_iret zd_Sa_worn_18 zrt_i
  · refine zg_if_eq (tgt := 13) (pc' := 7) zd_Sa_worn_4 (by decide) rfl (fun q => absurd q c1) (fun _ => ?_)
    refine zg_iload_n (pc' := 8) zd_Sa_worn_7 rfl rfl ?_
    refine zg_iconst (x := (2 : Int32)) (pc' := 9) zd_Sa_worn_8 (by decide) rfl ?_
    refine zg_idiv (pc' := 10) zd_Sa_worn_9 rfl (by decide) ?_
    refine zg_goto (tgt := 14) zd_Sa_worn_10 (by decide) ?_
    refine zg_iadd (pc' := 15) zd_Sa_worn_14 rfl ?_
    obtain ⟨r7, S5, e6, h⟩ := bq_some h
    refine zg_callS (As := [.int (99 : Int32), .int (a0 + (a2 / (2 : Int32)))]) (rest := []) (pc' := 18) zl_Sa_71 zq398 zd_Sa_worn_15 rfl rfl (Nat.le_of_ble_eq_true rfl) (by omega) (tm_Jd_min (d := 2) (Nat.le_refl _) e6) rfl ?_
    refine zg_st (st' := [.int r7]) rfl ?_
    obtain ⟨rfl, rfl⟩ := rt_q h
    exact zg_iret zd_Sa_worn_18 zrt_i
theorem zd_Sa_wearBy_0 : decode prog_7_method_8_code 0 = .ok (.aload_n 0, 1) := by decide +kernel
theorem zd_Sa_wearBy_1 : decode prog_7_method_8_code 1 = .ok (.aload_n 0, 1) := by decide +kernel
theorem zd_Sa_wearBy_2 : decode prog_7_method_8_code 2 = .ok (.getfield 25, 3) := by decide +kernel
theorem zd_Sa_wearBy_5 : decode prog_7_method_8_code 5 = .ok (.aload_n 0, 1) := by decide +kernel
theorem zd_Sa_wearBy_6 : decode prog_7_method_8_code 6 = .ok (.getfield 31, 3) := by decide +kernel
theorem zd_Sa_wearBy_9 : decode prog_7_method_8_code 9 = .ok (.iload_n 1, 1) := by decide +kernel
theorem zd_Sa_wearBy_10 : decode prog_7_method_8_code 10 = .ok (.invokestatic 67, 3) := by decide +kernel
theorem zd_Sa_wearBy_13 : decode prog_7_method_8_code 13 = .ok (.putfield 25, 3) := by decide +kernel
theorem zd_Sa_wearBy_16 : decode prog_7_method_8_code 16 = .ok (.aload_n 0, 1) := by decide +kernel
theorem zd_Sa_wearBy_17 : decode prog_7_method_8_code 17 = .ok (.iconst 1, 1) := by decide +kernel
theorem zd_Sa_wearBy_18 : decode prog_7_method_8_code 18 = .ok (.putfield 31, 3) := by decide +kernel
theorem zd_Sa_wearBy_21 : decode prog_7_method_8_code 21 = .ok (.return_, 1) := by decide +kernel
abbrev zm_Sa_wearBy : zQ := ("LoofahSaints$Saint", prog_7_method_8_code, 2, (Option.none : Option Jvm.ClassFile.FieldType), false)
set_option maxRecDepth 100000 in
def fn_Sa_wearBy (a0 : Nat) (a1 : Int32) (S : zS) : Option (zS) :=
  gd (gT S a0 105) <|
  bq (fn_Sa_worn (zI S a0 5) (zI S a0 7) a1 S) fun r4 S2 =>
  gd (gT S2 a0 105) <|
  nm (uI S2 a0 5 r4) fun S6 =>
  gd (gT S6 a0 105) <|
  nm (uI S6 a0 7 (1 : Int32)) fun S8 =>
  some S8
set_option maxRecDepth 100000 in
set_option maxHeartbeats 4000000 in
theorem tm_Sa_wearBy {X : zXt} {d : Nat} (hd : 4 ≤ d) {a0 : Nat} {a1 : Int32} {S : zS} {S' : zS} (h : fn_Sa_wearBy a0 a1 S = some S') : zM X zy_Sa_wearBy prog_7_method_8_code 2 (Option.none : Option Jvm.ClassFile.FieldType) d [.ref a0, .int a1] S none S' := by
  refine zM_of (ini := false) (L := [some (.ref a0), some (.int a1)]) (plainFor_of_name (by decide)) (fun h => by cases h) (Nat.le_of_ble_eq_true rfl) rfl ?_
  unfold fn_Sa_wearBy at h
  refine zg_aload_n (pc' := 1) zd_Sa_wearBy_0 rfl rfl ?_
  refine zg_aload_n (pc' := 2) zd_Sa_wearBy_1 rfl rfl ?_
  obtain ⟨g1, h⟩ := gd_some h
  refine zg_getI (pc' := 5) zf_Sa_25 zd_Sa_wearBy_2 (gT_ok g1) rfl ?_
  refine zg_aload_n (pc' := 6) zd_Sa_wearBy_5 rfl rfl ?_
  refine zg_getZ (pc' := 9) zf_Sa_31 zd_Sa_wearBy_6 (gT_ok g1) rfl ?_
  refine zg_iload_n (pc' := 10) zd_Sa_wearBy_9 rfl rfl ?_
  obtain ⟨r4, S2, e3, h⟩ := bq_some h
  refine zg_callS (As := [.int (zI S a0 5), .int (zI S a0 7), .int a1]) (rest := [.ref a0]) (pc' := 13) zl_Sa_67 zq395 zd_Sa_wearBy_10 rfl rfl (Nat.le_of_ble_eq_true rfl) (by omega) (tm_Sa_worn (d := 3) (Nat.le_refl _) e3) rfl ?_
  refine zg_st (st' := [.int r4, .ref a0]) rfl ?_
  obtain ⟨g5, h⟩ := gd_some h
  refine zg_putI (pc' := 16) zf_Sa_25 zd_Sa_wearBy_13 (Or.inl rfl) (gT_ok g5) rfl ?_
  obtain ⟨S6, eS6, h⟩ := nm_some h
  refine zg_nm eS6 ?_
  refine zg_aload_n (pc' := 17) zd_Sa_wearBy_16 rfl rfl ?_
  refine zg_iconst (x := (1 : Int32)) (pc' := 18) zd_Sa_wearBy_17 (by decide) rfl ?_
  obtain ⟨g7, h⟩ := gd_some h
  refine zg_putZ (pc' := 21) zf_Sa_31 zd_Sa_wearBy_18 (Or.inl rfl) (gT_ok g7) (by decide) rfl ?_
  obtain ⟨S8, eS8, h⟩ := nm_some h
  refine zg_nm eS8 ?_
  obtain rfl := rt_v h
  exact zg_vret zd_Sa_wearBy_21 rfl
theorem zd_Rw_cell_0 : decode prog_6_method_4_code 0 = .ok (.iload_n 1, 1) := by decide +kernel
theorem zd_Rw_cell_1 : decode prog_6_method_4_code 1 = .ok (.ifCond .lt 20, 3) := by decide +kernel
theorem zd_Rw_cell_4 : decode prog_6_method_4_code 4 = .ok (.iload_n 1, 1) := by decide +kernel
theorem zd_Rw_cell_5 : decode prog_6_method_4_code 5 = .ok (.aload_n 0, 1) := by decide +kernel
theorem zd_Rw_cell_6 : decode prog_6_method_4_code 6 = .ok (.getfield 9, 3) := by decide +kernel
theorem zd_Rw_cell_9 : decode prog_6_method_4_code 9 = .ok (.if_icmp .ge 12, 3) := by decide +kernel
theorem zd_Rw_cell_12 : decode prog_6_method_4_code 12 = .ok (.iload_n 2, 1) := by decide +kernel
theorem zd_Rw_cell_13 : decode prog_6_method_4_code 13 = .ok (.ifCond .lt 8, 3) := by decide +kernel
theorem zd_Rw_cell_16 : decode prog_6_method_4_code 16 = .ok (.iload_n 2, 1) := by decide +kernel
theorem zd_Rw_cell_17 : decode prog_6_method_4_code 17 = .ok (.iconst 3, 1) := by decide +kernel
theorem zd_Rw_cell_18 : decode prog_6_method_4_code 18 = .ok (.if_icmp .lt 5, 3) := by decide +kernel
theorem zd_Rw_cell_23 : decode prog_6_method_4_code 23 = .ok (.aload_n 0, 1) := by decide +kernel
theorem zd_Rw_cell_24 : decode prog_6_method_4_code 24 = .ok (.getfield 18, 3) := by decide +kernel
theorem zd_Rw_cell_27 : decode prog_6_method_4_code 27 = .ok (.iload_n 1, 1) := by decide +kernel
theorem zd_Rw_cell_28 : decode prog_6_method_4_code 28 = .ok (.iconst 3, 1) := by decide +kernel
theorem zd_Rw_cell_29 : decode prog_6_method_4_code 29 = .ok (.imul, 1) := by decide +kernel
theorem zd_Rw_cell_30 : decode prog_6_method_4_code 30 = .ok (.iload_n 2, 1) := by decide +kernel
theorem zd_Rw_cell_31 : decode prog_6_method_4_code 31 = .ok (.iadd, 1) := by decide +kernel
theorem zd_Rw_cell_32 : decode prog_6_method_4_code 32 = .ok (.iaload, 1) := by decide +kernel
theorem zd_Rw_cell_33 : decode prog_6_method_4_code 33 = .ok (.ireturn, 1) := by decide +kernel
theorem zd_Rw_cell_21 : decode prog_6_method_4_code 21 = .ok (.iconst 0, 1) := by decide +kernel
theorem zd_Rw_cell_22 : decode prog_6_method_4_code 22 = .ok (.ireturn, 1) := by decide +kernel
abbrev zm_Rw_cell : zQ := ("LoofahSaints$Rows", prog_6_method_4_code, 3, (Option.some Jvm.ClassFile.FieldType.int), false)
set_option maxRecDepth 100000 in
def fn_Rw_cell (a0 : Nat) (a1 : Int32) (a2 : Int32) (S : zS) : Option (Int32 × zS) :=
  br (decide (a1 < 0)) (some ((0 : Int32), S)) <|
  gd (gT S a0 104) <|
  br (decide ((zI S a0 2) ≤ a1)) (some ((0 : Int32), S)) <|
  br (decide (a2 < 0)) (some ((0 : Int32), S)) <|
  br (decide (a2 < (3 : Int32))) (gd (gT S (zR S a0 0) 1) <|
  gd (gB ((a1 * (3 : Int32)) + a2) (zT S (zR S a0 0)).2) <|
  some ((zI S (zR S a0 0) ((a1 * (3 : Int32)) + a2).toNatClampNeg), S)) <|
  some ((0 : Int32), S)
set_option maxRecDepth 100000 in
set_option maxHeartbeats 4000000 in
theorem tm_Rw_cell {X : zXt} {d : Nat} (hd : 2 ≤ d) {v : Int32} {a0 : Nat} {a1 : Int32} {a2 : Int32} {S : zS} {S' : zS} (h : fn_Rw_cell a0 a1 a2 S = some (v, S')) : zM X zy_Rw_cell prog_6_method_4_code 3 (Option.some Jvm.ClassFile.FieldType.int) d [.ref a0, .int a1, .int a2] S (some (.int v)) S' := by
  refine zM_of (ini := false) (L := [some (.ref a0), some (.int a1), some (.int a2)]) (plainFor_of_name (by decide)) (fun h => by cases h) (Nat.le_of_ble_eq_true rfl) rfl ?_
  unfold fn_Rw_cell at h
  refine zg_iload_n (pc' := 1) zd_Rw_cell_0 rfl rfl ?_
  rcases br_some h with ⟨c1, h⟩ | ⟨c1, h⟩
  · refine zg_if_lt (tgt := 21) (pc' := 4) zd_Rw_cell_1 (by decide) rfl (fun _ => ?_) (fun q => absurd c1 q)
    refine zg_iconst (x := (0 : Int32)) (pc' := 22) zd_Rw_cell_21 (by decide) rfl ?_
    obtain ⟨rfl, rfl⟩ := rt_q h
    exact zg_iret zd_Rw_cell_22 zrt_i
  · refine zg_if_lt (tgt := 21) (pc' := 4) zd_Rw_cell_1 (by decide) rfl (fun q => absurd q c1) (fun _ => ?_)
    refine zg_iload_n (pc' := 5) zd_Rw_cell_4 rfl rfl ?_
    refine zg_aload_n (pc' := 6) zd_Rw_cell_5 rfl rfl ?_
    obtain ⟨g2, h⟩ := gd_some h
    refine zg_getI (pc' := 9) zf_Rw_9 zd_Rw_cell_6 (gT_ok g2) rfl ?_
    rcases br_some h with ⟨c3, h⟩ | ⟨c3, h⟩
    · refine zg_icmp_ge (tgt := 21) (pc' := 12) zd_Rw_cell_9 (by decide) rfl (fun _ => ?_) (fun q => absurd c3 q)
      refine zg_iconst (x := (0 : Int32)) (pc' := 22) zd_Rw_cell_21 (by decide) rfl ?_
      obtain ⟨rfl, rfl⟩ := rt_q h
      exact zg_iret zd_Rw_cell_22 zrt_i
    · refine zg_icmp_ge (tgt := 21) (pc' := 12) zd_Rw_cell_9 (by decide) rfl (fun q => absurd q c3) (fun _ => ?_)
      refine zg_iload_n (pc' := 13) zd_Rw_cell_12 rfl rfl ?_
      rcases br_some h with ⟨c4, h⟩ | ⟨c4, h⟩
      · refine zg_if_lt (tgt := 21) (pc' := 16) zd_Rw_cell_13 (by decide) rfl (fun _ => ?_) (fun q => absurd c4 q)
        refine zg_iconst (x := (0 : Int32)) (pc' := 22) zd_Rw_cell_21 (by decide) rfl ?_
        obtain ⟨rfl, rfl⟩ := rt_q h
        exact zg_iret zd_Rw_cell_22 zrt_i
      · refine zg_if_lt (tgt := 21) (pc' := 16) zd_Rw_cell_13 (by decide) rfl (fun q => absurd q c4) (fun _ => ?_)
        refine zg_iload_n (pc' := 17) zd_Rw_cell_16 rfl rfl ?_
        refine zg_iconst (x := (3 : Int32)) (pc' := 18) zd_Rw_cell_17 (by decide) rfl ?_
        rcases br_some h with ⟨c5, h⟩ | ⟨c5, h⟩
        · refine zg_icmp_lt (tgt := 23) (pc' := 21) zd_Rw_cell_18 (by decide) rfl (fun _ => ?_) (fun q => absurd c5 q)
          refine zg_aload_n (pc' := 24) zd_Rw_cell_23 rfl rfl ?_
          refine zg_getR (pc' := 27) zf_Rw_18 rfl zd_Rw_cell_24 (gT_ok g2) rfl ?_
          refine zg_iload_n (pc' := 28) zd_Rw_cell_27 rfl rfl ?_
          refine zg_iconst (x := (3 : Int32)) (pc' := 29) zd_Rw_cell_28 (by decide) rfl ?_
          refine zg_imul (pc' := 30) zd_Rw_cell_29 rfl ?_
          refine zg_iload_n (pc' := 31) zd_Rw_cell_30 rfl rfl ?_
          refine zg_iadd (pc' := 32) zd_Rw_cell_31 rfl ?_
          obtain ⟨g6, h⟩ := gd_some h
          obtain ⟨g7, h⟩ := gd_some h
          refine zg_iald (pc' := 33) zd_Rw_cell_32 (gT_ok g6) (gB_ok g7) rfl ?_
          obtain ⟨rfl, rfl⟩ := rt_q h
          exact zg_iret zd_Rw_cell_33 zrt_i
        · refine zg_icmp_lt (tgt := 23) (pc' := 21) zd_Rw_cell_18 (by decide) rfl (fun q => absurd q c5) (fun _ => ?_)
          refine zg_iconst (x := (0 : Int32)) (pc' := 22) zd_Rw_cell_21 (by decide) rfl ?_
          obtain ⟨rfl, rfl⟩ := rt_q h
          exact zg_iret zd_Rw_cell_22 zrt_i
theorem zd_Or_init_0 : decode prog_4_method_1_code 0 = .ok (.aload_n 0, 1) := by decide +kernel
theorem zd_Or_init_1 : decode prog_4_method_1_code 1 = .ok (.invokespecial 3, 3) := by decide +kernel
theorem zd_Or_init_4 : decode prog_4_method_1_code 4 = .ok (.aload_n 0, 1) := by decide +kernel
theorem zd_Or_init_5 : decode prog_4_method_1_code 5 = .ok (.iconst 0, 1) := by decide +kernel
theorem zd_Or_init_6 : decode prog_4_method_1_code 6 = .ok (.putfield 9, 3) := by decide +kernel
theorem zd_Or_init_9 : decode prog_4_method_1_code 9 = .ok (.aload_n 0, 1) := by decide +kernel
theorem zd_Or_init_10 : decode prog_4_method_1_code 10 = .ok (.bipush 6, 2) := by decide +kernel
theorem zd_Or_init_12 : decode prog_4_method_1_code 12 = .ok (.putfield 15, 3) := by decide +kernel
theorem zd_Or_init_15 : decode prog_4_method_1_code 15 = .ok (.aload_n 0, 1) := by decide +kernel
theorem zd_Or_init_16 : decode prog_4_method_1_code 16 = .ok (.iload_n 1, 1) := by decide +kernel
theorem zd_Or_init_17 : decode prog_4_method_1_code 17 = .ok (.newarray .int, 2) := by decide +kernel
theorem zd_Or_init_19 : decode prog_4_method_1_code 19 = .ok (.putfield 18, 3) := by decide +kernel
theorem zd_Or_init_22 : decode prog_4_method_1_code 22 = .ok (.aload_n 0, 1) := by decide +kernel
theorem zd_Or_init_23 : decode prog_4_method_1_code 23 = .ok (.iload_n 1, 1) := by decide +kernel
theorem zd_Or_init_24 : decode prog_4_method_1_code 24 = .ok (.newarray .int, 2) := by decide +kernel
theorem zd_Or_init_26 : decode prog_4_method_1_code 26 = .ok (.putfield 22, 3) := by decide +kernel
theorem zd_Or_init_29 : decode prog_4_method_1_code 29 = .ok (.return_, 1) := by decide +kernel
abbrev zm_Or_init : zQ := ("LoofahSaints$Order", prog_4_method_1_code, 2, (Option.none : Option Jvm.ClassFile.FieldType), true)
set_option maxRecDepth 100000 in
def fn_Or_init (a0 : Nat) (a1 : Int32) (S : zS) : Option (zS) :=
  gd (gT S a0 102) <|
  nm (uI S a0 2 (0 : Int32)) fun S2 =>
  gd (gT S2 a0 102) <|
  nm (uI S2 a0 3 (6 : Int32)) fun S4 =>
  gd (gN a1) <|
  nm (uN S4 (1, a1.toNatClampNeg)) fun S6 =>
  gd (gT S6 a0 102) <|
  nm (uR S6 a0 0 (zN S4)) fun S8 =>
  nm (uN S8 (1, a1.toNatClampNeg)) fun S9 =>
  gd (gT S9 a0 102) <|
  nm (uR S9 a0 1 (zN S8)) fun S11 =>
  some S11
set_option maxRecDepth 100000 in
set_option maxHeartbeats 4000000 in
theorem tm_Or_init {X : zXt} {d : Nat} (hd : 2 ≤ d) {a0 : Nat} {a1 : Int32} {S : zS} {S' : zS} (h : fn_Or_init a0 a1 S = some S') : zM X zy_Or_init prog_4_method_1_code 2 (Option.none : Option Jvm.ClassFile.FieldType) d [.ref a0, .int a1] S none S' := by
  refine zM_of (ini := true) (L := [some (.ref a0), some (.int a1)]) (plainFor_of_name (by decide)) (fun _ => rfl) (Nat.le_of_ble_eq_true rfl) rfl ?_
  unfold fn_Or_init at h
  refine zg_aload_n (pc' := 1) zd_Or_init_0 rfl rfl ?_
  obtain ⟨g1, h⟩ := gd_some h
  refine zg_oinit (ci := 2) (pc' := 4) zq42 zq25 zq26 zd_Or_init_1 (by omega) (gT_ok g1) (Nat.le_of_ble_eq_true rfl) rfl ?_
  refine zg_aload_n (pc' := 5) zd_Or_init_4 rfl rfl ?_
  refine zg_iconst (x := (0 : Int32)) (pc' := 6) zd_Or_init_5 (by decide) rfl ?_
  refine zg_putI (pc' := 9) zf_Or_9 zd_Or_init_6 (Or.inl rfl) (gT_ok g1) rfl ?_
  obtain ⟨S2, eS2, h⟩ := nm_some h
  refine zg_nm eS2 ?_
  refine zg_aload_n (pc' := 10) zd_Or_init_9 rfl rfl ?_
  refine zg_bipush (x := (6 : Int32)) (pc' := 12) zd_Or_init_10 (by decide) rfl ?_
  obtain ⟨g3, h⟩ := gd_some h
  refine zg_putI (pc' := 15) zf_Or_15 zd_Or_init_12 (Or.inl rfl) (gT_ok g3) rfl ?_
  obtain ⟨S4, eS4, h⟩ := nm_some h
  refine zg_nm eS4 ?_
  refine zg_aload_n (pc' := 16) zd_Or_init_15 rfl rfl ?_
  refine zg_iload_n (pc' := 17) zd_Or_init_16 rfl rfl ?_
  obtain ⟨g5, h⟩ := gd_some h
  refine zg_newa (t := 1) (ty := .int) (pc' := 19) rfl (by simp) zq59 zd_Or_init_17 (gN_ok g5).1 (gN_ok g5).2 rfl ?_
  obtain ⟨S6, eS6, h⟩ := nm_some h
  refine zg_nm eS6 ?_
  obtain ⟨g7, h⟩ := gd_some h
  refine zg_putR (pc' := 22) zf_Or_18 rfl zd_Or_init_19 (Or.inr ⟨rfl, _, rfl, rfl⟩) (gT_ok g7) rfl ?_
  obtain ⟨S8, eS8, h⟩ := nm_some h
  refine zg_nm eS8 ?_
  refine zg_aload_n (pc' := 23) zd_Or_init_22 rfl rfl ?_
  refine zg_iload_n (pc' := 24) zd_Or_init_23 rfl rfl ?_
  refine zg_newa (t := 1) (ty := .int) (pc' := 26) rfl (by simp) zq59 zd_Or_init_24 (gN_ok g5).1 (gN_ok g5).2 rfl ?_
  obtain ⟨S9, eS9, h⟩ := nm_some h
  refine zg_nm eS9 ?_
  obtain ⟨g10, h⟩ := gd_some h
  refine zg_putR (pc' := 29) zf_Or_22 rfl zd_Or_init_26 (Or.inr ⟨rfl, _, rfl, rfl⟩) (gT_ok g10) rfl ?_
  obtain ⟨S11, eS11, h⟩ := nm_some h
  refine zg_nm eS11 ?_
  obtain rfl := rt_v h
  exact zg_vret zd_Or_init_29 rfl
theorem zd_Or_begin_0 : decode prog_4_method_2_code 0 = .ok (.aload_n 0, 1) := by decide +kernel
theorem zd_Or_begin_1 : decode prog_4_method_2_code 1 = .ok (.iconst 0, 1) := by decide +kernel
theorem zd_Or_begin_2 : decode prog_4_method_2_code 2 = .ok (.putfield 9, 3) := by decide +kernel
theorem zd_Or_begin_5 : decode prog_4_method_2_code 5 = .ok (.aload_n 0, 1) := by decide +kernel
theorem zd_Or_begin_6 : decode prog_4_method_2_code 6 = .ok (.bipush 6, 2) := by decide +kernel
theorem zd_Or_begin_8 : decode prog_4_method_2_code 8 = .ok (.putfield 15, 3) := by decide +kernel
theorem zd_Or_begin_11 : decode prog_4_method_2_code 11 = .ok (.return_, 1) := by decide +kernel
abbrev zm_Or_begin : zQ := ("LoofahSaints$Order", prog_4_method_2_code, 1, (Option.none : Option Jvm.ClassFile.FieldType), false)
set_option maxRecDepth 100000 in
def fn_Or_begin (a0 : Nat) (S : zS) : Option (zS) :=
  gd (gT S a0 102) <|
  nm (uI S a0 2 (0 : Int32)) fun S2 =>
  gd (gT S2 a0 102) <|
  nm (uI S2 a0 3 (6 : Int32)) fun S4 =>
  some S4
set_option maxRecDepth 100000 in
set_option maxHeartbeats 4000000 in
theorem tm_Or_begin {X : zXt} {d : Nat} (hd : 2 ≤ d) {a0 : Nat} {S : zS} {S' : zS} (h : fn_Or_begin a0 S = some S') : zM X zy_Or_begin prog_4_method_2_code 1 (Option.none : Option Jvm.ClassFile.FieldType) d [.ref a0] S none S' := by
  refine zM_of (ini := false) (L := [some (.ref a0)]) (plainFor_of_name (by decide)) (fun h => by cases h) (Nat.le_of_ble_eq_true rfl) rfl ?_
  unfold fn_Or_begin at h
  refine zg_aload_n (pc' := 1) zd_Or_begin_0 rfl rfl ?_
  refine zg_iconst (x := (0 : Int32)) (pc' := 2) zd_Or_begin_1 (by decide) rfl ?_
  obtain ⟨g1, h⟩ := gd_some h
  refine zg_putI (pc' := 5) zf_Or_9 zd_Or_begin_2 (Or.inl rfl) (gT_ok g1) rfl ?_
  obtain ⟨S2, eS2, h⟩ := nm_some h
  refine zg_nm eS2 ?_
  refine zg_aload_n (pc' := 6) zd_Or_begin_5 rfl rfl ?_
  refine zg_bipush (x := (6 : Int32)) (pc' := 8) zd_Or_begin_6 (by decide) rfl ?_
  obtain ⟨g3, h⟩ := gd_some h
  refine zg_putI (pc' := 11) zf_Or_15 zd_Or_begin_8 (Or.inl rfl) (gT_ok g3) rfl ?_
  obtain ⟨S4, eS4, h⟩ := nm_some h
  refine zg_nm eS4 ?_
  obtain rfl := rt_v h
  exact zg_vret zd_Or_begin_11 rfl
theorem zd_Or_put_0 : decode prog_4_method_3_code 0 = .ok (.aload_n 0, 1) := by decide +kernel
theorem zd_Or_put_1 : decode prog_4_method_3_code 1 = .ok (.getfield 9, 3) := by decide +kernel
theorem zd_Or_put_4 : decode prog_4_method_3_code 4 = .ok (.aload_n 0, 1) := by decide +kernel
theorem zd_Or_put_5 : decode prog_4_method_3_code 5 = .ok (.getfield 18, 3) := by decide +kernel
theorem zd_Or_put_8 : decode prog_4_method_3_code 8 = .ok (.arraylength, 1) := by decide +kernel
theorem zd_Or_put_9 : decode prog_4_method_3_code 9 = .ok (.if_icmp .lt 4, 3) := by decide +kernel
theorem zd_Or_put_13 : decode prog_4_method_3_code 13 = .ok (.aload_n 0, 1) := by decide +kernel
theorem zd_Or_put_14 : decode prog_4_method_3_code 14 = .ok (.getfield 18, 3) := by decide +kernel
theorem zd_Or_put_17 : decode prog_4_method_3_code 17 = .ok (.aload_n 0, 1) := by decide +kernel
theorem zd_Or_put_18 : decode prog_4_method_3_code 18 = .ok (.getfield 9, 3) := by decide +kernel
theorem zd_Or_put_21 : decode prog_4_method_3_code 21 = .ok (.iload_n 1, 1) := by decide +kernel
theorem zd_Or_put_22 : decode prog_4_method_3_code 22 = .ok (.iastore, 1) := by decide +kernel
theorem zd_Or_put_23 : decode prog_4_method_3_code 23 = .ok (.aload_n 0, 1) := by decide +kernel
theorem zd_Or_put_24 : decode prog_4_method_3_code 24 = .ok (.getfield 22, 3) := by decide +kernel
theorem zd_Or_put_27 : decode prog_4_method_3_code 27 = .ok (.aload_n 0, 1) := by decide +kernel
theorem zd_Or_put_28 : decode prog_4_method_3_code 28 = .ok (.getfield 9, 3) := by decide +kernel
theorem zd_Or_put_31 : decode prog_4_method_3_code 31 = .ok (.iload_n 2, 1) := by decide +kernel
theorem zd_Or_put_32 : decode prog_4_method_3_code 32 = .ok (.iastore, 1) := by decide +kernel
theorem zd_Or_put_33 : decode prog_4_method_3_code 33 = .ok (.aload_n 0, 1) := by decide +kernel
theorem zd_Or_put_34 : decode prog_4_method_3_code 34 = .ok (.dup, 1) := by decide +kernel
theorem zd_Or_put_35 : decode prog_4_method_3_code 35 = .ok (.getfield 9, 3) := by decide +kernel
theorem zd_Or_put_38 : decode prog_4_method_3_code 38 = .ok (.iconst 1, 1) := by decide +kernel
theorem zd_Or_put_39 : decode prog_4_method_3_code 39 = .ok (.iadd, 1) := by decide +kernel
theorem zd_Or_put_40 : decode prog_4_method_3_code 40 = .ok (.putfield 9, 3) := by decide +kernel
theorem zd_Or_put_43 : decode prog_4_method_3_code 43 = .ok (.return_, 1) := by decide +kernel
theorem zd_Or_put_12 : decode prog_4_method_3_code 12 = .ok (.return_, 1) := by decide +kernel
abbrev zm_Or_put : zQ := ("LoofahSaints$Order", prog_4_method_3_code, 3, (Option.none : Option Jvm.ClassFile.FieldType), false)
set_option maxRecDepth 100000 in
def fn_Or_put (a0 : Nat) (a1 : Int32) (a2 : Int32) (S : zS) : Option (zS) :=
  gd (gT S a0 102) <|
  gd (gT S (zR S a0 0) 1) <|
  br (decide ((zI S a0 2) < (Int32.ofNat (zT S (zR S a0 0)).2))) (gd (gP (zR S a0 0)) <|
  gd (gB (zI S a0 2) (zT S (zR S a0 0)).2) <|
  nm (uI S (zR S a0 0) (zI S a0 2).toNatClampNeg a1) fun S6 =>
  gd (gT S6 a0 102) <|
  gd (gT S6 (zR S6 a0 1) 1) <|
  gd (gP (zR S6 a0 1)) <|
  gd (gB (zI S6 a0 2) (zT S6 (zR S6 a0 1)).2) <|
  nm (uI S6 (zR S6 a0 1) (zI S6 a0 2).toNatClampNeg a2) fun S11 =>
  gd (gT S11 a0 102) <|
  nm (uI S11 a0 2 ((zI S11 a0 2) + (1 : Int32))) fun S13 =>
  some S13) <|
  some S
set_option maxRecDepth 100000 in
set_option maxHeartbeats 4000000 in
theorem tm_Or_put {X : zXt} {d : Nat} (hd : 2 ≤ d) {a0 : Nat} {a1 : Int32} {a2 : Int32} {S : zS} {S' : zS} (h : fn_Or_put a0 a1 a2 S = some S') : zM X zy_Or_put prog_4_method_3_code 3 (Option.none : Option Jvm.ClassFile.FieldType) d [.ref a0, .int a1, .int a2] S none S' := by
  refine zM_of (ini := false) (L := [some (.ref a0), some (.int a1), some (.int a2)]) (plainFor_of_name (by decide)) (fun h => by cases h) (Nat.le_of_ble_eq_true rfl) rfl ?_
  unfold fn_Or_put at h
  refine zg_aload_n (pc' := 1) zd_Or_put_0 rfl rfl ?_
  obtain ⟨g1, h⟩ := gd_some h
  refine zg_getI (pc' := 4) zf_Or_9 zd_Or_put_1 (gT_ok g1) rfl ?_
  refine zg_aload_n (pc' := 5) zd_Or_put_4 rfl rfl ?_
  refine zg_getR (pc' := 8) zf_Or_18 rfl zd_Or_put_5 (gT_ok g1) rfl ?_
  obtain ⟨g2, h⟩ := gd_some h
  refine zg_alenI (pc' := 9) zd_Or_put_8 (gT_ok g2) rfl ?_
  rcases br_some h with ⟨c3, h⟩ | ⟨c3, h⟩
  · refine zg_icmp_lt (tgt := 13) (pc' := 12) zd_Or_put_9 (by decide) rfl (fun _ => ?_) (fun q => absurd c3 q)
    refine zg_aload_n (pc' := 14) zd_Or_put_13 rfl rfl ?_
    refine zg_getR (pc' := 17) zf_Or_18 rfl zd_Or_put_14 (gT_ok g1) rfl ?_
    refine zg_aload_n (pc' := 18) zd_Or_put_17 rfl rfl ?_
    refine zg_getI (pc' := 21) zf_Or_9 zd_Or_put_18 (gT_ok g1) rfl ?_
    refine zg_iload_n (pc' := 22) zd_Or_put_21 rfl rfl ?_
    obtain ⟨g4, h⟩ := gd_some h
    obtain ⟨g5, h⟩ := gd_some h
    refine zg_iast (pc' := 23) zd_Or_put_22 (gT_ok g2) (gP_ok g4) (gB_ok g5) rfl ?_
    obtain ⟨S6, eS6, h⟩ := nm_some h
    refine zg_nm eS6 ?_
    refine zg_aload_n (pc' := 24) zd_Or_put_23 rfl rfl ?_
    obtain ⟨g7, h⟩ := gd_some h
    refine zg_getR (pc' := 27) zf_Or_22 rfl zd_Or_put_24 (gT_ok g7) rfl ?_
    refine zg_aload_n (pc' := 28) zd_Or_put_27 rfl rfl ?_
    refine zg_getI (pc' := 31) zf_Or_9 zd_Or_put_28 (gT_ok g7) rfl ?_
    refine zg_iload_n (pc' := 32) zd_Or_put_31 rfl rfl ?_
    obtain ⟨g8, h⟩ := gd_some h
    obtain ⟨g9, h⟩ := gd_some h
    obtain ⟨g10, h⟩ := gd_some h
    refine zg_iast (pc' := 33) zd_Or_put_32 (gT_ok g8) (gP_ok g9) (gB_ok g10) rfl ?_
    obtain ⟨S11, eS11, h⟩ := nm_some h
    refine zg_nm eS11 ?_
    refine zg_aload_n (pc' := 34) zd_Or_put_33 rfl rfl ?_
    refine zg_dup (pc' := 35) zd_Or_put_34 rfl rfl ?_
    obtain ⟨g12, h⟩ := gd_some h
    refine zg_getI (pc' := 38) zf_Or_9 zd_Or_put_35 (gT_ok g12) rfl ?_
    refine zg_iconst (x := (1 : Int32)) (pc' := 39) zd_Or_put_38 (by decide) rfl ?_
    refine zg_iadd (pc' := 40) zd_Or_put_39 rfl ?_
    refine zg_putI (pc' := 43) zf_Or_9 zd_Or_put_40 (Or.inl rfl) (gT_ok g12) rfl ?_
    obtain ⟨S13, eS13, h⟩ := nm_some h
    refine zg_nm eS13 ?_
    obtain rfl := rt_v h
    exact zg_vret zd_Or_put_43 rfl
  · refine zg_icmp_lt (tgt := 13) (pc' := 12) zd_Or_put_9 (by decide) rfl (fun q => absurd q c3) (fun _ => ?_)
    obtain rfl := rt_v h
    exact zg_vret zd_Or_put_12 rfl
theorem zd_Rw_clear_0 : decode prog_6_method_2_code 0 = .ok (.aload_n 0, 1) := by decide +kernel
theorem zd_Rw_clear_1 : decode prog_6_method_2_code 1 = .ok (.iconst 0, 1) := by decide +kernel
theorem zd_Rw_clear_2 : decode prog_6_method_2_code 2 = .ok (.putfield 9, 3) := by decide +kernel
theorem zd_Rw_clear_5 : decode prog_6_method_2_code 5 = .ok (.aload_n 0, 1) := by decide +kernel
theorem zd_Rw_clear_6 : decode prog_6_method_2_code 6 = .ok (.getfield 9, 3) := by decide +kernel
theorem zd_Rw_clear_9 : decode prog_6_method_2_code 9 = .ok (.ireturn, 1) := by decide +kernel
abbrev zm_Rw_clear : zQ := ("LoofahSaints$Rows", prog_6_method_2_code, 1, (Option.some Jvm.ClassFile.FieldType.int), false)
set_option maxRecDepth 100000 in
def fn_Rw_clear (a0 : Nat) (S : zS) : Option (Int32 × zS) :=
  gd (gT S a0 104) <|
  nm (uI S a0 2 (0 : Int32)) fun S2 =>
  gd (gT S2 a0 104) <|
  some ((zI S2 a0 2), S2)
set_option maxRecDepth 100000 in
set_option maxHeartbeats 4000000 in
theorem tm_Rw_clear {X : zXt} {d : Nat} (hd : 2 ≤ d) {v : Int32} {a0 : Nat} {S : zS} {S' : zS} (h : fn_Rw_clear a0 S = some (v, S')) : zM X zy_Rw_clear prog_6_method_2_code 1 (Option.some Jvm.ClassFile.FieldType.int) d [.ref a0] S (some (.int v)) S' := by
  refine zM_of (ini := false) (L := [some (.ref a0)]) (plainFor_of_name (by decide)) (fun h => by cases h) (Nat.le_of_ble_eq_true rfl) rfl ?_
  unfold fn_Rw_clear at h
  refine zg_aload_n (pc' := 1) zd_Rw_clear_0 rfl rfl ?_
  refine zg_iconst (x := (0 : Int32)) (pc' := 2) zd_Rw_clear_1 (by decide) rfl ?_
  obtain ⟨g1, h⟩ := gd_some h
  refine zg_putI (pc' := 5) zf_Rw_9 zd_Rw_clear_2 (Or.inl rfl) (gT_ok g1) rfl ?_
  obtain ⟨S2, eS2, h⟩ := nm_some h
  refine zg_nm eS2 ?_
  refine zg_aload_n (pc' := 6) zd_Rw_clear_5 rfl rfl ?_
  obtain ⟨g3, h⟩ := gd_some h
  refine zg_getI (pc' := 9) zf_Rw_9 zd_Rw_clear_6 (gT_ok g3) rfl ?_
  obtain ⟨rfl, rfl⟩ := rt_q h
  exact zg_iret zd_Rw_clear_9 zrt_i
theorem zd_Rw_add_0 : decode prog_6_method_3_code 0 = .ok (.aload_n 0, 1) := by decide +kernel
theorem zd_Rw_add_1 : decode prog_6_method_3_code 1 = .ok (.getfield 9, 3) := by decide +kernel
theorem zd_Rw_add_4 : decode prog_6_method_3_code 4 = .ok (.aload_n 0, 1) := by decide +kernel
theorem zd_Rw_add_5 : decode prog_6_method_3_code 5 = .ok (.getfield 15, 3) := by decide +kernel
theorem zd_Rw_add_8 : decode prog_6_method_3_code 8 = .ok (.if_icmp .lt 6, 3) := by decide +kernel
theorem zd_Rw_add_14 : decode prog_6_method_3_code 14 = .ok (.aload_n 0, 1) := by decide +kernel
theorem zd_Rw_add_15 : decode prog_6_method_3_code 15 = .ok (.getfield 18, 3) := by decide +kernel
theorem zd_Rw_add_18 : decode prog_6_method_3_code 18 = .ok (.aload_n 0, 1) := by decide +kernel
theorem zd_Rw_add_19 : decode prog_6_method_3_code 19 = .ok (.getfield 9, 3) := by decide +kernel
theorem zd_Rw_add_22 : decode prog_6_method_3_code 22 = .ok (.iconst 3, 1) := by decide +kernel
theorem zd_Rw_add_23 : decode prog_6_method_3_code 23 = .ok (.imul, 1) := by decide +kernel
theorem zd_Rw_add_24 : decode prog_6_method_3_code 24 = .ok (.iload_n 1, 1) := by decide +kernel
theorem zd_Rw_add_25 : decode prog_6_method_3_code 25 = .ok (.iastore, 1) := by decide +kernel
theorem zd_Rw_add_26 : decode prog_6_method_3_code 26 = .ok (.aload_n 0, 1) := by decide +kernel
theorem zd_Rw_add_27 : decode prog_6_method_3_code 27 = .ok (.getfield 18, 3) := by decide +kernel
theorem zd_Rw_add_30 : decode prog_6_method_3_code 30 = .ok (.aload_n 0, 1) := by decide +kernel
theorem zd_Rw_add_31 : decode prog_6_method_3_code 31 = .ok (.getfield 9, 3) := by decide +kernel
theorem zd_Rw_add_34 : decode prog_6_method_3_code 34 = .ok (.iconst 3, 1) := by decide +kernel
theorem zd_Rw_add_35 : decode prog_6_method_3_code 35 = .ok (.imul, 1) := by decide +kernel
theorem zd_Rw_add_36 : decode prog_6_method_3_code 36 = .ok (.iconst 1, 1) := by decide +kernel
theorem zd_Rw_add_37 : decode prog_6_method_3_code 37 = .ok (.iadd, 1) := by decide +kernel
theorem zd_Rw_add_38 : decode prog_6_method_3_code 38 = .ok (.iload_n 2, 1) := by decide +kernel
theorem zd_Rw_add_39 : decode prog_6_method_3_code 39 = .ok (.iastore, 1) := by decide +kernel
theorem zd_Rw_add_40 : decode prog_6_method_3_code 40 = .ok (.aload_n 0, 1) := by decide +kernel
theorem zd_Rw_add_41 : decode prog_6_method_3_code 41 = .ok (.getfield 18, 3) := by decide +kernel
theorem zd_Rw_add_44 : decode prog_6_method_3_code 44 = .ok (.aload_n 0, 1) := by decide +kernel
theorem zd_Rw_add_45 : decode prog_6_method_3_code 45 = .ok (.getfield 9, 3) := by decide +kernel
theorem zd_Rw_add_48 : decode prog_6_method_3_code 48 = .ok (.iconst 3, 1) := by decide +kernel
theorem zd_Rw_add_49 : decode prog_6_method_3_code 49 = .ok (.imul, 1) := by decide +kernel
theorem zd_Rw_add_50 : decode prog_6_method_3_code 50 = .ok (.iconst 2, 1) := by decide +kernel
theorem zd_Rw_add_51 : decode prog_6_method_3_code 51 = .ok (.iadd, 1) := by decide +kernel
theorem zd_Rw_add_52 : decode prog_6_method_3_code 52 = .ok (.iload_n 3, 1) := by decide +kernel
theorem zd_Rw_add_53 : decode prog_6_method_3_code 53 = .ok (.iastore, 1) := by decide +kernel
theorem zd_Rw_add_54 : decode prog_6_method_3_code 54 = .ok (.aload_n 0, 1) := by decide +kernel
theorem zd_Rw_add_55 : decode prog_6_method_3_code 55 = .ok (.dup, 1) := by decide +kernel
theorem zd_Rw_add_56 : decode prog_6_method_3_code 56 = .ok (.getfield 9, 3) := by decide +kernel
theorem zd_Rw_add_59 : decode prog_6_method_3_code 59 = .ok (.iconst 1, 1) := by decide +kernel
theorem zd_Rw_add_60 : decode prog_6_method_3_code 60 = .ok (.iadd, 1) := by decide +kernel
theorem zd_Rw_add_61 : decode prog_6_method_3_code 61 = .ok (.putfield 9, 3) := by decide +kernel
theorem zd_Rw_add_64 : decode prog_6_method_3_code 64 = .ok (.aload_n 0, 1) := by decide +kernel
theorem zd_Rw_add_65 : decode prog_6_method_3_code 65 = .ok (.getfield 9, 3) := by decide +kernel
theorem zd_Rw_add_68 : decode prog_6_method_3_code 68 = .ok (.ireturn, 1) := by decide +kernel
theorem zd_Rw_add_11 : decode prog_6_method_3_code 11 = .ok (.bipush (-4), 2) := by decide +kernel
theorem zd_Rw_add_13 : decode prog_6_method_3_code 13 = .ok (.ireturn, 1) := by decide +kernel
abbrev zm_Rw_add : zQ := ("LoofahSaints$Rows", prog_6_method_3_code, 4, (Option.some Jvm.ClassFile.FieldType.int), false)
set_option maxRecDepth 100000 in
def fn_Rw_add (a0 : Nat) (a1 : Int32) (a2 : Int32) (a3 : Int32) (S : zS) : Option (Int32 × zS) :=
  gd (gT S a0 104) <|
  br (decide ((zI S a0 2) < (zI S a0 1))) (gd (gT S (zR S a0 0) 1) <|
  gd (gP (zR S a0 0)) <|
  gd (gB ((zI S a0 2) * (3 : Int32)) (zT S (zR S a0 0)).2) <|
  nm (uI S (zR S a0 0) ((zI S a0 2) * (3 : Int32)).toNatClampNeg a1) fun S6 =>
  gd (gT S6 a0 104) <|
  gd (gT S6 (zR S6 a0 0) 1) <|
  gd (gP (zR S6 a0 0)) <|
  gd (gB (((zI S6 a0 2) * (3 : Int32)) + (1 : Int32)) (zT S6 (zR S6 a0 0)).2) <|
  nm (uI S6 (zR S6 a0 0) (((zI S6 a0 2) * (3 : Int32)) + (1 : Int32)).toNatClampNeg a2) fun S11 =>
  gd (gT S11 a0 104) <|
  gd (gT S11 (zR S11 a0 0) 1) <|
  gd (gP (zR S11 a0 0)) <|
  gd (gB (((zI S11 a0 2) * (3 : Int32)) + (2 : Int32)) (zT S11 (zR S11 a0 0)).2) <|
  nm (uI S11 (zR S11 a0 0) (((zI S11 a0 2) * (3 : Int32)) + (2 : Int32)).toNatClampNeg a3) fun S16 =>
  gd (gT S16 a0 104) <|
  nm (uI S16 a0 2 ((zI S16 a0 2) + (1 : Int32))) fun S18 =>
  gd (gT S18 a0 104) <|
  some ((zI S18 a0 2), S18)) <|
  some ((-4 : Int32), S)
set_option maxRecDepth 100000 in
set_option maxHeartbeats 4000000 in
theorem tm_Rw_add {X : zXt} {d : Nat} (hd : 2 ≤ d) {v : Int32} {a0 : Nat} {a1 : Int32} {a2 : Int32} {a3 : Int32} {S : zS} {S' : zS} (h : fn_Rw_add a0 a1 a2 a3 S = some (v, S')) : zM X zy_Rw_add prog_6_method_3_code 4 (Option.some Jvm.ClassFile.FieldType.int) d [.ref a0, .int a1, .int a2, .int a3] S (some (.int v)) S' := by
  refine zM_of (ini := false) (L := [some (.ref a0), some (.int a1), some (.int a2), some (.int a3)]) (plainFor_of_name (by decide)) (fun h => by cases h) (Nat.le_of_ble_eq_true rfl) rfl ?_
  unfold fn_Rw_add at h
  refine zg_aload_n (pc' := 1) zd_Rw_add_0 rfl rfl ?_
  obtain ⟨g1, h⟩ := gd_some h
  refine zg_getI (pc' := 4) zf_Rw_9 zd_Rw_add_1 (gT_ok g1) rfl ?_
  refine zg_aload_n (pc' := 5) zd_Rw_add_4 rfl rfl ?_
  refine zg_getI (pc' := 8) zf_Rw_15 zd_Rw_add_5 (gT_ok g1) rfl ?_
  rcases br_some h with ⟨c2, h⟩ | ⟨c2, h⟩
  · refine zg_icmp_lt (tgt := 14) (pc' := 11) zd_Rw_add_8 (by decide) rfl (fun _ => ?_) (fun q => absurd c2 q)
    refine zg_aload_n (pc' := 15) zd_Rw_add_14 rfl rfl ?_
    refine zg_getR (pc' := 18) zf_Rw_18 rfl zd_Rw_add_15 (gT_ok g1) rfl ?_
    refine zg_aload_n (pc' := 19) zd_Rw_add_18 rfl rfl ?_
    refine zg_getI (pc' := 22) zf_Rw_9 zd_Rw_add_19 (gT_ok g1) rfl ?_
    refine zg_iconst (x := (3 : Int32)) (pc' := 23) zd_Rw_add_22 (by decide) rfl ?_
    refine zg_imul (pc' := 24) zd_Rw_add_23 rfl ?_
    refine zg_iload_n (pc' := 25) zd_Rw_add_24 rfl rfl ?_
    obtain ⟨g3, h⟩ := gd_some h
    obtain ⟨g4, h⟩ := gd_some h
    obtain ⟨g5, h⟩ := gd_some h
    refine zg_iast (pc' := 26) zd_Rw_add_25 (gT_ok g3) (gP_ok g4) (gB_ok g5) rfl ?_
    obtain ⟨S6, eS6, h⟩ := nm_some h
    refine zg_nm eS6 ?_
    refine zg_aload_n (pc' := 27) zd_Rw_add_26 rfl rfl ?_
    obtain ⟨g7, h⟩ := gd_some h
    refine zg_getR (pc' := 30) zf_Rw_18 rfl zd_Rw_add_27 (gT_ok g7) rfl ?_
    refine zg_aload_n (pc' := 31) zd_Rw_add_30 rfl rfl ?_
    refine zg_getI (pc' := 34) zf_Rw_9 zd_Rw_add_31 (gT_ok g7) rfl ?_
    refine zg_iconst (x := (3 : Int32)) (pc' := 35) zd_Rw_add_34 (by decide) rfl ?_
    refine zg_imul (pc' := 36) zd_Rw_add_35 rfl ?_
    refine zg_iconst (x := (1 : Int32)) (pc' := 37) zd_Rw_add_36 (by decide) rfl ?_
    refine zg_iadd (pc' := 38) zd_Rw_add_37 rfl ?_
    refine zg_iload_n (pc' := 39) zd_Rw_add_38 rfl rfl ?_
    obtain ⟨g8, h⟩ := gd_some h
    obtain ⟨g9, h⟩ := gd_some h
    obtain ⟨g10, h⟩ := gd_some h
    refine zg_iast (pc' := 40) zd_Rw_add_39 (gT_ok g8) (gP_ok g9) (gB_ok g10) rfl ?_
    obtain ⟨S11, eS11, h⟩ := nm_some h
    refine zg_nm eS11 ?_
    refine zg_aload_n (pc' := 41) zd_Rw_add_40 rfl rfl ?_
    obtain ⟨g12, h⟩ := gd_some h
    refine zg_getR (pc' := 44) zf_Rw_18 rfl zd_Rw_add_41 (gT_ok g12) rfl ?_
    refine zg_aload_n (pc' := 45) zd_Rw_add_44 rfl rfl ?_
    refine zg_getI (pc' := 48) zf_Rw_9 zd_Rw_add_45 (gT_ok g12) rfl ?_
    refine zg_iconst (x := (3 : Int32)) (pc' := 49) zd_Rw_add_48 (by decide) rfl ?_
    refine zg_imul (pc' := 50) zd_Rw_add_49 rfl ?_
    refine zg_iconst (x := (2 : Int32)) (pc' := 51) zd_Rw_add_50 (by decide) rfl ?_
    refine zg_iadd (pc' := 52) zd_Rw_add_51 rfl ?_
    refine zg_iload_n (pc' := 53) zd_Rw_add_52 rfl rfl ?_
    obtain ⟨g13, h⟩ := gd_some h
    obtain ⟨g14, h⟩ := gd_some h
    obtain ⟨g15, h⟩ := gd_some h
    refine zg_iast (pc' := 54) zd_Rw_add_53 (gT_ok g13) (gP_ok g14) (gB_ok g15) rfl ?_
    obtain ⟨S16, eS16, h⟩ := nm_some h
    refine zg_nm eS16 ?_
    refine zg_aload_n (pc' := 55) zd_Rw_add_54 rfl rfl ?_
    refine zg_dup (pc' := 56) zd_Rw_add_55 rfl rfl ?_
    obtain ⟨g17, h⟩ := gd_some h
    refine zg_getI (pc' := 59) zf_Rw_9 zd_Rw_add_56 (gT_ok g17) rfl ?_
    refine zg_iconst (x := (1 : Int32)) (pc' := 60) zd_Rw_add_59 (by decide) rfl ?_
    refine zg_iadd (pc' := 61) zd_Rw_add_60 rfl ?_
    refine zg_putI (pc' := 64) zf_Rw_9 zd_Rw_add_61 (Or.inl rfl) (gT_ok g17) rfl ?_
    obtain ⟨S18, eS18, h⟩ := nm_some h
    refine zg_nm eS18 ?_
    refine zg_aload_n (pc' := 65) zd_Rw_add_64 rfl rfl ?_
    obtain ⟨g19, h⟩ := gd_some h
    refine zg_getI (pc' := 68) zf_Rw_9 zd_Rw_add_65 (gT_ok g19) rfl ?_
    obtain ⟨rfl, rfl⟩ := rt_q h
    exact zg_iret zd_Rw_add_68 zrt_i
  · refine zg_icmp_lt (tgt := 14) (pc' := 11) zd_Rw_add_8 (by decide) rfl (fun q => absurd q c2) (fun _ => ?_)
    refine zg_bipush (x := (-4 : Int32)) (pc' := 13) zd_Rw_add_11 (by decide) rfl ?_
    obtain ⟨rfl, rfl⟩ := rt_q h
    exact zg_iret zd_Rw_add_13 zrt_i
theorem zd_Sa_begin_0 : decode prog_7_method_2_code 0 = .ok (.aload_n 0, 1) := by decide +kernel
theorem zd_Sa_begin_1 : decode prog_7_method_2_code 1 = .ok (.iload_n 1, 1) := by decide +kernel
theorem zd_Sa_begin_2 : decode prog_7_method_2_code 2 = .ok (.putfield 15, 3) := by decide +kernel
theorem zd_Sa_begin_5 : decode prog_7_method_2_code 5 = .ok (.aload_n 0, 1) := by decide +kernel
theorem zd_Sa_begin_6 : decode prog_7_method_2_code 6 = .ok (.iload_n 2, 1) := by decide +kernel
theorem zd_Sa_begin_7 : decode prog_7_method_2_code 7 = .ok (.putfield 19, 3) := by decide +kernel
theorem zd_Sa_begin_10 : decode prog_7_method_2_code 10 = .ok (.aload_n 0, 1) := by decide +kernel
theorem zd_Sa_begin_11 : decode prog_7_method_2_code 11 = .ok (.iload_n 3, 1) := by decide +kernel
theorem zd_Sa_begin_12 : decode prog_7_method_2_code 12 = .ok (.putfield 22, 3) := by decide +kernel
theorem zd_Sa_begin_15 : decode prog_7_method_2_code 15 = .ok (.aload_n 0, 1) := by decide +kernel
theorem zd_Sa_begin_16 : decode prog_7_method_2_code 16 = .ok (.iconst 0, 1) := by decide +kernel
theorem zd_Sa_begin_17 : decode prog_7_method_2_code 17 = .ok (.putfield 25, 3) := by decide +kernel
theorem zd_Sa_begin_20 : decode prog_7_method_2_code 20 = .ok (.aload_n 0, 1) := by decide +kernel
theorem zd_Sa_begin_21 : decode prog_7_method_2_code 21 = .ok (.iconst (-1), 1) := by decide +kernel
theorem zd_Sa_begin_22 : decode prog_7_method_2_code 22 = .ok (.putfield 28, 3) := by decide +kernel
theorem zd_Sa_begin_25 : decode prog_7_method_2_code 25 = .ok (.aload_n 0, 1) := by decide +kernel
theorem zd_Sa_begin_26 : decode prog_7_method_2_code 26 = .ok (.iconst 0, 1) := by decide +kernel
theorem zd_Sa_begin_27 : decode prog_7_method_2_code 27 = .ok (.putfield 31, 3) := by decide +kernel
theorem zd_Sa_begin_30 : decode prog_7_method_2_code 30 = .ok (.iconst 0, 1) := by decide +kernel
theorem zd_Sa_begin_31 : decode prog_7_method_2_code 31 = .ok (.istore 4, 2) := by decide +kernel
theorem zd_Sa_begin_33 : decode prog_7_method_2_code 33 = .ok (.iload 4, 2) := by decide +kernel
theorem zd_Sa_begin_35 : decode prog_7_method_2_code 35 = .ok (.iconst 4, 1) := by decide +kernel
theorem zd_Sa_begin_36 : decode prog_7_method_2_code 36 = .ok (.if_icmp .ge 17, 3) := by decide +kernel
theorem zd_Sa_begin_53 : decode prog_7_method_2_code 53 = .ok (.return_, 1) := by decide +kernel
theorem zd_Sa_begin_39 : decode prog_7_method_2_code 39 = .ok (.aload_n 0, 1) := by decide +kernel
theorem zd_Sa_begin_40 : decode prog_7_method_2_code 40 = .ok (.getfield 9, 3) := by decide +kernel
theorem zd_Sa_begin_43 : decode prog_7_method_2_code 43 = .ok (.iload 4, 2) := by decide +kernel
theorem zd_Sa_begin_45 : decode prog_7_method_2_code 45 = .ok (.iconst 0, 1) := by decide +kernel
theorem zd_Sa_begin_46 : decode prog_7_method_2_code 46 = .ok (.iastore, 1) := by decide +kernel
theorem zd_Sa_begin_47 : decode prog_7_method_2_code 47 = .ok (.iinc 4 1, 3) := by decide +kernel
theorem zd_Sa_begin_50 : decode prog_7_method_2_code 50 = .ok (.goto (-17), 3) := by decide +kernel
abbrev zm_Sa_begin : zQ := ("LoofahSaints$Saint", prog_7_method_2_code, 5, (Option.none : Option Jvm.ClassFile.FieldType), false)
set_option maxRecDepth 100000 in
def fn_Sa_begin_L33 (a0 : Nat) (a4 : Int32) (S : zS) (K33 : Nat → Int32 → zS → Option (zS)) : Option (zS) :=
  br (decide ((4 : Int32) ≤ a4)) (some S) <|
  gd (gT S a0 105) <|
  gd (gT S (zR S a0 0) 1) <|
  gd (gP (zR S a0 0)) <|
  gd (gB a4 (zT S (zR S a0 0)).2) <|
  nm (uI S (zR S a0 0) a4.toNatClampNeg (0 : Int32)) fun S6 =>
  K33 a0 (a4 + (1 : Int32)) S6
set_option maxRecDepth 100000 in
set_option maxHeartbeats 4000000 in
theorem tm_Sa_begin_L33 {X : zXt} {d : Nat} (hd : 2 ≤ d) {S' : zS}  {K33 : Nat → Int32 → zS → Option (zS)} (hK33 : ∀ (a0 : Nat) (a4 : Int32) (S : zS), K33 a0 a4 S = some S' → zG X zm_Sa_begin d 33 [some (.ref a0), none, none, none, some (.int a4)] [] S none S') {a0 : Nat} {a4 : Int32} {S : zS} (h : fn_Sa_begin_L33 a0 a4 S K33 = some S') : zG X zm_Sa_begin d 33 [some (.ref a0), none, none, none, some (.int a4)] [] S none S' := by
  unfold fn_Sa_begin_L33 at h
  refine zg_iload (pc' := 35) zd_Sa_begin_33 rfl rfl ?_
  refine zg_iconst (x := (4 : Int32)) (pc' := 36) zd_Sa_begin_35 (by decide) rfl ?_
  rcases br_some h with ⟨c1, h⟩ | ⟨c1, h⟩
  · refine zg_icmp_ge (tgt := 53) (pc' := 39) zd_Sa_begin_36 (by decide) rfl (fun _ => ?_) (fun q => absurd c1 q)
    obtain rfl := rt_v h
    exact zg_vret zd_Sa_begin_53 rfl
  · refine zg_icmp_ge (tgt := 53) (pc' := 39) zd_Sa_begin_36 (by decide) rfl (fun q => absurd q c1) (fun _ => ?_)
    refine zg_aload_n (pc' := 40) zd_Sa_begin_39 rfl rfl ?_
    obtain ⟨g2, h⟩ := gd_some h
    refine zg_getR (pc' := 43) zf_Sa_9 rfl zd_Sa_begin_40 (gT_ok g2) rfl ?_
    refine zg_iload (pc' := 45) zd_Sa_begin_43 rfl rfl ?_
    refine zg_iconst (x := (0 : Int32)) (pc' := 46) zd_Sa_begin_45 (by decide) rfl ?_
    obtain ⟨g3, h⟩ := gd_some h
    obtain ⟨g4, h⟩ := gd_some h
    obtain ⟨g5, h⟩ := gd_some h
    refine zg_iast (pc' := 47) zd_Sa_begin_46 (gT_ok g3) (gP_ok g4) (gB_ok g5) rfl ?_
    obtain ⟨S6, eS6, h⟩ := nm_some h
    refine zg_nm eS6 ?_
    refine zg_iinc (y := (a4 + (1 : Int32))) (L' := [some (.ref a0), none, none, none, some (.int (a4 + (1 : Int32)))]) (pc' := 50) zd_Sa_begin_47 rfl rfl (by decide) rfl rfl ?_
    refine zg_goto (tgt := 33) zd_Sa_begin_50 (by decide) ?_
    exact hK33 _ _ _ h
set_option maxRecDepth 100000 in
def fn_Sa_begin (a0 : Nat) (a1 : Int32) (a2 : Int32) (a3 : Int32) (S : zS) : Option (zS) :=
  gd (gT S a0 105) <|
  nm (uI S a0 2 a1) fun S2 =>
  gd (gT S2 a0 105) <|
  nm (uI S2 a0 3 a2) fun S4 =>
  gd (gT S4 a0 105) <|
  nm (uI S4 a0 4 a3) fun S6 =>
  gd (gT S6 a0 105) <|
  nm (uI S6 a0 5 (0 : Int32)) fun S8 =>
  gd (gT S8 a0 105) <|
  nm (uI S8 a0 6 (-1 : Int32)) fun S10 =>
  gd (gT S10 a0 105) <|
  nm (uI S10 a0 7 (0 : Int32)) fun S12 =>
  lp (σ := Nat × Int32 × zS) (fun k s => fn_Sa_begin_L33 s.1 s.2.1 s.2.2 (fun (a0 : Nat) (a4 : Int32) (S : zS) => k (a0, a4, S))) FU (a0, (0 : Int32), S12)
set_option maxRecDepth 100000 in
set_option maxHeartbeats 4000000 in
theorem tm_Sa_begin {X : zXt} {d : Nat} (hd : 2 ≤ d) {a0 : Nat} {a1 : Int32} {a2 : Int32} {a3 : Int32} {S : zS} {S' : zS} (h : fn_Sa_begin a0 a1 a2 a3 S = some S') : zM X zy_Sa_begin prog_7_method_2_code 5 (Option.none : Option Jvm.ClassFile.FieldType) d [.ref a0, .int a1, .int a2, .int a3] S none S' := by
  refine zM_of (ini := false) (L := [some (.ref a0), some (.int a1), some (.int a2), some (.int a3), none]) (plainFor_of_name (by decide)) (fun h => by cases h) (Nat.le_of_ble_eq_true rfl) rfl ?_
  unfold fn_Sa_begin at h
  refine zg_aload_n (pc' := 1) zd_Sa_begin_0 rfl rfl ?_
  refine zg_iload_n (pc' := 2) zd_Sa_begin_1 rfl rfl ?_
  obtain ⟨g1, h⟩ := gd_some h
  refine zg_putI (pc' := 5) zf_Sa_15 zd_Sa_begin_2 (Or.inl rfl) (gT_ok g1) rfl ?_
  obtain ⟨S2, eS2, h⟩ := nm_some h
  refine zg_nm eS2 ?_
  refine zg_aload_n (pc' := 6) zd_Sa_begin_5 rfl rfl ?_
  refine zg_iload_n (pc' := 7) zd_Sa_begin_6 rfl rfl ?_
  obtain ⟨g3, h⟩ := gd_some h
  refine zg_putI (pc' := 10) zf_Sa_19 zd_Sa_begin_7 (Or.inl rfl) (gT_ok g3) rfl ?_
  obtain ⟨S4, eS4, h⟩ := nm_some h
  refine zg_nm eS4 ?_
  refine zg_aload_n (pc' := 11) zd_Sa_begin_10 rfl rfl ?_
  refine zg_iload_n (pc' := 12) zd_Sa_begin_11 rfl rfl ?_
  obtain ⟨g5, h⟩ := gd_some h
  refine zg_putI (pc' := 15) zf_Sa_22 zd_Sa_begin_12 (Or.inl rfl) (gT_ok g5) rfl ?_
  obtain ⟨S6, eS6, h⟩ := nm_some h
  refine zg_nm eS6 ?_
  refine zg_aload_n (pc' := 16) zd_Sa_begin_15 rfl rfl ?_
  refine zg_iconst (x := (0 : Int32)) (pc' := 17) zd_Sa_begin_16 (by decide) rfl ?_
  obtain ⟨g7, h⟩ := gd_some h
  refine zg_putI (pc' := 20) zf_Sa_25 zd_Sa_begin_17 (Or.inl rfl) (gT_ok g7) rfl ?_
  obtain ⟨S8, eS8, h⟩ := nm_some h
  refine zg_nm eS8 ?_
  refine zg_aload_n (pc' := 21) zd_Sa_begin_20 rfl rfl ?_
  refine zg_iconst (x := (-1 : Int32)) (pc' := 22) zd_Sa_begin_21 (by decide) rfl ?_
  obtain ⟨g9, h⟩ := gd_some h
  refine zg_putI (pc' := 25) zf_Sa_28 zd_Sa_begin_22 (Or.inl rfl) (gT_ok g9) rfl ?_
  obtain ⟨S10, eS10, h⟩ := nm_some h
  refine zg_nm eS10 ?_
  refine zg_aload_n (pc' := 26) zd_Sa_begin_25 rfl rfl ?_
  refine zg_iconst (x := (0 : Int32)) (pc' := 27) zd_Sa_begin_26 (by decide) rfl ?_
  obtain ⟨g11, h⟩ := gd_some h
  refine zg_putZ (pc' := 30) zf_Sa_31 zd_Sa_begin_27 (Or.inl rfl) (gT_ok g11) (by decide) rfl ?_
  obtain ⟨S12, eS12, h⟩ := nm_some h
  refine zg_nm eS12 ?_
  refine zg_iconst (x := (0 : Int32)) (pc' := 31) zd_Sa_begin_30 (by decide) rfl ?_
  refine zg_istore (L' := [some (.ref a0), some (.int a1), some (.int a2), some (.int a3), some (.int (0 : Int32))]) (pc' := 33) zd_Sa_begin_31 (by decide) rfl rfl ?_
  refine zg_mask (L' := [some (.ref a0), none, none, none, some (.int (0 : Int32))]) (zmk_ok _ _ ⟨rfl, ⟨rfl, trivial⟩⟩) ?_
  exact lp_indh h (P := fun s => zG X zm_Sa_begin d 33 [some (.ref (s.1)), none, none, none, some (.int (s.2.1))] [] (s.2.2) none S') (fun k hk s h => tm_Sa_begin_L33 hd (fun a0 a4 S h => hk (a0, a4, S) h) h)
theorem zd_Sa_lasts_0 : decode prog_7_method_9_code 0 = .ok (.aload_n 0, 1) := by decide +kernel
theorem zd_Sa_lasts_1 : decode prog_7_method_9_code 1 = .ok (.getfield 25, 3) := by decide +kernel
theorem zd_Sa_lasts_4 : decode prog_7_method_9_code 4 = .ok (.istore_n 2, 1) := by decide +kernel
theorem zd_Sa_lasts_5 : decode prog_7_method_9_code 5 = .ok (.iconst 0, 1) := by decide +kernel
theorem zd_Sa_lasts_6 : decode prog_7_method_9_code 6 = .ok (.istore_n 3, 1) := by decide +kernel
theorem zd_Sa_lasts_7 : decode prog_7_method_9_code 7 = .ok (.aload_n 0, 1) := by decide +kernel
theorem zd_Sa_lasts_8 : decode prog_7_method_9_code 8 = .ok (.getfield 31, 3) := by decide +kernel
theorem zd_Sa_lasts_11 : decode prog_7_method_9_code 11 = .ok (.istore 4, 2) := by decide +kernel
theorem zd_Sa_lasts_13 : decode prog_7_method_9_code 13 = .ok (.iload_n 3, 1) := by decide +kernel
theorem zd_Sa_lasts_14 : decode prog_7_method_9_code 14 = .ok (.sipush 200, 3) := by decide +kernel
theorem zd_Sa_lasts_17 : decode prog_7_method_9_code 17 = .ok (.if_icmp .ge 26, 3) := by decide +kernel
theorem zd_Sa_lasts_20 : decode prog_7_method_9_code 20 = .ok (.iload_n 2, 1) := by decide +kernel
theorem zd_Sa_lasts_21 : decode prog_7_method_9_code 21 = .ok (.bipush 99, 2) := by decide +kernel
theorem zd_Sa_lasts_23 : decode prog_7_method_9_code 23 = .ok (.if_icmp .ge 20, 3) := by decide +kernel
theorem zd_Sa_lasts_43 : decode prog_7_method_9_code 43 = .ok (.iload_n 3, 1) := by decide +kernel
theorem zd_Sa_lasts_44 : decode prog_7_method_9_code 44 = .ok (.ireturn, 1) := by decide +kernel
theorem zd_Sa_lasts_26 : decode prog_7_method_9_code 26 = .ok (.iload_n 2, 1) := by decide +kernel
theorem zd_Sa_lasts_27 : decode prog_7_method_9_code 27 = .ok (.iload 4, 2) := by decide +kernel
theorem zd_Sa_lasts_29 : decode prog_7_method_9_code 29 = .ok (.iload_n 1, 1) := by decide +kernel
theorem zd_Sa_lasts_30 : decode prog_7_method_9_code 30 = .ok (.invokestatic 67, 3) := by decide +kernel
theorem zd_Sa_lasts_33 : decode prog_7_method_9_code 33 = .ok (.istore_n 2, 1) := by decide +kernel
theorem zd_Sa_lasts_34 : decode prog_7_method_9_code 34 = .ok (.iconst 1, 1) := by decide +kernel
theorem zd_Sa_lasts_35 : decode prog_7_method_9_code 35 = .ok (.istore 4, 2) := by decide +kernel
theorem zd_Sa_lasts_37 : decode prog_7_method_9_code 37 = .ok (.iinc 3 1, 3) := by decide +kernel
theorem zd_Sa_lasts_40 : decode prog_7_method_9_code 40 = .ok (.goto (-27), 3) := by decide +kernel
abbrev zm_Sa_lasts : zQ := ("LoofahSaints$Saint", prog_7_method_9_code, 5, (Option.some Jvm.ClassFile.FieldType.int), false)
set_option maxRecDepth 100000 in
def fn_Sa_lasts_L13 (a1 : Int32) (a2 : Int32) (a3 : Int32) (a4 : Int32) (S : zS) (K13 : Int32 → Int32 → Int32 → Int32 → zS → Option (Int32 × zS)) : Option (Int32 × zS) :=
  br (decide ((200 : Int32) ≤ a3)) (some (a3, S)) <|
  br (decide ((99 : Int32) ≤ a2)) (some (a3, S)) <|
  bq (fn_Sa_worn a2 a4 a1 S) fun r5 S3 =>
  K13 a1 r5 (a3 + (1 : Int32)) (1 : Int32) S3
set_option maxRecDepth 100000 in
set_option maxHeartbeats 4000000 in
theorem tm_Sa_lasts_L13 {X : zXt} {d : Nat} (hd : 4 ≤ d) {v : Int32} {S' : zS}  {K13 : Int32 → Int32 → Int32 → Int32 → zS → Option (Int32 × zS)} (hK13 : ∀ (a1 : Int32) (a2 : Int32) (a3 : Int32) (a4 : Int32) (S : zS), K13 a1 a2 a3 a4 S = some (v, S') → zG X zm_Sa_lasts d 13 [none, some (.int a1), some (.int a2), some (.int a3), some (.int a4)] [] S (some (.int v)) S') {a1 : Int32} {a2 : Int32} {a3 : Int32} {a4 : Int32} {S : zS} (h : fn_Sa_lasts_L13 a1 a2 a3 a4 S K13 = some (v, S')) : zG X zm_Sa_lasts d 13 [none, some (.int a1), some (.int a2), some (.int a3), some (.int a4)] [] S (some (.int v)) S' := by
  unfold fn_Sa_lasts_L13 at h
  refine zg_iload_n (pc' := 14) zd_Sa_lasts_13 rfl rfl ?_
  refine zg_sipush (x := (200 : Int32)) (pc' := 17) zd_Sa_lasts_14 (by decide) rfl ?_
  rcases br_some h with ⟨c1, h⟩ | ⟨c1, h⟩
  · refine zg_icmp_ge (tgt := 43) (pc' := 20) zd_Sa_lasts_17 (by decide) rfl (fun _ => ?_) (fun q => absurd c1 q)
    refine zg_iload_n (pc' := 44) zd_Sa_lasts_43 rfl rfl ?_
    obtain ⟨rfl, rfl⟩ := rt_q h
    exact zg_iret zd_Sa_lasts_44 zrt_i
  · refine zg_icmp_ge (tgt := 43) (pc' := 20) zd_Sa_lasts_17 (by decide) rfl (fun q => absurd q c1) (fun _ => ?_)
    refine zg_iload_n (pc' := 21) zd_Sa_lasts_20 rfl rfl ?_
    refine zg_bipush (x := (99 : Int32)) (pc' := 23) zd_Sa_lasts_21 (by decide) rfl ?_
    rcases br_some h with ⟨c2, h⟩ | ⟨c2, h⟩
    · refine zg_icmp_ge (tgt := 43) (pc' := 26) zd_Sa_lasts_23 (by decide) rfl (fun _ => ?_) (fun q => absurd c2 q)
      refine zg_iload_n (pc' := 44) zd_Sa_lasts_43 rfl rfl ?_
      obtain ⟨rfl, rfl⟩ := rt_q h
      exact zg_iret zd_Sa_lasts_44 zrt_i
    · refine zg_icmp_ge (tgt := 43) (pc' := 26) zd_Sa_lasts_23 (by decide) rfl (fun q => absurd q c2) (fun _ => ?_)
      refine zg_iload_n (pc' := 27) zd_Sa_lasts_26 rfl rfl ?_
      refine zg_iload (pc' := 29) zd_Sa_lasts_27 rfl rfl ?_
      refine zg_iload_n (pc' := 30) zd_Sa_lasts_29 rfl rfl ?_
      obtain ⟨r5, S3, e4, h⟩ := bq_some h
      refine zg_callS (As := [.int a2, .int a4, .int a1]) (rest := []) (pc' := 33) zl_Sa_67 zq395 zd_Sa_lasts_30 rfl rfl (Nat.le_of_ble_eq_true rfl) (by omega) (tm_Sa_worn (d := 3) (Nat.le_refl _) e4) rfl ?_
      refine zg_st (st' := [.int r5]) rfl ?_
      refine zg_istore_n (L' := [none, some (.int a1), some (.int r5), some (.int a3), some (.int a4)]) (pc' := 34) zd_Sa_lasts_33 (by decide) rfl rfl ?_
      refine zg_iconst (x := (1 : Int32)) (pc' := 35) zd_Sa_lasts_34 (by decide) rfl ?_
      refine zg_istore (L' := [none, some (.int a1), some (.int r5), some (.int a3), some (.int (1 : Int32))]) (pc' := 37) zd_Sa_lasts_35 (by decide) rfl rfl ?_
      refine zg_iinc (y := (a3 + (1 : Int32))) (L' := [none, some (.int a1), some (.int r5), some (.int (a3 + (1 : Int32))), some (.int (1 : Int32))]) (pc' := 40) zd_Sa_lasts_37 rfl rfl (by decide) rfl rfl ?_
      refine zg_goto (tgt := 13) zd_Sa_lasts_40 (by decide) ?_
      exact hK13 _ _ _ _ _ h
set_option maxRecDepth 100000 in
def fn_Sa_lasts (a0 : Nat) (a1 : Int32) (S : zS) : Option (Int32 × zS) :=
  gd (gT S a0 105) <|
  lp (σ := Int32 × Int32 × Int32 × Int32 × zS) (fun k s => fn_Sa_lasts_L13 s.1 s.2.1 s.2.2.1 s.2.2.2.1 s.2.2.2.2 (fun (a1 : Int32) (a2 : Int32) (a3 : Int32) (a4 : Int32) (S : zS) => k (a1, a2, a3, a4, S))) FU (a1, (zI S a0 5), (0 : Int32), (zI S a0 7), S)
set_option maxRecDepth 100000 in
set_option maxHeartbeats 4000000 in
theorem tm_Sa_lasts {X : zXt} {d : Nat} (hd : 4 ≤ d) {v : Int32} {a0 : Nat} {a1 : Int32} {S : zS} {S' : zS} (h : fn_Sa_lasts a0 a1 S = some (v, S')) : zM X zy_Sa_lasts prog_7_method_9_code 5 (Option.some Jvm.ClassFile.FieldType.int) d [.ref a0, .int a1] S (some (.int v)) S' := by
  refine zM_of (ini := false) (L := [some (.ref a0), some (.int a1), none, none, none]) (plainFor_of_name (by decide)) (fun h => by cases h) (Nat.le_of_ble_eq_true rfl) rfl ?_
  unfold fn_Sa_lasts at h
  refine zg_aload_n (pc' := 1) zd_Sa_lasts_0 rfl rfl ?_
  obtain ⟨g1, h⟩ := gd_some h
  refine zg_getI (pc' := 4) zf_Sa_25 zd_Sa_lasts_1 (gT_ok g1) rfl ?_
  refine zg_istore_n (L' := [some (.ref a0), some (.int a1), some (.int (zI S a0 5)), none, none]) (pc' := 5) zd_Sa_lasts_4 (by decide) rfl rfl ?_
  refine zg_iconst (x := (0 : Int32)) (pc' := 6) zd_Sa_lasts_5 (by decide) rfl ?_
  refine zg_istore_n (L' := [some (.ref a0), some (.int a1), some (.int (zI S a0 5)), some (.int (0 : Int32)), none]) (pc' := 7) zd_Sa_lasts_6 (by decide) rfl rfl ?_
  refine zg_aload_n (pc' := 8) zd_Sa_lasts_7 rfl rfl ?_
  refine zg_getZ (pc' := 11) zf_Sa_31 zd_Sa_lasts_8 (gT_ok g1) rfl ?_
  refine zg_istore (L' := [some (.ref a0), some (.int a1), some (.int (zI S a0 5)), some (.int (0 : Int32)), some (.int (zI S a0 7))]) (pc' := 13) zd_Sa_lasts_11 (by decide) rfl rfl ?_
  refine zg_mask (L' := [none, some (.int a1), some (.int (zI S a0 5)), some (.int (0 : Int32)), some (.int (zI S a0 7))]) (zmk_ok _ _ ⟨rfl, ⟨rfl, ⟨rfl, ⟨rfl, trivial⟩⟩⟩⟩) ?_
  exact lp_indh h (P := fun s => zG X zm_Sa_lasts d 13 [none, some (.int (s.1)), some (.int (s.2.1)), some (.int (s.2.2.1)), some (.int (s.2.2.2.1))] [] (s.2.2.2.2) (some (.int v)) S') (fun k hk s h => tm_Sa_lasts_L13 hd (fun a1 a2 a3 a4 S h => hk (a1, a2, a3, a4, S) h) h)
theorem zd_Ta_init_0 : decode prog_10_method_1_code 0 = .ok (.aload_n 0, 1) := by decide +kernel
theorem zd_Ta_init_1 : decode prog_10_method_1_code 1 = .ok (.invokespecial 3, 3) := by decide +kernel
theorem zd_Ta_init_4 : decode prog_10_method_1_code 4 = .ok (.aload_n 0, 1) := by decide +kernel
theorem zd_Ta_init_5 : decode prog_10_method_1_code 5 = .ok (.bipush 60, 2) := by decide +kernel
theorem zd_Ta_init_7 : decode prog_10_method_1_code 7 = .ok (.newarray .long, 2) := by decide +kernel
theorem zd_Ta_init_9 : decode prog_10_method_1_code 9 = .ok (.putfield 9, 3) := by decide +kernel
theorem zd_Ta_init_12 : decode prog_10_method_1_code 12 = .ok (.aload_n 0, 1) := by decide +kernel
theorem zd_Ta_init_13 : decode prog_10_method_1_code 13 = .ok (.iconst (-1), 1) := by decide +kernel
theorem zd_Ta_init_14 : decode prog_10_method_1_code 14 = .ok (.putfield 15, 3) := by decide +kernel
theorem zd_Ta_init_17 : decode prog_10_method_1_code 17 = .ok (.aload_n 0, 1) := by decide +kernel
theorem zd_Ta_init_18 : decode prog_10_method_1_code 18 = .ok (.iconst 0, 1) := by decide +kernel
theorem zd_Ta_init_19 : decode prog_10_method_1_code 19 = .ok (.putfield 19, 3) := by decide +kernel
theorem zd_Ta_init_22 : decode prog_10_method_1_code 22 = .ok (.return_, 1) := by decide +kernel
abbrev zm_Ta_init : zQ := ("LoofahSaints$Tape", prog_10_method_1_code, 1, (Option.none : Option Jvm.ClassFile.FieldType), true)
set_option maxRecDepth 100000 in
def fn_Ta_init (a0 : Nat) (S : zS) : Option (zS) :=
  gd (gT S a0 108) <|
  gd (gN (60 : Int32)) <|
  nm (uN S (3, (60 : Int32).toNatClampNeg)) fun S3 =>
  gd (gT S3 a0 108) <|
  nm (uR S3 a0 0 (zN S)) fun S5 =>
  gd (gT S5 a0 108) <|
  nm (uI S5 a0 1 (-1 : Int32)) fun S7 =>
  gd (gT S7 a0 108) <|
  nm (uI S7 a0 2 (0 : Int32)) fun S9 =>
  some S9
set_option maxRecDepth 100000 in
set_option maxHeartbeats 4000000 in
theorem tm_Ta_init {X : zXt} {d : Nat} (hd : 2 ≤ d) {a0 : Nat} {S : zS} {S' : zS} (h : fn_Ta_init a0 S = some S') : zM X zy_Ta_init prog_10_method_1_code 1 (Option.none : Option Jvm.ClassFile.FieldType) d [.ref a0] S none S' := by
  refine zM_of (ini := true) (L := [some (.ref a0)]) (plainFor_of_name (by decide)) (fun _ => rfl) (Nat.le_of_ble_eq_true rfl) rfl ?_
  unfold fn_Ta_init at h
  refine zg_aload_n (pc' := 1) zd_Ta_init_0 rfl rfl ?_
  obtain ⟨g1, h⟩ := gd_some h
  refine zg_oinit (ci := 8) (pc' := 4) zq274 zq25 zq26 zd_Ta_init_1 (by omega) (gT_ok g1) (Nat.le_of_ble_eq_true rfl) rfl ?_
  refine zg_aload_n (pc' := 5) zd_Ta_init_4 rfl rfl ?_
  refine zg_bipush (x := (60 : Int32)) (pc' := 7) zd_Ta_init_5 (by decide) rfl ?_
  obtain ⟨g2, h⟩ := gd_some h
  refine zg_newa (t := 3) (ty := .long) (pc' := 9) rfl (by simp) zq288 zd_Ta_init_7 (gN_ok g2).1 (gN_ok g2).2 rfl ?_
  obtain ⟨S3, eS3, h⟩ := nm_some h
  refine zg_nm eS3 ?_
  obtain ⟨g4, h⟩ := gd_some h
  refine zg_putR (pc' := 12) zf_Ta_9 rfl zd_Ta_init_9 (Or.inr ⟨rfl, _, rfl, rfl⟩) (gT_ok g4) rfl ?_
  obtain ⟨S5, eS5, h⟩ := nm_some h
  refine zg_nm eS5 ?_
  refine zg_aload_n (pc' := 13) zd_Ta_init_12 rfl rfl ?_
  refine zg_iconst (x := (-1 : Int32)) (pc' := 14) zd_Ta_init_13 (by decide) rfl ?_
  obtain ⟨g6, h⟩ := gd_some h
  refine zg_putI (pc' := 17) zf_Ta_15 zd_Ta_init_14 (Or.inl rfl) (gT_ok g6) rfl ?_
  obtain ⟨S7, eS7, h⟩ := nm_some h
  refine zg_nm eS7 ?_
  refine zg_aload_n (pc' := 18) zd_Ta_init_17 rfl rfl ?_
  refine zg_iconst (x := (0 : Int32)) (pc' := 19) zd_Ta_init_18 (by decide) rfl ?_
  obtain ⟨g8, h⟩ := gd_some h
  refine zg_putI (pc' := 22) zf_Ta_19 zd_Ta_init_19 (Or.inl rfl) (gT_ok g8) rfl ?_
  obtain ⟨S9, eS9, h⟩ := nm_some h
  refine zg_nm eS9 ?_
  obtain rfl := rt_v h
  exact zg_vret zd_Ta_init_22 rfl
theorem zd_Ta_become_0 : decode prog_10_method_2_code 0 = .ok (.aload_n 0, 1) := by decide +kernel
theorem zd_Ta_become_1 : decode prog_10_method_2_code 1 = .ok (.iload_n 1, 1) := by decide +kernel
theorem zd_Ta_become_2 : decode prog_10_method_2_code 2 = .ok (.putfield 15, 3) := by decide +kernel
theorem zd_Ta_become_5 : decode prog_10_method_2_code 5 = .ok (.aload_n 0, 1) := by decide +kernel
theorem zd_Ta_become_6 : decode prog_10_method_2_code 6 = .ok (.iconst 0, 1) := by decide +kernel
theorem zd_Ta_become_7 : decode prog_10_method_2_code 7 = .ok (.iload_n 2, 1) := by decide +kernel
theorem zd_Ta_become_8 : decode prog_10_method_2_code 8 = .ok (.bipush 60, 2) := by decide +kernel
theorem zd_Ta_become_10 : decode prog_10_method_2_code 10 = .ok (.invokestatic 22, 3) := by decide +kernel
theorem zd_Ta_become_13 : decode prog_10_method_2_code 13 = .ok (.invokestatic 28, 3) := by decide +kernel
theorem zd_Ta_become_16 : decode prog_10_method_2_code 16 = .ok (.putfield 19, 3) := by decide +kernel
theorem zd_Ta_become_19 : decode prog_10_method_2_code 19 = .ok (.iconst 0, 1) := by decide +kernel
theorem zd_Ta_become_20 : decode prog_10_method_2_code 20 = .ok (.istore_n 3, 1) := by decide +kernel
theorem zd_Ta_become_21 : decode prog_10_method_2_code 21 = .ok (.iload_n 3, 1) := by decide +kernel
theorem zd_Ta_become_22 : decode prog_10_method_2_code 22 = .ok (.aload_n 0, 1) := by decide +kernel
theorem zd_Ta_become_23 : decode prog_10_method_2_code 23 = .ok (.getfield 19, 3) := by decide +kernel
theorem zd_Ta_become_26 : decode prog_10_method_2_code 26 = .ok (.if_icmp .ge 16, 3) := by decide +kernel
theorem zd_Ta_become_42 : decode prog_10_method_2_code 42 = .ok (.return_, 1) := by decide +kernel
theorem zd_Ta_become_29 : decode prog_10_method_2_code 29 = .ok (.aload_n 0, 1) := by decide +kernel
theorem zd_Ta_become_30 : decode prog_10_method_2_code 30 = .ok (.getfield 9, 3) := by decide +kernel
theorem zd_Ta_become_33 : decode prog_10_method_2_code 33 = .ok (.iload_n 3, 1) := by decide +kernel
theorem zd_Ta_become_34 : decode prog_10_method_2_code 34 = .ok (.lconst 0, 1) := by decide +kernel
theorem zd_Ta_become_35 : decode prog_10_method_2_code 35 = .ok (.lastore, 1) := by decide +kernel
theorem zd_Ta_become_36 : decode prog_10_method_2_code 36 = .ok (.iinc 3 1, 3) := by decide +kernel
theorem zd_Ta_become_39 : decode prog_10_method_2_code 39 = .ok (.goto (-18), 3) := by decide +kernel
abbrev zm_Ta_become : zQ := ("LoofahSaints$Tape", prog_10_method_2_code, 4, (Option.none : Option Jvm.ClassFile.FieldType), false)
set_option maxRecDepth 100000 in
def fn_Ta_become_L21 (a0 : Nat) (a3 : Int32) (S : zS) (K21 : Nat → Int32 → zS → Option (zS)) : Option (zS) :=
  gd (gT S a0 108) <|
  br (decide ((zI S a0 2) ≤ a3)) (some S) <|
  gd (gT S (zR S a0 0) 3) <|
  gd (gB a3 (zT S (zR S a0 0)).2) <|
  nm (uL S (zR S a0 0) a3.toNatClampNeg (0 : Int64)) fun S5 =>
  K21 a0 (a3 + (1 : Int32)) S5
set_option maxRecDepth 100000 in
set_option maxHeartbeats 4000000 in
theorem tm_Ta_become_L21 {X : zXt} {d : Nat} (hd : 3 ≤ d) {S' : zS}  {K21 : Nat → Int32 → zS → Option (zS)} (hK21 : ∀ (a0 : Nat) (a3 : Int32) (S : zS), K21 a0 a3 S = some S' → zG X zm_Ta_become d 21 [some (.ref a0), none, none, some (.int a3)] [] S none S') {a0 : Nat} {a3 : Int32} {S : zS} (h : fn_Ta_become_L21 a0 a3 S K21 = some S') : zG X zm_Ta_become d 21 [some (.ref a0), none, none, some (.int a3)] [] S none S' := by
  unfold fn_Ta_become_L21 at h
  refine zg_iload_n (pc' := 22) zd_Ta_become_21 rfl rfl ?_
  refine zg_aload_n (pc' := 23) zd_Ta_become_22 rfl rfl ?_
  obtain ⟨g1, h⟩ := gd_some h
  refine zg_getI (pc' := 26) zf_Ta_19 zd_Ta_become_23 (gT_ok g1) rfl ?_
  rcases br_some h with ⟨c2, h⟩ | ⟨c2, h⟩
  · refine zg_icmp_ge (tgt := 42) (pc' := 29) zd_Ta_become_26 (by decide) rfl (fun _ => ?_) (fun q => absurd c2 q)
    obtain rfl := rt_v h
    exact zg_vret zd_Ta_become_42 rfl
  · refine zg_icmp_ge (tgt := 42) (pc' := 29) zd_Ta_become_26 (by decide) rfl (fun q => absurd q c2) (fun _ => ?_)
    refine zg_aload_n (pc' := 30) zd_Ta_become_29 rfl rfl ?_
    refine zg_getR (pc' := 33) zf_Ta_9 rfl zd_Ta_become_30 (gT_ok g1) rfl ?_
    refine zg_iload_n (pc' := 34) zd_Ta_become_33 rfl rfl ?_
    refine zg_lconst (x := (0 : Int64)) (pc' := 35) zd_Ta_become_34 (by decide) rfl ?_
    obtain ⟨g3, h⟩ := gd_some h
    obtain ⟨g4, h⟩ := gd_some h
    refine zg_last (pc' := 36) zd_Ta_become_35 (gT_ok g3) (gB_ok g4) rfl ?_
    obtain ⟨S5, eS5, h⟩ := nm_some h
    refine zg_nm eS5 ?_
    refine zg_iinc (y := (a3 + (1 : Int32))) (L' := [some (.ref a0), none, none, some (.int (a3 + (1 : Int32)))]) (pc' := 39) zd_Ta_become_36 rfl rfl (by decide) rfl rfl ?_
    refine zg_goto (tgt := 21) zd_Ta_become_39 (by decide) ?_
    exact hK21 _ _ _ h
set_option maxRecDepth 100000 in
def fn_Ta_become (a0 : Nat) (a1 : Int32) (a2 : Int32) (S : zS) : Option (zS) :=
  gd (gT S a0 108) <|
  nm (uI S a0 1 a1) fun S2 =>
  bq (fn_Jd_min a2 (60 : Int32) S2) fun r5 S3 =>
  bq (fn_Jd_max (0 : Int32) r5 S3) fun r8 S6 =>
  gd (gT S6 a0 108) <|
  nm (uI S6 a0 2 r8) fun S10 =>
  lp (σ := Nat × Int32 × zS) (fun k s => fn_Ta_become_L21 s.1 s.2.1 s.2.2 (fun (a0 : Nat) (a3 : Int32) (S : zS) => k (a0, a3, S))) FU (a0, (0 : Int32), S10)
set_option maxRecDepth 100000 in
set_option maxHeartbeats 4000000 in
theorem tm_Ta_become {X : zXt} {d : Nat} (hd : 3 ≤ d) {a0 : Nat} {a1 : Int32} {a2 : Int32} {S : zS} {S' : zS} (h : fn_Ta_become a0 a1 a2 S = some S') : zM X zy_Ta_become prog_10_method_2_code 4 (Option.none : Option Jvm.ClassFile.FieldType) d [.ref a0, .int a1, .int a2] S none S' := by
  refine zM_of (ini := false) (L := [some (.ref a0), some (.int a1), some (.int a2), none]) (plainFor_of_name (by decide)) (fun h => by cases h) (Nat.le_of_ble_eq_true rfl) rfl ?_
  unfold fn_Ta_become at h
  refine zg_aload_n (pc' := 1) zd_Ta_become_0 rfl rfl ?_
  refine zg_iload_n (pc' := 2) zd_Ta_become_1 rfl rfl ?_
  obtain ⟨g1, h⟩ := gd_some h
  refine zg_putI (pc' := 5) zf_Ta_15 zd_Ta_become_2 (Or.inl rfl) (gT_ok g1) rfl ?_
  obtain ⟨S2, eS2, h⟩ := nm_some h
  refine zg_nm eS2 ?_
  refine zg_aload_n (pc' := 6) zd_Ta_become_5 rfl rfl ?_
  refine zg_iconst (x := (0 : Int32)) (pc' := 7) zd_Ta_become_6 (by decide) rfl ?_
  refine zg_iload_n (pc' := 8) zd_Ta_become_7 rfl rfl ?_
  refine zg_bipush (x := (60 : Int32)) (pc' := 10) zd_Ta_become_8 (by decide) rfl ?_
  obtain ⟨r5, S3, e4, h⟩ := bq_some h
  refine zg_callS (As := [.int a2, .int (60 : Int32)]) (rest := [.int (0 : Int32), .ref a0]) (pc' := 13) zl_Ta_22 zq398 zd_Ta_become_10 rfl rfl (Nat.le_of_ble_eq_true rfl) (by omega) (tm_Jd_min (d := 2) (Nat.le_refl _) e4) rfl ?_
  refine zg_st (st' := [.int r5, .int (0 : Int32), .ref a0]) rfl ?_
  obtain ⟨r8, S6, e7, h⟩ := bq_some h
  refine zg_callS (As := [.int (0 : Int32), .int r5]) (rest := [.ref a0]) (pc' := 16) zl_Ta_28 zq771 zd_Ta_become_13 rfl rfl (Nat.le_of_ble_eq_true rfl) (by omega) (tm_Jd_max (d := 2) (Nat.le_refl _) e7) rfl ?_
  refine zg_st (st' := [.int r8, .ref a0]) rfl ?_
  obtain ⟨g9, h⟩ := gd_some h
  refine zg_putI (pc' := 19) zf_Ta_19 zd_Ta_become_16 (Or.inl rfl) (gT_ok g9) rfl ?_
  obtain ⟨S10, eS10, h⟩ := nm_some h
  refine zg_nm eS10 ?_
  refine zg_iconst (x := (0 : Int32)) (pc' := 20) zd_Ta_become_19 (by decide) rfl ?_
  refine zg_istore_n (L' := [some (.ref a0), some (.int a1), some (.int a2), some (.int (0 : Int32))]) (pc' := 21) zd_Ta_become_20 (by decide) rfl rfl ?_
  refine zg_mask (L' := [some (.ref a0), none, none, some (.int (0 : Int32))]) (zmk_ok _ _ ⟨rfl, ⟨rfl, trivial⟩⟩) ?_
  exact lp_indh h (P := fun s => zG X zm_Ta_become d 21 [some (.ref (s.1)), none, none, some (.int (s.2.1))] [] (s.2.2) none S') (fun k hk s h => tm_Ta_become_L21 hd (fun a0 a3 S h => hk (a0, a3, S) h) h)
theorem zd_Ta_cut_0 : decode prog_10_method_3_code 0 = .ok (.aload_n 0, 1) := by decide +kernel
theorem zd_Ta_cut_1 : decode prog_10_method_3_code 1 = .ok (.getfield 15, 3) := by decide +kernel
theorem zd_Ta_cut_4 : decode prog_10_method_3_code 4 = .ok (.tableswitch 62 0 4 #[36, 41, 46, 62, 50], 36) := by decide +kernel
theorem zd_Ta_cut_54 : decode prog_10_method_3_code 54 = .ok (.lload_n 1, 1) := by decide +kernel
theorem zd_Ta_cut_55 : decode prog_10_method_3_code 55 = .ok (.lconst 0, 1) := by decide +kernel
theorem zd_Ta_cut_56 : decode prog_10_method_3_code 56 = .ok (.lcmp, 1) := by decide +kernel
theorem zd_Ta_cut_57 : decode prog_10_method_3_code 57 = .ok (.ifCond .eq 7, 3) := by decide +kernel
theorem zd_Ta_cut_64 : decode prog_10_method_3_code 64 = .ok (.lconst 0, 1) := by decide +kernel
theorem zd_Ta_cut_60 : decode prog_10_method_3_code 60 = .ok (.lconst 1, 1) := by decide +kernel
theorem zd_Ta_cut_61 : decode prog_10_method_3_code 61 = .ok (.goto 4, 3) := by decide +kernel
theorem zd_Ta_cut_65 : decode prog_10_method_3_code 65 = .ok (.lreturn, 1) := by decide +kernel
theorem zd_Ta_cut_66 : decode prog_10_method_3_code 66 = .ok (.lload_n 1, 1) := by decide +kernel
theorem zd_Ta_cut_67 : decode prog_10_method_3_code 67 = .ok (.lreturn, 1) := by decide +kernel
theorem zd_Ta_cut_50 : decode prog_10_method_3_code 50 = .ok (.lload_n 1, 1) := by decide +kernel
theorem zd_Ta_cut_51 : decode prog_10_method_3_code 51 = .ok (.l2i, 1) := by decide +kernel
theorem zd_Ta_cut_52 : decode prog_10_method_3_code 52 = .ok (.i2l, 1) := by decide +kernel
theorem zd_Ta_cut_53 : decode prog_10_method_3_code 53 = .ok (.lreturn, 1) := by decide +kernel
theorem zd_Ta_cut_45 : decode prog_10_method_3_code 45 = .ok (.lload_n 1, 1) := by decide +kernel
theorem zd_Ta_cut_46 : decode prog_10_method_3_code 46 = .ok (.l2i, 1) := by decide +kernel
theorem zd_Ta_cut_47 : decode prog_10_method_3_code 47 = .ok (.i2s, 1) := by decide +kernel
theorem zd_Ta_cut_48 : decode prog_10_method_3_code 48 = .ok (.i2l, 1) := by decide +kernel
theorem zd_Ta_cut_49 : decode prog_10_method_3_code 49 = .ok (.lreturn, 1) := by decide +kernel
theorem zd_Ta_cut_40 : decode prog_10_method_3_code 40 = .ok (.lload_n 1, 1) := by decide +kernel
theorem zd_Ta_cut_41 : decode prog_10_method_3_code 41 = .ok (.l2i, 1) := by decide +kernel
theorem zd_Ta_cut_42 : decode prog_10_method_3_code 42 = .ok (.i2b, 1) := by decide +kernel
theorem zd_Ta_cut_43 : decode prog_10_method_3_code 43 = .ok (.i2l, 1) := by decide +kernel
theorem zd_Ta_cut_44 : decode prog_10_method_3_code 44 = .ok (.lreturn, 1) := by decide +kernel
abbrev zm_Ta_cut : zQ := ("LoofahSaints$Tape", prog_10_method_3_code, 3, (Option.some Jvm.ClassFile.FieldType.long), false)
set_option maxRecDepth 100000 in
def fn_Ta_cut (a0 : Nat) (a1 : Int64) (S : zS) : Option (Int64 × zS) :=
  gd (gT S a0 108) <|
  br (decide ((zI S a0 1) = (0 : Int32))) (some ((((a1.toInt32).toInt8.toInt32).toInt64), S)) <|
  br (decide ((zI S a0 1) = (1 : Int32))) (some ((((a1.toInt32).toInt16.toInt32).toInt64), S)) <|
  br (decide ((zI S a0 1) = (2 : Int32))) (some (((a1.toInt32).toInt64), S)) <|
  br (decide ((zI S a0 1) = (3 : Int32))) (some (a1, S)) <|
  br (decide ((zI S a0 1) = (4 : Int32))) (br (decide ((zcmp a1 (0 : Int64)) = 0)) (some ((0 : Int64), S)) <|
  some ((1 : Int64), S)) <|
  some (a1, S)
set_option maxRecDepth 100000 in
set_option maxHeartbeats 4000000 in
theorem tm_Ta_cut {X : zXt} {d : Nat} (hd : 2 ≤ d) {v : Int64} {a0 : Nat} {a1 : Int64} {S : zS} {S' : zS} (h : fn_Ta_cut a0 a1 S = some (v, S')) : zM X zy_Ta_cut prog_10_method_3_code 3 (Option.some Jvm.ClassFile.FieldType.long) d [.ref a0, .long a1] S (some (.long v)) S' := by
  refine zM_of (ini := false) (L := [some (.ref a0), some (.long a1), none]) (plainFor_of_name (by decide)) (fun h => by cases h) (Nat.le_of_ble_eq_true rfl) rfl ?_
  unfold fn_Ta_cut at h
  refine zg_aload_n (pc' := 1) zd_Ta_cut_0 rfl rfl ?_
  obtain ⟨g1, h⟩ := gd_some h
  refine zg_getI (pc' := 4) zf_Ta_15 zd_Ta_cut_1 (gT_ok g1) rfl ?_
  rcases br_some h with ⟨c2, h⟩ | ⟨c2, h⟩
  · refine zg_tabI (tgt := 40) (0 : Int32) zd_Ta_cut_4 c2 (by decide) (by decide) rfl (by decide) ?_
    refine zg_lload_n (pc' := 41) zd_Ta_cut_40 rfl rfl ?_
    refine zg_l2i (pc' := 42) zd_Ta_cut_41 rfl ?_
    refine zg_i2b (pc' := 43) zd_Ta_cut_42 rfl ?_
    refine zg_i2l (pc' := 44) zd_Ta_cut_43 rfl ?_
    obtain ⟨rfl, rfl⟩ := rt_q h
    exact zg_lret zd_Ta_cut_44 zrt_l
  rcases br_some h with ⟨c3, h⟩ | ⟨c3, h⟩
  · refine zg_tabI (tgt := 45) (1 : Int32) zd_Ta_cut_4 c3 (by decide) (by decide) rfl (by decide) ?_
    refine zg_lload_n (pc' := 46) zd_Ta_cut_45 rfl rfl ?_
    refine zg_l2i (pc' := 47) zd_Ta_cut_46 rfl ?_
    refine zg_i2s (pc' := 48) zd_Ta_cut_47 rfl ?_
    refine zg_i2l (pc' := 49) zd_Ta_cut_48 rfl ?_
    obtain ⟨rfl, rfl⟩ := rt_q h
    exact zg_lret zd_Ta_cut_49 zrt_l
  rcases br_some h with ⟨c4, h⟩ | ⟨c4, h⟩
  · refine zg_tabI (tgt := 50) (2 : Int32) zd_Ta_cut_4 c4 (by decide) (by decide) rfl (by decide) ?_
    refine zg_lload_n (pc' := 51) zd_Ta_cut_50 rfl rfl ?_
    refine zg_l2i (pc' := 52) zd_Ta_cut_51 rfl ?_
    refine zg_i2l (pc' := 53) zd_Ta_cut_52 rfl ?_
    obtain ⟨rfl, rfl⟩ := rt_q h
    exact zg_lret zd_Ta_cut_53 zrt_l
  rcases br_some h with ⟨c5, h⟩ | ⟨c5, h⟩
  · refine zg_tabI (tgt := 66) (3 : Int32) zd_Ta_cut_4 c5 (by decide) (by decide) rfl (by decide) ?_
    refine zg_lload_n (pc' := 67) zd_Ta_cut_66 rfl rfl ?_
    obtain ⟨rfl, rfl⟩ := rt_q h
    exact zg_lret zd_Ta_cut_67 zrt_l
  rcases br_some h with ⟨c6, h⟩ | ⟨c6, h⟩
  · refine zg_tabI (tgt := 54) (4 : Int32) zd_Ta_cut_4 c6 (by decide) (by decide) rfl (by decide) ?_
    refine zg_lload_n (pc' := 55) zd_Ta_cut_54 rfl rfl ?_
    refine zg_lconst (x := (0 : Int64)) (pc' := 56) zd_Ta_cut_55 (by decide) rfl ?_
    refine zg_lcm (pc' := 57) zd_Ta_cut_56 rfl ?_
    rcases br_some h with ⟨c7, h⟩ | ⟨c7, h⟩
    · refine zg_if_eq (tgt := 64) (pc' := 60) zd_Ta_cut_57 (by decide) rfl (fun _ => ?_) (fun q => absurd c7 q)
      refine zg_lconst (x := (0 : Int64)) (pc' := 65) zd_Ta_cut_64 (by decide) rfl ?_
      obtain ⟨rfl, rfl⟩ := rt_q h
      exact zg_lret zd_Ta_cut_65 zrt_l
    · refine zg_if_eq (tgt := 64) (pc' := 60) zd_Ta_cut_57 (by decide) rfl (fun q => absurd q c7) (fun _ => ?_)
      refine zg_lconst (x := (1 : Int64)) (pc' := 61) zd_Ta_cut_60 (by decide) rfl ?_
      refine zg_goto (tgt := 65) zd_Ta_cut_61 (by decide) ?_
      obtain ⟨rfl, rfl⟩ := rt_q h
      exact zg_lret zd_Ta_cut_65 zrt_l
  refine zg_tableD (tgt := 66) [(0 : Int32), (1 : Int32), (2 : Int32), (3 : Int32), (4 : Int32)] zd_Ta_cut_4 (by decide) (List.forall_mem_cons.mpr ⟨c2, List.forall_mem_cons.mpr ⟨c3, List.forall_mem_cons.mpr ⟨c4, List.forall_mem_cons.mpr ⟨c5, List.forall_mem_cons.mpr ⟨c6, fun _ h => absurd h List.not_mem_nil⟩⟩⟩⟩⟩) (by decide) ?_
  refine zg_lload_n (pc' := 67) zd_Ta_cut_66 rfl rfl ?_
  obtain ⟨rfl, rfl⟩ := rt_q h
  exact zg_lret zd_Ta_cut_67 zrt_l
