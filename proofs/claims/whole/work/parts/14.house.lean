theorem zd_Ho_init_0 : decode prog_3_method_1_code 0 = .ok (.aload_n 0, 1) := by decide +kernel
theorem zd_Ho_init_1 : decode prog_3_method_1_code 1 = .ok (.invokespecial 3, 3) := by decide +kernel
theorem zd_Ho_init_4 : decode prog_3_method_1_code 4 = .ok (.aload_n 0, 1) := by decide +kernel
theorem zd_Ho_init_5 : decode prog_3_method_1_code 5 = .ok (.bipush 6, 2) := by decide +kernel
theorem zd_Ho_init_7 : decode prog_3_method_1_code 7 = .ok (.anewarray 9, 3) := by decide +kernel
theorem zd_Ho_init_10 : decode prog_3_method_1_code 10 = .ok (.putfield 11, 3) := by decide +kernel
theorem zd_Ho_init_13 : decode prog_3_method_1_code 13 = .ok (.aload_n 0, 1) := by decide +kernel
theorem zd_Ho_init_14 : decode prog_3_method_1_code 14 = .ok (.iconst 4, 1) := by decide +kernel
theorem zd_Ho_init_15 : decode prog_3_method_1_code 15 = .ok (.newarray .int, 2) := by decide +kernel
theorem zd_Ho_init_17 : decode prog_3_method_1_code 17 = .ok (.putfield 17, 3) := by decide +kernel
theorem zd_Ho_init_20 : decode prog_3_method_1_code 20 = .ok (.aload_n 0, 1) := by decide +kernel
theorem zd_Ho_init_21 : decode prog_3_method_1_code 21 = .ok (.iconst 4, 1) := by decide +kernel
theorem zd_Ho_init_22 : decode prog_3_method_1_code 22 = .ok (.newarray .int, 2) := by decide +kernel
theorem zd_Ho_init_24 : decode prog_3_method_1_code 24 = .ok (.putfield 21, 3) := by decide +kernel
theorem zd_Ho_init_27 : decode prog_3_method_1_code 27 = .ok (.aload_n 0, 1) := by decide +kernel
theorem zd_Ho_init_28 : decode prog_3_method_1_code 28 = .ok (.new 24, 3) := by decide +kernel
theorem zd_Ho_init_31 : decode prog_3_method_1_code 31 = .ok (.dup, 1) := by decide +kernel
theorem zd_Ho_init_32 : decode prog_3_method_1_code 32 = .ok (.iconst 5, 1) := by decide +kernel
theorem zd_Ho_init_33 : decode prog_3_method_1_code 33 = .ok (.invokespecial 26, 3) := by decide +kernel
theorem zd_Ho_init_36 : decode prog_3_method_1_code 36 = .ok (.putfield 29, 3) := by decide +kernel
theorem zd_Ho_init_39 : decode prog_3_method_1_code 39 = .ok (.aload_n 0, 1) := by decide +kernel
theorem zd_Ho_init_40 : decode prog_3_method_1_code 40 = .ok (.new 24, 3) := by decide +kernel
theorem zd_Ho_init_43 : decode prog_3_method_1_code 43 = .ok (.dup, 1) := by decide +kernel
theorem zd_Ho_init_44 : decode prog_3_method_1_code 44 = .ok (.bipush 8, 2) := by decide +kernel
theorem zd_Ho_init_46 : decode prog_3_method_1_code 46 = .ok (.invokespecial 26, 3) := by decide +kernel
theorem zd_Ho_init_49 : decode prog_3_method_1_code 49 = .ok (.putfield 33, 3) := by decide +kernel
theorem zd_Ho_init_52 : decode prog_3_method_1_code 52 = .ok (.aload_n 0, 1) := by decide +kernel
theorem zd_Ho_init_53 : decode prog_3_method_1_code 53 = .ok (.new 24, 3) := by decide +kernel
theorem zd_Ho_init_56 : decode prog_3_method_1_code 56 = .ok (.dup, 1) := by decide +kernel
theorem zd_Ho_init_57 : decode prog_3_method_1_code 57 = .ok (.bipush 8, 2) := by decide +kernel
theorem zd_Ho_init_59 : decode prog_3_method_1_code 59 = .ok (.invokespecial 26, 3) := by decide +kernel
theorem zd_Ho_init_62 : decode prog_3_method_1_code 62 = .ok (.putfield 36, 3) := by decide +kernel
theorem zd_Ho_init_65 : decode prog_3_method_1_code 65 = .ok (.aload_n 0, 1) := by decide +kernel
theorem zd_Ho_init_66 : decode prog_3_method_1_code 66 = .ok (.iconst 0, 1) := by decide +kernel
theorem zd_Ho_init_67 : decode prog_3_method_1_code 67 = .ok (.putfield 39, 3) := by decide +kernel
theorem zd_Ho_init_70 : decode prog_3_method_1_code 70 = .ok (.aload_n 0, 1) := by decide +kernel
theorem zd_Ho_init_71 : decode prog_3_method_1_code 71 = .ok (.iconst 0, 1) := by decide +kernel
theorem zd_Ho_init_72 : decode prog_3_method_1_code 72 = .ok (.putfield 43, 3) := by decide +kernel
theorem zd_Ho_init_75 : decode prog_3_method_1_code 75 = .ok (.aload_n 0, 1) := by decide +kernel
theorem zd_Ho_init_76 : decode prog_3_method_1_code 76 = .ok (.aload_n 1, 1) := by decide +kernel
theorem zd_Ho_init_77 : decode prog_3_method_1_code 77 = .ok (.putfield 46, 3) := by decide +kernel
theorem zd_Ho_init_80 : decode prog_3_method_1_code 80 = .ok (.iconst 0, 1) := by decide +kernel
theorem zd_Ho_init_81 : decode prog_3_method_1_code 81 = .ok (.istore_n 2, 1) := by decide +kernel
theorem zd_Ho_init_82 : decode prog_3_method_1_code 82 = .ok (.iload_n 2, 1) := by decide +kernel
theorem zd_Ho_init_83 : decode prog_3_method_1_code 83 = .ok (.bipush 6, 2) := by decide +kernel
theorem zd_Ho_init_85 : decode prog_3_method_1_code 85 = .ok (.if_icmp .ge 23, 3) := by decide +kernel
theorem zd_Ho_init_108 : decode prog_3_method_1_code 108 = .ok (.return_, 1) := by decide +kernel
theorem zd_Ho_init_88 : decode prog_3_method_1_code 88 = .ok (.aload_n 0, 1) := by decide +kernel
theorem zd_Ho_init_89 : decode prog_3_method_1_code 89 = .ok (.getfield 11, 3) := by decide +kernel
theorem zd_Ho_init_92 : decode prog_3_method_1_code 92 = .ok (.iload_n 2, 1) := by decide +kernel
theorem zd_Ho_init_93 : decode prog_3_method_1_code 93 = .ok (.new 9, 3) := by decide +kernel
theorem zd_Ho_init_96 : decode prog_3_method_1_code 96 = .ok (.dup, 1) := by decide +kernel
theorem zd_Ho_init_97 : decode prog_3_method_1_code 97 = .ok (.iload_n 2, 1) := by decide +kernel
theorem zd_Ho_init_98 : decode prog_3_method_1_code 98 = .ok (.invokespecial 50, 3) := by decide +kernel
theorem zd_Ho_init_101 : decode prog_3_method_1_code 101 = .ok (.aastore, 1) := by decide +kernel
theorem zd_Ho_init_102 : decode prog_3_method_1_code 102 = .ok (.iinc 2 1, 3) := by decide +kernel
theorem zd_Ho_init_105 : decode prog_3_method_1_code 105 = .ok (.goto (-23), 3) := by decide +kernel
abbrev zm_Ho_init : zQ := ("LoofahSaints$House", prog_3_method_1_code, 3, (Option.none : Option Jvm.ClassFile.FieldType), true)
set_option maxRecDepth 100000 in
def fn_Ho_init_L82 (a0 : Nat) (a2 : Int32) (S : zS) (K82 : Nat → Int32 → zS → Option (zS)) : Option (zS) :=
  br (decide ((6 : Int32) ≤ a2)) (some S) <|
  gd (gT S a0 101) <|
  nm (uN S (100 + 5, 8)) fun S3 =>
  gd (gT S3 (zN S) 105) <|
  bv (fn_Sa_init (zN S) a2 S3) fun S5 =>
  gd (gT S5 (zR S a0 0) 6) <|
  gd (gB a2 (zT S5 (zR S a0 0)).2) <|
  gd (gT S5 (zN S) 105) <|
  nm (uR S5 (zR S a0 0) a2.toNatClampNeg (zN S)) fun S10 =>
  K82 a0 (a2 + (1 : Int32)) S10
set_option maxRecDepth 100000 in
set_option maxHeartbeats 4000000 in
theorem tm_Ho_init_L82 {X : zXt} {d : Nat} (hd : 3 ≤ d) {S' : zS}  {K82 : Nat → Int32 → zS → Option (zS)} (hK82 : ∀ (a0 : Nat) (a2 : Int32) (S : zS), K82 a0 a2 S = some S' → zG X zm_Ho_init d 82 [some (.ref a0), none, some (.int a2)] [] S none S') {a0 : Nat} {a2 : Int32} {S : zS} (h : fn_Ho_init_L82 a0 a2 S K82 = some S') : zG X zm_Ho_init d 82 [some (.ref a0), none, some (.int a2)] [] S none S' := by
  unfold fn_Ho_init_L82 at h
  refine zg_iload_n (pc' := 83) zd_Ho_init_82 rfl rfl ?_
  refine zg_bipush (x := (6 : Int32)) (pc' := 85) zd_Ho_init_83 (by decide) rfl ?_
  rcases br_some h with ⟨c1, h⟩ | ⟨c1, h⟩
  · refine zg_icmp_ge (tgt := 108) (pc' := 88) zd_Ho_init_85 (by decide) rfl (fun _ => ?_) (fun q => absurd c1 q)
    obtain rfl := rt_v h
    exact zg_vret zd_Ho_init_108 rfl
  · refine zg_icmp_ge (tgt := 108) (pc' := 88) zd_Ho_init_85 (by decide) rfl (fun q => absurd q c1) (fun _ => ?_)
    refine zg_aload_n (pc' := 89) zd_Ho_init_88 rfl rfl ?_
    obtain ⟨g2, h⟩ := gd_some h
    refine zg_getR (pc' := 92) zf_Ho_11 rfl zd_Ho_init_89 (gT_ok g2) rfl ?_
    refine zg_iload_n (pc' := 93) zd_Ho_init_92 rfl rfl ?_
    refine zg_new (pc' := 96) zc_Ho_9 zd_Ho_init_93 rfl ?_
    obtain ⟨S3, eS3, h⟩ := nm_some h
    refine zg_nm eS3 ?_
    refine zg_dup (pc' := 97) zd_Ho_init_96 rfl rfl ?_
    refine zg_iload_n (pc' := 98) zd_Ho_init_97 rfl rfl ?_
    obtain ⟨g4, h⟩ := gd_some h
    obtain ⟨S5, e6, h⟩ := bv_some h
    refine zg_callI (ci := 5) (As := [.int a2]) (rest := [.ref (zN S), .int a2, .ref (zR S a0 0)]) (pc' := 101) zl_Ho_50 zq135 rfl ⟨_, rfl, rfl⟩ zd_Ho_init_98 rfl rfl (Nat.le_of_ble_eq_true rfl) (by omega) (gT_ok g4) (tm_Sa_init (d := 2) (Nat.le_refl _) e6) rfl ?_
    refine zg_st (st' := [.ref (zN S), .int a2, .ref (zR S a0 0)]) rfl ?_
    obtain ⟨g7, h⟩ := gd_some h
    obtain ⟨g8, h⟩ := gd_some h
    obtain ⟨g9, h⟩ := gd_some h
    refine zg_aast (t := 6) (pc' := 102) (by decide) zd_Ho_init_101 (gT_ok g7) (gB_ok g8) (gT_ok g9) rfl ?_
    obtain ⟨S10, eS10, h⟩ := nm_some h
    refine zg_nm eS10 ?_
    refine zg_iinc (y := (a2 + (1 : Int32))) (L' := [some (.ref a0), none, some (.int (a2 + (1 : Int32)))]) (pc' := 105) zd_Ho_init_102 rfl rfl (by decide) rfl rfl ?_
    refine zg_goto (tgt := 82) zd_Ho_init_105 (by decide) ?_
    exact hK82 _ _ _ h
set_option maxRecDepth 100000 in
def fn_Ho_init (a0 : Nat) (a1 : Nat) (S : zS) : Option (zS) :=
  gd (gT S a0 101) <|
  gd (gN (6 : Int32)) <|
  nm (uN S (6, (6 : Int32).toNatClampNeg)) fun S3 =>
  gd (gT S3 a0 101) <|
  nm (uR S3 a0 0 (zN S)) fun S5 =>
  gd (gN (4 : Int32)) <|
  nm (uN S5 (1, (4 : Int32).toNatClampNeg)) fun S7 =>
  gd (gT S7 a0 101) <|
  nm (uR S7 a0 1 (zN S5)) fun S9 =>
  nm (uN S9 (1, (4 : Int32).toNatClampNeg)) fun S10 =>
  gd (gT S10 a0 101) <|
  nm (uR S10 a0 2 (zN S9)) fun S12 =>
  nm (uN S12 (100 + 4, 3)) fun S13 =>
  gd (gT S13 (zN S12) 104) <|
  bv (fn_Rw_init (zN S12) (5 : Int32) S13) fun S15 =>
  gd (gT S15 a0 101) <|
  nm (uR S15 a0 3 (zN S12)) fun S18 =>
  nm (uN S18 (100 + 4, 3)) fun S19 =>
  gd (gT S19 (zN S18) 104) <|
  bv (fn_Rw_init (zN S18) (8 : Int32) S19) fun S21 =>
  gd (gT S21 a0 101) <|
  nm (uR S21 a0 4 (zN S18)) fun S24 =>
  nm (uN S24 (100 + 4, 3)) fun S25 =>
  gd (gT S25 (zN S24) 104) <|
  bv (fn_Rw_init (zN S24) (8 : Int32) S25) fun S27 =>
  gd (gT S27 a0 101) <|
  nm (uR S27 a0 5 (zN S24)) fun S30 =>
  gd (gT S30 a0 101) <|
  nm (uI S30 a0 6 (0 : Int32)) fun S32 =>
  gd (gT S32 a0 101) <|
  nm (uI S32 a0 7 (0 : Int32)) fun S34 =>
  gd (gT S34 a0 101) <|
  nm (uR S34 a0 8 a1) fun S36 =>
  lp (σ := Nat × Int32 × zS) (fun k s => fn_Ho_init_L82 s.1 s.2.1 s.2.2 (fun (a0 : Nat) (a2 : Int32) (S : zS) => k (a0, a2, S))) FU (a0, (0 : Int32), S36)
set_option maxRecDepth 100000 in
set_option maxHeartbeats 4000000 in
theorem tm_Ho_init {X : zXt} {d : Nat} (hd : 3 ≤ d) {a0 : Nat} {a1 : Nat} {S : zS} {S' : zS} (h : fn_Ho_init a0 a1 S = some S') : zM X zy_Ho_init prog_3_method_1_code 3 (Option.none : Option Jvm.ClassFile.FieldType) d [.ref a0, .ref a1] S none S' := by
  refine zM_of (ini := true) (L := [some (.ref a0), some (.ref a1), none]) (plainFor_of_name (by decide)) (fun _ => rfl) (Nat.le_of_ble_eq_true rfl) rfl ?_
  unfold fn_Ho_init at h
  refine zg_aload_n (pc' := 1) zd_Ho_init_0 rfl rfl ?_
  obtain ⟨g1, h⟩ := gd_some h
  refine zg_oinit (ci := 1) (pc' := 4) zq201 zq25 zq26 zd_Ho_init_1 (by omega) (gT_ok g1) (Nat.le_of_ble_eq_true rfl) rfl ?_
  refine zg_aload_n (pc' := 5) zd_Ho_init_4 rfl rfl ?_
  refine zg_bipush (x := (6 : Int32)) (pc' := 7) zd_Ho_init_5 (by decide) rfl ?_
  obtain ⟨g2, h⟩ := gd_some h
  refine zg_anew (t := 6) (C := zr5) (pc' := 10) (by simp) zq202 zd_Ho_init_7 (gN_ok g2).1 (gN_ok g2).2 rfl ?_
  obtain ⟨S3, eS3, h⟩ := nm_some h
  refine zg_nm eS3 ?_
  obtain ⟨g4, h⟩ := gd_some h
  refine zg_putR (pc' := 13) zf_Ho_11 rfl zd_Ho_init_10 (Or.inr ⟨rfl, _, rfl, rfl⟩) (gT_ok g4) rfl ?_
  obtain ⟨S5, eS5, h⟩ := nm_some h
  refine zg_nm eS5 ?_
  refine zg_aload_n (pc' := 14) zd_Ho_init_13 rfl rfl ?_
  refine zg_iconst (x := (4 : Int32)) (pc' := 15) zd_Ho_init_14 (by decide) rfl ?_
  obtain ⟨g6, h⟩ := gd_some h
  refine zg_newa (t := 1) (ty := .int) (pc' := 17) rfl (by simp) zq59 zd_Ho_init_15 (gN_ok g6).1 (gN_ok g6).2 rfl ?_
  obtain ⟨S7, eS7, h⟩ := nm_some h
  refine zg_nm eS7 ?_
  obtain ⟨g8, h⟩ := gd_some h
  refine zg_putR (pc' := 20) zf_Ho_17 rfl zd_Ho_init_17 (Or.inr ⟨rfl, _, rfl, rfl⟩) (gT_ok g8) rfl ?_
  obtain ⟨S9, eS9, h⟩ := nm_some h
  refine zg_nm eS9 ?_
  refine zg_aload_n (pc' := 21) zd_Ho_init_20 rfl rfl ?_
  refine zg_iconst (x := (4 : Int32)) (pc' := 22) zd_Ho_init_21 (by decide) rfl ?_
  refine zg_newa (t := 1) (ty := .int) (pc' := 24) rfl (by simp) zq59 zd_Ho_init_22 (gN_ok g6).1 (gN_ok g6).2 rfl ?_
  obtain ⟨S10, eS10, h⟩ := nm_some h
  refine zg_nm eS10 ?_
  obtain ⟨g11, h⟩ := gd_some h
  refine zg_putR (pc' := 27) zf_Ho_21 rfl zd_Ho_init_24 (Or.inr ⟨rfl, _, rfl, rfl⟩) (gT_ok g11) rfl ?_
  obtain ⟨S12, eS12, h⟩ := nm_some h
  refine zg_nm eS12 ?_
  refine zg_aload_n (pc' := 28) zd_Ho_init_27 rfl rfl ?_
  refine zg_new (pc' := 31) zc_Ho_24 zd_Ho_init_28 rfl ?_
  obtain ⟨S13, eS13, h⟩ := nm_some h
  refine zg_nm eS13 ?_
  refine zg_dup (pc' := 32) zd_Ho_init_31 rfl rfl ?_
  refine zg_iconst (x := (5 : Int32)) (pc' := 33) zd_Ho_init_32 (by decide) rfl ?_
  obtain ⟨g14, h⟩ := gd_some h
  obtain ⟨S15, e16, h⟩ := bv_some h
  refine zg_callI (ci := 4) (As := [.int (5 : Int32)]) (rest := [.ref (zN S12), .ref a0]) (pc' := 36) zl_Ho_26 zq207 rfl ⟨_, rfl, rfl⟩ zd_Ho_init_33 rfl rfl (Nat.le_of_ble_eq_true rfl) (by omega) (gT_ok g14) (tm_Rw_init (d := 2) (Nat.le_refl _) e16) rfl ?_
  refine zg_st (st' := [.ref (zN S12), .ref a0]) rfl ?_
  obtain ⟨g17, h⟩ := gd_some h
  refine zg_putR (pc' := 39) zf_Ho_29 rfl zd_Ho_init_36 (Or.inr ⟨rfl, _, rfl, rfl⟩) (gT_ok g17) rfl ?_
  obtain ⟨S18, eS18, h⟩ := nm_some h
  refine zg_nm eS18 ?_
  refine zg_aload_n (pc' := 40) zd_Ho_init_39 rfl rfl ?_
  refine zg_new (pc' := 43) zc_Ho_24 zd_Ho_init_40 rfl ?_
  obtain ⟨S19, eS19, h⟩ := nm_some h
  refine zg_nm eS19 ?_
  refine zg_dup (pc' := 44) zd_Ho_init_43 rfl rfl ?_
  refine zg_bipush (x := (8 : Int32)) (pc' := 46) zd_Ho_init_44 (by decide) rfl ?_
  obtain ⟨g20, h⟩ := gd_some h
  obtain ⟨S21, e22, h⟩ := bv_some h
  refine zg_callI (ci := 4) (As := [.int (8 : Int32)]) (rest := [.ref (zN S18), .ref a0]) (pc' := 49) zl_Ho_26 zq207 rfl ⟨_, rfl, rfl⟩ zd_Ho_init_46 rfl rfl (Nat.le_of_ble_eq_true rfl) (by omega) (gT_ok g20) (tm_Rw_init (d := 2) (Nat.le_refl _) e22) rfl ?_
  refine zg_st (st' := [.ref (zN S18), .ref a0]) rfl ?_
  obtain ⟨g23, h⟩ := gd_some h
  refine zg_putR (pc' := 52) zf_Ho_33 rfl zd_Ho_init_49 (Or.inr ⟨rfl, _, rfl, rfl⟩) (gT_ok g23) rfl ?_
  obtain ⟨S24, eS24, h⟩ := nm_some h
  refine zg_nm eS24 ?_
  refine zg_aload_n (pc' := 53) zd_Ho_init_52 rfl rfl ?_
  refine zg_new (pc' := 56) zc_Ho_24 zd_Ho_init_53 rfl ?_
  obtain ⟨S25, eS25, h⟩ := nm_some h
  refine zg_nm eS25 ?_
  refine zg_dup (pc' := 57) zd_Ho_init_56 rfl rfl ?_
  refine zg_bipush (x := (8 : Int32)) (pc' := 59) zd_Ho_init_57 (by decide) rfl ?_
  obtain ⟨g26, h⟩ := gd_some h
  obtain ⟨S27, e28, h⟩ := bv_some h
  refine zg_callI (ci := 4) (As := [.int (8 : Int32)]) (rest := [.ref (zN S24), .ref a0]) (pc' := 62) zl_Ho_26 zq207 rfl ⟨_, rfl, rfl⟩ zd_Ho_init_59 rfl rfl (Nat.le_of_ble_eq_true rfl) (by omega) (gT_ok g26) (tm_Rw_init (d := 2) (Nat.le_refl _) e28) rfl ?_
  refine zg_st (st' := [.ref (zN S24), .ref a0]) rfl ?_
  obtain ⟨g29, h⟩ := gd_some h
  refine zg_putR (pc' := 65) zf_Ho_36 rfl zd_Ho_init_62 (Or.inr ⟨rfl, _, rfl, rfl⟩) (gT_ok g29) rfl ?_
  obtain ⟨S30, eS30, h⟩ := nm_some h
  refine zg_nm eS30 ?_
  refine zg_aload_n (pc' := 66) zd_Ho_init_65 rfl rfl ?_
  refine zg_iconst (x := (0 : Int32)) (pc' := 67) zd_Ho_init_66 (by decide) rfl ?_
  obtain ⟨g31, h⟩ := gd_some h
  refine zg_putI (pc' := 70) zf_Ho_39 zd_Ho_init_67 (Or.inl rfl) (gT_ok g31) rfl ?_
  obtain ⟨S32, eS32, h⟩ := nm_some h
  refine zg_nm eS32 ?_
  refine zg_aload_n (pc' := 71) zd_Ho_init_70 rfl rfl ?_
  refine zg_iconst (x := (0 : Int32)) (pc' := 72) zd_Ho_init_71 (by decide) rfl ?_
  obtain ⟨g33, h⟩ := gd_some h
  refine zg_putI (pc' := 75) zf_Ho_43 zd_Ho_init_72 (Or.inl rfl) (gT_ok g33) rfl ?_
  obtain ⟨S34, eS34, h⟩ := nm_some h
  refine zg_nm eS34 ?_
  refine zg_aload_n (pc' := 76) zd_Ho_init_75 rfl rfl ?_
  refine zg_aload_n (pc' := 77) zd_Ho_init_76 rfl rfl ?_
  obtain ⟨g35, h⟩ := gd_some h
  refine zg_putR (pc' := 80) zf_Ho_46 rfl zd_Ho_init_77 (Or.inl rfl) (gT_ok g35) rfl ?_
  obtain ⟨S36, eS36, h⟩ := nm_some h
  refine zg_nm eS36 ?_
  refine zg_iconst (x := (0 : Int32)) (pc' := 81) zd_Ho_init_80 (by decide) rfl ?_
  refine zg_istore_n (L' := [some (.ref a0), some (.ref a1), some (.int (0 : Int32))]) (pc' := 82) zd_Ho_init_81 (by decide) rfl rfl ?_
  refine zg_mask (L' := [some (.ref a0), none, some (.int (0 : Int32))]) (zmk_ok _ _ ⟨rfl, ⟨rfl, trivial⟩⟩) ?_
  exact lp_indh h (P := fun s => zG X zm_Ho_init d 82 [some (.ref (s.1)), none, some (.int (s.2.1))] [] (s.2.2) none S') (fun k hk s h => tm_Ho_init_L82 hd (fun a0 a2 S h => hk (a0, a2, S) h) h)
theorem zd_Ho_copy_0 : decode prog_3_method_2_code 0 = .ok (.iconst 0, 1) := by decide +kernel
theorem zd_Ho_copy_1 : decode prog_3_method_2_code 1 = .ok (.istore_n 2, 1) := by decide +kernel
theorem zd_Ho_copy_2 : decode prog_3_method_2_code 2 = .ok (.iload_n 2, 1) := by decide +kernel
theorem zd_Ho_copy_3 : decode prog_3_method_2_code 3 = .ok (.aload_n 1, 1) := by decide +kernel
theorem zd_Ho_copy_4 : decode prog_3_method_2_code 4 = .ok (.getfield 39, 3) := by decide +kernel
theorem zd_Ho_copy_7 : decode prog_3_method_2_code 7 = .ok (.if_icmp .ge 24, 3) := by decide +kernel
theorem zd_Ho_copy_31 : decode prog_3_method_2_code 31 = .ok (.aload_n 1, 1) := by decide +kernel
theorem zd_Ho_copy_32 : decode prog_3_method_2_code 32 = .ok (.getfield 17, 3) := by decide +kernel
theorem zd_Ho_copy_35 : decode prog_3_method_2_code 35 = .ok (.iconst 0, 1) := by decide +kernel
theorem zd_Ho_copy_36 : decode prog_3_method_2_code 36 = .ok (.aload_n 0, 1) := by decide +kernel
theorem zd_Ho_copy_37 : decode prog_3_method_2_code 37 = .ok (.getfield 17, 3) := by decide +kernel
theorem zd_Ho_copy_40 : decode prog_3_method_2_code 40 = .ok (.iconst 0, 1) := by decide +kernel
theorem zd_Ho_copy_41 : decode prog_3_method_2_code 41 = .ok (.iconst 4, 1) := by decide +kernel
theorem zd_Ho_copy_42 : decode prog_3_method_2_code 42 = .ok (.invokestatic 55, 3) := by decide +kernel
theorem zd_Ho_copy_45 : decode prog_3_method_2_code 45 = .ok (.aload_n 1, 1) := by decide +kernel
theorem zd_Ho_copy_46 : decode prog_3_method_2_code 46 = .ok (.getfield 21, 3) := by decide +kernel
theorem zd_Ho_copy_49 : decode prog_3_method_2_code 49 = .ok (.iconst 0, 1) := by decide +kernel
theorem zd_Ho_copy_50 : decode prog_3_method_2_code 50 = .ok (.aload_n 0, 1) := by decide +kernel
theorem zd_Ho_copy_51 : decode prog_3_method_2_code 51 = .ok (.getfield 21, 3) := by decide +kernel
theorem zd_Ho_copy_54 : decode prog_3_method_2_code 54 = .ok (.iconst 0, 1) := by decide +kernel
theorem zd_Ho_copy_55 : decode prog_3_method_2_code 55 = .ok (.iconst 4, 1) := by decide +kernel
theorem zd_Ho_copy_56 : decode prog_3_method_2_code 56 = .ok (.invokestatic 55, 3) := by decide +kernel
theorem zd_Ho_copy_59 : decode prog_3_method_2_code 59 = .ok (.aload_n 0, 1) := by decide +kernel
theorem zd_Ho_copy_60 : decode prog_3_method_2_code 60 = .ok (.getfield 29, 3) := by decide +kernel
theorem zd_Ho_copy_63 : decode prog_3_method_2_code 63 = .ok (.aload_n 1, 1) := by decide +kernel
theorem zd_Ho_copy_64 : decode prog_3_method_2_code 64 = .ok (.getfield 29, 3) := by decide +kernel
theorem zd_Ho_copy_67 : decode prog_3_method_2_code 67 = .ok (.invokevirtual 61, 3) := by decide +kernel
theorem zd_Ho_copy_70 : decode prog_3_method_2_code 70 = .ok (.aload_n 0, 1) := by decide +kernel
theorem zd_Ho_copy_71 : decode prog_3_method_2_code 71 = .ok (.getfield 33, 3) := by decide +kernel
theorem zd_Ho_copy_74 : decode prog_3_method_2_code 74 = .ok (.aload_n 1, 1) := by decide +kernel
theorem zd_Ho_copy_75 : decode prog_3_method_2_code 75 = .ok (.getfield 33, 3) := by decide +kernel
theorem zd_Ho_copy_78 : decode prog_3_method_2_code 78 = .ok (.invokevirtual 61, 3) := by decide +kernel
theorem zd_Ho_copy_81 : decode prog_3_method_2_code 81 = .ok (.aload_n 0, 1) := by decide +kernel
theorem zd_Ho_copy_82 : decode prog_3_method_2_code 82 = .ok (.getfield 36, 3) := by decide +kernel
theorem zd_Ho_copy_85 : decode prog_3_method_2_code 85 = .ok (.aload_n 1, 1) := by decide +kernel
theorem zd_Ho_copy_86 : decode prog_3_method_2_code 86 = .ok (.getfield 36, 3) := by decide +kernel
theorem zd_Ho_copy_89 : decode prog_3_method_2_code 89 = .ok (.invokevirtual 61, 3) := by decide +kernel
theorem zd_Ho_copy_92 : decode prog_3_method_2_code 92 = .ok (.aload_n 0, 1) := by decide +kernel
theorem zd_Ho_copy_93 : decode prog_3_method_2_code 93 = .ok (.aload_n 1, 1) := by decide +kernel
theorem zd_Ho_copy_94 : decode prog_3_method_2_code 94 = .ok (.getfield 39, 3) := by decide +kernel
theorem zd_Ho_copy_97 : decode prog_3_method_2_code 97 = .ok (.putfield 39, 3) := by decide +kernel
theorem zd_Ho_copy_100 : decode prog_3_method_2_code 100 = .ok (.aload_n 0, 1) := by decide +kernel
theorem zd_Ho_copy_101 : decode prog_3_method_2_code 101 = .ok (.aload_n 1, 1) := by decide +kernel
theorem zd_Ho_copy_102 : decode prog_3_method_2_code 102 = .ok (.getfield 43, 3) := by decide +kernel
theorem zd_Ho_copy_105 : decode prog_3_method_2_code 105 = .ok (.putfield 43, 3) := by decide +kernel
theorem zd_Ho_copy_108 : decode prog_3_method_2_code 108 = .ok (.aload_n 0, 1) := by decide +kernel
theorem zd_Ho_copy_109 : decode prog_3_method_2_code 109 = .ok (.aload_n 1, 1) := by decide +kernel
theorem zd_Ho_copy_110 : decode prog_3_method_2_code 110 = .ok (.getfield 46, 3) := by decide +kernel
theorem zd_Ho_copy_113 : decode prog_3_method_2_code 113 = .ok (.putfield 46, 3) := by decide +kernel
theorem zd_Ho_copy_116 : decode prog_3_method_2_code 116 = .ok (.return_, 1) := by decide +kernel
theorem zd_Ho_copy_10 : decode prog_3_method_2_code 10 = .ok (.aload_n 0, 1) := by decide +kernel
theorem zd_Ho_copy_11 : decode prog_3_method_2_code 11 = .ok (.getfield 11, 3) := by decide +kernel
theorem zd_Ho_copy_14 : decode prog_3_method_2_code 14 = .ok (.iload_n 2, 1) := by decide +kernel
theorem zd_Ho_copy_15 : decode prog_3_method_2_code 15 = .ok (.aaload, 1) := by decide +kernel
theorem zd_Ho_copy_16 : decode prog_3_method_2_code 16 = .ok (.aload_n 1, 1) := by decide +kernel
theorem zd_Ho_copy_17 : decode prog_3_method_2_code 17 = .ok (.getfield 11, 3) := by decide +kernel
theorem zd_Ho_copy_20 : decode prog_3_method_2_code 20 = .ok (.iload_n 2, 1) := by decide +kernel
theorem zd_Ho_copy_21 : decode prog_3_method_2_code 21 = .ok (.aaload, 1) := by decide +kernel
theorem zd_Ho_copy_22 : decode prog_3_method_2_code 22 = .ok (.invokevirtual 51, 3) := by decide +kernel
theorem zd_Ho_copy_25 : decode prog_3_method_2_code 25 = .ok (.iinc 2 1, 3) := by decide +kernel
theorem zd_Ho_copy_28 : decode prog_3_method_2_code 28 = .ok (.goto (-26), 3) := by decide +kernel
abbrev zm_Ho_copy : zQ := ("LoofahSaints$House", prog_3_method_2_code, 3, (Option.none : Option Jvm.ClassFile.FieldType), false)
set_option maxRecDepth 100000 in
def fn_Ho_copy_L2 (a0 : Nat) (a1 : Nat) (a2 : Int32) (S : zS) (K2 : Nat → Nat → Int32 → zS → Option (zS)) : Option (zS) :=
  gd (gT S a1 101) <|
  br (decide ((zI S a1 6) ≤ a2)) (gd (gT S a0 101) <|
  gd (gK S 1 (zR S a1 1) (zR S a0 1) (0 : Int32) (0 : Int32) (4 : Int32)) <|
  nm (kI S (zR S a1 1) (0 : Int32).toNatClampNeg (zR S a0 1) (0 : Int32).toNatClampNeg (4 : Int32).toNatClampNeg) fun S5 =>
  gd (gT S5 a1 101) <|
  gd (gT S5 a0 101) <|
  gd (gK S5 1 (zR S5 a1 2) (zR S5 a0 2) (0 : Int32) (0 : Int32) (4 : Int32)) <|
  nm (kI S5 (zR S5 a1 2) (0 : Int32).toNatClampNeg (zR S5 a0 2) (0 : Int32).toNatClampNeg (4 : Int32).toNatClampNeg) fun S9 =>
  gd (gT S9 a0 101) <|
  gd (gT S9 a1 101) <|
  gd (gT S9 (zR S9 a0 3) 104) <|
  bv (fn_Rw_copy (zR S9 a0 3) (zR S9 a1 3) S9) fun S13 =>
  gd (gT S13 a0 101) <|
  gd (gT S13 a1 101) <|
  gd (gT S13 (zR S13 a0 4) 104) <|
  bv (fn_Rw_copy (zR S13 a0 4) (zR S13 a1 4) S13) fun S18 =>
  gd (gT S18 a0 101) <|
  gd (gT S18 a1 101) <|
  gd (gT S18 (zR S18 a0 5) 104) <|
  bv (fn_Rw_copy (zR S18 a0 5) (zR S18 a1 5) S18) fun S23 =>
  gd (gT S23 a1 101) <|
  gd (gT S23 a0 101) <|
  nm (uI S23 a0 6 (zI S23 a1 6)) fun S27 =>
  gd (gT S27 a1 101) <|
  gd (gT S27 a0 101) <|
  nm (uI S27 a0 7 (zI S27 a1 7)) fun S30 =>
  gd (gT S30 a1 101) <|
  gd (gT S30 a0 101) <|
  nm (uR S30 a0 8 (zR S30 a1 8)) fun S33 =>
  some S33) <|
  gd (gT S a0 101) <|
  gd (gT S (zR S a0 0) 6) <|
  gd (gB a2 (zT S (zR S a0 0)).2) <|
  gd (gT S (zR S a1 0) 6) <|
  gd (gB a2 (zT S (zR S a1 0)).2) <|
  gd (gT S (zR S (zR S a0 0) a2.toNatClampNeg) 105) <|
  bv (fn_Sa_copy (zR S (zR S a0 0) a2.toNatClampNeg) (zR S (zR S a1 0) a2.toNatClampNeg) S) fun S40 =>
  K2 a0 a1 (a2 + (1 : Int32)) S40
set_option maxRecDepth 100000 in
set_option maxHeartbeats 4000000 in
theorem tm_Ho_copy_L2 {X : zXt} {d : Nat} (hd : 4 ≤ d) {S' : zS}  {K2 : Nat → Nat → Int32 → zS → Option (zS)} (hK2 : ∀ (a0 : Nat) (a1 : Nat) (a2 : Int32) (S : zS), K2 a0 a1 a2 S = some S' → zG X zm_Ho_copy d 2 [some (.ref a0), some (.ref a1), some (.int a2)] [] S none S') {a0 : Nat} {a1 : Nat} {a2 : Int32} {S : zS} (h : fn_Ho_copy_L2 a0 a1 a2 S K2 = some S') : zG X zm_Ho_copy d 2 [some (.ref a0), some (.ref a1), some (.int a2)] [] S none S' := by
  unfold fn_Ho_copy_L2 at h
  refine zg_iload_n (pc' := 3) zd_Ho_copy_2 rfl rfl ?_
  refine zg_aload_n (pc' := 4) zd_Ho_copy_3 rfl rfl ?_
  obtain ⟨g1, h⟩ := gd_some h
  refine zg_getI (pc' := 7) zf_Ho_39 zd_Ho_copy_4 (gT_ok g1) rfl ?_
  rcases br_some h with ⟨c2, h⟩ | ⟨c2, h⟩
  · refine zg_icmp_ge (tgt := 31) (pc' := 10) zd_Ho_copy_7 (by decide) rfl (fun _ => ?_) (fun q => absurd c2 q)
    refine zg_aload_n (pc' := 32) zd_Ho_copy_31 rfl rfl ?_
    refine zg_getR (pc' := 35) zf_Ho_17 rfl zd_Ho_copy_32 (gT_ok g1) rfl ?_
    refine zg_iconst (x := (0 : Int32)) (pc' := 36) zd_Ho_copy_35 (by decide) rfl ?_
    refine zg_aload_n (pc' := 37) zd_Ho_copy_36 rfl rfl ?_
    obtain ⟨g3, h⟩ := gd_some h
    refine zg_getR (pc' := 40) zf_Ho_17 rfl zd_Ho_copy_37 (gT_ok g3) rfl ?_
    refine zg_iconst (x := (0 : Int32)) (pc' := 41) zd_Ho_copy_40 (by decide) rfl ?_
    refine zg_iconst (x := (4 : Int32)) (pc' := 42) zd_Ho_copy_41 (by decide) rfl ?_
    obtain ⟨g4, h⟩ := gd_some h
    refine zg_copyI (pc' := 45) zq558 zq557 zq556 zq17 zd_Ho_copy_42 (by omega) (Nat.le_of_ble_eq_true rfl) (gK_ok g4).1 (gK_ok g4).2.1 (gK_ok g4).2.2.1 (gK_ok g4).2.2.2.1 (gK_ok g4).2.2.2.2.1 (gK_ok g4).2.2.2.2.2.1 (gK_ok g4).2.2.2.2.2.2.1 (gK_ok g4).2.2.2.2.2.2.2.1 (gK_ok g4).2.2.2.2.2.2.2.2 rfl ?_
    obtain ⟨S5, eS5, h⟩ := nm_some h
    refine zg_nm eS5 ?_
    refine zg_aload_n (pc' := 46) zd_Ho_copy_45 rfl rfl ?_
    obtain ⟨g6, h⟩ := gd_some h
    refine zg_getR (pc' := 49) zf_Ho_21 rfl zd_Ho_copy_46 (gT_ok g6) rfl ?_
    refine zg_iconst (x := (0 : Int32)) (pc' := 50) zd_Ho_copy_49 (by decide) rfl ?_
    refine zg_aload_n (pc' := 51) zd_Ho_copy_50 rfl rfl ?_
    obtain ⟨g7, h⟩ := gd_some h
    refine zg_getR (pc' := 54) zf_Ho_21 rfl zd_Ho_copy_51 (gT_ok g7) rfl ?_
    refine zg_iconst (x := (0 : Int32)) (pc' := 55) zd_Ho_copy_54 (by decide) rfl ?_
    refine zg_iconst (x := (4 : Int32)) (pc' := 56) zd_Ho_copy_55 (by decide) rfl ?_
    obtain ⟨g8, h⟩ := gd_some h
    refine zg_copyI (pc' := 59) zq558 zq557 zq556 zq17 zd_Ho_copy_56 (by omega) (Nat.le_of_ble_eq_true rfl) (gK_ok g8).1 (gK_ok g8).2.1 (gK_ok g8).2.2.1 (gK_ok g8).2.2.2.1 (gK_ok g8).2.2.2.2.1 (gK_ok g8).2.2.2.2.2.1 (gK_ok g8).2.2.2.2.2.2.1 (gK_ok g8).2.2.2.2.2.2.2.1 (gK_ok g8).2.2.2.2.2.2.2.2 rfl ?_
    obtain ⟨S9, eS9, h⟩ := nm_some h
    refine zg_nm eS9 ?_
    refine zg_aload_n (pc' := 60) zd_Ho_copy_59 rfl rfl ?_
    obtain ⟨g10, h⟩ := gd_some h
    refine zg_getR (pc' := 63) zf_Ho_29 rfl zd_Ho_copy_60 (gT_ok g10) rfl ?_
    refine zg_aload_n (pc' := 64) zd_Ho_copy_63 rfl rfl ?_
    obtain ⟨g11, h⟩ := gd_some h
    refine zg_getR (pc' := 67) zf_Ho_29 rfl zd_Ho_copy_64 (gT_ok g11) rfl ?_
    obtain ⟨g12, h⟩ := gd_some h
    obtain ⟨S13, e14, h⟩ := bv_some h
    refine zg_callV (ci := 4) (As := [.ref (zR S9 a1 3)]) (rest := []) (pc' := 70) zl_Ho_61 zq560 zq561 ⟨_, rfl, rfl⟩ zd_Ho_copy_67 rfl rfl (Nat.le_of_ble_eq_true rfl) (by omega) (gT_ok g12) (tm_Rw_copy (d := 3) (Nat.le_refl _) e14) rfl ?_
    refine zg_st (st' := []) rfl ?_
    refine zg_aload_n (pc' := 71) zd_Ho_copy_70 rfl rfl ?_
    obtain ⟨g15, h⟩ := gd_some h
    refine zg_getR (pc' := 74) zf_Ho_33 rfl zd_Ho_copy_71 (gT_ok g15) rfl ?_
    refine zg_aload_n (pc' := 75) zd_Ho_copy_74 rfl rfl ?_
    obtain ⟨g16, h⟩ := gd_some h
    refine zg_getR (pc' := 78) zf_Ho_33 rfl zd_Ho_copy_75 (gT_ok g16) rfl ?_
    obtain ⟨g17, h⟩ := gd_some h
    obtain ⟨S18, e19, h⟩ := bv_some h
    refine zg_callV (ci := 4) (As := [.ref (zR S13 a1 4)]) (rest := []) (pc' := 81) zl_Ho_61 zq560 zq561 ⟨_, rfl, rfl⟩ zd_Ho_copy_78 rfl rfl (Nat.le_of_ble_eq_true rfl) (by omega) (gT_ok g17) (tm_Rw_copy (d := 3) (Nat.le_refl _) e19) rfl ?_
    refine zg_st (st' := []) rfl ?_
    refine zg_aload_n (pc' := 82) zd_Ho_copy_81 rfl rfl ?_
    obtain ⟨g20, h⟩ := gd_some h
    refine zg_getR (pc' := 85) zf_Ho_36 rfl zd_Ho_copy_82 (gT_ok g20) rfl ?_
    refine zg_aload_n (pc' := 86) zd_Ho_copy_85 rfl rfl ?_
    obtain ⟨g21, h⟩ := gd_some h
    refine zg_getR (pc' := 89) zf_Ho_36 rfl zd_Ho_copy_86 (gT_ok g21) rfl ?_
    obtain ⟨g22, h⟩ := gd_some h
    obtain ⟨S23, e24, h⟩ := bv_some h
    refine zg_callV (ci := 4) (As := [.ref (zR S18 a1 5)]) (rest := []) (pc' := 92) zl_Ho_61 zq560 zq561 ⟨_, rfl, rfl⟩ zd_Ho_copy_89 rfl rfl (Nat.le_of_ble_eq_true rfl) (by omega) (gT_ok g22) (tm_Rw_copy (d := 3) (Nat.le_refl _) e24) rfl ?_
    refine zg_st (st' := []) rfl ?_
    refine zg_aload_n (pc' := 93) zd_Ho_copy_92 rfl rfl ?_
    refine zg_aload_n (pc' := 94) zd_Ho_copy_93 rfl rfl ?_
    obtain ⟨g25, h⟩ := gd_some h
    refine zg_getI (pc' := 97) zf_Ho_39 zd_Ho_copy_94 (gT_ok g25) rfl ?_
    obtain ⟨g26, h⟩ := gd_some h
    refine zg_putI (pc' := 100) zf_Ho_39 zd_Ho_copy_97 (Or.inl rfl) (gT_ok g26) rfl ?_
    obtain ⟨S27, eS27, h⟩ := nm_some h
    refine zg_nm eS27 ?_
    refine zg_aload_n (pc' := 101) zd_Ho_copy_100 rfl rfl ?_
    refine zg_aload_n (pc' := 102) zd_Ho_copy_101 rfl rfl ?_
    obtain ⟨g28, h⟩ := gd_some h
    refine zg_getI (pc' := 105) zf_Ho_43 zd_Ho_copy_102 (gT_ok g28) rfl ?_
    obtain ⟨g29, h⟩ := gd_some h
    refine zg_putI (pc' := 108) zf_Ho_43 zd_Ho_copy_105 (Or.inl rfl) (gT_ok g29) rfl ?_
    obtain ⟨S30, eS30, h⟩ := nm_some h
    refine zg_nm eS30 ?_
    refine zg_aload_n (pc' := 109) zd_Ho_copy_108 rfl rfl ?_
    refine zg_aload_n (pc' := 110) zd_Ho_copy_109 rfl rfl ?_
    obtain ⟨g31, h⟩ := gd_some h
    refine zg_getR (pc' := 113) zf_Ho_46 rfl zd_Ho_copy_110 (gT_ok g31) rfl ?_
    obtain ⟨g32, h⟩ := gd_some h
    refine zg_putR (pc' := 116) zf_Ho_46 rfl zd_Ho_copy_113 (Or.inl rfl) (gT_ok g32) rfl ?_
    obtain ⟨S33, eS33, h⟩ := nm_some h
    refine zg_nm eS33 ?_
    obtain rfl := rt_v h
    exact zg_vret zd_Ho_copy_116 rfl
  · refine zg_icmp_ge (tgt := 31) (pc' := 10) zd_Ho_copy_7 (by decide) rfl (fun q => absurd q c2) (fun _ => ?_)
    refine zg_aload_n (pc' := 11) zd_Ho_copy_10 rfl rfl ?_
    obtain ⟨g34, h⟩ := gd_some h
    refine zg_getR (pc' := 14) zf_Ho_11 rfl zd_Ho_copy_11 (gT_ok g34) rfl ?_
    refine zg_iload_n (pc' := 15) zd_Ho_copy_14 rfl rfl ?_
    obtain ⟨g35, h⟩ := gd_some h
    obtain ⟨g36, h⟩ := gd_some h
    refine zg_aald (t := 6) (pc' := 16) (by decide) zd_Ho_copy_15 (gT_ok g35) (gB_ok g36) rfl ?_
    refine zg_aload_n (pc' := 17) zd_Ho_copy_16 rfl rfl ?_
    refine zg_getR (pc' := 20) zf_Ho_11 rfl zd_Ho_copy_17 (gT_ok g1) rfl ?_
    refine zg_iload_n (pc' := 21) zd_Ho_copy_20 rfl rfl ?_
    obtain ⟨g37, h⟩ := gd_some h
    obtain ⟨g38, h⟩ := gd_some h
    refine zg_aald (t := 6) (pc' := 22) (by decide) zd_Ho_copy_21 (gT_ok g37) (gB_ok g38) rfl ?_
    obtain ⟨g39, h⟩ := gd_some h
    obtain ⟨S40, e41, h⟩ := bv_some h
    refine zg_callV (ci := 5) (As := [.ref (zR S (zR S a1 0) a2.toNatClampNeg)]) (rest := []) (pc' := 25) zl_Ho_51 zq552 zq553 ⟨_, rfl, rfl⟩ zd_Ho_copy_22 rfl rfl (Nat.le_of_ble_eq_true rfl) (by omega) (gT_ok g39) (tm_Sa_copy (d := 2) (Nat.le_refl _) e41) rfl ?_
    refine zg_st (st' := []) rfl ?_
    refine zg_iinc (y := (a2 + (1 : Int32))) (L' := [some (.ref a0), some (.ref a1), some (.int (a2 + (1 : Int32)))]) (pc' := 28) zd_Ho_copy_25 rfl rfl (by decide) rfl rfl ?_
    refine zg_goto (tgt := 2) zd_Ho_copy_28 (by decide) ?_
    exact hK2 _ _ _ _ h
set_option maxRecDepth 100000 in
def fn_Ho_copy (a0 : Nat) (a1 : Nat) (S : zS) : Option (zS) :=
  lp (σ := Nat × Nat × Int32 × zS) (fun k s => fn_Ho_copy_L2 s.1 s.2.1 s.2.2.1 s.2.2.2 (fun (a0 : Nat) (a1 : Nat) (a2 : Int32) (S : zS) => k (a0, a1, a2, S))) FU (a0, a1, (0 : Int32), S)
set_option maxRecDepth 100000 in
set_option maxHeartbeats 4000000 in
theorem tm_Ho_copy {X : zXt} {d : Nat} (hd : 4 ≤ d) {a0 : Nat} {a1 : Nat} {S : zS} {S' : zS} (h : fn_Ho_copy a0 a1 S = some S') : zM X zy_Ho_copy prog_3_method_2_code 3 (Option.none : Option Jvm.ClassFile.FieldType) d [.ref a0, .ref a1] S none S' := by
  refine zM_of (ini := false) (L := [some (.ref a0), some (.ref a1), none]) (plainFor_of_name (by decide)) (fun h => by cases h) (Nat.le_of_ble_eq_true rfl) rfl ?_
  unfold fn_Ho_copy at h
  refine zg_iconst (x := (0 : Int32)) (pc' := 1) zd_Ho_copy_0 (by decide) rfl ?_
  refine zg_istore_n (L' := [some (.ref a0), some (.ref a1), some (.int (0 : Int32))]) (pc' := 2) zd_Ho_copy_1 (by decide) rfl rfl ?_
  exact lp_indh h (P := fun s => zG X zm_Ho_copy d 2 [some (.ref (s.1)), some (.ref (s.2.1)), some (.int (s.2.2.1))] [] (s.2.2.2) none S') (fun k hk s h => tm_Ho_copy_L2 hd (fun a0 a1 a2 S h => hk (a0, a1, a2, S) h) h)
theorem zd_Ho_has_0 : decode prog_3_method_3_code 0 = .ok (.iload_n 1, 1) := by decide +kernel
theorem zd_Ho_has_1 : decode prog_3_method_3_code 1 = .ok (.ifCond .lt 15, 3) := by decide +kernel
theorem zd_Ho_has_4 : decode prog_3_method_3_code 4 = .ok (.iload_n 1, 1) := by decide +kernel
theorem zd_Ho_has_5 : decode prog_3_method_3_code 5 = .ok (.aload_n 0, 1) := by decide +kernel
theorem zd_Ho_has_6 : decode prog_3_method_3_code 6 = .ok (.getfield 39, 3) := by decide +kernel
theorem zd_Ho_has_9 : decode prog_3_method_3_code 9 = .ok (.if_icmp .ge 7, 3) := by decide +kernel
theorem zd_Ho_has_16 : decode prog_3_method_3_code 16 = .ok (.iconst 0, 1) := by decide +kernel
theorem zd_Ho_has_12 : decode prog_3_method_3_code 12 = .ok (.iconst 1, 1) := by decide +kernel
theorem zd_Ho_has_13 : decode prog_3_method_3_code 13 = .ok (.goto 4, 3) := by decide +kernel
theorem zd_Ho_has_17 : decode prog_3_method_3_code 17 = .ok (.ireturn, 1) := by decide +kernel
abbrev zm_Ho_has : zQ := ("LoofahSaints$House", prog_3_method_3_code, 2, (Option.some Jvm.ClassFile.FieldType.boolean), false)
set_option maxRecDepth 100000 in
def fn_Ho_has (a0 : Nat) (a1 : Int32) (S : zS) : Option (Int32 × zS) :=
  br (decide (a1 < 0)) (some ((0 : Int32), S)) <|
  gd (gT S a0 101) <|
  br (decide ((zI S a0 6) ≤ a1)) (some ((0 : Int32), S)) <|
  some ((1 : Int32), S)
set_option maxRecDepth 100000 in
set_option maxHeartbeats 4000000 in
theorem tm_Ho_has {X : zXt} {d : Nat} (hd : 2 ≤ d) {v : Int32} {a0 : Nat} {a1 : Int32} {S : zS} {S' : zS} (h : fn_Ho_has a0 a1 S = some (v, S')) : zM X zy_Ho_has prog_3_method_3_code 2 (Option.some Jvm.ClassFile.FieldType.boolean) d [.ref a0, .int a1] S (some (.int v)) S' := by
  refine zM_of (ini := false) (L := [some (.ref a0), some (.int a1)]) (plainFor_of_name (by decide)) (fun h => by cases h) (Nat.le_of_ble_eq_true rfl) rfl ?_
  unfold fn_Ho_has at h
  refine zg_iload_n (pc' := 1) zd_Ho_has_0 rfl rfl ?_
  rcases br_some h with ⟨c1, h⟩ | ⟨c1, h⟩
  · refine zg_if_lt (tgt := 16) (pc' := 4) zd_Ho_has_1 (by decide) rfl (fun _ => ?_) (fun q => absurd c1 q)
    refine zg_iconst (x := (0 : Int32)) (pc' := 17) zd_Ho_has_16 (by decide) rfl ?_
    obtain ⟨rfl, rfl⟩ := rt_q h
    exact zg_iret zd_Ho_has_17 (zrt_z (by decide))
  · refine zg_if_lt (tgt := 16) (pc' := 4) zd_Ho_has_1 (by decide) rfl (fun q => absurd q c1) (fun _ => ?_)
    refine zg_iload_n (pc' := 5) zd_Ho_has_4 rfl rfl ?_
    refine zg_aload_n (pc' := 6) zd_Ho_has_5 rfl rfl ?_
    obtain ⟨g2, h⟩ := gd_some h
    refine zg_getI (pc' := 9) zf_Ho_39 zd_Ho_has_6 (gT_ok g2) rfl ?_
    rcases br_some h with ⟨c3, h⟩ | ⟨c3, h⟩
    · refine zg_icmp_ge (tgt := 16) (pc' := 12) zd_Ho_has_9 (by decide) rfl (fun _ => ?_) (fun q => absurd c3 q)
      refine zg_iconst (x := (0 : Int32)) (pc' := 17) zd_Ho_has_16 (by decide) rfl ?_
      obtain ⟨rfl, rfl⟩ := rt_q h
      exact zg_iret zd_Ho_has_17 (zrt_z (by decide))
    · refine zg_icmp_ge (tgt := 16) (pc' := 12) zd_Ho_has_9 (by decide) rfl (fun q => absurd q c3) (fun _ => ?_)
      refine zg_iconst (x := (1 : Int32)) (pc' := 13) zd_Ho_has_12 (by decide) rfl ?_
      refine zg_goto (tgt := 17) zd_Ho_has_13 (by decide) ?_
      obtain ⟨rfl, rfl⟩ := rt_q h
      exact zg_iret zd_Ho_has_17 (zrt_z (by decide))
theorem zd_Ho_takes_0 : decode prog_3_method_4_code 0 = .ok (.aload_n 1, 1) := by decide +kernel
theorem zd_Ho_takes_1 : decode prog_3_method_4_code 1 = .ok (.aload_n 0, 1) := by decide +kernel
theorem zd_Ho_takes_2 : decode prog_3_method_4_code 2 = .ok (.getfield 17, 3) := by decide +kernel
theorem zd_Ho_takes_5 : decode prog_3_method_4_code 5 = .ok (.iload_n 2, 1) := by decide +kernel
theorem zd_Ho_takes_6 : decode prog_3_method_4_code 6 = .ok (.iaload, 1) := by decide +kernel
theorem zd_Ho_takes_7 : decode prog_3_method_4_code 7 = .ok (.aload_n 1, 1) := by decide +kernel
theorem zd_Ho_takes_8 : decode prog_3_method_4_code 8 = .ok (.aload_n 0, 1) := by decide +kernel
theorem zd_Ho_takes_9 : decode prog_3_method_4_code 9 = .ok (.getfield 46, 3) := by decide +kernel
theorem zd_Ho_takes_12 : decode prog_3_method_4_code 12 = .ok (.aload_n 0, 1) := by decide +kernel
theorem zd_Ho_takes_13 : decode prog_3_method_4_code 13 = .ok (.getfield 43, 3) := by decide +kernel
theorem zd_Ho_takes_16 : decode prog_3_method_4_code 16 = .ok (.invokevirtual 64, 3) := by decide +kernel
theorem zd_Ho_takes_19 : decode prog_3_method_4_code 19 = .ok (.invokevirtual 68, 3) := by decide +kernel
theorem zd_Ho_takes_22 : decode prog_3_method_4_code 22 = .ok (.ireturn, 1) := by decide +kernel
abbrev zm_Ho_takes : zQ := ("LoofahSaints$House", prog_3_method_4_code, 3, (Option.some Jvm.ClassFile.FieldType.int), false)
set_option maxRecDepth 100000 in
def fn_Ho_takes (a0 : Nat) (a1 : Nat) (a2 : Int32) (S : zS) : Option (Int32 × zS) :=
  gd (gT S a0 101) <|
  gd (gT S (zR S a0 1) 1) <|
  gd (gB a2 (zT S (zR S a0 1)).2) <|
  gd (gT S a1 105) <|
  bq (fn_Sa_grit a1 (zR S a0 8) (zI S a0 7) S) fun r7 S5 =>
  gd (gT S5 a1 105) <|
  bq (fn_Sa_takes a1 (zI S (zR S a0 1) a2.toNatClampNeg) r7 S5) fun r11 S9 =>
  some (r11, S9)
set_option maxRecDepth 100000 in
set_option maxHeartbeats 4000000 in
theorem tm_Ho_takes {X : zXt} {d : Nat} (hd : 5 ≤ d) {v : Int32} {a0 : Nat} {a1 : Nat} {a2 : Int32} {S : zS} {S' : zS} (h : fn_Ho_takes a0 a1 a2 S = some (v, S')) : zM X zy_Ho_takes prog_3_method_4_code 3 (Option.some Jvm.ClassFile.FieldType.int) d [.ref a0, .ref a1, .int a2] S (some (.int v)) S' := by
  refine zM_of (ini := false) (L := [some (.ref a0), some (.ref a1), some (.int a2)]) (plainFor_of_name (by decide)) (fun h => by cases h) (Nat.le_of_ble_eq_true rfl) rfl ?_
  unfold fn_Ho_takes at h
  refine zg_aload_n (pc' := 1) zd_Ho_takes_0 rfl rfl ?_
  refine zg_aload_n (pc' := 2) zd_Ho_takes_1 rfl rfl ?_
  obtain ⟨g1, h⟩ := gd_some h
  refine zg_getR (pc' := 5) zf_Ho_17 rfl zd_Ho_takes_2 (gT_ok g1) rfl ?_
  refine zg_iload_n (pc' := 6) zd_Ho_takes_5 rfl rfl ?_
  obtain ⟨g2, h⟩ := gd_some h
  obtain ⟨g3, h⟩ := gd_some h
  refine zg_iald (pc' := 7) zd_Ho_takes_6 (gT_ok g2) (gB_ok g3) rfl ?_
  refine zg_aload_n (pc' := 8) zd_Ho_takes_7 rfl rfl ?_
  refine zg_aload_n (pc' := 9) zd_Ho_takes_8 rfl rfl ?_
  refine zg_getR (pc' := 12) zf_Ho_46 rfl zd_Ho_takes_9 (gT_ok g1) rfl ?_
  refine zg_aload_n (pc' := 13) zd_Ho_takes_12 rfl rfl ?_
  refine zg_getI (pc' := 16) zf_Ho_43 zd_Ho_takes_13 (gT_ok g1) rfl ?_
  obtain ⟨g4, h⟩ := gd_some h
  obtain ⟨r7, S5, e6, h⟩ := bq_some h
  refine zg_callV (ci := 5) (As := [.ref (zR S a0 8), .int (zI S a0 7)]) (rest := [.int (zI S (zR S a0 1) a2.toNatClampNeg), .ref a1]) (pc' := 19) zl_Ho_64 zq356 zq357 ⟨_, rfl, rfl⟩ zd_Ho_takes_16 rfl rfl (Nat.le_of_ble_eq_true rfl) (by omega) (gT_ok g4) (tm_Sa_grit (d := 4) (Nat.le_refl _) e6) rfl ?_
  refine zg_st (st' := [.int r7, .int (zI S (zR S a0 1) a2.toNatClampNeg), .ref a1]) rfl ?_
  obtain ⟨g8, h⟩ := gd_some h
  obtain ⟨r11, S9, e10, h⟩ := bq_some h
  refine zg_callV (ci := 5) (As := [.int (zI S (zR S a0 1) a2.toNatClampNeg), .int r7]) (rest := []) (pc' := 22) zl_Ho_68 zq373 zq374 ⟨_, rfl, rfl⟩ zd_Ho_takes_19 rfl rfl (Nat.le_of_ble_eq_true rfl) (by omega) (gT_ok g8) (tm_Sa_takes (d := 3) (Nat.le_refl _) e10) rfl ?_
  refine zg_st (st' := [.int r11]) rfl ?_
  obtain ⟨rfl, rfl⟩ := rt_q h
  exact zg_iret zd_Ho_takes_22 zrt_i
theorem zd_Ho_scrub_0 : decode prog_3_method_5_code 0 = .ok (.aload_n 1, 1) := by decide +kernel
theorem zd_Ho_scrub_1 : decode prog_3_method_5_code 1 = .ok (.aload_n 0, 1) := by decide +kernel
theorem zd_Ho_scrub_2 : decode prog_3_method_5_code 2 = .ok (.getfield 17, 3) := by decide +kernel
theorem zd_Ho_scrub_5 : decode prog_3_method_5_code 5 = .ok (.iload_n 2, 1) := by decide +kernel
theorem zd_Ho_scrub_6 : decode prog_3_method_5_code 6 = .ok (.iaload, 1) := by decide +kernel
theorem zd_Ho_scrub_7 : decode prog_3_method_5_code 7 = .ok (.aload_n 1, 1) := by decide +kernel
theorem zd_Ho_scrub_8 : decode prog_3_method_5_code 8 = .ok (.aload_n 0, 1) := by decide +kernel
theorem zd_Ho_scrub_9 : decode prog_3_method_5_code 9 = .ok (.getfield 46, 3) := by decide +kernel
theorem zd_Ho_scrub_12 : decode prog_3_method_5_code 12 = .ok (.aload_n 0, 1) := by decide +kernel
theorem zd_Ho_scrub_13 : decode prog_3_method_5_code 13 = .ok (.getfield 43, 3) := by decide +kernel
theorem zd_Ho_scrub_16 : decode prog_3_method_5_code 16 = .ok (.invokevirtual 64, 3) := by decide +kernel
theorem zd_Ho_scrub_19 : decode prog_3_method_5_code 19 = .ok (.invokevirtual 68, 3) := by decide +kernel
theorem zd_Ho_scrub_22 : decode prog_3_method_5_code 22 = .ok (.istore_n 3, 1) := by decide +kernel
theorem zd_Ho_scrub_23 : decode prog_3_method_5_code 23 = .ok (.aload_n 0, 1) := by decide +kernel
theorem zd_Ho_scrub_24 : decode prog_3_method_5_code 24 = .ok (.getfield 17, 3) := by decide +kernel
theorem zd_Ho_scrub_27 : decode prog_3_method_5_code 27 = .ok (.iload_n 2, 1) := by decide +kernel
theorem zd_Ho_scrub_28 : decode prog_3_method_5_code 28 = .ok (.dup2, 1) := by decide +kernel
theorem zd_Ho_scrub_29 : decode prog_3_method_5_code 29 = .ok (.iaload, 1) := by decide +kernel
theorem zd_Ho_scrub_30 : decode prog_3_method_5_code 30 = .ok (.iload_n 3, 1) := by decide +kernel
theorem zd_Ho_scrub_31 : decode prog_3_method_5_code 31 = .ok (.iconst (-1), 1) := by decide +kernel
theorem zd_Ho_scrub_32 : decode prog_3_method_5_code 32 = .ok (.ixor, 1) := by decide +kernel
theorem zd_Ho_scrub_33 : decode prog_3_method_5_code 33 = .ok (.iand, 1) := by decide +kernel
theorem zd_Ho_scrub_34 : decode prog_3_method_5_code 34 = .ok (.iastore, 1) := by decide +kernel
theorem zd_Ho_scrub_35 : decode prog_3_method_5_code 35 = .ok (.aload_n 1, 1) := by decide +kernel
theorem zd_Ho_scrub_36 : decode prog_3_method_5_code 36 = .ok (.aload_n 0, 1) := by decide +kernel
theorem zd_Ho_scrub_37 : decode prog_3_method_5_code 37 = .ok (.getfield 46, 3) := by decide +kernel
theorem zd_Ho_scrub_40 : decode prog_3_method_5_code 40 = .ok (.getfield 72, 3) := by decide +kernel
theorem zd_Ho_scrub_43 : decode prog_3_method_5_code 43 = .ok (.invokevirtual 77, 3) := by decide +kernel
theorem zd_Ho_scrub_46 : decode prog_3_method_5_code 46 = .ok (.iload_n 3, 1) := by decide +kernel
theorem zd_Ho_scrub_47 : decode prog_3_method_5_code 47 = .ok (.ireturn, 1) := by decide +kernel
abbrev zm_Ho_scrub : zQ := ("LoofahSaints$House", prog_3_method_5_code, 4, (Option.some Jvm.ClassFile.FieldType.int), false)
set_option maxRecDepth 100000 in
def fn_Ho_scrub (a0 : Nat) (a1 : Nat) (a2 : Int32) (S : zS) : Option (Int32 × zS) :=
  gd (gT S a0 101) <|
  gd (gT S (zR S a0 1) 1) <|
  gd (gB a2 (zT S (zR S a0 1)).2) <|
  gd (gT S a1 105) <|
  bq (fn_Sa_grit a1 (zR S a0 8) (zI S a0 7) S) fun r7 S5 =>
  gd (gT S5 a1 105) <|
  bq (fn_Sa_takes a1 (zI S (zR S a0 1) a2.toNatClampNeg) r7 S5) fun r11 S9 =>
  gd (gT S9 a0 101) <|
  gd (gT S9 (zR S9 a0 1) 1) <|
  gd (gB a2 (zT S9 (zR S9 a0 1)).2) <|
  gd (gP (zR S9 a0 1)) <|
  nm (uI S9 (zR S9 a0 1) a2.toNatClampNeg ((zI S9 (zR S9 a0 1) a2.toNatClampNeg) &&& (r11 ^^^ (-1 : Int32)))) fun S16 =>
  gd (gT S16 a0 101) <|
  gd (gT S16 (zR S16 a0 8) 102) <|
  gd (gT S16 a1 105) <|
  bv (fn_Sa_wearBy a1 (zI S16 (zR S16 a0 8) 3) S16) fun S20 =>
  some (r11, S20)
set_option maxRecDepth 100000 in
set_option maxHeartbeats 4000000 in
theorem tm_Ho_scrub {X : zXt} {d : Nat} (hd : 5 ≤ d) {v : Int32} {a0 : Nat} {a1 : Nat} {a2 : Int32} {S : zS} {S' : zS} (h : fn_Ho_scrub a0 a1 a2 S = some (v, S')) : zM X zy_Ho_scrub prog_3_method_5_code 4 (Option.some Jvm.ClassFile.FieldType.int) d [.ref a0, .ref a1, .int a2] S (some (.int v)) S' := by
  refine zM_of (ini := false) (L := [some (.ref a0), some (.ref a1), some (.int a2), none]) (plainFor_of_name (by decide)) (fun h => by cases h) (Nat.le_of_ble_eq_true rfl) rfl ?_
  unfold fn_Ho_scrub at h
  refine zg_aload_n (pc' := 1) zd_Ho_scrub_0 rfl rfl ?_
  refine zg_aload_n (pc' := 2) zd_Ho_scrub_1 rfl rfl ?_
  obtain ⟨g1, h⟩ := gd_some h
  refine zg_getR (pc' := 5) zf_Ho_17 rfl zd_Ho_scrub_2 (gT_ok g1) rfl ?_
  refine zg_iload_n (pc' := 6) zd_Ho_scrub_5 rfl rfl ?_
  obtain ⟨g2, h⟩ := gd_some h
  obtain ⟨g3, h⟩ := gd_some h
  refine zg_iald (pc' := 7) zd_Ho_scrub_6 (gT_ok g2) (gB_ok g3) rfl ?_
  refine zg_aload_n (pc' := 8) zd_Ho_scrub_7 rfl rfl ?_
  refine zg_aload_n (pc' := 9) zd_Ho_scrub_8 rfl rfl ?_
  refine zg_getR (pc' := 12) zf_Ho_46 rfl zd_Ho_scrub_9 (gT_ok g1) rfl ?_
  refine zg_aload_n (pc' := 13) zd_Ho_scrub_12 rfl rfl ?_
  refine zg_getI (pc' := 16) zf_Ho_43 zd_Ho_scrub_13 (gT_ok g1) rfl ?_
  obtain ⟨g4, h⟩ := gd_some h
  obtain ⟨r7, S5, e6, h⟩ := bq_some h
  refine zg_callV (ci := 5) (As := [.ref (zR S a0 8), .int (zI S a0 7)]) (rest := [.int (zI S (zR S a0 1) a2.toNatClampNeg), .ref a1]) (pc' := 19) zl_Ho_64 zq356 zq357 ⟨_, rfl, rfl⟩ zd_Ho_scrub_16 rfl rfl (Nat.le_of_ble_eq_true rfl) (by omega) (gT_ok g4) (tm_Sa_grit (d := 4) (Nat.le_refl _) e6) rfl ?_
  refine zg_st (st' := [.int r7, .int (zI S (zR S a0 1) a2.toNatClampNeg), .ref a1]) rfl ?_
  obtain ⟨g8, h⟩ := gd_some h
  obtain ⟨r11, S9, e10, h⟩ := bq_some h
  refine zg_callV (ci := 5) (As := [.int (zI S (zR S a0 1) a2.toNatClampNeg), .int r7]) (rest := []) (pc' := 22) zl_Ho_68 zq373 zq374 ⟨_, rfl, rfl⟩ zd_Ho_scrub_19 rfl rfl (Nat.le_of_ble_eq_true rfl) (by omega) (gT_ok g8) (tm_Sa_takes (d := 3) (Nat.le_refl _) e10) rfl ?_
  refine zg_st (st' := [.int r11]) rfl ?_
  refine zg_istore_n (L' := [some (.ref a0), some (.ref a1), some (.int a2), some (.int r11)]) (pc' := 23) zd_Ho_scrub_22 (by decide) rfl rfl ?_
  refine zg_aload_n (pc' := 24) zd_Ho_scrub_23 rfl rfl ?_
  obtain ⟨g12, h⟩ := gd_some h
  refine zg_getR (pc' := 27) zf_Ho_17 rfl zd_Ho_scrub_24 (gT_ok g12) rfl ?_
  refine zg_iload_n (pc' := 28) zd_Ho_scrub_27 rfl rfl ?_
  refine zg_dup2 (pc' := 29) zd_Ho_scrub_28 rfl rfl rfl ?_
  obtain ⟨g13, h⟩ := gd_some h
  obtain ⟨g14, h⟩ := gd_some h
  refine zg_iald (pc' := 30) zd_Ho_scrub_29 (gT_ok g13) (gB_ok g14) rfl ?_
  refine zg_iload_n (pc' := 31) zd_Ho_scrub_30 rfl rfl ?_
  refine zg_iconst (x := (-1 : Int32)) (pc' := 32) zd_Ho_scrub_31 (by decide) rfl ?_
  refine zg_ixor (pc' := 33) zd_Ho_scrub_32 rfl ?_
  refine zg_iand (pc' := 34) zd_Ho_scrub_33 rfl ?_
  obtain ⟨g15, h⟩ := gd_some h
  refine zg_iast (pc' := 35) zd_Ho_scrub_34 (gT_ok g13) (gP_ok g15) (gB_ok g14) rfl ?_
  obtain ⟨S16, eS16, h⟩ := nm_some h
  refine zg_nm eS16 ?_
  refine zg_aload_n (pc' := 36) zd_Ho_scrub_35 rfl rfl ?_
  refine zg_aload_n (pc' := 37) zd_Ho_scrub_36 rfl rfl ?_
  obtain ⟨g17, h⟩ := gd_some h
  refine zg_getR (pc' := 40) zf_Ho_46 rfl zd_Ho_scrub_37 (gT_ok g17) rfl ?_
  obtain ⟨g18, h⟩ := gd_some h
  refine zg_getI (pc' := 43) zf_Ho_72 zd_Ho_scrub_40 (gT_ok g18) rfl ?_
  obtain ⟨g19, h⟩ := gd_some h
  obtain ⟨S20, e21, h⟩ := bv_some h
  refine zg_callV (ci := 5) (As := [.int (zI S16 (zR S16 a0 8) 3)]) (rest := []) (pc' := 46) zl_Ho_77 zq422 zq423 ⟨_, rfl, rfl⟩ zd_Ho_scrub_43 rfl rfl (Nat.le_of_ble_eq_true rfl) (by omega) (gT_ok g19) (tm_Sa_wearBy (d := 4) (Nat.le_refl _) e21) rfl ?_
  refine zg_st (st' := []) rfl ?_
  refine zg_iload_n (pc' := 47) zd_Ho_scrub_46 rfl rfl ?_
  obtain ⟨rfl, rfl⟩ := rt_q h
  exact zg_iret zd_Ho_scrub_47 zrt_i
theorem zd_Ho_goDay_0 : decode prog_3_method_6_code 0 = .ok (.iconst 0, 1) := by decide +kernel
theorem zd_Ho_goDay_1 : decode prog_3_method_6_code 1 = .ok (.istore_n 1, 1) := by decide +kernel
theorem zd_Ho_goDay_2 : decode prog_3_method_6_code 2 = .ok (.iload_n 1, 1) := by decide +kernel
theorem zd_Ho_goDay_3 : decode prog_3_method_6_code 3 = .ok (.aload_n 0, 1) := by decide +kernel
theorem zd_Ho_goDay_4 : decode prog_3_method_6_code 4 = .ok (.getfield 39, 3) := by decide +kernel
theorem zd_Ho_goDay_7 : decode prog_3_method_6_code 7 = .ok (.if_icmp .ge 51, 3) := by decide +kernel
theorem zd_Ho_goDay_58 : decode prog_3_method_6_code 58 = .ok (.iconst 0, 1) := by decide +kernel
theorem zd_Ho_goDay_59 : decode prog_3_method_6_code 59 = .ok (.istore_n 1, 1) := by decide +kernel
theorem zd_Ho_goDay_60 : decode prog_3_method_6_code 60 = .ok (.iload_n 1, 1) := by decide +kernel
theorem zd_Ho_goDay_61 : decode prog_3_method_6_code 61 = .ok (.iconst 4, 1) := by decide +kernel
theorem zd_Ho_goDay_62 : decode prog_3_method_6_code 62 = .ok (.if_icmp .ge 24, 3) := by decide +kernel
theorem zd_Ho_goDay_86 : decode prog_3_method_6_code 86 = .ok (.aload_n 0, 1) := by decide +kernel
theorem zd_Ho_goDay_87 : decode prog_3_method_6_code 87 = .ok (.dup, 1) := by decide +kernel
theorem zd_Ho_goDay_88 : decode prog_3_method_6_code 88 = .ok (.getfield 43, 3) := by decide +kernel
theorem zd_Ho_goDay_91 : decode prog_3_method_6_code 91 = .ok (.iconst 1, 1) := by decide +kernel
theorem zd_Ho_goDay_92 : decode prog_3_method_6_code 92 = .ok (.iadd, 1) := by decide +kernel
theorem zd_Ho_goDay_93 : decode prog_3_method_6_code 93 = .ok (.putfield 43, 3) := by decide +kernel
theorem zd_Ho_goDay_96 : decode prog_3_method_6_code 96 = .ok (.return_, 1) := by decide +kernel
theorem zd_Ho_goDay_65 : decode prog_3_method_6_code 65 = .ok (.aload_n 0, 1) := by decide +kernel
theorem zd_Ho_goDay_66 : decode prog_3_method_6_code 66 = .ok (.getfield 17, 3) := by decide +kernel
theorem zd_Ho_goDay_69 : decode prog_3_method_6_code 69 = .ok (.iload_n 1, 1) := by decide +kernel
theorem zd_Ho_goDay_70 : decode prog_3_method_6_code 70 = .ok (.dup2, 1) := by decide +kernel
theorem zd_Ho_goDay_71 : decode prog_3_method_6_code 71 = .ok (.iaload, 1) := by decide +kernel
theorem zd_Ho_goDay_72 : decode prog_3_method_6_code 72 = .ok (.aload_n 0, 1) := by decide +kernel
theorem zd_Ho_goDay_73 : decode prog_3_method_6_code 73 = .ok (.getfield 21, 3) := by decide +kernel
theorem zd_Ho_goDay_76 : decode prog_3_method_6_code 76 = .ok (.iload_n 1, 1) := by decide +kernel
theorem zd_Ho_goDay_77 : decode prog_3_method_6_code 77 = .ok (.iaload, 1) := by decide +kernel
theorem zd_Ho_goDay_78 : decode prog_3_method_6_code 78 = .ok (.ior, 1) := by decide +kernel
theorem zd_Ho_goDay_79 : decode prog_3_method_6_code 79 = .ok (.iastore, 1) := by decide +kernel
theorem zd_Ho_goDay_80 : decode prog_3_method_6_code 80 = .ok (.iinc 1 1, 3) := by decide +kernel
theorem zd_Ho_goDay_83 : decode prog_3_method_6_code 83 = .ok (.goto (-23), 3) := by decide +kernel
theorem zd_Ho_goDay_10 : decode prog_3_method_6_code 10 = .ok (.aload_n 0, 1) := by decide +kernel
theorem zd_Ho_goDay_11 : decode prog_3_method_6_code 11 = .ok (.getfield 11, 3) := by decide +kernel
theorem zd_Ho_goDay_14 : decode prog_3_method_6_code 14 = .ok (.iload_n 1, 1) := by decide +kernel
theorem zd_Ho_goDay_15 : decode prog_3_method_6_code 15 = .ok (.aaload, 1) := by decide +kernel
theorem zd_Ho_goDay_16 : decode prog_3_method_6_code 16 = .ok (.astore_n 2, 1) := by decide +kernel
theorem zd_Ho_goDay_17 : decode prog_3_method_6_code 17 = .ok (.aload_n 2, 1) := by decide +kernel
theorem zd_Ho_goDay_18 : decode prog_3_method_6_code 18 = .ok (.getfield 80, 3) := by decide +kernel
theorem zd_Ho_goDay_21 : decode prog_3_method_6_code 21 = .ok (.invokestatic 83, 3) := by decide +kernel
theorem zd_Ho_goDay_24 : decode prog_3_method_6_code 24 = .ok (.ifCond .eq 23, 3) := by decide +kernel
theorem zd_Ho_goDay_27 : decode prog_3_method_6_code 27 = .ok (.aload_n 2, 1) := by decide +kernel
theorem zd_Ho_goDay_28 : decode prog_3_method_6_code 28 = .ok (.invokevirtual 87, 3) := by decide +kernel
theorem zd_Ho_goDay_31 : decode prog_3_method_6_code 31 = .ok (.ifCond .ne 16, 3) := by decide +kernel
theorem zd_Ho_goDay_47 : decode prog_3_method_6_code 47 = .ok (.aload_n 2, 1) := by decide +kernel
theorem zd_Ho_goDay_48 : decode prog_3_method_6_code 48 = .ok (.iconst 0, 1) := by decide +kernel
theorem zd_Ho_goDay_49 : decode prog_3_method_6_code 49 = .ok (.putfield 95, 3) := by decide +kernel
theorem zd_Ho_goDay_34 : decode prog_3_method_6_code 34 = .ok (.aload_n 0, 1) := by decide +kernel
theorem zd_Ho_goDay_35 : decode prog_3_method_6_code 35 = .ok (.aload_n 2, 1) := by decide +kernel
theorem zd_Ho_goDay_36 : decode prog_3_method_6_code 36 = .ok (.aload_n 2, 1) := by decide +kernel
theorem zd_Ho_goDay_37 : decode prog_3_method_6_code 37 = .ok (.getfield 80, 3) := by decide +kernel
theorem zd_Ho_goDay_40 : decode prog_3_method_6_code 40 = .ok (.invokevirtual 91, 3) := by decide +kernel
theorem zd_Ho_goDay_43 : decode prog_3_method_6_code 43 = .ok (.pop, 1) := by decide +kernel
theorem zd_Ho_goDay_44 : decode prog_3_method_6_code 44 = .ok (.goto 8, 3) := by decide +kernel
theorem zd_Ho_goDay_52 : decode prog_3_method_6_code 52 = .ok (.iinc 1 1, 3) := by decide +kernel
theorem zd_Ho_goDay_55 : decode prog_3_method_6_code 55 = .ok (.goto (-53), 3) := by decide +kernel
abbrev zm_Ho_goDay : zQ := ("LoofahSaints$House", prog_3_method_6_code, 3, (Option.none : Option Jvm.ClassFile.FieldType), false)
set_option maxRecDepth 100000 in
def fn_Ho_goDay_L60 (a0 : Nat) (a1 : Int32) (S : zS) (K60 : Nat → Int32 → zS → Option (zS)) : Option (zS) :=
  br (decide ((4 : Int32) ≤ a1)) (gd (gT S a0 101) <|
  nm (uI S a0 7 ((zI S a0 7) + (1 : Int32))) fun S3 =>
  some S3) <|
  gd (gT S a0 101) <|
  gd (gT S (zR S a0 1) 1) <|
  gd (gB a1 (zT S (zR S a0 1)).2) <|
  gd (gT S (zR S a0 2) 1) <|
  gd (gB a1 (zT S (zR S a0 2)).2) <|
  gd (gP (zR S a0 1)) <|
  nm (uI S (zR S a0 1) a1.toNatClampNeg ((zI S (zR S a0 1) a1.toNatClampNeg) ||| (zI S (zR S a0 2) a1.toNatClampNeg))) fun S10 =>
  K60 a0 (a1 + (1 : Int32)) S10
set_option maxRecDepth 100000 in
set_option maxHeartbeats 4000000 in
theorem tm_Ho_goDay_L60 {X : zXt} {d : Nat} (hd : 6 ≤ d) {S' : zS}  {K60 : Nat → Int32 → zS → Option (zS)} (hK60 : ∀ (a0 : Nat) (a1 : Int32) (S : zS), K60 a0 a1 S = some S' → zG X zm_Ho_goDay d 60 [some (.ref a0), some (.int a1), none] [] S none S') {a0 : Nat} {a1 : Int32} {S : zS} (h : fn_Ho_goDay_L60 a0 a1 S K60 = some S') : zG X zm_Ho_goDay d 60 [some (.ref a0), some (.int a1), none] [] S none S' := by
  unfold fn_Ho_goDay_L60 at h
  refine zg_iload_n (pc' := 61) zd_Ho_goDay_60 rfl rfl ?_
  refine zg_iconst (x := (4 : Int32)) (pc' := 62) zd_Ho_goDay_61 (by decide) rfl ?_
  rcases br_some h with ⟨c1, h⟩ | ⟨c1, h⟩
  · refine zg_icmp_ge (tgt := 86) (pc' := 65) zd_Ho_goDay_62 (by decide) rfl (fun _ => ?_) (fun q => absurd c1 q)
    refine zg_aload_n (pc' := 87) zd_Ho_goDay_86 rfl rfl ?_
    refine zg_dup (pc' := 88) zd_Ho_goDay_87 rfl rfl ?_
    obtain ⟨g2, h⟩ := gd_some h
    refine zg_getI (pc' := 91) zf_Ho_43 zd_Ho_goDay_88 (gT_ok g2) rfl ?_
    refine zg_iconst (x := (1 : Int32)) (pc' := 92) zd_Ho_goDay_91 (by decide) rfl ?_
    refine zg_iadd (pc' := 93) zd_Ho_goDay_92 rfl ?_
    refine zg_putI (pc' := 96) zf_Ho_43 zd_Ho_goDay_93 (Or.inl rfl) (gT_ok g2) rfl ?_
    obtain ⟨S3, eS3, h⟩ := nm_some h
    refine zg_nm eS3 ?_
    obtain rfl := rt_v h
    exact zg_vret zd_Ho_goDay_96 rfl
  · refine zg_icmp_ge (tgt := 86) (pc' := 65) zd_Ho_goDay_62 (by decide) rfl (fun q => absurd q c1) (fun _ => ?_)
    refine zg_aload_n (pc' := 66) zd_Ho_goDay_65 rfl rfl ?_
    obtain ⟨g4, h⟩ := gd_some h
    refine zg_getR (pc' := 69) zf_Ho_17 rfl zd_Ho_goDay_66 (gT_ok g4) rfl ?_
    refine zg_iload_n (pc' := 70) zd_Ho_goDay_69 rfl rfl ?_
    refine zg_dup2 (pc' := 71) zd_Ho_goDay_70 rfl rfl rfl ?_
    obtain ⟨g5, h⟩ := gd_some h
    obtain ⟨g6, h⟩ := gd_some h
    refine zg_iald (pc' := 72) zd_Ho_goDay_71 (gT_ok g5) (gB_ok g6) rfl ?_
    refine zg_aload_n (pc' := 73) zd_Ho_goDay_72 rfl rfl ?_
    refine zg_getR (pc' := 76) zf_Ho_21 rfl zd_Ho_goDay_73 (gT_ok g4) rfl ?_
    refine zg_iload_n (pc' := 77) zd_Ho_goDay_76 rfl rfl ?_
    obtain ⟨g7, h⟩ := gd_some h
    obtain ⟨g8, h⟩ := gd_some h
    refine zg_iald (pc' := 78) zd_Ho_goDay_77 (gT_ok g7) (gB_ok g8) rfl ?_
    refine zg_ior (pc' := 79) zd_Ho_goDay_78 rfl ?_
    obtain ⟨g9, h⟩ := gd_some h
    refine zg_iast (pc' := 80) zd_Ho_goDay_79 (gT_ok g5) (gP_ok g9) (gB_ok g6) rfl ?_
    obtain ⟨S10, eS10, h⟩ := nm_some h
    refine zg_nm eS10 ?_
    refine zg_iinc (y := (a1 + (1 : Int32))) (L' := [some (.ref a0), some (.int (a1 + (1 : Int32))), none]) (pc' := 83) zd_Ho_goDay_80 rfl rfl (by decide) rfl rfl ?_
    refine zg_goto (tgt := 60) zd_Ho_goDay_83 (by decide) ?_
    exact hK60 _ _ _ h
set_option maxRecDepth 100000 in
def fn_Ho_goDay_L2 (a0 : Nat) (a1 : Int32) (S : zS) (K2 : Nat → Int32 → zS → Option (zS)) : Option (zS) :=
  gd (gT S a0 101) <|
  br (decide ((zI S a0 6) ≤ a1)) (lp (σ := Nat × Int32 × zS) (fun k s => fn_Ho_goDay_L60 s.1 s.2.1 s.2.2 (fun (a0 : Nat) (a1 : Int32) (S : zS) => k (a0, a1, S))) FU (a0, (0 : Int32), S)) <|
  gd (gT S (zR S a0 0) 6) <|
  gd (gB a1 (zT S (zR S a0 0)).2) <|
  gd (gT S (zR S (zR S a0 0) a1.toNatClampNeg) 105) <|
  bq (fn_Ls_isNovice (zI S (zR S (zR S a0 0) a1.toNatClampNeg) 6) S) fun r8 S6 =>
  br (decide (r8 = 0)) (gd (gT S6 (zR S (zR S a0 0) a1.toNatClampNeg) 105) <|
  nm (uI S6 (zR S (zR S a0 0) a1.toNatClampNeg) 7 (0 : Int32)) fun S11 =>
  K2 a0 (a1 + (1 : Int32)) S11) <|
  gd (gT S6 (zR S (zR S a0 0) a1.toNatClampNeg) 105) <|
  bq (fn_Sa_isThread (zR S (zR S a0 0) a1.toNatClampNeg) S6) fun r15 S13 =>
  br (decide (r15 = 0)) (gd (gT S13 (zR S (zR S a0 0) a1.toNatClampNeg) 105) <|
  gd (gT S13 a0 101) <|
  bq (fn_Ho_scrub a0 (zR S (zR S a0 0) a1.toNatClampNeg) (zI S13 (zR S (zR S a0 0) a1.toNatClampNeg) 6) S13) fun r23 S21 =>
  K2 a0 (a1 + (1 : Int32)) S21) <|
  gd (gT S13 (zR S (zR S a0 0) a1.toNatClampNeg) 105) <|
  nm (uI S13 (zR S (zR S a0 0) a1.toNatClampNeg) 7 (0 : Int32)) fun S18 =>
  K2 a0 (a1 + (1 : Int32)) S18
set_option maxRecDepth 100000 in
set_option maxHeartbeats 4000000 in
theorem tm_Ho_goDay_L2 {X : zXt} {d : Nat} (hd : 6 ≤ d) {S' : zS}  {K2 : Nat → Int32 → zS → Option (zS)} (hK2 : ∀ (a0 : Nat) (a1 : Int32) (S : zS), K2 a0 a1 S = some S' → zG X zm_Ho_goDay d 2 [some (.ref a0), some (.int a1), none] [] S none S') {a0 : Nat} {a1 : Int32} {S : zS} (h : fn_Ho_goDay_L2 a0 a1 S K2 = some S') : zG X zm_Ho_goDay d 2 [some (.ref a0), some (.int a1), none] [] S none S' := by
  unfold fn_Ho_goDay_L2 at h
  refine zg_iload_n (pc' := 3) zd_Ho_goDay_2 rfl rfl ?_
  refine zg_aload_n (pc' := 4) zd_Ho_goDay_3 rfl rfl ?_
  obtain ⟨g1, h⟩ := gd_some h
  refine zg_getI (pc' := 7) zf_Ho_39 zd_Ho_goDay_4 (gT_ok g1) rfl ?_
  rcases br_some h with ⟨c2, h⟩ | ⟨c2, h⟩
  · refine zg_icmp_ge (tgt := 58) (pc' := 10) zd_Ho_goDay_7 (by decide) rfl (fun _ => ?_) (fun q => absurd c2 q)
    refine zg_iconst (x := (0 : Int32)) (pc' := 59) zd_Ho_goDay_58 (by decide) rfl ?_
    refine zg_istore_n (L' := [some (.ref a0), some (.int (0 : Int32)), none]) (pc' := 60) zd_Ho_goDay_59 (by decide) rfl rfl ?_
    exact lp_indh h (P := fun s => zG X zm_Ho_goDay d 60 [some (.ref (s.1)), some (.int (s.2.1)), none] [] (s.2.2) none S') (fun k hk s h => tm_Ho_goDay_L60 hd (fun a0 a1 S h => hk (a0, a1, S) h) h)
  · refine zg_icmp_ge (tgt := 58) (pc' := 10) zd_Ho_goDay_7 (by decide) rfl (fun q => absurd q c2) (fun _ => ?_)
    refine zg_aload_n (pc' := 11) zd_Ho_goDay_10 rfl rfl ?_
    refine zg_getR (pc' := 14) zf_Ho_11 rfl zd_Ho_goDay_11 (gT_ok g1) rfl ?_
    refine zg_iload_n (pc' := 15) zd_Ho_goDay_14 rfl rfl ?_
    obtain ⟨g3, h⟩ := gd_some h
    obtain ⟨g4, h⟩ := gd_some h
    refine zg_aald (t := 6) (pc' := 16) (by decide) zd_Ho_goDay_15 (gT_ok g3) (gB_ok g4) rfl ?_
    refine zg_astore_n (L' := [some (.ref a0), some (.int a1), some (.ref (zR S (zR S a0 0) a1.toNatClampNeg))]) (pc' := 17) zd_Ho_goDay_16 (by decide) rfl rfl ?_
    refine zg_aload_n (pc' := 18) zd_Ho_goDay_17 rfl rfl ?_
    obtain ⟨g5, h⟩ := gd_some h
    refine zg_getI (pc' := 21) zf_Ho_80 zd_Ho_goDay_18 (gT_ok g5) rfl ?_
    obtain ⟨r8, S6, e7, h⟩ := bq_some h
    refine zg_callSN (As := [.int (zI S (zR S (zR S a0 0) a1.toNatClampNeg) 6)]) (rest := []) (pc' := 24) zl_Ho_83 zq349 zd_Ho_goDay_21 rfl rfl (Nat.le_of_ble_eq_true rfl) (by omega) (tm_Ls_isNovice (d := 2) (Nat.le_refl _) e7) rfl ?_
    refine zg_st (st' := [.int r8]) rfl ?_
    rcases br_some h with ⟨c9, h⟩ | ⟨c9, h⟩
    · refine zg_if_eq (tgt := 47) (pc' := 27) zd_Ho_goDay_24 (by decide) rfl (fun _ => ?_) (fun q => absurd c9 q)
      refine zg_aload_n (pc' := 48) zd_Ho_goDay_47 rfl rfl ?_
      refine zg_iconst (x := (0 : Int32)) (pc' := 49) zd_Ho_goDay_48 (by decide) rfl ?_
      obtain ⟨g10, h⟩ := gd_some h
      refine zg_putZ (pc' := 52) zf_Ho_95 zd_Ho_goDay_49 (Or.inl rfl) (gT_ok g10) (by decide) rfl ?_
      obtain ⟨S11, eS11, h⟩ := nm_some h
      refine zg_nm eS11 ?_
      refine zg_iinc (y := (a1 + (1 : Int32))) (L' := [some (.ref a0), some (.int (a1 + (1 : Int32))), some (.ref (zR S (zR S a0 0) a1.toNatClampNeg))]) (pc' := 55) zd_Ho_goDay_52 rfl rfl (by decide) rfl rfl ?_
      refine zg_goto (tgt := 2) zd_Ho_goDay_55 (by decide) ?_
      refine zg_mask (L' := [some (.ref a0), some (.int (a1 + (1 : Int32))), none]) (zmk_ok _ _ ⟨rfl, ⟨rfl, trivial⟩⟩) ?_
      exact hK2 _ _ _ h
    · refine zg_if_eq (tgt := 47) (pc' := 27) zd_Ho_goDay_24 (by decide) rfl (fun q => absurd q c9) (fun _ => ?_)
      refine zg_aload_n (pc' := 28) zd_Ho_goDay_27 rfl rfl ?_
      obtain ⟨g12, h⟩ := gd_some h
      obtain ⟨r15, S13, e14, h⟩ := bq_some h
      refine zg_callV (ci := 5) (As := []) (rest := []) (pc' := 31) zl_Ho_87 zq377 zq378 ⟨_, rfl, rfl⟩ zd_Ho_goDay_28 rfl rfl (Nat.le_of_ble_eq_true rfl) (by omega) (gT_ok g12) (tm_Sa_isThread (d := 2) (Nat.le_refl _) e14) rfl ?_
      refine zg_st (st' := [.int r15]) rfl ?_
      rcases br_some h with ⟨c16, h⟩ | ⟨c16, h⟩
      · refine zg_if_ne (tgt := 47) (pc' := 34) zd_Ho_goDay_31 (by decide) rfl (fun q => absurd c16 q) (fun _ => ?_)
        refine zg_aload_n (pc' := 35) zd_Ho_goDay_34 rfl rfl ?_
        refine zg_aload_n (pc' := 36) zd_Ho_goDay_35 rfl rfl ?_
        refine zg_aload_n (pc' := 37) zd_Ho_goDay_36 rfl rfl ?_
        obtain ⟨g19, h⟩ := gd_some h
        refine zg_getI (pc' := 40) zf_Ho_80 zd_Ho_goDay_37 (gT_ok g19) rfl ?_
        obtain ⟨g20, h⟩ := gd_some h
        obtain ⟨r23, S21, e22, h⟩ := bq_some h
        refine zg_callV (ci := 1) (As := [.ref (zR S (zR S a0 0) a1.toNatClampNeg), .int (zI S13 (zR S (zR S a0 0) a1.toNatClampNeg) 6)]) (rest := []) (pc' := 43) zl_Ho_91 zq418 zq419 ⟨_, rfl, rfl⟩ zd_Ho_goDay_40 rfl rfl (Nat.le_of_ble_eq_true rfl) (by omega) (gT_ok g20) (tm_Ho_scrub (d := 5) (Nat.le_refl _) e22) rfl ?_
        refine zg_st (st' := [.int r23]) rfl ?_
        refine zg_pop (pc' := 44) zd_Ho_goDay_43 rfl rfl ?_
        refine zg_goto (tgt := 52) zd_Ho_goDay_44 (by decide) ?_
        refine zg_iinc (y := (a1 + (1 : Int32))) (L' := [some (.ref a0), some (.int (a1 + (1 : Int32))), some (.ref (zR S (zR S a0 0) a1.toNatClampNeg))]) (pc' := 55) zd_Ho_goDay_52 rfl rfl (by decide) rfl rfl ?_
        refine zg_goto (tgt := 2) zd_Ho_goDay_55 (by decide) ?_
        refine zg_mask (L' := [some (.ref a0), some (.int (a1 + (1 : Int32))), none]) (zmk_ok _ _ ⟨rfl, ⟨rfl, trivial⟩⟩) ?_
        exact hK2 _ _ _ h
      · refine zg_if_ne (tgt := 47) (pc' := 34) zd_Ho_goDay_31 (by decide) rfl (fun _ => ?_) (fun q => absurd q c16)
        refine zg_aload_n (pc' := 48) zd_Ho_goDay_47 rfl rfl ?_
        refine zg_iconst (x := (0 : Int32)) (pc' := 49) zd_Ho_goDay_48 (by decide) rfl ?_
        obtain ⟨g17, h⟩ := gd_some h
        refine zg_putZ (pc' := 52) zf_Ho_95 zd_Ho_goDay_49 (Or.inl rfl) (gT_ok g17) (by decide) rfl ?_
        obtain ⟨S18, eS18, h⟩ := nm_some h
        refine zg_nm eS18 ?_
        refine zg_iinc (y := (a1 + (1 : Int32))) (L' := [some (.ref a0), some (.int (a1 + (1 : Int32))), some (.ref (zR S (zR S a0 0) a1.toNatClampNeg))]) (pc' := 55) zd_Ho_goDay_52 rfl rfl (by decide) rfl rfl ?_
        refine zg_goto (tgt := 2) zd_Ho_goDay_55 (by decide) ?_
        refine zg_mask (L' := [some (.ref a0), some (.int (a1 + (1 : Int32))), none]) (zmk_ok _ _ ⟨rfl, ⟨rfl, trivial⟩⟩) ?_
        exact hK2 _ _ _ h
set_option maxRecDepth 100000 in
def fn_Ho_goDay (a0 : Nat) (S : zS) : Option (zS) :=
  lp (σ := Nat × Int32 × zS) (fun k s => fn_Ho_goDay_L2 s.1 s.2.1 s.2.2 (fun (a0 : Nat) (a1 : Int32) (S : zS) => k (a0, a1, S))) FU (a0, (0 : Int32), S)
set_option maxRecDepth 100000 in
set_option maxHeartbeats 4000000 in
theorem tm_Ho_goDay {X : zXt} {d : Nat} (hd : 6 ≤ d) {a0 : Nat} {S : zS} {S' : zS} (h : fn_Ho_goDay a0 S = some S') : zM X zy_Ho_goDay prog_3_method_6_code 3 (Option.none : Option Jvm.ClassFile.FieldType) d [.ref a0] S none S' := by
  refine zM_of (ini := false) (L := [some (.ref a0), none, none]) (plainFor_of_name (by decide)) (fun h => by cases h) (Nat.le_of_ble_eq_true rfl) rfl ?_
  unfold fn_Ho_goDay at h
  refine zg_iconst (x := (0 : Int32)) (pc' := 1) zd_Ho_goDay_0 (by decide) rfl ?_
  refine zg_istore_n (L' := [some (.ref a0), some (.int (0 : Int32)), none]) (pc' := 2) zd_Ho_goDay_1 (by decide) rfl rfl ?_
  exact lp_indh h (P := fun s => zG X zm_Ho_goDay d 2 [some (.ref (s.1)), some (.int (s.2.1)), none] [] (s.2.2) none S') (fun k hk s h => tm_Ho_goDay_L2 hd (fun a0 a1 S h => hk (a0, a1, S) h) h)
theorem zd_Ho_goDays_0 : decode prog_3_method_7_code 0 = .ok (.iconst 0, 1) := by decide +kernel
theorem zd_Ho_goDays_1 : decode prog_3_method_7_code 1 = .ok (.istore_n 2, 1) := by decide +kernel
theorem zd_Ho_goDays_2 : decode prog_3_method_7_code 2 = .ok (.iload_n 2, 1) := by decide +kernel
theorem zd_Ho_goDays_3 : decode prog_3_method_7_code 3 = .ok (.iload_n 1, 1) := by decide +kernel
theorem zd_Ho_goDays_4 : decode prog_3_method_7_code 4 = .ok (.if_icmp .ge 13, 3) := by decide +kernel
theorem zd_Ho_goDays_17 : decode prog_3_method_7_code 17 = .ok (.return_, 1) := by decide +kernel
theorem zd_Ho_goDays_7 : decode prog_3_method_7_code 7 = .ok (.aload_n 0, 1) := by decide +kernel
theorem zd_Ho_goDays_8 : decode prog_3_method_7_code 8 = .ok (.invokevirtual 99, 3) := by decide +kernel
theorem zd_Ho_goDays_11 : decode prog_3_method_7_code 11 = .ok (.iinc 2 1, 3) := by decide +kernel
theorem zd_Ho_goDays_14 : decode prog_3_method_7_code 14 = .ok (.goto (-12), 3) := by decide +kernel
abbrev zm_Ho_goDays : zQ := ("LoofahSaints$House", prog_3_method_7_code, 3, (Option.none : Option Jvm.ClassFile.FieldType), false)
set_option maxRecDepth 100000 in
def fn_Ho_goDays_L2 (a0 : Nat) (a1 : Int32) (a2 : Int32) (S : zS) (K2 : Nat → Int32 → Int32 → zS → Option (zS)) : Option (zS) :=
  br (decide (a1 ≤ a2)) (some S) <|
  gd (gT S a0 101) <|
  bv (fn_Ho_goDay a0 S) fun S3 =>
  K2 a0 a1 (a2 + (1 : Int32)) S3
set_option maxRecDepth 100000 in
set_option maxHeartbeats 4000000 in
theorem tm_Ho_goDays_L2 {X : zXt} {d : Nat} (hd : 7 ≤ d) {S' : zS}  {K2 : Nat → Int32 → Int32 → zS → Option (zS)} (hK2 : ∀ (a0 : Nat) (a1 : Int32) (a2 : Int32) (S : zS), K2 a0 a1 a2 S = some S' → zG X zm_Ho_goDays d 2 [some (.ref a0), some (.int a1), some (.int a2)] [] S none S') {a0 : Nat} {a1 : Int32} {a2 : Int32} {S : zS} (h : fn_Ho_goDays_L2 a0 a1 a2 S K2 = some S') : zG X zm_Ho_goDays d 2 [some (.ref a0), some (.int a1), some (.int a2)] [] S none S' := by
  unfold fn_Ho_goDays_L2 at h
  refine zg_iload_n (pc' := 3) zd_Ho_goDays_2 rfl rfl ?_
  refine zg_iload_n (pc' := 4) zd_Ho_goDays_3 rfl rfl ?_
  rcases br_some h with ⟨c1, h⟩ | ⟨c1, h⟩
  · refine zg_icmp_ge (tgt := 17) (pc' := 7) zd_Ho_goDays_4 (by decide) rfl (fun _ => ?_) (fun q => absurd c1 q)
    obtain rfl := rt_v h
    exact zg_vret zd_Ho_goDays_17 rfl
  · refine zg_icmp_ge (tgt := 17) (pc' := 7) zd_Ho_goDays_4 (by decide) rfl (fun q => absurd q c1) (fun _ => ?_)
    refine zg_aload_n (pc' := 8) zd_Ho_goDays_7 rfl rfl ?_
    obtain ⟨g2, h⟩ := gd_some h
    obtain ⟨S3, e4, h⟩ := bv_some h
    refine zg_callV (ci := 1) (As := []) (rest := []) (pc' := 11) zl_Ho_99 zq566 zq567 ⟨_, rfl, rfl⟩ zd_Ho_goDays_8 rfl rfl (Nat.le_of_ble_eq_true rfl) (by omega) (gT_ok g2) (tm_Ho_goDay (d := 6) (Nat.le_refl _) e4) rfl ?_
    refine zg_st (st' := []) rfl ?_
    refine zg_iinc (y := (a2 + (1 : Int32))) (L' := [some (.ref a0), some (.int a1), some (.int (a2 + (1 : Int32)))]) (pc' := 14) zd_Ho_goDays_11 rfl rfl (by decide) rfl rfl ?_
    refine zg_goto (tgt := 2) zd_Ho_goDays_14 (by decide) ?_
    exact hK2 _ _ _ _ h
set_option maxRecDepth 100000 in
def fn_Ho_goDays (a0 : Nat) (a1 : Int32) (S : zS) : Option (zS) :=
  lp (σ := Nat × Int32 × Int32 × zS) (fun k s => fn_Ho_goDays_L2 s.1 s.2.1 s.2.2.1 s.2.2.2 (fun (a0 : Nat) (a1 : Int32) (a2 : Int32) (S : zS) => k (a0, a1, a2, S))) FU (a0, a1, (0 : Int32), S)
set_option maxRecDepth 100000 in
set_option maxHeartbeats 4000000 in
theorem tm_Ho_goDays {X : zXt} {d : Nat} (hd : 7 ≤ d) {a0 : Nat} {a1 : Int32} {S : zS} {S' : zS} (h : fn_Ho_goDays a0 a1 S = some S') : zM X zy_Ho_goDays prog_3_method_7_code 3 (Option.none : Option Jvm.ClassFile.FieldType) d [.ref a0, .int a1] S none S' := by
  refine zM_of (ini := false) (L := [some (.ref a0), some (.int a1), none]) (plainFor_of_name (by decide)) (fun h => by cases h) (Nat.le_of_ble_eq_true rfl) rfl ?_
  unfold fn_Ho_goDays at h
  refine zg_iconst (x := (0 : Int32)) (pc' := 1) zd_Ho_goDays_0 (by decide) rfl ?_
  refine zg_istore_n (L' := [some (.ref a0), some (.int a1), some (.int (0 : Int32))]) (pc' := 2) zd_Ho_goDays_1 (by decide) rfl rfl ?_
  exact lp_indh h (P := fun s => zG X zm_Ho_goDays d 2 [some (.ref (s.1)), some (.int (s.2.1)), some (.int (s.2.2.1))] [] (s.2.2.2) none S') (fun k hk s h => tm_Ho_goDays_L2 hd (fun a0 a1 a2 S h => hk (a0, a1, a2, S) h) h)
theorem zd_Ho_follow_0 : decode prog_3_method_8_code 0 = .ok (.iload_n 1, 1) := by decide +kernel
theorem zd_Ho_follow_1 : decode prog_3_method_8_code 1 = .ok (.ifCond .ne 8, 3) := by decide +kernel
theorem zd_Ho_follow_9 : decode prog_3_method_8_code 9 = .ok (.iload_n 1, 1) := by decide +kernel
theorem zd_Ho_follow_10 : decode prog_3_method_8_code 10 = .ok (.iconst 1, 1) := by decide +kernel
theorem zd_Ho_follow_11 : decode prog_3_method_8_code 11 = .ok (.if_icmp .ne 10, 3) := by decide +kernel
theorem zd_Ho_follow_21 : decode prog_3_method_8_code 21 = .ok (.iload_n 2, 1) := by decide +kernel
theorem zd_Ho_follow_14 : decode prog_3_method_8_code 14 = .ok (.iload_n 2, 1) := by decide +kernel
theorem zd_Ho_follow_15 : decode prog_3_method_8_code 15 = .ok (.bipush 10, 2) := by decide +kernel
theorem zd_Ho_follow_17 : decode prog_3_method_8_code 17 = .ok (.idiv, 1) := by decide +kernel
theorem zd_Ho_follow_18 : decode prog_3_method_8_code 18 = .ok (.goto 4, 3) := by decide +kernel
theorem zd_Ho_follow_22 : decode prog_3_method_8_code 22 = .ok (.istore_n 3, 1) := by decide +kernel
theorem zd_Ho_follow_23 : decode prog_3_method_8_code 23 = .ok (.aload_n 0, 1) := by decide +kernel
theorem zd_Ho_follow_24 : decode prog_3_method_8_code 24 = .ok (.iload_n 3, 1) := by decide +kernel
theorem zd_Ho_follow_25 : decode prog_3_method_8_code 25 = .ok (.invokevirtual 102, 3) := by decide +kernel
theorem zd_Ho_follow_28 : decode prog_3_method_8_code 28 = .ok (.ifCond .ne 4, 3) := by decide +kernel
theorem zd_Ho_follow_32 : decode prog_3_method_8_code 32 = .ok (.aload_n 0, 1) := by decide +kernel
theorem zd_Ho_follow_33 : decode prog_3_method_8_code 33 = .ok (.getfield 11, 3) := by decide +kernel
theorem zd_Ho_follow_36 : decode prog_3_method_8_code 36 = .ok (.iload_n 3, 1) := by decide +kernel
theorem zd_Ho_follow_37 : decode prog_3_method_8_code 37 = .ok (.aaload, 1) := by decide +kernel
theorem zd_Ho_follow_38 : decode prog_3_method_8_code 38 = .ok (.astore 4, 2) := by decide +kernel
theorem zd_Ho_follow_40 : decode prog_3_method_8_code 40 = .ok (.iload_n 1, 1) := by decide +kernel
theorem zd_Ho_follow_41 : decode prog_3_method_8_code 41 = .ok (.iconst 2, 1) := by decide +kernel
theorem zd_Ho_follow_42 : decode prog_3_method_8_code 42 = .ok (.if_icmp .ne 12, 3) := by decide +kernel
theorem zd_Ho_follow_54 : decode prog_3_method_8_code 54 = .ok (.iload_n 1, 1) := by decide +kernel
theorem zd_Ho_follow_55 : decode prog_3_method_8_code 55 = .ok (.iconst 3, 1) := by decide +kernel
theorem zd_Ho_follow_56 : decode prog_3_method_8_code 56 = .ok (.if_icmp .ne 12, 3) := by decide +kernel
theorem zd_Ho_follow_68 : decode prog_3_method_8_code 68 = .ok (.iload_n 2, 1) := by decide +kernel
theorem zd_Ho_follow_69 : decode prog_3_method_8_code 69 = .ok (.bipush 10, 2) := by decide +kernel
theorem zd_Ho_follow_71 : decode prog_3_method_8_code 71 = .ok (.irem, 1) := by decide +kernel
theorem zd_Ho_follow_72 : decode prog_3_method_8_code 72 = .ok (.invokestatic 83, 3) := by decide +kernel
theorem zd_Ho_follow_75 : decode prog_3_method_8_code 75 = .ok (.ifCond .eq 22, 3) := by decide +kernel
theorem zd_Ho_follow_78 : decode prog_3_method_8_code 78 = .ok (.aload 4, 2) := by decide +kernel
theorem zd_Ho_follow_80 : decode prog_3_method_8_code 80 = .ok (.invokevirtual 87, 3) := by decide +kernel
theorem zd_Ho_follow_83 : decode prog_3_method_8_code 83 = .ok (.ifCond .ne 14, 3) := by decide +kernel
theorem zd_Ho_follow_86 : decode prog_3_method_8_code 86 = .ok (.aload_n 0, 1) := by decide +kernel
theorem zd_Ho_follow_87 : decode prog_3_method_8_code 87 = .ok (.aload 4, 2) := by decide +kernel
theorem zd_Ho_follow_89 : decode prog_3_method_8_code 89 = .ok (.iload_n 2, 1) := by decide +kernel
theorem zd_Ho_follow_90 : decode prog_3_method_8_code 90 = .ok (.bipush 10, 2) := by decide +kernel
theorem zd_Ho_follow_92 : decode prog_3_method_8_code 92 = .ok (.irem, 1) := by decide +kernel
theorem zd_Ho_follow_93 : decode prog_3_method_8_code 93 = .ok (.invokevirtual 91, 3) := by decide +kernel
theorem zd_Ho_follow_96 : decode prog_3_method_8_code 96 = .ok (.pop, 1) := by decide +kernel
theorem zd_Ho_follow_59 : decode prog_3_method_8_code 59 = .ok (.aload 4, 2) := by decide +kernel
theorem zd_Ho_follow_61 : decode prog_3_method_8_code 61 = .ok (.iconst (-1), 1) := by decide +kernel
theorem zd_Ho_follow_62 : decode prog_3_method_8_code 62 = .ok (.putfield 80, 3) := by decide +kernel
theorem zd_Ho_follow_65 : decode prog_3_method_8_code 65 = .ok (.goto 32, 3) := by decide +kernel
theorem zd_Ho_follow_45 : decode prog_3_method_8_code 45 = .ok (.aload 4, 2) := by decide +kernel
theorem zd_Ho_follow_47 : decode prog_3_method_8_code 47 = .ok (.iconst 0, 1) := by decide +kernel
theorem zd_Ho_follow_48 : decode prog_3_method_8_code 48 = .ok (.putfield 105, 3) := by decide +kernel
theorem zd_Ho_follow_51 : decode prog_3_method_8_code 51 = .ok (.goto 46, 3) := by decide +kernel
theorem zd_Ho_follow_97 : decode prog_3_method_8_code 97 = .ok (.return_, 1) := by decide +kernel
theorem zd_Ho_follow_31 : decode prog_3_method_8_code 31 = .ok (.return_, 1) := by decide +kernel
theorem zd_Ho_follow_4 : decode prog_3_method_8_code 4 = .ok (.aload_n 0, 1) := by decide +kernel
theorem zd_Ho_follow_5 : decode prog_3_method_8_code 5 = .ok (.invokevirtual 99, 3) := by decide +kernel
theorem zd_Ho_follow_8 : decode prog_3_method_8_code 8 = .ok (.return_, 1) := by decide +kernel
abbrev zm_Ho_follow : zQ := ("LoofahSaints$House", prog_3_method_8_code, 5, (Option.none : Option Jvm.ClassFile.FieldType), false)
set_option maxRecDepth 100000 in
def fn_Ho_follow_L22 (a0 : Nat) (a1 : Int32) (a2 : Int32) (t0 : Int32) (S : zS) : Option (zS) :=
  gd (gT S a0 101) <|
  bq (fn_Ho_has a0 t0 S) fun r4 S2 =>
  br (decide (r4 = 0)) (some S2) <|
  gd (gT S2 a0 101) <|
  gd (gT S2 (zR S2 a0 0) 6) <|
  gd (gB t0 (zT S2 (zR S2 a0 0)).2) <|
  br (decide (a1 = (2 : Int32))) (gd (gT S2 (zR S2 (zR S2 a0 0) t0.toNatClampNeg) 105) <|
  nm (uI S2 (zR S2 (zR S2 a0 0) t0.toNatClampNeg) 5 (0 : Int32)) fun S27 =>
  some S27) <|
  br (decide (a1 = (3 : Int32))) (gd (gT S2 (zR S2 (zR S2 a0 0) t0.toNatClampNeg) 105) <|
  nm (uI S2 (zR S2 (zR S2 a0 0) t0.toNatClampNeg) 6 (-1 : Int32)) fun S25 =>
  some S25) <|
  bq (fn_Ls_isNovice (a2 - a2 / (10 : Int32) * (10 : Int32)) S2) fun r13 S11 =>
  br (decide (r13 = 0)) (some S11) <|
  gd (gT S11 (zR S2 (zR S2 a0 0) t0.toNatClampNeg) 105) <|
  bq (fn_Sa_isThread (zR S2 (zR S2 a0 0) t0.toNatClampNeg) S11) fun r18 S16 =>
  br (decide (r18 = 0)) (gd (gT S16 a0 101) <|
  bq (fn_Ho_scrub a0 (zR S2 (zR S2 a0 0) t0.toNatClampNeg) (a2 - a2 / (10 : Int32) * (10 : Int32)) S16) fun r23 S21 =>
  some S21) <|
  some S16
set_option maxRecDepth 100000 in
set_option maxHeartbeats 4000000 in
theorem tm_Ho_follow_L22 {X : zXt} {d : Nat} (hd : 7 ≤ d) {S' : zS}  {a0 : Nat} {a1 : Int32} {a2 : Int32} {t0 : Int32} {S : zS} (h : fn_Ho_follow_L22 a0 a1 a2 t0 S = some S') : zG X zm_Ho_follow d 22 [some (.ref a0), some (.int a1), some (.int a2), none, none] [.int t0] S none S' := by
  unfold fn_Ho_follow_L22 at h
  refine zg_istore_n (L' := [some (.ref a0), some (.int a1), some (.int a2), some (.int t0), none]) (pc' := 23) zd_Ho_follow_22 (by decide) rfl rfl ?_
  refine zg_aload_n (pc' := 24) zd_Ho_follow_23 rfl rfl ?_
  refine zg_iload_n (pc' := 25) zd_Ho_follow_24 rfl rfl ?_
  obtain ⟨g1, h⟩ := gd_some h
  obtain ⟨r4, S2, e3, h⟩ := bq_some h
  refine zg_callV (ci := 1) (As := [.int t0]) (rest := []) (pc' := 28) zl_Ho_102 zq345 zq346 ⟨_, rfl, rfl⟩ zd_Ho_follow_25 rfl rfl (Nat.le_of_ble_eq_true rfl) (by omega) (gT_ok g1) (tm_Ho_has (d := 2) (Nat.le_refl _) e3) rfl ?_
  refine zg_st (st' := [.int r4]) rfl ?_
  rcases br_some h with ⟨c5, h⟩ | ⟨c5, h⟩
  · refine zg_if_ne (tgt := 32) (pc' := 31) zd_Ho_follow_28 (by decide) rfl (fun q => absurd c5 q) (fun _ => ?_)
    obtain rfl := rt_v h
    exact zg_vret zd_Ho_follow_31 rfl
  · refine zg_if_ne (tgt := 32) (pc' := 31) zd_Ho_follow_28 (by decide) rfl (fun _ => ?_) (fun q => absurd q c5)
    refine zg_aload_n (pc' := 33) zd_Ho_follow_32 rfl rfl ?_
    obtain ⟨g6, h⟩ := gd_some h
    refine zg_getR (pc' := 36) zf_Ho_11 rfl zd_Ho_follow_33 (gT_ok g6) rfl ?_
    refine zg_iload_n (pc' := 37) zd_Ho_follow_36 rfl rfl ?_
    obtain ⟨g7, h⟩ := gd_some h
    obtain ⟨g8, h⟩ := gd_some h
    refine zg_aald (t := 6) (pc' := 38) (by decide) zd_Ho_follow_37 (gT_ok g7) (gB_ok g8) rfl ?_
    refine zg_astore (L' := [some (.ref a0), some (.int a1), some (.int a2), some (.int t0), some (.ref (zR S2 (zR S2 a0 0) t0.toNatClampNeg))]) (pc' := 40) zd_Ho_follow_38 (by decide) rfl rfl ?_
    refine zg_iload_n (pc' := 41) zd_Ho_follow_40 rfl rfl ?_
    refine zg_iconst (x := (2 : Int32)) (pc' := 42) zd_Ho_follow_41 (by decide) rfl ?_
    rcases br_some h with ⟨c9, h⟩ | ⟨c9, h⟩
    · refine zg_icmp_ne (tgt := 54) (pc' := 45) zd_Ho_follow_42 (by decide) rfl (fun q => absurd c9 q) (fun _ => ?_)
      refine zg_aload (pc' := 47) zd_Ho_follow_45 rfl rfl ?_
      refine zg_iconst (x := (0 : Int32)) (pc' := 48) zd_Ho_follow_47 (by decide) rfl ?_
      obtain ⟨g26, h⟩ := gd_some h
      refine zg_putI (pc' := 51) zf_Ho_105 zd_Ho_follow_48 (Or.inl rfl) (gT_ok g26) rfl ?_
      obtain ⟨S27, eS27, h⟩ := nm_some h
      refine zg_nm eS27 ?_
      refine zg_goto (tgt := 97) zd_Ho_follow_51 (by decide) ?_
      obtain rfl := rt_v h
      exact zg_vret zd_Ho_follow_97 rfl
    · refine zg_icmp_ne (tgt := 54) (pc' := 45) zd_Ho_follow_42 (by decide) rfl (fun _ => ?_) (fun q => absurd q c9)
      refine zg_iload_n (pc' := 55) zd_Ho_follow_54 rfl rfl ?_
      refine zg_iconst (x := (3 : Int32)) (pc' := 56) zd_Ho_follow_55 (by decide) rfl ?_
      rcases br_some h with ⟨c10, h⟩ | ⟨c10, h⟩
      · refine zg_icmp_ne (tgt := 68) (pc' := 59) zd_Ho_follow_56 (by decide) rfl (fun q => absurd c10 q) (fun _ => ?_)
        refine zg_aload (pc' := 61) zd_Ho_follow_59 rfl rfl ?_
        refine zg_iconst (x := (-1 : Int32)) (pc' := 62) zd_Ho_follow_61 (by decide) rfl ?_
        obtain ⟨g24, h⟩ := gd_some h
        refine zg_putI (pc' := 65) zf_Ho_80 zd_Ho_follow_62 (Or.inl rfl) (gT_ok g24) rfl ?_
        obtain ⟨S25, eS25, h⟩ := nm_some h
        refine zg_nm eS25 ?_
        refine zg_goto (tgt := 97) zd_Ho_follow_65 (by decide) ?_
        obtain rfl := rt_v h
        exact zg_vret zd_Ho_follow_97 rfl
      · refine zg_icmp_ne (tgt := 68) (pc' := 59) zd_Ho_follow_56 (by decide) rfl (fun _ => ?_) (fun q => absurd q c10)
        refine zg_iload_n (pc' := 69) zd_Ho_follow_68 rfl rfl ?_
        refine zg_bipush (x := (10 : Int32)) (pc' := 71) zd_Ho_follow_69 (by decide) rfl ?_
        refine zg_irem (pc' := 72) zd_Ho_follow_71 rfl (by decide) ?_
        obtain ⟨r13, S11, e12, h⟩ := bq_some h
        refine zg_callSN (As := [.int (a2 - a2 / (10 : Int32) * (10 : Int32))]) (rest := []) (pc' := 75) zl_Ho_83 zq349 zd_Ho_follow_72 rfl rfl (Nat.le_of_ble_eq_true rfl) (by omega) (tm_Ls_isNovice (d := 2) (Nat.le_refl _) e12) rfl ?_
        refine zg_st (st' := [.int r13]) rfl ?_
        rcases br_some h with ⟨c14, h⟩ | ⟨c14, h⟩
        · refine zg_if_eq (tgt := 97) (pc' := 78) zd_Ho_follow_75 (by decide) rfl (fun _ => ?_) (fun q => absurd c14 q)
          obtain rfl := rt_v h
          exact zg_vret zd_Ho_follow_97 rfl
        · refine zg_if_eq (tgt := 97) (pc' := 78) zd_Ho_follow_75 (by decide) rfl (fun q => absurd q c14) (fun _ => ?_)
          refine zg_aload (pc' := 80) zd_Ho_follow_78 rfl rfl ?_
          obtain ⟨g15, h⟩ := gd_some h
          obtain ⟨r18, S16, e17, h⟩ := bq_some h
          refine zg_callV (ci := 5) (As := []) (rest := []) (pc' := 83) zl_Ho_87 zq377 zq378 ⟨_, rfl, rfl⟩ zd_Ho_follow_80 rfl rfl (Nat.le_of_ble_eq_true rfl) (by omega) (gT_ok g15) (tm_Sa_isThread (d := 2) (Nat.le_refl _) e17) rfl ?_
          refine zg_st (st' := [.int r18]) rfl ?_
          rcases br_some h with ⟨c19, h⟩ | ⟨c19, h⟩
          · refine zg_if_ne (tgt := 97) (pc' := 86) zd_Ho_follow_83 (by decide) rfl (fun q => absurd c19 q) (fun _ => ?_)
            refine zg_aload_n (pc' := 87) zd_Ho_follow_86 rfl rfl ?_
            refine zg_aload (pc' := 89) zd_Ho_follow_87 rfl rfl ?_
            refine zg_iload_n (pc' := 90) zd_Ho_follow_89 rfl rfl ?_
            refine zg_bipush (x := (10 : Int32)) (pc' := 92) zd_Ho_follow_90 (by decide) rfl ?_
            refine zg_irem (pc' := 93) zd_Ho_follow_92 rfl (by decide) ?_
            obtain ⟨g20, h⟩ := gd_some h
            obtain ⟨r23, S21, e22, h⟩ := bq_some h
            refine zg_callV (ci := 1) (As := [.ref (zR S2 (zR S2 a0 0) t0.toNatClampNeg), .int (a2 - a2 / (10 : Int32) * (10 : Int32))]) (rest := []) (pc' := 96) zl_Ho_91 zq418 zq419 ⟨_, rfl, rfl⟩ zd_Ho_follow_93 rfl rfl (Nat.le_of_ble_eq_true rfl) (by omega) (gT_ok g20) (tm_Ho_scrub (d := 5) (Nat.le_refl _) e22) rfl ?_
            refine zg_st (st' := [.int r23]) rfl ?_
            refine zg_pop (pc' := 97) zd_Ho_follow_96 rfl rfl ?_
            obtain rfl := rt_v h
            exact zg_vret zd_Ho_follow_97 rfl
          · refine zg_if_ne (tgt := 97) (pc' := 86) zd_Ho_follow_83 (by decide) rfl (fun _ => ?_) (fun q => absurd q c19)
            obtain rfl := rt_v h
            exact zg_vret zd_Ho_follow_97 rfl
set_option maxRecDepth 100000 in
def fn_Ho_follow (a0 : Nat) (a1 : Int32) (a2 : Int32) (S : zS) : Option (zS) :=
  br (decide (a1 = 0)) (gd (gT S a0 101) <|
  bv (fn_Ho_goDay a0 S) fun S4 =>
  some S4) <|
  br (decide (a1 = (1 : Int32))) (fn_Ho_follow_L22 a0 a1 a2 (a2 / (10 : Int32)) S) <|
  fn_Ho_follow_L22 a0 a1 a2 a2 S
set_option maxRecDepth 100000 in
set_option maxHeartbeats 4000000 in
theorem tm_Ho_follow {X : zXt} {d : Nat} (hd : 7 ≤ d) {a0 : Nat} {a1 : Int32} {a2 : Int32} {S : zS} {S' : zS} (h : fn_Ho_follow a0 a1 a2 S = some S') : zM X zy_Ho_follow prog_3_method_8_code 5 (Option.none : Option Jvm.ClassFile.FieldType) d [.ref a0, .int a1, .int a2] S none S' := by
  refine zM_of (ini := false) (L := [some (.ref a0), some (.int a1), some (.int a2), none, none]) (plainFor_of_name (by decide)) (fun h => by cases h) (Nat.le_of_ble_eq_true rfl) rfl ?_
  unfold fn_Ho_follow at h
  refine zg_iload_n (pc' := 1) zd_Ho_follow_0 rfl rfl ?_
  rcases br_some h with ⟨c1, h⟩ | ⟨c1, h⟩
  · refine zg_if_ne (tgt := 9) (pc' := 4) zd_Ho_follow_1 (by decide) rfl (fun q => absurd c1 q) (fun _ => ?_)
    refine zg_aload_n (pc' := 5) zd_Ho_follow_4 rfl rfl ?_
    obtain ⟨g3, h⟩ := gd_some h
    obtain ⟨S4, e5, h⟩ := bv_some h
    refine zg_callV (ci := 1) (As := []) (rest := []) (pc' := 8) zl_Ho_99 zq566 zq567 ⟨_, rfl, rfl⟩ zd_Ho_follow_5 rfl rfl (Nat.le_of_ble_eq_true rfl) (by omega) (gT_ok g3) (tm_Ho_goDay (d := 6) (Nat.le_refl _) e5) rfl ?_
    refine zg_st (st' := []) rfl ?_
    obtain rfl := rt_v h
    exact zg_vret zd_Ho_follow_8 rfl
  · refine zg_if_ne (tgt := 9) (pc' := 4) zd_Ho_follow_1 (by decide) rfl (fun _ => ?_) (fun q => absurd q c1)
    refine zg_iload_n (pc' := 10) zd_Ho_follow_9 rfl rfl ?_
    refine zg_iconst (x := (1 : Int32)) (pc' := 11) zd_Ho_follow_10 (by decide) rfl ?_
    rcases br_some h with ⟨c2, h⟩ | ⟨c2, h⟩
    · refine zg_icmp_ne (tgt := 21) (pc' := 14) zd_Ho_follow_11 (by decide) rfl (fun q => absurd c2 q) (fun _ => ?_)
      refine zg_iload_n (pc' := 15) zd_Ho_follow_14 rfl rfl ?_
      refine zg_bipush (x := (10 : Int32)) (pc' := 17) zd_Ho_follow_15 (by decide) rfl ?_
      refine zg_idiv (pc' := 18) zd_Ho_follow_17 rfl (by decide) ?_
      refine zg_goto (tgt := 22) zd_Ho_follow_18 (by decide) ?_
      exact tm_Ho_follow_L22 hd h
    · refine zg_icmp_ne (tgt := 21) (pc' := 14) zd_Ho_follow_11 (by decide) rfl (fun _ => ?_) (fun q => absurd q c2)
      refine zg_iload_n (pc' := 22) zd_Ho_follow_21 rfl rfl ?_
      exact tm_Ho_follow_L22 hd h
theorem zd_Ho_onAll_0 : decode prog_3_method_9_code 0 = .ok (.iconst 0, 1) := by decide +kernel
theorem zd_Ho_onAll_1 : decode prog_3_method_9_code 1 = .ok (.istore_n 1, 1) := by decide +kernel
theorem zd_Ho_onAll_2 : decode prog_3_method_9_code 2 = .ok (.iconst 0, 1) := by decide +kernel
theorem zd_Ho_onAll_3 : decode prog_3_method_9_code 3 = .ok (.istore_n 2, 1) := by decide +kernel
theorem zd_Ho_onAll_4 : decode prog_3_method_9_code 4 = .ok (.iload_n 2, 1) := by decide +kernel
theorem zd_Ho_onAll_5 : decode prog_3_method_9_code 5 = .ok (.iconst 4, 1) := by decide +kernel
theorem zd_Ho_onAll_6 : decode prog_3_method_9_code 6 = .ok (.if_icmp .ge 21, 3) := by decide +kernel
theorem zd_Ho_onAll_27 : decode prog_3_method_9_code 27 = .ok (.iload_n 1, 1) := by decide +kernel
theorem zd_Ho_onAll_28 : decode prog_3_method_9_code 28 = .ok (.ireturn, 1) := by decide +kernel
theorem zd_Ho_onAll_9 : decode prog_3_method_9_code 9 = .ok (.iload_n 1, 1) := by decide +kernel
theorem zd_Ho_onAll_10 : decode prog_3_method_9_code 10 = .ok (.aload_n 0, 1) := by decide +kernel
theorem zd_Ho_onAll_11 : decode prog_3_method_9_code 11 = .ok (.getfield 17, 3) := by decide +kernel
theorem zd_Ho_onAll_14 : decode prog_3_method_9_code 14 = .ok (.iload_n 2, 1) := by decide +kernel
theorem zd_Ho_onAll_15 : decode prog_3_method_9_code 15 = .ok (.iaload, 1) := by decide +kernel
theorem zd_Ho_onAll_16 : decode prog_3_method_9_code 16 = .ok (.invokestatic 108, 3) := by decide +kernel
theorem zd_Ho_onAll_19 : decode prog_3_method_9_code 19 = .ok (.iadd, 1) := by decide +kernel
theorem zd_Ho_onAll_20 : decode prog_3_method_9_code 20 = .ok (.istore_n 1, 1) := by decide +kernel
theorem zd_Ho_onAll_21 : decode prog_3_method_9_code 21 = .ok (.iinc 2 1, 3) := by decide +kernel
theorem zd_Ho_onAll_24 : decode prog_3_method_9_code 24 = .ok (.goto (-20), 3) := by decide +kernel
abbrev zm_Ho_onAll : zQ := ("LoofahSaints$House", prog_3_method_9_code, 3, (Option.some Jvm.ClassFile.FieldType.int), false)
set_option maxRecDepth 100000 in
def fn_Ho_onAll_L4 (a0 : Nat) (a1 : Int32) (a2 : Int32) (S : zS) (K4 : Nat → Int32 → Int32 → zS → Option (Int32 × zS)) : Option (Int32 × zS) :=
  br (decide ((4 : Int32) ≤ a2)) (some (a1, S)) <|
  gd (gT S a0 101) <|
  gd (gT S (zR S a0 1) 1) <|
  gd (gB a2 (zT S (zR S a0 1)).2) <|
  bq (fn_Jd_bitCount (zI S (zR S a0 1) a2.toNatClampNeg) S) fun r7 S5 =>
  K4 a0 (a1 + r7) (a2 + (1 : Int32)) S5
set_option maxRecDepth 100000 in
set_option maxHeartbeats 4000000 in
theorem tm_Ho_onAll_L4 {X : zXt} {d : Nat} (hd : 3 ≤ d) {v : Int32} {S' : zS}  {K4 : Nat → Int32 → Int32 → zS → Option (Int32 × zS)} (hK4 : ∀ (a0 : Nat) (a1 : Int32) (a2 : Int32) (S : zS), K4 a0 a1 a2 S = some (v, S') → zG X zm_Ho_onAll d 4 [some (.ref a0), some (.int a1), some (.int a2)] [] S (some (.int v)) S') {a0 : Nat} {a1 : Int32} {a2 : Int32} {S : zS} (h : fn_Ho_onAll_L4 a0 a1 a2 S K4 = some (v, S')) : zG X zm_Ho_onAll d 4 [some (.ref a0), some (.int a1), some (.int a2)] [] S (some (.int v)) S' := by
  unfold fn_Ho_onAll_L4 at h
  refine zg_iload_n (pc' := 5) zd_Ho_onAll_4 rfl rfl ?_
  refine zg_iconst (x := (4 : Int32)) (pc' := 6) zd_Ho_onAll_5 (by decide) rfl ?_
  rcases br_some h with ⟨c1, h⟩ | ⟨c1, h⟩
  · refine zg_icmp_ge (tgt := 27) (pc' := 9) zd_Ho_onAll_6 (by decide) rfl (fun _ => ?_) (fun q => absurd c1 q)
    refine zg_iload_n (pc' := 28) zd_Ho_onAll_27 rfl rfl ?_
    obtain ⟨rfl, rfl⟩ := rt_q h
    exact zg_iret zd_Ho_onAll_28 zrt_i
  · refine zg_icmp_ge (tgt := 27) (pc' := 9) zd_Ho_onAll_6 (by decide) rfl (fun q => absurd q c1) (fun _ => ?_)
    refine zg_iload_n (pc' := 10) zd_Ho_onAll_9 rfl rfl ?_
    refine zg_aload_n (pc' := 11) zd_Ho_onAll_10 rfl rfl ?_
    obtain ⟨g2, h⟩ := gd_some h
    refine zg_getR (pc' := 14) zf_Ho_17 rfl zd_Ho_onAll_11 (gT_ok g2) rfl ?_
    refine zg_iload_n (pc' := 15) zd_Ho_onAll_14 rfl rfl ?_
    obtain ⟨g3, h⟩ := gd_some h
    obtain ⟨g4, h⟩ := gd_some h
    refine zg_iald (pc' := 16) zd_Ho_onAll_15 (gT_ok g3) (gB_ok g4) rfl ?_
    obtain ⟨r7, S5, e6, h⟩ := bq_some h
    refine zg_callS (As := [.int (zI S (zR S a0 1) a2.toNatClampNeg)]) (rest := [.int a1]) (pc' := 19) zl_Ho_108 zq577 zd_Ho_onAll_16 rfl rfl (Nat.le_of_ble_eq_true rfl) (by omega) (tm_Jd_bitCount (d := 2) (Nat.le_refl _) e6) rfl ?_
    refine zg_st (st' := [.int r7, .int a1]) rfl ?_
    refine zg_iadd (pc' := 20) zd_Ho_onAll_19 rfl ?_
    refine zg_istore_n (L' := [some (.ref a0), some (.int (a1 + r7)), some (.int a2)]) (pc' := 21) zd_Ho_onAll_20 (by decide) rfl rfl ?_
    refine zg_iinc (y := (a2 + (1 : Int32))) (L' := [some (.ref a0), some (.int (a1 + r7)), some (.int (a2 + (1 : Int32)))]) (pc' := 24) zd_Ho_onAll_21 rfl rfl (by decide) rfl rfl ?_
    refine zg_goto (tgt := 4) zd_Ho_onAll_24 (by decide) ?_
    exact hK4 _ _ _ _ h
set_option maxRecDepth 100000 in
def fn_Ho_onAll (a0 : Nat) (S : zS) : Option (Int32 × zS) :=
  lp (σ := Nat × Int32 × Int32 × zS) (fun k s => fn_Ho_onAll_L4 s.1 s.2.1 s.2.2.1 s.2.2.2 (fun (a0 : Nat) (a1 : Int32) (a2 : Int32) (S : zS) => k (a0, a1, a2, S))) FU (a0, (0 : Int32), (0 : Int32), S)
set_option maxRecDepth 100000 in
set_option maxHeartbeats 4000000 in
theorem tm_Ho_onAll {X : zXt} {d : Nat} (hd : 3 ≤ d) {v : Int32} {a0 : Nat} {S : zS} {S' : zS} (h : fn_Ho_onAll a0 S = some (v, S')) : zM X zy_Ho_onAll prog_3_method_9_code 3 (Option.some Jvm.ClassFile.FieldType.int) d [.ref a0] S (some (.int v)) S' := by
  refine zM_of (ini := false) (L := [some (.ref a0), none, none]) (plainFor_of_name (by decide)) (fun h => by cases h) (Nat.le_of_ble_eq_true rfl) rfl ?_
  unfold fn_Ho_onAll at h
  refine zg_iconst (x := (0 : Int32)) (pc' := 1) zd_Ho_onAll_0 (by decide) rfl ?_
  refine zg_istore_n (L' := [some (.ref a0), some (.int (0 : Int32)), none]) (pc' := 2) zd_Ho_onAll_1 (by decide) rfl rfl ?_
  refine zg_iconst (x := (0 : Int32)) (pc' := 3) zd_Ho_onAll_2 (by decide) rfl ?_
  refine zg_istore_n (L' := [some (.ref a0), some (.int (0 : Int32)), some (.int (0 : Int32))]) (pc' := 4) zd_Ho_onAll_3 (by decide) rfl rfl ?_
  exact lp_indh h (P := fun s => zG X zm_Ho_onAll d 4 [some (.ref (s.1)), some (.int (s.2.1)), some (.int (s.2.2.1))] [] (s.2.2.2) (some (.int v)) S') (fun k hk s h => tm_Ho_onAll_L4 hd (fun a0 a1 a2 S h => hk (a0, a1, a2, S) h) h)
theorem zd_Ho_wearOfAll_0 : decode prog_3_method_10_code 0 = .ok (.iconst 0, 1) := by decide +kernel
theorem zd_Ho_wearOfAll_1 : decode prog_3_method_10_code 1 = .ok (.istore_n 1, 1) := by decide +kernel
theorem zd_Ho_wearOfAll_2 : decode prog_3_method_10_code 2 = .ok (.iconst 0, 1) := by decide +kernel
theorem zd_Ho_wearOfAll_3 : decode prog_3_method_10_code 3 = .ok (.istore_n 2, 1) := by decide +kernel
theorem zd_Ho_wearOfAll_4 : decode prog_3_method_10_code 4 = .ok (.iload_n 2, 1) := by decide +kernel
theorem zd_Ho_wearOfAll_5 : decode prog_3_method_10_code 5 = .ok (.aload_n 0, 1) := by decide +kernel
theorem zd_Ho_wearOfAll_6 : decode prog_3_method_10_code 6 = .ok (.getfield 39, 3) := by decide +kernel
theorem zd_Ho_wearOfAll_9 : decode prog_3_method_10_code 9 = .ok (.if_icmp .ge 21, 3) := by decide +kernel
theorem zd_Ho_wearOfAll_30 : decode prog_3_method_10_code 30 = .ok (.iload_n 1, 1) := by decide +kernel
theorem zd_Ho_wearOfAll_31 : decode prog_3_method_10_code 31 = .ok (.ireturn, 1) := by decide +kernel
theorem zd_Ho_wearOfAll_12 : decode prog_3_method_10_code 12 = .ok (.iload_n 1, 1) := by decide +kernel
theorem zd_Ho_wearOfAll_13 : decode prog_3_method_10_code 13 = .ok (.aload_n 0, 1) := by decide +kernel
theorem zd_Ho_wearOfAll_14 : decode prog_3_method_10_code 14 = .ok (.getfield 11, 3) := by decide +kernel
theorem zd_Ho_wearOfAll_17 : decode prog_3_method_10_code 17 = .ok (.iload_n 2, 1) := by decide +kernel
theorem zd_Ho_wearOfAll_18 : decode prog_3_method_10_code 18 = .ok (.aaload, 1) := by decide +kernel
theorem zd_Ho_wearOfAll_19 : decode prog_3_method_10_code 19 = .ok (.getfield 105, 3) := by decide +kernel
theorem zd_Ho_wearOfAll_22 : decode prog_3_method_10_code 22 = .ok (.iadd, 1) := by decide +kernel
theorem zd_Ho_wearOfAll_23 : decode prog_3_method_10_code 23 = .ok (.istore_n 1, 1) := by decide +kernel
theorem zd_Ho_wearOfAll_24 : decode prog_3_method_10_code 24 = .ok (.iinc 2 1, 3) := by decide +kernel
theorem zd_Ho_wearOfAll_27 : decode prog_3_method_10_code 27 = .ok (.goto (-23), 3) := by decide +kernel
abbrev zm_Ho_wearOfAll : zQ := ("LoofahSaints$House", prog_3_method_10_code, 3, (Option.some Jvm.ClassFile.FieldType.int), false)
set_option maxRecDepth 100000 in
def fn_Ho_wearOfAll_L4 (a0 : Nat) (a1 : Int32) (a2 : Int32) (S : zS) (K4 : Nat → Int32 → Int32 → zS → Option (Int32 × zS)) : Option (Int32 × zS) :=
  gd (gT S a0 101) <|
  br (decide ((zI S a0 6) ≤ a2)) (some (a1, S)) <|
  gd (gT S (zR S a0 0) 6) <|
  gd (gB a2 (zT S (zR S a0 0)).2) <|
  gd (gT S (zR S (zR S a0 0) a2.toNatClampNeg) 105) <|
  K4 a0 (a1 + (zI S (zR S (zR S a0 0) a2.toNatClampNeg) 5)) (a2 + (1 : Int32)) S
set_option maxRecDepth 100000 in
set_option maxHeartbeats 4000000 in
theorem tm_Ho_wearOfAll_L4 {X : zXt} {d : Nat} (hd : 2 ≤ d) {v : Int32} {S' : zS}  {K4 : Nat → Int32 → Int32 → zS → Option (Int32 × zS)} (hK4 : ∀ (a0 : Nat) (a1 : Int32) (a2 : Int32) (S : zS), K4 a0 a1 a2 S = some (v, S') → zG X zm_Ho_wearOfAll d 4 [some (.ref a0), some (.int a1), some (.int a2)] [] S (some (.int v)) S') {a0 : Nat} {a1 : Int32} {a2 : Int32} {S : zS} (h : fn_Ho_wearOfAll_L4 a0 a1 a2 S K4 = some (v, S')) : zG X zm_Ho_wearOfAll d 4 [some (.ref a0), some (.int a1), some (.int a2)] [] S (some (.int v)) S' := by
  unfold fn_Ho_wearOfAll_L4 at h
  refine zg_iload_n (pc' := 5) zd_Ho_wearOfAll_4 rfl rfl ?_
  refine zg_aload_n (pc' := 6) zd_Ho_wearOfAll_5 rfl rfl ?_
  obtain ⟨g1, h⟩ := gd_some h
  refine zg_getI (pc' := 9) zf_Ho_39 zd_Ho_wearOfAll_6 (gT_ok g1) rfl ?_
  rcases br_some h with ⟨c2, h⟩ | ⟨c2, h⟩
  · refine zg_icmp_ge (tgt := 30) (pc' := 12) zd_Ho_wearOfAll_9 (by decide) rfl (fun _ => ?_) (fun q => absurd c2 q)
    refine zg_iload_n (pc' := 31) zd_Ho_wearOfAll_30 rfl rfl ?_
    obtain ⟨rfl, rfl⟩ := rt_q h
    exact zg_iret zd_Ho_wearOfAll_31 zrt_i
  · refine zg_icmp_ge (tgt := 30) (pc' := 12) zd_Ho_wearOfAll_9 (by decide) rfl (fun q => absurd q c2) (fun _ => ?_)
    refine zg_iload_n (pc' := 13) zd_Ho_wearOfAll_12 rfl rfl ?_
    refine zg_aload_n (pc' := 14) zd_Ho_wearOfAll_13 rfl rfl ?_
    refine zg_getR (pc' := 17) zf_Ho_11 rfl zd_Ho_wearOfAll_14 (gT_ok g1) rfl ?_
    refine zg_iload_n (pc' := 18) zd_Ho_wearOfAll_17 rfl rfl ?_
    obtain ⟨g3, h⟩ := gd_some h
    obtain ⟨g4, h⟩ := gd_some h
    refine zg_aald (t := 6) (pc' := 19) (by decide) zd_Ho_wearOfAll_18 (gT_ok g3) (gB_ok g4) rfl ?_
    obtain ⟨g5, h⟩ := gd_some h
    refine zg_getI (pc' := 22) zf_Ho_105 zd_Ho_wearOfAll_19 (gT_ok g5) rfl ?_
    refine zg_iadd (pc' := 23) zd_Ho_wearOfAll_22 rfl ?_
    refine zg_istore_n (L' := [some (.ref a0), some (.int (a1 + (zI S (zR S (zR S a0 0) a2.toNatClampNeg) 5))), some (.int a2)]) (pc' := 24) zd_Ho_wearOfAll_23 (by decide) rfl rfl ?_
    refine zg_iinc (y := (a2 + (1 : Int32))) (L' := [some (.ref a0), some (.int (a1 + (zI S (zR S (zR S a0 0) a2.toNatClampNeg) 5))), some (.int (a2 + (1 : Int32)))]) (pc' := 27) zd_Ho_wearOfAll_24 rfl rfl (by decide) rfl rfl ?_
    refine zg_goto (tgt := 4) zd_Ho_wearOfAll_27 (by decide) ?_
    exact hK4 _ _ _ _ h
set_option maxRecDepth 100000 in
def fn_Ho_wearOfAll (a0 : Nat) (S : zS) : Option (Int32 × zS) :=
  lp (σ := Nat × Int32 × Int32 × zS) (fun k s => fn_Ho_wearOfAll_L4 s.1 s.2.1 s.2.2.1 s.2.2.2 (fun (a0 : Nat) (a1 : Int32) (a2 : Int32) (S : zS) => k (a0, a1, a2, S))) FU (a0, (0 : Int32), (0 : Int32), S)
set_option maxRecDepth 100000 in
set_option maxHeartbeats 4000000 in
theorem tm_Ho_wearOfAll {X : zXt} {d : Nat} (hd : 2 ≤ d) {v : Int32} {a0 : Nat} {S : zS} {S' : zS} (h : fn_Ho_wearOfAll a0 S = some (v, S')) : zM X zy_Ho_wearOfAll prog_3_method_10_code 3 (Option.some Jvm.ClassFile.FieldType.int) d [.ref a0] S (some (.int v)) S' := by
  refine zM_of (ini := false) (L := [some (.ref a0), none, none]) (plainFor_of_name (by decide)) (fun h => by cases h) (Nat.le_of_ble_eq_true rfl) rfl ?_
  unfold fn_Ho_wearOfAll at h
  refine zg_iconst (x := (0 : Int32)) (pc' := 1) zd_Ho_wearOfAll_0 (by decide) rfl ?_
  refine zg_istore_n (L' := [some (.ref a0), some (.int (0 : Int32)), none]) (pc' := 2) zd_Ho_wearOfAll_1 (by decide) rfl rfl ?_
  refine zg_iconst (x := (0 : Int32)) (pc' := 3) zd_Ho_wearOfAll_2 (by decide) rfl ?_
  refine zg_istore_n (L' := [some (.ref a0), some (.int (0 : Int32)), some (.int (0 : Int32))]) (pc' := 4) zd_Ho_wearOfAll_3 (by decide) rfl rfl ?_
  exact lp_indh h (P := fun s => zG X zm_Ho_wearOfAll d 4 [some (.ref (s.1)), some (.int (s.2.1)), some (.int (s.2.2.1))] [] (s.2.2.2) (some (.int v)) S') (fun k hk s h => tm_Ho_wearOfAll_L4 hd (fun a0 a1 a2 S h => hk (a0, a1, a2, S) h) h)
theorem zd_Ho_threads_0 : decode prog_3_method_11_code 0 = .ok (.iconst 0, 1) := by decide +kernel
theorem zd_Ho_threads_1 : decode prog_3_method_11_code 1 = .ok (.istore_n 1, 1) := by decide +kernel
theorem zd_Ho_threads_2 : decode prog_3_method_11_code 2 = .ok (.iconst 0, 1) := by decide +kernel
theorem zd_Ho_threads_3 : decode prog_3_method_11_code 3 = .ok (.istore_n 2, 1) := by decide +kernel
theorem zd_Ho_threads_4 : decode prog_3_method_11_code 4 = .ok (.iload_n 2, 1) := by decide +kernel
theorem zd_Ho_threads_5 : decode prog_3_method_11_code 5 = .ok (.aload_n 0, 1) := by decide +kernel
theorem zd_Ho_threads_6 : decode prog_3_method_11_code 6 = .ok (.getfield 39, 3) := by decide +kernel
theorem zd_Ho_threads_9 : decode prog_3_method_11_code 9 = .ok (.if_icmp .ge 27, 3) := by decide +kernel
theorem zd_Ho_threads_36 : decode prog_3_method_11_code 36 = .ok (.iload_n 1, 1) := by decide +kernel
theorem zd_Ho_threads_37 : decode prog_3_method_11_code 37 = .ok (.ireturn, 1) := by decide +kernel
theorem zd_Ho_threads_12 : decode prog_3_method_11_code 12 = .ok (.aload_n 0, 1) := by decide +kernel
theorem zd_Ho_threads_13 : decode prog_3_method_11_code 13 = .ok (.getfield 11, 3) := by decide +kernel
theorem zd_Ho_threads_16 : decode prog_3_method_11_code 16 = .ok (.iload_n 2, 1) := by decide +kernel
theorem zd_Ho_threads_17 : decode prog_3_method_11_code 17 = .ok (.aaload, 1) := by decide +kernel
theorem zd_Ho_threads_18 : decode prog_3_method_11_code 18 = .ok (.invokevirtual 87, 3) := by decide +kernel
theorem zd_Ho_threads_21 : decode prog_3_method_11_code 21 = .ok (.ifCond .eq 9, 3) := by decide +kernel
theorem zd_Ho_threads_24 : decode prog_3_method_11_code 24 = .ok (.iload_n 1, 1) := by decide +kernel
theorem zd_Ho_threads_25 : decode prog_3_method_11_code 25 = .ok (.iconst 1, 1) := by decide +kernel
theorem zd_Ho_threads_26 : decode prog_3_method_11_code 26 = .ok (.iload_n 2, 1) := by decide +kernel
theorem zd_Ho_threads_27 : decode prog_3_method_11_code 27 = .ok (.ishl, 1) := by decide +kernel
theorem zd_Ho_threads_28 : decode prog_3_method_11_code 28 = .ok (.ior, 1) := by decide +kernel
theorem zd_Ho_threads_29 : decode prog_3_method_11_code 29 = .ok (.istore_n 1, 1) := by decide +kernel
theorem zd_Ho_threads_30 : decode prog_3_method_11_code 30 = .ok (.iinc 2 1, 3) := by decide +kernel
theorem zd_Ho_threads_33 : decode prog_3_method_11_code 33 = .ok (.goto (-29), 3) := by decide +kernel
abbrev zm_Ho_threads : zQ := ("LoofahSaints$House", prog_3_method_11_code, 3, (Option.some Jvm.ClassFile.FieldType.int), false)
set_option maxRecDepth 100000 in
def fn_Ho_threads_L4 (a0 : Nat) (a1 : Int32) (a2 : Int32) (S : zS) (K4 : Nat → Int32 → Int32 → zS → Option (Int32 × zS)) : Option (Int32 × zS) :=
  gd (gT S a0 101) <|
  br (decide ((zI S a0 6) ≤ a2)) (some (a1, S)) <|
  gd (gT S (zR S a0 0) 6) <|
  gd (gB a2 (zT S (zR S a0 0)).2) <|
  gd (gT S (zR S (zR S a0 0) a2.toNatClampNeg) 105) <|
  bq (fn_Sa_isThread (zR S (zR S a0 0) a2.toNatClampNeg) S) fun r8 S6 =>
  br (decide (r8 = 0)) (K4 a0 a1 (a2 + (1 : Int32)) S6) <|
  K4 a0 (a1 ||| ((1 : Int32) <<< (a2 &&& 31))) (a2 + (1 : Int32)) S6
set_option maxRecDepth 100000 in
set_option maxHeartbeats 4000000 in
theorem tm_Ho_threads_L4 {X : zXt} {d : Nat} (hd : 3 ≤ d) {v : Int32} {S' : zS}  {K4 : Nat → Int32 → Int32 → zS → Option (Int32 × zS)} (hK4 : ∀ (a0 : Nat) (a1 : Int32) (a2 : Int32) (S : zS), K4 a0 a1 a2 S = some (v, S') → zG X zm_Ho_threads d 4 [some (.ref a0), some (.int a1), some (.int a2)] [] S (some (.int v)) S') {a0 : Nat} {a1 : Int32} {a2 : Int32} {S : zS} (h : fn_Ho_threads_L4 a0 a1 a2 S K4 = some (v, S')) : zG X zm_Ho_threads d 4 [some (.ref a0), some (.int a1), some (.int a2)] [] S (some (.int v)) S' := by
  unfold fn_Ho_threads_L4 at h
  refine zg_iload_n (pc' := 5) zd_Ho_threads_4 rfl rfl ?_
  refine zg_aload_n (pc' := 6) zd_Ho_threads_5 rfl rfl ?_
  obtain ⟨g1, h⟩ := gd_some h
  refine zg_getI (pc' := 9) zf_Ho_39 zd_Ho_threads_6 (gT_ok g1) rfl ?_
  rcases br_some h with ⟨c2, h⟩ | ⟨c2, h⟩
  · refine zg_icmp_ge (tgt := 36) (pc' := 12) zd_Ho_threads_9 (by decide) rfl (fun _ => ?_) (fun q => absurd c2 q)
    refine zg_iload_n (pc' := 37) zd_Ho_threads_36 rfl rfl ?_
    obtain ⟨rfl, rfl⟩ := rt_q h
    exact zg_iret zd_Ho_threads_37 zrt_i
  · refine zg_icmp_ge (tgt := 36) (pc' := 12) zd_Ho_threads_9 (by decide) rfl (fun q => absurd q c2) (fun _ => ?_)
    refine zg_aload_n (pc' := 13) zd_Ho_threads_12 rfl rfl ?_
    refine zg_getR (pc' := 16) zf_Ho_11 rfl zd_Ho_threads_13 (gT_ok g1) rfl ?_
    refine zg_iload_n (pc' := 17) zd_Ho_threads_16 rfl rfl ?_
    obtain ⟨g3, h⟩ := gd_some h
    obtain ⟨g4, h⟩ := gd_some h
    refine zg_aald (t := 6) (pc' := 18) (by decide) zd_Ho_threads_17 (gT_ok g3) (gB_ok g4) rfl ?_
    obtain ⟨g5, h⟩ := gd_some h
    obtain ⟨r8, S6, e7, h⟩ := bq_some h
    refine zg_callV (ci := 5) (As := []) (rest := []) (pc' := 21) zl_Ho_87 zq377 zq378 ⟨_, rfl, rfl⟩ zd_Ho_threads_18 rfl rfl (Nat.le_of_ble_eq_true rfl) (by omega) (gT_ok g5) (tm_Sa_isThread (d := 2) (Nat.le_refl _) e7) rfl ?_
    refine zg_st (st' := [.int r8]) rfl ?_
    rcases br_some h with ⟨c9, h⟩ | ⟨c9, h⟩
    · refine zg_if_eq (tgt := 30) (pc' := 24) zd_Ho_threads_21 (by decide) rfl (fun _ => ?_) (fun q => absurd c9 q)
      refine zg_iinc (y := (a2 + (1 : Int32))) (L' := [some (.ref a0), some (.int a1), some (.int (a2 + (1 : Int32)))]) (pc' := 33) zd_Ho_threads_30 rfl rfl (by decide) rfl rfl ?_
      refine zg_goto (tgt := 4) zd_Ho_threads_33 (by decide) ?_
      exact hK4 _ _ _ _ h
    · refine zg_if_eq (tgt := 30) (pc' := 24) zd_Ho_threads_21 (by decide) rfl (fun q => absurd q c9) (fun _ => ?_)
      refine zg_iload_n (pc' := 25) zd_Ho_threads_24 rfl rfl ?_
      refine zg_iconst (x := (1 : Int32)) (pc' := 26) zd_Ho_threads_25 (by decide) rfl ?_
      refine zg_iload_n (pc' := 27) zd_Ho_threads_26 rfl rfl ?_
      refine zg_ishl (pc' := 28) zd_Ho_threads_27 rfl ?_
      refine zg_ior (pc' := 29) zd_Ho_threads_28 rfl ?_
      refine zg_istore_n (L' := [some (.ref a0), some (.int (a1 ||| ((1 : Int32) <<< (a2 &&& 31)))), some (.int a2)]) (pc' := 30) zd_Ho_threads_29 (by decide) rfl rfl ?_
      refine zg_iinc (y := (a2 + (1 : Int32))) (L' := [some (.ref a0), some (.int (a1 ||| ((1 : Int32) <<< (a2 &&& 31)))), some (.int (a2 + (1 : Int32)))]) (pc' := 33) zd_Ho_threads_30 rfl rfl (by decide) rfl rfl ?_
      refine zg_goto (tgt := 4) zd_Ho_threads_33 (by decide) ?_
      exact hK4 _ _ _ _ h
set_option maxRecDepth 100000 in
def fn_Ho_threads (a0 : Nat) (S : zS) : Option (Int32 × zS) :=
  lp (σ := Nat × Int32 × Int32 × zS) (fun k s => fn_Ho_threads_L4 s.1 s.2.1 s.2.2.1 s.2.2.2 (fun (a0 : Nat) (a1 : Int32) (a2 : Int32) (S : zS) => k (a0, a1, a2, S))) FU (a0, (0 : Int32), (0 : Int32), S)
set_option maxRecDepth 100000 in
set_option maxHeartbeats 4000000 in
theorem tm_Ho_threads {X : zXt} {d : Nat} (hd : 3 ≤ d) {v : Int32} {a0 : Nat} {S : zS} {S' : zS} (h : fn_Ho_threads a0 S = some (v, S')) : zM X zy_Ho_threads prog_3_method_11_code 3 (Option.some Jvm.ClassFile.FieldType.int) d [.ref a0] S (some (.int v)) S' := by
  refine zM_of (ini := false) (L := [some (.ref a0), none, none]) (plainFor_of_name (by decide)) (fun h => by cases h) (Nat.le_of_ble_eq_true rfl) rfl ?_
  unfold fn_Ho_threads at h
  refine zg_iconst (x := (0 : Int32)) (pc' := 1) zd_Ho_threads_0 (by decide) rfl ?_
  refine zg_istore_n (L' := [some (.ref a0), some (.int (0 : Int32)), none]) (pc' := 2) zd_Ho_threads_1 (by decide) rfl rfl ?_
  refine zg_iconst (x := (0 : Int32)) (pc' := 3) zd_Ho_threads_2 (by decide) rfl ?_
  refine zg_istore_n (L' := [some (.ref a0), some (.int (0 : Int32)), some (.int (0 : Int32))]) (pc' := 4) zd_Ho_threads_3 (by decide) rfl rfl ?_
  exact lp_indh h (P := fun s => zG X zm_Ho_threads d 4 [some (.ref (s.1)), some (.int (s.2.1)), some (.int (s.2.2.1))] [] (s.2.2.2) (some (.int v)) S') (fun k hk s h => tm_Ho_threads_L4 hd (fun a0 a1 a2 S h => hk (a0, a1, a2, S) h) h)
theorem zd_Ho_isAsSeen_0 : decode prog_3_method_12_code 0 = .ok (.iconst 0, 1) := by decide +kernel
theorem zd_Ho_isAsSeen_1 : decode prog_3_method_12_code 1 = .ok (.istore 4, 2) := by decide +kernel
theorem zd_Ho_isAsSeen_3 : decode prog_3_method_12_code 3 = .ok (.iload 4, 2) := by decide +kernel
theorem zd_Ho_isAsSeen_5 : decode prog_3_method_12_code 5 = .ok (.aload_n 0, 1) := by decide +kernel
theorem zd_Ho_isAsSeen_6 : decode prog_3_method_12_code 6 = .ok (.getfield 29, 3) := by decide +kernel
theorem zd_Ho_isAsSeen_9 : decode prog_3_method_12_code 9 = .ok (.getfield 114, 3) := by decide +kernel
theorem zd_Ho_isAsSeen_12 : decode prog_3_method_12_code 12 = .ok (.if_icmp .ge 73, 3) := by decide +kernel
theorem zd_Ho_isAsSeen_85 : decode prog_3_method_12_code 85 = .ok (.iconst 1, 1) := by decide +kernel
theorem zd_Ho_isAsSeen_86 : decode prog_3_method_12_code 86 = .ok (.ireturn, 1) := by decide +kernel
theorem zd_Ho_isAsSeen_15 : decode prog_3_method_12_code 15 = .ok (.aload_n 0, 1) := by decide +kernel
theorem zd_Ho_isAsSeen_16 : decode prog_3_method_12_code 16 = .ok (.getfield 29, 3) := by decide +kernel
theorem zd_Ho_isAsSeen_19 : decode prog_3_method_12_code 19 = .ok (.iload 4, 2) := by decide +kernel
theorem zd_Ho_isAsSeen_21 : decode prog_3_method_12_code 21 = .ok (.iconst 1, 1) := by decide +kernel
theorem zd_Ho_isAsSeen_22 : decode prog_3_method_12_code 22 = .ok (.invokevirtual 115, 3) := by decide +kernel
theorem zd_Ho_isAsSeen_25 : decode prog_3_method_12_code 25 = .ok (.istore 5, 2) := by decide +kernel
theorem zd_Ho_isAsSeen_27 : decode prog_3_method_12_code 27 = .ok (.aload_n 0, 1) := by decide +kernel
theorem zd_Ho_isAsSeen_28 : decode prog_3_method_12_code 28 = .ok (.getfield 29, 3) := by decide +kernel
theorem zd_Ho_isAsSeen_31 : decode prog_3_method_12_code 31 = .ok (.iload 4, 2) := by decide +kernel
theorem zd_Ho_isAsSeen_33 : decode prog_3_method_12_code 33 = .ok (.iconst 0, 1) := by decide +kernel
theorem zd_Ho_isAsSeen_34 : decode prog_3_method_12_code 34 = .ok (.invokevirtual 115, 3) := by decide +kernel
theorem zd_Ho_isAsSeen_37 : decode prog_3_method_12_code 37 = .ok (.iload_n 1, 1) := by decide +kernel
theorem zd_Ho_isAsSeen_38 : decode prog_3_method_12_code 38 = .ok (.if_icmp .ne 41, 3) := by decide +kernel
theorem zd_Ho_isAsSeen_41 : decode prog_3_method_12_code 41 = .ok (.iload 5, 2) := by decide +kernel
theorem zd_Ho_isAsSeen_43 : decode prog_3_method_12_code 43 = .ok (.invokestatic 83, 3) := by decide +kernel
theorem zd_Ho_isAsSeen_46 : decode prog_3_method_12_code 46 = .ok (.ifCond .ne 6, 3) := by decide +kernel
theorem zd_Ho_isAsSeen_52 : decode prog_3_method_12_code 52 = .ok (.aload_n 2, 1) := by decide +kernel
theorem zd_Ho_isAsSeen_53 : decode prog_3_method_12_code 53 = .ok (.aload_n 0, 1) := by decide +kernel
theorem zd_Ho_isAsSeen_54 : decode prog_3_method_12_code 54 = .ok (.getfield 17, 3) := by decide +kernel
theorem zd_Ho_isAsSeen_57 : decode prog_3_method_12_code 57 = .ok (.iload 5, 2) := by decide +kernel
theorem zd_Ho_isAsSeen_59 : decode prog_3_method_12_code 59 = .ok (.iaload, 1) := by decide +kernel
theorem zd_Ho_isAsSeen_60 : decode prog_3_method_12_code 60 = .ok (.iload_n 3, 1) := by decide +kernel
theorem zd_Ho_isAsSeen_61 : decode prog_3_method_12_code 61 = .ok (.invokevirtual 68, 3) := by decide +kernel
theorem zd_Ho_isAsSeen_64 : decode prog_3_method_12_code 64 = .ok (.aload_n 0, 1) := by decide +kernel
theorem zd_Ho_isAsSeen_65 : decode prog_3_method_12_code 65 = .ok (.getfield 29, 3) := by decide +kernel
theorem zd_Ho_isAsSeen_68 : decode prog_3_method_12_code 68 = .ok (.iload 4, 2) := by decide +kernel
theorem zd_Ho_isAsSeen_70 : decode prog_3_method_12_code 70 = .ok (.iconst 2, 1) := by decide +kernel
theorem zd_Ho_isAsSeen_71 : decode prog_3_method_12_code 71 = .ok (.invokevirtual 115, 3) := by decide +kernel
theorem zd_Ho_isAsSeen_74 : decode prog_3_method_12_code 74 = .ok (.if_icmp .eq 5, 3) := by decide +kernel
theorem zd_Ho_isAsSeen_77 : decode prog_3_method_12_code 77 = .ok (.iconst 0, 1) := by decide +kernel
theorem zd_Ho_isAsSeen_78 : decode prog_3_method_12_code 78 = .ok (.ireturn, 1) := by decide +kernel
theorem zd_Ho_isAsSeen_49 : decode prog_3_method_12_code 49 = .ok (.goto 30, 3) := by decide +kernel
theorem zd_Ho_isAsSeen_79 : decode prog_3_method_12_code 79 = .ok (.iinc 4 1, 3) := by decide +kernel
theorem zd_Ho_isAsSeen_82 : decode prog_3_method_12_code 82 = .ok (.goto (-79), 3) := by decide +kernel
abbrev zm_Ho_isAsSeen : zQ := ("LoofahSaints$House", prog_3_method_12_code, 6, (Option.some Jvm.ClassFile.FieldType.boolean), false)
set_option maxRecDepth 100000 in
def fn_Ho_isAsSeen_L3 (a0 : Nat) (a1 : Int32) (a2 : Nat) (a3 : Int32) (a4 : Int32) (S : zS) (K3 : Nat → Int32 → Nat → Int32 → Int32 → zS → Option (Int32 × zS)) : Option (Int32 × zS) :=
  gd (gT S a0 101) <|
  gd (gT S (zR S a0 3) 104) <|
  br (decide ((zI S (zR S a0 3) 2) ≤ a4)) (some ((1 : Int32), S)) <|
  bq (fn_Rw_cell (zR S a0 3) a4 (1 : Int32) S) fun r6 S4 =>
  gd (gT S4 a0 101) <|
  gd (gT S4 (zR S4 a0 3) 104) <|
  bq (fn_Rw_cell (zR S4 a0 3) a4 (0 : Int32) S4) fun r11 S9 =>
  br (decide (r11 = a1)) (bq (fn_Ls_isNovice r6 S9) fun r15 S13 =>
  br (decide (r15 = 0)) (K3 a0 a1 a2 a3 (a4 + (1 : Int32)) S13) <|
  gd (gT S13 a0 101) <|
  gd (gT S13 (zR S13 a0 1) 1) <|
  gd (gB r6 (zT S13 (zR S13 a0 1)).2) <|
  gd (gT S13 a2 105) <|
  bq (fn_Sa_takes a2 (zI S13 (zR S13 a0 1) r6.toNatClampNeg) a3 S13) fun r23 S21 =>
  gd (gT S21 a0 101) <|
  gd (gT S21 (zR S21 a0 3) 104) <|
  bq (fn_Rw_cell (zR S21 a0 3) a4 (2 : Int32) S21) fun r28 S26 =>
  br (decide (r23 = r28)) (K3 a0 a1 a2 a3 (a4 + (1 : Int32)) S26) <|
  some ((0 : Int32), S26)) <|
  K3 a0 a1 a2 a3 (a4 + (1 : Int32)) S9
set_option maxRecDepth 100000 in
set_option maxHeartbeats 4000000 in
theorem tm_Ho_isAsSeen_L3 {X : zXt} {d : Nat} (hd : 4 ≤ d) {v : Int32} {S' : zS}  {K3 : Nat → Int32 → Nat → Int32 → Int32 → zS → Option (Int32 × zS)} (hK3 : ∀ (a0 : Nat) (a1 : Int32) (a2 : Nat) (a3 : Int32) (a4 : Int32) (S : zS), K3 a0 a1 a2 a3 a4 S = some (v, S') → zG X zm_Ho_isAsSeen d 3 [some (.ref a0), some (.int a1), some (.ref a2), some (.int a3), some (.int a4), none] [] S (some (.int v)) S') {a0 : Nat} {a1 : Int32} {a2 : Nat} {a3 : Int32} {a4 : Int32} {S : zS} (h : fn_Ho_isAsSeen_L3 a0 a1 a2 a3 a4 S K3 = some (v, S')) : zG X zm_Ho_isAsSeen d 3 [some (.ref a0), some (.int a1), some (.ref a2), some (.int a3), some (.int a4), none] [] S (some (.int v)) S' := by
  unfold fn_Ho_isAsSeen_L3 at h
  refine zg_iload (pc' := 5) zd_Ho_isAsSeen_3 rfl rfl ?_
  refine zg_aload_n (pc' := 6) zd_Ho_isAsSeen_5 rfl rfl ?_
  obtain ⟨g1, h⟩ := gd_some h
  refine zg_getR (pc' := 9) zf_Ho_29 rfl zd_Ho_isAsSeen_6 (gT_ok g1) rfl ?_
  obtain ⟨g2, h⟩ := gd_some h
  refine zg_getI (pc' := 12) zf_Ho_114 zd_Ho_isAsSeen_9 (gT_ok g2) rfl ?_
  rcases br_some h with ⟨c3, h⟩ | ⟨c3, h⟩
  · refine zg_icmp_ge (tgt := 85) (pc' := 15) zd_Ho_isAsSeen_12 (by decide) rfl (fun _ => ?_) (fun q => absurd c3 q)
    refine zg_iconst (x := (1 : Int32)) (pc' := 86) zd_Ho_isAsSeen_85 (by decide) rfl ?_
    obtain ⟨rfl, rfl⟩ := rt_q h
    exact zg_iret zd_Ho_isAsSeen_86 (zrt_z (by decide))
  · refine zg_icmp_ge (tgt := 85) (pc' := 15) zd_Ho_isAsSeen_12 (by decide) rfl (fun q => absurd q c3) (fun _ => ?_)
    refine zg_aload_n (pc' := 16) zd_Ho_isAsSeen_15 rfl rfl ?_
    refine zg_getR (pc' := 19) zf_Ho_29 rfl zd_Ho_isAsSeen_16 (gT_ok g1) rfl ?_
    refine zg_iload (pc' := 21) zd_Ho_isAsSeen_19 rfl rfl ?_
    refine zg_iconst (x := (1 : Int32)) (pc' := 22) zd_Ho_isAsSeen_21 (by decide) rfl ?_
    obtain ⟨r6, S4, e5, h⟩ := bq_some h
    refine zg_callV (ci := 4) (As := [.int a4, .int (1 : Int32)]) (rest := []) (pc' := 25) zl_Ho_115 zq667 zq668 ⟨_, rfl, rfl⟩ zd_Ho_isAsSeen_22 rfl rfl (Nat.le_of_ble_eq_true rfl) (by omega) (gT_ok g2) (tm_Rw_cell (d := 2) (Nat.le_refl _) e5) rfl ?_
    refine zg_st (st' := [.int r6]) rfl ?_
    refine zg_istore (L' := [some (.ref a0), some (.int a1), some (.ref a2), some (.int a3), some (.int a4), some (.int r6)]) (pc' := 27) zd_Ho_isAsSeen_25 (by decide) rfl rfl ?_
    refine zg_aload_n (pc' := 28) zd_Ho_isAsSeen_27 rfl rfl ?_
    obtain ⟨g7, h⟩ := gd_some h
    refine zg_getR (pc' := 31) zf_Ho_29 rfl zd_Ho_isAsSeen_28 (gT_ok g7) rfl ?_
    refine zg_iload (pc' := 33) zd_Ho_isAsSeen_31 rfl rfl ?_
    refine zg_iconst (x := (0 : Int32)) (pc' := 34) zd_Ho_isAsSeen_33 (by decide) rfl ?_
    obtain ⟨g8, h⟩ := gd_some h
    obtain ⟨r11, S9, e10, h⟩ := bq_some h
    refine zg_callV (ci := 4) (As := [.int a4, .int (0 : Int32)]) (rest := []) (pc' := 37) zl_Ho_115 zq667 zq668 ⟨_, rfl, rfl⟩ zd_Ho_isAsSeen_34 rfl rfl (Nat.le_of_ble_eq_true rfl) (by omega) (gT_ok g8) (tm_Rw_cell (d := 2) (Nat.le_refl _) e10) rfl ?_
    refine zg_st (st' := [.int r11]) rfl ?_
    refine zg_iload_n (pc' := 38) zd_Ho_isAsSeen_37 rfl rfl ?_
    rcases br_some h with ⟨c12, h⟩ | ⟨c12, h⟩
    · refine zg_icmp_ne (tgt := 79) (pc' := 41) zd_Ho_isAsSeen_38 (by decide) rfl (fun q => absurd c12 q) (fun _ => ?_)
      refine zg_iload (pc' := 43) zd_Ho_isAsSeen_41 rfl rfl ?_
      obtain ⟨r15, S13, e14, h⟩ := bq_some h
      refine zg_callSN (As := [.int r6]) (rest := []) (pc' := 46) zl_Ho_83 zq349 zd_Ho_isAsSeen_43 rfl rfl (Nat.le_of_ble_eq_true rfl) (by omega) (tm_Ls_isNovice (d := 2) (Nat.le_refl _) e14) rfl ?_
      refine zg_st (st' := [.int r15]) rfl ?_
      rcases br_some h with ⟨c16, h⟩ | ⟨c16, h⟩
      · refine zg_if_ne (tgt := 52) (pc' := 49) zd_Ho_isAsSeen_46 (by decide) rfl (fun q => absurd c16 q) (fun _ => ?_)
        refine zg_goto (tgt := 79) zd_Ho_isAsSeen_49 (by decide) ?_
        refine zg_iinc (y := (a4 + (1 : Int32))) (L' := [some (.ref a0), some (.int a1), some (.ref a2), some (.int a3), some (.int (a4 + (1 : Int32))), some (.int r6)]) (pc' := 82) zd_Ho_isAsSeen_79 rfl rfl (by decide) rfl rfl ?_
        refine zg_goto (tgt := 3) zd_Ho_isAsSeen_82 (by decide) ?_
        refine zg_mask (L' := [some (.ref a0), some (.int a1), some (.ref a2), some (.int a3), some (.int (a4 + (1 : Int32))), none]) (zmk_ok _ _ ⟨rfl, ⟨rfl, ⟨rfl, ⟨rfl, ⟨rfl, trivial⟩⟩⟩⟩⟩) ?_
        exact hK3 _ _ _ _ _ _ h
      · refine zg_if_ne (tgt := 52) (pc' := 49) zd_Ho_isAsSeen_46 (by decide) rfl (fun _ => ?_) (fun q => absurd q c16)
        refine zg_aload_n (pc' := 53) zd_Ho_isAsSeen_52 rfl rfl ?_
        refine zg_aload_n (pc' := 54) zd_Ho_isAsSeen_53 rfl rfl ?_
        obtain ⟨g17, h⟩ := gd_some h
        refine zg_getR (pc' := 57) zf_Ho_17 rfl zd_Ho_isAsSeen_54 (gT_ok g17) rfl ?_
        refine zg_iload (pc' := 59) zd_Ho_isAsSeen_57 rfl rfl ?_
        obtain ⟨g18, h⟩ := gd_some h
        obtain ⟨g19, h⟩ := gd_some h
        refine zg_iald (pc' := 60) zd_Ho_isAsSeen_59 (gT_ok g18) (gB_ok g19) rfl ?_
        refine zg_iload_n (pc' := 61) zd_Ho_isAsSeen_60 rfl rfl ?_
        obtain ⟨g20, h⟩ := gd_some h
        obtain ⟨r23, S21, e22, h⟩ := bq_some h
        refine zg_callV (ci := 5) (As := [.int (zI S13 (zR S13 a0 1) r6.toNatClampNeg), .int a3]) (rest := []) (pc' := 64) zl_Ho_68 zq373 zq374 ⟨_, rfl, rfl⟩ zd_Ho_isAsSeen_61 rfl rfl (Nat.le_of_ble_eq_true rfl) (by omega) (gT_ok g20) (tm_Sa_takes (d := 3) (Nat.le_refl _) e22) rfl ?_
        refine zg_st (st' := [.int r23]) rfl ?_
        refine zg_aload_n (pc' := 65) zd_Ho_isAsSeen_64 rfl rfl ?_
        obtain ⟨g24, h⟩ := gd_some h
        refine zg_getR (pc' := 68) zf_Ho_29 rfl zd_Ho_isAsSeen_65 (gT_ok g24) rfl ?_
        refine zg_iload (pc' := 70) zd_Ho_isAsSeen_68 rfl rfl ?_
        refine zg_iconst (x := (2 : Int32)) (pc' := 71) zd_Ho_isAsSeen_70 (by decide) rfl ?_
        obtain ⟨g25, h⟩ := gd_some h
        obtain ⟨r28, S26, e27, h⟩ := bq_some h
        refine zg_callV (ci := 4) (As := [.int a4, .int (2 : Int32)]) (rest := [.int r23]) (pc' := 74) zl_Ho_115 zq667 zq668 ⟨_, rfl, rfl⟩ zd_Ho_isAsSeen_71 rfl rfl (Nat.le_of_ble_eq_true rfl) (by omega) (gT_ok g25) (tm_Rw_cell (d := 2) (Nat.le_refl _) e27) rfl ?_
        refine zg_st (st' := [.int r28, .int r23]) rfl ?_
        rcases br_some h with ⟨c29, h⟩ | ⟨c29, h⟩
        · refine zg_icmp_eq (tgt := 79) (pc' := 77) zd_Ho_isAsSeen_74 (by decide) rfl (fun _ => ?_) (fun q => absurd c29 q)
          refine zg_iinc (y := (a4 + (1 : Int32))) (L' := [some (.ref a0), some (.int a1), some (.ref a2), some (.int a3), some (.int (a4 + (1 : Int32))), some (.int r6)]) (pc' := 82) zd_Ho_isAsSeen_79 rfl rfl (by decide) rfl rfl ?_
          refine zg_goto (tgt := 3) zd_Ho_isAsSeen_82 (by decide) ?_
          refine zg_mask (L' := [some (.ref a0), some (.int a1), some (.ref a2), some (.int a3), some (.int (a4 + (1 : Int32))), none]) (zmk_ok _ _ ⟨rfl, ⟨rfl, ⟨rfl, ⟨rfl, ⟨rfl, trivial⟩⟩⟩⟩⟩) ?_
          exact hK3 _ _ _ _ _ _ h
        · refine zg_icmp_eq (tgt := 79) (pc' := 77) zd_Ho_isAsSeen_74 (by decide) rfl (fun q => absurd q c29) (fun _ => ?_)
          refine zg_iconst (x := (0 : Int32)) (pc' := 78) zd_Ho_isAsSeen_77 (by decide) rfl ?_
          obtain ⟨rfl, rfl⟩ := rt_q h
          exact zg_iret zd_Ho_isAsSeen_78 (zrt_z (by decide))
    · refine zg_icmp_ne (tgt := 79) (pc' := 41) zd_Ho_isAsSeen_38 (by decide) rfl (fun _ => ?_) (fun q => absurd q c12)
      refine zg_iinc (y := (a4 + (1 : Int32))) (L' := [some (.ref a0), some (.int a1), some (.ref a2), some (.int a3), some (.int (a4 + (1 : Int32))), some (.int r6)]) (pc' := 82) zd_Ho_isAsSeen_79 rfl rfl (by decide) rfl rfl ?_
      refine zg_goto (tgt := 3) zd_Ho_isAsSeen_82 (by decide) ?_
      refine zg_mask (L' := [some (.ref a0), some (.int a1), some (.ref a2), some (.int a3), some (.int (a4 + (1 : Int32))), none]) (zmk_ok _ _ ⟨rfl, ⟨rfl, ⟨rfl, ⟨rfl, ⟨rfl, trivial⟩⟩⟩⟩⟩) ?_
      exact hK3 _ _ _ _ _ _ h
set_option maxRecDepth 100000 in
def fn_Ho_isAsSeen (a0 : Nat) (a1 : Int32) (a2 : Nat) (a3 : Int32) (S : zS) : Option (Int32 × zS) :=
  lp (σ := Nat × Int32 × Nat × Int32 × Int32 × zS) (fun k s => fn_Ho_isAsSeen_L3 s.1 s.2.1 s.2.2.1 s.2.2.2.1 s.2.2.2.2.1 s.2.2.2.2.2 (fun (a0 : Nat) (a1 : Int32) (a2 : Nat) (a3 : Int32) (a4 : Int32) (S : zS) => k (a0, a1, a2, a3, a4, S))) FU (a0, a1, a2, a3, (0 : Int32), S)
set_option maxRecDepth 100000 in
set_option maxHeartbeats 4000000 in
theorem tm_Ho_isAsSeen {X : zXt} {d : Nat} (hd : 4 ≤ d) {v : Int32} {a0 : Nat} {a1 : Int32} {a2 : Nat} {a3 : Int32} {S : zS} {S' : zS} (h : fn_Ho_isAsSeen a0 a1 a2 a3 S = some (v, S')) : zM X zy_Ho_isAsSeen prog_3_method_12_code 6 (Option.some Jvm.ClassFile.FieldType.boolean) d [.ref a0, .int a1, .ref a2, .int a3] S (some (.int v)) S' := by
  refine zM_of (ini := false) (L := [some (.ref a0), some (.int a1), some (.ref a2), some (.int a3), none, none]) (plainFor_of_name (by decide)) (fun h => by cases h) (Nat.le_of_ble_eq_true rfl) rfl ?_
  unfold fn_Ho_isAsSeen at h
  refine zg_iconst (x := (0 : Int32)) (pc' := 1) zd_Ho_isAsSeen_0 (by decide) rfl ?_
  refine zg_istore (L' := [some (.ref a0), some (.int a1), some (.ref a2), some (.int a3), some (.int (0 : Int32)), none]) (pc' := 3) zd_Ho_isAsSeen_1 (by decide) rfl rfl ?_
  exact lp_indh h (P := fun s => zG X zm_Ho_isAsSeen d 3 [some (.ref (s.1)), some (.int (s.2.1)), some (.ref (s.2.2.1)), some (.int (s.2.2.2.1)), some (.int (s.2.2.2.2.1)), none] [] (s.2.2.2.2.2) (some (.int v)) S') (fun k hk s h => tm_Ho_isAsSeen_L3 hd (fun a0 a1 a2 a3 a4 S h => hk (a0, a1, a2, a3, a4, S) h) h)
