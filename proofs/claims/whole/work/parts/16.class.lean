theorem zd_Ls_init_0 : decode prog_1_method_1_code 0 = .ok (.aload_n 0, 1) := by decide +kernel
theorem zd_Ls_init_1 : decode prog_1_method_1_code 1 = .ok (.invokespecial 3, 3) := by decide +kernel
theorem zd_Ls_init_4 : decode prog_1_method_1_code 4 = .ok (.aload_n 0, 1) := by decide +kernel
theorem zd_Ls_init_5 : decode prog_1_method_1_code 5 = .ok (.bipush 6, 2) := by decide +kernel
theorem zd_Ls_init_7 : decode prog_1_method_1_code 7 = .ok (.anewarray 11, 3) := by decide +kernel
theorem zd_Ls_init_10 : decode prog_1_method_1_code 10 = .ok (.putfield 13, 3) := by decide +kernel
theorem zd_Ls_init_13 : decode prog_1_method_1_code 13 = .ok (.aload_n 0, 1) := by decide +kernel
theorem zd_Ls_init_14 : decode prog_1_method_1_code 14 = .ok (.bipush 6, 2) := by decide +kernel
theorem zd_Ls_init_16 : decode prog_1_method_1_code 16 = .ok (.anewarray 17, 3) := by decide +kernel
theorem zd_Ls_init_19 : decode prog_1_method_1_code 19 = .ok (.putfield 19, 3) := by decide +kernel
theorem zd_Ls_init_22 : decode prog_1_method_1_code 22 = .ok (.aload_n 0, 1) := by decide +kernel
theorem zd_Ls_init_23 : decode prog_1_method_1_code 23 = .ok (.new 23, 3) := by decide +kernel
theorem zd_Ls_init_26 : decode prog_1_method_1_code 26 = .ok (.dup, 1) := by decide +kernel
theorem zd_Ls_init_27 : decode prog_1_method_1_code 27 = .ok (.invokespecial 25, 3) := by decide +kernel
theorem zd_Ls_init_30 : decode prog_1_method_1_code 30 = .ok (.putfield 26, 3) := by decide +kernel
theorem zd_Ls_init_33 : decode prog_1_method_1_code 33 = .ok (.aload_n 0, 1) := by decide +kernel
theorem zd_Ls_init_34 : decode prog_1_method_1_code 34 = .ok (.new 30, 3) := by decide +kernel
theorem zd_Ls_init_37 : decode prog_1_method_1_code 37 = .ok (.dup, 1) := by decide +kernel
theorem zd_Ls_init_38 : decode prog_1_method_1_code 38 = .ok (.invokespecial 32, 3) := by decide +kernel
theorem zd_Ls_init_41 : decode prog_1_method_1_code 41 = .ok (.putfield 33, 3) := by decide +kernel
theorem zd_Ls_init_44 : decode prog_1_method_1_code 44 = .ok (.aload_n 0, 1) := by decide +kernel
theorem zd_Ls_init_45 : decode prog_1_method_1_code 45 = .ok (.new 37, 3) := by decide +kernel
theorem zd_Ls_init_48 : decode prog_1_method_1_code 48 = .ok (.dup, 1) := by decide +kernel
theorem zd_Ls_init_49 : decode prog_1_method_1_code 49 = .ok (.invokespecial 39, 3) := by decide +kernel
theorem zd_Ls_init_52 : decode prog_1_method_1_code 52 = .ok (.putfield 40, 3) := by decide +kernel
theorem zd_Ls_init_55 : decode prog_1_method_1_code 55 = .ok (.aload_n 0, 1) := by decide +kernel
theorem zd_Ls_init_56 : decode prog_1_method_1_code 56 = .ok (.new 44, 3) := by decide +kernel
theorem zd_Ls_init_59 : decode prog_1_method_1_code 59 = .ok (.dup, 1) := by decide +kernel
theorem zd_Ls_init_60 : decode prog_1_method_1_code 60 = .ok (.invokespecial 46, 3) := by decide +kernel
theorem zd_Ls_init_63 : decode prog_1_method_1_code 63 = .ok (.putfield 47, 3) := by decide +kernel
theorem zd_Ls_init_66 : decode prog_1_method_1_code 66 = .ok (.aload_n 0, 1) := by decide +kernel
theorem zd_Ls_init_67 : decode prog_1_method_1_code 67 = .ok (.new 51, 3) := by decide +kernel
theorem zd_Ls_init_70 : decode prog_1_method_1_code 70 = .ok (.dup, 1) := by decide +kernel
theorem zd_Ls_init_71 : decode prog_1_method_1_code 71 = .ok (.iconst 0, 1) := by decide +kernel
theorem zd_Ls_init_72 : decode prog_1_method_1_code 72 = .ok (.invokespecial 53, 3) := by decide +kernel
theorem zd_Ls_init_75 : decode prog_1_method_1_code 75 = .ok (.putfield 56, 3) := by decide +kernel
theorem zd_Ls_init_78 : decode prog_1_method_1_code 78 = .ok (.aload_n 0, 1) := by decide +kernel
theorem zd_Ls_init_79 : decode prog_1_method_1_code 79 = .ok (.iconst 0, 1) := by decide +kernel
theorem zd_Ls_init_80 : decode prog_1_method_1_code 80 = .ok (.putfield 60, 3) := by decide +kernel
theorem zd_Ls_init_83 : decode prog_1_method_1_code 83 = .ok (.aload_n 0, 1) := by decide +kernel
theorem zd_Ls_init_84 : decode prog_1_method_1_code 84 = .ok (.iconst 0, 1) := by decide +kernel
theorem zd_Ls_init_85 : decode prog_1_method_1_code 85 = .ok (.putfield 64, 3) := by decide +kernel
theorem zd_Ls_init_88 : decode prog_1_method_1_code 88 = .ok (.new 11, 3) := by decide +kernel
theorem zd_Ls_init_91 : decode prog_1_method_1_code 91 = .ok (.dup, 1) := by decide +kernel
theorem zd_Ls_init_92 : decode prog_1_method_1_code 92 = .ok (.iconst 0, 1) := by decide +kernel
theorem zd_Ls_init_93 : decode prog_1_method_1_code 93 = .ok (.invokespecial 68, 3) := by decide +kernel
theorem zd_Ls_init_96 : decode prog_1_method_1_code 96 = .ok (.astore_n 1, 1) := by decide +kernel
theorem zd_Ls_init_97 : decode prog_1_method_1_code 97 = .ok (.aload_n 0, 1) := by decide +kernel
theorem zd_Ls_init_98 : decode prog_1_method_1_code 98 = .ok (.new 69, 3) := by decide +kernel
theorem zd_Ls_init_101 : decode prog_1_method_1_code 101 = .ok (.dup, 1) := by decide +kernel
theorem zd_Ls_init_102 : decode prog_1_method_1_code 102 = .ok (.aload_n 1, 1) := by decide +kernel
theorem zd_Ls_init_103 : decode prog_1_method_1_code 103 = .ok (.invokespecial 71, 3) := by decide +kernel
theorem zd_Ls_init_106 : decode prog_1_method_1_code 106 = .ok (.putfield 74, 3) := by decide +kernel
theorem zd_Ls_init_109 : decode prog_1_method_1_code 109 = .ok (.aload_n 0, 1) := by decide +kernel
theorem zd_Ls_init_110 : decode prog_1_method_1_code 110 = .ok (.new 69, 3) := by decide +kernel
theorem zd_Ls_init_113 : decode prog_1_method_1_code 113 = .ok (.dup, 1) := by decide +kernel
theorem zd_Ls_init_114 : decode prog_1_method_1_code 114 = .ok (.aload_n 1, 1) := by decide +kernel
theorem zd_Ls_init_115 : decode prog_1_method_1_code 115 = .ok (.invokespecial 71, 3) := by decide +kernel
theorem zd_Ls_init_118 : decode prog_1_method_1_code 118 = .ok (.putfield 78, 3) := by decide +kernel
theorem zd_Ls_init_121 : decode prog_1_method_1_code 121 = .ok (.aload_n 0, 1) := by decide +kernel
theorem zd_Ls_init_122 : decode prog_1_method_1_code 122 = .ok (.new 69, 3) := by decide +kernel
theorem zd_Ls_init_125 : decode prog_1_method_1_code 125 = .ok (.dup, 1) := by decide +kernel
theorem zd_Ls_init_126 : decode prog_1_method_1_code 126 = .ok (.aload_n 1, 1) := by decide +kernel
theorem zd_Ls_init_127 : decode prog_1_method_1_code 127 = .ok (.invokespecial 71, 3) := by decide +kernel
theorem zd_Ls_init_130 : decode prog_1_method_1_code 130 = .ok (.putfield 81, 3) := by decide +kernel
theorem zd_Ls_init_133 : decode prog_1_method_1_code 133 = .ok (.iconst 0, 1) := by decide +kernel
theorem zd_Ls_init_134 : decode prog_1_method_1_code 134 = .ok (.istore_n 2, 1) := by decide +kernel
theorem zd_Ls_init_135 : decode prog_1_method_1_code 135 = .ok (.iload_n 2, 1) := by decide +kernel
theorem zd_Ls_init_136 : decode prog_1_method_1_code 136 = .ok (.bipush 6, 2) := by decide +kernel
theorem zd_Ls_init_138 : decode prog_1_method_1_code 138 = .ok (.if_icmp .ge 24, 3) := by decide +kernel
theorem zd_Ls_init_162 : decode prog_1_method_1_code 162 = .ok (.iconst 0, 1) := by decide +kernel
theorem zd_Ls_init_163 : decode prog_1_method_1_code 163 = .ok (.istore_n 2, 1) := by decide +kernel
theorem zd_Ls_init_164 : decode prog_1_method_1_code 164 = .ok (.iload_n 2, 1) := by decide +kernel
theorem zd_Ls_init_165 : decode prog_1_method_1_code 165 = .ok (.bipush 6, 2) := by decide +kernel
theorem zd_Ls_init_167 : decode prog_1_method_1_code 167 = .ok (.if_icmp .ge 22, 3) := by decide +kernel
theorem zd_Ls_init_189 : decode prog_1_method_1_code 189 = .ok (.return_, 1) := by decide +kernel
theorem zd_Ls_init_170 : decode prog_1_method_1_code 170 = .ok (.aload_n 0, 1) := by decide +kernel
theorem zd_Ls_init_171 : decode prog_1_method_1_code 171 = .ok (.getfield 19, 3) := by decide +kernel
theorem zd_Ls_init_174 : decode prog_1_method_1_code 174 = .ok (.iload_n 2, 1) := by decide +kernel
theorem zd_Ls_init_175 : decode prog_1_method_1_code 175 = .ok (.new 17, 3) := by decide +kernel
theorem zd_Ls_init_178 : decode prog_1_method_1_code 178 = .ok (.dup, 1) := by decide +kernel
theorem zd_Ls_init_179 : decode prog_1_method_1_code 179 = .ok (.invokespecial 84, 3) := by decide +kernel
theorem zd_Ls_init_182 : decode prog_1_method_1_code 182 = .ok (.aastore, 1) := by decide +kernel
theorem zd_Ls_init_183 : decode prog_1_method_1_code 183 = .ok (.iinc 2 1, 3) := by decide +kernel
theorem zd_Ls_init_186 : decode prog_1_method_1_code 186 = .ok (.goto (-22), 3) := by decide +kernel
theorem zd_Ls_init_141 : decode prog_1_method_1_code 141 = .ok (.aload_n 0, 1) := by decide +kernel
theorem zd_Ls_init_142 : decode prog_1_method_1_code 142 = .ok (.getfield 13, 3) := by decide +kernel
theorem zd_Ls_init_145 : decode prog_1_method_1_code 145 = .ok (.iload_n 2, 1) := by decide +kernel
theorem zd_Ls_init_146 : decode prog_1_method_1_code 146 = .ok (.new 11, 3) := by decide +kernel
theorem zd_Ls_init_149 : decode prog_1_method_1_code 149 = .ok (.dup, 1) := by decide +kernel
theorem zd_Ls_init_150 : decode prog_1_method_1_code 150 = .ok (.bipush 100, 2) := by decide +kernel
theorem zd_Ls_init_152 : decode prog_1_method_1_code 152 = .ok (.invokespecial 68, 3) := by decide +kernel
theorem zd_Ls_init_155 : decode prog_1_method_1_code 155 = .ok (.aastore, 1) := by decide +kernel
theorem zd_Ls_init_156 : decode prog_1_method_1_code 156 = .ok (.iinc 2 1, 3) := by decide +kernel
theorem zd_Ls_init_159 : decode prog_1_method_1_code 159 = .ok (.goto (-24), 3) := by decide +kernel
abbrev zm_Ls_init : zQ := ("LoofahSaints", prog_1_method_1_code, 3, (Option.none : Option Jvm.ClassFile.FieldType), true)
set_option maxRecDepth 100000 in
def fn_Ls_init_L164 (a0 : Nat) (a2 : Int32) (S : zS) (K164 : Nat → Int32 → zS → Option (zS)) : Option (zS) :=
  br (decide ((6 : Int32) ≤ a2)) (some S) <|
  gd (gT S a0 109) <|
  nm (uN S (100 + 8, 3)) fun S3 =>
  gd (gT S3 (zN S) 108) <|
  bv (fn_Ta_init (zN S) S3) fun S5 =>
  gd (gT S5 (zR S a0 1) 5) <|
  gd (gB a2 (zT S5 (zR S a0 1)).2) <|
  gd (gT S5 (zN S) 108) <|
  nm (uR S5 (zR S a0 1) a2.toNatClampNeg (zN S)) fun S10 =>
  K164 a0 (a2 + (1 : Int32)) S10
set_option maxRecDepth 100000 in
set_option maxHeartbeats 4000000 in
theorem tm_Ls_init_L164 {X : zXt} {d : Nat} (hd : 4 ≤ d) {S' : zS}  {K164 : Nat → Int32 → zS → Option (zS)} (hK164 : ∀ (a0 : Nat) (a2 : Int32) (S : zS), K164 a0 a2 S = some S' → zG X zm_Ls_init d 164 [some (.ref a0), none, some (.int a2)] [] S none S') {a0 : Nat} {a2 : Int32} {S : zS} (h : fn_Ls_init_L164 a0 a2 S K164 = some S') : zG X zm_Ls_init d 164 [some (.ref a0), none, some (.int a2)] [] S none S' := by
  unfold fn_Ls_init_L164 at h
  refine zg_iload_n (pc' := 165) zd_Ls_init_164 rfl rfl ?_
  refine zg_bipush (x := (6 : Int32)) (pc' := 167) zd_Ls_init_165 (by decide) rfl ?_
  rcases br_some h with ⟨c1, h⟩ | ⟨c1, h⟩
  · refine zg_icmp_ge (tgt := 189) (pc' := 170) zd_Ls_init_167 (by decide) rfl (fun _ => ?_) (fun q => absurd c1 q)
    obtain rfl := rt_v h
    exact zg_vret zd_Ls_init_189 rfl
  · refine zg_icmp_ge (tgt := 189) (pc' := 170) zd_Ls_init_167 (by decide) rfl (fun q => absurd q c1) (fun _ => ?_)
    refine zg_aload_n (pc' := 171) zd_Ls_init_170 rfl rfl ?_
    obtain ⟨g2, h⟩ := gd_some h
    refine zg_getR (pc' := 174) zf_Ls_19 rfl zd_Ls_init_171 (gT_ok g2) rfl ?_
    refine zg_iload_n (pc' := 175) zd_Ls_init_174 rfl rfl ?_
    refine zg_new (pc' := 178) zc_Ls_17 zd_Ls_init_175 rfl ?_
    obtain ⟨S3, eS3, h⟩ := nm_some h
    refine zg_nm eS3 ?_
    refine zg_dup (pc' := 179) zd_Ls_init_178 rfl rfl ?_
    obtain ⟨g4, h⟩ := gd_some h
    obtain ⟨S5, e6, h⟩ := bv_some h
    refine zg_callIN (ci := 8) (As := []) (rest := [.ref (zN S), .int a2, .ref (zR S a0 1)]) (pc' := 182) zl_Ls_84 zq272 rfl ⟨_, rfl, rfl⟩ zd_Ls_init_179 rfl rfl (Nat.le_of_ble_eq_true rfl) (by omega) (gT_ok g4) (tm_Ta_init (d := 2) (Nat.le_refl _) e6) rfl ?_
    refine zg_st (st' := [.ref (zN S), .int a2, .ref (zR S a0 1)]) rfl ?_
    obtain ⟨g7, h⟩ := gd_some h
    obtain ⟨g8, h⟩ := gd_some h
    obtain ⟨g9, h⟩ := gd_some h
    refine zg_aast (t := 5) (pc' := 183) (by decide) zd_Ls_init_182 (gT_ok g7) (gB_ok g8) (gT_ok g9) rfl ?_
    obtain ⟨S10, eS10, h⟩ := nm_some h
    refine zg_nm eS10 ?_
    refine zg_iinc (y := (a2 + (1 : Int32))) (L' := [some (.ref a0), none, some (.int (a2 + (1 : Int32)))]) (pc' := 186) zd_Ls_init_183 rfl rfl (by decide) rfl rfl ?_
    refine zg_goto (tgt := 164) zd_Ls_init_186 (by decide) ?_
    exact hK164 _ _ _ h
set_option maxRecDepth 100000 in
def fn_Ls_init_L135 (a0 : Nat) (a2 : Int32) (S : zS) (K135 : Nat → Int32 → zS → Option (zS)) : Option (zS) :=
  br (decide ((6 : Int32) ≤ a2)) (lp (σ := Nat × Int32 × zS) (fun k s => fn_Ls_init_L164 s.1 s.2.1 s.2.2 (fun (a0 : Nat) (a2 : Int32) (S : zS) => k (a0, a2, S))) FU (a0, (0 : Int32), S)) <|
  gd (gT S a0 109) <|
  nm (uN S (100 + 2, 4)) fun S3 =>
  gd (gT S3 (zN S) 102) <|
  bv (fn_Or_init (zN S) (100 : Int32) S3) fun S5 =>
  gd (gT S5 (zR S a0 0) 4) <|
  gd (gB a2 (zT S5 (zR S a0 0)).2) <|
  gd (gT S5 (zN S) 102) <|
  nm (uR S5 (zR S a0 0) a2.toNatClampNeg (zN S)) fun S10 =>
  K135 a0 (a2 + (1 : Int32)) S10
set_option maxRecDepth 100000 in
set_option maxHeartbeats 4000000 in
theorem tm_Ls_init_L135 {X : zXt} {d : Nat} (hd : 4 ≤ d) {S' : zS}  {K135 : Nat → Int32 → zS → Option (zS)} (hK135 : ∀ (a0 : Nat) (a2 : Int32) (S : zS), K135 a0 a2 S = some S' → zG X zm_Ls_init d 135 [some (.ref a0), none, some (.int a2)] [] S none S') {a0 : Nat} {a2 : Int32} {S : zS} (h : fn_Ls_init_L135 a0 a2 S K135 = some S') : zG X zm_Ls_init d 135 [some (.ref a0), none, some (.int a2)] [] S none S' := by
  unfold fn_Ls_init_L135 at h
  refine zg_iload_n (pc' := 136) zd_Ls_init_135 rfl rfl ?_
  refine zg_bipush (x := (6 : Int32)) (pc' := 138) zd_Ls_init_136 (by decide) rfl ?_
  rcases br_some h with ⟨c1, h⟩ | ⟨c1, h⟩
  · refine zg_icmp_ge (tgt := 162) (pc' := 141) zd_Ls_init_138 (by decide) rfl (fun _ => ?_) (fun q => absurd c1 q)
    refine zg_iconst (x := (0 : Int32)) (pc' := 163) zd_Ls_init_162 (by decide) rfl ?_
    refine zg_istore_n (L' := [some (.ref a0), none, some (.int (0 : Int32))]) (pc' := 164) zd_Ls_init_163 (by decide) rfl rfl ?_
    exact lp_indh h (P := fun s => zG X zm_Ls_init d 164 [some (.ref (s.1)), none, some (.int (s.2.1))] [] (s.2.2) none S') (fun k hk s h => tm_Ls_init_L164 hd (fun a0 a2 S h => hk (a0, a2, S) h) h)
  · refine zg_icmp_ge (tgt := 162) (pc' := 141) zd_Ls_init_138 (by decide) rfl (fun q => absurd q c1) (fun _ => ?_)
    refine zg_aload_n (pc' := 142) zd_Ls_init_141 rfl rfl ?_
    obtain ⟨g2, h⟩ := gd_some h
    refine zg_getR (pc' := 145) zf_Ls_13 rfl zd_Ls_init_142 (gT_ok g2) rfl ?_
    refine zg_iload_n (pc' := 146) zd_Ls_init_145 rfl rfl ?_
    refine zg_new (pc' := 149) zc_Ls_11 zd_Ls_init_146 rfl ?_
    obtain ⟨S3, eS3, h⟩ := nm_some h
    refine zg_nm eS3 ?_
    refine zg_dup (pc' := 150) zd_Ls_init_149 rfl rfl ?_
    refine zg_bipush (x := (100 : Int32)) (pc' := 152) zd_Ls_init_150 (by decide) rfl ?_
    obtain ⟨g4, h⟩ := gd_some h
    obtain ⟨S5, e6, h⟩ := bv_some h
    refine zg_callI (ci := 2) (As := [.int (100 : Int32)]) (rest := [.ref (zN S), .int a2, .ref (zR S a0 0)]) (pc' := 155) zl_Ls_68 zq40 rfl ⟨_, rfl, rfl⟩ zd_Ls_init_152 rfl rfl (Nat.le_of_ble_eq_true rfl) (by omega) (gT_ok g4) (tm_Or_init (d := 2) (Nat.le_refl _) e6) rfl ?_
    refine zg_st (st' := [.ref (zN S), .int a2, .ref (zR S a0 0)]) rfl ?_
    obtain ⟨g7, h⟩ := gd_some h
    obtain ⟨g8, h⟩ := gd_some h
    obtain ⟨g9, h⟩ := gd_some h
    refine zg_aast (t := 4) (pc' := 156) (by decide) zd_Ls_init_155 (gT_ok g7) (gB_ok g8) (gT_ok g9) rfl ?_
    obtain ⟨S10, eS10, h⟩ := nm_some h
    refine zg_nm eS10 ?_
    refine zg_iinc (y := (a2 + (1 : Int32))) (L' := [some (.ref a0), none, some (.int (a2 + (1 : Int32)))]) (pc' := 159) zd_Ls_init_156 rfl rfl (by decide) rfl rfl ?_
    refine zg_goto (tgt := 135) zd_Ls_init_159 (by decide) ?_
    exact hK135 _ _ _ h
set_option maxRecDepth 100000 in
def fn_Ls_init (a0 : Nat) (S : zS) : Option (zS) :=
  gd (gT S a0 109) <|
  gd (gN (6 : Int32)) <|
  nm (uN S (4, (6 : Int32).toNatClampNeg)) fun S3 =>
  gd (gT S3 a0 109) <|
  nm (uR S3 a0 0 (zN S)) fun S5 =>
  nm (uN S5 (5, (6 : Int32).toNatClampNeg)) fun S6 =>
  gd (gT S6 a0 109) <|
  nm (uR S6 a0 1 (zN S5)) fun S8 =>
  nm (uN S8 (100 + 3, 5)) fun S9 =>
  gd (gT S9 (zN S8) 103) <|
  bv (fn_Re_init (zN S8) S9) fun S11 =>
  gd (gT S11 a0 109) <|
  nm (uR S11 a0 2 (zN S8)) fun S14 =>
  nm (uN S14 (100 + 7, 5)) fun S15 =>
  gd (gT S15 (zN S14) 107) <|
  bv (fn_Sh_init (zN S14) S15) fun S17 =>
  gd (gT S17 a0 109) <|
  nm (uR S17 a0 3 (zN S14)) fun S20 =>
  nm (uN S20 (100 + 6, 5)) fun S21 =>
  gd (gT S21 (zN S20) 106) <|
  bv (fn_Sc_init (zN S20) S21) fun S23 =>
  gd (gT S23 a0 109) <|
  nm (uR S23 a0 4 (zN S20)) fun S26 =>
  nm (uN S26 (100 + 0, 3)) fun S27 =>
  gd (gT S27 (zN S26) 100) <|
  bv (fn_Ac_init (zN S26) S27) fun S29 =>
  gd (gT S29 a0 109) <|
  nm (uR S29 a0 5 (zN S26)) fun S32 =>
  nm (uN S32 (100 + 5, 8)) fun S33 =>
  gd (gT S33 (zN S32) 105) <|
  bv (fn_Sa_init (zN S32) (0 : Int32) S33) fun S35 =>
  gd (gT S35 a0 109) <|
  nm (uR S35 a0 6 (zN S32)) fun S38 =>
  gd (gT S38 a0 109) <|
  nm (uI S38 a0 10 (0 : Int32)) fun S40 =>
  gd (gT S40 a0 109) <|
  nm (uI S40 a0 11 (0 : Int32)) fun S42 =>
  nm (uN S42 (100 + 2, 4)) fun S43 =>
  gd (gT S43 (zN S42) 102) <|
  bv (fn_Or_init (zN S42) (0 : Int32) S43) fun S45 =>
  nm (uN S45 (100 + 1, 9)) fun S47 =>
  gd (gT S47 (zN S45) 101) <|
  bv (fn_Ho_init (zN S45) (zN S42) S47) fun S49 =>
  gd (gT S49 a0 109) <|
  nm (uR S49 a0 7 (zN S45)) fun S52 =>
  nm (uN S52 (100 + 1, 9)) fun S53 =>
  gd (gT S53 (zN S52) 101) <|
  bv (fn_Ho_init (zN S52) (zN S42) S53) fun S55 =>
  gd (gT S55 a0 109) <|
  nm (uR S55 a0 8 (zN S52)) fun S58 =>
  nm (uN S58 (100 + 1, 9)) fun S59 =>
  gd (gT S59 (zN S58) 101) <|
  bv (fn_Ho_init (zN S58) (zN S42) S59) fun S61 =>
  gd (gT S61 a0 109) <|
  nm (uR S61 a0 9 (zN S58)) fun S64 =>
  lp (σ := Nat × Int32 × zS) (fun k s => fn_Ls_init_L135 s.1 s.2.1 s.2.2 (fun (a0 : Nat) (a2 : Int32) (S : zS) => k (a0, a2, S))) FU (a0, (0 : Int32), S64)
set_option maxRecDepth 100000 in
set_option maxHeartbeats 4000000 in
theorem tm_Ls_init {X : zXt} {d : Nat} (hd : 4 ≤ d) {a0 : Nat} {S : zS} {S' : zS} (h : fn_Ls_init a0 S = some S') : zM X zy_Ls_init prog_1_method_1_code 3 (Option.none : Option Jvm.ClassFile.FieldType) d [.ref a0] S none S' := by
  refine zM_of (ini := true) (L := [some (.ref a0), none, none]) (plainFor_of_name (by decide)) (fun _ => rfl) (Nat.le_of_ble_eq_true rfl) rfl ?_
  unfold fn_Ls_init at h
  refine zg_aload_n (pc' := 1) zd_Ls_init_0 rfl rfl ?_
  obtain ⟨g1, h⟩ := gd_some h
  refine zg_oinit (ci := 9) (pc' := 4) zq24 zq25 zq26 zd_Ls_init_1 (by omega) (gT_ok g1) (Nat.le_of_ble_eq_true rfl) rfl ?_
  refine zg_aload_n (pc' := 5) zd_Ls_init_4 rfl rfl ?_
  refine zg_bipush (x := (6 : Int32)) (pc' := 7) zd_Ls_init_5 (by decide) rfl ?_
  obtain ⟨g2, h⟩ := gd_some h
  refine zg_anew (t := 4) (C := zr2) (pc' := 10) (by simp) zq27 zd_Ls_init_7 (gN_ok g2).1 (gN_ok g2).2 rfl ?_
  obtain ⟨S3, eS3, h⟩ := nm_some h
  refine zg_nm eS3 ?_
  obtain ⟨g4, h⟩ := gd_some h
  refine zg_putR (pc' := 13) zf_Ls_13 rfl zd_Ls_init_10 (Or.inr ⟨rfl, _, rfl, rfl⟩) (gT_ok g4) rfl ?_
  obtain ⟨S5, eS5, h⟩ := nm_some h
  refine zg_nm eS5 ?_
  refine zg_aload_n (pc' := 14) zd_Ls_init_13 rfl rfl ?_
  refine zg_bipush (x := (6 : Int32)) (pc' := 16) zd_Ls_init_14 (by decide) rfl ?_
  refine zg_anew (t := 5) (C := zr8) (pc' := 19) (by simp) zq29 zd_Ls_init_16 (gN_ok g2).1 (gN_ok g2).2 rfl ?_
  obtain ⟨S6, eS6, h⟩ := nm_some h
  refine zg_nm eS6 ?_
  obtain ⟨g7, h⟩ := gd_some h
  refine zg_putR (pc' := 22) zf_Ls_19 rfl zd_Ls_init_19 (Or.inr ⟨rfl, _, rfl, rfl⟩) (gT_ok g7) rfl ?_
  obtain ⟨S8, eS8, h⟩ := nm_some h
  refine zg_nm eS8 ?_
  refine zg_aload_n (pc' := 23) zd_Ls_init_22 rfl rfl ?_
  refine zg_new (pc' := 26) zc_Ls_23 zd_Ls_init_23 rfl ?_
  obtain ⟨S9, eS9, h⟩ := nm_some h
  refine zg_nm eS9 ?_
  refine zg_dup (pc' := 27) zd_Ls_init_26 rfl rfl ?_
  obtain ⟨g10, h⟩ := gd_some h
  obtain ⟨S11, e12, h⟩ := bv_some h
  refine zg_callIN (ci := 3) (As := []) (rest := [.ref (zN S8), .ref a0]) (pc' := 30) zl_Ls_25 zq34 rfl ⟨_, rfl, rfl⟩ zd_Ls_init_27 rfl rfl (Nat.le_of_ble_eq_true rfl) (by omega) (gT_ok g10) (tm_Re_init (d := 3) (Nat.le_refl _) e12) rfl ?_
  refine zg_st (st' := [.ref (zN S8), .ref a0]) rfl ?_
  obtain ⟨g13, h⟩ := gd_some h
  refine zg_putR (pc' := 33) zf_Ls_26 rfl zd_Ls_init_30 (Or.inr ⟨rfl, _, rfl, rfl⟩) (gT_ok g13) rfl ?_
  obtain ⟨S14, eS14, h⟩ := nm_some h
  refine zg_nm eS14 ?_
  refine zg_aload_n (pc' := 34) zd_Ls_init_33 rfl rfl ?_
  refine zg_new (pc' := 37) zc_Ls_30 zd_Ls_init_34 rfl ?_
  obtain ⟨S15, eS15, h⟩ := nm_some h
  refine zg_nm eS15 ?_
  refine zg_dup (pc' := 38) zd_Ls_init_37 rfl rfl ?_
  obtain ⟨g16, h⟩ := gd_some h
  obtain ⟨S17, e18, h⟩ := bv_some h
  refine zg_callIN (ci := 7) (As := []) (rest := [.ref (zN S14), .ref a0]) (pc' := 41) zl_Ls_32 zq82 rfl ⟨_, rfl, rfl⟩ zd_Ls_init_38 rfl rfl (Nat.le_of_ble_eq_true rfl) (by omega) (gT_ok g16) (tm_Sh_init (d := 2) (Nat.le_refl _) e18) rfl ?_
  refine zg_st (st' := [.ref (zN S14), .ref a0]) rfl ?_
  obtain ⟨g19, h⟩ := gd_some h
  refine zg_putR (pc' := 44) zf_Ls_33 rfl zd_Ls_init_41 (Or.inr ⟨rfl, _, rfl, rfl⟩) (gT_ok g19) rfl ?_
  obtain ⟨S20, eS20, h⟩ := nm_some h
  refine zg_nm eS20 ?_
  refine zg_aload_n (pc' := 45) zd_Ls_init_44 rfl rfl ?_
  refine zg_new (pc' := 48) zc_Ls_37 zd_Ls_init_45 rfl ?_
  obtain ⟨S21, eS21, h⟩ := nm_some h
  refine zg_nm eS21 ?_
  refine zg_dup (pc' := 49) zd_Ls_init_48 rfl rfl ?_
  obtain ⟨g22, h⟩ := gd_some h
  obtain ⟨S23, e24, h⟩ := bv_some h
  refine zg_callIN (ci := 6) (As := []) (rest := [.ref (zN S20), .ref a0]) (pc' := 52) zl_Ls_39 zq105 rfl ⟨_, rfl, rfl⟩ zd_Ls_init_49 rfl rfl (Nat.le_of_ble_eq_true rfl) (by omega) (gT_ok g22) (tm_Sc_init (d := 2) (Nat.le_refl _) e24) rfl ?_
  refine zg_st (st' := [.ref (zN S20), .ref a0]) rfl ?_
  obtain ⟨g25, h⟩ := gd_some h
  refine zg_putR (pc' := 55) zf_Ls_40 rfl zd_Ls_init_52 (Or.inr ⟨rfl, _, rfl, rfl⟩) (gT_ok g25) rfl ?_
  obtain ⟨S26, eS26, h⟩ := nm_some h
  refine zg_nm eS26 ?_
  refine zg_aload_n (pc' := 56) zd_Ls_init_55 rfl rfl ?_
  refine zg_new (pc' := 59) zc_Ls_44 zd_Ls_init_56 rfl ?_
  obtain ⟨S27, eS27, h⟩ := nm_some h
  refine zg_nm eS27 ?_
  refine zg_dup (pc' := 60) zd_Ls_init_59 rfl rfl ?_
  obtain ⟨g28, h⟩ := gd_some h
  obtain ⟨S29, e30, h⟩ := bv_some h
  refine zg_callIN (ci := 0) (As := []) (rest := [.ref (zN S26), .ref a0]) (pc' := 63) zl_Ls_46 zq129 rfl ⟨_, rfl, rfl⟩ zd_Ls_init_60 rfl rfl (Nat.le_of_ble_eq_true rfl) (by omega) (gT_ok g28) (tm_Ac_init (d := 3) (Nat.le_refl _) e30) rfl ?_
  refine zg_st (st' := [.ref (zN S26), .ref a0]) rfl ?_
  obtain ⟨g31, h⟩ := gd_some h
  refine zg_putR (pc' := 66) zf_Ls_47 rfl zd_Ls_init_63 (Or.inr ⟨rfl, _, rfl, rfl⟩) (gT_ok g31) rfl ?_
  obtain ⟨S32, eS32, h⟩ := nm_some h
  refine zg_nm eS32 ?_
  refine zg_aload_n (pc' := 67) zd_Ls_init_66 rfl rfl ?_
  refine zg_new (pc' := 70) zc_Ls_51 zd_Ls_init_67 rfl ?_
  obtain ⟨S33, eS33, h⟩ := nm_some h
  refine zg_nm eS33 ?_
  refine zg_dup (pc' := 71) zd_Ls_init_70 rfl rfl ?_
  refine zg_iconst (x := (0 : Int32)) (pc' := 72) zd_Ls_init_71 (by decide) rfl ?_
  obtain ⟨g34, h⟩ := gd_some h
  obtain ⟨S35, e36, h⟩ := bv_some h
  refine zg_callI (ci := 5) (As := [.int (0 : Int32)]) (rest := [.ref (zN S32), .ref a0]) (pc' := 75) zl_Ls_53 zq135 rfl ⟨_, rfl, rfl⟩ zd_Ls_init_72 rfl rfl (Nat.le_of_ble_eq_true rfl) (by omega) (gT_ok g34) (tm_Sa_init (d := 2) (Nat.le_refl _) e36) rfl ?_
  refine zg_st (st' := [.ref (zN S32), .ref a0]) rfl ?_
  obtain ⟨g37, h⟩ := gd_some h
  refine zg_putR (pc' := 78) zf_Ls_56 rfl zd_Ls_init_75 (Or.inr ⟨rfl, _, rfl, rfl⟩) (gT_ok g37) rfl ?_
  obtain ⟨S38, eS38, h⟩ := nm_some h
  refine zg_nm eS38 ?_
  refine zg_aload_n (pc' := 79) zd_Ls_init_78 rfl rfl ?_
  refine zg_iconst (x := (0 : Int32)) (pc' := 80) zd_Ls_init_79 (by decide) rfl ?_
  obtain ⟨g39, h⟩ := gd_some h
  refine zg_putI (pc' := 83) zf_Ls_60 zd_Ls_init_80 (Or.inl rfl) (gT_ok g39) rfl ?_
  obtain ⟨S40, eS40, h⟩ := nm_some h
  refine zg_nm eS40 ?_
  refine zg_aload_n (pc' := 84) zd_Ls_init_83 rfl rfl ?_
  refine zg_iconst (x := (0 : Int32)) (pc' := 85) zd_Ls_init_84 (by decide) rfl ?_
  obtain ⟨g41, h⟩ := gd_some h
  refine zg_putZ (pc' := 88) zf_Ls_64 zd_Ls_init_85 (Or.inl rfl) (gT_ok g41) (by decide) rfl ?_
  obtain ⟨S42, eS42, h⟩ := nm_some h
  refine zg_nm eS42 ?_
  refine zg_new (pc' := 91) zc_Ls_11 zd_Ls_init_88 rfl ?_
  obtain ⟨S43, eS43, h⟩ := nm_some h
  refine zg_nm eS43 ?_
  refine zg_dup (pc' := 92) zd_Ls_init_91 rfl rfl ?_
  refine zg_iconst (x := (0 : Int32)) (pc' := 93) zd_Ls_init_92 (by decide) rfl ?_
  obtain ⟨g44, h⟩ := gd_some h
  obtain ⟨S45, e46, h⟩ := bv_some h
  refine zg_callI (ci := 2) (As := [.int (0 : Int32)]) (rest := [.ref (zN S42)]) (pc' := 96) zl_Ls_68 zq40 rfl ⟨_, rfl, rfl⟩ zd_Ls_init_93 rfl rfl (Nat.le_of_ble_eq_true rfl) (by omega) (gT_ok g44) (tm_Or_init (d := 2) (Nat.le_refl _) e46) rfl ?_
  refine zg_st (st' := [.ref (zN S42)]) rfl ?_
  refine zg_astore_n (L' := [some (.ref a0), some (.ref (zN S42)), none]) (pc' := 97) zd_Ls_init_96 (by decide) rfl rfl ?_
  refine zg_aload_n (pc' := 98) zd_Ls_init_97 rfl rfl ?_
  refine zg_new (pc' := 101) zc_Ls_69 zd_Ls_init_98 rfl ?_
  obtain ⟨S47, eS47, h⟩ := nm_some h
  refine zg_nm eS47 ?_
  refine zg_dup (pc' := 102) zd_Ls_init_101 rfl rfl ?_
  refine zg_aload_n (pc' := 103) zd_Ls_init_102 rfl rfl ?_
  obtain ⟨g48, h⟩ := gd_some h
  obtain ⟨S49, e50, h⟩ := bv_some h
  refine zg_callI (ci := 1) (As := [.ref (zN S42)]) (rest := [.ref (zN S45), .ref a0]) (pc' := 106) zl_Ls_71 zq199 rfl ⟨_, rfl, rfl⟩ zd_Ls_init_103 rfl rfl (Nat.le_of_ble_eq_true rfl) (by omega) (gT_ok g48) (tm_Ho_init (d := 3) (Nat.le_refl _) e50) rfl ?_
  refine zg_st (st' := [.ref (zN S45), .ref a0]) rfl ?_
  obtain ⟨g51, h⟩ := gd_some h
  refine zg_putR (pc' := 109) zf_Ls_74 rfl zd_Ls_init_106 (Or.inr ⟨rfl, _, rfl, rfl⟩) (gT_ok g51) rfl ?_
  obtain ⟨S52, eS52, h⟩ := nm_some h
  refine zg_nm eS52 ?_
  refine zg_aload_n (pc' := 110) zd_Ls_init_109 rfl rfl ?_
  refine zg_new (pc' := 113) zc_Ls_69 zd_Ls_init_110 rfl ?_
  obtain ⟨S53, eS53, h⟩ := nm_some h
  refine zg_nm eS53 ?_
  refine zg_dup (pc' := 114) zd_Ls_init_113 rfl rfl ?_
  refine zg_aload_n (pc' := 115) zd_Ls_init_114 rfl rfl ?_
  obtain ⟨g54, h⟩ := gd_some h
  obtain ⟨S55, e56, h⟩ := bv_some h
  refine zg_callI (ci := 1) (As := [.ref (zN S42)]) (rest := [.ref (zN S52), .ref a0]) (pc' := 118) zl_Ls_71 zq199 rfl ⟨_, rfl, rfl⟩ zd_Ls_init_115 rfl rfl (Nat.le_of_ble_eq_true rfl) (by omega) (gT_ok g54) (tm_Ho_init (d := 3) (Nat.le_refl _) e56) rfl ?_
  refine zg_st (st' := [.ref (zN S52), .ref a0]) rfl ?_
  obtain ⟨g57, h⟩ := gd_some h
  refine zg_putR (pc' := 121) zf_Ls_78 rfl zd_Ls_init_118 (Or.inr ⟨rfl, _, rfl, rfl⟩) (gT_ok g57) rfl ?_
  obtain ⟨S58, eS58, h⟩ := nm_some h
  refine zg_nm eS58 ?_
  refine zg_aload_n (pc' := 122) zd_Ls_init_121 rfl rfl ?_
  refine zg_new (pc' := 125) zc_Ls_69 zd_Ls_init_122 rfl ?_
  obtain ⟨S59, eS59, h⟩ := nm_some h
  refine zg_nm eS59 ?_
  refine zg_dup (pc' := 126) zd_Ls_init_125 rfl rfl ?_
  refine zg_aload_n (pc' := 127) zd_Ls_init_126 rfl rfl ?_
  obtain ⟨g60, h⟩ := gd_some h
  obtain ⟨S61, e62, h⟩ := bv_some h
  refine zg_callI (ci := 1) (As := [.ref (zN S42)]) (rest := [.ref (zN S58), .ref a0]) (pc' := 130) zl_Ls_71 zq199 rfl ⟨_, rfl, rfl⟩ zd_Ls_init_127 rfl rfl (Nat.le_of_ble_eq_true rfl) (by omega) (gT_ok g60) (tm_Ho_init (d := 3) (Nat.le_refl _) e62) rfl ?_
  refine zg_st (st' := [.ref (zN S58), .ref a0]) rfl ?_
  obtain ⟨g63, h⟩ := gd_some h
  refine zg_putR (pc' := 133) zf_Ls_81 rfl zd_Ls_init_130 (Or.inr ⟨rfl, _, rfl, rfl⟩) (gT_ok g63) rfl ?_
  obtain ⟨S64, eS64, h⟩ := nm_some h
  refine zg_nm eS64 ?_
  refine zg_iconst (x := (0 : Int32)) (pc' := 134) zd_Ls_init_133 (by decide) rfl ?_
  refine zg_istore_n (L' := [some (.ref a0), some (.ref (zN S42)), some (.int (0 : Int32))]) (pc' := 135) zd_Ls_init_134 (by decide) rfl rfl ?_
  refine zg_mask (L' := [some (.ref a0), none, some (.int (0 : Int32))]) (zmk_ok _ _ ⟨rfl, ⟨rfl, trivial⟩⟩) ?_
  exact lp_indh h (P := fun s => zG X zm_Ls_init d 135 [some (.ref (s.1)), none, some (.int (s.2.1))] [] (s.2.2) none S') (fun k hk s h => tm_Ls_init_L135 hd (fun a0 a2 S h => hk (a0, a2, S) h) h)
theorem zd_Ls_saint_0 : decode prog_1_method_2_code 0 = .ok (.iload_n 1, 1) := by decide +kernel
theorem zd_Ls_saint_1 : decode prog_1_method_2_code 1 = .ok (.invokestatic 85, 3) := by decide +kernel
theorem zd_Ls_saint_4 : decode prog_1_method_2_code 4 = .ok (.ifCond .ne 5, 3) := by decide +kernel
theorem zd_Ls_saint_9 : decode prog_1_method_2_code 9 = .ok (.iload_n 2, 1) := by decide +kernel
theorem zd_Ls_saint_10 : decode prog_1_method_2_code 10 = .ok (.ifCond .lt 16, 3) := by decide +kernel
theorem zd_Ls_saint_13 : decode prog_1_method_2_code 13 = .ok (.iload_n 2, 1) := by decide +kernel
theorem zd_Ls_saint_14 : decode prog_1_method_2_code 14 = .ok (.bipush 10, 2) := by decide +kernel
theorem zd_Ls_saint_16 : decode prog_1_method_2_code 16 = .ok (.if_icmp .ge 10, 3) := by decide +kernel
theorem zd_Ls_saint_19 : decode prog_1_method_2_code 19 = .ok (.iload_n 3, 1) := by decide +kernel
theorem zd_Ls_saint_20 : decode prog_1_method_2_code 20 = .ok (.invokestatic 89, 3) := by decide +kernel
theorem zd_Ls_saint_23 : decode prog_1_method_2_code 23 = .ok (.ifCond .ne 6, 3) := by decide +kernel
theorem zd_Ls_saint_29 : decode prog_1_method_2_code 29 = .ok (.aload_n 0, 1) := by decide +kernel
theorem zd_Ls_saint_30 : decode prog_1_method_2_code 30 = .ok (.getfield 74, 3) := by decide +kernel
theorem zd_Ls_saint_33 : decode prog_1_method_2_code 33 = .ok (.getfield 92, 3) := by decide +kernel
theorem zd_Ls_saint_36 : decode prog_1_method_2_code 36 = .ok (.bipush 6, 2) := by decide +kernel
theorem zd_Ls_saint_38 : decode prog_1_method_2_code 38 = .ok (.if_icmp .lt 6, 3) := by decide +kernel
theorem zd_Ls_saint_44 : decode prog_1_method_2_code 44 = .ok (.aload_n 0, 1) := by decide +kernel
theorem zd_Ls_saint_45 : decode prog_1_method_2_code 45 = .ok (.getfield 74, 3) := by decide +kernel
theorem zd_Ls_saint_48 : decode prog_1_method_2_code 48 = .ok (.getfield 95, 3) := by decide +kernel
theorem zd_Ls_saint_51 : decode prog_1_method_2_code 51 = .ok (.aload_n 0, 1) := by decide +kernel
theorem zd_Ls_saint_52 : decode prog_1_method_2_code 52 = .ok (.getfield 74, 3) := by decide +kernel
theorem zd_Ls_saint_55 : decode prog_1_method_2_code 55 = .ok (.getfield 92, 3) := by decide +kernel
theorem zd_Ls_saint_58 : decode prog_1_method_2_code 58 = .ok (.aaload, 1) := by decide +kernel
theorem zd_Ls_saint_59 : decode prog_1_method_2_code 59 = .ok (.iload_n 1, 1) := by decide +kernel
theorem zd_Ls_saint_60 : decode prog_1_method_2_code 60 = .ok (.iload_n 2, 1) := by decide +kernel
theorem zd_Ls_saint_61 : decode prog_1_method_2_code 61 = .ok (.iload_n 3, 1) := by decide +kernel
theorem zd_Ls_saint_62 : decode prog_1_method_2_code 62 = .ok (.invokevirtual 99, 3) := by decide +kernel
theorem zd_Ls_saint_65 : decode prog_1_method_2_code 65 = .ok (.aload_n 0, 1) := by decide +kernel
theorem zd_Ls_saint_66 : decode prog_1_method_2_code 66 = .ok (.getfield 74, 3) := by decide +kernel
theorem zd_Ls_saint_69 : decode prog_1_method_2_code 69 = .ok (.dup, 1) := by decide +kernel
theorem zd_Ls_saint_70 : decode prog_1_method_2_code 70 = .ok (.getfield 92, 3) := by decide +kernel
theorem zd_Ls_saint_73 : decode prog_1_method_2_code 73 = .ok (.dup_x1, 1) := by decide +kernel
theorem zd_Ls_saint_74 : decode prog_1_method_2_code 74 = .ok (.iconst 1, 1) := by decide +kernel
theorem zd_Ls_saint_75 : decode prog_1_method_2_code 75 = .ok (.iadd, 1) := by decide +kernel
theorem zd_Ls_saint_76 : decode prog_1_method_2_code 76 = .ok (.putfield 92, 3) := by decide +kernel
theorem zd_Ls_saint_79 : decode prog_1_method_2_code 79 = .ok (.ireturn, 1) := by decide +kernel
theorem zd_Ls_saint_41 : decode prog_1_method_2_code 41 = .ok (.bipush (-4), 2) := by decide +kernel
theorem zd_Ls_saint_43 : decode prog_1_method_2_code 43 = .ok (.ireturn, 1) := by decide +kernel
theorem zd_Ls_saint_26 : decode prog_1_method_2_code 26 = .ok (.bipush (-2), 2) := by decide +kernel
theorem zd_Ls_saint_28 : decode prog_1_method_2_code 28 = .ok (.ireturn, 1) := by decide +kernel
theorem zd_Ls_saint_7 : decode prog_1_method_2_code 7 = .ok (.iconst (-1), 1) := by decide +kernel
theorem zd_Ls_saint_8 : decode prog_1_method_2_code 8 = .ok (.ireturn, 1) := by decide +kernel
abbrev zm_Ls_saint : zQ := ("LoofahSaints", prog_1_method_2_code, 4, (Option.some Jvm.ClassFile.FieldType.int), false)
set_option maxRecDepth 100000 in
def fn_Ls_saint (a0 : Nat) (a1 : Int32) (a2 : Int32) (a3 : Int32) (S : zS) : Option (Int32 × zS) :=
  bq (fn_Ls_isKind a1 S) fun r3 S1 =>
  br (decide (r3 = 0)) (some ((-1 : Int32), S1)) <|
  br (decide (a2 < 0)) (some ((-2 : Int32), S1)) <|
  br (decide ((10 : Int32) ≤ a2)) (some ((-2 : Int32), S1)) <|
  bq (fn_Ls_isSet a3 S1) fun r9 S7 =>
  br (decide (r9 = 0)) (some ((-2 : Int32), S7)) <|
  gd (gT S7 a0 109) <|
  gd (gT S7 (zR S7 a0 7) 101) <|
  br (decide ((zI S7 (zR S7 a0 7) 6) < (6 : Int32))) (gd (gT S7 (zR S7 (zR S7 a0 7) 0) 6) <|
  gd (gB (zI S7 (zR S7 a0 7) 6) (zT S7 (zR S7 (zR S7 a0 7) 0)).2) <|
  gd (gT S7 (zR S7 (zR S7 (zR S7 a0 7) 0) (zI S7 (zR S7 a0 7) 6).toNatClampNeg) 105) <|
  bv (fn_Sa_begin (zR S7 (zR S7 (zR S7 a0 7) 0) (zI S7 (zR S7 a0 7) 6).toNatClampNeg) a1 a2 a3 S7) fun S17 =>
  gd (gT S17 a0 109) <|
  gd (gT S17 (zR S17 a0 7) 101) <|
  nm (uI S17 (zR S17 a0 7) 6 ((zI S17 (zR S17 a0 7) 6) + (1 : Int32))) fun S21 =>
  some ((zI S17 (zR S17 a0 7) 6), S21)) <|
  some ((-4 : Int32), S7)
set_option maxRecDepth 100000 in
set_option maxHeartbeats 4000000 in
theorem tm_Ls_saint {X : zXt} {d : Nat} (hd : 3 ≤ d) {v : Int32} {a0 : Nat} {a1 : Int32} {a2 : Int32} {a3 : Int32} {S : zS} {S' : zS} (h : fn_Ls_saint a0 a1 a2 a3 S = some (v, S')) : zM X zy_Ls_saint prog_1_method_2_code 4 (Option.some Jvm.ClassFile.FieldType.int) d [.ref a0, .int a1, .int a2, .int a3] S (some (.int v)) S' := by
  refine zM_of (ini := false) (L := [some (.ref a0), some (.int a1), some (.int a2), some (.int a3)]) (plainFor_of_name (by decide)) (fun h => by cases h) (Nat.le_of_ble_eq_true rfl) rfl ?_
  unfold fn_Ls_saint at h
  refine zg_iload_n (pc' := 1) zd_Ls_saint_0 rfl rfl ?_
  obtain ⟨r3, S1, e2, h⟩ := bq_some h
  refine zg_callS (As := [.int a1]) (rest := []) (pc' := 4) zl_Ls_85 zq331 zd_Ls_saint_1 rfl rfl (Nat.le_of_ble_eq_true rfl) (by omega) (tm_Ls_isKind (d := 2) (Nat.le_refl _) e2) rfl ?_
  refine zg_st (st' := [.int r3]) rfl ?_
  rcases br_some h with ⟨c4, h⟩ | ⟨c4, h⟩
  · refine zg_if_ne (tgt := 9) (pc' := 7) zd_Ls_saint_4 (by decide) rfl (fun q => absurd c4 q) (fun _ => ?_)
    refine zg_iconst (x := (-1 : Int32)) (pc' := 8) zd_Ls_saint_7 (by decide) rfl ?_
    obtain ⟨rfl, rfl⟩ := rt_q h
    exact zg_iret zd_Ls_saint_8 zrt_i
  · refine zg_if_ne (tgt := 9) (pc' := 7) zd_Ls_saint_4 (by decide) rfl (fun _ => ?_) (fun q => absurd q c4)
    refine zg_iload_n (pc' := 10) zd_Ls_saint_9 rfl rfl ?_
    rcases br_some h with ⟨c5, h⟩ | ⟨c5, h⟩
    · refine zg_if_lt (tgt := 26) (pc' := 13) zd_Ls_saint_10 (by decide) rfl (fun _ => ?_) (fun q => absurd c5 q)
      refine zg_bipush (x := (-2 : Int32)) (pc' := 28) zd_Ls_saint_26 (by decide) rfl ?_
      obtain ⟨rfl, rfl⟩ := rt_q h
      exact zg_iret zd_Ls_saint_28 zrt_i
    · refine zg_if_lt (tgt := 26) (pc' := 13) zd_Ls_saint_10 (by decide) rfl (fun q => absurd q c5) (fun _ => ?_)
      refine zg_iload_n (pc' := 14) zd_Ls_saint_13 rfl rfl ?_
      refine zg_bipush (x := (10 : Int32)) (pc' := 16) zd_Ls_saint_14 (by decide) rfl ?_
      rcases br_some h with ⟨c6, h⟩ | ⟨c6, h⟩
      · refine zg_icmp_ge (tgt := 26) (pc' := 19) zd_Ls_saint_16 (by decide) rfl (fun _ => ?_) (fun q => absurd c6 q)
        refine zg_bipush (x := (-2 : Int32)) (pc' := 28) zd_Ls_saint_26 (by decide) rfl ?_
        obtain ⟨rfl, rfl⟩ := rt_q h
        exact zg_iret zd_Ls_saint_28 zrt_i
      · refine zg_icmp_ge (tgt := 26) (pc' := 19) zd_Ls_saint_16 (by decide) rfl (fun q => absurd q c6) (fun _ => ?_)
        refine zg_iload_n (pc' := 20) zd_Ls_saint_19 rfl rfl ?_
        obtain ⟨r9, S7, e8, h⟩ := bq_some h
        refine zg_callS (As := [.int a3]) (rest := []) (pc' := 23) zl_Ls_89 zq334 zd_Ls_saint_20 rfl rfl (Nat.le_of_ble_eq_true rfl) (by omega) (tm_Ls_isSet (d := 2) (Nat.le_refl _) e8) rfl ?_
        refine zg_st (st' := [.int r9]) rfl ?_
        rcases br_some h with ⟨c10, h⟩ | ⟨c10, h⟩
        · refine zg_if_ne (tgt := 29) (pc' := 26) zd_Ls_saint_23 (by decide) rfl (fun q => absurd c10 q) (fun _ => ?_)
          refine zg_bipush (x := (-2 : Int32)) (pc' := 28) zd_Ls_saint_26 (by decide) rfl ?_
          obtain ⟨rfl, rfl⟩ := rt_q h
          exact zg_iret zd_Ls_saint_28 zrt_i
        · refine zg_if_ne (tgt := 29) (pc' := 26) zd_Ls_saint_23 (by decide) rfl (fun _ => ?_) (fun q => absurd q c10)
          refine zg_aload_n (pc' := 30) zd_Ls_saint_29 rfl rfl ?_
          obtain ⟨g11, h⟩ := gd_some h
          refine zg_getR (pc' := 33) zf_Ls_74 rfl zd_Ls_saint_30 (gT_ok g11) rfl ?_
          obtain ⟨g12, h⟩ := gd_some h
          refine zg_getI (pc' := 36) zf_Ls_92 zd_Ls_saint_33 (gT_ok g12) rfl ?_
          refine zg_bipush (x := (6 : Int32)) (pc' := 38) zd_Ls_saint_36 (by decide) rfl ?_
          rcases br_some h with ⟨c13, h⟩ | ⟨c13, h⟩
          · refine zg_icmp_lt (tgt := 44) (pc' := 41) zd_Ls_saint_38 (by decide) rfl (fun _ => ?_) (fun q => absurd c13 q)
            refine zg_aload_n (pc' := 45) zd_Ls_saint_44 rfl rfl ?_
            refine zg_getR (pc' := 48) zf_Ls_74 rfl zd_Ls_saint_45 (gT_ok g11) rfl ?_
            refine zg_getR (pc' := 51) zf_Ls_95 rfl zd_Ls_saint_48 (gT_ok g12) rfl ?_
            refine zg_aload_n (pc' := 52) zd_Ls_saint_51 rfl rfl ?_
            refine zg_getR (pc' := 55) zf_Ls_74 rfl zd_Ls_saint_52 (gT_ok g11) rfl ?_
            refine zg_getI (pc' := 58) zf_Ls_92 zd_Ls_saint_55 (gT_ok g12) rfl ?_
            obtain ⟨g14, h⟩ := gd_some h
            obtain ⟨g15, h⟩ := gd_some h
            refine zg_aald (t := 6) (pc' := 59) (by decide) zd_Ls_saint_58 (gT_ok g14) (gB_ok g15) rfl ?_
            refine zg_iload_n (pc' := 60) zd_Ls_saint_59 rfl rfl ?_
            refine zg_iload_n (pc' := 61) zd_Ls_saint_60 rfl rfl ?_
            refine zg_iload_n (pc' := 62) zd_Ls_saint_61 rfl rfl ?_
            obtain ⟨g16, h⟩ := gd_some h
            obtain ⟨S17, e18, h⟩ := bv_some h
            refine zg_callV (ci := 5) (As := [.int a1, .int a2, .int a3]) (rest := []) (pc' := 65) zl_Ls_99 zq337 zq338 ⟨_, rfl, rfl⟩ zd_Ls_saint_62 rfl rfl (Nat.le_of_ble_eq_true rfl) (by omega) (gT_ok g16) (tm_Sa_begin (d := 2) (Nat.le_refl _) e18) rfl ?_
            refine zg_st (st' := []) rfl ?_
            refine zg_aload_n (pc' := 66) zd_Ls_saint_65 rfl rfl ?_
            obtain ⟨g19, h⟩ := gd_some h
            refine zg_getR (pc' := 69) zf_Ls_74 rfl zd_Ls_saint_66 (gT_ok g19) rfl ?_
            refine zg_dup (pc' := 70) zd_Ls_saint_69 rfl rfl ?_
            obtain ⟨g20, h⟩ := gd_some h
            refine zg_getI (pc' := 73) zf_Ls_92 zd_Ls_saint_70 (gT_ok g20) rfl ?_
            refine zg_dup_x1 (pc' := 74) zd_Ls_saint_73 rfl rfl rfl ?_
            refine zg_iconst (x := (1 : Int32)) (pc' := 75) zd_Ls_saint_74 (by decide) rfl ?_
            refine zg_iadd (pc' := 76) zd_Ls_saint_75 rfl ?_
            refine zg_putI (pc' := 79) zf_Ls_92 zd_Ls_saint_76 (Or.inl rfl) (gT_ok g20) rfl ?_
            obtain ⟨S21, eS21, h⟩ := nm_some h
            refine zg_nm eS21 ?_
            obtain ⟨rfl, rfl⟩ := rt_q h
            exact zg_iret zd_Ls_saint_79 zrt_i
          · refine zg_icmp_lt (tgt := 44) (pc' := 41) zd_Ls_saint_38 (by decide) rfl (fun q => absurd q c13) (fun _ => ?_)
            refine zg_bipush (x := (-4 : Int32)) (pc' := 43) zd_Ls_saint_41 (by decide) rfl ?_
            obtain ⟨rfl, rfl⟩ := rt_q h
            exact zg_iret zd_Ls_saint_43 zrt_i
theorem zd_Ls_of_0 : decode prog_1_method_3_code 0 = .ok (.aload_n 0, 1) := by decide +kernel
theorem zd_Ls_of_1 : decode prog_1_method_3_code 1 = .ok (.getfield 74, 3) := by decide +kernel
theorem zd_Ls_of_4 : decode prog_1_method_3_code 4 = .ok (.iload_n 1, 1) := by decide +kernel
theorem zd_Ls_of_5 : decode prog_1_method_3_code 5 = .ok (.invokevirtual 103, 3) := by decide +kernel
theorem zd_Ls_of_8 : decode prog_1_method_3_code 8 = .ok (.ifCond .ne 7, 3) := by decide +kernel
theorem zd_Ls_of_15 : decode prog_1_method_3_code 15 = .ok (.aload_n 0, 1) := by decide +kernel
theorem zd_Ls_of_16 : decode prog_1_method_3_code 16 = .ok (.getfield 74, 3) := by decide +kernel
theorem zd_Ls_of_19 : decode prog_1_method_3_code 19 = .ok (.getfield 95, 3) := by decide +kernel
theorem zd_Ls_of_22 : decode prog_1_method_3_code 22 = .ok (.iload_n 1, 1) := by decide +kernel
theorem zd_Ls_of_23 : decode prog_1_method_3_code 23 = .ok (.aaload, 1) := by decide +kernel
theorem zd_Ls_of_24 : decode prog_1_method_3_code 24 = .ok (.astore_n 3, 1) := by decide +kernel
theorem zd_Ls_of_25 : decode prog_1_method_3_code 25 = .ok (.iload_n 2, 1) := by decide +kernel
theorem zd_Ls_of_26 : decode prog_1_method_3_code 26 = .ok (.bipush 10, 2) := by decide +kernel
theorem zd_Ls_of_28 : decode prog_1_method_3_code 28 = .ok (.isub, 1) := by decide +kernel
theorem zd_Ls_of_29 : decode prog_1_method_3_code 29 = .ok (.invokestatic 106, 3) := by decide +kernel
theorem zd_Ls_of_32 : decode prog_1_method_3_code 32 = .ok (.ifCond .eq 16, 3) := by decide +kernel
theorem zd_Ls_of_48 : decode prog_1_method_3_code 48 = .ok (.iload_n 2, 1) := by decide +kernel
theorem zd_Ls_of_49 : decode prog_1_method_3_code 49 = .ok (.tableswitch 122 0 7 #[47, 52, 57, 62, 67, 80, 88, 107], 47) := by decide +kernel
theorem zd_Ls_of_171 : decode prog_1_method_3_code 171 = .ok (.sipush (-10001), 3) := by decide +kernel
theorem zd_Ls_of_174 : decode prog_1_method_3_code 174 = .ok (.ireturn, 1) := by decide +kernel
theorem zd_Ls_of_156 : decode prog_1_method_3_code 156 = .ok (.aload_n 3, 1) := by decide +kernel
theorem zd_Ls_of_157 : decode prog_1_method_3_code 157 = .ok (.aload_n 0, 1) := by decide +kernel
theorem zd_Ls_of_158 : decode prog_1_method_3_code 158 = .ok (.getfield 74, 3) := by decide +kernel
theorem zd_Ls_of_161 : decode prog_1_method_3_code 161 = .ok (.getfield 135, 3) := by decide +kernel
theorem zd_Ls_of_164 : decode prog_1_method_3_code 164 = .ok (.getfield 146, 3) := by decide +kernel
theorem zd_Ls_of_167 : decode prog_1_method_3_code 167 = .ok (.invokevirtual 149, 3) := by decide +kernel
theorem zd_Ls_of_170 : decode prog_1_method_3_code 170 = .ok (.ireturn, 1) := by decide +kernel
theorem zd_Ls_of_137 : decode prog_1_method_3_code 137 = .ok (.aload_n 3, 1) := by decide +kernel
theorem zd_Ls_of_138 : decode prog_1_method_3_code 138 = .ok (.aload_n 0, 1) := by decide +kernel
theorem zd_Ls_of_139 : decode prog_1_method_3_code 139 = .ok (.getfield 74, 3) := by decide +kernel
theorem zd_Ls_of_142 : decode prog_1_method_3_code 142 = .ok (.getfield 135, 3) := by decide +kernel
theorem zd_Ls_of_145 : decode prog_1_method_3_code 145 = .ok (.aload_n 0, 1) := by decide +kernel
theorem zd_Ls_of_146 : decode prog_1_method_3_code 146 = .ok (.getfield 74, 3) := by decide +kernel
theorem zd_Ls_of_149 : decode prog_1_method_3_code 149 = .ok (.getfield 139, 3) := by decide +kernel
theorem zd_Ls_of_152 : decode prog_1_method_3_code 152 = .ok (.invokevirtual 142, 3) := by decide +kernel
theorem zd_Ls_of_155 : decode prog_1_method_3_code 155 = .ok (.ireturn, 1) := by decide +kernel
theorem zd_Ls_of_129 : decode prog_1_method_3_code 129 = .ok (.aload_n 3, 1) := by decide +kernel
theorem zd_Ls_of_130 : decode prog_1_method_3_code 130 = .ok (.getfield 128, 3) := by decide +kernel
theorem zd_Ls_of_133 : decode prog_1_method_3_code 133 = .ok (.invokestatic 131, 3) := by decide +kernel
theorem zd_Ls_of_136 : decode prog_1_method_3_code 136 = .ok (.ireturn, 1) := by decide +kernel
theorem zd_Ls_of_116 : decode prog_1_method_3_code 116 = .ok (.aload_n 3, 1) := by decide +kernel
theorem zd_Ls_of_117 : decode prog_1_method_3_code 117 = .ok (.getfield 125, 3) := by decide +kernel
theorem zd_Ls_of_120 : decode prog_1_method_3_code 120 = .ok (.ifCond .eq 7, 3) := by decide +kernel
theorem zd_Ls_of_127 : decode prog_1_method_3_code 127 = .ok (.iconst 0, 1) := by decide +kernel
theorem zd_Ls_of_123 : decode prog_1_method_3_code 123 = .ok (.iconst 1, 1) := by decide +kernel
theorem zd_Ls_of_124 : decode prog_1_method_3_code 124 = .ok (.goto 4, 3) := by decide +kernel
theorem zd_Ls_of_128 : decode prog_1_method_3_code 128 = .ok (.ireturn, 1) := by decide +kernel
theorem zd_Ls_of_111 : decode prog_1_method_3_code 111 = .ok (.aload_n 3, 1) := by decide +kernel
theorem zd_Ls_of_112 : decode prog_1_method_3_code 112 = .ok (.getfield 122, 3) := by decide +kernel
theorem zd_Ls_of_115 : decode prog_1_method_3_code 115 = .ok (.ireturn, 1) := by decide +kernel
theorem zd_Ls_of_106 : decode prog_1_method_3_code 106 = .ok (.aload_n 3, 1) := by decide +kernel
theorem zd_Ls_of_107 : decode prog_1_method_3_code 107 = .ok (.getfield 119, 3) := by decide +kernel
theorem zd_Ls_of_110 : decode prog_1_method_3_code 110 = .ok (.ireturn, 1) := by decide +kernel
theorem zd_Ls_of_101 : decode prog_1_method_3_code 101 = .ok (.aload_n 3, 1) := by decide +kernel
theorem zd_Ls_of_102 : decode prog_1_method_3_code 102 = .ok (.getfield 116, 3) := by decide +kernel
theorem zd_Ls_of_105 : decode prog_1_method_3_code 105 = .ok (.ireturn, 1) := by decide +kernel
theorem zd_Ls_of_96 : decode prog_1_method_3_code 96 = .ok (.aload_n 3, 1) := by decide +kernel
theorem zd_Ls_of_97 : decode prog_1_method_3_code 97 = .ok (.getfield 113, 3) := by decide +kernel
theorem zd_Ls_of_100 : decode prog_1_method_3_code 100 = .ok (.ireturn, 1) := by decide +kernel
theorem zd_Ls_of_35 : decode prog_1_method_3_code 35 = .ok (.aload_n 0, 1) := by decide +kernel
theorem zd_Ls_of_36 : decode prog_1_method_3_code 36 = .ok (.getfield 74, 3) := by decide +kernel
theorem zd_Ls_of_39 : decode prog_1_method_3_code 39 = .ok (.aload_n 3, 1) := by decide +kernel
theorem zd_Ls_of_40 : decode prog_1_method_3_code 40 = .ok (.iload_n 2, 1) := by decide +kernel
theorem zd_Ls_of_41 : decode prog_1_method_3_code 41 = .ok (.bipush 10, 2) := by decide +kernel
theorem zd_Ls_of_43 : decode prog_1_method_3_code 43 = .ok (.isub, 1) := by decide +kernel
theorem zd_Ls_of_44 : decode prog_1_method_3_code 44 = .ok (.invokevirtual 109, 3) := by decide +kernel
theorem zd_Ls_of_47 : decode prog_1_method_3_code 47 = .ok (.ireturn, 1) := by decide +kernel
theorem zd_Ls_of_11 : decode prog_1_method_3_code 11 = .ok (.sipush (-10001), 3) := by decide +kernel
theorem zd_Ls_of_14 : decode prog_1_method_3_code 14 = .ok (.ireturn, 1) := by decide +kernel
abbrev zm_Ls_of : zQ := ("LoofahSaints", prog_1_method_3_code, 4, (Option.some Jvm.ClassFile.FieldType.int), false)
set_option maxRecDepth 100000 in
def fn_Ls_of (a0 : Nat) (a1 : Int32) (a2 : Int32) (S : zS) : Option (Int32 × zS) :=
  gd (gT S a0 109) <|
  gd (gT S (zR S a0 7) 101) <|
  bq (fn_Ho_has (zR S a0 7) a1 S) fun r5 S3 =>
  br (decide (r5 = 0)) (some ((-10001 : Int32), S3)) <|
  gd (gT S3 a0 109) <|
  gd (gT S3 (zR S3 a0 7) 101) <|
  gd (gT S3 (zR S3 (zR S3 a0 7) 0) 6) <|
  gd (gB a1 (zT S3 (zR S3 (zR S3 a0 7) 0)).2) <|
  bq (fn_Ls_isNovice (a2 - (10 : Int32)) S3) fun r13 S11 =>
  br (decide (r13 = 0)) (br (decide (a2 = (0 : Int32))) (gd (gT S11 (zR S3 (zR S3 (zR S3 a0 7) 0) a1.toNatClampNeg) 105) <|
  some ((zI S11 (zR S3 (zR S3 (zR S3 a0 7) 0) a1.toNatClampNeg) 2), S11)) <|
  br (decide (a2 = (1 : Int32))) (gd (gT S11 (zR S3 (zR S3 (zR S3 a0 7) 0) a1.toNatClampNeg) 105) <|
  some ((zI S11 (zR S3 (zR S3 (zR S3 a0 7) 0) a1.toNatClampNeg) 3), S11)) <|
  br (decide (a2 = (2 : Int32))) (gd (gT S11 (zR S3 (zR S3 (zR S3 a0 7) 0) a1.toNatClampNeg) 105) <|
  some ((zI S11 (zR S3 (zR S3 (zR S3 a0 7) 0) a1.toNatClampNeg) 4), S11)) <|
  br (decide (a2 = (3 : Int32))) (gd (gT S11 (zR S3 (zR S3 (zR S3 a0 7) 0) a1.toNatClampNeg) 105) <|
  some ((zI S11 (zR S3 (zR S3 (zR S3 a0 7) 0) a1.toNatClampNeg) 5), S11)) <|
  br (decide (a2 = (4 : Int32))) (gd (gT S11 (zR S3 (zR S3 (zR S3 a0 7) 0) a1.toNatClampNeg) 105) <|
  br (decide ((zI S11 (zR S3 (zR S3 (zR S3 a0 7) 0) a1.toNatClampNeg) 7) = 0)) (some ((0 : Int32), S11)) <|
  some ((1 : Int32), S11)) <|
  br (decide (a2 = (5 : Int32))) (gd (gT S11 (zR S3 (zR S3 (zR S3 a0 7) 0) a1.toNatClampNeg) 105) <|
  bq (fn_Ls_someone (zI S11 (zR S3 (zR S3 (zR S3 a0 7) 0) a1.toNatClampNeg) 6) S11) fun r30 S28 =>
  some (r30, S28)) <|
  br (decide (a2 = (6 : Int32))) (gd (gT S11 a0 109) <|
  gd (gT S11 (zR S11 a0 7) 101) <|
  gd (gT S11 (zR S3 (zR S3 (zR S3 a0 7) 0) a1.toNatClampNeg) 105) <|
  bq (fn_Sa_grit (zR S3 (zR S3 (zR S3 a0 7) 0) a1.toNatClampNeg) (zR S11 (zR S11 a0 7) 8) (zI S11 (zR S11 a0 7) 7) S11) fun r37 S35 =>
  some (r37, S35)) <|
  br (decide (a2 = (7 : Int32))) (gd (gT S11 a0 109) <|
  gd (gT S11 (zR S11 a0 7) 101) <|
  gd (gT S11 (zR S11 (zR S11 a0 7) 8) 102) <|
  gd (gT S11 (zR S3 (zR S3 (zR S3 a0 7) 0) a1.toNatClampNeg) 105) <|
  bq (fn_Sa_lasts (zR S3 (zR S3 (zR S3 a0 7) 0) a1.toNatClampNeg) (zI S11 (zR S11 (zR S11 a0 7) 8) 3) S11) fun r45 S43 =>
  some (r45, S43)) <|
  some ((-10001 : Int32), S11)) <|
  gd (gT S11 a0 109) <|
  gd (gT S11 (zR S11 a0 7) 101) <|
  bq (fn_Ho_takes (zR S11 a0 7) (zR S3 (zR S3 (zR S3 a0 7) 0) a1.toNatClampNeg) (a2 - (10 : Int32)) S11) fun r50 S48 =>
  some (r50, S48)
set_option maxRecDepth 100000 in
set_option maxHeartbeats 4000000 in
theorem tm_Ls_of {X : zXt} {d : Nat} (hd : 6 ≤ d) {v : Int32} {a0 : Nat} {a1 : Int32} {a2 : Int32} {S : zS} {S' : zS} (h : fn_Ls_of a0 a1 a2 S = some (v, S')) : zM X zy_Ls_of prog_1_method_3_code 4 (Option.some Jvm.ClassFile.FieldType.int) d [.ref a0, .int a1, .int a2] S (some (.int v)) S' := by
  refine zM_of (ini := false) (L := [some (.ref a0), some (.int a1), some (.int a2), none]) (plainFor_of_name (by decide)) (fun h => by cases h) (Nat.le_of_ble_eq_true rfl) rfl ?_
  unfold fn_Ls_of at h
  refine zg_aload_n (pc' := 1) zd_Ls_of_0 rfl rfl ?_
  obtain ⟨g1, h⟩ := gd_some h
  refine zg_getR (pc' := 4) zf_Ls_74 rfl zd_Ls_of_1 (gT_ok g1) rfl ?_
  refine zg_iload_n (pc' := 5) zd_Ls_of_4 rfl rfl ?_
  obtain ⟨g2, h⟩ := gd_some h
  obtain ⟨r5, S3, e4, h⟩ := bq_some h
  refine zg_callV (ci := 1) (As := [.int a1]) (rest := []) (pc' := 8) zl_Ls_103 zq345 zq346 ⟨_, rfl, rfl⟩ zd_Ls_of_5 rfl rfl (Nat.le_of_ble_eq_true rfl) (by omega) (gT_ok g2) (tm_Ho_has (d := 2) (Nat.le_refl _) e4) rfl ?_
  refine zg_st (st' := [.int r5]) rfl ?_
  rcases br_some h with ⟨c6, h⟩ | ⟨c6, h⟩
  · refine zg_if_ne (tgt := 15) (pc' := 11) zd_Ls_of_8 (by decide) rfl (fun q => absurd c6 q) (fun _ => ?_)
    refine zg_sipush (x := (-10001 : Int32)) (pc' := 14) zd_Ls_of_11 (by decide) rfl ?_
    obtain ⟨rfl, rfl⟩ := rt_q h
    exact zg_iret zd_Ls_of_14 zrt_i
  · refine zg_if_ne (tgt := 15) (pc' := 11) zd_Ls_of_8 (by decide) rfl (fun _ => ?_) (fun q => absurd q c6)
    refine zg_aload_n (pc' := 16) zd_Ls_of_15 rfl rfl ?_
    obtain ⟨g7, h⟩ := gd_some h
    refine zg_getR (pc' := 19) zf_Ls_74 rfl zd_Ls_of_16 (gT_ok g7) rfl ?_
    obtain ⟨g8, h⟩ := gd_some h
    refine zg_getR (pc' := 22) zf_Ls_95 rfl zd_Ls_of_19 (gT_ok g8) rfl ?_
    refine zg_iload_n (pc' := 23) zd_Ls_of_22 rfl rfl ?_
    obtain ⟨g9, h⟩ := gd_some h
    obtain ⟨g10, h⟩ := gd_some h
    refine zg_aald (t := 6) (pc' := 24) (by decide) zd_Ls_of_23 (gT_ok g9) (gB_ok g10) rfl ?_
    refine zg_astore_n (L' := [some (.ref a0), some (.int a1), some (.int a2), some (.ref (zR S3 (zR S3 (zR S3 a0 7) 0) a1.toNatClampNeg))]) (pc' := 25) zd_Ls_of_24 (by decide) rfl rfl ?_
    refine zg_iload_n (pc' := 26) zd_Ls_of_25 rfl rfl ?_
    refine zg_bipush (x := (10 : Int32)) (pc' := 28) zd_Ls_of_26 (by decide) rfl ?_
    refine zg_isub (pc' := 29) zd_Ls_of_28 rfl ?_
    obtain ⟨r13, S11, e12, h⟩ := bq_some h
    refine zg_callS (As := [.int (a2 - (10 : Int32))]) (rest := []) (pc' := 32) zl_Ls_106 zq349 zd_Ls_of_29 rfl rfl (Nat.le_of_ble_eq_true rfl) (by omega) (tm_Ls_isNovice (d := 2) (Nat.le_refl _) e12) rfl ?_
    refine zg_st (st' := [.int r13]) rfl ?_
    rcases br_some h with ⟨c14, h⟩ | ⟨c14, h⟩
    · refine zg_if_eq (tgt := 48) (pc' := 35) zd_Ls_of_32 (by decide) rfl (fun _ => ?_) (fun q => absurd c14 q)
      refine zg_iload_n (pc' := 49) zd_Ls_of_48 rfl rfl ?_
      rcases br_some h with ⟨c15, h⟩ | ⟨c15, h⟩
      · refine zg_tabI (tgt := 96) (0 : Int32) zd_Ls_of_49 c15 (by decide) (by decide) rfl (by decide) ?_
        refine zg_aload_n (pc' := 97) zd_Ls_of_96 rfl rfl ?_
        obtain ⟨g16, h⟩ := gd_some h
        refine zg_getI (pc' := 100) zf_Ls_113 zd_Ls_of_97 (gT_ok g16) rfl ?_
        obtain ⟨rfl, rfl⟩ := rt_q h
        exact zg_iret zd_Ls_of_100 zrt_i
      rcases br_some h with ⟨c17, h⟩ | ⟨c17, h⟩
      · refine zg_tabI (tgt := 101) (1 : Int32) zd_Ls_of_49 c17 (by decide) (by decide) rfl (by decide) ?_
        refine zg_aload_n (pc' := 102) zd_Ls_of_101 rfl rfl ?_
        obtain ⟨g18, h⟩ := gd_some h
        refine zg_getI (pc' := 105) zf_Ls_116 zd_Ls_of_102 (gT_ok g18) rfl ?_
        obtain ⟨rfl, rfl⟩ := rt_q h
        exact zg_iret zd_Ls_of_105 zrt_i
      rcases br_some h with ⟨c19, h⟩ | ⟨c19, h⟩
      · refine zg_tabI (tgt := 106) (2 : Int32) zd_Ls_of_49 c19 (by decide) (by decide) rfl (by decide) ?_
        refine zg_aload_n (pc' := 107) zd_Ls_of_106 rfl rfl ?_
        obtain ⟨g20, h⟩ := gd_some h
        refine zg_getI (pc' := 110) zf_Ls_119 zd_Ls_of_107 (gT_ok g20) rfl ?_
        obtain ⟨rfl, rfl⟩ := rt_q h
        exact zg_iret zd_Ls_of_110 zrt_i
      rcases br_some h with ⟨c21, h⟩ | ⟨c21, h⟩
      · refine zg_tabI (tgt := 111) (3 : Int32) zd_Ls_of_49 c21 (by decide) (by decide) rfl (by decide) ?_
        refine zg_aload_n (pc' := 112) zd_Ls_of_111 rfl rfl ?_
        obtain ⟨g22, h⟩ := gd_some h
        refine zg_getI (pc' := 115) zf_Ls_122 zd_Ls_of_112 (gT_ok g22) rfl ?_
        obtain ⟨rfl, rfl⟩ := rt_q h
        exact zg_iret zd_Ls_of_115 zrt_i
      rcases br_some h with ⟨c23, h⟩ | ⟨c23, h⟩
      · refine zg_tabI (tgt := 116) (4 : Int32) zd_Ls_of_49 c23 (by decide) (by decide) rfl (by decide) ?_
        refine zg_aload_n (pc' := 117) zd_Ls_of_116 rfl rfl ?_
        obtain ⟨g24, h⟩ := gd_some h
        refine zg_getZ (pc' := 120) zf_Ls_125 zd_Ls_of_117 (gT_ok g24) rfl ?_
        rcases br_some h with ⟨c25, h⟩ | ⟨c25, h⟩
        · refine zg_if_eq (tgt := 127) (pc' := 123) zd_Ls_of_120 (by decide) rfl (fun _ => ?_) (fun q => absurd c25 q)
          refine zg_iconst (x := (0 : Int32)) (pc' := 128) zd_Ls_of_127 (by decide) rfl ?_
          obtain ⟨rfl, rfl⟩ := rt_q h
          exact zg_iret zd_Ls_of_128 zrt_i
        · refine zg_if_eq (tgt := 127) (pc' := 123) zd_Ls_of_120 (by decide) rfl (fun q => absurd q c25) (fun _ => ?_)
          refine zg_iconst (x := (1 : Int32)) (pc' := 124) zd_Ls_of_123 (by decide) rfl ?_
          refine zg_goto (tgt := 128) zd_Ls_of_124 (by decide) ?_
          obtain ⟨rfl, rfl⟩ := rt_q h
          exact zg_iret zd_Ls_of_128 zrt_i
      rcases br_some h with ⟨c26, h⟩ | ⟨c26, h⟩
      · refine zg_tabI (tgt := 129) (5 : Int32) zd_Ls_of_49 c26 (by decide) (by decide) rfl (by decide) ?_
        refine zg_aload_n (pc' := 130) zd_Ls_of_129 rfl rfl ?_
        obtain ⟨g27, h⟩ := gd_some h
        refine zg_getI (pc' := 133) zf_Ls_128 zd_Ls_of_130 (gT_ok g27) rfl ?_
        obtain ⟨r30, S28, e29, h⟩ := bq_some h
        refine zg_callS (As := [.int (zI S11 (zR S3 (zR S3 (zR S3 a0 7) 0) a1.toNatClampNeg) 6)]) (rest := []) (pc' := 136) zl_Ls_131 zq387 zd_Ls_of_133 rfl rfl (Nat.le_of_ble_eq_true rfl) (by omega) (tm_Ls_someone (d := 2) (Nat.le_refl _) e29) rfl ?_
        refine zg_st (st' := [.int r30]) rfl ?_
        obtain ⟨rfl, rfl⟩ := rt_q h
        exact zg_iret zd_Ls_of_136 zrt_i
      rcases br_some h with ⟨c31, h⟩ | ⟨c31, h⟩
      · refine zg_tabI (tgt := 137) (6 : Int32) zd_Ls_of_49 c31 (by decide) (by decide) rfl (by decide) ?_
        refine zg_aload_n (pc' := 138) zd_Ls_of_137 rfl rfl ?_
        refine zg_aload_n (pc' := 139) zd_Ls_of_138 rfl rfl ?_
        obtain ⟨g32, h⟩ := gd_some h
        refine zg_getR (pc' := 142) zf_Ls_74 rfl zd_Ls_of_139 (gT_ok g32) rfl ?_
        obtain ⟨g33, h⟩ := gd_some h
        refine zg_getR (pc' := 145) zf_Ls_135 rfl zd_Ls_of_142 (gT_ok g33) rfl ?_
        refine zg_aload_n (pc' := 146) zd_Ls_of_145 rfl rfl ?_
        refine zg_getR (pc' := 149) zf_Ls_74 rfl zd_Ls_of_146 (gT_ok g32) rfl ?_
        refine zg_getI (pc' := 152) zf_Ls_139 zd_Ls_of_149 (gT_ok g33) rfl ?_
        obtain ⟨g34, h⟩ := gd_some h
        obtain ⟨r37, S35, e36, h⟩ := bq_some h
        refine zg_callV (ci := 5) (As := [.ref (zR S11 (zR S11 a0 7) 8), .int (zI S11 (zR S11 a0 7) 7)]) (rest := []) (pc' := 155) zl_Ls_142 zq356 zq357 ⟨_, rfl, rfl⟩ zd_Ls_of_152 rfl rfl (Nat.le_of_ble_eq_true rfl) (by omega) (gT_ok g34) (tm_Sa_grit (d := 4) (Nat.le_refl _) e36) rfl ?_
        refine zg_st (st' := [.int r37]) rfl ?_
        obtain ⟨rfl, rfl⟩ := rt_q h
        exact zg_iret zd_Ls_of_155 zrt_i
      rcases br_some h with ⟨c38, h⟩ | ⟨c38, h⟩
      · refine zg_tabI (tgt := 156) (7 : Int32) zd_Ls_of_49 c38 (by decide) (by decide) rfl (by decide) ?_
        refine zg_aload_n (pc' := 157) zd_Ls_of_156 rfl rfl ?_
        refine zg_aload_n (pc' := 158) zd_Ls_of_157 rfl rfl ?_
        obtain ⟨g39, h⟩ := gd_some h
        refine zg_getR (pc' := 161) zf_Ls_74 rfl zd_Ls_of_158 (gT_ok g39) rfl ?_
        obtain ⟨g40, h⟩ := gd_some h
        refine zg_getR (pc' := 164) zf_Ls_135 rfl zd_Ls_of_161 (gT_ok g40) rfl ?_
        obtain ⟨g41, h⟩ := gd_some h
        refine zg_getI (pc' := 167) zf_Ls_146 zd_Ls_of_164 (gT_ok g41) rfl ?_
        obtain ⟨g42, h⟩ := gd_some h
        obtain ⟨r45, S43, e44, h⟩ := bq_some h
        refine zg_callV (ci := 5) (As := [.int (zI S11 (zR S11 (zR S11 a0 7) 8) 3)]) (rest := []) (pc' := 170) zl_Ls_149 zq391 zq392 ⟨_, rfl, rfl⟩ zd_Ls_of_167 rfl rfl (Nat.le_of_ble_eq_true rfl) (by omega) (gT_ok g42) (tm_Sa_lasts (d := 4) (Nat.le_refl _) e44) rfl ?_
        refine zg_st (st' := [.int r45]) rfl ?_
        obtain ⟨rfl, rfl⟩ := rt_q h
        exact zg_iret zd_Ls_of_170 zrt_i
      refine zg_tableD (tgt := 171) [(0 : Int32), (1 : Int32), (2 : Int32), (3 : Int32), (4 : Int32), (5 : Int32), (6 : Int32), (7 : Int32)] zd_Ls_of_49 (by decide) (List.forall_mem_cons.mpr ⟨c15, List.forall_mem_cons.mpr ⟨c17, List.forall_mem_cons.mpr ⟨c19, List.forall_mem_cons.mpr ⟨c21, List.forall_mem_cons.mpr ⟨c23, List.forall_mem_cons.mpr ⟨c26, List.forall_mem_cons.mpr ⟨c31, List.forall_mem_cons.mpr ⟨c38, fun _ h => absurd h List.not_mem_nil⟩⟩⟩⟩⟩⟩⟩⟩) (by decide) ?_
      refine zg_sipush (x := (-10001 : Int32)) (pc' := 174) zd_Ls_of_171 (by decide) rfl ?_
      obtain ⟨rfl, rfl⟩ := rt_q h
      exact zg_iret zd_Ls_of_174 zrt_i
    · refine zg_if_eq (tgt := 48) (pc' := 35) zd_Ls_of_32 (by decide) rfl (fun q => absurd q c14) (fun _ => ?_)
      refine zg_aload_n (pc' := 36) zd_Ls_of_35 rfl rfl ?_
      obtain ⟨g46, h⟩ := gd_some h
      refine zg_getR (pc' := 39) zf_Ls_74 rfl zd_Ls_of_36 (gT_ok g46) rfl ?_
      refine zg_aload_n (pc' := 40) zd_Ls_of_39 rfl rfl ?_
      refine zg_iload_n (pc' := 41) zd_Ls_of_40 rfl rfl ?_
      refine zg_bipush (x := (10 : Int32)) (pc' := 43) zd_Ls_of_41 (by decide) rfl ?_
      refine zg_isub (pc' := 44) zd_Ls_of_43 rfl ?_
      obtain ⟨g47, h⟩ := gd_some h
      obtain ⟨r50, S48, e49, h⟩ := bq_some h
      refine zg_callV (ci := 1) (As := [.ref (zR S3 (zR S3 (zR S3 a0 7) 0) a1.toNatClampNeg), .int (a2 - (10 : Int32))]) (rest := []) (pc' := 47) zl_Ls_109 zq352 zq353 ⟨_, rfl, rfl⟩ zd_Ls_of_44 rfl rfl (Nat.le_of_ble_eq_true rfl) (by omega) (gT_ok g47) (tm_Ho_takes (d := 5) (Nat.le_refl _) e49) rfl ?_
      refine zg_st (st' := [.int r50]) rfl ?_
      obtain ⟨rfl, rfl⟩ := rt_q h
      exact zg_iret zd_Ls_of_47 zrt_i
theorem zd_Ls_set_0 : decode prog_1_method_4_code 0 = .ok (.aload_n 0, 1) := by decide +kernel
theorem zd_Ls_set_1 : decode prog_1_method_4_code 1 = .ok (.getfield 74, 3) := by decide +kernel
theorem zd_Ls_set_4 : decode prog_1_method_4_code 4 = .ok (.iload_n 1, 1) := by decide +kernel
theorem zd_Ls_set_5 : decode prog_1_method_4_code 5 = .ok (.invokevirtual 103, 3) := by decide +kernel
theorem zd_Ls_set_8 : decode prog_1_method_4_code 8 = .ok (.ifCond .eq 12, 3) := by decide +kernel
theorem zd_Ls_set_11 : decode prog_1_method_4_code 11 = .ok (.iload_n 2, 1) := by decide +kernel
theorem zd_Ls_set_12 : decode prog_1_method_4_code 12 = .ok (.ifCond .lt 8, 3) := by decide +kernel
theorem zd_Ls_set_15 : decode prog_1_method_4_code 15 = .ok (.iload_n 2, 1) := by decide +kernel
theorem zd_Ls_set_16 : decode prog_1_method_4_code 16 = .ok (.iconst 1, 1) := by decide +kernel
theorem zd_Ls_set_17 : decode prog_1_method_4_code 17 = .ok (.if_icmp .le 5, 3) := by decide +kernel
theorem zd_Ls_set_22 : decode prog_1_method_4_code 22 = .ok (.aload_n 0, 1) := by decide +kernel
theorem zd_Ls_set_23 : decode prog_1_method_4_code 23 = .ok (.getfield 74, 3) := by decide +kernel
theorem zd_Ls_set_26 : decode prog_1_method_4_code 26 = .ok (.getfield 95, 3) := by decide +kernel
theorem zd_Ls_set_29 : decode prog_1_method_4_code 29 = .ok (.iload_n 1, 1) := by decide +kernel
theorem zd_Ls_set_30 : decode prog_1_method_4_code 30 = .ok (.aaload, 1) := by decide +kernel
theorem zd_Ls_set_31 : decode prog_1_method_4_code 31 = .ok (.astore 4, 2) := by decide +kernel
theorem zd_Ls_set_33 : decode prog_1_method_4_code 33 = .ok (.iload_n 2, 1) := by decide +kernel
theorem zd_Ls_set_34 : decode prog_1_method_4_code 34 = .ok (.ifCond .ne 29, 3) := by decide +kernel
theorem zd_Ls_set_63 : decode prog_1_method_4_code 63 = .ok (.iload_n 3, 1) := by decide +kernel
theorem zd_Ls_set_64 : decode prog_1_method_4_code 64 = .ok (.ifCond .lt 9, 3) := by decide +kernel
theorem zd_Ls_set_67 : decode prog_1_method_4_code 67 = .ok (.iload_n 3, 1) := by decide +kernel
theorem zd_Ls_set_68 : decode prog_1_method_4_code 68 = .ok (.bipush 99, 2) := by decide +kernel
theorem zd_Ls_set_70 : decode prog_1_method_4_code 70 = .ok (.if_icmp .le 6, 3) := by decide +kernel
theorem zd_Ls_set_76 : decode prog_1_method_4_code 76 = .ok (.aload 4, 2) := by decide +kernel
theorem zd_Ls_set_78 : decode prog_1_method_4_code 78 = .ok (.getfield 122, 3) := by decide +kernel
theorem zd_Ls_set_81 : decode prog_1_method_4_code 81 = .ok (.istore 5, 2) := by decide +kernel
theorem zd_Ls_set_83 : decode prog_1_method_4_code 83 = .ok (.aload 4, 2) := by decide +kernel
theorem zd_Ls_set_85 : decode prog_1_method_4_code 85 = .ok (.iload_n 3, 1) := by decide +kernel
theorem zd_Ls_set_86 : decode prog_1_method_4_code 86 = .ok (.putfield 122, 3) := by decide +kernel
theorem zd_Ls_set_89 : decode prog_1_method_4_code 89 = .ok (.iload 5, 2) := by decide +kernel
theorem zd_Ls_set_91 : decode prog_1_method_4_code 91 = .ok (.ireturn, 1) := by decide +kernel
theorem zd_Ls_set_73 : decode prog_1_method_4_code 73 = .ok (.bipush (-2), 2) := by decide +kernel
theorem zd_Ls_set_75 : decode prog_1_method_4_code 75 = .ok (.ireturn, 1) := by decide +kernel
theorem zd_Ls_set_37 : decode prog_1_method_4_code 37 = .ok (.iload_n 3, 1) := by decide +kernel
theorem zd_Ls_set_38 : decode prog_1_method_4_code 38 = .ok (.invokestatic 89, 3) := by decide +kernel
theorem zd_Ls_set_41 : decode prog_1_method_4_code 41 = .ok (.ifCond .ne 6, 3) := by decide +kernel
theorem zd_Ls_set_47 : decode prog_1_method_4_code 47 = .ok (.aload 4, 2) := by decide +kernel
theorem zd_Ls_set_49 : decode prog_1_method_4_code 49 = .ok (.getfield 119, 3) := by decide +kernel
theorem zd_Ls_set_52 : decode prog_1_method_4_code 52 = .ok (.istore 5, 2) := by decide +kernel
theorem zd_Ls_set_54 : decode prog_1_method_4_code 54 = .ok (.aload 4, 2) := by decide +kernel
theorem zd_Ls_set_56 : decode prog_1_method_4_code 56 = .ok (.iload_n 3, 1) := by decide +kernel
theorem zd_Ls_set_57 : decode prog_1_method_4_code 57 = .ok (.putfield 119, 3) := by decide +kernel
theorem zd_Ls_set_60 : decode prog_1_method_4_code 60 = .ok (.iload 5, 2) := by decide +kernel
theorem zd_Ls_set_62 : decode prog_1_method_4_code 62 = .ok (.ireturn, 1) := by decide +kernel
theorem zd_Ls_set_44 : decode prog_1_method_4_code 44 = .ok (.bipush (-2), 2) := by decide +kernel
theorem zd_Ls_set_46 : decode prog_1_method_4_code 46 = .ok (.ireturn, 1) := by decide +kernel
theorem zd_Ls_set_20 : decode prog_1_method_4_code 20 = .ok (.iconst (-1), 1) := by decide +kernel
theorem zd_Ls_set_21 : decode prog_1_method_4_code 21 = .ok (.ireturn, 1) := by decide +kernel
abbrev zm_Ls_set : zQ := ("LoofahSaints", prog_1_method_4_code, 6, (Option.some Jvm.ClassFile.FieldType.int), false)
set_option maxRecDepth 100000 in
def fn_Ls_set (a0 : Nat) (a1 : Int32) (a2 : Int32) (a3 : Int32) (S : zS) : Option (Int32 × zS) :=
  gd (gT S a0 109) <|
  gd (gT S (zR S a0 7) 101) <|
  bq (fn_Ho_has (zR S a0 7) a1 S) fun r5 S3 =>
  br (decide (r5 = 0)) (some ((-1 : Int32), S3)) <|
  br (decide (a2 < 0)) (some ((-1 : Int32), S3)) <|
  br (decide (a2 ≤ (1 : Int32))) (gd (gT S3 a0 109) <|
  gd (gT S3 (zR S3 a0 7) 101) <|
  gd (gT S3 (zR S3 (zR S3 a0 7) 0) 6) <|
  gd (gB a1 (zT S3 (zR S3 (zR S3 a0 7) 0)).2) <|
  br (decide (a2 = 0)) (bq (fn_Ls_isSet a3 S3) fun r20 S18 =>
  br (decide (r20 = 0)) (some ((-2 : Int32), S18)) <|
  gd (gT S18 (zR S3 (zR S3 (zR S3 a0 7) 0) a1.toNatClampNeg) 105) <|
  nm (uI S18 (zR S3 (zR S3 (zR S3 a0 7) 0) a1.toNatClampNeg) 4 a3) fun S23 =>
  some ((zI S18 (zR S3 (zR S3 (zR S3 a0 7) 0) a1.toNatClampNeg) 4), S23)) <|
  br (decide (a3 < 0)) (some ((-2 : Int32), S3)) <|
  br (decide (a3 ≤ (99 : Int32))) (gd (gT S3 (zR S3 (zR S3 (zR S3 a0 7) 0) a1.toNatClampNeg) 105) <|
  nm (uI S3 (zR S3 (zR S3 (zR S3 a0 7) 0) a1.toNatClampNeg) 5 a3) fun S17 =>
  some ((zI S3 (zR S3 (zR S3 (zR S3 a0 7) 0) a1.toNatClampNeg) 5), S17)) <|
  some ((-2 : Int32), S3)) <|
  some ((-1 : Int32), S3)
set_option maxRecDepth 100000 in
set_option maxHeartbeats 4000000 in
theorem tm_Ls_set {X : zXt} {d : Nat} (hd : 3 ≤ d) {v : Int32} {a0 : Nat} {a1 : Int32} {a2 : Int32} {a3 : Int32} {S : zS} {S' : zS} (h : fn_Ls_set a0 a1 a2 a3 S = some (v, S')) : zM X zy_Ls_set prog_1_method_4_code 6 (Option.some Jvm.ClassFile.FieldType.int) d [.ref a0, .int a1, .int a2, .int a3] S (some (.int v)) S' := by
  refine zM_of (ini := false) (L := [some (.ref a0), some (.int a1), some (.int a2), some (.int a3), none, none]) (plainFor_of_name (by decide)) (fun h => by cases h) (Nat.le_of_ble_eq_true rfl) rfl ?_
  unfold fn_Ls_set at h
  refine zg_aload_n (pc' := 1) zd_Ls_set_0 rfl rfl ?_
  obtain ⟨g1, h⟩ := gd_some h
  refine zg_getR (pc' := 4) zf_Ls_74 rfl zd_Ls_set_1 (gT_ok g1) rfl ?_
  refine zg_iload_n (pc' := 5) zd_Ls_set_4 rfl rfl ?_
  obtain ⟨g2, h⟩ := gd_some h
  obtain ⟨r5, S3, e4, h⟩ := bq_some h
  refine zg_callV (ci := 1) (As := [.int a1]) (rest := []) (pc' := 8) zl_Ls_103 zq345 zq346 ⟨_, rfl, rfl⟩ zd_Ls_set_5 rfl rfl (Nat.le_of_ble_eq_true rfl) (by omega) (gT_ok g2) (tm_Ho_has (d := 2) (Nat.le_refl _) e4) rfl ?_
  refine zg_st (st' := [.int r5]) rfl ?_
  rcases br_some h with ⟨c6, h⟩ | ⟨c6, h⟩
  · refine zg_if_eq (tgt := 20) (pc' := 11) zd_Ls_set_8 (by decide) rfl (fun _ => ?_) (fun q => absurd c6 q)
    refine zg_iconst (x := (-1 : Int32)) (pc' := 21) zd_Ls_set_20 (by decide) rfl ?_
    obtain ⟨rfl, rfl⟩ := rt_q h
    exact zg_iret zd_Ls_set_21 zrt_i
  · refine zg_if_eq (tgt := 20) (pc' := 11) zd_Ls_set_8 (by decide) rfl (fun q => absurd q c6) (fun _ => ?_)
    refine zg_iload_n (pc' := 12) zd_Ls_set_11 rfl rfl ?_
    rcases br_some h with ⟨c7, h⟩ | ⟨c7, h⟩
    · refine zg_if_lt (tgt := 20) (pc' := 15) zd_Ls_set_12 (by decide) rfl (fun _ => ?_) (fun q => absurd c7 q)
      refine zg_iconst (x := (-1 : Int32)) (pc' := 21) zd_Ls_set_20 (by decide) rfl ?_
      obtain ⟨rfl, rfl⟩ := rt_q h
      exact zg_iret zd_Ls_set_21 zrt_i
    · refine zg_if_lt (tgt := 20) (pc' := 15) zd_Ls_set_12 (by decide) rfl (fun q => absurd q c7) (fun _ => ?_)
      refine zg_iload_n (pc' := 16) zd_Ls_set_15 rfl rfl ?_
      refine zg_iconst (x := (1 : Int32)) (pc' := 17) zd_Ls_set_16 (by decide) rfl ?_
      rcases br_some h with ⟨c8, h⟩ | ⟨c8, h⟩
      · refine zg_icmp_le (tgt := 22) (pc' := 20) zd_Ls_set_17 (by decide) rfl (fun _ => ?_) (fun q => absurd c8 q)
        refine zg_aload_n (pc' := 23) zd_Ls_set_22 rfl rfl ?_
        obtain ⟨g9, h⟩ := gd_some h
        refine zg_getR (pc' := 26) zf_Ls_74 rfl zd_Ls_set_23 (gT_ok g9) rfl ?_
        obtain ⟨g10, h⟩ := gd_some h
        refine zg_getR (pc' := 29) zf_Ls_95 rfl zd_Ls_set_26 (gT_ok g10) rfl ?_
        refine zg_iload_n (pc' := 30) zd_Ls_set_29 rfl rfl ?_
        obtain ⟨g11, h⟩ := gd_some h
        obtain ⟨g12, h⟩ := gd_some h
        refine zg_aald (t := 6) (pc' := 31) (by decide) zd_Ls_set_30 (gT_ok g11) (gB_ok g12) rfl ?_
        refine zg_astore (L' := [some (.ref a0), some (.int a1), some (.int a2), some (.int a3), some (.ref (zR S3 (zR S3 (zR S3 a0 7) 0) a1.toNatClampNeg)), none]) (pc' := 33) zd_Ls_set_31 (by decide) rfl rfl ?_
        refine zg_iload_n (pc' := 34) zd_Ls_set_33 rfl rfl ?_
        rcases br_some h with ⟨c13, h⟩ | ⟨c13, h⟩
        · refine zg_if_ne (tgt := 63) (pc' := 37) zd_Ls_set_34 (by decide) rfl (fun q => absurd c13 q) (fun _ => ?_)
          refine zg_iload_n (pc' := 38) zd_Ls_set_37 rfl rfl ?_
          obtain ⟨r20, S18, e19, h⟩ := bq_some h
          refine zg_callS (As := [.int a3]) (rest := []) (pc' := 41) zl_Ls_89 zq334 zd_Ls_set_38 rfl rfl (Nat.le_of_ble_eq_true rfl) (by omega) (tm_Ls_isSet (d := 2) (Nat.le_refl _) e19) rfl ?_
          refine zg_st (st' := [.int r20]) rfl ?_
          rcases br_some h with ⟨c21, h⟩ | ⟨c21, h⟩
          · refine zg_if_ne (tgt := 47) (pc' := 44) zd_Ls_set_41 (by decide) rfl (fun q => absurd c21 q) (fun _ => ?_)
            refine zg_bipush (x := (-2 : Int32)) (pc' := 46) zd_Ls_set_44 (by decide) rfl ?_
            obtain ⟨rfl, rfl⟩ := rt_q h
            exact zg_iret zd_Ls_set_46 zrt_i
          · refine zg_if_ne (tgt := 47) (pc' := 44) zd_Ls_set_41 (by decide) rfl (fun _ => ?_) (fun q => absurd q c21)
            refine zg_aload (pc' := 49) zd_Ls_set_47 rfl rfl ?_
            obtain ⟨g22, h⟩ := gd_some h
            refine zg_getI (pc' := 52) zf_Ls_119 zd_Ls_set_49 (gT_ok g22) rfl ?_
            refine zg_istore (L' := [some (.ref a0), some (.int a1), some (.int a2), some (.int a3), some (.ref (zR S3 (zR S3 (zR S3 a0 7) 0) a1.toNatClampNeg)), some (.int (zI S18 (zR S3 (zR S3 (zR S3 a0 7) 0) a1.toNatClampNeg) 4))]) (pc' := 54) zd_Ls_set_52 (by decide) rfl rfl ?_
            refine zg_aload (pc' := 56) zd_Ls_set_54 rfl rfl ?_
            refine zg_iload_n (pc' := 57) zd_Ls_set_56 rfl rfl ?_
            refine zg_putI (pc' := 60) zf_Ls_119 zd_Ls_set_57 (Or.inl rfl) (gT_ok g22) rfl ?_
            obtain ⟨S23, eS23, h⟩ := nm_some h
            refine zg_nm eS23 ?_
            refine zg_iload (pc' := 62) zd_Ls_set_60 rfl rfl ?_
            obtain ⟨rfl, rfl⟩ := rt_q h
            exact zg_iret zd_Ls_set_62 zrt_i
        · refine zg_if_ne (tgt := 63) (pc' := 37) zd_Ls_set_34 (by decide) rfl (fun _ => ?_) (fun q => absurd q c13)
          refine zg_iload_n (pc' := 64) zd_Ls_set_63 rfl rfl ?_
          rcases br_some h with ⟨c14, h⟩ | ⟨c14, h⟩
          · refine zg_if_lt (tgt := 73) (pc' := 67) zd_Ls_set_64 (by decide) rfl (fun _ => ?_) (fun q => absurd c14 q)
            refine zg_bipush (x := (-2 : Int32)) (pc' := 75) zd_Ls_set_73 (by decide) rfl ?_
            obtain ⟨rfl, rfl⟩ := rt_q h
            exact zg_iret zd_Ls_set_75 zrt_i
          · refine zg_if_lt (tgt := 73) (pc' := 67) zd_Ls_set_64 (by decide) rfl (fun q => absurd q c14) (fun _ => ?_)
            refine zg_iload_n (pc' := 68) zd_Ls_set_67 rfl rfl ?_
            refine zg_bipush (x := (99 : Int32)) (pc' := 70) zd_Ls_set_68 (by decide) rfl ?_
            rcases br_some h with ⟨c15, h⟩ | ⟨c15, h⟩
            · refine zg_icmp_le (tgt := 76) (pc' := 73) zd_Ls_set_70 (by decide) rfl (fun _ => ?_) (fun q => absurd c15 q)
              refine zg_aload (pc' := 78) zd_Ls_set_76 rfl rfl ?_
              obtain ⟨g16, h⟩ := gd_some h
              refine zg_getI (pc' := 81) zf_Ls_122 zd_Ls_set_78 (gT_ok g16) rfl ?_
              refine zg_istore (L' := [some (.ref a0), some (.int a1), some (.int a2), some (.int a3), some (.ref (zR S3 (zR S3 (zR S3 a0 7) 0) a1.toNatClampNeg)), some (.int (zI S3 (zR S3 (zR S3 (zR S3 a0 7) 0) a1.toNatClampNeg) 5))]) (pc' := 83) zd_Ls_set_81 (by decide) rfl rfl ?_
              refine zg_aload (pc' := 85) zd_Ls_set_83 rfl rfl ?_
              refine zg_iload_n (pc' := 86) zd_Ls_set_85 rfl rfl ?_
              refine zg_putI (pc' := 89) zf_Ls_122 zd_Ls_set_86 (Or.inl rfl) (gT_ok g16) rfl ?_
              obtain ⟨S17, eS17, h⟩ := nm_some h
              refine zg_nm eS17 ?_
              refine zg_iload (pc' := 91) zd_Ls_set_89 rfl rfl ?_
              obtain ⟨rfl, rfl⟩ := rt_q h
              exact zg_iret zd_Ls_set_91 zrt_i
            · refine zg_icmp_le (tgt := 76) (pc' := 73) zd_Ls_set_70 (by decide) rfl (fun q => absurd q c15) (fun _ => ?_)
              refine zg_bipush (x := (-2 : Int32)) (pc' := 75) zd_Ls_set_73 (by decide) rfl ?_
              obtain ⟨rfl, rfl⟩ := rt_q h
              exact zg_iret zd_Ls_set_75 zrt_i
      · refine zg_icmp_le (tgt := 22) (pc' := 20) zd_Ls_set_17 (by decide) rfl (fun q => absurd q c8) (fun _ => ?_)
        refine zg_iconst (x := (-1 : Int32)) (pc' := 21) zd_Ls_set_20 (by decide) rfl ?_
        obtain ⟨rfl, rfl⟩ := rt_q h
        exact zg_iret zd_Ls_set_21 zrt_i
theorem zd_Ls_peg_0 : decode prog_1_method_5_code 0 = .ok (.aload_n 0, 1) := by decide +kernel
theorem zd_Ls_peg_1 : decode prog_1_method_5_code 1 = .ok (.getfield 74, 3) := by decide +kernel
theorem zd_Ls_peg_4 : decode prog_1_method_5_code 4 = .ok (.iload_n 1, 1) := by decide +kernel
theorem zd_Ls_peg_5 : decode prog_1_method_5_code 5 = .ok (.invokevirtual 103, 3) := by decide +kernel
theorem zd_Ls_peg_8 : decode prog_1_method_5_code 8 = .ok (.ifCond .eq 15, 3) := by decide +kernel
theorem zd_Ls_peg_11 : decode prog_1_method_5_code 11 = .ok (.iload_n 2, 1) := by decide +kernel
theorem zd_Ls_peg_12 : decode prog_1_method_5_code 12 = .ok (.iconst (-1), 1) := by decide +kernel
theorem zd_Ls_peg_13 : decode prog_1_method_5_code 13 = .ok (.if_icmp .eq 12, 3) := by decide +kernel
theorem zd_Ls_peg_16 : decode prog_1_method_5_code 16 = .ok (.iload_n 2, 1) := by decide +kernel
theorem zd_Ls_peg_17 : decode prog_1_method_5_code 17 = .ok (.invokestatic 106, 3) := by decide +kernel
theorem zd_Ls_peg_20 : decode prog_1_method_5_code 20 = .ok (.ifCond .ne 5, 3) := by decide +kernel
theorem zd_Ls_peg_25 : decode prog_1_method_5_code 25 = .ok (.aload_n 0, 1) := by decide +kernel
theorem zd_Ls_peg_26 : decode prog_1_method_5_code 26 = .ok (.getfield 74, 3) := by decide +kernel
theorem zd_Ls_peg_29 : decode prog_1_method_5_code 29 = .ok (.getfield 95, 3) := by decide +kernel
theorem zd_Ls_peg_32 : decode prog_1_method_5_code 32 = .ok (.iload_n 1, 1) := by decide +kernel
theorem zd_Ls_peg_33 : decode prog_1_method_5_code 33 = .ok (.aaload, 1) := by decide +kernel
theorem zd_Ls_peg_34 : decode prog_1_method_5_code 34 = .ok (.astore_n 3, 1) := by decide +kernel
theorem zd_Ls_peg_35 : decode prog_1_method_5_code 35 = .ok (.aload_n 3, 1) := by decide +kernel
theorem zd_Ls_peg_36 : decode prog_1_method_5_code 36 = .ok (.getfield 128, 3) := by decide +kernel
theorem zd_Ls_peg_39 : decode prog_1_method_5_code 39 = .ok (.istore 4, 2) := by decide +kernel
theorem zd_Ls_peg_41 : decode prog_1_method_5_code 41 = .ok (.aload_n 3, 1) := by decide +kernel
theorem zd_Ls_peg_42 : decode prog_1_method_5_code 42 = .ok (.iload_n 2, 1) := by decide +kernel
theorem zd_Ls_peg_43 : decode prog_1_method_5_code 43 = .ok (.putfield 128, 3) := by decide +kernel
theorem zd_Ls_peg_46 : decode prog_1_method_5_code 46 = .ok (.iload 4, 2) := by decide +kernel
theorem zd_Ls_peg_48 : decode prog_1_method_5_code 48 = .ok (.invokestatic 131, 3) := by decide +kernel
theorem zd_Ls_peg_51 : decode prog_1_method_5_code 51 = .ok (.ireturn, 1) := by decide +kernel
theorem zd_Ls_peg_23 : decode prog_1_method_5_code 23 = .ok (.iconst (-1), 1) := by decide +kernel
theorem zd_Ls_peg_24 : decode prog_1_method_5_code 24 = .ok (.ireturn, 1) := by decide +kernel
abbrev zm_Ls_peg : zQ := ("LoofahSaints", prog_1_method_5_code, 5, (Option.some Jvm.ClassFile.FieldType.int), false)
set_option maxRecDepth 100000 in
def fn_Ls_peg_L25 (a0 : Nat) (a1 : Int32) (a2 : Int32) (S : zS) : Option (Int32 × zS) :=
  gd (gT S a0 109) <|
  gd (gT S (zR S a0 7) 101) <|
  gd (gT S (zR S (zR S a0 7) 0) 6) <|
  gd (gB a1 (zT S (zR S (zR S a0 7) 0)).2) <|
  gd (gT S (zR S (zR S (zR S a0 7) 0) a1.toNatClampNeg) 105) <|
  nm (uI S (zR S (zR S (zR S a0 7) 0) a1.toNatClampNeg) 6 a2) fun S6 =>
  bq (fn_Ls_someone (zI S (zR S (zR S (zR S a0 7) 0) a1.toNatClampNeg) 6) S6) fun r9 S7 =>
  some (r9, S7)
set_option maxRecDepth 100000 in
set_option maxHeartbeats 4000000 in
theorem tm_Ls_peg_L25 {X : zXt} {d : Nat} (hd : 3 ≤ d) {v : Int32} {S' : zS}  {a0 : Nat} {a1 : Int32} {a2 : Int32} {S : zS} (h : fn_Ls_peg_L25 a0 a1 a2 S = some (v, S')) : zG X zm_Ls_peg d 25 [some (.ref a0), some (.int a1), some (.int a2), none, none] [] S (some (.int v)) S' := by
  unfold fn_Ls_peg_L25 at h
  refine zg_aload_n (pc' := 26) zd_Ls_peg_25 rfl rfl ?_
  obtain ⟨g1, h⟩ := gd_some h
  refine zg_getR (pc' := 29) zf_Ls_74 rfl zd_Ls_peg_26 (gT_ok g1) rfl ?_
  obtain ⟨g2, h⟩ := gd_some h
  refine zg_getR (pc' := 32) zf_Ls_95 rfl zd_Ls_peg_29 (gT_ok g2) rfl ?_
  refine zg_iload_n (pc' := 33) zd_Ls_peg_32 rfl rfl ?_
  obtain ⟨g3, h⟩ := gd_some h
  obtain ⟨g4, h⟩ := gd_some h
  refine zg_aald (t := 6) (pc' := 34) (by decide) zd_Ls_peg_33 (gT_ok g3) (gB_ok g4) rfl ?_
  refine zg_astore_n (L' := [some (.ref a0), some (.int a1), some (.int a2), some (.ref (zR S (zR S (zR S a0 7) 0) a1.toNatClampNeg)), none]) (pc' := 35) zd_Ls_peg_34 (by decide) rfl rfl ?_
  refine zg_aload_n (pc' := 36) zd_Ls_peg_35 rfl rfl ?_
  obtain ⟨g5, h⟩ := gd_some h
  refine zg_getI (pc' := 39) zf_Ls_128 zd_Ls_peg_36 (gT_ok g5) rfl ?_
  refine zg_istore (L' := [some (.ref a0), some (.int a1), some (.int a2), some (.ref (zR S (zR S (zR S a0 7) 0) a1.toNatClampNeg)), some (.int (zI S (zR S (zR S (zR S a0 7) 0) a1.toNatClampNeg) 6))]) (pc' := 41) zd_Ls_peg_39 (by decide) rfl rfl ?_
  refine zg_aload_n (pc' := 42) zd_Ls_peg_41 rfl rfl ?_
  refine zg_iload_n (pc' := 43) zd_Ls_peg_42 rfl rfl ?_
  refine zg_putI (pc' := 46) zf_Ls_128 zd_Ls_peg_43 (Or.inl rfl) (gT_ok g5) rfl ?_
  obtain ⟨S6, eS6, h⟩ := nm_some h
  refine zg_nm eS6 ?_
  refine zg_iload (pc' := 48) zd_Ls_peg_46 rfl rfl ?_
  obtain ⟨r9, S7, e8, h⟩ := bq_some h
  refine zg_callS (As := [.int (zI S (zR S (zR S (zR S a0 7) 0) a1.toNatClampNeg) 6)]) (rest := []) (pc' := 51) zl_Ls_131 zq387 zd_Ls_peg_48 rfl rfl (Nat.le_of_ble_eq_true rfl) (by omega) (tm_Ls_someone (d := 2) (Nat.le_refl _) e8) rfl ?_
  refine zg_st (st' := [.int r9]) rfl ?_
  obtain ⟨rfl, rfl⟩ := rt_q h
  exact zg_iret zd_Ls_peg_51 zrt_i
set_option maxRecDepth 100000 in
def fn_Ls_peg (a0 : Nat) (a1 : Int32) (a2 : Int32) (S : zS) : Option (Int32 × zS) :=
  gd (gT S a0 109) <|
  gd (gT S (zR S a0 7) 101) <|
  bq (fn_Ho_has (zR S a0 7) a1 S) fun r5 S3 =>
  br (decide (r5 = 0)) (some ((-1 : Int32), S3)) <|
  br (decide (a2 = (-1 : Int32))) (fn_Ls_peg_L25 a0 a1 a2 S3) <|
  bq (fn_Ls_isNovice a2 S3) fun r10 S8 =>
  br (decide (r10 = 0)) (some ((-1 : Int32), S8)) <|
  fn_Ls_peg_L25 a0 a1 a2 S8
set_option maxRecDepth 100000 in
set_option maxHeartbeats 4000000 in
theorem tm_Ls_peg {X : zXt} {d : Nat} (hd : 3 ≤ d) {v : Int32} {a0 : Nat} {a1 : Int32} {a2 : Int32} {S : zS} {S' : zS} (h : fn_Ls_peg a0 a1 a2 S = some (v, S')) : zM X zy_Ls_peg prog_1_method_5_code 5 (Option.some Jvm.ClassFile.FieldType.int) d [.ref a0, .int a1, .int a2] S (some (.int v)) S' := by
  refine zM_of (ini := false) (L := [some (.ref a0), some (.int a1), some (.int a2), none, none]) (plainFor_of_name (by decide)) (fun h => by cases h) (Nat.le_of_ble_eq_true rfl) rfl ?_
  unfold fn_Ls_peg at h
  refine zg_aload_n (pc' := 1) zd_Ls_peg_0 rfl rfl ?_
  obtain ⟨g1, h⟩ := gd_some h
  refine zg_getR (pc' := 4) zf_Ls_74 rfl zd_Ls_peg_1 (gT_ok g1) rfl ?_
  refine zg_iload_n (pc' := 5) zd_Ls_peg_4 rfl rfl ?_
  obtain ⟨g2, h⟩ := gd_some h
  obtain ⟨r5, S3, e4, h⟩ := bq_some h
  refine zg_callV (ci := 1) (As := [.int a1]) (rest := []) (pc' := 8) zl_Ls_103 zq345 zq346 ⟨_, rfl, rfl⟩ zd_Ls_peg_5 rfl rfl (Nat.le_of_ble_eq_true rfl) (by omega) (gT_ok g2) (tm_Ho_has (d := 2) (Nat.le_refl _) e4) rfl ?_
  refine zg_st (st' := [.int r5]) rfl ?_
  rcases br_some h with ⟨c6, h⟩ | ⟨c6, h⟩
  · refine zg_if_eq (tgt := 23) (pc' := 11) zd_Ls_peg_8 (by decide) rfl (fun _ => ?_) (fun q => absurd c6 q)
    refine zg_iconst (x := (-1 : Int32)) (pc' := 24) zd_Ls_peg_23 (by decide) rfl ?_
    obtain ⟨rfl, rfl⟩ := rt_q h
    exact zg_iret zd_Ls_peg_24 zrt_i
  · refine zg_if_eq (tgt := 23) (pc' := 11) zd_Ls_peg_8 (by decide) rfl (fun q => absurd q c6) (fun _ => ?_)
    refine zg_iload_n (pc' := 12) zd_Ls_peg_11 rfl rfl ?_
    refine zg_iconst (x := (-1 : Int32)) (pc' := 13) zd_Ls_peg_12 (by decide) rfl ?_
    rcases br_some h with ⟨c7, h⟩ | ⟨c7, h⟩
    · refine zg_icmp_eq (tgt := 25) (pc' := 16) zd_Ls_peg_13 (by decide) rfl (fun _ => ?_) (fun q => absurd c7 q)
      exact tm_Ls_peg_L25 hd h
    · refine zg_icmp_eq (tgt := 25) (pc' := 16) zd_Ls_peg_13 (by decide) rfl (fun q => absurd q c7) (fun _ => ?_)
      refine zg_iload_n (pc' := 17) zd_Ls_peg_16 rfl rfl ?_
      obtain ⟨r10, S8, e9, h⟩ := bq_some h
      refine zg_callS (As := [.int a2]) (rest := []) (pc' := 20) zl_Ls_106 zq349 zd_Ls_peg_17 rfl rfl (Nat.le_of_ble_eq_true rfl) (by omega) (tm_Ls_isNovice (d := 2) (Nat.le_refl _) e9) rfl ?_
      refine zg_st (st' := [.int r10]) rfl ?_
      rcases br_some h with ⟨c11, h⟩ | ⟨c11, h⟩
      · refine zg_if_ne (tgt := 25) (pc' := 23) zd_Ls_peg_20 (by decide) rfl (fun q => absurd c11 q) (fun _ => ?_)
        refine zg_iconst (x := (-1 : Int32)) (pc' := 24) zd_Ls_peg_23 (by decide) rfl ?_
        obtain ⟨rfl, rfl⟩ := rt_q h
        exact zg_iret zd_Ls_peg_24 zrt_i
      · refine zg_if_ne (tgt := 25) (pc' := 23) zd_Ls_peg_20 (by decide) rfl (fun _ => ?_) (fun q => absurd q c11)
        exact tm_Ls_peg_L25 hd h
theorem zd_Ls_novice_0 : decode prog_1_method_6_code 0 = .ok (.iload_n 1, 1) := by decide +kernel
theorem zd_Ls_novice_1 : decode prog_1_method_6_code 1 = .ok (.invokestatic 106, 3) := by decide +kernel
theorem zd_Ls_novice_4 : decode prog_1_method_6_code 4 = .ok (.ifCond .eq 12, 3) := by decide +kernel
theorem zd_Ls_novice_7 : decode prog_1_method_6_code 7 = .ok (.iload_n 2, 1) := by decide +kernel
theorem zd_Ls_novice_8 : decode prog_1_method_6_code 8 = .ok (.ifCond .lt 8, 3) := by decide +kernel
theorem zd_Ls_novice_11 : decode prog_1_method_6_code 11 = .ok (.iload_n 2, 1) := by decide +kernel
theorem zd_Ls_novice_12 : decode prog_1_method_6_code 12 = .ok (.iconst 1, 1) := by decide +kernel
theorem zd_Ls_novice_13 : decode prog_1_method_6_code 13 = .ok (.if_icmp .le 5, 3) := by decide +kernel
theorem zd_Ls_novice_18 : decode prog_1_method_6_code 18 = .ok (.iload_n 3, 1) := by decide +kernel
theorem zd_Ls_novice_19 : decode prog_1_method_6_code 19 = .ok (.invokestatic 89, 3) := by decide +kernel
theorem zd_Ls_novice_22 : decode prog_1_method_6_code 22 = .ok (.ifCond .ne 6, 3) := by decide +kernel
theorem zd_Ls_novice_28 : decode prog_1_method_6_code 28 = .ok (.iload_n 2, 1) := by decide +kernel
theorem zd_Ls_novice_29 : decode prog_1_method_6_code 29 = .ok (.ifCond .ne 13, 3) := by decide +kernel
theorem zd_Ls_novice_42 : decode prog_1_method_6_code 42 = .ok (.aload_n 0, 1) := by decide +kernel
theorem zd_Ls_novice_43 : decode prog_1_method_6_code 43 = .ok (.getfield 74, 3) := by decide +kernel
theorem zd_Ls_novice_46 : decode prog_1_method_6_code 46 = .ok (.getfield 156, 3) := by decide +kernel
theorem zd_Ls_novice_32 : decode prog_1_method_6_code 32 = .ok (.aload_n 0, 1) := by decide +kernel
theorem zd_Ls_novice_33 : decode prog_1_method_6_code 33 = .ok (.getfield 74, 3) := by decide +kernel
theorem zd_Ls_novice_36 : decode prog_1_method_6_code 36 = .ok (.getfield 152, 3) := by decide +kernel
theorem zd_Ls_novice_39 : decode prog_1_method_6_code 39 = .ok (.goto 10, 3) := by decide +kernel
theorem zd_Ls_novice_49 : decode prog_1_method_6_code 49 = .ok (.astore 4, 2) := by decide +kernel
theorem zd_Ls_novice_51 : decode prog_1_method_6_code 51 = .ok (.aload 4, 2) := by decide +kernel
theorem zd_Ls_novice_53 : decode prog_1_method_6_code 53 = .ok (.iload_n 1, 1) := by decide +kernel
theorem zd_Ls_novice_54 : decode prog_1_method_6_code 54 = .ok (.iaload, 1) := by decide +kernel
theorem zd_Ls_novice_55 : decode prog_1_method_6_code 55 = .ok (.istore 5, 2) := by decide +kernel
theorem zd_Ls_novice_57 : decode prog_1_method_6_code 57 = .ok (.aload 4, 2) := by decide +kernel
theorem zd_Ls_novice_59 : decode prog_1_method_6_code 59 = .ok (.iload_n 1, 1) := by decide +kernel
theorem zd_Ls_novice_60 : decode prog_1_method_6_code 60 = .ok (.iload_n 3, 1) := by decide +kernel
theorem zd_Ls_novice_61 : decode prog_1_method_6_code 61 = .ok (.iastore, 1) := by decide +kernel
theorem zd_Ls_novice_62 : decode prog_1_method_6_code 62 = .ok (.iload 5, 2) := by decide +kernel
theorem zd_Ls_novice_64 : decode prog_1_method_6_code 64 = .ok (.ireturn, 1) := by decide +kernel
theorem zd_Ls_novice_25 : decode prog_1_method_6_code 25 = .ok (.bipush (-2), 2) := by decide +kernel
theorem zd_Ls_novice_27 : decode prog_1_method_6_code 27 = .ok (.ireturn, 1) := by decide +kernel
theorem zd_Ls_novice_16 : decode prog_1_method_6_code 16 = .ok (.iconst (-1), 1) := by decide +kernel
theorem zd_Ls_novice_17 : decode prog_1_method_6_code 17 = .ok (.ireturn, 1) := by decide +kernel
abbrev zm_Ls_novice : zQ := ("LoofahSaints", prog_1_method_6_code, 6, (Option.some Jvm.ClassFile.FieldType.int), false)
set_option maxRecDepth 100000 in
def fn_Ls_novice (a0 : Nat) (a1 : Int32) (a2 : Int32) (a3 : Int32) (S : zS) : Option (Int32 × zS) :=
  bq (fn_Ls_isNovice a1 S) fun r3 S1 =>
  br (decide (r3 = 0)) (some ((-1 : Int32), S1)) <|
  br (decide (a2 < 0)) (some ((-1 : Int32), S1)) <|
  br (decide (a2 ≤ (1 : Int32))) (bq (fn_Ls_isSet a3 S1) fun r9 S7 =>
  br (decide (r9 = 0)) (some ((-2 : Int32), S7)) <|
  br (decide (a2 = 0)) (gd (gT S7 a0 109) <|
  gd (gT S7 (zR S7 a0 7) 101) <|
  gd (gT S7 (zR S7 (zR S7 a0 7) 1) 1) <|
  gd (gB a1 (zT S7 (zR S7 (zR S7 a0 7) 1)).2) <|
  gd (gP (zR S7 (zR S7 a0 7) 1)) <|
  nm (uI S7 (zR S7 (zR S7 a0 7) 1) a1.toNatClampNeg a3) fun S23 =>
  some ((zI S7 (zR S7 (zR S7 a0 7) 1) a1.toNatClampNeg), S23)) <|
  gd (gT S7 a0 109) <|
  gd (gT S7 (zR S7 a0 7) 101) <|
  gd (gT S7 (zR S7 (zR S7 a0 7) 2) 1) <|
  gd (gB a1 (zT S7 (zR S7 (zR S7 a0 7) 2)).2) <|
  gd (gP (zR S7 (zR S7 a0 7) 2)) <|
  nm (uI S7 (zR S7 (zR S7 a0 7) 2) a1.toNatClampNeg a3) fun S17 =>
  some ((zI S7 (zR S7 (zR S7 a0 7) 2) a1.toNatClampNeg), S17)) <|
  some ((-1 : Int32), S1)
set_option maxRecDepth 100000 in
set_option maxHeartbeats 4000000 in
theorem tm_Ls_novice {X : zXt} {d : Nat} (hd : 3 ≤ d) {v : Int32} {a0 : Nat} {a1 : Int32} {a2 : Int32} {a3 : Int32} {S : zS} {S' : zS} (h : fn_Ls_novice a0 a1 a2 a3 S = some (v, S')) : zM X zy_Ls_novice prog_1_method_6_code 6 (Option.some Jvm.ClassFile.FieldType.int) d [.ref a0, .int a1, .int a2, .int a3] S (some (.int v)) S' := by
  refine zM_of (ini := false) (L := [some (.ref a0), some (.int a1), some (.int a2), some (.int a3), none, none]) (plainFor_of_name (by decide)) (fun h => by cases h) (Nat.le_of_ble_eq_true rfl) rfl ?_
  unfold fn_Ls_novice at h
  refine zg_iload_n (pc' := 1) zd_Ls_novice_0 rfl rfl ?_
  obtain ⟨r3, S1, e2, h⟩ := bq_some h
  refine zg_callS (As := [.int a1]) (rest := []) (pc' := 4) zl_Ls_106 zq349 zd_Ls_novice_1 rfl rfl (Nat.le_of_ble_eq_true rfl) (by omega) (tm_Ls_isNovice (d := 2) (Nat.le_refl _) e2) rfl ?_
  refine zg_st (st' := [.int r3]) rfl ?_
  rcases br_some h with ⟨c4, h⟩ | ⟨c4, h⟩
  · refine zg_if_eq (tgt := 16) (pc' := 7) zd_Ls_novice_4 (by decide) rfl (fun _ => ?_) (fun q => absurd c4 q)
    refine zg_iconst (x := (-1 : Int32)) (pc' := 17) zd_Ls_novice_16 (by decide) rfl ?_
    obtain ⟨rfl, rfl⟩ := rt_q h
    exact zg_iret zd_Ls_novice_17 zrt_i
  · refine zg_if_eq (tgt := 16) (pc' := 7) zd_Ls_novice_4 (by decide) rfl (fun q => absurd q c4) (fun _ => ?_)
    refine zg_iload_n (pc' := 8) zd_Ls_novice_7 rfl rfl ?_
    rcases br_some h with ⟨c5, h⟩ | ⟨c5, h⟩
    · refine zg_if_lt (tgt := 16) (pc' := 11) zd_Ls_novice_8 (by decide) rfl (fun _ => ?_) (fun q => absurd c5 q)
      refine zg_iconst (x := (-1 : Int32)) (pc' := 17) zd_Ls_novice_16 (by decide) rfl ?_
      obtain ⟨rfl, rfl⟩ := rt_q h
      exact zg_iret zd_Ls_novice_17 zrt_i
    · refine zg_if_lt (tgt := 16) (pc' := 11) zd_Ls_novice_8 (by decide) rfl (fun q => absurd q c5) (fun _ => ?_)
      refine zg_iload_n (pc' := 12) zd_Ls_novice_11 rfl rfl ?_
      refine zg_iconst (x := (1 : Int32)) (pc' := 13) zd_Ls_novice_12 (by decide) rfl ?_
      rcases br_some h with ⟨c6, h⟩ | ⟨c6, h⟩
      · refine zg_icmp_le (tgt := 18) (pc' := 16) zd_Ls_novice_13 (by decide) rfl (fun _ => ?_) (fun q => absurd c6 q)
        refine zg_iload_n (pc' := 19) zd_Ls_novice_18 rfl rfl ?_
        obtain ⟨r9, S7, e8, h⟩ := bq_some h
        refine zg_callS (As := [.int a3]) (rest := []) (pc' := 22) zl_Ls_89 zq334 zd_Ls_novice_19 rfl rfl (Nat.le_of_ble_eq_true rfl) (by omega) (tm_Ls_isSet (d := 2) (Nat.le_refl _) e8) rfl ?_
        refine zg_st (st' := [.int r9]) rfl ?_
        rcases br_some h with ⟨c10, h⟩ | ⟨c10, h⟩
        · refine zg_if_ne (tgt := 28) (pc' := 25) zd_Ls_novice_22 (by decide) rfl (fun q => absurd c10 q) (fun _ => ?_)
          refine zg_bipush (x := (-2 : Int32)) (pc' := 27) zd_Ls_novice_25 (by decide) rfl ?_
          obtain ⟨rfl, rfl⟩ := rt_q h
          exact zg_iret zd_Ls_novice_27 zrt_i
        · refine zg_if_ne (tgt := 28) (pc' := 25) zd_Ls_novice_22 (by decide) rfl (fun _ => ?_) (fun q => absurd q c10)
          refine zg_iload_n (pc' := 29) zd_Ls_novice_28 rfl rfl ?_
          rcases br_some h with ⟨c11, h⟩ | ⟨c11, h⟩
          · refine zg_if_ne (tgt := 42) (pc' := 32) zd_Ls_novice_29 (by decide) rfl (fun q => absurd c11 q) (fun _ => ?_)
            refine zg_aload_n (pc' := 33) zd_Ls_novice_32 rfl rfl ?_
            obtain ⟨g18, h⟩ := gd_some h
            refine zg_getR (pc' := 36) zf_Ls_74 rfl zd_Ls_novice_33 (gT_ok g18) rfl ?_
            obtain ⟨g19, h⟩ := gd_some h
            refine zg_getR (pc' := 39) zf_Ls_152 rfl zd_Ls_novice_36 (gT_ok g19) rfl ?_
            refine zg_goto (tgt := 49) zd_Ls_novice_39 (by decide) ?_
            refine zg_astore (L' := [some (.ref a0), some (.int a1), some (.int a2), some (.int a3), some (.ref (zR S7 (zR S7 a0 7) 1)), none]) (pc' := 51) zd_Ls_novice_49 (by decide) rfl rfl ?_
            refine zg_aload (pc' := 53) zd_Ls_novice_51 rfl rfl ?_
            refine zg_iload_n (pc' := 54) zd_Ls_novice_53 rfl rfl ?_
            obtain ⟨g20, h⟩ := gd_some h
            obtain ⟨g21, h⟩ := gd_some h
            refine zg_iald (pc' := 55) zd_Ls_novice_54 (gT_ok g20) (gB_ok g21) rfl ?_
            refine zg_istore (L' := [some (.ref a0), some (.int a1), some (.int a2), some (.int a3), some (.ref (zR S7 (zR S7 a0 7) 1)), some (.int (zI S7 (zR S7 (zR S7 a0 7) 1) a1.toNatClampNeg))]) (pc' := 57) zd_Ls_novice_55 (by decide) rfl rfl ?_
            refine zg_aload (pc' := 59) zd_Ls_novice_57 rfl rfl ?_
            refine zg_iload_n (pc' := 60) zd_Ls_novice_59 rfl rfl ?_
            refine zg_iload_n (pc' := 61) zd_Ls_novice_60 rfl rfl ?_
            obtain ⟨g22, h⟩ := gd_some h
            refine zg_iast (pc' := 62) zd_Ls_novice_61 (gT_ok g20) (gP_ok g22) (gB_ok g21) rfl ?_
            obtain ⟨S23, eS23, h⟩ := nm_some h
            refine zg_nm eS23 ?_
            refine zg_iload (pc' := 64) zd_Ls_novice_62 rfl rfl ?_
            obtain ⟨rfl, rfl⟩ := rt_q h
            exact zg_iret zd_Ls_novice_64 zrt_i
          · refine zg_if_ne (tgt := 42) (pc' := 32) zd_Ls_novice_29 (by decide) rfl (fun _ => ?_) (fun q => absurd q c11)
            refine zg_aload_n (pc' := 43) zd_Ls_novice_42 rfl rfl ?_
            obtain ⟨g12, h⟩ := gd_some h
            refine zg_getR (pc' := 46) zf_Ls_74 rfl zd_Ls_novice_43 (gT_ok g12) rfl ?_
            obtain ⟨g13, h⟩ := gd_some h
            refine zg_getR (pc' := 49) zf_Ls_156 rfl zd_Ls_novice_46 (gT_ok g13) rfl ?_
            refine zg_astore (L' := [some (.ref a0), some (.int a1), some (.int a2), some (.int a3), some (.ref (zR S7 (zR S7 a0 7) 2)), none]) (pc' := 51) zd_Ls_novice_49 (by decide) rfl rfl ?_
            refine zg_aload (pc' := 53) zd_Ls_novice_51 rfl rfl ?_
            refine zg_iload_n (pc' := 54) zd_Ls_novice_53 rfl rfl ?_
            obtain ⟨g14, h⟩ := gd_some h
            obtain ⟨g15, h⟩ := gd_some h
            refine zg_iald (pc' := 55) zd_Ls_novice_54 (gT_ok g14) (gB_ok g15) rfl ?_
            refine zg_istore (L' := [some (.ref a0), some (.int a1), some (.int a2), some (.int a3), some (.ref (zR S7 (zR S7 a0 7) 2)), some (.int (zI S7 (zR S7 (zR S7 a0 7) 2) a1.toNatClampNeg))]) (pc' := 57) zd_Ls_novice_55 (by decide) rfl rfl ?_
            refine zg_aload (pc' := 59) zd_Ls_novice_57 rfl rfl ?_
            refine zg_iload_n (pc' := 60) zd_Ls_novice_59 rfl rfl ?_
            refine zg_iload_n (pc' := 61) zd_Ls_novice_60 rfl rfl ?_
            obtain ⟨g16, h⟩ := gd_some h
            refine zg_iast (pc' := 62) zd_Ls_novice_61 (gT_ok g14) (gP_ok g16) (gB_ok g15) rfl ?_
            obtain ⟨S17, eS17, h⟩ := nm_some h
            refine zg_nm eS17 ?_
            refine zg_iload (pc' := 64) zd_Ls_novice_62 rfl rfl ?_
            obtain ⟨rfl, rfl⟩ := rt_q h
            exact zg_iret zd_Ls_novice_64 zrt_i
      · refine zg_icmp_le (tgt := 18) (pc' := 16) zd_Ls_novice_13 (by decide) rfl (fun q => absurd q c6) (fun _ => ?_)
        refine zg_iconst (x := (-1 : Int32)) (pc' := 17) zd_Ls_novice_16 (by decide) rfl ?_
        obtain ⟨rfl, rfl⟩ := rt_q h
        exact zg_iret zd_Ls_novice_17 zrt_i
theorem zd_Ls_use_0 : decode prog_1_method_7_code 0 = .ok (.aload_n 0, 1) := by decide +kernel
theorem zd_Ls_use_1 : decode prog_1_method_7_code 1 = .ok (.getfield 74, 3) := by decide +kernel
theorem zd_Ls_use_4 : decode prog_1_method_7_code 4 = .ok (.iload_n 1, 1) := by decide +kernel
theorem zd_Ls_use_5 : decode prog_1_method_7_code 5 = .ok (.invokevirtual 103, 3) := by decide +kernel
theorem zd_Ls_use_8 : decode prog_1_method_7_code 8 = .ok (.ifCond .eq 10, 3) := by decide +kernel
theorem zd_Ls_use_11 : decode prog_1_method_7_code 11 = .ok (.iload_n 2, 1) := by decide +kernel
theorem zd_Ls_use_12 : decode prog_1_method_7_code 12 = .ok (.invokestatic 106, 3) := by decide +kernel
theorem zd_Ls_use_15 : decode prog_1_method_7_code 15 = .ok (.ifCond .ne 5, 3) := by decide +kernel
theorem zd_Ls_use_20 : decode prog_1_method_7_code 20 = .ok (.aload_n 0, 1) := by decide +kernel
theorem zd_Ls_use_21 : decode prog_1_method_7_code 21 = .ok (.getfield 74, 3) := by decide +kernel
theorem zd_Ls_use_24 : decode prog_1_method_7_code 24 = .ok (.getfield 95, 3) := by decide +kernel
theorem zd_Ls_use_27 : decode prog_1_method_7_code 27 = .ok (.iload_n 1, 1) := by decide +kernel
theorem zd_Ls_use_28 : decode prog_1_method_7_code 28 = .ok (.aaload, 1) := by decide +kernel
theorem zd_Ls_use_29 : decode prog_1_method_7_code 29 = .ok (.invokevirtual 159, 3) := by decide +kernel
theorem zd_Ls_use_32 : decode prog_1_method_7_code 32 = .ok (.ifCond .eq 6, 3) := by decide +kernel
theorem zd_Ls_use_38 : decode prog_1_method_7_code 38 = .ok (.aload_n 0, 1) := by decide +kernel
theorem zd_Ls_use_39 : decode prog_1_method_7_code 39 = .ok (.getfield 74, 3) := by decide +kernel
theorem zd_Ls_use_42 : decode prog_1_method_7_code 42 = .ok (.aload_n 0, 1) := by decide +kernel
theorem zd_Ls_use_43 : decode prog_1_method_7_code 43 = .ok (.getfield 74, 3) := by decide +kernel
theorem zd_Ls_use_46 : decode prog_1_method_7_code 46 = .ok (.getfield 95, 3) := by decide +kernel
theorem zd_Ls_use_49 : decode prog_1_method_7_code 49 = .ok (.iload_n 1, 1) := by decide +kernel
theorem zd_Ls_use_50 : decode prog_1_method_7_code 50 = .ok (.aaload, 1) := by decide +kernel
theorem zd_Ls_use_51 : decode prog_1_method_7_code 51 = .ok (.iload_n 2, 1) := by decide +kernel
theorem zd_Ls_use_52 : decode prog_1_method_7_code 52 = .ok (.invokevirtual 163, 3) := by decide +kernel
theorem zd_Ls_use_55 : decode prog_1_method_7_code 55 = .ok (.ireturn, 1) := by decide +kernel
theorem zd_Ls_use_35 : decode prog_1_method_7_code 35 = .ok (.bipush (-3), 2) := by decide +kernel
theorem zd_Ls_use_37 : decode prog_1_method_7_code 37 = .ok (.ireturn, 1) := by decide +kernel
theorem zd_Ls_use_18 : decode prog_1_method_7_code 18 = .ok (.iconst (-1), 1) := by decide +kernel
theorem zd_Ls_use_19 : decode prog_1_method_7_code 19 = .ok (.ireturn, 1) := by decide +kernel
abbrev zm_Ls_use : zQ := ("LoofahSaints", prog_1_method_7_code, 3, (Option.some Jvm.ClassFile.FieldType.int), false)
set_option maxRecDepth 100000 in
def fn_Ls_use (a0 : Nat) (a1 : Int32) (a2 : Int32) (S : zS) : Option (Int32 × zS) :=
  gd (gT S a0 109) <|
  gd (gT S (zR S a0 7) 101) <|
  bq (fn_Ho_has (zR S a0 7) a1 S) fun r5 S3 =>
  br (decide (r5 = 0)) (some ((-1 : Int32), S3)) <|
  bq (fn_Ls_isNovice a2 S3) fun r9 S7 =>
  br (decide (r9 = 0)) (some ((-1 : Int32), S7)) <|
  gd (gT S7 a0 109) <|
  gd (gT S7 (zR S7 a0 7) 101) <|
  gd (gT S7 (zR S7 (zR S7 a0 7) 0) 6) <|
  gd (gB a1 (zT S7 (zR S7 (zR S7 a0 7) 0)).2) <|
  gd (gT S7 (zR S7 (zR S7 (zR S7 a0 7) 0) a1.toNatClampNeg) 105) <|
  bq (fn_Sa_isThread (zR S7 (zR S7 (zR S7 a0 7) 0) a1.toNatClampNeg) S7) fun r18 S16 =>
  br (decide (r18 = 0)) (gd (gT S16 a0 109) <|
  gd (gT S16 (zR S16 a0 7) 101) <|
  gd (gT S16 (zR S16 (zR S16 a0 7) 0) 6) <|
  gd (gB a1 (zT S16 (zR S16 (zR S16 a0 7) 0)).2) <|
  bq (fn_Ho_scrub (zR S16 a0 7) (zR S16 (zR S16 (zR S16 a0 7) 0) a1.toNatClampNeg) a2 S16) fun r26 S24 =>
  some (r26, S24)) <|
  some ((-3 : Int32), S16)
set_option maxRecDepth 100000 in
set_option maxHeartbeats 4000000 in
theorem tm_Ls_use {X : zXt} {d : Nat} (hd : 6 ≤ d) {v : Int32} {a0 : Nat} {a1 : Int32} {a2 : Int32} {S : zS} {S' : zS} (h : fn_Ls_use a0 a1 a2 S = some (v, S')) : zM X zy_Ls_use prog_1_method_7_code 3 (Option.some Jvm.ClassFile.FieldType.int) d [.ref a0, .int a1, .int a2] S (some (.int v)) S' := by
  refine zM_of (ini := false) (L := [some (.ref a0), some (.int a1), some (.int a2)]) (plainFor_of_name (by decide)) (fun h => by cases h) (Nat.le_of_ble_eq_true rfl) rfl ?_
  unfold fn_Ls_use at h
  refine zg_aload_n (pc' := 1) zd_Ls_use_0 rfl rfl ?_
  obtain ⟨g1, h⟩ := gd_some h
  refine zg_getR (pc' := 4) zf_Ls_74 rfl zd_Ls_use_1 (gT_ok g1) rfl ?_
  refine zg_iload_n (pc' := 5) zd_Ls_use_4 rfl rfl ?_
  obtain ⟨g2, h⟩ := gd_some h
  obtain ⟨r5, S3, e4, h⟩ := bq_some h
  refine zg_callV (ci := 1) (As := [.int a1]) (rest := []) (pc' := 8) zl_Ls_103 zq345 zq346 ⟨_, rfl, rfl⟩ zd_Ls_use_5 rfl rfl (Nat.le_of_ble_eq_true rfl) (by omega) (gT_ok g2) (tm_Ho_has (d := 2) (Nat.le_refl _) e4) rfl ?_
  refine zg_st (st' := [.int r5]) rfl ?_
  rcases br_some h with ⟨c6, h⟩ | ⟨c6, h⟩
  · refine zg_if_eq (tgt := 18) (pc' := 11) zd_Ls_use_8 (by decide) rfl (fun _ => ?_) (fun q => absurd c6 q)
    refine zg_iconst (x := (-1 : Int32)) (pc' := 19) zd_Ls_use_18 (by decide) rfl ?_
    obtain ⟨rfl, rfl⟩ := rt_q h
    exact zg_iret zd_Ls_use_19 zrt_i
  · refine zg_if_eq (tgt := 18) (pc' := 11) zd_Ls_use_8 (by decide) rfl (fun q => absurd q c6) (fun _ => ?_)
    refine zg_iload_n (pc' := 12) zd_Ls_use_11 rfl rfl ?_
    obtain ⟨r9, S7, e8, h⟩ := bq_some h
    refine zg_callS (As := [.int a2]) (rest := []) (pc' := 15) zl_Ls_106 zq349 zd_Ls_use_12 rfl rfl (Nat.le_of_ble_eq_true rfl) (by omega) (tm_Ls_isNovice (d := 2) (Nat.le_refl _) e8) rfl ?_
    refine zg_st (st' := [.int r9]) rfl ?_
    rcases br_some h with ⟨c10, h⟩ | ⟨c10, h⟩
    · refine zg_if_ne (tgt := 20) (pc' := 18) zd_Ls_use_15 (by decide) rfl (fun q => absurd c10 q) (fun _ => ?_)
      refine zg_iconst (x := (-1 : Int32)) (pc' := 19) zd_Ls_use_18 (by decide) rfl ?_
      obtain ⟨rfl, rfl⟩ := rt_q h
      exact zg_iret zd_Ls_use_19 zrt_i
    · refine zg_if_ne (tgt := 20) (pc' := 18) zd_Ls_use_15 (by decide) rfl (fun _ => ?_) (fun q => absurd q c10)
      refine zg_aload_n (pc' := 21) zd_Ls_use_20 rfl rfl ?_
      obtain ⟨g11, h⟩ := gd_some h
      refine zg_getR (pc' := 24) zf_Ls_74 rfl zd_Ls_use_21 (gT_ok g11) rfl ?_
      obtain ⟨g12, h⟩ := gd_some h
      refine zg_getR (pc' := 27) zf_Ls_95 rfl zd_Ls_use_24 (gT_ok g12) rfl ?_
      refine zg_iload_n (pc' := 28) zd_Ls_use_27 rfl rfl ?_
      obtain ⟨g13, h⟩ := gd_some h
      obtain ⟨g14, h⟩ := gd_some h
      refine zg_aald (t := 6) (pc' := 29) (by decide) zd_Ls_use_28 (gT_ok g13) (gB_ok g14) rfl ?_
      obtain ⟨g15, h⟩ := gd_some h
      obtain ⟨r18, S16, e17, h⟩ := bq_some h
      refine zg_callV (ci := 5) (As := []) (rest := []) (pc' := 32) zl_Ls_159 zq377 zq378 ⟨_, rfl, rfl⟩ zd_Ls_use_29 rfl rfl (Nat.le_of_ble_eq_true rfl) (by omega) (gT_ok g15) (tm_Sa_isThread (d := 2) (Nat.le_refl _) e17) rfl ?_
      refine zg_st (st' := [.int r18]) rfl ?_
      rcases br_some h with ⟨c19, h⟩ | ⟨c19, h⟩
      · refine zg_if_eq (tgt := 38) (pc' := 35) zd_Ls_use_32 (by decide) rfl (fun _ => ?_) (fun q => absurd c19 q)
        refine zg_aload_n (pc' := 39) zd_Ls_use_38 rfl rfl ?_
        obtain ⟨g20, h⟩ := gd_some h
        refine zg_getR (pc' := 42) zf_Ls_74 rfl zd_Ls_use_39 (gT_ok g20) rfl ?_
        refine zg_aload_n (pc' := 43) zd_Ls_use_42 rfl rfl ?_
        refine zg_getR (pc' := 46) zf_Ls_74 rfl zd_Ls_use_43 (gT_ok g20) rfl ?_
        obtain ⟨g21, h⟩ := gd_some h
        refine zg_getR (pc' := 49) zf_Ls_95 rfl zd_Ls_use_46 (gT_ok g21) rfl ?_
        refine zg_iload_n (pc' := 50) zd_Ls_use_49 rfl rfl ?_
        obtain ⟨g22, h⟩ := gd_some h
        obtain ⟨g23, h⟩ := gd_some h
        refine zg_aald (t := 6) (pc' := 51) (by decide) zd_Ls_use_50 (gT_ok g22) (gB_ok g23) rfl ?_
        refine zg_iload_n (pc' := 52) zd_Ls_use_51 rfl rfl ?_
        obtain ⟨r26, S24, e25, h⟩ := bq_some h
        refine zg_callV (ci := 1) (As := [.ref (zR S16 (zR S16 (zR S16 a0 7) 0) a1.toNatClampNeg), .int a2]) (rest := []) (pc' := 55) zl_Ls_163 zq418 zq419 ⟨_, rfl, rfl⟩ zd_Ls_use_52 rfl rfl (Nat.le_of_ble_eq_true rfl) (by omega) (gT_ok g21) (tm_Ho_scrub (d := 5) (Nat.le_refl _) e25) rfl ?_
        refine zg_st (st' := [.int r26]) rfl ?_
        obtain ⟨rfl, rfl⟩ := rt_q h
        exact zg_iret zd_Ls_use_55 zrt_i
      · refine zg_if_eq (tgt := 38) (pc' := 35) zd_Ls_use_32 (by decide) rfl (fun q => absurd q c19) (fun _ => ?_)
        refine zg_bipush (x := (-3 : Int32)) (pc' := 37) zd_Ls_use_35 (by decide) rfl ?_
        obtain ⟨rfl, rfl⟩ := rt_q h
        exact zg_iret zd_Ls_use_37 zrt_i
theorem zd_Ls_row_0 : decode prog_1_method_8_code 0 = .ok (.aload_n 0, 1) := by decide +kernel
theorem zd_Ls_row_1 : decode prog_1_method_8_code 1 = .ok (.getfield 74, 3) := by decide +kernel
theorem zd_Ls_row_4 : decode prog_1_method_8_code 4 = .ok (.iload_n 1, 1) := by decide +kernel
theorem zd_Ls_row_5 : decode prog_1_method_8_code 5 = .ok (.invokevirtual 103, 3) := by decide +kernel
theorem zd_Ls_row_8 : decode prog_1_method_8_code 8 = .ok (.ifCond .eq 12, 3) := by decide +kernel
theorem zd_Ls_row_11 : decode prog_1_method_8_code 11 = .ok (.iload_n 2, 1) := by decide +kernel
theorem zd_Ls_row_12 : decode prog_1_method_8_code 12 = .ok (.ifCond .lt 8, 3) := by decide +kernel
theorem zd_Ls_row_15 : decode prog_1_method_8_code 15 = .ok (.iload_n 2, 1) := by decide +kernel
theorem zd_Ls_row_16 : decode prog_1_method_8_code 16 = .ok (.iconst 4, 1) := by decide +kernel
theorem zd_Ls_row_17 : decode prog_1_method_8_code 17 = .ok (.if_icmp .lt 5, 3) := by decide +kernel
theorem zd_Ls_row_22 : decode prog_1_method_8_code 22 = .ok (.iload_n 3, 1) := by decide +kernel
theorem zd_Ls_row_23 : decode prog_1_method_8_code 23 = .ok (.ifCond .lt 9, 3) := by decide +kernel
theorem zd_Ls_row_26 : decode prog_1_method_8_code 26 = .ok (.iload_n 3, 1) := by decide +kernel
theorem zd_Ls_row_27 : decode prog_1_method_8_code 27 = .ok (.bipush 10, 2) := by decide +kernel
theorem zd_Ls_row_29 : decode prog_1_method_8_code 29 = .ok (.if_icmp .lt 6, 3) := by decide +kernel
theorem zd_Ls_row_35 : decode prog_1_method_8_code 35 = .ok (.aload_n 0, 1) := by decide +kernel
theorem zd_Ls_row_36 : decode prog_1_method_8_code 36 = .ok (.getfield 74, 3) := by decide +kernel
theorem zd_Ls_row_39 : decode prog_1_method_8_code 39 = .ok (.getfield 95, 3) := by decide +kernel
theorem zd_Ls_row_42 : decode prog_1_method_8_code 42 = .ok (.iload_n 1, 1) := by decide +kernel
theorem zd_Ls_row_43 : decode prog_1_method_8_code 43 = .ok (.aaload, 1) := by decide +kernel
theorem zd_Ls_row_44 : decode prog_1_method_8_code 44 = .ok (.astore 4, 2) := by decide +kernel
theorem zd_Ls_row_46 : decode prog_1_method_8_code 46 = .ok (.aload 4, 2) := by decide +kernel
theorem zd_Ls_row_48 : decode prog_1_method_8_code 48 = .ok (.getfield 113, 3) := by decide +kernel
theorem zd_Ls_row_51 : decode prog_1_method_8_code 51 = .ok (.bipush 6, 2) := by decide +kernel
theorem zd_Ls_row_53 : decode prog_1_method_8_code 53 = .ok (.if_icmp .eq 6, 3) := by decide +kernel
theorem zd_Ls_row_59 : decode prog_1_method_8_code 59 = .ok (.aload 4, 2) := by decide +kernel
theorem zd_Ls_row_61 : decode prog_1_method_8_code 61 = .ok (.getfield 166, 3) := by decide +kernel
theorem zd_Ls_row_64 : decode prog_1_method_8_code 64 = .ok (.iload_n 2, 1) := by decide +kernel
theorem zd_Ls_row_65 : decode prog_1_method_8_code 65 = .ok (.iaload, 1) := by decide +kernel
theorem zd_Ls_row_66 : decode prog_1_method_8_code 66 = .ok (.istore 5, 2) := by decide +kernel
theorem zd_Ls_row_68 : decode prog_1_method_8_code 68 = .ok (.aload 4, 2) := by decide +kernel
theorem zd_Ls_row_70 : decode prog_1_method_8_code 70 = .ok (.getfield 166, 3) := by decide +kernel
theorem zd_Ls_row_73 : decode prog_1_method_8_code 73 = .ok (.iload_n 2, 1) := by decide +kernel
theorem zd_Ls_row_74 : decode prog_1_method_8_code 74 = .ok (.iload_n 3, 1) := by decide +kernel
theorem zd_Ls_row_75 : decode prog_1_method_8_code 75 = .ok (.iastore, 1) := by decide +kernel
theorem zd_Ls_row_76 : decode prog_1_method_8_code 76 = .ok (.iload 5, 2) := by decide +kernel
theorem zd_Ls_row_78 : decode prog_1_method_8_code 78 = .ok (.ireturn, 1) := by decide +kernel
theorem zd_Ls_row_56 : decode prog_1_method_8_code 56 = .ok (.bipush (-3), 2) := by decide +kernel
theorem zd_Ls_row_58 : decode prog_1_method_8_code 58 = .ok (.ireturn, 1) := by decide +kernel
theorem zd_Ls_row_32 : decode prog_1_method_8_code 32 = .ok (.bipush (-2), 2) := by decide +kernel
theorem zd_Ls_row_34 : decode prog_1_method_8_code 34 = .ok (.ireturn, 1) := by decide +kernel
theorem zd_Ls_row_20 : decode prog_1_method_8_code 20 = .ok (.iconst (-1), 1) := by decide +kernel
theorem zd_Ls_row_21 : decode prog_1_method_8_code 21 = .ok (.ireturn, 1) := by decide +kernel
abbrev zm_Ls_row : zQ := ("LoofahSaints", prog_1_method_8_code, 6, (Option.some Jvm.ClassFile.FieldType.int), false)
set_option maxRecDepth 100000 in
def fn_Ls_row (a0 : Nat) (a1 : Int32) (a2 : Int32) (a3 : Int32) (S : zS) : Option (Int32 × zS) :=
  gd (gT S a0 109) <|
  gd (gT S (zR S a0 7) 101) <|
  bq (fn_Ho_has (zR S a0 7) a1 S) fun r5 S3 =>
  br (decide (r5 = 0)) (some ((-1 : Int32), S3)) <|
  br (decide (a2 < 0)) (some ((-1 : Int32), S3)) <|
  br (decide (a2 < (4 : Int32))) (br (decide (a3 < 0)) (some ((-2 : Int32), S3)) <|
  br (decide (a3 < (10 : Int32))) (gd (gT S3 a0 109) <|
  gd (gT S3 (zR S3 a0 7) 101) <|
  gd (gT S3 (zR S3 (zR S3 a0 7) 0) 6) <|
  gd (gB a1 (zT S3 (zR S3 (zR S3 a0 7) 0)).2) <|
  gd (gT S3 (zR S3 (zR S3 (zR S3 a0 7) 0) a1.toNatClampNeg) 105) <|
  br (decide ((zI S3 (zR S3 (zR S3 (zR S3 a0 7) 0) a1.toNatClampNeg) 2) = (6 : Int32))) (gd (gT S3 (zR S3 (zR S3 (zR S3 (zR S3 a0 7) 0) a1.toNatClampNeg) 0) 1) <|
  gd (gB a2 (zT S3 (zR S3 (zR S3 (zR S3 (zR S3 a0 7) 0) a1.toNatClampNeg) 0)).2) <|
  gd (gP (zR S3 (zR S3 (zR S3 (zR S3 a0 7) 0) a1.toNatClampNeg) 0)) <|
  nm (uI S3 (zR S3 (zR S3 (zR S3 (zR S3 a0 7) 0) a1.toNatClampNeg) 0) a2.toNatClampNeg a3) fun S20 =>
  some ((zI S3 (zR S3 (zR S3 (zR S3 (zR S3 a0 7) 0) a1.toNatClampNeg) 0) a2.toNatClampNeg), S20)) <|
  some ((-3 : Int32), S3)) <|
  some ((-2 : Int32), S3)) <|
  some ((-1 : Int32), S3)
set_option maxRecDepth 100000 in
set_option maxHeartbeats 4000000 in
theorem tm_Ls_row {X : zXt} {d : Nat} (hd : 3 ≤ d) {v : Int32} {a0 : Nat} {a1 : Int32} {a2 : Int32} {a3 : Int32} {S : zS} {S' : zS} (h : fn_Ls_row a0 a1 a2 a3 S = some (v, S')) : zM X zy_Ls_row prog_1_method_8_code 6 (Option.some Jvm.ClassFile.FieldType.int) d [.ref a0, .int a1, .int a2, .int a3] S (some (.int v)) S' := by
  refine zM_of (ini := false) (L := [some (.ref a0), some (.int a1), some (.int a2), some (.int a3), none, none]) (plainFor_of_name (by decide)) (fun h => by cases h) (Nat.le_of_ble_eq_true rfl) rfl ?_
  unfold fn_Ls_row at h
  refine zg_aload_n (pc' := 1) zd_Ls_row_0 rfl rfl ?_
  obtain ⟨g1, h⟩ := gd_some h
  refine zg_getR (pc' := 4) zf_Ls_74 rfl zd_Ls_row_1 (gT_ok g1) rfl ?_
  refine zg_iload_n (pc' := 5) zd_Ls_row_4 rfl rfl ?_
  obtain ⟨g2, h⟩ := gd_some h
  obtain ⟨r5, S3, e4, h⟩ := bq_some h
  refine zg_callV (ci := 1) (As := [.int a1]) (rest := []) (pc' := 8) zl_Ls_103 zq345 zq346 ⟨_, rfl, rfl⟩ zd_Ls_row_5 rfl rfl (Nat.le_of_ble_eq_true rfl) (by omega) (gT_ok g2) (tm_Ho_has (d := 2) (Nat.le_refl _) e4) rfl ?_
  refine zg_st (st' := [.int r5]) rfl ?_
  rcases br_some h with ⟨c6, h⟩ | ⟨c6, h⟩
  · refine zg_if_eq (tgt := 20) (pc' := 11) zd_Ls_row_8 (by decide) rfl (fun _ => ?_) (fun q => absurd c6 q)
    refine zg_iconst (x := (-1 : Int32)) (pc' := 21) zd_Ls_row_20 (by decide) rfl ?_
    obtain ⟨rfl, rfl⟩ := rt_q h
    exact zg_iret zd_Ls_row_21 zrt_i
  · refine zg_if_eq (tgt := 20) (pc' := 11) zd_Ls_row_8 (by decide) rfl (fun q => absurd q c6) (fun _ => ?_)
    refine zg_iload_n (pc' := 12) zd_Ls_row_11 rfl rfl ?_
    rcases br_some h with ⟨c7, h⟩ | ⟨c7, h⟩
    · refine zg_if_lt (tgt := 20) (pc' := 15) zd_Ls_row_12 (by decide) rfl (fun _ => ?_) (fun q => absurd c7 q)
      refine zg_iconst (x := (-1 : Int32)) (pc' := 21) zd_Ls_row_20 (by decide) rfl ?_
      obtain ⟨rfl, rfl⟩ := rt_q h
      exact zg_iret zd_Ls_row_21 zrt_i
    · refine zg_if_lt (tgt := 20) (pc' := 15) zd_Ls_row_12 (by decide) rfl (fun q => absurd q c7) (fun _ => ?_)
      refine zg_iload_n (pc' := 16) zd_Ls_row_15 rfl rfl ?_
      refine zg_iconst (x := (4 : Int32)) (pc' := 17) zd_Ls_row_16 (by decide) rfl ?_
      rcases br_some h with ⟨c8, h⟩ | ⟨c8, h⟩
      · refine zg_icmp_lt (tgt := 22) (pc' := 20) zd_Ls_row_17 (by decide) rfl (fun _ => ?_) (fun q => absurd c8 q)
        refine zg_iload_n (pc' := 23) zd_Ls_row_22 rfl rfl ?_
        rcases br_some h with ⟨c9, h⟩ | ⟨c9, h⟩
        · refine zg_if_lt (tgt := 32) (pc' := 26) zd_Ls_row_23 (by decide) rfl (fun _ => ?_) (fun q => absurd c9 q)
          refine zg_bipush (x := (-2 : Int32)) (pc' := 34) zd_Ls_row_32 (by decide) rfl ?_
          obtain ⟨rfl, rfl⟩ := rt_q h
          exact zg_iret zd_Ls_row_34 zrt_i
        · refine zg_if_lt (tgt := 32) (pc' := 26) zd_Ls_row_23 (by decide) rfl (fun q => absurd q c9) (fun _ => ?_)
          refine zg_iload_n (pc' := 27) zd_Ls_row_26 rfl rfl ?_
          refine zg_bipush (x := (10 : Int32)) (pc' := 29) zd_Ls_row_27 (by decide) rfl ?_
          rcases br_some h with ⟨c10, h⟩ | ⟨c10, h⟩
          · refine zg_icmp_lt (tgt := 35) (pc' := 32) zd_Ls_row_29 (by decide) rfl (fun _ => ?_) (fun q => absurd c10 q)
            refine zg_aload_n (pc' := 36) zd_Ls_row_35 rfl rfl ?_
            obtain ⟨g11, h⟩ := gd_some h
            refine zg_getR (pc' := 39) zf_Ls_74 rfl zd_Ls_row_36 (gT_ok g11) rfl ?_
            obtain ⟨g12, h⟩ := gd_some h
            refine zg_getR (pc' := 42) zf_Ls_95 rfl zd_Ls_row_39 (gT_ok g12) rfl ?_
            refine zg_iload_n (pc' := 43) zd_Ls_row_42 rfl rfl ?_
            obtain ⟨g13, h⟩ := gd_some h
            obtain ⟨g14, h⟩ := gd_some h
            refine zg_aald (t := 6) (pc' := 44) (by decide) zd_Ls_row_43 (gT_ok g13) (gB_ok g14) rfl ?_
            refine zg_astore (L' := [some (.ref a0), some (.int a1), some (.int a2), some (.int a3), some (.ref (zR S3 (zR S3 (zR S3 a0 7) 0) a1.toNatClampNeg)), none]) (pc' := 46) zd_Ls_row_44 (by decide) rfl rfl ?_
            refine zg_aload (pc' := 48) zd_Ls_row_46 rfl rfl ?_
            obtain ⟨g15, h⟩ := gd_some h
            refine zg_getI (pc' := 51) zf_Ls_113 zd_Ls_row_48 (gT_ok g15) rfl ?_
            refine zg_bipush (x := (6 : Int32)) (pc' := 53) zd_Ls_row_51 (by decide) rfl ?_
            rcases br_some h with ⟨c16, h⟩ | ⟨c16, h⟩
            · refine zg_icmp_eq (tgt := 59) (pc' := 56) zd_Ls_row_53 (by decide) rfl (fun _ => ?_) (fun q => absurd c16 q)
              refine zg_aload (pc' := 61) zd_Ls_row_59 rfl rfl ?_
              refine zg_getR (pc' := 64) zf_Ls_166 rfl zd_Ls_row_61 (gT_ok g15) rfl ?_
              refine zg_iload_n (pc' := 65) zd_Ls_row_64 rfl rfl ?_
              obtain ⟨g17, h⟩ := gd_some h
              obtain ⟨g18, h⟩ := gd_some h
              refine zg_iald (pc' := 66) zd_Ls_row_65 (gT_ok g17) (gB_ok g18) rfl ?_
              refine zg_istore (L' := [some (.ref a0), some (.int a1), some (.int a2), some (.int a3), some (.ref (zR S3 (zR S3 (zR S3 a0 7) 0) a1.toNatClampNeg)), some (.int (zI S3 (zR S3 (zR S3 (zR S3 (zR S3 a0 7) 0) a1.toNatClampNeg) 0) a2.toNatClampNeg))]) (pc' := 68) zd_Ls_row_66 (by decide) rfl rfl ?_
              refine zg_aload (pc' := 70) zd_Ls_row_68 rfl rfl ?_
              refine zg_getR (pc' := 73) zf_Ls_166 rfl zd_Ls_row_70 (gT_ok g15) rfl ?_
              refine zg_iload_n (pc' := 74) zd_Ls_row_73 rfl rfl ?_
              refine zg_iload_n (pc' := 75) zd_Ls_row_74 rfl rfl ?_
              obtain ⟨g19, h⟩ := gd_some h
              refine zg_iast (pc' := 76) zd_Ls_row_75 (gT_ok g17) (gP_ok g19) (gB_ok g18) rfl ?_
              obtain ⟨S20, eS20, h⟩ := nm_some h
              refine zg_nm eS20 ?_
              refine zg_iload (pc' := 78) zd_Ls_row_76 rfl rfl ?_
              obtain ⟨rfl, rfl⟩ := rt_q h
              exact zg_iret zd_Ls_row_78 zrt_i
            · refine zg_icmp_eq (tgt := 59) (pc' := 56) zd_Ls_row_53 (by decide) rfl (fun q => absurd q c16) (fun _ => ?_)
              refine zg_bipush (x := (-3 : Int32)) (pc' := 58) zd_Ls_row_56 (by decide) rfl ?_
              obtain ⟨rfl, rfl⟩ := rt_q h
              exact zg_iret zd_Ls_row_58 zrt_i
          · refine zg_icmp_lt (tgt := 35) (pc' := 32) zd_Ls_row_29 (by decide) rfl (fun q => absurd q c10) (fun _ => ?_)
            refine zg_bipush (x := (-2 : Int32)) (pc' := 34) zd_Ls_row_32 (by decide) rfl ?_
            obtain ⟨rfl, rfl⟩ := rt_q h
            exact zg_iret zd_Ls_row_34 zrt_i
      · refine zg_icmp_lt (tgt := 22) (pc' := 20) zd_Ls_row_17 (by decide) rfl (fun q => absurd q c8) (fun _ => ?_)
        refine zg_iconst (x := (-1 : Int32)) (pc' := 21) zd_Ls_row_20 (by decide) rfl ?_
        obtain ⟨rfl, rfl⟩ := rt_q h
        exact zg_iret zd_Ls_row_21 zrt_i
theorem zd_Ls_feed_0 : decode prog_1_method_9_code 0 = .ok (.iload_n 1, 1) := by decide +kernel
theorem zd_Ls_feed_1 : decode prog_1_method_9_code 1 = .ok (.ifCond .lt 10, 3) := by decide +kernel
theorem zd_Ls_feed_4 : decode prog_1_method_9_code 4 = .ok (.iload_n 1, 1) := by decide +kernel
theorem zd_Ls_feed_5 : decode prog_1_method_9_code 5 = .ok (.sipush 128, 3) := by decide +kernel
theorem zd_Ls_feed_8 : decode prog_1_method_9_code 8 = .ok (.if_icmp .lt 6, 3) := by decide +kernel
theorem zd_Ls_feed_14 : decode prog_1_method_9_code 14 = .ok (.aload_n 0, 1) := by decide +kernel
theorem zd_Ls_feed_15 : decode prog_1_method_9_code 15 = .ok (.getfield 26, 3) := by decide +kernel
theorem zd_Ls_feed_18 : decode prog_1_method_9_code 18 = .ok (.getfield 169, 3) := by decide +kernel
theorem zd_Ls_feed_21 : decode prog_1_method_9_code 21 = .ok (.bipush 100, 2) := by decide +kernel
theorem zd_Ls_feed_23 : decode prog_1_method_9_code 23 = .ok (.if_icmp .lt 6, 3) := by decide +kernel
theorem zd_Ls_feed_29 : decode prog_1_method_9_code 29 = .ok (.aload_n 0, 1) := by decide +kernel
theorem zd_Ls_feed_30 : decode prog_1_method_9_code 30 = .ok (.getfield 26, 3) := by decide +kernel
theorem zd_Ls_feed_33 : decode prog_1_method_9_code 33 = .ok (.getfield 172, 3) := by decide +kernel
theorem zd_Ls_feed_36 : decode prog_1_method_9_code 36 = .ok (.aload_n 0, 1) := by decide +kernel
theorem zd_Ls_feed_37 : decode prog_1_method_9_code 37 = .ok (.getfield 26, 3) := by decide +kernel
theorem zd_Ls_feed_40 : decode prog_1_method_9_code 40 = .ok (.getfield 169, 3) := by decide +kernel
theorem zd_Ls_feed_43 : decode prog_1_method_9_code 43 = .ok (.iload_n 1, 1) := by decide +kernel
theorem zd_Ls_feed_44 : decode prog_1_method_9_code 44 = .ok (.iastore, 1) := by decide +kernel
theorem zd_Ls_feed_45 : decode prog_1_method_9_code 45 = .ok (.aload_n 0, 1) := by decide +kernel
theorem zd_Ls_feed_46 : decode prog_1_method_9_code 46 = .ok (.getfield 26, 3) := by decide +kernel
theorem zd_Ls_feed_49 : decode prog_1_method_9_code 49 = .ok (.dup, 1) := by decide +kernel
theorem zd_Ls_feed_50 : decode prog_1_method_9_code 50 = .ok (.getfield 169, 3) := by decide +kernel
theorem zd_Ls_feed_53 : decode prog_1_method_9_code 53 = .ok (.iconst 1, 1) := by decide +kernel
theorem zd_Ls_feed_54 : decode prog_1_method_9_code 54 = .ok (.iadd, 1) := by decide +kernel
theorem zd_Ls_feed_55 : decode prog_1_method_9_code 55 = .ok (.putfield 169, 3) := by decide +kernel
theorem zd_Ls_feed_58 : decode prog_1_method_9_code 58 = .ok (.aload_n 0, 1) := by decide +kernel
theorem zd_Ls_feed_59 : decode prog_1_method_9_code 59 = .ok (.getfield 26, 3) := by decide +kernel
theorem zd_Ls_feed_62 : decode prog_1_method_9_code 62 = .ok (.getfield 169, 3) := by decide +kernel
theorem zd_Ls_feed_65 : decode prog_1_method_9_code 65 = .ok (.ireturn, 1) := by decide +kernel
theorem zd_Ls_feed_26 : decode prog_1_method_9_code 26 = .ok (.bipush (-4), 2) := by decide +kernel
theorem zd_Ls_feed_28 : decode prog_1_method_9_code 28 = .ok (.ireturn, 1) := by decide +kernel
theorem zd_Ls_feed_11 : decode prog_1_method_9_code 11 = .ok (.bipush (-2), 2) := by decide +kernel
theorem zd_Ls_feed_13 : decode prog_1_method_9_code 13 = .ok (.ireturn, 1) := by decide +kernel
abbrev zm_Ls_feed : zQ := ("LoofahSaints", prog_1_method_9_code, 2, (Option.some Jvm.ClassFile.FieldType.int), false)
set_option maxRecDepth 100000 in
def fn_Ls_feed (a0 : Nat) (a1 : Int32) (S : zS) : Option (Int32 × zS) :=
  br (decide (a1 < 0)) (some ((-2 : Int32), S)) <|
  br (decide (a1 < (128 : Int32))) (gd (gT S a0 109) <|
  gd (gT S (zR S a0 2) 103) <|
  br (decide ((zI S (zR S a0 2) 1) < (100 : Int32))) (gd (gT S (zR S (zR S a0 2) 0) 1) <|
  gd (gP (zR S (zR S a0 2) 0)) <|
  gd (gB (zI S (zR S a0 2) 1) (zT S (zR S (zR S a0 2) 0)).2) <|
  nm (uI S (zR S (zR S a0 2) 0) (zI S (zR S a0 2) 1).toNatClampNeg a1) fun S9 =>
  gd (gT S9 a0 109) <|
  gd (gT S9 (zR S9 a0 2) 103) <|
  nm (uI S9 (zR S9 a0 2) 1 ((zI S9 (zR S9 a0 2) 1) + (1 : Int32))) fun S12 =>
  gd (gT S12 a0 109) <|
  gd (gT S12 (zR S12 a0 2) 103) <|
  some ((zI S12 (zR S12 a0 2) 1), S12)) <|
  some ((-4 : Int32), S)) <|
  some ((-2 : Int32), S)
set_option maxRecDepth 100000 in
set_option maxHeartbeats 4000000 in
theorem tm_Ls_feed {X : zXt} {d : Nat} (hd : 2 ≤ d) {v : Int32} {a0 : Nat} {a1 : Int32} {S : zS} {S' : zS} (h : fn_Ls_feed a0 a1 S = some (v, S')) : zM X zy_Ls_feed prog_1_method_9_code 2 (Option.some Jvm.ClassFile.FieldType.int) d [.ref a0, .int a1] S (some (.int v)) S' := by
  refine zM_of (ini := false) (L := [some (.ref a0), some (.int a1)]) (plainFor_of_name (by decide)) (fun h => by cases h) (Nat.le_of_ble_eq_true rfl) rfl ?_
  unfold fn_Ls_feed at h
  refine zg_iload_n (pc' := 1) zd_Ls_feed_0 rfl rfl ?_
  rcases br_some h with ⟨c1, h⟩ | ⟨c1, h⟩
  · refine zg_if_lt (tgt := 11) (pc' := 4) zd_Ls_feed_1 (by decide) rfl (fun _ => ?_) (fun q => absurd c1 q)
    refine zg_bipush (x := (-2 : Int32)) (pc' := 13) zd_Ls_feed_11 (by decide) rfl ?_
    obtain ⟨rfl, rfl⟩ := rt_q h
    exact zg_iret zd_Ls_feed_13 zrt_i
  · refine zg_if_lt (tgt := 11) (pc' := 4) zd_Ls_feed_1 (by decide) rfl (fun q => absurd q c1) (fun _ => ?_)
    refine zg_iload_n (pc' := 5) zd_Ls_feed_4 rfl rfl ?_
    refine zg_sipush (x := (128 : Int32)) (pc' := 8) zd_Ls_feed_5 (by decide) rfl ?_
    rcases br_some h with ⟨c2, h⟩ | ⟨c2, h⟩
    · refine zg_icmp_lt (tgt := 14) (pc' := 11) zd_Ls_feed_8 (by decide) rfl (fun _ => ?_) (fun q => absurd c2 q)
      refine zg_aload_n (pc' := 15) zd_Ls_feed_14 rfl rfl ?_
      obtain ⟨g3, h⟩ := gd_some h
      refine zg_getR (pc' := 18) zf_Ls_26 rfl zd_Ls_feed_15 (gT_ok g3) rfl ?_
      obtain ⟨g4, h⟩ := gd_some h
      refine zg_getI (pc' := 21) zf_Ls_169 zd_Ls_feed_18 (gT_ok g4) rfl ?_
      refine zg_bipush (x := (100 : Int32)) (pc' := 23) zd_Ls_feed_21 (by decide) rfl ?_
      rcases br_some h with ⟨c5, h⟩ | ⟨c5, h⟩
      · refine zg_icmp_lt (tgt := 29) (pc' := 26) zd_Ls_feed_23 (by decide) rfl (fun _ => ?_) (fun q => absurd c5 q)
        refine zg_aload_n (pc' := 30) zd_Ls_feed_29 rfl rfl ?_
        refine zg_getR (pc' := 33) zf_Ls_26 rfl zd_Ls_feed_30 (gT_ok g3) rfl ?_
        refine zg_getR (pc' := 36) zf_Ls_172 rfl zd_Ls_feed_33 (gT_ok g4) rfl ?_
        refine zg_aload_n (pc' := 37) zd_Ls_feed_36 rfl rfl ?_
        refine zg_getR (pc' := 40) zf_Ls_26 rfl zd_Ls_feed_37 (gT_ok g3) rfl ?_
        refine zg_getI (pc' := 43) zf_Ls_169 zd_Ls_feed_40 (gT_ok g4) rfl ?_
        refine zg_iload_n (pc' := 44) zd_Ls_feed_43 rfl rfl ?_
        obtain ⟨g6, h⟩ := gd_some h
        obtain ⟨g7, h⟩ := gd_some h
        obtain ⟨g8, h⟩ := gd_some h
        refine zg_iast (pc' := 45) zd_Ls_feed_44 (gT_ok g6) (gP_ok g7) (gB_ok g8) rfl ?_
        obtain ⟨S9, eS9, h⟩ := nm_some h
        refine zg_nm eS9 ?_
        refine zg_aload_n (pc' := 46) zd_Ls_feed_45 rfl rfl ?_
        obtain ⟨g10, h⟩ := gd_some h
        refine zg_getR (pc' := 49) zf_Ls_26 rfl zd_Ls_feed_46 (gT_ok g10) rfl ?_
        refine zg_dup (pc' := 50) zd_Ls_feed_49 rfl rfl ?_
        obtain ⟨g11, h⟩ := gd_some h
        refine zg_getI (pc' := 53) zf_Ls_169 zd_Ls_feed_50 (gT_ok g11) rfl ?_
        refine zg_iconst (x := (1 : Int32)) (pc' := 54) zd_Ls_feed_53 (by decide) rfl ?_
        refine zg_iadd (pc' := 55) zd_Ls_feed_54 rfl ?_
        refine zg_putI (pc' := 58) zf_Ls_169 zd_Ls_feed_55 (Or.inl rfl) (gT_ok g11) rfl ?_
        obtain ⟨S12, eS12, h⟩ := nm_some h
        refine zg_nm eS12 ?_
        refine zg_aload_n (pc' := 59) zd_Ls_feed_58 rfl rfl ?_
        obtain ⟨g13, h⟩ := gd_some h
        refine zg_getR (pc' := 62) zf_Ls_26 rfl zd_Ls_feed_59 (gT_ok g13) rfl ?_
        obtain ⟨g14, h⟩ := gd_some h
        refine zg_getI (pc' := 65) zf_Ls_169 zd_Ls_feed_62 (gT_ok g14) rfl ?_
        obtain ⟨rfl, rfl⟩ := rt_q h
        exact zg_iret zd_Ls_feed_65 zrt_i
      · refine zg_icmp_lt (tgt := 29) (pc' := 26) zd_Ls_feed_23 (by decide) rfl (fun q => absurd q c5) (fun _ => ?_)
        refine zg_bipush (x := (-4 : Int32)) (pc' := 28) zd_Ls_feed_26 (by decide) rfl ?_
        obtain ⟨rfl, rfl⟩ := rt_q h
        exact zg_iret zd_Ls_feed_28 zrt_i
    · refine zg_icmp_lt (tgt := 14) (pc' := 11) zd_Ls_feed_8 (by decide) rfl (fun q => absurd q c2) (fun _ => ?_)
      refine zg_bipush (x := (-2 : Int32)) (pc' := 13) zd_Ls_feed_11 (by decide) rfl ?_
      obtain ⟨rfl, rfl⟩ := rt_q h
      exact zg_iret zd_Ls_feed_13 zrt_i
theorem zd_Ls_order_0 : decode prog_1_method_10_code 0 = .ok (.aload_n 0, 1) := by decide +kernel
theorem zd_Ls_order_1 : decode prog_1_method_10_code 1 = .ok (.getfield 60, 3) := by decide +kernel
theorem zd_Ls_order_4 : decode prog_1_method_10_code 4 = .ok (.bipush 6, 2) := by decide +kernel
theorem zd_Ls_order_6 : decode prog_1_method_10_code 6 = .ok (.if_icmp .lt 6, 3) := by decide +kernel
theorem zd_Ls_order_12 : decode prog_1_method_10_code 12 = .ok (.aload_n 0, 1) := by decide +kernel
theorem zd_Ls_order_13 : decode prog_1_method_10_code 13 = .ok (.getfield 13, 3) := by decide +kernel
theorem zd_Ls_order_16 : decode prog_1_method_10_code 16 = .ok (.aload_n 0, 1) := by decide +kernel
theorem zd_Ls_order_17 : decode prog_1_method_10_code 17 = .ok (.getfield 60, 3) := by decide +kernel
theorem zd_Ls_order_20 : decode prog_1_method_10_code 20 = .ok (.aaload, 1) := by decide +kernel
theorem zd_Ls_order_21 : decode prog_1_method_10_code 21 = .ok (.astore_n 1, 1) := by decide +kernel
theorem zd_Ls_order_22 : decode prog_1_method_10_code 22 = .ok (.aload_n 0, 1) := by decide +kernel
theorem zd_Ls_order_23 : decode prog_1_method_10_code 23 = .ok (.getfield 26, 3) := by decide +kernel
theorem zd_Ls_order_26 : decode prog_1_method_10_code 26 = .ok (.aload_n 1, 1) := by decide +kernel
theorem zd_Ls_order_27 : decode prog_1_method_10_code 27 = .ok (.invokevirtual 175, 3) := by decide +kernel
theorem zd_Ls_order_30 : decode prog_1_method_10_code 30 = .ok (.istore_n 2, 1) := by decide +kernel
theorem zd_Ls_order_31 : decode prog_1_method_10_code 31 = .ok (.aload_n 0, 1) := by decide +kernel
theorem zd_Ls_order_32 : decode prog_1_method_10_code 32 = .ok (.getfield 26, 3) := by decide +kernel
theorem zd_Ls_order_35 : decode prog_1_method_10_code 35 = .ok (.iconst 0, 1) := by decide +kernel
theorem zd_Ls_order_36 : decode prog_1_method_10_code 36 = .ok (.putfield 169, 3) := by decide +kernel
theorem zd_Ls_order_39 : decode prog_1_method_10_code 39 = .ok (.iload_n 2, 1) := by decide +kernel
theorem zd_Ls_order_40 : decode prog_1_method_10_code 40 = .ok (.ifCond .ne 14, 3) := by decide +kernel
theorem zd_Ls_order_54 : decode prog_1_method_10_code 54 = .ok (.aload_n 0, 1) := by decide +kernel
theorem zd_Ls_order_55 : decode prog_1_method_10_code 55 = .ok (.getfield 74, 3) := by decide +kernel
theorem zd_Ls_order_58 : decode prog_1_method_10_code 58 = .ok (.aload_n 1, 1) := by decide +kernel
theorem zd_Ls_order_59 : decode prog_1_method_10_code 59 = .ok (.putfield 135, 3) := by decide +kernel
theorem zd_Ls_order_62 : decode prog_1_method_10_code 62 = .ok (.aload_n 0, 1) := by decide +kernel
theorem zd_Ls_order_63 : decode prog_1_method_10_code 63 = .ok (.dup, 1) := by decide +kernel
theorem zd_Ls_order_64 : decode prog_1_method_10_code 64 = .ok (.getfield 60, 3) := by decide +kernel
theorem zd_Ls_order_67 : decode prog_1_method_10_code 67 = .ok (.dup_x1, 1) := by decide +kernel
theorem zd_Ls_order_68 : decode prog_1_method_10_code 68 = .ok (.iconst 1, 1) := by decide +kernel
theorem zd_Ls_order_69 : decode prog_1_method_10_code 69 = .ok (.iadd, 1) := by decide +kernel
theorem zd_Ls_order_70 : decode prog_1_method_10_code 70 = .ok (.putfield 60, 3) := by decide +kernel
theorem zd_Ls_order_73 : decode prog_1_method_10_code 73 = .ok (.ireturn, 1) := by decide +kernel
theorem zd_Ls_order_43 : decode prog_1_method_10_code 43 = .ok (.bipush (-10), 2) := by decide +kernel
theorem zd_Ls_order_45 : decode prog_1_method_10_code 45 = .ok (.aload_n 0, 1) := by decide +kernel
theorem zd_Ls_order_46 : decode prog_1_method_10_code 46 = .ok (.getfield 26, 3) := by decide +kernel
theorem zd_Ls_order_49 : decode prog_1_method_10_code 49 = .ok (.getfield 179, 3) := by decide +kernel
theorem zd_Ls_order_52 : decode prog_1_method_10_code 52 = .ok (.isub, 1) := by decide +kernel
theorem zd_Ls_order_53 : decode prog_1_method_10_code 53 = .ok (.ireturn, 1) := by decide +kernel
theorem zd_Ls_order_9 : decode prog_1_method_10_code 9 = .ok (.bipush (-4), 2) := by decide +kernel
theorem zd_Ls_order_11 : decode prog_1_method_10_code 11 = .ok (.ireturn, 1) := by decide +kernel
abbrev zm_Ls_order : zQ := ("LoofahSaints", prog_1_method_10_code, 3, (Option.some Jvm.ClassFile.FieldType.int), false)
set_option maxRecDepth 100000 in
def fn_Ls_order (a0 : Nat) (S : zS) : Option (Int32 × zS) :=
  gd (gT S a0 109) <|
  br (decide ((zI S a0 10) < (6 : Int32))) (gd (gT S (zR S a0 0) 4) <|
  gd (gB (zI S a0 10) (zT S (zR S a0 0)).2) <|
  gd (gT S (zR S a0 2) 103) <|
  bq (fn_Re_reads (zR S a0 2) (zR S (zR S a0 0) (zI S a0 10).toNatClampNeg) S) fun r8 S6 =>
  gd (gT S6 a0 109) <|
  gd (gT S6 (zR S6 a0 2) 103) <|
  nm (uI S6 (zR S6 a0 2) 1 (0 : Int32)) fun S11 =>
  br (decide (r8 = 0)) (gd (gT S11 a0 109) <|
  gd (gT S11 (zR S11 a0 2) 103) <|
  some (((-10 : Int32) - (zI S11 (zR S11 a0 2) 2)), S11)) <|
  gd (gT S11 a0 109) <|
  gd (gT S11 (zR S11 a0 7) 101) <|
  nm (uR S11 (zR S11 a0 7) 8 (zR S (zR S a0 0) (zI S a0 10).toNatClampNeg)) fun S15 =>
  gd (gT S15 a0 109) <|
  nm (uI S15 a0 10 ((zI S15 a0 10) + (1 : Int32))) fun S17 =>
  some ((zI S15 a0 10), S17)) <|
  some ((-4 : Int32), S)
set_option maxRecDepth 100000 in
set_option maxHeartbeats 4000000 in
theorem tm_Ls_order {X : zXt} {d : Nat} (hd : 68 ≤ d) {v : Int32} {a0 : Nat} {S : zS} {S' : zS} (h : fn_Ls_order a0 S = some (v, S')) : zM X zy_Ls_order prog_1_method_10_code 3 (Option.some Jvm.ClassFile.FieldType.int) d [.ref a0] S (some (.int v)) S' := by
  refine zM_of (ini := false) (L := [some (.ref a0), none, none]) (plainFor_of_name (by decide)) (fun h => by cases h) (Nat.le_of_ble_eq_true rfl) rfl ?_
  unfold fn_Ls_order at h
  refine zg_aload_n (pc' := 1) zd_Ls_order_0 rfl rfl ?_
  obtain ⟨g1, h⟩ := gd_some h
  refine zg_getI (pc' := 4) zf_Ls_60 zd_Ls_order_1 (gT_ok g1) rfl ?_
  refine zg_bipush (x := (6 : Int32)) (pc' := 6) zd_Ls_order_4 (by decide) rfl ?_
  rcases br_some h with ⟨c2, h⟩ | ⟨c2, h⟩
  · refine zg_icmp_lt (tgt := 12) (pc' := 9) zd_Ls_order_6 (by decide) rfl (fun _ => ?_) (fun q => absurd c2 q)
    refine zg_aload_n (pc' := 13) zd_Ls_order_12 rfl rfl ?_
    refine zg_getR (pc' := 16) zf_Ls_13 rfl zd_Ls_order_13 (gT_ok g1) rfl ?_
    refine zg_aload_n (pc' := 17) zd_Ls_order_16 rfl rfl ?_
    refine zg_getI (pc' := 20) zf_Ls_60 zd_Ls_order_17 (gT_ok g1) rfl ?_
    obtain ⟨g3, h⟩ := gd_some h
    obtain ⟨g4, h⟩ := gd_some h
    refine zg_aald (t := 4) (pc' := 21) (by decide) zd_Ls_order_20 (gT_ok g3) (gB_ok g4) rfl ?_
    refine zg_astore_n (L' := [some (.ref a0), some (.ref (zR S (zR S a0 0) (zI S a0 10).toNatClampNeg)), none]) (pc' := 22) zd_Ls_order_21 (by decide) rfl rfl ?_
    refine zg_aload_n (pc' := 23) zd_Ls_order_22 rfl rfl ?_
    refine zg_getR (pc' := 26) zf_Ls_26 rfl zd_Ls_order_23 (gT_ok g1) rfl ?_
    refine zg_aload_n (pc' := 27) zd_Ls_order_26 rfl rfl ?_
    obtain ⟨g5, h⟩ := gd_some h
    obtain ⟨r8, S6, e7, h⟩ := bq_some h
    refine zg_callV (ci := 3) (As := [.ref (zR S (zR S a0 0) (zI S a0 10).toNatClampNeg)]) (rest := []) (pc' := 30) zl_Ls_175 zq438 zq439 ⟨_, rfl, rfl⟩ zd_Ls_order_27 rfl rfl (Nat.le_of_ble_eq_true rfl) (by omega) (gT_ok g5) (tm_Re_reads (d := 67) (Nat.le_refl _) e7) rfl ?_
    refine zg_st (st' := [.int r8]) rfl ?_
    refine zg_istore_n (L' := [some (.ref a0), some (.ref (zR S (zR S a0 0) (zI S a0 10).toNatClampNeg)), some (.int r8)]) (pc' := 31) zd_Ls_order_30 (by decide) rfl rfl ?_
    refine zg_aload_n (pc' := 32) zd_Ls_order_31 rfl rfl ?_
    obtain ⟨g9, h⟩ := gd_some h
    refine zg_getR (pc' := 35) zf_Ls_26 rfl zd_Ls_order_32 (gT_ok g9) rfl ?_
    refine zg_iconst (x := (0 : Int32)) (pc' := 36) zd_Ls_order_35 (by decide) rfl ?_
    obtain ⟨g10, h⟩ := gd_some h
    refine zg_putI (pc' := 39) zf_Ls_169 zd_Ls_order_36 (Or.inl rfl) (gT_ok g10) rfl ?_
    obtain ⟨S11, eS11, h⟩ := nm_some h
    refine zg_nm eS11 ?_
    refine zg_iload_n (pc' := 40) zd_Ls_order_39 rfl rfl ?_
    rcases br_some h with ⟨c12, h⟩ | ⟨c12, h⟩
    · refine zg_if_ne (tgt := 54) (pc' := 43) zd_Ls_order_40 (by decide) rfl (fun q => absurd c12 q) (fun _ => ?_)
      refine zg_bipush (x := (-10 : Int32)) (pc' := 45) zd_Ls_order_43 (by decide) rfl ?_
      refine zg_aload_n (pc' := 46) zd_Ls_order_45 rfl rfl ?_
      obtain ⟨g18, h⟩ := gd_some h
      refine zg_getR (pc' := 49) zf_Ls_26 rfl zd_Ls_order_46 (gT_ok g18) rfl ?_
      obtain ⟨g19, h⟩ := gd_some h
      refine zg_getI (pc' := 52) zf_Ls_179 zd_Ls_order_49 (gT_ok g19) rfl ?_
      refine zg_isub (pc' := 53) zd_Ls_order_52 rfl ?_
      obtain ⟨rfl, rfl⟩ := rt_q h
      exact zg_iret zd_Ls_order_53 zrt_i
    · refine zg_if_ne (tgt := 54) (pc' := 43) zd_Ls_order_40 (by decide) rfl (fun _ => ?_) (fun q => absurd q c12)
      refine zg_aload_n (pc' := 55) zd_Ls_order_54 rfl rfl ?_
      obtain ⟨g13, h⟩ := gd_some h
      refine zg_getR (pc' := 58) zf_Ls_74 rfl zd_Ls_order_55 (gT_ok g13) rfl ?_
      refine zg_aload_n (pc' := 59) zd_Ls_order_58 rfl rfl ?_
      obtain ⟨g14, h⟩ := gd_some h
      refine zg_putR (pc' := 62) zf_Ls_135 rfl zd_Ls_order_59 (Or.inl rfl) (gT_ok g14) rfl ?_
      obtain ⟨S15, eS15, h⟩ := nm_some h
      refine zg_nm eS15 ?_
      refine zg_aload_n (pc' := 63) zd_Ls_order_62 rfl rfl ?_
      refine zg_dup (pc' := 64) zd_Ls_order_63 rfl rfl ?_
      obtain ⟨g16, h⟩ := gd_some h
      refine zg_getI (pc' := 67) zf_Ls_60 zd_Ls_order_64 (gT_ok g16) rfl ?_
      refine zg_dup_x1 (pc' := 68) zd_Ls_order_67 rfl rfl rfl ?_
      refine zg_iconst (x := (1 : Int32)) (pc' := 69) zd_Ls_order_68 (by decide) rfl ?_
      refine zg_iadd (pc' := 70) zd_Ls_order_69 rfl ?_
      refine zg_putI (pc' := 73) zf_Ls_60 zd_Ls_order_70 (Or.inl rfl) (gT_ok g16) rfl ?_
      obtain ⟨S17, eS17, h⟩ := nm_some h
      refine zg_nm eS17 ?_
      obtain ⟨rfl, rfl⟩ := rt_q h
      exact zg_iret zd_Ls_order_73 zrt_i
  · refine zg_icmp_lt (tgt := 12) (pc' := 9) zd_Ls_order_6 (by decide) rfl (fun q => absurd q c2) (fun _ => ?_)
    refine zg_bipush (x := (-4 : Int32)) (pc' := 11) zd_Ls_order_9 (by decide) rfl ?_
    obtain ⟨rfl, rfl⟩ := rt_q h
    exact zg_iret zd_Ls_order_11 zrt_i
theorem zd_Ls_daysTillClean_0 : decode prog_1_method_14_code 0 = .ok (.aload_n 0, 1) := by decide +kernel
theorem zd_Ls_daysTillClean_1 : decode prog_1_method_14_code 1 = .ok (.getfield 78, 3) := by decide +kernel
theorem zd_Ls_daysTillClean_4 : decode prog_1_method_14_code 4 = .ok (.aload_n 0, 1) := by decide +kernel
theorem zd_Ls_daysTillClean_5 : decode prog_1_method_14_code 5 = .ok (.getfield 74, 3) := by decide +kernel
theorem zd_Ls_daysTillClean_8 : decode prog_1_method_14_code 8 = .ok (.invokevirtual 202, 3) := by decide +kernel
theorem zd_Ls_daysTillClean_11 : decode prog_1_method_14_code 11 = .ok (.iconst 0, 1) := by decide +kernel
theorem zd_Ls_daysTillClean_12 : decode prog_1_method_14_code 12 = .ok (.istore_n 2, 1) := by decide +kernel
theorem zd_Ls_daysTillClean_13 : decode prog_1_method_14_code 13 = .ok (.iload_n 2, 1) := by decide +kernel
theorem zd_Ls_daysTillClean_14 : decode prog_1_method_14_code 14 = .ok (.bipush 60, 2) := by decide +kernel
theorem zd_Ls_daysTillClean_16 : decode prog_1_method_14_code 16 = .ok (.if_icmp .gt 30, 3) := by decide +kernel
theorem zd_Ls_daysTillClean_46 : decode prog_1_method_14_code 46 = .ok (.bipush (-5), 2) := by decide +kernel
theorem zd_Ls_daysTillClean_48 : decode prog_1_method_14_code 48 = .ok (.ireturn, 1) := by decide +kernel
theorem zd_Ls_daysTillClean_19 : decode prog_1_method_14_code 19 = .ok (.aload_n 0, 1) := by decide +kernel
theorem zd_Ls_daysTillClean_20 : decode prog_1_method_14_code 20 = .ok (.getfield 78, 3) := by decide +kernel
theorem zd_Ls_daysTillClean_23 : decode prog_1_method_14_code 23 = .ok (.getfield 152, 3) := by decide +kernel
theorem zd_Ls_daysTillClean_26 : decode prog_1_method_14_code 26 = .ok (.iload_n 1, 1) := by decide +kernel
theorem zd_Ls_daysTillClean_27 : decode prog_1_method_14_code 27 = .ok (.iaload, 1) := by decide +kernel
theorem zd_Ls_daysTillClean_28 : decode prog_1_method_14_code 28 = .ok (.ifCond .ne 5, 3) := by decide +kernel
theorem zd_Ls_daysTillClean_33 : decode prog_1_method_14_code 33 = .ok (.aload_n 0, 1) := by decide +kernel
theorem zd_Ls_daysTillClean_34 : decode prog_1_method_14_code 34 = .ok (.getfield 78, 3) := by decide +kernel
theorem zd_Ls_daysTillClean_37 : decode prog_1_method_14_code 37 = .ok (.invokevirtual 206, 3) := by decide +kernel
theorem zd_Ls_daysTillClean_40 : decode prog_1_method_14_code 40 = .ok (.iinc 2 1, 3) := by decide +kernel
theorem zd_Ls_daysTillClean_43 : decode prog_1_method_14_code 43 = .ok (.goto (-30), 3) := by decide +kernel
theorem zd_Ls_daysTillClean_31 : decode prog_1_method_14_code 31 = .ok (.iload_n 2, 1) := by decide +kernel
theorem zd_Ls_daysTillClean_32 : decode prog_1_method_14_code 32 = .ok (.ireturn, 1) := by decide +kernel
abbrev zm_Ls_daysTillClean : zQ := ("LoofahSaints", prog_1_method_14_code, 3, (Option.some Jvm.ClassFile.FieldType.int), false)
set_option maxRecDepth 100000 in
def fn_Ls_daysTillClean_L13 (a0 : Nat) (a1 : Int32) (a2 : Int32) (S : zS) (K13 : Nat → Int32 → Int32 → zS → Option (Int32 × zS)) : Option (Int32 × zS) :=
  br (decide ((60 : Int32) < a2)) (some ((-5 : Int32), S)) <|
  gd (gT S a0 109) <|
  gd (gT S (zR S a0 8) 101) <|
  gd (gT S (zR S (zR S a0 8) 1) 1) <|
  gd (gB a1 (zT S (zR S (zR S a0 8) 1)).2) <|
  br (decide ((zI S (zR S (zR S a0 8) 1) a1.toNatClampNeg) = 0)) (some (a2, S)) <|
  bv (fn_Ho_goDay (zR S a0 8) S) fun S7 =>
  K13 a0 a1 (a2 + (1 : Int32)) S7
set_option maxRecDepth 100000 in
set_option maxHeartbeats 4000000 in
theorem tm_Ls_daysTillClean_L13 {X : zXt} {d : Nat} (hd : 7 ≤ d) {v : Int32} {S' : zS}  {K13 : Nat → Int32 → Int32 → zS → Option (Int32 × zS)} (hK13 : ∀ (a0 : Nat) (a1 : Int32) (a2 : Int32) (S : zS), K13 a0 a1 a2 S = some (v, S') → zG X zm_Ls_daysTillClean d 13 [some (.ref a0), some (.int a1), some (.int a2)] [] S (some (.int v)) S') {a0 : Nat} {a1 : Int32} {a2 : Int32} {S : zS} (h : fn_Ls_daysTillClean_L13 a0 a1 a2 S K13 = some (v, S')) : zG X zm_Ls_daysTillClean d 13 [some (.ref a0), some (.int a1), some (.int a2)] [] S (some (.int v)) S' := by
  unfold fn_Ls_daysTillClean_L13 at h
  refine zg_iload_n (pc' := 14) zd_Ls_daysTillClean_13 rfl rfl ?_
  refine zg_bipush (x := (60 : Int32)) (pc' := 16) zd_Ls_daysTillClean_14 (by decide) rfl ?_
  rcases br_some h with ⟨c1, h⟩ | ⟨c1, h⟩
  · refine zg_icmp_gt (tgt := 46) (pc' := 19) zd_Ls_daysTillClean_16 (by decide) rfl (fun _ => ?_) (fun q => absurd c1 q)
    refine zg_bipush (x := (-5 : Int32)) (pc' := 48) zd_Ls_daysTillClean_46 (by decide) rfl ?_
    obtain ⟨rfl, rfl⟩ := rt_q h
    exact zg_iret zd_Ls_daysTillClean_48 zrt_i
  · refine zg_icmp_gt (tgt := 46) (pc' := 19) zd_Ls_daysTillClean_16 (by decide) rfl (fun q => absurd q c1) (fun _ => ?_)
    refine zg_aload_n (pc' := 20) zd_Ls_daysTillClean_19 rfl rfl ?_
    obtain ⟨g2, h⟩ := gd_some h
    refine zg_getR (pc' := 23) zf_Ls_78 rfl zd_Ls_daysTillClean_20 (gT_ok g2) rfl ?_
    obtain ⟨g3, h⟩ := gd_some h
    refine zg_getR (pc' := 26) zf_Ls_152 rfl zd_Ls_daysTillClean_23 (gT_ok g3) rfl ?_
    refine zg_iload_n (pc' := 27) zd_Ls_daysTillClean_26 rfl rfl ?_
    obtain ⟨g4, h⟩ := gd_some h
    obtain ⟨g5, h⟩ := gd_some h
    refine zg_iald (pc' := 28) zd_Ls_daysTillClean_27 (gT_ok g4) (gB_ok g5) rfl ?_
    rcases br_some h with ⟨c6, h⟩ | ⟨c6, h⟩
    · refine zg_if_ne (tgt := 33) (pc' := 31) zd_Ls_daysTillClean_28 (by decide) rfl (fun q => absurd c6 q) (fun _ => ?_)
      refine zg_iload_n (pc' := 32) zd_Ls_daysTillClean_31 rfl rfl ?_
      obtain ⟨rfl, rfl⟩ := rt_q h
      exact zg_iret zd_Ls_daysTillClean_32 zrt_i
    · refine zg_if_ne (tgt := 33) (pc' := 31) zd_Ls_daysTillClean_28 (by decide) rfl (fun _ => ?_) (fun q => absurd q c6)
      refine zg_aload_n (pc' := 34) zd_Ls_daysTillClean_33 rfl rfl ?_
      refine zg_getR (pc' := 37) zf_Ls_78 rfl zd_Ls_daysTillClean_34 (gT_ok g2) rfl ?_
      obtain ⟨S7, e8, h⟩ := bv_some h
      refine zg_callV (ci := 1) (As := []) (rest := []) (pc' := 40) zl_Ls_206 zq566 zq567 ⟨_, rfl, rfl⟩ zd_Ls_daysTillClean_37 rfl rfl (Nat.le_of_ble_eq_true rfl) (by omega) (gT_ok g3) (tm_Ho_goDay (d := 6) (Nat.le_refl _) e8) rfl ?_
      refine zg_st (st' := []) rfl ?_
      refine zg_iinc (y := (a2 + (1 : Int32))) (L' := [some (.ref a0), some (.int a1), some (.int (a2 + (1 : Int32)))]) (pc' := 43) zd_Ls_daysTillClean_40 rfl rfl (by decide) rfl rfl ?_
      refine zg_goto (tgt := 13) zd_Ls_daysTillClean_43 (by decide) ?_
      exact hK13 _ _ _ _ h
set_option maxRecDepth 100000 in
def fn_Ls_daysTillClean (a0 : Nat) (a1 : Int32) (S : zS) : Option (Int32 × zS) :=
  gd (gT S a0 109) <|
  gd (gT S (zR S a0 8) 101) <|
  bv (fn_Ho_copy (zR S a0 8) (zR S a0 7) S) fun S3 =>
  lp (σ := Nat × Int32 × Int32 × zS) (fun k s => fn_Ls_daysTillClean_L13 s.1 s.2.1 s.2.2.1 s.2.2.2 (fun (a0 : Nat) (a1 : Int32) (a2 : Int32) (S : zS) => k (a0, a1, a2, S))) FU (a0, a1, (0 : Int32), S3)
set_option maxRecDepth 100000 in
set_option maxHeartbeats 4000000 in
theorem tm_Ls_daysTillClean {X : zXt} {d : Nat} (hd : 7 ≤ d) {v : Int32} {a0 : Nat} {a1 : Int32} {S : zS} {S' : zS} (h : fn_Ls_daysTillClean a0 a1 S = some (v, S')) : zM X zy_Ls_daysTillClean prog_1_method_14_code 3 (Option.some Jvm.ClassFile.FieldType.int) d [.ref a0, .int a1] S (some (.int v)) S' := by
  refine zM_of (ini := false) (L := [some (.ref a0), some (.int a1), none]) (plainFor_of_name (by decide)) (fun h => by cases h) (Nat.le_of_ble_eq_true rfl) rfl ?_
  unfold fn_Ls_daysTillClean at h
  refine zg_aload_n (pc' := 1) zd_Ls_daysTillClean_0 rfl rfl ?_
  obtain ⟨g1, h⟩ := gd_some h
  refine zg_getR (pc' := 4) zf_Ls_78 rfl zd_Ls_daysTillClean_1 (gT_ok g1) rfl ?_
  refine zg_aload_n (pc' := 5) zd_Ls_daysTillClean_4 rfl rfl ?_
  refine zg_getR (pc' := 8) zf_Ls_74 rfl zd_Ls_daysTillClean_5 (gT_ok g1) rfl ?_
  obtain ⟨g2, h⟩ := gd_some h
  obtain ⟨S3, e4, h⟩ := bv_some h
  refine zg_callV (ci := 1) (As := [.ref (zR S a0 7)]) (rest := []) (pc' := 11) zl_Ls_202 zq548 zq549 ⟨_, rfl, rfl⟩ zd_Ls_daysTillClean_8 rfl rfl (Nat.le_of_ble_eq_true rfl) (by omega) (gT_ok g2) (tm_Ho_copy (d := 4) (Nat.le_refl _) e4) rfl ?_
  refine zg_st (st' := []) rfl ?_
  refine zg_iconst (x := (0 : Int32)) (pc' := 12) zd_Ls_daysTillClean_11 (by decide) rfl ?_
  refine zg_istore_n (L' := [some (.ref a0), some (.int a1), some (.int (0 : Int32))]) (pc' := 13) zd_Ls_daysTillClean_12 (by decide) rfl rfl ?_
  exact lp_indh h (P := fun s => zG X zm_Ls_daysTillClean d 13 [some (.ref (s.1)), some (.int (s.2.1)), some (.int (s.2.2.1))] [] (s.2.2.2) (some (.int v)) S') (fun k hk s h => tm_Ls_daysTillClean_L13 hd (fun a0 a1 a2 S h => hk (a0, a1, a2, S) h) h)
theorem zd_Ls_told_0 : decode prog_1_method_11_code 0 = .ok (.iload_n 1, 1) := by decide +kernel
theorem zd_Ls_told_1 : decode prog_1_method_11_code 1 = .ok (.bipush 10, 2) := by decide +kernel
theorem zd_Ls_told_3 : decode prog_1_method_11_code 3 = .ok (.isub, 1) := by decide +kernel
theorem zd_Ls_told_4 : decode prog_1_method_11_code 4 = .ok (.invokestatic 106, 3) := by decide +kernel
theorem zd_Ls_told_7 : decode prog_1_method_11_code 7 = .ok (.ifCond .eq 16, 3) := by decide +kernel
theorem zd_Ls_told_23 : decode prog_1_method_11_code 23 = .ok (.iload_n 1, 1) := by decide +kernel
theorem zd_Ls_told_24 : decode prog_1_method_11_code 24 = .ok (.bipush 20, 2) := by decide +kernel
theorem zd_Ls_told_26 : decode prog_1_method_11_code 26 = .ok (.isub, 1) := by decide +kernel
theorem zd_Ls_told_27 : decode prog_1_method_11_code 27 = .ok (.invokestatic 106, 3) := by decide +kernel
theorem zd_Ls_told_30 : decode prog_1_method_11_code 30 = .ok (.ifCond .eq 16, 3) := by decide +kernel
theorem zd_Ls_told_46 : decode prog_1_method_11_code 46 = .ok (.iload_n 1, 1) := by decide +kernel
theorem zd_Ls_told_47 : decode prog_1_method_11_code 47 = .ok (.bipush 30, 2) := by decide +kernel
theorem zd_Ls_told_49 : decode prog_1_method_11_code 49 = .ok (.isub, 1) := by decide +kernel
theorem zd_Ls_told_50 : decode prog_1_method_11_code 50 = .ok (.invokestatic 106, 3) := by decide +kernel
theorem zd_Ls_told_53 : decode prog_1_method_11_code 53 = .ok (.ifCond .eq 12, 3) := by decide +kernel
theorem zd_Ls_told_65 : decode prog_1_method_11_code 65 = .ok (.iload_n 1, 1) := by decide +kernel
theorem zd_Ls_told_66 : decode prog_1_method_11_code 66 = .ok (.tableswitch 97 0 5 #[38, 46, 57, 65, 73, 85], 38) := by decide +kernel
theorem zd_Ls_told_163 : decode prog_1_method_11_code 163 = .ok (.iconst (-1), 1) := by decide +kernel
theorem zd_Ls_told_164 : decode prog_1_method_11_code 164 = .ok (.ireturn, 1) := by decide +kernel
theorem zd_Ls_told_151 : decode prog_1_method_11_code 151 = .ok (.aload_n 0, 1) := by decide +kernel
theorem zd_Ls_told_152 : decode prog_1_method_11_code 152 = .ok (.getfield 33, 3) := by decide +kernel
theorem zd_Ls_told_155 : decode prog_1_method_11_code 155 = .ok (.aload_n 0, 1) := by decide +kernel
theorem zd_Ls_told_156 : decode prog_1_method_11_code 156 = .ok (.getfield 74, 3) := by decide +kernel
theorem zd_Ls_told_159 : decode prog_1_method_11_code 159 = .ok (.invokevirtual 196, 3) := by decide +kernel
theorem zd_Ls_told_162 : decode prog_1_method_11_code 162 = .ok (.ireturn, 1) := by decide +kernel
theorem zd_Ls_told_139 : decode prog_1_method_11_code 139 = .ok (.aload_n 0, 1) := by decide +kernel
theorem zd_Ls_told_140 : decode prog_1_method_11_code 140 = .ok (.getfield 33, 3) := by decide +kernel
theorem zd_Ls_told_143 : decode prog_1_method_11_code 143 = .ok (.aload_n 0, 1) := by decide +kernel
theorem zd_Ls_told_144 : decode prog_1_method_11_code 144 = .ok (.getfield 74, 3) := by decide +kernel
theorem zd_Ls_told_147 : decode prog_1_method_11_code 147 = .ok (.invokevirtual 192, 3) := by decide +kernel
theorem zd_Ls_told_150 : decode prog_1_method_11_code 150 = .ok (.ireturn, 1) := by decide +kernel
theorem zd_Ls_told_131 : decode prog_1_method_11_code 131 = .ok (.aload_n 0, 1) := by decide +kernel
theorem zd_Ls_told_132 : decode prog_1_method_11_code 132 = .ok (.getfield 74, 3) := by decide +kernel
theorem zd_Ls_told_135 : decode prog_1_method_11_code 135 = .ok (.invokevirtual 189, 3) := by decide +kernel
theorem zd_Ls_told_138 : decode prog_1_method_11_code 138 = .ok (.ireturn, 1) := by decide +kernel
theorem zd_Ls_told_123 : decode prog_1_method_11_code 123 = .ok (.aload_n 0, 1) := by decide +kernel
theorem zd_Ls_told_124 : decode prog_1_method_11_code 124 = .ok (.getfield 74, 3) := by decide +kernel
theorem zd_Ls_told_127 : decode prog_1_method_11_code 127 = .ok (.invokevirtual 185, 3) := by decide +kernel
theorem zd_Ls_told_130 : decode prog_1_method_11_code 130 = .ok (.ireturn, 1) := by decide +kernel
theorem zd_Ls_told_112 : decode prog_1_method_11_code 112 = .ok (.aload_n 0, 1) := by decide +kernel
theorem zd_Ls_told_113 : decode prog_1_method_11_code 113 = .ok (.getfield 74, 3) := by decide +kernel
theorem zd_Ls_told_116 : decode prog_1_method_11_code 116 = .ok (.getfield 135, 3) := by decide +kernel
theorem zd_Ls_told_119 : decode prog_1_method_11_code 119 = .ok (.getfield 146, 3) := by decide +kernel
theorem zd_Ls_told_122 : decode prog_1_method_11_code 122 = .ok (.ireturn, 1) := by decide +kernel
theorem zd_Ls_told_104 : decode prog_1_method_11_code 104 = .ok (.aload_n 0, 1) := by decide +kernel
theorem zd_Ls_told_105 : decode prog_1_method_11_code 105 = .ok (.getfield 74, 3) := by decide +kernel
theorem zd_Ls_told_108 : decode prog_1_method_11_code 108 = .ok (.getfield 139, 3) := by decide +kernel
theorem zd_Ls_told_111 : decode prog_1_method_11_code 111 = .ok (.ireturn, 1) := by decide +kernel
theorem zd_Ls_told_56 : decode prog_1_method_11_code 56 = .ok (.aload_n 0, 1) := by decide +kernel
theorem zd_Ls_told_57 : decode prog_1_method_11_code 57 = .ok (.iload_n 1, 1) := by decide +kernel
theorem zd_Ls_told_58 : decode prog_1_method_11_code 58 = .ok (.bipush 30, 2) := by decide +kernel
theorem zd_Ls_told_60 : decode prog_1_method_11_code 60 = .ok (.isub, 1) := by decide +kernel
theorem zd_Ls_told_61 : decode prog_1_method_11_code 61 = .ok (.invokevirtual 182, 3) := by decide +kernel
theorem zd_Ls_told_64 : decode prog_1_method_11_code 64 = .ok (.ireturn, 1) := by decide +kernel
theorem zd_Ls_told_33 : decode prog_1_method_11_code 33 = .ok (.aload_n 0, 1) := by decide +kernel
theorem zd_Ls_told_34 : decode prog_1_method_11_code 34 = .ok (.getfield 74, 3) := by decide +kernel
theorem zd_Ls_told_37 : decode prog_1_method_11_code 37 = .ok (.getfield 156, 3) := by decide +kernel
theorem zd_Ls_told_40 : decode prog_1_method_11_code 40 = .ok (.iload_n 1, 1) := by decide +kernel
theorem zd_Ls_told_41 : decode prog_1_method_11_code 41 = .ok (.bipush 20, 2) := by decide +kernel
theorem zd_Ls_told_43 : decode prog_1_method_11_code 43 = .ok (.isub, 1) := by decide +kernel
theorem zd_Ls_told_44 : decode prog_1_method_11_code 44 = .ok (.iaload, 1) := by decide +kernel
theorem zd_Ls_told_45 : decode prog_1_method_11_code 45 = .ok (.ireturn, 1) := by decide +kernel
theorem zd_Ls_told_10 : decode prog_1_method_11_code 10 = .ok (.aload_n 0, 1) := by decide +kernel
theorem zd_Ls_told_11 : decode prog_1_method_11_code 11 = .ok (.getfield 74, 3) := by decide +kernel
theorem zd_Ls_told_14 : decode prog_1_method_11_code 14 = .ok (.getfield 152, 3) := by decide +kernel
theorem zd_Ls_told_17 : decode prog_1_method_11_code 17 = .ok (.iload_n 1, 1) := by decide +kernel
theorem zd_Ls_told_18 : decode prog_1_method_11_code 18 = .ok (.bipush 10, 2) := by decide +kernel
theorem zd_Ls_told_20 : decode prog_1_method_11_code 20 = .ok (.isub, 1) := by decide +kernel
theorem zd_Ls_told_21 : decode prog_1_method_11_code 21 = .ok (.iaload, 1) := by decide +kernel
theorem zd_Ls_told_22 : decode prog_1_method_11_code 22 = .ok (.ireturn, 1) := by decide +kernel
abbrev zm_Ls_told : zQ := ("LoofahSaints", prog_1_method_11_code, 2, (Option.some Jvm.ClassFile.FieldType.int), false)
set_option maxRecDepth 100000 in
def fn_Ls_told (a0 : Nat) (a1 : Int32) (S : zS) : Option (Int32 × zS) :=
  bq (fn_Ls_isNovice (a1 - (10 : Int32)) S) fun r3 S1 =>
  br (decide (r3 = 0)) (bq (fn_Ls_isNovice (a1 - (20 : Int32)) S1) fun r7 S5 =>
  br (decide (r7 = 0)) (bq (fn_Ls_isNovice (a1 - (30 : Int32)) S5) fun r11 S9 =>
  br (decide (r11 = 0)) (br (decide (a1 = (0 : Int32))) (gd (gT S9 a0 109) <|
  gd (gT S9 (zR S9 a0 7) 101) <|
  some ((zI S9 (zR S9 a0 7) 7), S9)) <|
  br (decide (a1 = (1 : Int32))) (gd (gT S9 a0 109) <|
  gd (gT S9 (zR S9 a0 7) 101) <|
  gd (gT S9 (zR S9 (zR S9 a0 7) 8) 102) <|
  some ((zI S9 (zR S9 (zR S9 a0 7) 8) 3), S9)) <|
  br (decide (a1 = (2 : Int32))) (gd (gT S9 a0 109) <|
  gd (gT S9 (zR S9 a0 7) 101) <|
  bq (fn_Ho_onAll (zR S9 a0 7) S9) fun r25 S23 =>
  some (r25, S23)) <|
  br (decide (a1 = (3 : Int32))) (gd (gT S9 a0 109) <|
  gd (gT S9 (zR S9 a0 7) 101) <|
  bq (fn_Ho_threads (zR S9 a0 7) S9) fun r31 S29 =>
  some (r31, S29)) <|
  br (decide (a1 = (4 : Int32))) (gd (gT S9 a0 109) <|
  gd (gT S9 (zR S9 a0 3) 107) <|
  bq (fn_Sh_dearest (zR S9 a0 3) (zR S9 a0 7) S9) fun r37 S35 =>
  some (r37, S35)) <|
  br (decide (a1 = (5 : Int32))) (gd (gT S9 a0 109) <|
  gd (gT S9 (zR S9 a0 3) 107) <|
  bq (fn_Sh_leastWithout (zR S9 a0 3) (zR S9 a0 7) S9) fun r43 S41 =>
  some (r43, S41)) <|
  some ((-1 : Int32), S9)) <|
  gd (gT S9 a0 109) <|
  bq (fn_Ls_daysTillClean a0 (a1 - (30 : Int32)) S9) fun r47 S45 =>
  some (r47, S45)) <|
  gd (gT S5 a0 109) <|
  gd (gT S5 (zR S5 a0 7) 101) <|
  gd (gT S5 (zR S5 (zR S5 a0 7) 2) 1) <|
  gd (gB (a1 - (20 : Int32)) (zT S5 (zR S5 (zR S5 a0 7) 2)).2) <|
  some ((zI S5 (zR S5 (zR S5 a0 7) 2) (a1 - (20 : Int32)).toNatClampNeg), S5)) <|
  gd (gT S1 a0 109) <|
  gd (gT S1 (zR S1 a0 7) 101) <|
  gd (gT S1 (zR S1 (zR S1 a0 7) 1) 1) <|
  gd (gB (a1 - (10 : Int32)) (zT S1 (zR S1 (zR S1 a0 7) 1)).2) <|
  some ((zI S1 (zR S1 (zR S1 a0 7) 1) (a1 - (10 : Int32)).toNatClampNeg), S1)
set_option maxRecDepth 100000 in
set_option maxHeartbeats 4000000 in
theorem tm_Ls_told {X : zXt} {d : Nat} (hd : 66 ≤ d) {v : Int32} {a0 : Nat} {a1 : Int32} {S : zS} {S' : zS} (h : fn_Ls_told a0 a1 S = some (v, S')) : zM X zy_Ls_told prog_1_method_11_code 2 (Option.some Jvm.ClassFile.FieldType.int) d [.ref a0, .int a1] S (some (.int v)) S' := by
  refine zM_of (ini := false) (L := [some (.ref a0), some (.int a1)]) (plainFor_of_name (by decide)) (fun h => by cases h) (Nat.le_of_ble_eq_true rfl) rfl ?_
  unfold fn_Ls_told at h
  refine zg_iload_n (pc' := 1) zd_Ls_told_0 rfl rfl ?_
  refine zg_bipush (x := (10 : Int32)) (pc' := 3) zd_Ls_told_1 (by decide) rfl ?_
  refine zg_isub (pc' := 4) zd_Ls_told_3 rfl ?_
  obtain ⟨r3, S1, e2, h⟩ := bq_some h
  refine zg_callS (As := [.int (a1 - (10 : Int32))]) (rest := []) (pc' := 7) zl_Ls_106 zq349 zd_Ls_told_4 rfl rfl (Nat.le_of_ble_eq_true rfl) (by omega) (tm_Ls_isNovice (d := 2) (Nat.le_refl _) e2) rfl ?_
  refine zg_st (st' := [.int r3]) rfl ?_
  rcases br_some h with ⟨c4, h⟩ | ⟨c4, h⟩
  · refine zg_if_eq (tgt := 23) (pc' := 10) zd_Ls_told_7 (by decide) rfl (fun _ => ?_) (fun q => absurd c4 q)
    refine zg_iload_n (pc' := 24) zd_Ls_told_23 rfl rfl ?_
    refine zg_bipush (x := (20 : Int32)) (pc' := 26) zd_Ls_told_24 (by decide) rfl ?_
    refine zg_isub (pc' := 27) zd_Ls_told_26 rfl ?_
    obtain ⟨r7, S5, e6, h⟩ := bq_some h
    refine zg_callS (As := [.int (a1 - (20 : Int32))]) (rest := []) (pc' := 30) zl_Ls_106 zq349 zd_Ls_told_27 rfl rfl (Nat.le_of_ble_eq_true rfl) (by omega) (tm_Ls_isNovice (d := 2) (Nat.le_refl _) e6) rfl ?_
    refine zg_st (st' := [.int r7]) rfl ?_
    rcases br_some h with ⟨c8, h⟩ | ⟨c8, h⟩
    · refine zg_if_eq (tgt := 46) (pc' := 33) zd_Ls_told_30 (by decide) rfl (fun _ => ?_) (fun q => absurd c8 q)
      refine zg_iload_n (pc' := 47) zd_Ls_told_46 rfl rfl ?_
      refine zg_bipush (x := (30 : Int32)) (pc' := 49) zd_Ls_told_47 (by decide) rfl ?_
      refine zg_isub (pc' := 50) zd_Ls_told_49 rfl ?_
      obtain ⟨r11, S9, e10, h⟩ := bq_some h
      refine zg_callS (As := [.int (a1 - (30 : Int32))]) (rest := []) (pc' := 53) zl_Ls_106 zq349 zd_Ls_told_50 rfl rfl (Nat.le_of_ble_eq_true rfl) (by omega) (tm_Ls_isNovice (d := 2) (Nat.le_refl _) e10) rfl ?_
      refine zg_st (st' := [.int r11]) rfl ?_
      rcases br_some h with ⟨c12, h⟩ | ⟨c12, h⟩
      · refine zg_if_eq (tgt := 65) (pc' := 56) zd_Ls_told_53 (by decide) rfl (fun _ => ?_) (fun q => absurd c12 q)
        refine zg_iload_n (pc' := 66) zd_Ls_told_65 rfl rfl ?_
        rcases br_some h with ⟨c13, h⟩ | ⟨c13, h⟩
        · refine zg_tabI (tgt := 104) (0 : Int32) zd_Ls_told_66 c13 (by decide) (by decide) rfl (by decide) ?_
          refine zg_aload_n (pc' := 105) zd_Ls_told_104 rfl rfl ?_
          obtain ⟨g14, h⟩ := gd_some h
          refine zg_getR (pc' := 108) zf_Ls_74 rfl zd_Ls_told_105 (gT_ok g14) rfl ?_
          obtain ⟨g15, h⟩ := gd_some h
          refine zg_getI (pc' := 111) zf_Ls_139 zd_Ls_told_108 (gT_ok g15) rfl ?_
          obtain ⟨rfl, rfl⟩ := rt_q h
          exact zg_iret zd_Ls_told_111 zrt_i
        rcases br_some h with ⟨c16, h⟩ | ⟨c16, h⟩
        · refine zg_tabI (tgt := 112) (1 : Int32) zd_Ls_told_66 c16 (by decide) (by decide) rfl (by decide) ?_
          refine zg_aload_n (pc' := 113) zd_Ls_told_112 rfl rfl ?_
          obtain ⟨g17, h⟩ := gd_some h
          refine zg_getR (pc' := 116) zf_Ls_74 rfl zd_Ls_told_113 (gT_ok g17) rfl ?_
          obtain ⟨g18, h⟩ := gd_some h
          refine zg_getR (pc' := 119) zf_Ls_135 rfl zd_Ls_told_116 (gT_ok g18) rfl ?_
          obtain ⟨g19, h⟩ := gd_some h
          refine zg_getI (pc' := 122) zf_Ls_146 zd_Ls_told_119 (gT_ok g19) rfl ?_
          obtain ⟨rfl, rfl⟩ := rt_q h
          exact zg_iret zd_Ls_told_122 zrt_i
        rcases br_some h with ⟨c20, h⟩ | ⟨c20, h⟩
        · refine zg_tabI (tgt := 123) (2 : Int32) zd_Ls_told_66 c20 (by decide) (by decide) rfl (by decide) ?_
          refine zg_aload_n (pc' := 124) zd_Ls_told_123 rfl rfl ?_
          obtain ⟨g21, h⟩ := gd_some h
          refine zg_getR (pc' := 127) zf_Ls_74 rfl zd_Ls_told_124 (gT_ok g21) rfl ?_
          obtain ⟨g22, h⟩ := gd_some h
          obtain ⟨r25, S23, e24, h⟩ := bq_some h
          refine zg_callV (ci := 1) (As := []) (rest := []) (pc' := 130) zl_Ls_185 zq573 zq574 ⟨_, rfl, rfl⟩ zd_Ls_told_127 rfl rfl (Nat.le_of_ble_eq_true rfl) (by omega) (gT_ok g22) (tm_Ho_onAll (d := 3) (Nat.le_refl _) e24) rfl ?_
          refine zg_st (st' := [.int r25]) rfl ?_
          obtain ⟨rfl, rfl⟩ := rt_q h
          exact zg_iret zd_Ls_told_130 zrt_i
        rcases br_some h with ⟨c26, h⟩ | ⟨c26, h⟩
        · refine zg_tabI (tgt := 131) (3 : Int32) zd_Ls_told_66 c26 (by decide) (by decide) rfl (by decide) ?_
          refine zg_aload_n (pc' := 132) zd_Ls_told_131 rfl rfl ?_
          obtain ⟨g27, h⟩ := gd_some h
          refine zg_getR (pc' := 135) zf_Ls_74 rfl zd_Ls_told_132 (gT_ok g27) rfl ?_
          obtain ⟨g28, h⟩ := gd_some h
          obtain ⟨r31, S29, e30, h⟩ := bq_some h
          refine zg_callV (ci := 1) (As := []) (rest := []) (pc' := 138) zl_Ls_189 zq583 zq584 ⟨_, rfl, rfl⟩ zd_Ls_told_135 rfl rfl (Nat.le_of_ble_eq_true rfl) (by omega) (gT_ok g28) (tm_Ho_threads (d := 3) (Nat.le_refl _) e30) rfl ?_
          refine zg_st (st' := [.int r31]) rfl ?_
          obtain ⟨rfl, rfl⟩ := rt_q h
          exact zg_iret zd_Ls_told_138 zrt_i
        rcases br_some h with ⟨c32, h⟩ | ⟨c32, h⟩
        · refine zg_tabI (tgt := 139) (4 : Int32) zd_Ls_told_66 c32 (by decide) (by decide) rfl (by decide) ?_
          refine zg_aload_n (pc' := 140) zd_Ls_told_139 rfl rfl ?_
          obtain ⟨g33, h⟩ := gd_some h
          refine zg_getR (pc' := 143) zf_Ls_33 rfl zd_Ls_told_140 (gT_ok g33) rfl ?_
          refine zg_aload_n (pc' := 144) zd_Ls_told_143 rfl rfl ?_
          refine zg_getR (pc' := 147) zf_Ls_74 rfl zd_Ls_told_144 (gT_ok g33) rfl ?_
          obtain ⟨g34, h⟩ := gd_some h
          obtain ⟨r37, S35, e36, h⟩ := bq_some h
          refine zg_callV (ci := 7) (As := [.ref (zR S9 a0 7)]) (rest := []) (pc' := 150) zl_Ls_192 zq587 zq588 ⟨_, rfl, rfl⟩ zd_Ls_told_147 rfl rfl (Nat.le_of_ble_eq_true rfl) (by omega) (gT_ok g34) (tm_Sh_dearest (d := 64) (Nat.le_refl _) e36) rfl ?_
          refine zg_st (st' := [.int r37]) rfl ?_
          obtain ⟨rfl, rfl⟩ := rt_q h
          exact zg_iret zd_Ls_told_150 zrt_i
        rcases br_some h with ⟨c38, h⟩ | ⟨c38, h⟩
        · refine zg_tabI (tgt := 151) (5 : Int32) zd_Ls_told_66 c38 (by decide) (by decide) rfl (by decide) ?_
          refine zg_aload_n (pc' := 152) zd_Ls_told_151 rfl rfl ?_
          obtain ⟨g39, h⟩ := gd_some h
          refine zg_getR (pc' := 155) zf_Ls_33 rfl zd_Ls_told_152 (gT_ok g39) rfl ?_
          refine zg_aload_n (pc' := 156) zd_Ls_told_155 rfl rfl ?_
          refine zg_getR (pc' := 159) zf_Ls_74 rfl zd_Ls_told_156 (gT_ok g39) rfl ?_
          obtain ⟨g40, h⟩ := gd_some h
          obtain ⟨r43, S41, e42, h⟩ := bq_some h
          refine zg_callV (ci := 7) (As := [.ref (zR S9 a0 7)]) (rest := []) (pc' := 162) zl_Ls_196 zq603 zq604 ⟨_, rfl, rfl⟩ zd_Ls_told_159 rfl rfl (Nat.le_of_ble_eq_true rfl) (by omega) (gT_ok g40) (tm_Sh_leastWithout (d := 65) (Nat.le_refl _) e42) rfl ?_
          refine zg_st (st' := [.int r43]) rfl ?_
          obtain ⟨rfl, rfl⟩ := rt_q h
          exact zg_iret zd_Ls_told_162 zrt_i
        refine zg_tableD (tgt := 163) [(0 : Int32), (1 : Int32), (2 : Int32), (3 : Int32), (4 : Int32), (5 : Int32)] zd_Ls_told_66 (by decide) (List.forall_mem_cons.mpr ⟨c13, List.forall_mem_cons.mpr ⟨c16, List.forall_mem_cons.mpr ⟨c20, List.forall_mem_cons.mpr ⟨c26, List.forall_mem_cons.mpr ⟨c32, List.forall_mem_cons.mpr ⟨c38, fun _ h => absurd h List.not_mem_nil⟩⟩⟩⟩⟩⟩) (by decide) ?_
        refine zg_iconst (x := (-1 : Int32)) (pc' := 164) zd_Ls_told_163 (by decide) rfl ?_
        obtain ⟨rfl, rfl⟩ := rt_q h
        exact zg_iret zd_Ls_told_164 zrt_i
      · refine zg_if_eq (tgt := 65) (pc' := 56) zd_Ls_told_53 (by decide) rfl (fun q => absurd q c12) (fun _ => ?_)
        refine zg_aload_n (pc' := 57) zd_Ls_told_56 rfl rfl ?_
        refine zg_iload_n (pc' := 58) zd_Ls_told_57 rfl rfl ?_
        refine zg_bipush (x := (30 : Int32)) (pc' := 60) zd_Ls_told_58 (by decide) rfl ?_
        refine zg_isub (pc' := 61) zd_Ls_told_60 rfl ?_
        obtain ⟨g44, h⟩ := gd_some h
        obtain ⟨r47, S45, e46, h⟩ := bq_some h
        refine zg_callV (ci := 9) (As := [.int (a1 - (30 : Int32))]) (rest := []) (pc' := 64) zl_Ls_182 zq545 zqp8 ⟨_, rfl, rfl⟩ zd_Ls_told_61 rfl rfl (Nat.le_of_ble_eq_true rfl) (by omega) (gT_ok g44) (tm_Ls_daysTillClean (d := 7) (Nat.le_refl _) e46) rfl ?_
        refine zg_st (st' := [.int r47]) rfl ?_
        obtain ⟨rfl, rfl⟩ := rt_q h
        exact zg_iret zd_Ls_told_64 zrt_i
    · refine zg_if_eq (tgt := 46) (pc' := 33) zd_Ls_told_30 (by decide) rfl (fun q => absurd q c8) (fun _ => ?_)
      refine zg_aload_n (pc' := 34) zd_Ls_told_33 rfl rfl ?_
      obtain ⟨g48, h⟩ := gd_some h
      refine zg_getR (pc' := 37) zf_Ls_74 rfl zd_Ls_told_34 (gT_ok g48) rfl ?_
      obtain ⟨g49, h⟩ := gd_some h
      refine zg_getR (pc' := 40) zf_Ls_156 rfl zd_Ls_told_37 (gT_ok g49) rfl ?_
      refine zg_iload_n (pc' := 41) zd_Ls_told_40 rfl rfl ?_
      refine zg_bipush (x := (20 : Int32)) (pc' := 43) zd_Ls_told_41 (by decide) rfl ?_
      refine zg_isub (pc' := 44) zd_Ls_told_43 rfl ?_
      obtain ⟨g50, h⟩ := gd_some h
      obtain ⟨g51, h⟩ := gd_some h
      refine zg_iald (pc' := 45) zd_Ls_told_44 (gT_ok g50) (gB_ok g51) rfl ?_
      obtain ⟨rfl, rfl⟩ := rt_q h
      exact zg_iret zd_Ls_told_45 zrt_i
  · refine zg_if_eq (tgt := 23) (pc' := 10) zd_Ls_told_7 (by decide) rfl (fun q => absurd q c4) (fun _ => ?_)
    refine zg_aload_n (pc' := 11) zd_Ls_told_10 rfl rfl ?_
    obtain ⟨g52, h⟩ := gd_some h
    refine zg_getR (pc' := 14) zf_Ls_74 rfl zd_Ls_told_11 (gT_ok g52) rfl ?_
    obtain ⟨g53, h⟩ := gd_some h
    refine zg_getR (pc' := 17) zf_Ls_152 rfl zd_Ls_told_14 (gT_ok g53) rfl ?_
    refine zg_iload_n (pc' := 18) zd_Ls_told_17 rfl rfl ?_
    refine zg_bipush (x := (10 : Int32)) (pc' := 20) zd_Ls_told_18 (by decide) rfl ?_
    refine zg_isub (pc' := 21) zd_Ls_told_20 rfl ?_
    obtain ⟨g54, h⟩ := gd_some h
    obtain ⟨g55, h⟩ := gd_some h
    refine zg_iald (pc' := 22) zd_Ls_told_21 (gT_ok g54) (gB_ok g55) rfl ?_
    obtain ⟨rfl, rfl⟩ := rt_q h
    exact zg_iret zd_Ls_told_22 zrt_i
theorem zd_Ls_pass_0 : decode prog_1_method_12_code 0 = .ok (.iload_n 1, 1) := by decide +kernel
theorem zd_Ls_pass_1 : decode prog_1_method_12_code 1 = .ok (.ifCond .lt 9, 3) := by decide +kernel
theorem zd_Ls_pass_4 : decode prog_1_method_12_code 4 = .ok (.iload_n 1, 1) := by decide +kernel
theorem zd_Ls_pass_5 : decode prog_1_method_12_code 5 = .ok (.bipush 60, 2) := by decide +kernel
theorem zd_Ls_pass_7 : decode prog_1_method_12_code 7 = .ok (.if_icmp .le 6, 3) := by decide +kernel
theorem zd_Ls_pass_13 : decode prog_1_method_12_code 13 = .ok (.aload_n 0, 1) := by decide +kernel
theorem zd_Ls_pass_14 : decode prog_1_method_12_code 14 = .ok (.getfield 74, 3) := by decide +kernel
theorem zd_Ls_pass_17 : decode prog_1_method_12_code 17 = .ok (.getfield 139, 3) := by decide +kernel
theorem zd_Ls_pass_20 : decode prog_1_method_12_code 20 = .ok (.iload_n 1, 1) := by decide +kernel
theorem zd_Ls_pass_21 : decode prog_1_method_12_code 21 = .ok (.iadd, 1) := by decide +kernel
theorem zd_Ls_pass_22 : decode prog_1_method_12_code 22 = .ok (.sipush 9999, 3) := by decide +kernel
theorem zd_Ls_pass_25 : decode prog_1_method_12_code 25 = .ok (.if_icmp .le 6, 3) := by decide +kernel
theorem zd_Ls_pass_31 : decode prog_1_method_12_code 31 = .ok (.aload_n 0, 1) := by decide +kernel
theorem zd_Ls_pass_32 : decode prog_1_method_12_code 32 = .ok (.getfield 74, 3) := by decide +kernel
theorem zd_Ls_pass_35 : decode prog_1_method_12_code 35 = .ok (.iload_n 1, 1) := by decide +kernel
theorem zd_Ls_pass_36 : decode prog_1_method_12_code 36 = .ok (.invokevirtual 199, 3) := by decide +kernel
theorem zd_Ls_pass_39 : decode prog_1_method_12_code 39 = .ok (.aload_n 0, 1) := by decide +kernel
theorem zd_Ls_pass_40 : decode prog_1_method_12_code 40 = .ok (.getfield 74, 3) := by decide +kernel
theorem zd_Ls_pass_43 : decode prog_1_method_12_code 43 = .ok (.getfield 139, 3) := by decide +kernel
theorem zd_Ls_pass_46 : decode prog_1_method_12_code 46 = .ok (.ireturn, 1) := by decide +kernel
theorem zd_Ls_pass_28 : decode prog_1_method_12_code 28 = .ok (.bipush (-3), 2) := by decide +kernel
theorem zd_Ls_pass_30 : decode prog_1_method_12_code 30 = .ok (.ireturn, 1) := by decide +kernel
theorem zd_Ls_pass_10 : decode prog_1_method_12_code 10 = .ok (.bipush (-2), 2) := by decide +kernel
theorem zd_Ls_pass_12 : decode prog_1_method_12_code 12 = .ok (.ireturn, 1) := by decide +kernel
abbrev zm_Ls_pass : zQ := ("LoofahSaints", prog_1_method_12_code, 2, (Option.some Jvm.ClassFile.FieldType.int), false)
set_option maxRecDepth 100000 in
def fn_Ls_pass (a0 : Nat) (a1 : Int32) (S : zS) : Option (Int32 × zS) :=
  br (decide (a1 < 0)) (some ((-2 : Int32), S)) <|
  br (decide (a1 ≤ (60 : Int32))) (gd (gT S a0 109) <|
  gd (gT S (zR S a0 7) 101) <|
  br (decide (((zI S (zR S a0 7) 7) + a1) ≤ (9999 : Int32))) (bv (fn_Ho_goDays (zR S a0 7) a1 S) fun S6 =>
  gd (gT S6 a0 109) <|
  gd (gT S6 (zR S6 a0 7) 101) <|
  some ((zI S6 (zR S6 a0 7) 7), S6)) <|
  some ((-3 : Int32), S)) <|
  some ((-2 : Int32), S)
set_option maxRecDepth 100000 in
set_option maxHeartbeats 4000000 in
theorem tm_Ls_pass {X : zXt} {d : Nat} (hd : 8 ≤ d) {v : Int32} {a0 : Nat} {a1 : Int32} {S : zS} {S' : zS} (h : fn_Ls_pass a0 a1 S = some (v, S')) : zM X zy_Ls_pass prog_1_method_12_code 2 (Option.some Jvm.ClassFile.FieldType.int) d [.ref a0, .int a1] S (some (.int v)) S' := by
  refine zM_of (ini := false) (L := [some (.ref a0), some (.int a1)]) (plainFor_of_name (by decide)) (fun h => by cases h) (Nat.le_of_ble_eq_true rfl) rfl ?_
  unfold fn_Ls_pass at h
  refine zg_iload_n (pc' := 1) zd_Ls_pass_0 rfl rfl ?_
  rcases br_some h with ⟨c1, h⟩ | ⟨c1, h⟩
  · refine zg_if_lt (tgt := 10) (pc' := 4) zd_Ls_pass_1 (by decide) rfl (fun _ => ?_) (fun q => absurd c1 q)
    refine zg_bipush (x := (-2 : Int32)) (pc' := 12) zd_Ls_pass_10 (by decide) rfl ?_
    obtain ⟨rfl, rfl⟩ := rt_q h
    exact zg_iret zd_Ls_pass_12 zrt_i
  · refine zg_if_lt (tgt := 10) (pc' := 4) zd_Ls_pass_1 (by decide) rfl (fun q => absurd q c1) (fun _ => ?_)
    refine zg_iload_n (pc' := 5) zd_Ls_pass_4 rfl rfl ?_
    refine zg_bipush (x := (60 : Int32)) (pc' := 7) zd_Ls_pass_5 (by decide) rfl ?_
    rcases br_some h with ⟨c2, h⟩ | ⟨c2, h⟩
    · refine zg_icmp_le (tgt := 13) (pc' := 10) zd_Ls_pass_7 (by decide) rfl (fun _ => ?_) (fun q => absurd c2 q)
      refine zg_aload_n (pc' := 14) zd_Ls_pass_13 rfl rfl ?_
      obtain ⟨g3, h⟩ := gd_some h
      refine zg_getR (pc' := 17) zf_Ls_74 rfl zd_Ls_pass_14 (gT_ok g3) rfl ?_
      obtain ⟨g4, h⟩ := gd_some h
      refine zg_getI (pc' := 20) zf_Ls_139 zd_Ls_pass_17 (gT_ok g4) rfl ?_
      refine zg_iload_n (pc' := 21) zd_Ls_pass_20 rfl rfl ?_
      refine zg_iadd (pc' := 22) zd_Ls_pass_21 rfl ?_
      refine zg_sipush (x := (9999 : Int32)) (pc' := 25) zd_Ls_pass_22 (by decide) rfl ?_
      rcases br_some h with ⟨c5, h⟩ | ⟨c5, h⟩
      · refine zg_icmp_le (tgt := 31) (pc' := 28) zd_Ls_pass_25 (by decide) rfl (fun _ => ?_) (fun q => absurd c5 q)
        refine zg_aload_n (pc' := 32) zd_Ls_pass_31 rfl rfl ?_
        refine zg_getR (pc' := 35) zf_Ls_74 rfl zd_Ls_pass_32 (gT_ok g3) rfl ?_
        refine zg_iload_n (pc' := 36) zd_Ls_pass_35 rfl rfl ?_
        obtain ⟨S6, e7, h⟩ := bv_some h
        refine zg_callV (ci := 1) (As := [.int a1]) (rest := []) (pc' := 39) zl_Ls_199 zq612 zq613 ⟨_, rfl, rfl⟩ zd_Ls_pass_36 rfl rfl (Nat.le_of_ble_eq_true rfl) (by omega) (gT_ok g4) (tm_Ho_goDays (d := 7) (Nat.le_refl _) e7) rfl ?_
        refine zg_st (st' := []) rfl ?_
        refine zg_aload_n (pc' := 40) zd_Ls_pass_39 rfl rfl ?_
        obtain ⟨g8, h⟩ := gd_some h
        refine zg_getR (pc' := 43) zf_Ls_74 rfl zd_Ls_pass_40 (gT_ok g8) rfl ?_
        obtain ⟨g9, h⟩ := gd_some h
        refine zg_getI (pc' := 46) zf_Ls_139 zd_Ls_pass_43 (gT_ok g9) rfl ?_
        obtain ⟨rfl, rfl⟩ := rt_q h
        exact zg_iret zd_Ls_pass_46 zrt_i
      · refine zg_icmp_le (tgt := 31) (pc' := 28) zd_Ls_pass_25 (by decide) rfl (fun q => absurd q c5) (fun _ => ?_)
        refine zg_bipush (x := (-3 : Int32)) (pc' := 30) zd_Ls_pass_28 (by decide) rfl ?_
        obtain ⟨rfl, rfl⟩ := rt_q h
        exact zg_iret zd_Ls_pass_30 zrt_i
    · refine zg_icmp_le (tgt := 13) (pc' := 10) zd_Ls_pass_7 (by decide) rfl (fun q => absurd q c2) (fun _ => ?_)
      refine zg_bipush (x := (-2 : Int32)) (pc' := 12) zd_Ls_pass_10 (by decide) rfl ?_
      obtain ⟨rfl, rfl⟩ := rt_q h
      exact zg_iret zd_Ls_pass_12 zrt_i
theorem zd_Ls_on_0 : decode prog_1_method_13_code 0 = .ok (.iload_n 2, 1) := by decide +kernel
theorem zd_Ls_on_1 : decode prog_1_method_13_code 1 = .ok (.ifCond .eq 29, 3) := by decide +kernel
theorem zd_Ls_on_4 : decode prog_1_method_13_code 4 = .ok (.iload_n 2, 1) := by decide +kernel
theorem zd_Ls_on_5 : decode prog_1_method_13_code 5 = .ok (.bipush 10, 2) := by decide +kernel
theorem zd_Ls_on_7 : decode prog_1_method_13_code 7 = .ok (.isub, 1) := by decide +kernel
theorem zd_Ls_on_8 : decode prog_1_method_13_code 8 = .ok (.invokestatic 106, 3) := by decide +kernel
theorem zd_Ls_on_11 : decode prog_1_method_13_code 11 = .ok (.ifCond .ne 19, 3) := by decide +kernel
theorem zd_Ls_on_14 : decode prog_1_method_13_code 14 = .ok (.aload_n 0, 1) := by decide +kernel
theorem zd_Ls_on_15 : decode prog_1_method_13_code 15 = .ok (.getfield 74, 3) := by decide +kernel
theorem zd_Ls_on_18 : decode prog_1_method_13_code 18 = .ok (.iload_n 2, 1) := by decide +kernel
theorem zd_Ls_on_19 : decode prog_1_method_13_code 19 = .ok (.bipush 20, 2) := by decide +kernel
theorem zd_Ls_on_21 : decode prog_1_method_13_code 21 = .ok (.isub, 1) := by decide +kernel
theorem zd_Ls_on_22 : decode prog_1_method_13_code 22 = .ok (.invokevirtual 103, 3) := by decide +kernel
theorem zd_Ls_on_25 : decode prog_1_method_13_code 25 = .ok (.ifCond .ne 5, 3) := by decide +kernel
theorem zd_Ls_on_30 : decode prog_1_method_13_code 30 = .ok (.iload_n 1, 1) := by decide +kernel
theorem zd_Ls_on_31 : decode prog_1_method_13_code 31 = .ok (.ifCond .lt 9, 3) := by decide +kernel
theorem zd_Ls_on_34 : decode prog_1_method_13_code 34 = .ok (.iload_n 1, 1) := by decide +kernel
theorem zd_Ls_on_35 : decode prog_1_method_13_code 35 = .ok (.bipush 60, 2) := by decide +kernel
theorem zd_Ls_on_37 : decode prog_1_method_13_code 37 = .ok (.if_icmp .le 6, 3) := by decide +kernel
theorem zd_Ls_on_43 : decode prog_1_method_13_code 43 = .ok (.aload_n 0, 1) := by decide +kernel
theorem zd_Ls_on_44 : decode prog_1_method_13_code 44 = .ok (.getfield 78, 3) := by decide +kernel
theorem zd_Ls_on_47 : decode prog_1_method_13_code 47 = .ok (.aload_n 0, 1) := by decide +kernel
theorem zd_Ls_on_48 : decode prog_1_method_13_code 48 = .ok (.getfield 74, 3) := by decide +kernel
theorem zd_Ls_on_51 : decode prog_1_method_13_code 51 = .ok (.invokevirtual 202, 3) := by decide +kernel
theorem zd_Ls_on_54 : decode prog_1_method_13_code 54 = .ok (.aload_n 0, 1) := by decide +kernel
theorem zd_Ls_on_55 : decode prog_1_method_13_code 55 = .ok (.getfield 78, 3) := by decide +kernel
theorem zd_Ls_on_58 : decode prog_1_method_13_code 58 = .ok (.iload_n 1, 1) := by decide +kernel
theorem zd_Ls_on_59 : decode prog_1_method_13_code 59 = .ok (.invokevirtual 199, 3) := by decide +kernel
theorem zd_Ls_on_62 : decode prog_1_method_13_code 62 = .ok (.iload_n 2, 1) := by decide +kernel
theorem zd_Ls_on_63 : decode prog_1_method_13_code 63 = .ok (.ifCond .ne 11, 3) := by decide +kernel
theorem zd_Ls_on_74 : decode prog_1_method_13_code 74 = .ok (.iload_n 2, 1) := by decide +kernel
theorem zd_Ls_on_75 : decode prog_1_method_13_code 75 = .ok (.bipush 10, 2) := by decide +kernel
theorem zd_Ls_on_77 : decode prog_1_method_13_code 77 = .ok (.isub, 1) := by decide +kernel
theorem zd_Ls_on_78 : decode prog_1_method_13_code 78 = .ok (.invokestatic 106, 3) := by decide +kernel
theorem zd_Ls_on_81 : decode prog_1_method_13_code 81 = .ok (.ifCond .eq 18, 3) := by decide +kernel
theorem zd_Ls_on_99 : decode prog_1_method_13_code 99 = .ok (.aload_n 0, 1) := by decide +kernel
theorem zd_Ls_on_100 : decode prog_1_method_13_code 100 = .ok (.getfield 78, 3) := by decide +kernel
theorem zd_Ls_on_103 : decode prog_1_method_13_code 103 = .ok (.getfield 95, 3) := by decide +kernel
theorem zd_Ls_on_106 : decode prog_1_method_13_code 106 = .ok (.iload_n 2, 1) := by decide +kernel
theorem zd_Ls_on_107 : decode prog_1_method_13_code 107 = .ok (.bipush 20, 2) := by decide +kernel
theorem zd_Ls_on_109 : decode prog_1_method_13_code 109 = .ok (.isub, 1) := by decide +kernel
theorem zd_Ls_on_110 : decode prog_1_method_13_code 110 = .ok (.aaload, 1) := by decide +kernel
theorem zd_Ls_on_111 : decode prog_1_method_13_code 111 = .ok (.getfield 122, 3) := by decide +kernel
theorem zd_Ls_on_84 : decode prog_1_method_13_code 84 = .ok (.aload_n 0, 1) := by decide +kernel
theorem zd_Ls_on_85 : decode prog_1_method_13_code 85 = .ok (.getfield 78, 3) := by decide +kernel
theorem zd_Ls_on_88 : decode prog_1_method_13_code 88 = .ok (.getfield 152, 3) := by decide +kernel
theorem zd_Ls_on_91 : decode prog_1_method_13_code 91 = .ok (.iload_n 2, 1) := by decide +kernel
theorem zd_Ls_on_92 : decode prog_1_method_13_code 92 = .ok (.bipush 10, 2) := by decide +kernel
theorem zd_Ls_on_94 : decode prog_1_method_13_code 94 = .ok (.isub, 1) := by decide +kernel
theorem zd_Ls_on_95 : decode prog_1_method_13_code 95 = .ok (.iaload, 1) := by decide +kernel
theorem zd_Ls_on_96 : decode prog_1_method_13_code 96 = .ok (.goto 18, 3) := by decide +kernel
theorem zd_Ls_on_114 : decode prog_1_method_13_code 114 = .ok (.ireturn, 1) := by decide +kernel
theorem zd_Ls_on_66 : decode prog_1_method_13_code 66 = .ok (.aload_n 0, 1) := by decide +kernel
theorem zd_Ls_on_67 : decode prog_1_method_13_code 67 = .ok (.getfield 78, 3) := by decide +kernel
theorem zd_Ls_on_70 : decode prog_1_method_13_code 70 = .ok (.invokevirtual 185, 3) := by decide +kernel
theorem zd_Ls_on_73 : decode prog_1_method_13_code 73 = .ok (.ireturn, 1) := by decide +kernel
theorem zd_Ls_on_40 : decode prog_1_method_13_code 40 = .ok (.bipush (-2), 2) := by decide +kernel
theorem zd_Ls_on_42 : decode prog_1_method_13_code 42 = .ok (.ireturn, 1) := by decide +kernel
theorem zd_Ls_on_28 : decode prog_1_method_13_code 28 = .ok (.iconst (-1), 1) := by decide +kernel
theorem zd_Ls_on_29 : decode prog_1_method_13_code 29 = .ok (.ireturn, 1) := by decide +kernel
abbrev zm_Ls_on : zQ := ("LoofahSaints", prog_1_method_13_code, 3, (Option.some Jvm.ClassFile.FieldType.int), false)
set_option maxRecDepth 100000 in
def fn_Ls_on_L30 (a0 : Nat) (a1 : Int32) (a2 : Int32) (S : zS) : Option (Int32 × zS) :=
  br (decide (a1 < 0)) (some ((-2 : Int32), S)) <|
  br (decide (a1 ≤ (60 : Int32))) (gd (gT S a0 109) <|
  gd (gT S (zR S a0 8) 101) <|
  bv (fn_Ho_copy (zR S a0 8) (zR S a0 7) S) fun S5 =>
  gd (gT S5 a0 109) <|
  gd (gT S5 (zR S5 a0 8) 101) <|
  bv (fn_Ho_goDays (zR S5 a0 8) a1 S5) fun S9 =>
  br (decide (a2 = 0)) (gd (gT S9 a0 109) <|
  gd (gT S9 (zR S9 a0 8) 101) <|
  bq (fn_Ho_onAll (zR S9 a0 8) S9) fun r29 S27 =>
  some (r29, S27)) <|
  bq (fn_Ls_isNovice (a2 - (10 : Int32)) S9) fun r14 S12 =>
  br (decide (r14 = 0)) (gd (gT S12 a0 109) <|
  gd (gT S12 (zR S12 a0 8) 101) <|
  gd (gT S12 (zR S12 (zR S12 a0 8) 0) 6) <|
  gd (gB (a2 - (20 : Int32)) (zT S12 (zR S12 (zR S12 a0 8) 0)).2) <|
  gd (gT S12 (zR S12 (zR S12 (zR S12 a0 8) 0) (a2 - (20 : Int32)).toNatClampNeg) 105) <|
  some ((zI S12 (zR S12 (zR S12 (zR S12 a0 8) 0) (a2 - (20 : Int32)).toNatClampNeg) 5), S12)) <|
  gd (gT S12 a0 109) <|
  gd (gT S12 (zR S12 a0 8) 101) <|
  gd (gT S12 (zR S12 (zR S12 a0 8) 1) 1) <|
  gd (gB (a2 - (10 : Int32)) (zT S12 (zR S12 (zR S12 a0 8) 1)).2) <|
  some ((zI S12 (zR S12 (zR S12 a0 8) 1) (a2 - (10 : Int32)).toNatClampNeg), S12)) <|
  some ((-2 : Int32), S)
set_option maxRecDepth 100000 in
set_option maxHeartbeats 4000000 in
theorem tm_Ls_on_L30 {X : zXt} {d : Nat} (hd : 8 ≤ d) {v : Int32} {S' : zS}  {a0 : Nat} {a1 : Int32} {a2 : Int32} {S : zS} (h : fn_Ls_on_L30 a0 a1 a2 S = some (v, S')) : zG X zm_Ls_on d 30 [some (.ref a0), some (.int a1), some (.int a2)] [] S (some (.int v)) S' := by
  unfold fn_Ls_on_L30 at h
  refine zg_iload_n (pc' := 31) zd_Ls_on_30 rfl rfl ?_
  rcases br_some h with ⟨c1, h⟩ | ⟨c1, h⟩
  · refine zg_if_lt (tgt := 40) (pc' := 34) zd_Ls_on_31 (by decide) rfl (fun _ => ?_) (fun q => absurd c1 q)
    refine zg_bipush (x := (-2 : Int32)) (pc' := 42) zd_Ls_on_40 (by decide) rfl ?_
    obtain ⟨rfl, rfl⟩ := rt_q h
    exact zg_iret zd_Ls_on_42 zrt_i
  · refine zg_if_lt (tgt := 40) (pc' := 34) zd_Ls_on_31 (by decide) rfl (fun q => absurd q c1) (fun _ => ?_)
    refine zg_iload_n (pc' := 35) zd_Ls_on_34 rfl rfl ?_
    refine zg_bipush (x := (60 : Int32)) (pc' := 37) zd_Ls_on_35 (by decide) rfl ?_
    rcases br_some h with ⟨c2, h⟩ | ⟨c2, h⟩
    · refine zg_icmp_le (tgt := 43) (pc' := 40) zd_Ls_on_37 (by decide) rfl (fun _ => ?_) (fun q => absurd c2 q)
      refine zg_aload_n (pc' := 44) zd_Ls_on_43 rfl rfl ?_
      obtain ⟨g3, h⟩ := gd_some h
      refine zg_getR (pc' := 47) zf_Ls_78 rfl zd_Ls_on_44 (gT_ok g3) rfl ?_
      refine zg_aload_n (pc' := 48) zd_Ls_on_47 rfl rfl ?_
      refine zg_getR (pc' := 51) zf_Ls_74 rfl zd_Ls_on_48 (gT_ok g3) rfl ?_
      obtain ⟨g4, h⟩ := gd_some h
      obtain ⟨S5, e6, h⟩ := bv_some h
      refine zg_callV (ci := 1) (As := [.ref (zR S a0 7)]) (rest := []) (pc' := 54) zl_Ls_202 zq548 zq549 ⟨_, rfl, rfl⟩ zd_Ls_on_51 rfl rfl (Nat.le_of_ble_eq_true rfl) (by omega) (gT_ok g4) (tm_Ho_copy (d := 4) (Nat.le_refl _) e6) rfl ?_
      refine zg_st (st' := []) rfl ?_
      refine zg_aload_n (pc' := 55) zd_Ls_on_54 rfl rfl ?_
      obtain ⟨g7, h⟩ := gd_some h
      refine zg_getR (pc' := 58) zf_Ls_78 rfl zd_Ls_on_55 (gT_ok g7) rfl ?_
      refine zg_iload_n (pc' := 59) zd_Ls_on_58 rfl rfl ?_
      obtain ⟨g8, h⟩ := gd_some h
      obtain ⟨S9, e10, h⟩ := bv_some h
      refine zg_callV (ci := 1) (As := [.int a1]) (rest := []) (pc' := 62) zl_Ls_199 zq612 zq613 ⟨_, rfl, rfl⟩ zd_Ls_on_59 rfl rfl (Nat.le_of_ble_eq_true rfl) (by omega) (gT_ok g8) (tm_Ho_goDays (d := 7) (Nat.le_refl _) e10) rfl ?_
      refine zg_st (st' := []) rfl ?_
      refine zg_iload_n (pc' := 63) zd_Ls_on_62 rfl rfl ?_
      rcases br_some h with ⟨c11, h⟩ | ⟨c11, h⟩
      · refine zg_if_ne (tgt := 74) (pc' := 66) zd_Ls_on_63 (by decide) rfl (fun q => absurd c11 q) (fun _ => ?_)
        refine zg_aload_n (pc' := 67) zd_Ls_on_66 rfl rfl ?_
        obtain ⟨g25, h⟩ := gd_some h
        refine zg_getR (pc' := 70) zf_Ls_78 rfl zd_Ls_on_67 (gT_ok g25) rfl ?_
        obtain ⟨g26, h⟩ := gd_some h
        obtain ⟨r29, S27, e28, h⟩ := bq_some h
        refine zg_callV (ci := 1) (As := []) (rest := []) (pc' := 73) zl_Ls_185 zq573 zq574 ⟨_, rfl, rfl⟩ zd_Ls_on_70 rfl rfl (Nat.le_of_ble_eq_true rfl) (by omega) (gT_ok g26) (tm_Ho_onAll (d := 3) (Nat.le_refl _) e28) rfl ?_
        refine zg_st (st' := [.int r29]) rfl ?_
        obtain ⟨rfl, rfl⟩ := rt_q h
        exact zg_iret zd_Ls_on_73 zrt_i
      · refine zg_if_ne (tgt := 74) (pc' := 66) zd_Ls_on_63 (by decide) rfl (fun _ => ?_) (fun q => absurd q c11)
        refine zg_iload_n (pc' := 75) zd_Ls_on_74 rfl rfl ?_
        refine zg_bipush (x := (10 : Int32)) (pc' := 77) zd_Ls_on_75 (by decide) rfl ?_
        refine zg_isub (pc' := 78) zd_Ls_on_77 rfl ?_
        obtain ⟨r14, S12, e13, h⟩ := bq_some h
        refine zg_callS (As := [.int (a2 - (10 : Int32))]) (rest := []) (pc' := 81) zl_Ls_106 zq349 zd_Ls_on_78 rfl rfl (Nat.le_of_ble_eq_true rfl) (by omega) (tm_Ls_isNovice (d := 2) (Nat.le_refl _) e13) rfl ?_
        refine zg_st (st' := [.int r14]) rfl ?_
        rcases br_some h with ⟨c15, h⟩ | ⟨c15, h⟩
        · refine zg_if_eq (tgt := 99) (pc' := 84) zd_Ls_on_81 (by decide) rfl (fun _ => ?_) (fun q => absurd c15 q)
          refine zg_aload_n (pc' := 100) zd_Ls_on_99 rfl rfl ?_
          obtain ⟨g16, h⟩ := gd_some h
          refine zg_getR (pc' := 103) zf_Ls_78 rfl zd_Ls_on_100 (gT_ok g16) rfl ?_
          obtain ⟨g17, h⟩ := gd_some h
          refine zg_getR (pc' := 106) zf_Ls_95 rfl zd_Ls_on_103 (gT_ok g17) rfl ?_
          refine zg_iload_n (pc' := 107) zd_Ls_on_106 rfl rfl ?_
          refine zg_bipush (x := (20 : Int32)) (pc' := 109) zd_Ls_on_107 (by decide) rfl ?_
          refine zg_isub (pc' := 110) zd_Ls_on_109 rfl ?_
          obtain ⟨g18, h⟩ := gd_some h
          obtain ⟨g19, h⟩ := gd_some h
          refine zg_aald (t := 6) (pc' := 111) (by decide) zd_Ls_on_110 (gT_ok g18) (gB_ok g19) rfl ?_
          obtain ⟨g20, h⟩ := gd_some h
          refine zg_getI (pc' := 114) zf_Ls_122 zd_Ls_on_111 (gT_ok g20) rfl ?_
          obtain ⟨rfl, rfl⟩ := rt_q h
          exact zg_iret zd_Ls_on_114 zrt_i
        · refine zg_if_eq (tgt := 99) (pc' := 84) zd_Ls_on_81 (by decide) rfl (fun q => absurd q c15) (fun _ => ?_)
          refine zg_aload_n (pc' := 85) zd_Ls_on_84 rfl rfl ?_
          obtain ⟨g21, h⟩ := gd_some h
          refine zg_getR (pc' := 88) zf_Ls_78 rfl zd_Ls_on_85 (gT_ok g21) rfl ?_
          obtain ⟨g22, h⟩ := gd_some h
          refine zg_getR (pc' := 91) zf_Ls_152 rfl zd_Ls_on_88 (gT_ok g22) rfl ?_
          refine zg_iload_n (pc' := 92) zd_Ls_on_91 rfl rfl ?_
          refine zg_bipush (x := (10 : Int32)) (pc' := 94) zd_Ls_on_92 (by decide) rfl ?_
          refine zg_isub (pc' := 95) zd_Ls_on_94 rfl ?_
          obtain ⟨g23, h⟩ := gd_some h
          obtain ⟨g24, h⟩ := gd_some h
          refine zg_iald (pc' := 96) zd_Ls_on_95 (gT_ok g23) (gB_ok g24) rfl ?_
          refine zg_goto (tgt := 114) zd_Ls_on_96 (by decide) ?_
          obtain ⟨rfl, rfl⟩ := rt_q h
          exact zg_iret zd_Ls_on_114 zrt_i
    · refine zg_icmp_le (tgt := 43) (pc' := 40) zd_Ls_on_37 (by decide) rfl (fun q => absurd q c2) (fun _ => ?_)
      refine zg_bipush (x := (-2 : Int32)) (pc' := 42) zd_Ls_on_40 (by decide) rfl ?_
      obtain ⟨rfl, rfl⟩ := rt_q h
      exact zg_iret zd_Ls_on_42 zrt_i
set_option maxRecDepth 100000 in
def fn_Ls_on (a0 : Nat) (a1 : Int32) (a2 : Int32) (S : zS) : Option (Int32 × zS) :=
  br (decide (a2 = 0)) (fn_Ls_on_L30 a0 a1 a2 S) <|
  bq (fn_Ls_isNovice (a2 - (10 : Int32)) S) fun r4 S2 =>
  br (decide (r4 = 0)) (gd (gT S2 a0 109) <|
  gd (gT S2 (zR S2 a0 7) 101) <|
  bq (fn_Ho_has (zR S2 a0 7) (a2 - (20 : Int32)) S2) fun r10 S8 =>
  br (decide (r10 = 0)) (some ((-1 : Int32), S8)) <|
  fn_Ls_on_L30 a0 a1 a2 S8) <|
  fn_Ls_on_L30 a0 a1 a2 S2
set_option maxRecDepth 100000 in
set_option maxHeartbeats 4000000 in
theorem tm_Ls_on {X : zXt} {d : Nat} (hd : 8 ≤ d) {v : Int32} {a0 : Nat} {a1 : Int32} {a2 : Int32} {S : zS} {S' : zS} (h : fn_Ls_on a0 a1 a2 S = some (v, S')) : zM X zy_Ls_on prog_1_method_13_code 3 (Option.some Jvm.ClassFile.FieldType.int) d [.ref a0, .int a1, .int a2] S (some (.int v)) S' := by
  refine zM_of (ini := false) (L := [some (.ref a0), some (.int a1), some (.int a2)]) (plainFor_of_name (by decide)) (fun h => by cases h) (Nat.le_of_ble_eq_true rfl) rfl ?_
  unfold fn_Ls_on at h
  refine zg_iload_n (pc' := 1) zd_Ls_on_0 rfl rfl ?_
  rcases br_some h with ⟨c1, h⟩ | ⟨c1, h⟩
  · refine zg_if_eq (tgt := 30) (pc' := 4) zd_Ls_on_1 (by decide) rfl (fun _ => ?_) (fun q => absurd c1 q)
    exact tm_Ls_on_L30 hd h
  · refine zg_if_eq (tgt := 30) (pc' := 4) zd_Ls_on_1 (by decide) rfl (fun q => absurd q c1) (fun _ => ?_)
    refine zg_iload_n (pc' := 5) zd_Ls_on_4 rfl rfl ?_
    refine zg_bipush (x := (10 : Int32)) (pc' := 7) zd_Ls_on_5 (by decide) rfl ?_
    refine zg_isub (pc' := 8) zd_Ls_on_7 rfl ?_
    obtain ⟨r4, S2, e3, h⟩ := bq_some h
    refine zg_callS (As := [.int (a2 - (10 : Int32))]) (rest := []) (pc' := 11) zl_Ls_106 zq349 zd_Ls_on_8 rfl rfl (Nat.le_of_ble_eq_true rfl) (by omega) (tm_Ls_isNovice (d := 2) (Nat.le_refl _) e3) rfl ?_
    refine zg_st (st' := [.int r4]) rfl ?_
    rcases br_some h with ⟨c5, h⟩ | ⟨c5, h⟩
    · refine zg_if_ne (tgt := 30) (pc' := 14) zd_Ls_on_11 (by decide) rfl (fun q => absurd c5 q) (fun _ => ?_)
      refine zg_aload_n (pc' := 15) zd_Ls_on_14 rfl rfl ?_
      obtain ⟨g6, h⟩ := gd_some h
      refine zg_getR (pc' := 18) zf_Ls_74 rfl zd_Ls_on_15 (gT_ok g6) rfl ?_
      refine zg_iload_n (pc' := 19) zd_Ls_on_18 rfl rfl ?_
      refine zg_bipush (x := (20 : Int32)) (pc' := 21) zd_Ls_on_19 (by decide) rfl ?_
      refine zg_isub (pc' := 22) zd_Ls_on_21 rfl ?_
      obtain ⟨g7, h⟩ := gd_some h
      obtain ⟨r10, S8, e9, h⟩ := bq_some h
      refine zg_callV (ci := 1) (As := [.int (a2 - (20 : Int32))]) (rest := []) (pc' := 25) zl_Ls_103 zq345 zq346 ⟨_, rfl, rfl⟩ zd_Ls_on_22 rfl rfl (Nat.le_of_ble_eq_true rfl) (by omega) (gT_ok g7) (tm_Ho_has (d := 2) (Nat.le_refl _) e9) rfl ?_
      refine zg_st (st' := [.int r10]) rfl ?_
      rcases br_some h with ⟨c11, h⟩ | ⟨c11, h⟩
      · refine zg_if_ne (tgt := 30) (pc' := 28) zd_Ls_on_25 (by decide) rfl (fun q => absurd c11 q) (fun _ => ?_)
        refine zg_iconst (x := (-1 : Int32)) (pc' := 29) zd_Ls_on_28 (by decide) rfl ?_
        obtain ⟨rfl, rfl⟩ := rt_q h
        exact zg_iret zd_Ls_on_29 zrt_i
      · refine zg_if_ne (tgt := 30) (pc' := 28) zd_Ls_on_25 (by decide) rfl (fun _ => ?_) (fun q => absurd q c11)
        exact tm_Ls_on_L30 hd h
    · refine zg_if_ne (tgt := 30) (pc' := 14) zd_Ls_on_11 (by decide) rfl (fun _ => ?_) (fun q => absurd q c5)
      exact tm_Ls_on_L30 hd h
theorem zd_Ls_shared_0 : decode prog_1_method_15_code 0 = .ok (.iload_n 1, 1) := by decide +kernel
theorem zd_Ls_shared_1 : decode prog_1_method_15_code 1 = .ok (.ifCond .eq 19, 3) := by decide +kernel
theorem zd_Ls_shared_4 : decode prog_1_method_15_code 4 = .ok (.aload_n 0, 1) := by decide +kernel
theorem zd_Ls_shared_5 : decode prog_1_method_15_code 5 = .ok (.getfield 74, 3) := by decide +kernel
theorem zd_Ls_shared_8 : decode prog_1_method_15_code 8 = .ok (.iload_n 1, 1) := by decide +kernel
theorem zd_Ls_shared_9 : decode prog_1_method_15_code 9 = .ok (.bipush 10, 2) := by decide +kernel
theorem zd_Ls_shared_11 : decode prog_1_method_15_code 11 = .ok (.isub, 1) := by decide +kernel
theorem zd_Ls_shared_12 : decode prog_1_method_15_code 12 = .ok (.invokevirtual 103, 3) := by decide +kernel
theorem zd_Ls_shared_15 : decode prog_1_method_15_code 15 = .ok (.ifCond .ne 5, 3) := by decide +kernel
theorem zd_Ls_shared_20 : decode prog_1_method_15_code 20 = .ok (.aload_n 0, 1) := by decide +kernel
theorem zd_Ls_shared_21 : decode prog_1_method_15_code 21 = .ok (.getfield 33, 3) := by decide +kernel
theorem zd_Ls_shared_24 : decode prog_1_method_15_code 24 = .ok (.aload_n 0, 1) := by decide +kernel
theorem zd_Ls_shared_25 : decode prog_1_method_15_code 25 = .ok (.getfield 74, 3) := by decide +kernel
theorem zd_Ls_shared_28 : decode prog_1_method_15_code 28 = .ok (.iconst (-1), 1) := by decide +kernel
theorem zd_Ls_shared_29 : decode prog_1_method_15_code 29 = .ok (.invokevirtual 209, 3) := by decide +kernel
theorem zd_Ls_shared_32 : decode prog_1_method_15_code 32 = .ok (.iload_n 1, 1) := by decide +kernel
theorem zd_Ls_shared_33 : decode prog_1_method_15_code 33 = .ok (.ifCond .ne 13, 3) := by decide +kernel
theorem zd_Ls_shared_46 : decode prog_1_method_15_code 46 = .ok (.aload_n 0, 1) := by decide +kernel
theorem zd_Ls_shared_47 : decode prog_1_method_15_code 47 = .ok (.getfield 33, 3) := by decide +kernel
theorem zd_Ls_shared_50 : decode prog_1_method_15_code 50 = .ok (.iload_n 1, 1) := by decide +kernel
theorem zd_Ls_shared_51 : decode prog_1_method_15_code 51 = .ok (.bipush 10, 2) := by decide +kernel
theorem zd_Ls_shared_53 : decode prog_1_method_15_code 53 = .ok (.isub, 1) := by decide +kernel
theorem zd_Ls_shared_54 : decode prog_1_method_15_code 54 = .ok (.invokevirtual 216, 3) := by decide +kernel
theorem zd_Ls_shared_36 : decode prog_1_method_15_code 36 = .ok (.aload_n 0, 1) := by decide +kernel
theorem zd_Ls_shared_37 : decode prog_1_method_15_code 37 = .ok (.getfield 33, 3) := by decide +kernel
theorem zd_Ls_shared_40 : decode prog_1_method_15_code 40 = .ok (.getfield 213, 3) := by decide +kernel
theorem zd_Ls_shared_43 : decode prog_1_method_15_code 43 = .ok (.goto 14, 3) := by decide +kernel
theorem zd_Ls_shared_57 : decode prog_1_method_15_code 57 = .ok (.ireturn, 1) := by decide +kernel
theorem zd_Ls_shared_18 : decode prog_1_method_15_code 18 = .ok (.iconst (-1), 1) := by decide +kernel
theorem zd_Ls_shared_19 : decode prog_1_method_15_code 19 = .ok (.ireturn, 1) := by decide +kernel
abbrev zm_Ls_shared : zQ := ("LoofahSaints", prog_1_method_15_code, 2, (Option.some Jvm.ClassFile.FieldType.int), false)
set_option maxRecDepth 100000 in
def fn_Ls_shared_L20 (a0 : Nat) (a1 : Int32) (S : zS) : Option (Int32 × zS) :=
  gd (gT S a0 109) <|
  gd (gT S (zR S a0 3) 107) <|
  bv (fn_Sh_share (zR S a0 3) (zR S a0 7) (-1 : Int32) S) fun S3 =>
  br (decide (a1 = 0)) (gd (gT S3 a0 109) <|
  gd (gT S3 (zR S3 a0 3) 107) <|
  some ((zI S3 (zR S3 a0 3) 4), S3)) <|
  gd (gT S3 a0 109) <|
  gd (gT S3 (zR S3 a0 3) 107) <|
  bq (fn_Sh_givenTo (zR S3 a0 3) (a1 - (10 : Int32)) S3) fun r10 S8 =>
  some (r10, S8)
set_option maxRecDepth 100000 in
set_option maxHeartbeats 4000000 in
theorem tm_Ls_shared_L20 {X : zXt} {d : Nat} (hd : 64 ≤ d) {v : Int32} {S' : zS}  {a0 : Nat} {a1 : Int32} {S : zS} (h : fn_Ls_shared_L20 a0 a1 S = some (v, S')) : zG X zm_Ls_shared d 20 [some (.ref a0), some (.int a1)] [] S (some (.int v)) S' := by
  unfold fn_Ls_shared_L20 at h
  refine zg_aload_n (pc' := 21) zd_Ls_shared_20 rfl rfl ?_
  obtain ⟨g1, h⟩ := gd_some h
  refine zg_getR (pc' := 24) zf_Ls_33 rfl zd_Ls_shared_21 (gT_ok g1) rfl ?_
  refine zg_aload_n (pc' := 25) zd_Ls_shared_24 rfl rfl ?_
  refine zg_getR (pc' := 28) zf_Ls_74 rfl zd_Ls_shared_25 (gT_ok g1) rfl ?_
  refine zg_iconst (x := (-1 : Int32)) (pc' := 29) zd_Ls_shared_28 (by decide) rfl ?_
  obtain ⟨g2, h⟩ := gd_some h
  obtain ⟨S3, e4, h⟩ := bv_some h
  refine zg_callV (ci := 7) (As := [.ref (zR S a0 7), .int (-1 : Int32)]) (rest := []) (pc' := 32) zl_Ls_209 zq592 zq593 ⟨_, rfl, rfl⟩ zd_Ls_shared_29 rfl rfl (Nat.le_of_ble_eq_true rfl) (by omega) (gT_ok g2) (tm_Sh_share (d := 63) (Nat.le_refl _) e4) rfl ?_
  refine zg_st (st' := []) rfl ?_
  refine zg_iload_n (pc' := 33) zd_Ls_shared_32 rfl rfl ?_
  rcases br_some h with ⟨c5, h⟩ | ⟨c5, h⟩
  · refine zg_if_ne (tgt := 46) (pc' := 36) zd_Ls_shared_33 (by decide) rfl (fun q => absurd c5 q) (fun _ => ?_)
    refine zg_aload_n (pc' := 37) zd_Ls_shared_36 rfl rfl ?_
    obtain ⟨g11, h⟩ := gd_some h
    refine zg_getR (pc' := 40) zf_Ls_33 rfl zd_Ls_shared_37 (gT_ok g11) rfl ?_
    obtain ⟨g12, h⟩ := gd_some h
    refine zg_getI (pc' := 43) zf_Ls_213 zd_Ls_shared_40 (gT_ok g12) rfl ?_
    refine zg_goto (tgt := 57) zd_Ls_shared_43 (by decide) ?_
    obtain ⟨rfl, rfl⟩ := rt_q h
    exact zg_iret zd_Ls_shared_57 zrt_i
  · refine zg_if_ne (tgt := 46) (pc' := 36) zd_Ls_shared_33 (by decide) rfl (fun _ => ?_) (fun q => absurd q c5)
    refine zg_aload_n (pc' := 47) zd_Ls_shared_46 rfl rfl ?_
    obtain ⟨g6, h⟩ := gd_some h
    refine zg_getR (pc' := 50) zf_Ls_33 rfl zd_Ls_shared_47 (gT_ok g6) rfl ?_
    refine zg_iload_n (pc' := 51) zd_Ls_shared_50 rfl rfl ?_
    refine zg_bipush (x := (10 : Int32)) (pc' := 53) zd_Ls_shared_51 (by decide) rfl ?_
    refine zg_isub (pc' := 54) zd_Ls_shared_53 rfl ?_
    obtain ⟨g7, h⟩ := gd_some h
    obtain ⟨r10, S8, e9, h⟩ := bq_some h
    refine zg_callV (ci := 7) (As := [.int (a1 - (10 : Int32))]) (rest := []) (pc' := 57) zl_Ls_216 zq626 zq627 ⟨_, rfl, rfl⟩ zd_Ls_shared_54 rfl rfl (Nat.le_of_ble_eq_true rfl) (by omega) (gT_ok g7) (tm_Sh_givenTo (d := 2) (Nat.le_refl _) e9) rfl ?_
    refine zg_st (st' := [.int r10]) rfl ?_
    obtain ⟨rfl, rfl⟩ := rt_q h
    exact zg_iret zd_Ls_shared_57 zrt_i
set_option maxRecDepth 100000 in
def fn_Ls_shared (a0 : Nat) (a1 : Int32) (S : zS) : Option (Int32 × zS) :=
  br (decide (a1 = 0)) (fn_Ls_shared_L20 a0 a1 S) <|
  gd (gT S a0 109) <|
  gd (gT S (zR S a0 7) 101) <|
  bq (fn_Ho_has (zR S a0 7) (a1 - (10 : Int32)) S) fun r6 S4 =>
  br (decide (r6 = 0)) (some ((-1 : Int32), S4)) <|
  fn_Ls_shared_L20 a0 a1 S4
set_option maxRecDepth 100000 in
set_option maxHeartbeats 4000000 in
theorem tm_Ls_shared {X : zXt} {d : Nat} (hd : 64 ≤ d) {v : Int32} {a0 : Nat} {a1 : Int32} {S : zS} {S' : zS} (h : fn_Ls_shared a0 a1 S = some (v, S')) : zM X zy_Ls_shared prog_1_method_15_code 2 (Option.some Jvm.ClassFile.FieldType.int) d [.ref a0, .int a1] S (some (.int v)) S' := by
  refine zM_of (ini := false) (L := [some (.ref a0), some (.int a1)]) (plainFor_of_name (by decide)) (fun h => by cases h) (Nat.le_of_ble_eq_true rfl) rfl ?_
  unfold fn_Ls_shared at h
  refine zg_iload_n (pc' := 1) zd_Ls_shared_0 rfl rfl ?_
  rcases br_some h with ⟨c1, h⟩ | ⟨c1, h⟩
  · refine zg_if_eq (tgt := 20) (pc' := 4) zd_Ls_shared_1 (by decide) rfl (fun _ => ?_) (fun q => absurd c1 q)
    exact tm_Ls_shared_L20 hd h
  · refine zg_if_eq (tgt := 20) (pc' := 4) zd_Ls_shared_1 (by decide) rfl (fun q => absurd q c1) (fun _ => ?_)
    refine zg_aload_n (pc' := 5) zd_Ls_shared_4 rfl rfl ?_
    obtain ⟨g2, h⟩ := gd_some h
    refine zg_getR (pc' := 8) zf_Ls_74 rfl zd_Ls_shared_5 (gT_ok g2) rfl ?_
    refine zg_iload_n (pc' := 9) zd_Ls_shared_8 rfl rfl ?_
    refine zg_bipush (x := (10 : Int32)) (pc' := 11) zd_Ls_shared_9 (by decide) rfl ?_
    refine zg_isub (pc' := 12) zd_Ls_shared_11 rfl ?_
    obtain ⟨g3, h⟩ := gd_some h
    obtain ⟨r6, S4, e5, h⟩ := bq_some h
    refine zg_callV (ci := 1) (As := [.int (a1 - (10 : Int32))]) (rest := []) (pc' := 15) zl_Ls_103 zq345 zq346 ⟨_, rfl, rfl⟩ zd_Ls_shared_12 rfl rfl (Nat.le_of_ble_eq_true rfl) (by omega) (gT_ok g3) (tm_Ho_has (d := 2) (Nat.le_refl _) e5) rfl ?_
    refine zg_st (st' := [.int r6]) rfl ?_
    rcases br_some h with ⟨c7, h⟩ | ⟨c7, h⟩
    · refine zg_if_ne (tgt := 20) (pc' := 18) zd_Ls_shared_15 (by decide) rfl (fun q => absurd c7 q) (fun _ => ?_)
      refine zg_iconst (x := (-1 : Int32)) (pc' := 19) zd_Ls_shared_18 (by decide) rfl ?_
      obtain ⟨rfl, rfl⟩ := rt_q h
      exact zg_iret zd_Ls_shared_19 zrt_i
    · refine zg_if_ne (tgt := 20) (pc' := 18) zd_Ls_shared_15 (by decide) rfl (fun _ => ?_) (fun q => absurd q c7)
      exact tm_Ls_shared_L20 hd h
theorem zd_Ls_scrubbed_0 : decode prog_1_method_16_code 0 = .ok (.iload_n 1, 1) := by decide +kernel
theorem zd_Ls_scrubbed_1 : decode prog_1_method_16_code 1 = .ok (.invokestatic 106, 3) := by decide +kernel
theorem zd_Ls_scrubbed_4 : decode prog_1_method_16_code 4 = .ok (.ifCond .eq 13, 3) := by decide +kernel
theorem zd_Ls_scrubbed_7 : decode prog_1_method_16_code 7 = .ok (.iload_n 3, 1) := by decide +kernel
theorem zd_Ls_scrubbed_8 : decode prog_1_method_16_code 8 = .ok (.iconst (-1), 1) := by decide +kernel
theorem zd_Ls_scrubbed_9 : decode prog_1_method_16_code 9 = .ok (.if_icmp .lt 8, 3) := by decide +kernel
theorem zd_Ls_scrubbed_12 : decode prog_1_method_16_code 12 = .ok (.iload_n 3, 1) := by decide +kernel
theorem zd_Ls_scrubbed_13 : decode prog_1_method_16_code 13 = .ok (.iconst 3, 1) := by decide +kernel
theorem zd_Ls_scrubbed_14 : decode prog_1_method_16_code 14 = .ok (.if_icmp .lt 5, 3) := by decide +kernel
theorem zd_Ls_scrubbed_19 : decode prog_1_method_16_code 19 = .ok (.iload_n 2, 1) := by decide +kernel
theorem zd_Ls_scrubbed_20 : decode prog_1_method_16_code 20 = .ok (.iconst 1, 1) := by decide +kernel
theorem zd_Ls_scrubbed_21 : decode prog_1_method_16_code 21 = .ok (.if_icmp .lt 8, 3) := by decide +kernel
theorem zd_Ls_scrubbed_24 : decode prog_1_method_16_code 24 = .ok (.iload_n 2, 1) := by decide +kernel
theorem zd_Ls_scrubbed_25 : decode prog_1_method_16_code 25 = .ok (.iconst 3, 1) := by decide +kernel
theorem zd_Ls_scrubbed_26 : decode prog_1_method_16_code 26 = .ok (.if_icmp .le 6, 3) := by decide +kernel
theorem zd_Ls_scrubbed_32 : decode prog_1_method_16_code 32 = .ok (.iload_n 3, 1) := by decide +kernel
theorem zd_Ls_scrubbed_33 : decode prog_1_method_16_code 33 = .ok (.iload_n 2, 1) := by decide +kernel
theorem zd_Ls_scrubbed_34 : decode prog_1_method_16_code 34 = .ok (.if_icmp .ge 14, 3) := by decide +kernel
theorem zd_Ls_scrubbed_37 : decode prog_1_method_16_code 37 = .ok (.aload_n 0, 1) := by decide +kernel
theorem zd_Ls_scrubbed_38 : decode prog_1_method_16_code 38 = .ok (.getfield 74, 3) := by decide +kernel
theorem zd_Ls_scrubbed_41 : decode prog_1_method_16_code 41 = .ok (.getfield 92, 3) := by decide +kernel
theorem zd_Ls_scrubbed_44 : decode prog_1_method_16_code 44 = .ok (.iload_n 2, 1) := by decide +kernel
theorem zd_Ls_scrubbed_45 : decode prog_1_method_16_code 45 = .ok (.if_icmp .ge 6, 3) := by decide +kernel
theorem zd_Ls_scrubbed_51 : decode prog_1_method_16_code 51 = .ok (.aload_n 0, 1) := by decide +kernel
theorem zd_Ls_scrubbed_52 : decode prog_1_method_16_code 52 = .ok (.getfield 40, 3) := by decide +kernel
theorem zd_Ls_scrubbed_55 : decode prog_1_method_16_code 55 = .ok (.aload_n 0, 1) := by decide +kernel
theorem zd_Ls_scrubbed_56 : decode prog_1_method_16_code 56 = .ok (.getfield 74, 3) := by decide +kernel
theorem zd_Ls_scrubbed_59 : decode prog_1_method_16_code 59 = .ok (.iload_n 1, 1) := by decide +kernel
theorem zd_Ls_scrubbed_60 : decode prog_1_method_16_code 60 = .ok (.iload_n 2, 1) := by decide +kernel
theorem zd_Ls_scrubbed_61 : decode prog_1_method_16_code 61 = .ok (.invokevirtual 219, 3) := by decide +kernel
theorem zd_Ls_scrubbed_64 : decode prog_1_method_16_code 64 = .ok (.iload_n 3, 1) := by decide +kernel
theorem zd_Ls_scrubbed_65 : decode prog_1_method_16_code 65 = .ok (.ifCond .ge 13, 3) := by decide +kernel
theorem zd_Ls_scrubbed_78 : decode prog_1_method_16_code 78 = .ok (.aload_n 0, 1) := by decide +kernel
theorem zd_Ls_scrubbed_79 : decode prog_1_method_16_code 79 = .ok (.getfield 40, 3) := by decide +kernel
theorem zd_Ls_scrubbed_82 : decode prog_1_method_16_code 82 = .ok (.getfield 226, 3) := by decide +kernel
theorem zd_Ls_scrubbed_85 : decode prog_1_method_16_code 85 = .ok (.iload_n 3, 1) := by decide +kernel
theorem zd_Ls_scrubbed_86 : decode prog_1_method_16_code 86 = .ok (.iaload, 1) := by decide +kernel
theorem zd_Ls_scrubbed_68 : decode prog_1_method_16_code 68 = .ok (.aload_n 0, 1) := by decide +kernel
theorem zd_Ls_scrubbed_69 : decode prog_1_method_16_code 69 = .ok (.getfield 40, 3) := by decide +kernel
theorem zd_Ls_scrubbed_72 : decode prog_1_method_16_code 72 = .ok (.getfield 223, 3) := by decide +kernel
theorem zd_Ls_scrubbed_75 : decode prog_1_method_16_code 75 = .ok (.goto 12, 3) := by decide +kernel
theorem zd_Ls_scrubbed_87 : decode prog_1_method_16_code 87 = .ok (.ireturn, 1) := by decide +kernel
theorem zd_Ls_scrubbed_48 : decode prog_1_method_16_code 48 = .ok (.bipush (-5), 2) := by decide +kernel
theorem zd_Ls_scrubbed_50 : decode prog_1_method_16_code 50 = .ok (.ireturn, 1) := by decide +kernel
theorem zd_Ls_scrubbed_29 : decode prog_1_method_16_code 29 = .ok (.bipush (-2), 2) := by decide +kernel
theorem zd_Ls_scrubbed_31 : decode prog_1_method_16_code 31 = .ok (.ireturn, 1) := by decide +kernel
theorem zd_Ls_scrubbed_17 : decode prog_1_method_16_code 17 = .ok (.iconst (-1), 1) := by decide +kernel
theorem zd_Ls_scrubbed_18 : decode prog_1_method_16_code 18 = .ok (.ireturn, 1) := by decide +kernel
abbrev zm_Ls_scrubbed : zQ := ("LoofahSaints", prog_1_method_16_code, 4, (Option.some Jvm.ClassFile.FieldType.int), false)
set_option maxRecDepth 100000 in
def fn_Ls_scrubbed (a0 : Nat) (a1 : Int32) (a2 : Int32) (a3 : Int32) (S : zS) : Option (Int32 × zS) :=
  bq (fn_Ls_isNovice a1 S) fun r3 S1 =>
  br (decide (r3 = 0)) (some ((-1 : Int32), S1)) <|
  br (decide (a3 < (-1 : Int32))) (some ((-1 : Int32), S1)) <|
  br (decide (a3 < (3 : Int32))) (br (decide (a2 < (1 : Int32))) (some ((-2 : Int32), S1)) <|
  br (decide (a2 ≤ (3 : Int32))) (br (decide (a2 ≤ a3)) (some ((-5 : Int32), S1)) <|
  gd (gT S1 a0 109) <|
  gd (gT S1 (zR S1 a0 7) 101) <|
  br (decide (a2 ≤ (zI S1 (zR S1 a0 7) 6))) (gd (gT S1 (zR S1 a0 4) 106) <|
  bv (fn_Sc_choose (zR S1 a0 4) (zR S1 a0 7) a1 a2 S1) fun S14 =>
  br (decide (0 ≤ a3)) (gd (gT S14 a0 109) <|
  gd (gT S14 (zR S14 a0 4) 106) <|
  gd (gT S14 (zR S14 (zR S14 a0 4) 2) 1) <|
  gd (gB a3 (zT S14 (zR S14 (zR S14 a0 4) 2)).2) <|
  some ((zI S14 (zR S14 (zR S14 a0 4) 2) a3.toNatClampNeg), S14)) <|
  gd (gT S14 a0 109) <|
  gd (gT S14 (zR S14 a0 4) 106) <|
  some ((zI S14 (zR S14 a0 4) 4), S14)) <|
  some ((-5 : Int32), S1)) <|
  some ((-2 : Int32), S1)) <|
  some ((-1 : Int32), S1)
set_option maxRecDepth 100000 in
set_option maxHeartbeats 4000000 in
theorem tm_Ls_scrubbed {X : zXt} {d : Nat} (hd : 66 ≤ d) {v : Int32} {a0 : Nat} {a1 : Int32} {a2 : Int32} {a3 : Int32} {S : zS} {S' : zS} (h : fn_Ls_scrubbed a0 a1 a2 a3 S = some (v, S')) : zM X zy_Ls_scrubbed prog_1_method_16_code 4 (Option.some Jvm.ClassFile.FieldType.int) d [.ref a0, .int a1, .int a2, .int a3] S (some (.int v)) S' := by
  refine zM_of (ini := false) (L := [some (.ref a0), some (.int a1), some (.int a2), some (.int a3)]) (plainFor_of_name (by decide)) (fun h => by cases h) (Nat.le_of_ble_eq_true rfl) rfl ?_
  unfold fn_Ls_scrubbed at h
  refine zg_iload_n (pc' := 1) zd_Ls_scrubbed_0 rfl rfl ?_
  obtain ⟨r3, S1, e2, h⟩ := bq_some h
  refine zg_callS (As := [.int a1]) (rest := []) (pc' := 4) zl_Ls_106 zq349 zd_Ls_scrubbed_1 rfl rfl (Nat.le_of_ble_eq_true rfl) (by omega) (tm_Ls_isNovice (d := 2) (Nat.le_refl _) e2) rfl ?_
  refine zg_st (st' := [.int r3]) rfl ?_
  rcases br_some h with ⟨c4, h⟩ | ⟨c4, h⟩
  · refine zg_if_eq (tgt := 17) (pc' := 7) zd_Ls_scrubbed_4 (by decide) rfl (fun _ => ?_) (fun q => absurd c4 q)
    refine zg_iconst (x := (-1 : Int32)) (pc' := 18) zd_Ls_scrubbed_17 (by decide) rfl ?_
    obtain ⟨rfl, rfl⟩ := rt_q h
    exact zg_iret zd_Ls_scrubbed_18 zrt_i
  · refine zg_if_eq (tgt := 17) (pc' := 7) zd_Ls_scrubbed_4 (by decide) rfl (fun q => absurd q c4) (fun _ => ?_)
    refine zg_iload_n (pc' := 8) zd_Ls_scrubbed_7 rfl rfl ?_
    refine zg_iconst (x := (-1 : Int32)) (pc' := 9) zd_Ls_scrubbed_8 (by decide) rfl ?_
    rcases br_some h with ⟨c5, h⟩ | ⟨c5, h⟩
    · refine zg_icmp_lt (tgt := 17) (pc' := 12) zd_Ls_scrubbed_9 (by decide) rfl (fun _ => ?_) (fun q => absurd c5 q)
      refine zg_iconst (x := (-1 : Int32)) (pc' := 18) zd_Ls_scrubbed_17 (by decide) rfl ?_
      obtain ⟨rfl, rfl⟩ := rt_q h
      exact zg_iret zd_Ls_scrubbed_18 zrt_i
    · refine zg_icmp_lt (tgt := 17) (pc' := 12) zd_Ls_scrubbed_9 (by decide) rfl (fun q => absurd q c5) (fun _ => ?_)
      refine zg_iload_n (pc' := 13) zd_Ls_scrubbed_12 rfl rfl ?_
      refine zg_iconst (x := (3 : Int32)) (pc' := 14) zd_Ls_scrubbed_13 (by decide) rfl ?_
      rcases br_some h with ⟨c6, h⟩ | ⟨c6, h⟩
      · refine zg_icmp_lt (tgt := 19) (pc' := 17) zd_Ls_scrubbed_14 (by decide) rfl (fun _ => ?_) (fun q => absurd c6 q)
        refine zg_iload_n (pc' := 20) zd_Ls_scrubbed_19 rfl rfl ?_
        refine zg_iconst (x := (1 : Int32)) (pc' := 21) zd_Ls_scrubbed_20 (by decide) rfl ?_
        rcases br_some h with ⟨c7, h⟩ | ⟨c7, h⟩
        · refine zg_icmp_lt (tgt := 29) (pc' := 24) zd_Ls_scrubbed_21 (by decide) rfl (fun _ => ?_) (fun q => absurd c7 q)
          refine zg_bipush (x := (-2 : Int32)) (pc' := 31) zd_Ls_scrubbed_29 (by decide) rfl ?_
          obtain ⟨rfl, rfl⟩ := rt_q h
          exact zg_iret zd_Ls_scrubbed_31 zrt_i
        · refine zg_icmp_lt (tgt := 29) (pc' := 24) zd_Ls_scrubbed_21 (by decide) rfl (fun q => absurd q c7) (fun _ => ?_)
          refine zg_iload_n (pc' := 25) zd_Ls_scrubbed_24 rfl rfl ?_
          refine zg_iconst (x := (3 : Int32)) (pc' := 26) zd_Ls_scrubbed_25 (by decide) rfl ?_
          rcases br_some h with ⟨c8, h⟩ | ⟨c8, h⟩
          · refine zg_icmp_le (tgt := 32) (pc' := 29) zd_Ls_scrubbed_26 (by decide) rfl (fun _ => ?_) (fun q => absurd c8 q)
            refine zg_iload_n (pc' := 33) zd_Ls_scrubbed_32 rfl rfl ?_
            refine zg_iload_n (pc' := 34) zd_Ls_scrubbed_33 rfl rfl ?_
            rcases br_some h with ⟨c9, h⟩ | ⟨c9, h⟩
            · refine zg_icmp_ge (tgt := 48) (pc' := 37) zd_Ls_scrubbed_34 (by decide) rfl (fun _ => ?_) (fun q => absurd c9 q)
              refine zg_bipush (x := (-5 : Int32)) (pc' := 50) zd_Ls_scrubbed_48 (by decide) rfl ?_
              obtain ⟨rfl, rfl⟩ := rt_q h
              exact zg_iret zd_Ls_scrubbed_50 zrt_i
            · refine zg_icmp_ge (tgt := 48) (pc' := 37) zd_Ls_scrubbed_34 (by decide) rfl (fun q => absurd q c9) (fun _ => ?_)
              refine zg_aload_n (pc' := 38) zd_Ls_scrubbed_37 rfl rfl ?_
              obtain ⟨g10, h⟩ := gd_some h
              refine zg_getR (pc' := 41) zf_Ls_74 rfl zd_Ls_scrubbed_38 (gT_ok g10) rfl ?_
              obtain ⟨g11, h⟩ := gd_some h
              refine zg_getI (pc' := 44) zf_Ls_92 zd_Ls_scrubbed_41 (gT_ok g11) rfl ?_
              refine zg_iload_n (pc' := 45) zd_Ls_scrubbed_44 rfl rfl ?_
              rcases br_some h with ⟨c12, h⟩ | ⟨c12, h⟩
              · refine zg_icmp_ge (tgt := 51) (pc' := 48) zd_Ls_scrubbed_45 (by decide) rfl (fun _ => ?_) (fun q => absurd c12 q)
                refine zg_aload_n (pc' := 52) zd_Ls_scrubbed_51 rfl rfl ?_
                refine zg_getR (pc' := 55) zf_Ls_40 rfl zd_Ls_scrubbed_52 (gT_ok g10) rfl ?_
                refine zg_aload_n (pc' := 56) zd_Ls_scrubbed_55 rfl rfl ?_
                refine zg_getR (pc' := 59) zf_Ls_74 rfl zd_Ls_scrubbed_56 (gT_ok g10) rfl ?_
                refine zg_iload_n (pc' := 60) zd_Ls_scrubbed_59 rfl rfl ?_
                refine zg_iload_n (pc' := 61) zd_Ls_scrubbed_60 rfl rfl ?_
                obtain ⟨g13, h⟩ := gd_some h
                obtain ⟨S14, e15, h⟩ := bv_some h
                refine zg_callV (ci := 6) (As := [.ref (zR S1 a0 7), .int a1, .int a2]) (rest := []) (pc' := 64) zl_Ls_219 zq634 zq635 ⟨_, rfl, rfl⟩ zd_Ls_scrubbed_61 rfl rfl (Nat.le_of_ble_eq_true rfl) (by omega) (gT_ok g13) (tm_Sc_choose (d := 65) (Nat.le_refl _) e15) rfl ?_
                refine zg_st (st' := []) rfl ?_
                refine zg_iload_n (pc' := 65) zd_Ls_scrubbed_64 rfl rfl ?_
                rcases br_some h with ⟨c16, h⟩ | ⟨c16, h⟩
                · refine zg_if_ge (tgt := 78) (pc' := 68) zd_Ls_scrubbed_65 (by decide) rfl (fun _ => ?_) (fun q => absurd c16 q)
                  refine zg_aload_n (pc' := 79) zd_Ls_scrubbed_78 rfl rfl ?_
                  obtain ⟨g17, h⟩ := gd_some h
                  refine zg_getR (pc' := 82) zf_Ls_40 rfl zd_Ls_scrubbed_79 (gT_ok g17) rfl ?_
                  obtain ⟨g18, h⟩ := gd_some h
                  refine zg_getR (pc' := 85) zf_Ls_226 rfl zd_Ls_scrubbed_82 (gT_ok g18) rfl ?_
                  refine zg_iload_n (pc' := 86) zd_Ls_scrubbed_85 rfl rfl ?_
                  obtain ⟨g19, h⟩ := gd_some h
                  obtain ⟨g20, h⟩ := gd_some h
                  refine zg_iald (pc' := 87) zd_Ls_scrubbed_86 (gT_ok g19) (gB_ok g20) rfl ?_
                  obtain ⟨rfl, rfl⟩ := rt_q h
                  exact zg_iret zd_Ls_scrubbed_87 zrt_i
                · refine zg_if_ge (tgt := 78) (pc' := 68) zd_Ls_scrubbed_65 (by decide) rfl (fun q => absurd q c16) (fun _ => ?_)
                  refine zg_aload_n (pc' := 69) zd_Ls_scrubbed_68 rfl rfl ?_
                  obtain ⟨g21, h⟩ := gd_some h
                  refine zg_getR (pc' := 72) zf_Ls_40 rfl zd_Ls_scrubbed_69 (gT_ok g21) rfl ?_
                  obtain ⟨g22, h⟩ := gd_some h
                  refine zg_getI (pc' := 75) zf_Ls_223 zd_Ls_scrubbed_72 (gT_ok g22) rfl ?_
                  refine zg_goto (tgt := 87) zd_Ls_scrubbed_75 (by decide) ?_
                  obtain ⟨rfl, rfl⟩ := rt_q h
                  exact zg_iret zd_Ls_scrubbed_87 zrt_i
              · refine zg_icmp_ge (tgt := 51) (pc' := 48) zd_Ls_scrubbed_45 (by decide) rfl (fun q => absurd q c12) (fun _ => ?_)
                refine zg_bipush (x := (-5 : Int32)) (pc' := 50) zd_Ls_scrubbed_48 (by decide) rfl ?_
                obtain ⟨rfl, rfl⟩ := rt_q h
                exact zg_iret zd_Ls_scrubbed_50 zrt_i
          · refine zg_icmp_le (tgt := 32) (pc' := 29) zd_Ls_scrubbed_26 (by decide) rfl (fun q => absurd q c8) (fun _ => ?_)
            refine zg_bipush (x := (-2 : Int32)) (pc' := 31) zd_Ls_scrubbed_29 (by decide) rfl ?_
            obtain ⟨rfl, rfl⟩ := rt_q h
            exact zg_iret zd_Ls_scrubbed_31 zrt_i
      · refine zg_icmp_lt (tgt := 19) (pc' := 17) zd_Ls_scrubbed_14 (by decide) rfl (fun q => absurd q c6) (fun _ => ?_)
        refine zg_iconst (x := (-1 : Int32)) (pc' := 18) zd_Ls_scrubbed_17 (by decide) rfl ?_
        obtain ⟨rfl, rfl⟩ := rt_q h
        exact zg_iret zd_Ls_scrubbed_18 zrt_i
theorem zd_Ls_see_0 : decode prog_1_method_17_code 0 = .ok (.iload_n 1, 1) := by decide +kernel
theorem zd_Ls_see_1 : decode prog_1_method_17_code 1 = .ok (.iconst (-1), 1) := by decide +kernel
theorem zd_Ls_see_2 : decode prog_1_method_17_code 2 = .ok (.if_icmp .ne 14, 3) := by decide +kernel
theorem zd_Ls_see_16 : decode prog_1_method_17_code 16 = .ok (.aload_n 0, 1) := by decide +kernel
theorem zd_Ls_see_17 : decode prog_1_method_17_code 17 = .ok (.getfield 74, 3) := by decide +kernel
theorem zd_Ls_see_20 : decode prog_1_method_17_code 20 = .ok (.iload_n 1, 1) := by decide +kernel
theorem zd_Ls_see_21 : decode prog_1_method_17_code 21 = .ok (.invokevirtual 103, 3) := by decide +kernel
theorem zd_Ls_see_24 : decode prog_1_method_17_code 24 = .ok (.ifCond .eq 10, 3) := by decide +kernel
theorem zd_Ls_see_27 : decode prog_1_method_17_code 27 = .ok (.iload_n 2, 1) := by decide +kernel
theorem zd_Ls_see_28 : decode prog_1_method_17_code 28 = .ok (.invokestatic 106, 3) := by decide +kernel
theorem zd_Ls_see_31 : decode prog_1_method_17_code 31 = .ok (.ifCond .ne 5, 3) := by decide +kernel
theorem zd_Ls_see_36 : decode prog_1_method_17_code 36 = .ok (.iload_n 3, 1) := by decide +kernel
theorem zd_Ls_see_37 : decode prog_1_method_17_code 37 = .ok (.invokestatic 89, 3) := by decide +kernel
theorem zd_Ls_see_40 : decode prog_1_method_17_code 40 = .ok (.ifCond .ne 6, 3) := by decide +kernel
theorem zd_Ls_see_46 : decode prog_1_method_17_code 46 = .ok (.aload_n 0, 1) := by decide +kernel
theorem zd_Ls_see_47 : decode prog_1_method_17_code 47 = .ok (.getfield 74, 3) := by decide +kernel
theorem zd_Ls_see_50 : decode prog_1_method_17_code 50 = .ok (.getfield 229, 3) := by decide +kernel
theorem zd_Ls_see_53 : decode prog_1_method_17_code 53 = .ok (.iload_n 1, 1) := by decide +kernel
theorem zd_Ls_see_54 : decode prog_1_method_17_code 54 = .ok (.iload_n 2, 1) := by decide +kernel
theorem zd_Ls_see_55 : decode prog_1_method_17_code 55 = .ok (.iload_n 3, 1) := by decide +kernel
theorem zd_Ls_see_56 : decode prog_1_method_17_code 56 = .ok (.invokevirtual 238, 3) := by decide +kernel
theorem zd_Ls_see_59 : decode prog_1_method_17_code 59 = .ok (.ireturn, 1) := by decide +kernel
theorem zd_Ls_see_43 : decode prog_1_method_17_code 43 = .ok (.bipush (-2), 2) := by decide +kernel
theorem zd_Ls_see_45 : decode prog_1_method_17_code 45 = .ok (.ireturn, 1) := by decide +kernel
theorem zd_Ls_see_34 : decode prog_1_method_17_code 34 = .ok (.iconst (-1), 1) := by decide +kernel
theorem zd_Ls_see_35 : decode prog_1_method_17_code 35 = .ok (.ireturn, 1) := by decide +kernel
theorem zd_Ls_see_5 : decode prog_1_method_17_code 5 = .ok (.aload_n 0, 1) := by decide +kernel
theorem zd_Ls_see_6 : decode prog_1_method_17_code 6 = .ok (.getfield 74, 3) := by decide +kernel
theorem zd_Ls_see_9 : decode prog_1_method_17_code 9 = .ok (.getfield 229, 3) := by decide +kernel
theorem zd_Ls_see_12 : decode prog_1_method_17_code 12 = .ok (.invokevirtual 233, 3) := by decide +kernel
theorem zd_Ls_see_15 : decode prog_1_method_17_code 15 = .ok (.ireturn, 1) := by decide +kernel
abbrev zm_Ls_see : zQ := ("LoofahSaints", prog_1_method_17_code, 4, (Option.some Jvm.ClassFile.FieldType.int), false)
set_option maxRecDepth 100000 in
def fn_Ls_see (a0 : Nat) (a1 : Int32) (a2 : Int32) (a3 : Int32) (S : zS) : Option (Int32 × zS) :=
  br (decide (a1 = (-1 : Int32))) (gd (gT S a0 109) <|
  gd (gT S (zR S a0 7) 101) <|
  gd (gT S (zR S (zR S a0 7) 3) 104) <|
  bq (fn_Rw_clear (zR S (zR S a0 7) 3) S) fun r27 S25 =>
  some (r27, S25)) <|
  gd (gT S a0 109) <|
  gd (gT S (zR S a0 7) 101) <|
  bq (fn_Ho_has (zR S a0 7) a1 S) fun r6 S4 =>
  br (decide (r6 = 0)) (some ((-1 : Int32), S4)) <|
  bq (fn_Ls_isNovice a2 S4) fun r10 S8 =>
  br (decide (r10 = 0)) (some ((-1 : Int32), S8)) <|
  bq (fn_Ls_isSet a3 S8) fun r14 S12 =>
  br (decide (r14 = 0)) (some ((-2 : Int32), S12)) <|
  gd (gT S12 a0 109) <|
  gd (gT S12 (zR S12 a0 7) 101) <|
  gd (gT S12 (zR S12 (zR S12 a0 7) 3) 104) <|
  bq (fn_Rw_add (zR S12 (zR S12 a0 7) 3) a1 a2 a3 S12) fun r21 S19 =>
  some (r21, S19)
set_option maxRecDepth 100000 in
set_option maxHeartbeats 4000000 in
theorem tm_Ls_see {X : zXt} {d : Nat} (hd : 3 ≤ d) {v : Int32} {a0 : Nat} {a1 : Int32} {a2 : Int32} {a3 : Int32} {S : zS} {S' : zS} (h : fn_Ls_see a0 a1 a2 a3 S = some (v, S')) : zM X zy_Ls_see prog_1_method_17_code 4 (Option.some Jvm.ClassFile.FieldType.int) d [.ref a0, .int a1, .int a2, .int a3] S (some (.int v)) S' := by
  refine zM_of (ini := false) (L := [some (.ref a0), some (.int a1), some (.int a2), some (.int a3)]) (plainFor_of_name (by decide)) (fun h => by cases h) (Nat.le_of_ble_eq_true rfl) rfl ?_
  unfold fn_Ls_see at h
  refine zg_iload_n (pc' := 1) zd_Ls_see_0 rfl rfl ?_
  refine zg_iconst (x := (-1 : Int32)) (pc' := 2) zd_Ls_see_1 (by decide) rfl ?_
  rcases br_some h with ⟨c1, h⟩ | ⟨c1, h⟩
  · refine zg_icmp_ne (tgt := 16) (pc' := 5) zd_Ls_see_2 (by decide) rfl (fun q => absurd c1 q) (fun _ => ?_)
    refine zg_aload_n (pc' := 6) zd_Ls_see_5 rfl rfl ?_
    obtain ⟨g22, h⟩ := gd_some h
    refine zg_getR (pc' := 9) zf_Ls_74 rfl zd_Ls_see_6 (gT_ok g22) rfl ?_
    obtain ⟨g23, h⟩ := gd_some h
    refine zg_getR (pc' := 12) zf_Ls_229 rfl zd_Ls_see_9 (gT_ok g23) rfl ?_
    obtain ⟨g24, h⟩ := gd_some h
    obtain ⟨r27, S25, e26, h⟩ := bq_some h
    refine zg_callV (ci := 4) (As := []) (rest := []) (pc' := 15) zl_Ls_233 zq650 zq651 ⟨_, rfl, rfl⟩ zd_Ls_see_12 rfl rfl (Nat.le_of_ble_eq_true rfl) (by omega) (gT_ok g24) (tm_Rw_clear (d := 2) (Nat.le_refl _) e26) rfl ?_
    refine zg_st (st' := [.int r27]) rfl ?_
    obtain ⟨rfl, rfl⟩ := rt_q h
    exact zg_iret zd_Ls_see_15 zrt_i
  · refine zg_icmp_ne (tgt := 16) (pc' := 5) zd_Ls_see_2 (by decide) rfl (fun _ => ?_) (fun q => absurd q c1)
    refine zg_aload_n (pc' := 17) zd_Ls_see_16 rfl rfl ?_
    obtain ⟨g2, h⟩ := gd_some h
    refine zg_getR (pc' := 20) zf_Ls_74 rfl zd_Ls_see_17 (gT_ok g2) rfl ?_
    refine zg_iload_n (pc' := 21) zd_Ls_see_20 rfl rfl ?_
    obtain ⟨g3, h⟩ := gd_some h
    obtain ⟨r6, S4, e5, h⟩ := bq_some h
    refine zg_callV (ci := 1) (As := [.int a1]) (rest := []) (pc' := 24) zl_Ls_103 zq345 zq346 ⟨_, rfl, rfl⟩ zd_Ls_see_21 rfl rfl (Nat.le_of_ble_eq_true rfl) (by omega) (gT_ok g3) (tm_Ho_has (d := 2) (Nat.le_refl _) e5) rfl ?_
    refine zg_st (st' := [.int r6]) rfl ?_
    rcases br_some h with ⟨c7, h⟩ | ⟨c7, h⟩
    · refine zg_if_eq (tgt := 34) (pc' := 27) zd_Ls_see_24 (by decide) rfl (fun _ => ?_) (fun q => absurd c7 q)
      refine zg_iconst (x := (-1 : Int32)) (pc' := 35) zd_Ls_see_34 (by decide) rfl ?_
      obtain ⟨rfl, rfl⟩ := rt_q h
      exact zg_iret zd_Ls_see_35 zrt_i
    · refine zg_if_eq (tgt := 34) (pc' := 27) zd_Ls_see_24 (by decide) rfl (fun q => absurd q c7) (fun _ => ?_)
      refine zg_iload_n (pc' := 28) zd_Ls_see_27 rfl rfl ?_
      obtain ⟨r10, S8, e9, h⟩ := bq_some h
      refine zg_callS (As := [.int a2]) (rest := []) (pc' := 31) zl_Ls_106 zq349 zd_Ls_see_28 rfl rfl (Nat.le_of_ble_eq_true rfl) (by omega) (tm_Ls_isNovice (d := 2) (Nat.le_refl _) e9) rfl ?_
      refine zg_st (st' := [.int r10]) rfl ?_
      rcases br_some h with ⟨c11, h⟩ | ⟨c11, h⟩
      · refine zg_if_ne (tgt := 36) (pc' := 34) zd_Ls_see_31 (by decide) rfl (fun q => absurd c11 q) (fun _ => ?_)
        refine zg_iconst (x := (-1 : Int32)) (pc' := 35) zd_Ls_see_34 (by decide) rfl ?_
        obtain ⟨rfl, rfl⟩ := rt_q h
        exact zg_iret zd_Ls_see_35 zrt_i
      · refine zg_if_ne (tgt := 36) (pc' := 34) zd_Ls_see_31 (by decide) rfl (fun _ => ?_) (fun q => absurd q c11)
        refine zg_iload_n (pc' := 37) zd_Ls_see_36 rfl rfl ?_
        obtain ⟨r14, S12, e13, h⟩ := bq_some h
        refine zg_callS (As := [.int a3]) (rest := []) (pc' := 40) zl_Ls_89 zq334 zd_Ls_see_37 rfl rfl (Nat.le_of_ble_eq_true rfl) (by omega) (tm_Ls_isSet (d := 2) (Nat.le_refl _) e13) rfl ?_
        refine zg_st (st' := [.int r14]) rfl ?_
        rcases br_some h with ⟨c15, h⟩ | ⟨c15, h⟩
        · refine zg_if_ne (tgt := 46) (pc' := 43) zd_Ls_see_40 (by decide) rfl (fun q => absurd c15 q) (fun _ => ?_)
          refine zg_bipush (x := (-2 : Int32)) (pc' := 45) zd_Ls_see_43 (by decide) rfl ?_
          obtain ⟨rfl, rfl⟩ := rt_q h
          exact zg_iret zd_Ls_see_45 zrt_i
        · refine zg_if_ne (tgt := 46) (pc' := 43) zd_Ls_see_40 (by decide) rfl (fun _ => ?_) (fun q => absurd q c15)
          refine zg_aload_n (pc' := 47) zd_Ls_see_46 rfl rfl ?_
          obtain ⟨g16, h⟩ := gd_some h
          refine zg_getR (pc' := 50) zf_Ls_74 rfl zd_Ls_see_47 (gT_ok g16) rfl ?_
          obtain ⟨g17, h⟩ := gd_some h
          refine zg_getR (pc' := 53) zf_Ls_229 rfl zd_Ls_see_50 (gT_ok g17) rfl ?_
          refine zg_iload_n (pc' := 54) zd_Ls_see_53 rfl rfl ?_
          refine zg_iload_n (pc' := 55) zd_Ls_see_54 rfl rfl ?_
          refine zg_iload_n (pc' := 56) zd_Ls_see_55 rfl rfl ?_
          obtain ⟨g18, h⟩ := gd_some h
          obtain ⟨r21, S19, e20, h⟩ := bq_some h
          refine zg_callV (ci := 4) (As := [.int a1, .int a2, .int a3]) (rest := []) (pc' := 59) zl_Ls_238 zq654 zq655 ⟨_, rfl, rfl⟩ zd_Ls_see_56 rfl rfl (Nat.le_of_ble_eq_true rfl) (by omega) (gT_ok g18) (tm_Rw_add (d := 2) (Nat.le_refl _) e20) rfl ?_
          refine zg_st (st' := [.int r21]) rfl ?_
          obtain ⟨rfl, rfl⟩ := rt_q h
          exact zg_iret zd_Ls_see_59 zrt_i
theorem zd_Ls_holed_0 : decode prog_1_method_18_code 0 = .ok (.aload_n 0, 1) := by decide +kernel
theorem zd_Ls_holed_1 : decode prog_1_method_18_code 1 = .ok (.getfield 74, 3) := by decide +kernel
theorem zd_Ls_holed_4 : decode prog_1_method_18_code 4 = .ok (.iload_n 1, 1) := by decide +kernel
theorem zd_Ls_holed_5 : decode prog_1_method_18_code 5 = .ok (.invokevirtual 103, 3) := by decide +kernel
theorem zd_Ls_holed_8 : decode prog_1_method_18_code 8 = .ok (.ifCond .eq 12, 3) := by decide +kernel
theorem zd_Ls_holed_11 : decode prog_1_method_18_code 11 = .ok (.iload_n 2, 1) := by decide +kernel
theorem zd_Ls_holed_12 : decode prog_1_method_18_code 12 = .ok (.ifCond .lt 8, 3) := by decide +kernel
theorem zd_Ls_holed_15 : decode prog_1_method_18_code 15 = .ok (.iload_n 2, 1) := by decide +kernel
theorem zd_Ls_holed_16 : decode prog_1_method_18_code 16 = .ok (.iconst 1, 1) := by decide +kernel
theorem zd_Ls_holed_17 : decode prog_1_method_18_code 17 = .ok (.if_icmp .le 5, 3) := by decide +kernel
theorem zd_Ls_holed_22 : decode prog_1_method_18_code 22 = .ok (.aload_n 0, 1) := by decide +kernel
theorem zd_Ls_holed_23 : decode prog_1_method_18_code 23 = .ok (.getfield 56, 3) := by decide +kernel
theorem zd_Ls_holed_26 : decode prog_1_method_18_code 26 = .ok (.aload_n 0, 1) := by decide +kernel
theorem zd_Ls_holed_27 : decode prog_1_method_18_code 27 = .ok (.getfield 74, 3) := by decide +kernel
theorem zd_Ls_holed_30 : decode prog_1_method_18_code 30 = .ok (.getfield 95, 3) := by decide +kernel
theorem zd_Ls_holed_33 : decode prog_1_method_18_code 33 = .ok (.iload_n 1, 1) := by decide +kernel
theorem zd_Ls_holed_34 : decode prog_1_method_18_code 34 = .ok (.aaload, 1) := by decide +kernel
theorem zd_Ls_holed_35 : decode prog_1_method_18_code 35 = .ok (.invokevirtual 242, 3) := by decide +kernel
theorem zd_Ls_holed_38 : decode prog_1_method_18_code 38 = .ok (.aload_n 0, 1) := by decide +kernel
theorem zd_Ls_holed_39 : decode prog_1_method_18_code 39 = .ok (.getfield 56, 3) := by decide +kernel
theorem zd_Ls_holed_42 : decode prog_1_method_18_code 42 = .ok (.aload_n 0, 1) := by decide +kernel
theorem zd_Ls_holed_43 : decode prog_1_method_18_code 43 = .ok (.getfield 74, 3) := by decide +kernel
theorem zd_Ls_holed_46 : decode prog_1_method_18_code 46 = .ok (.getfield 135, 3) := by decide +kernel
theorem zd_Ls_holed_49 : decode prog_1_method_18_code 49 = .ok (.aload_n 0, 1) := by decide +kernel
theorem zd_Ls_holed_50 : decode prog_1_method_18_code 50 = .ok (.getfield 74, 3) := by decide +kernel
theorem zd_Ls_holed_53 : decode prog_1_method_18_code 53 = .ok (.getfield 139, 3) := by decide +kernel
theorem zd_Ls_holed_56 : decode prog_1_method_18_code 56 = .ok (.invokevirtual 142, 3) := by decide +kernel
theorem zd_Ls_holed_59 : decode prog_1_method_18_code 59 = .ok (.istore_n 3, 1) := by decide +kernel
theorem zd_Ls_holed_60 : decode prog_1_method_18_code 60 = .ok (.iconst 0, 1) := by decide +kernel
theorem zd_Ls_holed_61 : decode prog_1_method_18_code 61 = .ok (.istore 4, 2) := by decide +kernel
theorem zd_Ls_holed_63 : decode prog_1_method_18_code 63 = .ok (.bipush (-5), 2) := by decide +kernel
theorem zd_Ls_holed_65 : decode prog_1_method_18_code 65 = .ok (.istore 5, 2) := by decide +kernel
theorem zd_Ls_holed_67 : decode prog_1_method_18_code 67 = .ok (.iconst 0, 1) := by decide +kernel
theorem zd_Ls_holed_68 : decode prog_1_method_18_code 68 = .ok (.istore 6, 2) := by decide +kernel
theorem zd_Ls_holed_70 : decode prog_1_method_18_code 70 = .ok (.iload 6, 2) := by decide +kernel
theorem zd_Ls_holed_72 : decode prog_1_method_18_code 72 = .ok (.sipush 4096, 3) := by decide +kernel
theorem zd_Ls_holed_75 : decode prog_1_method_18_code 75 = .ok (.if_icmp .ge 49, 3) := by decide +kernel
theorem zd_Ls_holed_124 : decode prog_1_method_18_code 124 = .ok (.iload_n 2, 1) := by decide +kernel
theorem zd_Ls_holed_125 : decode prog_1_method_18_code 125 = .ok (.ifCond .ne 8, 3) := by decide +kernel
theorem zd_Ls_holed_133 : decode prog_1_method_18_code 133 = .ok (.iload 5, 2) := by decide +kernel
theorem zd_Ls_holed_128 : decode prog_1_method_18_code 128 = .ok (.iload 4, 2) := by decide +kernel
theorem zd_Ls_holed_130 : decode prog_1_method_18_code 130 = .ok (.goto 5, 3) := by decide +kernel
theorem zd_Ls_holed_135 : decode prog_1_method_18_code 135 = .ok (.ireturn, 1) := by decide +kernel
theorem zd_Ls_holed_78 : decode prog_1_method_18_code 78 = .ok (.aload_n 0, 1) := by decide +kernel
theorem zd_Ls_holed_79 : decode prog_1_method_18_code 79 = .ok (.getfield 56, 3) := by decide +kernel
theorem zd_Ls_holed_82 : decode prog_1_method_18_code 82 = .ok (.iload 6, 2) := by decide +kernel
theorem zd_Ls_holed_84 : decode prog_1_method_18_code 84 = .ok (.putfield 119, 3) := by decide +kernel
theorem zd_Ls_holed_87 : decode prog_1_method_18_code 87 = .ok (.aload_n 0, 1) := by decide +kernel
theorem zd_Ls_holed_88 : decode prog_1_method_18_code 88 = .ok (.getfield 74, 3) := by decide +kernel
theorem zd_Ls_holed_91 : decode prog_1_method_18_code 91 = .ok (.iload_n 1, 1) := by decide +kernel
theorem zd_Ls_holed_92 : decode prog_1_method_18_code 92 = .ok (.aload_n 0, 1) := by decide +kernel
theorem zd_Ls_holed_93 : decode prog_1_method_18_code 93 = .ok (.getfield 56, 3) := by decide +kernel
theorem zd_Ls_holed_96 : decode prog_1_method_18_code 96 = .ok (.iload_n 3, 1) := by decide +kernel
theorem zd_Ls_holed_97 : decode prog_1_method_18_code 97 = .ok (.invokevirtual 245, 3) := by decide +kernel
theorem zd_Ls_holed_100 : decode prog_1_method_18_code 100 = .ok (.ifCond .ne 6, 3) := by decide +kernel
theorem zd_Ls_holed_106 : decode prog_1_method_18_code 106 = .ok (.iload 4, 2) := by decide +kernel
theorem zd_Ls_holed_108 : decode prog_1_method_18_code 108 = .ok (.ifCond .ne 7, 3) := by decide +kernel
theorem zd_Ls_holed_111 : decode prog_1_method_18_code 111 = .ok (.iload 6, 2) := by decide +kernel
theorem zd_Ls_holed_113 : decode prog_1_method_18_code 113 = .ok (.istore 5, 2) := by decide +kernel
theorem zd_Ls_holed_115 : decode prog_1_method_18_code 115 = .ok (.iinc 4 1, 3) := by decide +kernel
theorem zd_Ls_holed_103 : decode prog_1_method_18_code 103 = .ok (.goto 15, 3) := by decide +kernel
theorem zd_Ls_holed_118 : decode prog_1_method_18_code 118 = .ok (.iinc 6 1, 3) := by decide +kernel
theorem zd_Ls_holed_121 : decode prog_1_method_18_code 121 = .ok (.goto (-51), 3) := by decide +kernel
theorem zd_Ls_holed_20 : decode prog_1_method_18_code 20 = .ok (.iconst (-1), 1) := by decide +kernel
theorem zd_Ls_holed_21 : decode prog_1_method_18_code 21 = .ok (.ireturn, 1) := by decide +kernel
abbrev zm_Ls_holed : zQ := ("LoofahSaints", prog_1_method_18_code, 7, (Option.some Jvm.ClassFile.FieldType.int), false)
set_option maxRecDepth 100000 in
def fn_Ls_holed_L70 (a0 : Nat) (a1 : Int32) (a2 : Int32) (a3 : Int32) (a4 : Int32) (a5 : Int32) (a6 : Int32) (S : zS) (K70 : Nat → Int32 → Int32 → Int32 → Int32 → Int32 → Int32 → zS → Option (Int32 × zS)) : Option (Int32 × zS) :=
  br (decide ((4096 : Int32) ≤ a6)) (br (decide (a2 = 0)) (some (a4, S)) <|
  some (a5, S)) <|
  gd (gT S a0 109) <|
  gd (gT S (zR S a0 6) 105) <|
  nm (uI S (zR S a0 6) 4 a6) fun S5 =>
  gd (gT S5 a0 109) <|
  gd (gT S5 (zR S5 a0 7) 101) <|
  bq (fn_Ho_isAsSeen (zR S5 a0 7) a1 (zR S5 a0 6) a3 S5) fun r10 S8 =>
  br (decide (r10 = 0)) (K70 a0 a1 a2 a3 a4 a5 (a6 + (1 : Int32)) S8) <|
  br (decide (a4 = 0)) (K70 a0 a1 a2 a3 (a4 + (1 : Int32)) a6 (a6 + (1 : Int32)) S8) <|
  K70 a0 a1 a2 a3 (a4 + (1 : Int32)) a5 (a6 + (1 : Int32)) S8
set_option maxRecDepth 100000 in
set_option maxHeartbeats 4000000 in
theorem tm_Ls_holed_L70 {X : zXt} {d : Nat} (hd : 5 ≤ d) {v : Int32} {S' : zS}  {K70 : Nat → Int32 → Int32 → Int32 → Int32 → Int32 → Int32 → zS → Option (Int32 × zS)} (hK70 : ∀ (a0 : Nat) (a1 : Int32) (a2 : Int32) (a3 : Int32) (a4 : Int32) (a5 : Int32) (a6 : Int32) (S : zS), K70 a0 a1 a2 a3 a4 a5 a6 S = some (v, S') → zG X zm_Ls_holed d 70 [some (.ref a0), some (.int a1), some (.int a2), some (.int a3), some (.int a4), some (.int a5), some (.int a6)] [] S (some (.int v)) S') {a0 : Nat} {a1 : Int32} {a2 : Int32} {a3 : Int32} {a4 : Int32} {a5 : Int32} {a6 : Int32} {S : zS} (h : fn_Ls_holed_L70 a0 a1 a2 a3 a4 a5 a6 S K70 = some (v, S')) : zG X zm_Ls_holed d 70 [some (.ref a0), some (.int a1), some (.int a2), some (.int a3), some (.int a4), some (.int a5), some (.int a6)] [] S (some (.int v)) S' := by
  unfold fn_Ls_holed_L70 at h
  refine zg_iload (pc' := 72) zd_Ls_holed_70 rfl rfl ?_
  refine zg_sipush (x := (4096 : Int32)) (pc' := 75) zd_Ls_holed_72 (by decide) rfl ?_
  rcases br_some h with ⟨c1, h⟩ | ⟨c1, h⟩
  · refine zg_icmp_ge (tgt := 124) (pc' := 78) zd_Ls_holed_75 (by decide) rfl (fun _ => ?_) (fun q => absurd c1 q)
    refine zg_iload_n (pc' := 125) zd_Ls_holed_124 rfl rfl ?_
    rcases br_some h with ⟨c2, h⟩ | ⟨c2, h⟩
    · refine zg_if_ne (tgt := 133) (pc' := 128) zd_Ls_holed_125 (by decide) rfl (fun q => absurd c2 q) (fun _ => ?_)
      refine zg_iload (pc' := 130) zd_Ls_holed_128 rfl rfl ?_
      refine zg_goto (tgt := 135) zd_Ls_holed_130 (by decide) ?_
      obtain ⟨rfl, rfl⟩ := rt_q h
      exact zg_iret zd_Ls_holed_135 zrt_i
    · refine zg_if_ne (tgt := 133) (pc' := 128) zd_Ls_holed_125 (by decide) rfl (fun _ => ?_) (fun q => absurd q c2)
      refine zg_iload (pc' := 135) zd_Ls_holed_133 rfl rfl ?_
      obtain ⟨rfl, rfl⟩ := rt_q h
      exact zg_iret zd_Ls_holed_135 zrt_i
  · refine zg_icmp_ge (tgt := 124) (pc' := 78) zd_Ls_holed_75 (by decide) rfl (fun q => absurd q c1) (fun _ => ?_)
    refine zg_aload_n (pc' := 79) zd_Ls_holed_78 rfl rfl ?_
    obtain ⟨g3, h⟩ := gd_some h
    refine zg_getR (pc' := 82) zf_Ls_56 rfl zd_Ls_holed_79 (gT_ok g3) rfl ?_
    refine zg_iload (pc' := 84) zd_Ls_holed_82 rfl rfl ?_
    obtain ⟨g4, h⟩ := gd_some h
    refine zg_putI (pc' := 87) zf_Ls_119 zd_Ls_holed_84 (Or.inl rfl) (gT_ok g4) rfl ?_
    obtain ⟨S5, eS5, h⟩ := nm_some h
    refine zg_nm eS5 ?_
    refine zg_aload_n (pc' := 88) zd_Ls_holed_87 rfl rfl ?_
    obtain ⟨g6, h⟩ := gd_some h
    refine zg_getR (pc' := 91) zf_Ls_74 rfl zd_Ls_holed_88 (gT_ok g6) rfl ?_
    refine zg_iload_n (pc' := 92) zd_Ls_holed_91 rfl rfl ?_
    refine zg_aload_n (pc' := 93) zd_Ls_holed_92 rfl rfl ?_
    refine zg_getR (pc' := 96) zf_Ls_56 rfl zd_Ls_holed_93 (gT_ok g6) rfl ?_
    refine zg_iload_n (pc' := 97) zd_Ls_holed_96 rfl rfl ?_
    obtain ⟨g7, h⟩ := gd_some h
    obtain ⟨r10, S8, e9, h⟩ := bq_some h
    refine zg_callV (ci := 1) (As := [.int a1, .ref (zR S5 a0 6), .int a3]) (rest := []) (pc' := 100) zl_Ls_245 zq663 zq664 ⟨_, rfl, rfl⟩ zd_Ls_holed_97 rfl rfl (Nat.le_of_ble_eq_true rfl) (by omega) (gT_ok g7) (tm_Ho_isAsSeen (d := 4) (Nat.le_refl _) e9) rfl ?_
    refine zg_st (st' := [.int r10]) rfl ?_
    rcases br_some h with ⟨c11, h⟩ | ⟨c11, h⟩
    · refine zg_if_ne (tgt := 106) (pc' := 103) zd_Ls_holed_100 (by decide) rfl (fun q => absurd c11 q) (fun _ => ?_)
      refine zg_goto (tgt := 118) zd_Ls_holed_103 (by decide) ?_
      refine zg_iinc (y := (a6 + (1 : Int32))) (L' := [some (.ref a0), some (.int a1), some (.int a2), some (.int a3), some (.int a4), some (.int a5), some (.int (a6 + (1 : Int32)))]) (pc' := 121) zd_Ls_holed_118 rfl rfl (by decide) rfl rfl ?_
      refine zg_goto (tgt := 70) zd_Ls_holed_121 (by decide) ?_
      exact hK70 _ _ _ _ _ _ _ _ h
    · refine zg_if_ne (tgt := 106) (pc' := 103) zd_Ls_holed_100 (by decide) rfl (fun _ => ?_) (fun q => absurd q c11)
      refine zg_iload (pc' := 108) zd_Ls_holed_106 rfl rfl ?_
      rcases br_some h with ⟨c12, h⟩ | ⟨c12, h⟩
      · refine zg_if_ne (tgt := 115) (pc' := 111) zd_Ls_holed_108 (by decide) rfl (fun q => absurd c12 q) (fun _ => ?_)
        refine zg_iload (pc' := 113) zd_Ls_holed_111 rfl rfl ?_
        refine zg_istore (L' := [some (.ref a0), some (.int a1), some (.int a2), some (.int a3), some (.int a4), some (.int a6), some (.int a6)]) (pc' := 115) zd_Ls_holed_113 (by decide) rfl rfl ?_
        refine zg_iinc (y := (a4 + (1 : Int32))) (L' := [some (.ref a0), some (.int a1), some (.int a2), some (.int a3), some (.int (a4 + (1 : Int32))), some (.int a6), some (.int a6)]) (pc' := 118) zd_Ls_holed_115 rfl rfl (by decide) rfl rfl ?_
        refine zg_iinc (y := (a6 + (1 : Int32))) (L' := [some (.ref a0), some (.int a1), some (.int a2), some (.int a3), some (.int (a4 + (1 : Int32))), some (.int a6), some (.int (a6 + (1 : Int32)))]) (pc' := 121) zd_Ls_holed_118 rfl rfl (by decide) rfl rfl ?_
        refine zg_goto (tgt := 70) zd_Ls_holed_121 (by decide) ?_
        exact hK70 _ _ _ _ _ _ _ _ h
      · refine zg_if_ne (tgt := 115) (pc' := 111) zd_Ls_holed_108 (by decide) rfl (fun _ => ?_) (fun q => absurd q c12)
        refine zg_iinc (y := (a4 + (1 : Int32))) (L' := [some (.ref a0), some (.int a1), some (.int a2), some (.int a3), some (.int (a4 + (1 : Int32))), some (.int a5), some (.int a6)]) (pc' := 118) zd_Ls_holed_115 rfl rfl (by decide) rfl rfl ?_
        refine zg_iinc (y := (a6 + (1 : Int32))) (L' := [some (.ref a0), some (.int a1), some (.int a2), some (.int a3), some (.int (a4 + (1 : Int32))), some (.int a5), some (.int (a6 + (1 : Int32)))]) (pc' := 121) zd_Ls_holed_118 rfl rfl (by decide) rfl rfl ?_
        refine zg_goto (tgt := 70) zd_Ls_holed_121 (by decide) ?_
        exact hK70 _ _ _ _ _ _ _ _ h
set_option maxRecDepth 100000 in
def fn_Ls_holed (a0 : Nat) (a1 : Int32) (a2 : Int32) (S : zS) : Option (Int32 × zS) :=
  gd (gT S a0 109) <|
  gd (gT S (zR S a0 7) 101) <|
  bq (fn_Ho_has (zR S a0 7) a1 S) fun r5 S3 =>
  br (decide (r5 = 0)) (some ((-1 : Int32), S3)) <|
  br (decide (a2 < 0)) (some ((-1 : Int32), S3)) <|
  br (decide (a2 ≤ (1 : Int32))) (gd (gT S3 a0 109) <|
  gd (gT S3 (zR S3 a0 7) 101) <|
  gd (gT S3 (zR S3 (zR S3 a0 7) 0) 6) <|
  gd (gB a1 (zT S3 (zR S3 (zR S3 a0 7) 0)).2) <|
  gd (gT S3 (zR S3 a0 6) 105) <|
  bv (fn_Sa_copy (zR S3 a0 6) (zR S3 (zR S3 (zR S3 a0 7) 0) a1.toNatClampNeg) S3) fun S14 =>
  gd (gT S14 a0 109) <|
  gd (gT S14 (zR S14 a0 7) 101) <|
  gd (gT S14 (zR S14 a0 6) 105) <|
  bq (fn_Sa_grit (zR S14 a0 6) (zR S14 (zR S14 a0 7) 8) (zI S14 (zR S14 a0 7) 7) S14) fun r21 S19 =>
  lp (σ := Nat × Int32 × Int32 × Int32 × Int32 × Int32 × Int32 × zS) (fun k s => fn_Ls_holed_L70 s.1 s.2.1 s.2.2.1 s.2.2.2.1 s.2.2.2.2.1 s.2.2.2.2.2.1 s.2.2.2.2.2.2.1 s.2.2.2.2.2.2.2 (fun (a0 : Nat) (a1 : Int32) (a2 : Int32) (a3 : Int32) (a4 : Int32) (a5 : Int32) (a6 : Int32) (S : zS) => k (a0, a1, a2, a3, a4, a5, a6, S))) FU (a0, a1, a2, r21, (0 : Int32), (-5 : Int32), (0 : Int32), S19)) <|
  some ((-1 : Int32), S3)
set_option maxRecDepth 100000 in
set_option maxHeartbeats 4000000 in
theorem tm_Ls_holed {X : zXt} {d : Nat} (hd : 5 ≤ d) {v : Int32} {a0 : Nat} {a1 : Int32} {a2 : Int32} {S : zS} {S' : zS} (h : fn_Ls_holed a0 a1 a2 S = some (v, S')) : zM X zy_Ls_holed prog_1_method_18_code 7 (Option.some Jvm.ClassFile.FieldType.int) d [.ref a0, .int a1, .int a2] S (some (.int v)) S' := by
  refine zM_of (ini := false) (L := [some (.ref a0), some (.int a1), some (.int a2), none, none, none, none]) (plainFor_of_name (by decide)) (fun h => by cases h) (Nat.le_of_ble_eq_true rfl) rfl ?_
  unfold fn_Ls_holed at h
  refine zg_aload_n (pc' := 1) zd_Ls_holed_0 rfl rfl ?_
  obtain ⟨g1, h⟩ := gd_some h
  refine zg_getR (pc' := 4) zf_Ls_74 rfl zd_Ls_holed_1 (gT_ok g1) rfl ?_
  refine zg_iload_n (pc' := 5) zd_Ls_holed_4 rfl rfl ?_
  obtain ⟨g2, h⟩ := gd_some h
  obtain ⟨r5, S3, e4, h⟩ := bq_some h
  refine zg_callV (ci := 1) (As := [.int a1]) (rest := []) (pc' := 8) zl_Ls_103 zq345 zq346 ⟨_, rfl, rfl⟩ zd_Ls_holed_5 rfl rfl (Nat.le_of_ble_eq_true rfl) (by omega) (gT_ok g2) (tm_Ho_has (d := 2) (Nat.le_refl _) e4) rfl ?_
  refine zg_st (st' := [.int r5]) rfl ?_
  rcases br_some h with ⟨c6, h⟩ | ⟨c6, h⟩
  · refine zg_if_eq (tgt := 20) (pc' := 11) zd_Ls_holed_8 (by decide) rfl (fun _ => ?_) (fun q => absurd c6 q)
    refine zg_iconst (x := (-1 : Int32)) (pc' := 21) zd_Ls_holed_20 (by decide) rfl ?_
    obtain ⟨rfl, rfl⟩ := rt_q h
    exact zg_iret zd_Ls_holed_21 zrt_i
  · refine zg_if_eq (tgt := 20) (pc' := 11) zd_Ls_holed_8 (by decide) rfl (fun q => absurd q c6) (fun _ => ?_)
    refine zg_iload_n (pc' := 12) zd_Ls_holed_11 rfl rfl ?_
    rcases br_some h with ⟨c7, h⟩ | ⟨c7, h⟩
    · refine zg_if_lt (tgt := 20) (pc' := 15) zd_Ls_holed_12 (by decide) rfl (fun _ => ?_) (fun q => absurd c7 q)
      refine zg_iconst (x := (-1 : Int32)) (pc' := 21) zd_Ls_holed_20 (by decide) rfl ?_
      obtain ⟨rfl, rfl⟩ := rt_q h
      exact zg_iret zd_Ls_holed_21 zrt_i
    · refine zg_if_lt (tgt := 20) (pc' := 15) zd_Ls_holed_12 (by decide) rfl (fun q => absurd q c7) (fun _ => ?_)
      refine zg_iload_n (pc' := 16) zd_Ls_holed_15 rfl rfl ?_
      refine zg_iconst (x := (1 : Int32)) (pc' := 17) zd_Ls_holed_16 (by decide) rfl ?_
      rcases br_some h with ⟨c8, h⟩ | ⟨c8, h⟩
      · refine zg_icmp_le (tgt := 22) (pc' := 20) zd_Ls_holed_17 (by decide) rfl (fun _ => ?_) (fun q => absurd c8 q)
        refine zg_aload_n (pc' := 23) zd_Ls_holed_22 rfl rfl ?_
        obtain ⟨g9, h⟩ := gd_some h
        refine zg_getR (pc' := 26) zf_Ls_56 rfl zd_Ls_holed_23 (gT_ok g9) rfl ?_
        refine zg_aload_n (pc' := 27) zd_Ls_holed_26 rfl rfl ?_
        refine zg_getR (pc' := 30) zf_Ls_74 rfl zd_Ls_holed_27 (gT_ok g9) rfl ?_
        obtain ⟨g10, h⟩ := gd_some h
        refine zg_getR (pc' := 33) zf_Ls_95 rfl zd_Ls_holed_30 (gT_ok g10) rfl ?_
        refine zg_iload_n (pc' := 34) zd_Ls_holed_33 rfl rfl ?_
        obtain ⟨g11, h⟩ := gd_some h
        obtain ⟨g12, h⟩ := gd_some h
        refine zg_aald (t := 6) (pc' := 35) (by decide) zd_Ls_holed_34 (gT_ok g11) (gB_ok g12) rfl ?_
        obtain ⟨g13, h⟩ := gd_some h
        obtain ⟨S14, e15, h⟩ := bv_some h
        refine zg_callV (ci := 5) (As := [.ref (zR S3 (zR S3 (zR S3 a0 7) 0) a1.toNatClampNeg)]) (rest := []) (pc' := 38) zl_Ls_242 zq552 zq553 ⟨_, rfl, rfl⟩ zd_Ls_holed_35 rfl rfl (Nat.le_of_ble_eq_true rfl) (by omega) (gT_ok g13) (tm_Sa_copy (d := 2) (Nat.le_refl _) e15) rfl ?_
        refine zg_st (st' := []) rfl ?_
        refine zg_aload_n (pc' := 39) zd_Ls_holed_38 rfl rfl ?_
        obtain ⟨g16, h⟩ := gd_some h
        refine zg_getR (pc' := 42) zf_Ls_56 rfl zd_Ls_holed_39 (gT_ok g16) rfl ?_
        refine zg_aload_n (pc' := 43) zd_Ls_holed_42 rfl rfl ?_
        refine zg_getR (pc' := 46) zf_Ls_74 rfl zd_Ls_holed_43 (gT_ok g16) rfl ?_
        obtain ⟨g17, h⟩ := gd_some h
        refine zg_getR (pc' := 49) zf_Ls_135 rfl zd_Ls_holed_46 (gT_ok g17) rfl ?_
        refine zg_aload_n (pc' := 50) zd_Ls_holed_49 rfl rfl ?_
        refine zg_getR (pc' := 53) zf_Ls_74 rfl zd_Ls_holed_50 (gT_ok g16) rfl ?_
        refine zg_getI (pc' := 56) zf_Ls_139 zd_Ls_holed_53 (gT_ok g17) rfl ?_
        obtain ⟨g18, h⟩ := gd_some h
        obtain ⟨r21, S19, e20, h⟩ := bq_some h
        refine zg_callV (ci := 5) (As := [.ref (zR S14 (zR S14 a0 7) 8), .int (zI S14 (zR S14 a0 7) 7)]) (rest := []) (pc' := 59) zl_Ls_142 zq356 zq357 ⟨_, rfl, rfl⟩ zd_Ls_holed_56 rfl rfl (Nat.le_of_ble_eq_true rfl) (by omega) (gT_ok g18) (tm_Sa_grit (d := 4) (Nat.le_refl _) e20) rfl ?_
        refine zg_st (st' := [.int r21]) rfl ?_
        refine zg_istore_n (L' := [some (.ref a0), some (.int a1), some (.int a2), some (.int r21), none, none, none]) (pc' := 60) zd_Ls_holed_59 (by decide) rfl rfl ?_
        refine zg_iconst (x := (0 : Int32)) (pc' := 61) zd_Ls_holed_60 (by decide) rfl ?_
        refine zg_istore (L' := [some (.ref a0), some (.int a1), some (.int a2), some (.int r21), some (.int (0 : Int32)), none, none]) (pc' := 63) zd_Ls_holed_61 (by decide) rfl rfl ?_
        refine zg_bipush (x := (-5 : Int32)) (pc' := 65) zd_Ls_holed_63 (by decide) rfl ?_
        refine zg_istore (L' := [some (.ref a0), some (.int a1), some (.int a2), some (.int r21), some (.int (0 : Int32)), some (.int (-5 : Int32)), none]) (pc' := 67) zd_Ls_holed_65 (by decide) rfl rfl ?_
        refine zg_iconst (x := (0 : Int32)) (pc' := 68) zd_Ls_holed_67 (by decide) rfl ?_
        refine zg_istore (L' := [some (.ref a0), some (.int a1), some (.int a2), some (.int r21), some (.int (0 : Int32)), some (.int (-5 : Int32)), some (.int (0 : Int32))]) (pc' := 70) zd_Ls_holed_68 (by decide) rfl rfl ?_
        exact lp_indh h (P := fun s => zG X zm_Ls_holed d 70 [some (.ref (s.1)), some (.int (s.2.1)), some (.int (s.2.2.1)), some (.int (s.2.2.2.1)), some (.int (s.2.2.2.2.1)), some (.int (s.2.2.2.2.2.1)), some (.int (s.2.2.2.2.2.2.1))] [] (s.2.2.2.2.2.2.2) (some (.int v)) S') (fun k hk s h => tm_Ls_holed_L70 hd (fun a0 a1 a2 a3 a4 a5 a6 S h => hk (a0, a1, a2, a3, a4, a5, a6, S) h) h)
      · refine zg_icmp_le (tgt := 22) (pc' := 20) zd_Ls_holed_17 (by decide) rfl (fun q => absurd q c8) (fun _ => ?_)
        refine zg_iconst (x := (-1 : Int32)) (pc' := 21) zd_Ls_holed_20 (by decide) rfl ?_
        obtain ⟨rfl, rfl⟩ := rt_q h
        exact zg_iret zd_Ls_holed_21 zrt_i
theorem zd_Ls_can_0 : decode prog_1_method_19_code 0 = .ok (.aload_n 0, 1) := by decide +kernel
theorem zd_Ls_can_1 : decode prog_1_method_19_code 1 = .ok (.getfield 74, 3) := by decide +kernel
theorem zd_Ls_can_4 : decode prog_1_method_19_code 4 = .ok (.iload_n 1, 1) := by decide +kernel
theorem zd_Ls_can_5 : decode prog_1_method_19_code 5 = .ok (.invokevirtual 103, 3) := by decide +kernel
theorem zd_Ls_can_8 : decode prog_1_method_19_code 8 = .ok (.ifCond .eq 12, 3) := by decide +kernel
theorem zd_Ls_can_11 : decode prog_1_method_19_code 11 = .ok (.iload_n 2, 1) := by decide +kernel
theorem zd_Ls_can_12 : decode prog_1_method_19_code 12 = .ok (.ifCond .lt 8, 3) := by decide +kernel
theorem zd_Ls_can_15 : decode prog_1_method_19_code 15 = .ok (.iload_n 2, 1) := by decide +kernel
theorem zd_Ls_can_16 : decode prog_1_method_19_code 16 = .ok (.iconst 1, 1) := by decide +kernel
theorem zd_Ls_can_17 : decode prog_1_method_19_code 17 = .ok (.if_icmp .le 5, 3) := by decide +kernel
theorem zd_Ls_can_22 : decode prog_1_method_19_code 22 = .ok (.aload_n 0, 1) := by decide +kernel
theorem zd_Ls_can_23 : decode prog_1_method_19_code 23 = .ok (.getfield 56, 3) := by decide +kernel
theorem zd_Ls_can_26 : decode prog_1_method_19_code 26 = .ok (.aload_n 0, 1) := by decide +kernel
theorem zd_Ls_can_27 : decode prog_1_method_19_code 27 = .ok (.getfield 74, 3) := by decide +kernel
theorem zd_Ls_can_30 : decode prog_1_method_19_code 30 = .ok (.getfield 95, 3) := by decide +kernel
theorem zd_Ls_can_33 : decode prog_1_method_19_code 33 = .ok (.iload_n 1, 1) := by decide +kernel
theorem zd_Ls_can_34 : decode prog_1_method_19_code 34 = .ok (.aaload, 1) := by decide +kernel
theorem zd_Ls_can_35 : decode prog_1_method_19_code 35 = .ok (.invokevirtual 242, 3) := by decide +kernel
theorem zd_Ls_can_38 : decode prog_1_method_19_code 38 = .ok (.iconst 0, 1) := by decide +kernel
theorem zd_Ls_can_39 : decode prog_1_method_19_code 39 = .ok (.istore_n 3, 1) := by decide +kernel
theorem zd_Ls_can_40 : decode prog_1_method_19_code 40 = .ok (.bipush (-5), 2) := by decide +kernel
theorem zd_Ls_can_42 : decode prog_1_method_19_code 42 = .ok (.istore 4, 2) := by decide +kernel
theorem zd_Ls_can_44 : decode prog_1_method_19_code 44 = .ok (.iconst 0, 1) := by decide +kernel
theorem zd_Ls_can_45 : decode prog_1_method_19_code 45 = .ok (.istore 5, 2) := by decide +kernel
theorem zd_Ls_can_47 : decode prog_1_method_19_code 47 = .ok (.iload 5, 2) := by decide +kernel
theorem zd_Ls_can_49 : decode prog_1_method_19_code 49 = .ok (.bipush 10, 2) := by decide +kernel
theorem zd_Ls_can_51 : decode prog_1_method_19_code 51 = .ok (.if_icmp .ge 68, 3) := by decide +kernel
theorem zd_Ls_can_119 : decode prog_1_method_19_code 119 = .ok (.iload_n 2, 1) := by decide +kernel
theorem zd_Ls_can_120 : decode prog_1_method_19_code 120 = .ok (.ifCond .ne 7, 3) := by decide +kernel
theorem zd_Ls_can_127 : decode prog_1_method_19_code 127 = .ok (.iload 4, 2) := by decide +kernel
theorem zd_Ls_can_123 : decode prog_1_method_19_code 123 = .ok (.iload_n 3, 1) := by decide +kernel
theorem zd_Ls_can_124 : decode prog_1_method_19_code 124 = .ok (.goto 5, 3) := by decide +kernel
theorem zd_Ls_can_129 : decode prog_1_method_19_code 129 = .ok (.ireturn, 1) := by decide +kernel
theorem zd_Ls_can_54 : decode prog_1_method_19_code 54 = .ok (.aload_n 0, 1) := by decide +kernel
theorem zd_Ls_can_55 : decode prog_1_method_19_code 55 = .ok (.getfield 56, 3) := by decide +kernel
theorem zd_Ls_can_58 : decode prog_1_method_19_code 58 = .ok (.iload 5, 2) := by decide +kernel
theorem zd_Ls_can_60 : decode prog_1_method_19_code 60 = .ok (.putfield 116, 3) := by decide +kernel
theorem zd_Ls_can_63 : decode prog_1_method_19_code 63 = .ok (.aload_n 0, 1) := by decide +kernel
theorem zd_Ls_can_64 : decode prog_1_method_19_code 64 = .ok (.getfield 74, 3) := by decide +kernel
theorem zd_Ls_can_67 : decode prog_1_method_19_code 67 = .ok (.iload_n 1, 1) := by decide +kernel
theorem zd_Ls_can_68 : decode prog_1_method_19_code 68 = .ok (.aload_n 0, 1) := by decide +kernel
theorem zd_Ls_can_69 : decode prog_1_method_19_code 69 = .ok (.getfield 56, 3) := by decide +kernel
theorem zd_Ls_can_72 : decode prog_1_method_19_code 72 = .ok (.aload_n 0, 1) := by decide +kernel
theorem zd_Ls_can_73 : decode prog_1_method_19_code 73 = .ok (.getfield 56, 3) := by decide +kernel
theorem zd_Ls_can_76 : decode prog_1_method_19_code 76 = .ok (.aload_n 0, 1) := by decide +kernel
theorem zd_Ls_can_77 : decode prog_1_method_19_code 77 = .ok (.getfield 74, 3) := by decide +kernel
theorem zd_Ls_can_80 : decode prog_1_method_19_code 80 = .ok (.getfield 135, 3) := by decide +kernel
theorem zd_Ls_can_83 : decode prog_1_method_19_code 83 = .ok (.aload_n 0, 1) := by decide +kernel
theorem zd_Ls_can_84 : decode prog_1_method_19_code 84 = .ok (.getfield 74, 3) := by decide +kernel
theorem zd_Ls_can_87 : decode prog_1_method_19_code 87 = .ok (.getfield 139, 3) := by decide +kernel
theorem zd_Ls_can_90 : decode prog_1_method_19_code 90 = .ok (.invokevirtual 142, 3) := by decide +kernel
theorem zd_Ls_can_93 : decode prog_1_method_19_code 93 = .ok (.invokevirtual 245, 3) := by decide +kernel
theorem zd_Ls_can_96 : decode prog_1_method_19_code 96 = .ok (.ifCond .ne 6, 3) := by decide +kernel
theorem zd_Ls_can_102 : decode prog_1_method_19_code 102 = .ok (.iload_n 3, 1) := by decide +kernel
theorem zd_Ls_can_103 : decode prog_1_method_19_code 103 = .ok (.ifCond .ne 7, 3) := by decide +kernel
theorem zd_Ls_can_106 : decode prog_1_method_19_code 106 = .ok (.iload 5, 2) := by decide +kernel
theorem zd_Ls_can_108 : decode prog_1_method_19_code 108 = .ok (.istore 4, 2) := by decide +kernel
theorem zd_Ls_can_110 : decode prog_1_method_19_code 110 = .ok (.iinc 3 1, 3) := by decide +kernel
theorem zd_Ls_can_99 : decode prog_1_method_19_code 99 = .ok (.goto 14, 3) := by decide +kernel
theorem zd_Ls_can_113 : decode prog_1_method_19_code 113 = .ok (.iinc 5 1, 3) := by decide +kernel
theorem zd_Ls_can_116 : decode prog_1_method_19_code 116 = .ok (.goto (-69), 3) := by decide +kernel
theorem zd_Ls_can_20 : decode prog_1_method_19_code 20 = .ok (.iconst (-1), 1) := by decide +kernel
theorem zd_Ls_can_21 : decode prog_1_method_19_code 21 = .ok (.ireturn, 1) := by decide +kernel
abbrev zm_Ls_can : zQ := ("LoofahSaints", prog_1_method_19_code, 6, (Option.some Jvm.ClassFile.FieldType.int), false)
set_option maxRecDepth 100000 in
def fn_Ls_can_L47 (a0 : Nat) (a1 : Int32) (a2 : Int32) (a3 : Int32) (a4 : Int32) (a5 : Int32) (S : zS) (K47 : Nat → Int32 → Int32 → Int32 → Int32 → Int32 → zS → Option (Int32 × zS)) : Option (Int32 × zS) :=
  br (decide ((10 : Int32) ≤ a5)) (br (decide (a2 = 0)) (some (a3, S)) <|
  some (a4, S)) <|
  gd (gT S a0 109) <|
  gd (gT S (zR S a0 6) 105) <|
  nm (uI S (zR S a0 6) 3 a5) fun S5 =>
  gd (gT S5 a0 109) <|
  gd (gT S5 (zR S5 a0 7) 101) <|
  gd (gT S5 (zR S5 a0 6) 105) <|
  bq (fn_Sa_grit (zR S5 a0 6) (zR S5 (zR S5 a0 7) 8) (zI S5 (zR S5 a0 7) 7) S5) fun r11 S9 =>
  gd (gT S9 (zR S5 a0 7) 101) <|
  bq (fn_Ho_isAsSeen (zR S5 a0 7) a1 (zR S5 a0 6) r11 S9) fun r15 S13 =>
  br (decide (r15 = 0)) (K47 a0 a1 a2 a3 a4 (a5 + (1 : Int32)) S13) <|
  br (decide (a3 = 0)) (K47 a0 a1 a2 (a3 + (1 : Int32)) a5 (a5 + (1 : Int32)) S13) <|
  K47 a0 a1 a2 (a3 + (1 : Int32)) a4 (a5 + (1 : Int32)) S13
set_option maxRecDepth 100000 in
set_option maxHeartbeats 4000000 in
theorem tm_Ls_can_L47 {X : zXt} {d : Nat} (hd : 5 ≤ d) {v : Int32} {S' : zS}  {K47 : Nat → Int32 → Int32 → Int32 → Int32 → Int32 → zS → Option (Int32 × zS)} (hK47 : ∀ (a0 : Nat) (a1 : Int32) (a2 : Int32) (a3 : Int32) (a4 : Int32) (a5 : Int32) (S : zS), K47 a0 a1 a2 a3 a4 a5 S = some (v, S') → zG X zm_Ls_can d 47 [some (.ref a0), some (.int a1), some (.int a2), some (.int a3), some (.int a4), some (.int a5)] [] S (some (.int v)) S') {a0 : Nat} {a1 : Int32} {a2 : Int32} {a3 : Int32} {a4 : Int32} {a5 : Int32} {S : zS} (h : fn_Ls_can_L47 a0 a1 a2 a3 a4 a5 S K47 = some (v, S')) : zG X zm_Ls_can d 47 [some (.ref a0), some (.int a1), some (.int a2), some (.int a3), some (.int a4), some (.int a5)] [] S (some (.int v)) S' := by
  unfold fn_Ls_can_L47 at h
  refine zg_iload (pc' := 49) zd_Ls_can_47 rfl rfl ?_
  refine zg_bipush (x := (10 : Int32)) (pc' := 51) zd_Ls_can_49 (by decide) rfl ?_
  rcases br_some h with ⟨c1, h⟩ | ⟨c1, h⟩
  · refine zg_icmp_ge (tgt := 119) (pc' := 54) zd_Ls_can_51 (by decide) rfl (fun _ => ?_) (fun q => absurd c1 q)
    refine zg_iload_n (pc' := 120) zd_Ls_can_119 rfl rfl ?_
    rcases br_some h with ⟨c2, h⟩ | ⟨c2, h⟩
    · refine zg_if_ne (tgt := 127) (pc' := 123) zd_Ls_can_120 (by decide) rfl (fun q => absurd c2 q) (fun _ => ?_)
      refine zg_iload_n (pc' := 124) zd_Ls_can_123 rfl rfl ?_
      refine zg_goto (tgt := 129) zd_Ls_can_124 (by decide) ?_
      obtain ⟨rfl, rfl⟩ := rt_q h
      exact zg_iret zd_Ls_can_129 zrt_i
    · refine zg_if_ne (tgt := 127) (pc' := 123) zd_Ls_can_120 (by decide) rfl (fun _ => ?_) (fun q => absurd q c2)
      refine zg_iload (pc' := 129) zd_Ls_can_127 rfl rfl ?_
      obtain ⟨rfl, rfl⟩ := rt_q h
      exact zg_iret zd_Ls_can_129 zrt_i
  · refine zg_icmp_ge (tgt := 119) (pc' := 54) zd_Ls_can_51 (by decide) rfl (fun q => absurd q c1) (fun _ => ?_)
    refine zg_aload_n (pc' := 55) zd_Ls_can_54 rfl rfl ?_
    obtain ⟨g3, h⟩ := gd_some h
    refine zg_getR (pc' := 58) zf_Ls_56 rfl zd_Ls_can_55 (gT_ok g3) rfl ?_
    refine zg_iload (pc' := 60) zd_Ls_can_58 rfl rfl ?_
    obtain ⟨g4, h⟩ := gd_some h
    refine zg_putI (pc' := 63) zf_Ls_116 zd_Ls_can_60 (Or.inl rfl) (gT_ok g4) rfl ?_
    obtain ⟨S5, eS5, h⟩ := nm_some h
    refine zg_nm eS5 ?_
    refine zg_aload_n (pc' := 64) zd_Ls_can_63 rfl rfl ?_
    obtain ⟨g6, h⟩ := gd_some h
    refine zg_getR (pc' := 67) zf_Ls_74 rfl zd_Ls_can_64 (gT_ok g6) rfl ?_
    refine zg_iload_n (pc' := 68) zd_Ls_can_67 rfl rfl ?_
    refine zg_aload_n (pc' := 69) zd_Ls_can_68 rfl rfl ?_
    refine zg_getR (pc' := 72) zf_Ls_56 rfl zd_Ls_can_69 (gT_ok g6) rfl ?_
    refine zg_aload_n (pc' := 73) zd_Ls_can_72 rfl rfl ?_
    refine zg_getR (pc' := 76) zf_Ls_56 rfl zd_Ls_can_73 (gT_ok g6) rfl ?_
    refine zg_aload_n (pc' := 77) zd_Ls_can_76 rfl rfl ?_
    refine zg_getR (pc' := 80) zf_Ls_74 rfl zd_Ls_can_77 (gT_ok g6) rfl ?_
    obtain ⟨g7, h⟩ := gd_some h
    refine zg_getR (pc' := 83) zf_Ls_135 rfl zd_Ls_can_80 (gT_ok g7) rfl ?_
    refine zg_aload_n (pc' := 84) zd_Ls_can_83 rfl rfl ?_
    refine zg_getR (pc' := 87) zf_Ls_74 rfl zd_Ls_can_84 (gT_ok g6) rfl ?_
    refine zg_getI (pc' := 90) zf_Ls_139 zd_Ls_can_87 (gT_ok g7) rfl ?_
    obtain ⟨g8, h⟩ := gd_some h
    obtain ⟨r11, S9, e10, h⟩ := bq_some h
    refine zg_callV (ci := 5) (As := [.ref (zR S5 (zR S5 a0 7) 8), .int (zI S5 (zR S5 a0 7) 7)]) (rest := [.ref (zR S5 a0 6), .int a1, .ref (zR S5 a0 7)]) (pc' := 93) zl_Ls_142 zq356 zq357 ⟨_, rfl, rfl⟩ zd_Ls_can_90 rfl rfl (Nat.le_of_ble_eq_true rfl) (by omega) (gT_ok g8) (tm_Sa_grit (d := 4) (Nat.le_refl _) e10) rfl ?_
    refine zg_st (st' := [.int r11, .ref (zR S5 a0 6), .int a1, .ref (zR S5 a0 7)]) rfl ?_
    obtain ⟨g12, h⟩ := gd_some h
    obtain ⟨r15, S13, e14, h⟩ := bq_some h
    refine zg_callV (ci := 1) (As := [.int a1, .ref (zR S5 a0 6), .int r11]) (rest := []) (pc' := 96) zl_Ls_245 zq663 zq664 ⟨_, rfl, rfl⟩ zd_Ls_can_93 rfl rfl (Nat.le_of_ble_eq_true rfl) (by omega) (gT_ok g12) (tm_Ho_isAsSeen (d := 4) (Nat.le_refl _) e14) rfl ?_
    refine zg_st (st' := [.int r15]) rfl ?_
    rcases br_some h with ⟨c16, h⟩ | ⟨c16, h⟩
    · refine zg_if_ne (tgt := 102) (pc' := 99) zd_Ls_can_96 (by decide) rfl (fun q => absurd c16 q) (fun _ => ?_)
      refine zg_goto (tgt := 113) zd_Ls_can_99 (by decide) ?_
      refine zg_iinc (y := (a5 + (1 : Int32))) (L' := [some (.ref a0), some (.int a1), some (.int a2), some (.int a3), some (.int a4), some (.int (a5 + (1 : Int32)))]) (pc' := 116) zd_Ls_can_113 rfl rfl (by decide) rfl rfl ?_
      refine zg_goto (tgt := 47) zd_Ls_can_116 (by decide) ?_
      exact hK47 _ _ _ _ _ _ _ h
    · refine zg_if_ne (tgt := 102) (pc' := 99) zd_Ls_can_96 (by decide) rfl (fun _ => ?_) (fun q => absurd q c16)
      refine zg_iload_n (pc' := 103) zd_Ls_can_102 rfl rfl ?_
      rcases br_some h with ⟨c17, h⟩ | ⟨c17, h⟩
      · refine zg_if_ne (tgt := 110) (pc' := 106) zd_Ls_can_103 (by decide) rfl (fun q => absurd c17 q) (fun _ => ?_)
        refine zg_iload (pc' := 108) zd_Ls_can_106 rfl rfl ?_
        refine zg_istore (L' := [some (.ref a0), some (.int a1), some (.int a2), some (.int a3), some (.int a5), some (.int a5)]) (pc' := 110) zd_Ls_can_108 (by decide) rfl rfl ?_
        refine zg_iinc (y := (a3 + (1 : Int32))) (L' := [some (.ref a0), some (.int a1), some (.int a2), some (.int (a3 + (1 : Int32))), some (.int a5), some (.int a5)]) (pc' := 113) zd_Ls_can_110 rfl rfl (by decide) rfl rfl ?_
        refine zg_iinc (y := (a5 + (1 : Int32))) (L' := [some (.ref a0), some (.int a1), some (.int a2), some (.int (a3 + (1 : Int32))), some (.int a5), some (.int (a5 + (1 : Int32)))]) (pc' := 116) zd_Ls_can_113 rfl rfl (by decide) rfl rfl ?_
        refine zg_goto (tgt := 47) zd_Ls_can_116 (by decide) ?_
        exact hK47 _ _ _ _ _ _ _ h
      · refine zg_if_ne (tgt := 110) (pc' := 106) zd_Ls_can_103 (by decide) rfl (fun _ => ?_) (fun q => absurd q c17)
        refine zg_iinc (y := (a3 + (1 : Int32))) (L' := [some (.ref a0), some (.int a1), some (.int a2), some (.int (a3 + (1 : Int32))), some (.int a4), some (.int a5)]) (pc' := 113) zd_Ls_can_110 rfl rfl (by decide) rfl rfl ?_
        refine zg_iinc (y := (a5 + (1 : Int32))) (L' := [some (.ref a0), some (.int a1), some (.int a2), some (.int (a3 + (1 : Int32))), some (.int a4), some (.int (a5 + (1 : Int32)))]) (pc' := 116) zd_Ls_can_113 rfl rfl (by decide) rfl rfl ?_
        refine zg_goto (tgt := 47) zd_Ls_can_116 (by decide) ?_
        exact hK47 _ _ _ _ _ _ _ h
set_option maxRecDepth 100000 in
def fn_Ls_can (a0 : Nat) (a1 : Int32) (a2 : Int32) (S : zS) : Option (Int32 × zS) :=
  gd (gT S a0 109) <|
  gd (gT S (zR S a0 7) 101) <|
  bq (fn_Ho_has (zR S a0 7) a1 S) fun r5 S3 =>
  br (decide (r5 = 0)) (some ((-1 : Int32), S3)) <|
  br (decide (a2 < 0)) (some ((-1 : Int32), S3)) <|
  br (decide (a2 ≤ (1 : Int32))) (gd (gT S3 a0 109) <|
  gd (gT S3 (zR S3 a0 7) 101) <|
  gd (gT S3 (zR S3 (zR S3 a0 7) 0) 6) <|
  gd (gB a1 (zT S3 (zR S3 (zR S3 a0 7) 0)).2) <|
  gd (gT S3 (zR S3 a0 6) 105) <|
  bv (fn_Sa_copy (zR S3 a0 6) (zR S3 (zR S3 (zR S3 a0 7) 0) a1.toNatClampNeg) S3) fun S14 =>
  lp (σ := Nat × Int32 × Int32 × Int32 × Int32 × Int32 × zS) (fun k s => fn_Ls_can_L47 s.1 s.2.1 s.2.2.1 s.2.2.2.1 s.2.2.2.2.1 s.2.2.2.2.2.1 s.2.2.2.2.2.2 (fun (a0 : Nat) (a1 : Int32) (a2 : Int32) (a3 : Int32) (a4 : Int32) (a5 : Int32) (S : zS) => k (a0, a1, a2, a3, a4, a5, S))) FU (a0, a1, a2, (0 : Int32), (-5 : Int32), (0 : Int32), S14)) <|
  some ((-1 : Int32), S3)
set_option maxRecDepth 100000 in
set_option maxHeartbeats 4000000 in
theorem tm_Ls_can {X : zXt} {d : Nat} (hd : 5 ≤ d) {v : Int32} {a0 : Nat} {a1 : Int32} {a2 : Int32} {S : zS} {S' : zS} (h : fn_Ls_can a0 a1 a2 S = some (v, S')) : zM X zy_Ls_can prog_1_method_19_code 6 (Option.some Jvm.ClassFile.FieldType.int) d [.ref a0, .int a1, .int a2] S (some (.int v)) S' := by
  refine zM_of (ini := false) (L := [some (.ref a0), some (.int a1), some (.int a2), none, none, none]) (plainFor_of_name (by decide)) (fun h => by cases h) (Nat.le_of_ble_eq_true rfl) rfl ?_
  unfold fn_Ls_can at h
  refine zg_aload_n (pc' := 1) zd_Ls_can_0 rfl rfl ?_
  obtain ⟨g1, h⟩ := gd_some h
  refine zg_getR (pc' := 4) zf_Ls_74 rfl zd_Ls_can_1 (gT_ok g1) rfl ?_
  refine zg_iload_n (pc' := 5) zd_Ls_can_4 rfl rfl ?_
  obtain ⟨g2, h⟩ := gd_some h
  obtain ⟨r5, S3, e4, h⟩ := bq_some h
  refine zg_callV (ci := 1) (As := [.int a1]) (rest := []) (pc' := 8) zl_Ls_103 zq345 zq346 ⟨_, rfl, rfl⟩ zd_Ls_can_5 rfl rfl (Nat.le_of_ble_eq_true rfl) (by omega) (gT_ok g2) (tm_Ho_has (d := 2) (Nat.le_refl _) e4) rfl ?_
  refine zg_st (st' := [.int r5]) rfl ?_
  rcases br_some h with ⟨c6, h⟩ | ⟨c6, h⟩
  · refine zg_if_eq (tgt := 20) (pc' := 11) zd_Ls_can_8 (by decide) rfl (fun _ => ?_) (fun q => absurd c6 q)
    refine zg_iconst (x := (-1 : Int32)) (pc' := 21) zd_Ls_can_20 (by decide) rfl ?_
    obtain ⟨rfl, rfl⟩ := rt_q h
    exact zg_iret zd_Ls_can_21 zrt_i
  · refine zg_if_eq (tgt := 20) (pc' := 11) zd_Ls_can_8 (by decide) rfl (fun q => absurd q c6) (fun _ => ?_)
    refine zg_iload_n (pc' := 12) zd_Ls_can_11 rfl rfl ?_
    rcases br_some h with ⟨c7, h⟩ | ⟨c7, h⟩
    · refine zg_if_lt (tgt := 20) (pc' := 15) zd_Ls_can_12 (by decide) rfl (fun _ => ?_) (fun q => absurd c7 q)
      refine zg_iconst (x := (-1 : Int32)) (pc' := 21) zd_Ls_can_20 (by decide) rfl ?_
      obtain ⟨rfl, rfl⟩ := rt_q h
      exact zg_iret zd_Ls_can_21 zrt_i
    · refine zg_if_lt (tgt := 20) (pc' := 15) zd_Ls_can_12 (by decide) rfl (fun q => absurd q c7) (fun _ => ?_)
      refine zg_iload_n (pc' := 16) zd_Ls_can_15 rfl rfl ?_
      refine zg_iconst (x := (1 : Int32)) (pc' := 17) zd_Ls_can_16 (by decide) rfl ?_
      rcases br_some h with ⟨c8, h⟩ | ⟨c8, h⟩
      · refine zg_icmp_le (tgt := 22) (pc' := 20) zd_Ls_can_17 (by decide) rfl (fun _ => ?_) (fun q => absurd c8 q)
        refine zg_aload_n (pc' := 23) zd_Ls_can_22 rfl rfl ?_
        obtain ⟨g9, h⟩ := gd_some h
        refine zg_getR (pc' := 26) zf_Ls_56 rfl zd_Ls_can_23 (gT_ok g9) rfl ?_
        refine zg_aload_n (pc' := 27) zd_Ls_can_26 rfl rfl ?_
        refine zg_getR (pc' := 30) zf_Ls_74 rfl zd_Ls_can_27 (gT_ok g9) rfl ?_
        obtain ⟨g10, h⟩ := gd_some h
        refine zg_getR (pc' := 33) zf_Ls_95 rfl zd_Ls_can_30 (gT_ok g10) rfl ?_
        refine zg_iload_n (pc' := 34) zd_Ls_can_33 rfl rfl ?_
        obtain ⟨g11, h⟩ := gd_some h
        obtain ⟨g12, h⟩ := gd_some h
        refine zg_aald (t := 6) (pc' := 35) (by decide) zd_Ls_can_34 (gT_ok g11) (gB_ok g12) rfl ?_
        obtain ⟨g13, h⟩ := gd_some h
        obtain ⟨S14, e15, h⟩ := bv_some h
        refine zg_callV (ci := 5) (As := [.ref (zR S3 (zR S3 (zR S3 a0 7) 0) a1.toNatClampNeg)]) (rest := []) (pc' := 38) zl_Ls_242 zq552 zq553 ⟨_, rfl, rfl⟩ zd_Ls_can_35 rfl rfl (Nat.le_of_ble_eq_true rfl) (by omega) (gT_ok g13) (tm_Sa_copy (d := 2) (Nat.le_refl _) e15) rfl ?_
        refine zg_st (st' := []) rfl ?_
        refine zg_iconst (x := (0 : Int32)) (pc' := 39) zd_Ls_can_38 (by decide) rfl ?_
        refine zg_istore_n (L' := [some (.ref a0), some (.int a1), some (.int a2), some (.int (0 : Int32)), none, none]) (pc' := 40) zd_Ls_can_39 (by decide) rfl rfl ?_
        refine zg_bipush (x := (-5 : Int32)) (pc' := 42) zd_Ls_can_40 (by decide) rfl ?_
        refine zg_istore (L' := [some (.ref a0), some (.int a1), some (.int a2), some (.int (0 : Int32)), some (.int (-5 : Int32)), none]) (pc' := 44) zd_Ls_can_42 (by decide) rfl rfl ?_
        refine zg_iconst (x := (0 : Int32)) (pc' := 45) zd_Ls_can_44 (by decide) rfl ?_
        refine zg_istore (L' := [some (.ref a0), some (.int a1), some (.int a2), some (.int (0 : Int32)), some (.int (-5 : Int32)), some (.int (0 : Int32))]) (pc' := 47) zd_Ls_can_45 (by decide) rfl rfl ?_
        exact lp_indh h (P := fun s => zG X zm_Ls_can d 47 [some (.ref (s.1)), some (.int (s.2.1)), some (.int (s.2.2.1)), some (.int (s.2.2.2.1)), some (.int (s.2.2.2.2.1)), some (.int (s.2.2.2.2.2.1))] [] (s.2.2.2.2.2.2) (some (.int v)) S') (fun k hk s h => tm_Ls_can_L47 hd (fun a0 a1 a2 a3 a4 a5 S h => hk (a0, a1, a2, a3, a4, a5, S) h) h)
      · refine zg_icmp_le (tgt := 22) (pc' := 20) zd_Ls_can_17 (by decide) rfl (fun q => absurd q c8) (fun _ => ?_)
        refine zg_iconst (x := (-1 : Int32)) (pc' := 21) zd_Ls_can_20 (by decide) rfl ?_
        obtain ⟨rfl, rfl⟩ := rt_q h
        exact zg_iret zd_Ls_can_21 zrt_i
theorem zd_Ls_odds_0 : decode prog_1_method_20_code 0 = .ok (.iload_n 1, 1) := by decide +kernel
theorem zd_Ls_odds_1 : decode prog_1_method_20_code 1 = .ok (.ifCond .lt 16, 3) := by decide +kernel
theorem zd_Ls_odds_4 : decode prog_1_method_20_code 4 = .ok (.iload_n 1, 1) := by decide +kernel
theorem zd_Ls_odds_5 : decode prog_1_method_20_code 5 = .ok (.bipush 12, 2) := by decide +kernel
theorem zd_Ls_odds_7 : decode prog_1_method_20_code 7 = .ok (.if_icmp .ge 10, 3) := by decide +kernel
theorem zd_Ls_odds_10 : decode prog_1_method_20_code 10 = .ok (.iload_n 2, 1) := by decide +kernel
theorem zd_Ls_odds_11 : decode prog_1_method_20_code 11 = .ok (.invokestatic 106, 3) := by decide +kernel
theorem zd_Ls_odds_14 : decode prog_1_method_20_code 14 = .ok (.ifCond .ne 7, 3) := by decide +kernel
theorem zd_Ls_odds_21 : decode prog_1_method_20_code 21 = .ok (.iload_n 3, 1) := by decide +kernel
theorem zd_Ls_odds_22 : decode prog_1_method_20_code 22 = .ok (.ifCond .lt 18, 3) := by decide +kernel
theorem zd_Ls_odds_25 : decode prog_1_method_20_code 25 = .ok (.iload_n 3, 1) := by decide +kernel
theorem zd_Ls_odds_26 : decode prog_1_method_20_code 26 = .ok (.iconst 1, 1) := by decide +kernel
theorem zd_Ls_odds_27 : decode prog_1_method_20_code 27 = .ok (.if_icmp .gt 13, 3) := by decide +kernel
theorem zd_Ls_odds_30 : decode prog_1_method_20_code 30 = .ok (.aload_n 0, 1) := by decide +kernel
theorem zd_Ls_odds_31 : decode prog_1_method_20_code 31 = .ok (.getfield 74, 3) := by decide +kernel
theorem zd_Ls_odds_34 : decode prog_1_method_20_code 34 = .ok (.getfield 92, 3) := by decide +kernel
theorem zd_Ls_odds_37 : decode prog_1_method_20_code 37 = .ok (.ifCond .ne 7, 3) := by decide +kernel
theorem zd_Ls_odds_44 : decode prog_1_method_20_code 44 = .ok (.iconst 0, 1) := by decide +kernel
theorem zd_Ls_odds_45 : decode prog_1_method_20_code 45 = .ok (.istore 4, 2) := by decide +kernel
theorem zd_Ls_odds_47 : decode prog_1_method_20_code 47 = .ok (.iconst 0, 1) := by decide +kernel
theorem zd_Ls_odds_48 : decode prog_1_method_20_code 48 = .ok (.istore 5, 2) := by decide +kernel
theorem zd_Ls_odds_50 : decode prog_1_method_20_code 50 = .ok (.iload 5, 2) := by decide +kernel
theorem zd_Ls_odds_52 : decode prog_1_method_20_code 52 = .ok (.aload_n 0, 1) := by decide +kernel
theorem zd_Ls_odds_53 : decode prog_1_method_20_code 53 = .ok (.getfield 74, 3) := by decide +kernel
theorem zd_Ls_odds_56 : decode prog_1_method_20_code 56 = .ok (.getfield 92, 3) := by decide +kernel
theorem zd_Ls_odds_59 : decode prog_1_method_20_code 59 = .ok (.if_icmp .ge 53, 3) := by decide +kernel
theorem zd_Ls_odds_112 : decode prog_1_method_20_code 112 = .ok (.iload 4, 2) := by decide +kernel
theorem zd_Ls_odds_114 : decode prog_1_method_20_code 114 = .ok (.aload_n 0, 1) := by decide +kernel
theorem zd_Ls_odds_115 : decode prog_1_method_20_code 115 = .ok (.getfield 74, 3) := by decide +kernel
theorem zd_Ls_odds_118 : decode prog_1_method_20_code 118 = .ok (.getfield 92, 3) := by decide +kernel
theorem zd_Ls_odds_121 : decode prog_1_method_20_code 121 = .ok (.iload_n 3, 1) := by decide +kernel
theorem zd_Ls_odds_122 : decode prog_1_method_20_code 122 = .ok (.invokestatic 251, 3) := by decide +kernel
theorem zd_Ls_odds_125 : decode prog_1_method_20_code 125 = .ok (.lreturn, 1) := by decide +kernel
theorem zd_Ls_odds_62 : decode prog_1_method_20_code 62 = .ok (.aload_n 0, 1) := by decide +kernel
theorem zd_Ls_odds_63 : decode prog_1_method_20_code 63 = .ok (.getfield 74, 3) := by decide +kernel
theorem zd_Ls_odds_66 : decode prog_1_method_20_code 66 = .ok (.getfield 152, 3) := by decide +kernel
theorem zd_Ls_odds_69 : decode prog_1_method_20_code 69 = .ok (.iload_n 2, 1) := by decide +kernel
theorem zd_Ls_odds_70 : decode prog_1_method_20_code 70 = .ok (.iaload, 1) := by decide +kernel
theorem zd_Ls_odds_71 : decode prog_1_method_20_code 71 = .ok (.aload_n 0, 1) := by decide +kernel
theorem zd_Ls_odds_72 : decode prog_1_method_20_code 72 = .ok (.getfield 74, 3) := by decide +kernel
theorem zd_Ls_odds_75 : decode prog_1_method_20_code 75 = .ok (.aload_n 0, 1) := by decide +kernel
theorem zd_Ls_odds_76 : decode prog_1_method_20_code 76 = .ok (.getfield 74, 3) := by decide +kernel
theorem zd_Ls_odds_79 : decode prog_1_method_20_code 79 = .ok (.getfield 95, 3) := by decide +kernel
theorem zd_Ls_odds_82 : decode prog_1_method_20_code 82 = .ok (.iload 5, 2) := by decide +kernel
theorem zd_Ls_odds_84 : decode prog_1_method_20_code 84 = .ok (.aaload, 1) := by decide +kernel
theorem zd_Ls_odds_85 : decode prog_1_method_20_code 85 = .ok (.iload_n 2, 1) := by decide +kernel
theorem zd_Ls_odds_86 : decode prog_1_method_20_code 86 = .ok (.invokevirtual 109, 3) := by decide +kernel
theorem zd_Ls_odds_89 : decode prog_1_method_20_code 89 = .ok (.iconst (-1), 1) := by decide +kernel
theorem zd_Ls_odds_90 : decode prog_1_method_20_code 90 = .ok (.ixor, 1) := by decide +kernel
theorem zd_Ls_odds_91 : decode prog_1_method_20_code 91 = .ok (.iand, 1) := by decide +kernel
theorem zd_Ls_odds_92 : decode prog_1_method_20_code 92 = .ok (.istore 6, 2) := by decide +kernel
theorem zd_Ls_odds_94 : decode prog_1_method_20_code 94 = .ok (.iload 6, 2) := by decide +kernel
theorem zd_Ls_odds_96 : decode prog_1_method_20_code 96 = .ok (.iload_n 1, 1) := by decide +kernel
theorem zd_Ls_odds_97 : decode prog_1_method_20_code 97 = .ok (.ishr, 1) := by decide +kernel
theorem zd_Ls_odds_98 : decode prog_1_method_20_code 98 = .ok (.iconst 1, 1) := by decide +kernel
theorem zd_Ls_odds_99 : decode prog_1_method_20_code 99 = .ok (.iand, 1) := by decide +kernel
theorem zd_Ls_odds_100 : decode prog_1_method_20_code 100 = .ok (.ifCond .ne 6, 3) := by decide +kernel
theorem zd_Ls_odds_103 : decode prog_1_method_20_code 103 = .ok (.iinc 4 1, 3) := by decide +kernel
theorem zd_Ls_odds_106 : decode prog_1_method_20_code 106 = .ok (.iinc 5 1, 3) := by decide +kernel
theorem zd_Ls_odds_109 : decode prog_1_method_20_code 109 = .ok (.goto (-59), 3) := by decide +kernel
theorem zd_Ls_odds_40 : decode prog_1_method_20_code 40 = .ok (.ldc2_w 249, 3) := by decide +kernel
theorem zd_Ls_odds_43 : decode prog_1_method_20_code 43 = .ok (.lreturn, 1) := by decide +kernel
theorem zd_Ls_odds_17 : decode prog_1_method_20_code 17 = .ok (.ldc2_w 249, 3) := by decide +kernel
theorem zd_Ls_odds_20 : decode prog_1_method_20_code 20 = .ok (.lreturn, 1) := by decide +kernel
abbrev zm_Ls_odds : zQ := ("LoofahSaints", prog_1_method_20_code, 7, (Option.some Jvm.ClassFile.FieldType.long), false)
set_option maxRecDepth 100000 in
def fn_Ls_odds_L50 (a0 : Nat) (a1 : Int32) (a2 : Int32) (a3 : Int32) (a4 : Int32) (a5 : Int32) (S : zS) (K50 : Nat → Int32 → Int32 → Int32 → Int32 → Int32 → zS → Option (Int64 × zS)) : Option (Int64 × zS) :=
  gd (gT S a0 109) <|
  gd (gT S (zR S a0 7) 101) <|
  br (decide ((zI S (zR S a0 7) 6) ≤ a5)) (bq (fn_Ls_lowest a4 (zI S (zR S a0 7) 6) a3 S) fun r6 S4 =>
  some (r6, S4)) <|
  gd (gT S (zR S (zR S a0 7) 1) 1) <|
  gd (gB a2 (zT S (zR S (zR S a0 7) 1)).2) <|
  gd (gT S (zR S (zR S a0 7) 0) 6) <|
  gd (gB a5 (zT S (zR S (zR S a0 7) 0)).2) <|
  bq (fn_Ho_takes (zR S a0 7) (zR S (zR S (zR S a0 7) 0) a5.toNatClampNeg) a2 S) fun r13 S11 =>
  br (decide (((((zI S (zR S (zR S a0 7) 1) a2.toNatClampNeg) &&& (r13 ^^^ (-1 : Int32))) >>> (a1 &&& 31)) &&& (1 : Int32)) = 0)) (K50 a0 a1 a2 a3 (a4 + (1 : Int32)) (a5 + (1 : Int32)) S11) <|
  K50 a0 a1 a2 a3 a4 (a5 + (1 : Int32)) S11
set_option maxRecDepth 100000 in
set_option maxHeartbeats 4000000 in
theorem tm_Ls_odds_L50 {X : zXt} {d : Nat} (hd : 6 ≤ d) {v : Int64} {S' : zS}  {K50 : Nat → Int32 → Int32 → Int32 → Int32 → Int32 → zS → Option (Int64 × zS)} (hK50 : ∀ (a0 : Nat) (a1 : Int32) (a2 : Int32) (a3 : Int32) (a4 : Int32) (a5 : Int32) (S : zS), K50 a0 a1 a2 a3 a4 a5 S = some (v, S') → zG X zm_Ls_odds d 50 [some (.ref a0), some (.int a1), some (.int a2), some (.int a3), some (.int a4), some (.int a5), none] [] S (some (.long v)) S') {a0 : Nat} {a1 : Int32} {a2 : Int32} {a3 : Int32} {a4 : Int32} {a5 : Int32} {S : zS} (h : fn_Ls_odds_L50 a0 a1 a2 a3 a4 a5 S K50 = some (v, S')) : zG X zm_Ls_odds d 50 [some (.ref a0), some (.int a1), some (.int a2), some (.int a3), some (.int a4), some (.int a5), none] [] S (some (.long v)) S' := by
  unfold fn_Ls_odds_L50 at h
  refine zg_iload (pc' := 52) zd_Ls_odds_50 rfl rfl ?_
  refine zg_aload_n (pc' := 53) zd_Ls_odds_52 rfl rfl ?_
  obtain ⟨g1, h⟩ := gd_some h
  refine zg_getR (pc' := 56) zf_Ls_74 rfl zd_Ls_odds_53 (gT_ok g1) rfl ?_
  obtain ⟨g2, h⟩ := gd_some h
  refine zg_getI (pc' := 59) zf_Ls_92 zd_Ls_odds_56 (gT_ok g2) rfl ?_
  rcases br_some h with ⟨c3, h⟩ | ⟨c3, h⟩
  · refine zg_icmp_ge (tgt := 112) (pc' := 62) zd_Ls_odds_59 (by decide) rfl (fun _ => ?_) (fun q => absurd c3 q)
    refine zg_iload (pc' := 114) zd_Ls_odds_112 rfl rfl ?_
    refine zg_aload_n (pc' := 115) zd_Ls_odds_114 rfl rfl ?_
    refine zg_getR (pc' := 118) zf_Ls_74 rfl zd_Ls_odds_115 (gT_ok g1) rfl ?_
    refine zg_getI (pc' := 121) zf_Ls_92 zd_Ls_odds_118 (gT_ok g2) rfl ?_
    refine zg_iload_n (pc' := 122) zd_Ls_odds_121 rfl rfl ?_
    obtain ⟨r6, S4, e5, h⟩ := bq_some h
    refine zg_callS (As := [.int a4, .int (zI S (zR S a0 7) 6), .int a3]) (rest := []) (pc' := 125) zl_Ls_251 zq680 zd_Ls_odds_122 rfl rfl (Nat.le_of_ble_eq_true rfl) (by omega) (tm_Ls_lowest (d := 2) (Nat.le_refl _) e5) rfl ?_
    refine zg_st (st' := [.long r6]) rfl ?_
    obtain ⟨rfl, rfl⟩ := rt_q h
    exact zg_lret zd_Ls_odds_125 zrt_l
  · refine zg_icmp_ge (tgt := 112) (pc' := 62) zd_Ls_odds_59 (by decide) rfl (fun q => absurd q c3) (fun _ => ?_)
    refine zg_aload_n (pc' := 63) zd_Ls_odds_62 rfl rfl ?_
    refine zg_getR (pc' := 66) zf_Ls_74 rfl zd_Ls_odds_63 (gT_ok g1) rfl ?_
    refine zg_getR (pc' := 69) zf_Ls_152 rfl zd_Ls_odds_66 (gT_ok g2) rfl ?_
    refine zg_iload_n (pc' := 70) zd_Ls_odds_69 rfl rfl ?_
    obtain ⟨g7, h⟩ := gd_some h
    obtain ⟨g8, h⟩ := gd_some h
    refine zg_iald (pc' := 71) zd_Ls_odds_70 (gT_ok g7) (gB_ok g8) rfl ?_
    refine zg_aload_n (pc' := 72) zd_Ls_odds_71 rfl rfl ?_
    refine zg_getR (pc' := 75) zf_Ls_74 rfl zd_Ls_odds_72 (gT_ok g1) rfl ?_
    refine zg_aload_n (pc' := 76) zd_Ls_odds_75 rfl rfl ?_
    refine zg_getR (pc' := 79) zf_Ls_74 rfl zd_Ls_odds_76 (gT_ok g1) rfl ?_
    refine zg_getR (pc' := 82) zf_Ls_95 rfl zd_Ls_odds_79 (gT_ok g2) rfl ?_
    refine zg_iload (pc' := 84) zd_Ls_odds_82 rfl rfl ?_
    obtain ⟨g9, h⟩ := gd_some h
    obtain ⟨g10, h⟩ := gd_some h
    refine zg_aald (t := 6) (pc' := 85) (by decide) zd_Ls_odds_84 (gT_ok g9) (gB_ok g10) rfl ?_
    refine zg_iload_n (pc' := 86) zd_Ls_odds_85 rfl rfl ?_
    obtain ⟨r13, S11, e12, h⟩ := bq_some h
    refine zg_callV (ci := 1) (As := [.ref (zR S (zR S (zR S a0 7) 0) a5.toNatClampNeg), .int a2]) (rest := [.int (zI S (zR S (zR S a0 7) 1) a2.toNatClampNeg)]) (pc' := 89) zl_Ls_109 zq352 zq353 ⟨_, rfl, rfl⟩ zd_Ls_odds_86 rfl rfl (Nat.le_of_ble_eq_true rfl) (by omega) (gT_ok g2) (tm_Ho_takes (d := 5) (Nat.le_refl _) e12) rfl ?_
    refine zg_st (st' := [.int r13, .int (zI S (zR S (zR S a0 7) 1) a2.toNatClampNeg)]) rfl ?_
    refine zg_iconst (x := (-1 : Int32)) (pc' := 90) zd_Ls_odds_89 (by decide) rfl ?_
    refine zg_ixor (pc' := 91) zd_Ls_odds_90 rfl ?_
    refine zg_iand (pc' := 92) zd_Ls_odds_91 rfl ?_
    refine zg_istore (L' := [some (.ref a0), some (.int a1), some (.int a2), some (.int a3), some (.int a4), some (.int a5), some (.int ((zI S (zR S (zR S a0 7) 1) a2.toNatClampNeg) &&& (r13 ^^^ (-1 : Int32))))]) (pc' := 94) zd_Ls_odds_92 (by decide) rfl rfl ?_
    refine zg_iload (pc' := 96) zd_Ls_odds_94 rfl rfl ?_
    refine zg_iload_n (pc' := 97) zd_Ls_odds_96 rfl rfl ?_
    refine zg_ishr (pc' := 98) zd_Ls_odds_97 rfl ?_
    refine zg_iconst (x := (1 : Int32)) (pc' := 99) zd_Ls_odds_98 (by decide) rfl ?_
    refine zg_iand (pc' := 100) zd_Ls_odds_99 rfl ?_
    rcases br_some h with ⟨c14, h⟩ | ⟨c14, h⟩
    · refine zg_if_ne (tgt := 106) (pc' := 103) zd_Ls_odds_100 (by decide) rfl (fun q => absurd c14 q) (fun _ => ?_)
      refine zg_iinc (y := (a4 + (1 : Int32))) (L' := [some (.ref a0), some (.int a1), some (.int a2), some (.int a3), some (.int (a4 + (1 : Int32))), some (.int a5), some (.int ((zI S (zR S (zR S a0 7) 1) a2.toNatClampNeg) &&& (r13 ^^^ (-1 : Int32))))]) (pc' := 106) zd_Ls_odds_103 rfl rfl (by decide) rfl rfl ?_
      refine zg_iinc (y := (a5 + (1 : Int32))) (L' := [some (.ref a0), some (.int a1), some (.int a2), some (.int a3), some (.int (a4 + (1 : Int32))), some (.int (a5 + (1 : Int32))), some (.int ((zI S (zR S (zR S a0 7) 1) a2.toNatClampNeg) &&& (r13 ^^^ (-1 : Int32))))]) (pc' := 109) zd_Ls_odds_106 rfl rfl (by decide) rfl rfl ?_
      refine zg_goto (tgt := 50) zd_Ls_odds_109 (by decide) ?_
      refine zg_mask (L' := [some (.ref a0), some (.int a1), some (.int a2), some (.int a3), some (.int (a4 + (1 : Int32))), some (.int (a5 + (1 : Int32))), none]) (zmk_ok _ _ ⟨rfl, ⟨rfl, ⟨rfl, ⟨rfl, ⟨rfl, ⟨rfl, trivial⟩⟩⟩⟩⟩⟩) ?_
      exact hK50 _ _ _ _ _ _ _ h
    · refine zg_if_ne (tgt := 106) (pc' := 103) zd_Ls_odds_100 (by decide) rfl (fun _ => ?_) (fun q => absurd q c14)
      refine zg_iinc (y := (a5 + (1 : Int32))) (L' := [some (.ref a0), some (.int a1), some (.int a2), some (.int a3), some (.int a4), some (.int (a5 + (1 : Int32))), some (.int ((zI S (zR S (zR S a0 7) 1) a2.toNatClampNeg) &&& (r13 ^^^ (-1 : Int32))))]) (pc' := 109) zd_Ls_odds_106 rfl rfl (by decide) rfl rfl ?_
      refine zg_goto (tgt := 50) zd_Ls_odds_109 (by decide) ?_
      refine zg_mask (L' := [some (.ref a0), some (.int a1), some (.int a2), some (.int a3), some (.int a4), some (.int (a5 + (1 : Int32))), none]) (zmk_ok _ _ ⟨rfl, ⟨rfl, ⟨rfl, ⟨rfl, ⟨rfl, ⟨rfl, trivial⟩⟩⟩⟩⟩⟩) ?_
      exact hK50 _ _ _ _ _ _ _ h
set_option maxRecDepth 100000 in
def fn_Ls_odds (a0 : Nat) (a1 : Int32) (a2 : Int32) (a3 : Int32) (S : zS) : Option (Int64 × zS) :=
  br (decide (a1 < 0)) (some ((-9223372036854775808 : Int64), S)) <|
  br (decide ((12 : Int32) ≤ a1)) (some ((-9223372036854775808 : Int64), S)) <|
  bq (fn_Ls_isNovice a2 S) fun r5 S3 =>
  br (decide (r5 = 0)) (some ((-9223372036854775808 : Int64), S3)) <|
  br (decide (a3 < 0)) (some ((-9223372036854775808 : Int64), S3)) <|
  br (decide ((1 : Int32) < a3)) (some ((-9223372036854775808 : Int64), S3)) <|
  gd (gT S3 a0 109) <|
  gd (gT S3 (zR S3 a0 7) 101) <|
  br (decide ((zI S3 (zR S3 a0 7) 6) = 0)) (some ((-9223372036854775808 : Int64), S3)) <|
  lp (σ := Nat × Int32 × Int32 × Int32 × Int32 × Int32 × zS) (fun k s => fn_Ls_odds_L50 s.1 s.2.1 s.2.2.1 s.2.2.2.1 s.2.2.2.2.1 s.2.2.2.2.2.1 s.2.2.2.2.2.2 (fun (a0 : Nat) (a1 : Int32) (a2 : Int32) (a3 : Int32) (a4 : Int32) (a5 : Int32) (S : zS) => k (a0, a1, a2, a3, a4, a5, S))) FU (a0, a1, a2, a3, (0 : Int32), (0 : Int32), S3)
set_option maxRecDepth 100000 in
set_option maxHeartbeats 4000000 in
theorem tm_Ls_odds {X : zXt} {d : Nat} (hd : 6 ≤ d) {v : Int64} {a0 : Nat} {a1 : Int32} {a2 : Int32} {a3 : Int32} {S : zS} {S' : zS} (h : fn_Ls_odds a0 a1 a2 a3 S = some (v, S')) : zM X zy_Ls_odds prog_1_method_20_code 7 (Option.some Jvm.ClassFile.FieldType.long) d [.ref a0, .int a1, .int a2, .int a3] S (some (.long v)) S' := by
  refine zM_of (ini := false) (L := [some (.ref a0), some (.int a1), some (.int a2), some (.int a3), none, none, none]) (plainFor_of_name (by decide)) (fun h => by cases h) (Nat.le_of_ble_eq_true rfl) rfl ?_
  unfold fn_Ls_odds at h
  refine zg_iload_n (pc' := 1) zd_Ls_odds_0 rfl rfl ?_
  rcases br_some h with ⟨c1, h⟩ | ⟨c1, h⟩
  · refine zg_if_lt (tgt := 17) (pc' := 4) zd_Ls_odds_1 (by decide) rfl (fun _ => ?_) (fun q => absurd c1 q)
    refine zg_ldc2 (x := (-9223372036854775808 : Int64)) (pc' := 20) zd_Ls_odds_17 zq678 rfl ?_
    obtain ⟨rfl, rfl⟩ := rt_q h
    exact zg_lret zd_Ls_odds_20 zrt_l
  · refine zg_if_lt (tgt := 17) (pc' := 4) zd_Ls_odds_1 (by decide) rfl (fun q => absurd q c1) (fun _ => ?_)
    refine zg_iload_n (pc' := 5) zd_Ls_odds_4 rfl rfl ?_
    refine zg_bipush (x := (12 : Int32)) (pc' := 7) zd_Ls_odds_5 (by decide) rfl ?_
    rcases br_some h with ⟨c2, h⟩ | ⟨c2, h⟩
    · refine zg_icmp_ge (tgt := 17) (pc' := 10) zd_Ls_odds_7 (by decide) rfl (fun _ => ?_) (fun q => absurd c2 q)
      refine zg_ldc2 (x := (-9223372036854775808 : Int64)) (pc' := 20) zd_Ls_odds_17 zq678 rfl ?_
      obtain ⟨rfl, rfl⟩ := rt_q h
      exact zg_lret zd_Ls_odds_20 zrt_l
    · refine zg_icmp_ge (tgt := 17) (pc' := 10) zd_Ls_odds_7 (by decide) rfl (fun q => absurd q c2) (fun _ => ?_)
      refine zg_iload_n (pc' := 11) zd_Ls_odds_10 rfl rfl ?_
      obtain ⟨r5, S3, e4, h⟩ := bq_some h
      refine zg_callS (As := [.int a2]) (rest := []) (pc' := 14) zl_Ls_106 zq349 zd_Ls_odds_11 rfl rfl (Nat.le_of_ble_eq_true rfl) (by omega) (tm_Ls_isNovice (d := 2) (Nat.le_refl _) e4) rfl ?_
      refine zg_st (st' := [.int r5]) rfl ?_
      rcases br_some h with ⟨c6, h⟩ | ⟨c6, h⟩
      · refine zg_if_ne (tgt := 21) (pc' := 17) zd_Ls_odds_14 (by decide) rfl (fun q => absurd c6 q) (fun _ => ?_)
        refine zg_ldc2 (x := (-9223372036854775808 : Int64)) (pc' := 20) zd_Ls_odds_17 zq678 rfl ?_
        obtain ⟨rfl, rfl⟩ := rt_q h
        exact zg_lret zd_Ls_odds_20 zrt_l
      · refine zg_if_ne (tgt := 21) (pc' := 17) zd_Ls_odds_14 (by decide) rfl (fun _ => ?_) (fun q => absurd q c6)
        refine zg_iload_n (pc' := 22) zd_Ls_odds_21 rfl rfl ?_
        rcases br_some h with ⟨c7, h⟩ | ⟨c7, h⟩
        · refine zg_if_lt (tgt := 40) (pc' := 25) zd_Ls_odds_22 (by decide) rfl (fun _ => ?_) (fun q => absurd c7 q)
          refine zg_ldc2 (x := (-9223372036854775808 : Int64)) (pc' := 43) zd_Ls_odds_40 zq678 rfl ?_
          obtain ⟨rfl, rfl⟩ := rt_q h
          exact zg_lret zd_Ls_odds_43 zrt_l
        · refine zg_if_lt (tgt := 40) (pc' := 25) zd_Ls_odds_22 (by decide) rfl (fun q => absurd q c7) (fun _ => ?_)
          refine zg_iload_n (pc' := 26) zd_Ls_odds_25 rfl rfl ?_
          refine zg_iconst (x := (1 : Int32)) (pc' := 27) zd_Ls_odds_26 (by decide) rfl ?_
          rcases br_some h with ⟨c8, h⟩ | ⟨c8, h⟩
          · refine zg_icmp_gt (tgt := 40) (pc' := 30) zd_Ls_odds_27 (by decide) rfl (fun _ => ?_) (fun q => absurd c8 q)
            refine zg_ldc2 (x := (-9223372036854775808 : Int64)) (pc' := 43) zd_Ls_odds_40 zq678 rfl ?_
            obtain ⟨rfl, rfl⟩ := rt_q h
            exact zg_lret zd_Ls_odds_43 zrt_l
          · refine zg_icmp_gt (tgt := 40) (pc' := 30) zd_Ls_odds_27 (by decide) rfl (fun q => absurd q c8) (fun _ => ?_)
            refine zg_aload_n (pc' := 31) zd_Ls_odds_30 rfl rfl ?_
            obtain ⟨g9, h⟩ := gd_some h
            refine zg_getR (pc' := 34) zf_Ls_74 rfl zd_Ls_odds_31 (gT_ok g9) rfl ?_
            obtain ⟨g10, h⟩ := gd_some h
            refine zg_getI (pc' := 37) zf_Ls_92 zd_Ls_odds_34 (gT_ok g10) rfl ?_
            rcases br_some h with ⟨c11, h⟩ | ⟨c11, h⟩
            · refine zg_if_ne (tgt := 44) (pc' := 40) zd_Ls_odds_37 (by decide) rfl (fun q => absurd c11 q) (fun _ => ?_)
              refine zg_ldc2 (x := (-9223372036854775808 : Int64)) (pc' := 43) zd_Ls_odds_40 zq678 rfl ?_
              obtain ⟨rfl, rfl⟩ := rt_q h
              exact zg_lret zd_Ls_odds_43 zrt_l
            · refine zg_if_ne (tgt := 44) (pc' := 40) zd_Ls_odds_37 (by decide) rfl (fun _ => ?_) (fun q => absurd q c11)
              refine zg_iconst (x := (0 : Int32)) (pc' := 45) zd_Ls_odds_44 (by decide) rfl ?_
              refine zg_istore (L' := [some (.ref a0), some (.int a1), some (.int a2), some (.int a3), some (.int (0 : Int32)), none, none]) (pc' := 47) zd_Ls_odds_45 (by decide) rfl rfl ?_
              refine zg_iconst (x := (0 : Int32)) (pc' := 48) zd_Ls_odds_47 (by decide) rfl ?_
              refine zg_istore (L' := [some (.ref a0), some (.int a1), some (.int a2), some (.int a3), some (.int (0 : Int32)), some (.int (0 : Int32)), none]) (pc' := 50) zd_Ls_odds_48 (by decide) rfl rfl ?_
              exact lp_indh h (P := fun s => zG X zm_Ls_odds d 50 [some (.ref (s.1)), some (.int (s.2.1)), some (.int (s.2.2.1)), some (.int (s.2.2.2.1)), some (.int (s.2.2.2.2.1)), some (.int (s.2.2.2.2.2.1)), none] [] (s.2.2.2.2.2.2) (some (.long v)) S') (fun k hk s h => tm_Ls_odds_L50 hd (fun a0 a1 a2 a3 a4 a5 S h => hk (a0, a1, a2, a3, a4, a5, S) h) h)
theorem zd_Ls_mean_0 : decode prog_1_method_21_code 0 = .ok (.iload_n 1, 1) := by decide +kernel
theorem zd_Ls_mean_1 : decode prog_1_method_21_code 1 = .ok (.ifCond .lt 28, 3) := by decide +kernel
theorem zd_Ls_mean_4 : decode prog_1_method_21_code 4 = .ok (.iload_n 1, 1) := by decide +kernel
theorem zd_Ls_mean_5 : decode prog_1_method_21_code 5 = .ok (.bipush 60, 2) := by decide +kernel
theorem zd_Ls_mean_7 : decode prog_1_method_21_code 7 = .ok (.if_icmp .gt 22, 3) := by decide +kernel
theorem zd_Ls_mean_10 : decode prog_1_method_21_code 10 = .ok (.iload_n 2, 1) := by decide +kernel
theorem zd_Ls_mean_11 : decode prog_1_method_21_code 11 = .ok (.ifCond .lt 18, 3) := by decide +kernel
theorem zd_Ls_mean_14 : decode prog_1_method_21_code 14 = .ok (.iload_n 2, 1) := by decide +kernel
theorem zd_Ls_mean_15 : decode prog_1_method_21_code 15 = .ok (.iconst 1, 1) := by decide +kernel
theorem zd_Ls_mean_16 : decode prog_1_method_21_code 16 = .ok (.if_icmp .gt 13, 3) := by decide +kernel
theorem zd_Ls_mean_19 : decode prog_1_method_21_code 19 = .ok (.aload_n 0, 1) := by decide +kernel
theorem zd_Ls_mean_20 : decode prog_1_method_21_code 20 = .ok (.getfield 74, 3) := by decide +kernel
theorem zd_Ls_mean_23 : decode prog_1_method_21_code 23 = .ok (.getfield 92, 3) := by decide +kernel
theorem zd_Ls_mean_26 : decode prog_1_method_21_code 26 = .ok (.ifCond .ne 7, 3) := by decide +kernel
theorem zd_Ls_mean_33 : decode prog_1_method_21_code 33 = .ok (.aload_n 0, 1) := by decide +kernel
theorem zd_Ls_mean_34 : decode prog_1_method_21_code 34 = .ok (.getfield 78, 3) := by decide +kernel
theorem zd_Ls_mean_37 : decode prog_1_method_21_code 37 = .ok (.aload_n 0, 1) := by decide +kernel
theorem zd_Ls_mean_38 : decode prog_1_method_21_code 38 = .ok (.getfield 74, 3) := by decide +kernel
theorem zd_Ls_mean_41 : decode prog_1_method_21_code 41 = .ok (.invokevirtual 202, 3) := by decide +kernel
theorem zd_Ls_mean_44 : decode prog_1_method_21_code 44 = .ok (.aload_n 0, 1) := by decide +kernel
theorem zd_Ls_mean_45 : decode prog_1_method_21_code 45 = .ok (.getfield 78, 3) := by decide +kernel
theorem zd_Ls_mean_48 : decode prog_1_method_21_code 48 = .ok (.iload_n 1, 1) := by decide +kernel
theorem zd_Ls_mean_49 : decode prog_1_method_21_code 49 = .ok (.invokevirtual 199, 3) := by decide +kernel
theorem zd_Ls_mean_52 : decode prog_1_method_21_code 52 = .ok (.aload_n 0, 1) := by decide +kernel
theorem zd_Ls_mean_53 : decode prog_1_method_21_code 53 = .ok (.getfield 78, 3) := by decide +kernel
theorem zd_Ls_mean_56 : decode prog_1_method_21_code 56 = .ok (.invokevirtual 255, 3) := by decide +kernel
theorem zd_Ls_mean_59 : decode prog_1_method_21_code 59 = .ok (.aload_n 0, 1) := by decide +kernel
theorem zd_Ls_mean_60 : decode prog_1_method_21_code 60 = .ok (.getfield 74, 3) := by decide +kernel
theorem zd_Ls_mean_63 : decode prog_1_method_21_code 63 = .ok (.getfield 92, 3) := by decide +kernel
theorem zd_Ls_mean_66 : decode prog_1_method_21_code 66 = .ok (.iload_n 2, 1) := by decide +kernel
theorem zd_Ls_mean_67 : decode prog_1_method_21_code 67 = .ok (.invokestatic 251, 3) := by decide +kernel
theorem zd_Ls_mean_70 : decode prog_1_method_21_code 70 = .ok (.lreturn, 1) := by decide +kernel
theorem zd_Ls_mean_29 : decode prog_1_method_21_code 29 = .ok (.ldc2_w 249, 3) := by decide +kernel
theorem zd_Ls_mean_32 : decode prog_1_method_21_code 32 = .ok (.lreturn, 1) := by decide +kernel
abbrev zm_Ls_mean : zQ := ("LoofahSaints", prog_1_method_21_code, 3, (Option.some Jvm.ClassFile.FieldType.long), false)
set_option maxRecDepth 100000 in
def fn_Ls_mean (a0 : Nat) (a1 : Int32) (a2 : Int32) (S : zS) : Option (Int64 × zS) :=
  br (decide (a1 < 0)) (some ((-9223372036854775808 : Int64), S)) <|
  br (decide ((60 : Int32) < a1)) (some ((-9223372036854775808 : Int64), S)) <|
  br (decide (a2 < 0)) (some ((-9223372036854775808 : Int64), S)) <|
  br (decide ((1 : Int32) < a2)) (some ((-9223372036854775808 : Int64), S)) <|
  gd (gT S a0 109) <|
  gd (gT S (zR S a0 7) 101) <|
  br (decide ((zI S (zR S a0 7) 6) = 0)) (some ((-9223372036854775808 : Int64), S)) <|
  gd (gT S (zR S a0 8) 101) <|
  bv (fn_Ho_copy (zR S a0 8) (zR S a0 7) S) fun S9 =>
  gd (gT S9 a0 109) <|
  gd (gT S9 (zR S9 a0 8) 101) <|
  bv (fn_Ho_goDays (zR S9 a0 8) a1 S9) fun S13 =>
  gd (gT S13 a0 109) <|
  gd (gT S13 (zR S13 a0 8) 101) <|
  bq (fn_Ho_wearOfAll (zR S13 a0 8) S13) fun r19 S17 =>
  gd (gT S17 a0 109) <|
  gd (gT S17 (zR S17 a0 7) 101) <|
  bq (fn_Ls_lowest r19 (zI S17 (zR S17 a0 7) 6) a2 S17) fun r24 S22 =>
  some (r24, S22)
set_option maxRecDepth 100000 in
set_option maxHeartbeats 4000000 in
theorem tm_Ls_mean {X : zXt} {d : Nat} (hd : 8 ≤ d) {v : Int64} {a0 : Nat} {a1 : Int32} {a2 : Int32} {S : zS} {S' : zS} (h : fn_Ls_mean a0 a1 a2 S = some (v, S')) : zM X zy_Ls_mean prog_1_method_21_code 3 (Option.some Jvm.ClassFile.FieldType.long) d [.ref a0, .int a1, .int a2] S (some (.long v)) S' := by
  refine zM_of (ini := false) (L := [some (.ref a0), some (.int a1), some (.int a2)]) (plainFor_of_name (by decide)) (fun h => by cases h) (Nat.le_of_ble_eq_true rfl) rfl ?_
  unfold fn_Ls_mean at h
  refine zg_iload_n (pc' := 1) zd_Ls_mean_0 rfl rfl ?_
  rcases br_some h with ⟨c1, h⟩ | ⟨c1, h⟩
  · refine zg_if_lt (tgt := 29) (pc' := 4) zd_Ls_mean_1 (by decide) rfl (fun _ => ?_) (fun q => absurd c1 q)
    refine zg_ldc2 (x := (-9223372036854775808 : Int64)) (pc' := 32) zd_Ls_mean_29 zq678 rfl ?_
    obtain ⟨rfl, rfl⟩ := rt_q h
    exact zg_lret zd_Ls_mean_32 zrt_l
  · refine zg_if_lt (tgt := 29) (pc' := 4) zd_Ls_mean_1 (by decide) rfl (fun q => absurd q c1) (fun _ => ?_)
    refine zg_iload_n (pc' := 5) zd_Ls_mean_4 rfl rfl ?_
    refine zg_bipush (x := (60 : Int32)) (pc' := 7) zd_Ls_mean_5 (by decide) rfl ?_
    rcases br_some h with ⟨c2, h⟩ | ⟨c2, h⟩
    · refine zg_icmp_gt (tgt := 29) (pc' := 10) zd_Ls_mean_7 (by decide) rfl (fun _ => ?_) (fun q => absurd c2 q)
      refine zg_ldc2 (x := (-9223372036854775808 : Int64)) (pc' := 32) zd_Ls_mean_29 zq678 rfl ?_
      obtain ⟨rfl, rfl⟩ := rt_q h
      exact zg_lret zd_Ls_mean_32 zrt_l
    · refine zg_icmp_gt (tgt := 29) (pc' := 10) zd_Ls_mean_7 (by decide) rfl (fun q => absurd q c2) (fun _ => ?_)
      refine zg_iload_n (pc' := 11) zd_Ls_mean_10 rfl rfl ?_
      rcases br_some h with ⟨c3, h⟩ | ⟨c3, h⟩
      · refine zg_if_lt (tgt := 29) (pc' := 14) zd_Ls_mean_11 (by decide) rfl (fun _ => ?_) (fun q => absurd c3 q)
        refine zg_ldc2 (x := (-9223372036854775808 : Int64)) (pc' := 32) zd_Ls_mean_29 zq678 rfl ?_
        obtain ⟨rfl, rfl⟩ := rt_q h
        exact zg_lret zd_Ls_mean_32 zrt_l
      · refine zg_if_lt (tgt := 29) (pc' := 14) zd_Ls_mean_11 (by decide) rfl (fun q => absurd q c3) (fun _ => ?_)
        refine zg_iload_n (pc' := 15) zd_Ls_mean_14 rfl rfl ?_
        refine zg_iconst (x := (1 : Int32)) (pc' := 16) zd_Ls_mean_15 (by decide) rfl ?_
        rcases br_some h with ⟨c4, h⟩ | ⟨c4, h⟩
        · refine zg_icmp_gt (tgt := 29) (pc' := 19) zd_Ls_mean_16 (by decide) rfl (fun _ => ?_) (fun q => absurd c4 q)
          refine zg_ldc2 (x := (-9223372036854775808 : Int64)) (pc' := 32) zd_Ls_mean_29 zq678 rfl ?_
          obtain ⟨rfl, rfl⟩ := rt_q h
          exact zg_lret zd_Ls_mean_32 zrt_l
        · refine zg_icmp_gt (tgt := 29) (pc' := 19) zd_Ls_mean_16 (by decide) rfl (fun q => absurd q c4) (fun _ => ?_)
          refine zg_aload_n (pc' := 20) zd_Ls_mean_19 rfl rfl ?_
          obtain ⟨g5, h⟩ := gd_some h
          refine zg_getR (pc' := 23) zf_Ls_74 rfl zd_Ls_mean_20 (gT_ok g5) rfl ?_
          obtain ⟨g6, h⟩ := gd_some h
          refine zg_getI (pc' := 26) zf_Ls_92 zd_Ls_mean_23 (gT_ok g6) rfl ?_
          rcases br_some h with ⟨c7, h⟩ | ⟨c7, h⟩
          · refine zg_if_ne (tgt := 33) (pc' := 29) zd_Ls_mean_26 (by decide) rfl (fun q => absurd c7 q) (fun _ => ?_)
            refine zg_ldc2 (x := (-9223372036854775808 : Int64)) (pc' := 32) zd_Ls_mean_29 zq678 rfl ?_
            obtain ⟨rfl, rfl⟩ := rt_q h
            exact zg_lret zd_Ls_mean_32 zrt_l
          · refine zg_if_ne (tgt := 33) (pc' := 29) zd_Ls_mean_26 (by decide) rfl (fun _ => ?_) (fun q => absurd q c7)
            refine zg_aload_n (pc' := 34) zd_Ls_mean_33 rfl rfl ?_
            refine zg_getR (pc' := 37) zf_Ls_78 rfl zd_Ls_mean_34 (gT_ok g5) rfl ?_
            refine zg_aload_n (pc' := 38) zd_Ls_mean_37 rfl rfl ?_
            refine zg_getR (pc' := 41) zf_Ls_74 rfl zd_Ls_mean_38 (gT_ok g5) rfl ?_
            obtain ⟨g8, h⟩ := gd_some h
            obtain ⟨S9, e10, h⟩ := bv_some h
            refine zg_callV (ci := 1) (As := [.ref (zR S a0 7)]) (rest := []) (pc' := 44) zl_Ls_202 zq548 zq549 ⟨_, rfl, rfl⟩ zd_Ls_mean_41 rfl rfl (Nat.le_of_ble_eq_true rfl) (by omega) (gT_ok g8) (tm_Ho_copy (d := 4) (Nat.le_refl _) e10) rfl ?_
            refine zg_st (st' := []) rfl ?_
            refine zg_aload_n (pc' := 45) zd_Ls_mean_44 rfl rfl ?_
            obtain ⟨g11, h⟩ := gd_some h
            refine zg_getR (pc' := 48) zf_Ls_78 rfl zd_Ls_mean_45 (gT_ok g11) rfl ?_
            refine zg_iload_n (pc' := 49) zd_Ls_mean_48 rfl rfl ?_
            obtain ⟨g12, h⟩ := gd_some h
            obtain ⟨S13, e14, h⟩ := bv_some h
            refine zg_callV (ci := 1) (As := [.int a1]) (rest := []) (pc' := 52) zl_Ls_199 zq612 zq613 ⟨_, rfl, rfl⟩ zd_Ls_mean_49 rfl rfl (Nat.le_of_ble_eq_true rfl) (by omega) (gT_ok g12) (tm_Ho_goDays (d := 7) (Nat.le_refl _) e14) rfl ?_
            refine zg_st (st' := []) rfl ?_
            refine zg_aload_n (pc' := 53) zd_Ls_mean_52 rfl rfl ?_
            obtain ⟨g15, h⟩ := gd_some h
            refine zg_getR (pc' := 56) zf_Ls_78 rfl zd_Ls_mean_53 (gT_ok g15) rfl ?_
            obtain ⟨g16, h⟩ := gd_some h
            obtain ⟨r19, S17, e18, h⟩ := bq_some h
            refine zg_callV (ci := 1) (As := []) (rest := []) (pc' := 59) zl_Ls_255 zq687 zq688 ⟨_, rfl, rfl⟩ zd_Ls_mean_56 rfl rfl (Nat.le_of_ble_eq_true rfl) (by omega) (gT_ok g16) (tm_Ho_wearOfAll (d := 2) (Nat.le_refl _) e18) rfl ?_
            refine zg_st (st' := [.int r19]) rfl ?_
            refine zg_aload_n (pc' := 60) zd_Ls_mean_59 rfl rfl ?_
            obtain ⟨g20, h⟩ := gd_some h
            refine zg_getR (pc' := 63) zf_Ls_74 rfl zd_Ls_mean_60 (gT_ok g20) rfl ?_
            obtain ⟨g21, h⟩ := gd_some h
            refine zg_getI (pc' := 66) zf_Ls_92 zd_Ls_mean_63 (gT_ok g21) rfl ?_
            refine zg_iload_n (pc' := 67) zd_Ls_mean_66 rfl rfl ?_
            obtain ⟨r24, S22, e23, h⟩ := bq_some h
            refine zg_callS (As := [.int r19, .int (zI S17 (zR S17 a0 7) 6), .int a2]) (rest := []) (pc' := 70) zl_Ls_251 zq680 zd_Ls_mean_67 rfl rfl (Nat.le_of_ble_eq_true rfl) (by omega) (tm_Ls_lowest (d := 2) (Nat.le_refl _) e23) rfl ?_
            refine zg_st (st' := [.long r24]) rfl ?_
            obtain ⟨rfl, rfl⟩ := rt_q h
            exact zg_lret zd_Ls_mean_70 zrt_l
theorem zd_Ls_plan_0 : decode prog_1_method_23_code 0 = .ok (.iload_n 1, 1) := by decide +kernel
theorem zd_Ls_plan_1 : decode prog_1_method_23_code 1 = .ok (.iconst (-1), 1) := by decide +kernel
theorem zd_Ls_plan_2 : decode prog_1_method_23_code 2 = .ok (.if_icmp .ne 14, 3) := by decide +kernel
theorem zd_Ls_plan_16 : decode prog_1_method_23_code 16 = .ok (.iload_n 1, 1) := by decide +kernel
theorem zd_Ls_plan_17 : decode prog_1_method_23_code 17 = .ok (.ifCond .lt 8, 3) := by decide +kernel
theorem zd_Ls_plan_20 : decode prog_1_method_23_code 20 = .ok (.iload_n 1, 1) := by decide +kernel
theorem zd_Ls_plan_21 : decode prog_1_method_23_code 21 = .ok (.iconst 3, 1) := by decide +kernel
theorem zd_Ls_plan_22 : decode prog_1_method_23_code 22 = .ok (.if_icmp .le 5, 3) := by decide +kernel
theorem zd_Ls_plan_27 : decode prog_1_method_23_code 27 = .ok (.iload_n 1, 1) := by decide +kernel
theorem zd_Ls_plan_28 : decode prog_1_method_23_code 28 = .ok (.iconst 1, 1) := by decide +kernel
theorem zd_Ls_plan_29 : decode prog_1_method_23_code 29 = .ok (.if_icmp .ne 33, 3) := by decide +kernel
theorem zd_Ls_plan_32 : decode prog_1_method_23_code 32 = .ok (.iload_n 2, 1) := by decide +kernel
theorem zd_Ls_plan_33 : decode prog_1_method_23_code 33 = .ok (.ifCond .lt 27, 3) := by decide +kernel
theorem zd_Ls_plan_36 : decode prog_1_method_23_code 36 = .ok (.aload_n 0, 1) := by decide +kernel
theorem zd_Ls_plan_37 : decode prog_1_method_23_code 37 = .ok (.getfield 74, 3) := by decide +kernel
theorem zd_Ls_plan_40 : decode prog_1_method_23_code 40 = .ok (.iload_n 2, 1) := by decide +kernel
theorem zd_Ls_plan_41 : decode prog_1_method_23_code 41 = .ok (.bipush 10, 2) := by decide +kernel
theorem zd_Ls_plan_43 : decode prog_1_method_23_code 43 = .ok (.idiv, 1) := by decide +kernel
theorem zd_Ls_plan_44 : decode prog_1_method_23_code 44 = .ok (.invokevirtual 103, 3) := by decide +kernel
theorem zd_Ls_plan_47 : decode prog_1_method_23_code 47 = .ok (.ifCond .eq 13, 3) := by decide +kernel
theorem zd_Ls_plan_50 : decode prog_1_method_23_code 50 = .ok (.iload_n 2, 1) := by decide +kernel
theorem zd_Ls_plan_51 : decode prog_1_method_23_code 51 = .ok (.bipush 10, 2) := by decide +kernel
theorem zd_Ls_plan_53 : decode prog_1_method_23_code 53 = .ok (.irem, 1) := by decide +kernel
theorem zd_Ls_plan_54 : decode prog_1_method_23_code 54 = .ok (.invokestatic 106, 3) := by decide +kernel
theorem zd_Ls_plan_57 : decode prog_1_method_23_code 57 = .ok (.ifCond .ne 5, 3) := by decide +kernel
theorem zd_Ls_plan_62 : decode prog_1_method_23_code 62 = .ok (.iload_n 1, 1) := by decide +kernel
theorem zd_Ls_plan_63 : decode prog_1_method_23_code 63 = .ok (.iconst 1, 1) := by decide +kernel
theorem zd_Ls_plan_64 : decode prog_1_method_23_code 64 = .ok (.if_icmp .le 16, 3) := by decide +kernel
theorem zd_Ls_plan_67 : decode prog_1_method_23_code 67 = .ok (.aload_n 0, 1) := by decide +kernel
theorem zd_Ls_plan_68 : decode prog_1_method_23_code 68 = .ok (.getfield 74, 3) := by decide +kernel
theorem zd_Ls_plan_71 : decode prog_1_method_23_code 71 = .ok (.iload_n 2, 1) := by decide +kernel
theorem zd_Ls_plan_72 : decode prog_1_method_23_code 72 = .ok (.invokevirtual 103, 3) := by decide +kernel
theorem zd_Ls_plan_75 : decode prog_1_method_23_code 75 = .ok (.ifCond .ne 5, 3) := by decide +kernel
theorem zd_Ls_plan_80 : decode prog_1_method_23_code 80 = .ok (.aload_n 0, 1) := by decide +kernel
theorem zd_Ls_plan_81 : decode prog_1_method_23_code 81 = .ok (.getfield 74, 3) := by decide +kernel
theorem zd_Ls_plan_84 : decode prog_1_method_23_code 84 = .ok (.getfield 258, 3) := by decide +kernel
theorem zd_Ls_plan_87 : decode prog_1_method_23_code 87 = .ok (.iload_n 1, 1) := by decide +kernel
theorem zd_Ls_plan_88 : decode prog_1_method_23_code 88 = .ok (.iload_n 2, 1) := by decide +kernel
theorem zd_Ls_plan_89 : decode prog_1_method_23_code 89 = .ok (.iconst 0, 1) := by decide +kernel
theorem zd_Ls_plan_90 : decode prog_1_method_23_code 90 = .ok (.invokevirtual 238, 3) := by decide +kernel
theorem zd_Ls_plan_93 : decode prog_1_method_23_code 93 = .ok (.ireturn, 1) := by decide +kernel
theorem zd_Ls_plan_78 : decode prog_1_method_23_code 78 = .ok (.iconst (-1), 1) := by decide +kernel
theorem zd_Ls_plan_79 : decode prog_1_method_23_code 79 = .ok (.ireturn, 1) := by decide +kernel
theorem zd_Ls_plan_60 : decode prog_1_method_23_code 60 = .ok (.iconst (-1), 1) := by decide +kernel
theorem zd_Ls_plan_61 : decode prog_1_method_23_code 61 = .ok (.ireturn, 1) := by decide +kernel
theorem zd_Ls_plan_25 : decode prog_1_method_23_code 25 = .ok (.iconst (-1), 1) := by decide +kernel
theorem zd_Ls_plan_26 : decode prog_1_method_23_code 26 = .ok (.ireturn, 1) := by decide +kernel
theorem zd_Ls_plan_5 : decode prog_1_method_23_code 5 = .ok (.aload_n 0, 1) := by decide +kernel
theorem zd_Ls_plan_6 : decode prog_1_method_23_code 6 = .ok (.getfield 74, 3) := by decide +kernel
theorem zd_Ls_plan_9 : decode prog_1_method_23_code 9 = .ok (.getfield 258, 3) := by decide +kernel
theorem zd_Ls_plan_12 : decode prog_1_method_23_code 12 = .ok (.invokevirtual 233, 3) := by decide +kernel
theorem zd_Ls_plan_15 : decode prog_1_method_23_code 15 = .ok (.ireturn, 1) := by decide +kernel
abbrev zm_Ls_plan : zQ := ("LoofahSaints", prog_1_method_23_code, 3, (Option.some Jvm.ClassFile.FieldType.int), false)
set_option maxRecDepth 100000 in
def fn_Ls_plan_L62 (a0 : Nat) (a1 : Int32) (a2 : Int32) (S : zS) : Option (Int32 × zS) :=
  br (decide (a1 ≤ (1 : Int32))) (gd (gT S a0 109) <|
  gd (gT S (zR S a0 7) 101) <|
  gd (gT S (zR S (zR S a0 7) 4) 104) <|
  bq (fn_Rw_add (zR S (zR S a0 7) 4) a1 a2 (0 : Int32) S) fun r7 S5 =>
  some (r7, S5)) <|
  gd (gT S a0 109) <|
  gd (gT S (zR S a0 7) 101) <|
  bq (fn_Ho_has (zR S a0 7) a2 S) fun r12 S10 =>
  br (decide (r12 = 0)) (some ((-1 : Int32), S10)) <|
  gd (gT S10 a0 109) <|
  gd (gT S10 (zR S10 a0 7) 101) <|
  gd (gT S10 (zR S10 (zR S10 a0 7) 4) 104) <|
  bq (fn_Rw_add (zR S10 (zR S10 a0 7) 4) a1 a2 (0 : Int32) S10) fun r19 S17 =>
  some (r19, S17)
set_option maxRecDepth 100000 in
set_option maxHeartbeats 4000000 in
theorem tm_Ls_plan_L62 {X : zXt} {d : Nat} (hd : 3 ≤ d) {v : Int32} {S' : zS}  {a0 : Nat} {a1 : Int32} {a2 : Int32} {S : zS} (h : fn_Ls_plan_L62 a0 a1 a2 S = some (v, S')) : zG X zm_Ls_plan d 62 [some (.ref a0), some (.int a1), some (.int a2)] [] S (some (.int v)) S' := by
  unfold fn_Ls_plan_L62 at h
  refine zg_iload_n (pc' := 63) zd_Ls_plan_62 rfl rfl ?_
  refine zg_iconst (x := (1 : Int32)) (pc' := 64) zd_Ls_plan_63 (by decide) rfl ?_
  rcases br_some h with ⟨c1, h⟩ | ⟨c1, h⟩
  · refine zg_icmp_le (tgt := 80) (pc' := 67) zd_Ls_plan_64 (by decide) rfl (fun _ => ?_) (fun q => absurd c1 q)
    refine zg_aload_n (pc' := 81) zd_Ls_plan_80 rfl rfl ?_
    obtain ⟨g2, h⟩ := gd_some h
    refine zg_getR (pc' := 84) zf_Ls_74 rfl zd_Ls_plan_81 (gT_ok g2) rfl ?_
    obtain ⟨g3, h⟩ := gd_some h
    refine zg_getR (pc' := 87) zf_Ls_258 rfl zd_Ls_plan_84 (gT_ok g3) rfl ?_
    refine zg_iload_n (pc' := 88) zd_Ls_plan_87 rfl rfl ?_
    refine zg_iload_n (pc' := 89) zd_Ls_plan_88 rfl rfl ?_
    refine zg_iconst (x := (0 : Int32)) (pc' := 90) zd_Ls_plan_89 (by decide) rfl ?_
    obtain ⟨g4, h⟩ := gd_some h
    obtain ⟨r7, S5, e6, h⟩ := bq_some h
    refine zg_callV (ci := 4) (As := [.int a1, .int a2, .int (0 : Int32)]) (rest := []) (pc' := 93) zl_Ls_238 zq654 zq655 ⟨_, rfl, rfl⟩ zd_Ls_plan_90 rfl rfl (Nat.le_of_ble_eq_true rfl) (by omega) (gT_ok g4) (tm_Rw_add (d := 2) (Nat.le_refl _) e6) rfl ?_
    refine zg_st (st' := [.int r7]) rfl ?_
    obtain ⟨rfl, rfl⟩ := rt_q h
    exact zg_iret zd_Ls_plan_93 zrt_i
  · refine zg_icmp_le (tgt := 80) (pc' := 67) zd_Ls_plan_64 (by decide) rfl (fun q => absurd q c1) (fun _ => ?_)
    refine zg_aload_n (pc' := 68) zd_Ls_plan_67 rfl rfl ?_
    obtain ⟨g8, h⟩ := gd_some h
    refine zg_getR (pc' := 71) zf_Ls_74 rfl zd_Ls_plan_68 (gT_ok g8) rfl ?_
    refine zg_iload_n (pc' := 72) zd_Ls_plan_71 rfl rfl ?_
    obtain ⟨g9, h⟩ := gd_some h
    obtain ⟨r12, S10, e11, h⟩ := bq_some h
    refine zg_callV (ci := 1) (As := [.int a2]) (rest := []) (pc' := 75) zl_Ls_103 zq345 zq346 ⟨_, rfl, rfl⟩ zd_Ls_plan_72 rfl rfl (Nat.le_of_ble_eq_true rfl) (by omega) (gT_ok g9) (tm_Ho_has (d := 2) (Nat.le_refl _) e11) rfl ?_
    refine zg_st (st' := [.int r12]) rfl ?_
    rcases br_some h with ⟨c13, h⟩ | ⟨c13, h⟩
    · refine zg_if_ne (tgt := 80) (pc' := 78) zd_Ls_plan_75 (by decide) rfl (fun q => absurd c13 q) (fun _ => ?_)
      refine zg_iconst (x := (-1 : Int32)) (pc' := 79) zd_Ls_plan_78 (by decide) rfl ?_
      obtain ⟨rfl, rfl⟩ := rt_q h
      exact zg_iret zd_Ls_plan_79 zrt_i
    · refine zg_if_ne (tgt := 80) (pc' := 78) zd_Ls_plan_75 (by decide) rfl (fun _ => ?_) (fun q => absurd q c13)
      refine zg_aload_n (pc' := 81) zd_Ls_plan_80 rfl rfl ?_
      obtain ⟨g14, h⟩ := gd_some h
      refine zg_getR (pc' := 84) zf_Ls_74 rfl zd_Ls_plan_81 (gT_ok g14) rfl ?_
      obtain ⟨g15, h⟩ := gd_some h
      refine zg_getR (pc' := 87) zf_Ls_258 rfl zd_Ls_plan_84 (gT_ok g15) rfl ?_
      refine zg_iload_n (pc' := 88) zd_Ls_plan_87 rfl rfl ?_
      refine zg_iload_n (pc' := 89) zd_Ls_plan_88 rfl rfl ?_
      refine zg_iconst (x := (0 : Int32)) (pc' := 90) zd_Ls_plan_89 (by decide) rfl ?_
      obtain ⟨g16, h⟩ := gd_some h
      obtain ⟨r19, S17, e18, h⟩ := bq_some h
      refine zg_callV (ci := 4) (As := [.int a1, .int a2, .int (0 : Int32)]) (rest := []) (pc' := 93) zl_Ls_238 zq654 zq655 ⟨_, rfl, rfl⟩ zd_Ls_plan_90 rfl rfl (Nat.le_of_ble_eq_true rfl) (by omega) (gT_ok g16) (tm_Rw_add (d := 2) (Nat.le_refl _) e18) rfl ?_
      refine zg_st (st' := [.int r19]) rfl ?_
      obtain ⟨rfl, rfl⟩ := rt_q h
      exact zg_iret zd_Ls_plan_93 zrt_i
set_option maxRecDepth 100000 in
def fn_Ls_plan (a0 : Nat) (a1 : Int32) (a2 : Int32) (S : zS) : Option (Int32 × zS) :=
  br (decide (a1 = (-1 : Int32))) (gd (gT S a0 109) <|
  gd (gT S (zR S a0 7) 101) <|
  gd (gT S (zR S (zR S a0 7) 4) 104) <|
  bq (fn_Rw_clear (zR S (zR S a0 7) 4) S) fun r21 S19 =>
  some (r21, S19)) <|
  br (decide (a1 < 0)) (some ((-1 : Int32), S)) <|
  br (decide (a1 ≤ (3 : Int32))) (br (decide (a1 = (1 : Int32))) (br (decide (a2 < 0)) (some ((-1 : Int32), S)) <|
  gd (gT S a0 109) <|
  gd (gT S (zR S a0 7) 101) <|
  bq (fn_Ho_has (zR S a0 7) (a2 / (10 : Int32)) S) fun r10 S8 =>
  br (decide (r10 = 0)) (some ((-1 : Int32), S8)) <|
  bq (fn_Ls_isNovice (a2 - a2 / (10 : Int32) * (10 : Int32)) S8) fun r14 S12 =>
  br (decide (r14 = 0)) (some ((-1 : Int32), S12)) <|
  fn_Ls_plan_L62 a0 a1 a2 S12) <|
  fn_Ls_plan_L62 a0 a1 a2 S) <|
  some ((-1 : Int32), S)
set_option maxRecDepth 100000 in
set_option maxHeartbeats 4000000 in
theorem tm_Ls_plan {X : zXt} {d : Nat} (hd : 3 ≤ d) {v : Int32} {a0 : Nat} {a1 : Int32} {a2 : Int32} {S : zS} {S' : zS} (h : fn_Ls_plan a0 a1 a2 S = some (v, S')) : zM X zy_Ls_plan prog_1_method_23_code 3 (Option.some Jvm.ClassFile.FieldType.int) d [.ref a0, .int a1, .int a2] S (some (.int v)) S' := by
  refine zM_of (ini := false) (L := [some (.ref a0), some (.int a1), some (.int a2)]) (plainFor_of_name (by decide)) (fun h => by cases h) (Nat.le_of_ble_eq_true rfl) rfl ?_
  unfold fn_Ls_plan at h
  refine zg_iload_n (pc' := 1) zd_Ls_plan_0 rfl rfl ?_
  refine zg_iconst (x := (-1 : Int32)) (pc' := 2) zd_Ls_plan_1 (by decide) rfl ?_
  rcases br_some h with ⟨c1, h⟩ | ⟨c1, h⟩
  · refine zg_icmp_ne (tgt := 16) (pc' := 5) zd_Ls_plan_2 (by decide) rfl (fun q => absurd c1 q) (fun _ => ?_)
    refine zg_aload_n (pc' := 6) zd_Ls_plan_5 rfl rfl ?_
    obtain ⟨g16, h⟩ := gd_some h
    refine zg_getR (pc' := 9) zf_Ls_74 rfl zd_Ls_plan_6 (gT_ok g16) rfl ?_
    obtain ⟨g17, h⟩ := gd_some h
    refine zg_getR (pc' := 12) zf_Ls_258 rfl zd_Ls_plan_9 (gT_ok g17) rfl ?_
    obtain ⟨g18, h⟩ := gd_some h
    obtain ⟨r21, S19, e20, h⟩ := bq_some h
    refine zg_callV (ci := 4) (As := []) (rest := []) (pc' := 15) zl_Ls_233 zq650 zq651 ⟨_, rfl, rfl⟩ zd_Ls_plan_12 rfl rfl (Nat.le_of_ble_eq_true rfl) (by omega) (gT_ok g18) (tm_Rw_clear (d := 2) (Nat.le_refl _) e20) rfl ?_
    refine zg_st (st' := [.int r21]) rfl ?_
    obtain ⟨rfl, rfl⟩ := rt_q h
    exact zg_iret zd_Ls_plan_15 zrt_i
  · refine zg_icmp_ne (tgt := 16) (pc' := 5) zd_Ls_plan_2 (by decide) rfl (fun _ => ?_) (fun q => absurd q c1)
    refine zg_iload_n (pc' := 17) zd_Ls_plan_16 rfl rfl ?_
    rcases br_some h with ⟨c2, h⟩ | ⟨c2, h⟩
    · refine zg_if_lt (tgt := 25) (pc' := 20) zd_Ls_plan_17 (by decide) rfl (fun _ => ?_) (fun q => absurd c2 q)
      refine zg_iconst (x := (-1 : Int32)) (pc' := 26) zd_Ls_plan_25 (by decide) rfl ?_
      obtain ⟨rfl, rfl⟩ := rt_q h
      exact zg_iret zd_Ls_plan_26 zrt_i
    · refine zg_if_lt (tgt := 25) (pc' := 20) zd_Ls_plan_17 (by decide) rfl (fun q => absurd q c2) (fun _ => ?_)
      refine zg_iload_n (pc' := 21) zd_Ls_plan_20 rfl rfl ?_
      refine zg_iconst (x := (3 : Int32)) (pc' := 22) zd_Ls_plan_21 (by decide) rfl ?_
      rcases br_some h with ⟨c3, h⟩ | ⟨c3, h⟩
      · refine zg_icmp_le (tgt := 27) (pc' := 25) zd_Ls_plan_22 (by decide) rfl (fun _ => ?_) (fun q => absurd c3 q)
        refine zg_iload_n (pc' := 28) zd_Ls_plan_27 rfl rfl ?_
        refine zg_iconst (x := (1 : Int32)) (pc' := 29) zd_Ls_plan_28 (by decide) rfl ?_
        rcases br_some h with ⟨c4, h⟩ | ⟨c4, h⟩
        · refine zg_icmp_ne (tgt := 62) (pc' := 32) zd_Ls_plan_29 (by decide) rfl (fun q => absurd c4 q) (fun _ => ?_)
          refine zg_iload_n (pc' := 33) zd_Ls_plan_32 rfl rfl ?_
          rcases br_some h with ⟨c5, h⟩ | ⟨c5, h⟩
          · refine zg_if_lt (tgt := 60) (pc' := 36) zd_Ls_plan_33 (by decide) rfl (fun _ => ?_) (fun q => absurd c5 q)
            refine zg_iconst (x := (-1 : Int32)) (pc' := 61) zd_Ls_plan_60 (by decide) rfl ?_
            obtain ⟨rfl, rfl⟩ := rt_q h
            exact zg_iret zd_Ls_plan_61 zrt_i
          · refine zg_if_lt (tgt := 60) (pc' := 36) zd_Ls_plan_33 (by decide) rfl (fun q => absurd q c5) (fun _ => ?_)
            refine zg_aload_n (pc' := 37) zd_Ls_plan_36 rfl rfl ?_
            obtain ⟨g6, h⟩ := gd_some h
            refine zg_getR (pc' := 40) zf_Ls_74 rfl zd_Ls_plan_37 (gT_ok g6) rfl ?_
            refine zg_iload_n (pc' := 41) zd_Ls_plan_40 rfl rfl ?_
            refine zg_bipush (x := (10 : Int32)) (pc' := 43) zd_Ls_plan_41 (by decide) rfl ?_
            refine zg_idiv (pc' := 44) zd_Ls_plan_43 rfl (by decide) ?_
            obtain ⟨g7, h⟩ := gd_some h
            obtain ⟨r10, S8, e9, h⟩ := bq_some h
            refine zg_callV (ci := 1) (As := [.int (a2 / (10 : Int32))]) (rest := []) (pc' := 47) zl_Ls_103 zq345 zq346 ⟨_, rfl, rfl⟩ zd_Ls_plan_44 rfl rfl (Nat.le_of_ble_eq_true rfl) (by omega) (gT_ok g7) (tm_Ho_has (d := 2) (Nat.le_refl _) e9) rfl ?_
            refine zg_st (st' := [.int r10]) rfl ?_
            rcases br_some h with ⟨c11, h⟩ | ⟨c11, h⟩
            · refine zg_if_eq (tgt := 60) (pc' := 50) zd_Ls_plan_47 (by decide) rfl (fun _ => ?_) (fun q => absurd c11 q)
              refine zg_iconst (x := (-1 : Int32)) (pc' := 61) zd_Ls_plan_60 (by decide) rfl ?_
              obtain ⟨rfl, rfl⟩ := rt_q h
              exact zg_iret zd_Ls_plan_61 zrt_i
            · refine zg_if_eq (tgt := 60) (pc' := 50) zd_Ls_plan_47 (by decide) rfl (fun q => absurd q c11) (fun _ => ?_)
              refine zg_iload_n (pc' := 51) zd_Ls_plan_50 rfl rfl ?_
              refine zg_bipush (x := (10 : Int32)) (pc' := 53) zd_Ls_plan_51 (by decide) rfl ?_
              refine zg_irem (pc' := 54) zd_Ls_plan_53 rfl (by decide) ?_
              obtain ⟨r14, S12, e13, h⟩ := bq_some h
              refine zg_callS (As := [.int (a2 - a2 / (10 : Int32) * (10 : Int32))]) (rest := []) (pc' := 57) zl_Ls_106 zq349 zd_Ls_plan_54 rfl rfl (Nat.le_of_ble_eq_true rfl) (by omega) (tm_Ls_isNovice (d := 2) (Nat.le_refl _) e13) rfl ?_
              refine zg_st (st' := [.int r14]) rfl ?_
              rcases br_some h with ⟨c15, h⟩ | ⟨c15, h⟩
              · refine zg_if_ne (tgt := 62) (pc' := 60) zd_Ls_plan_57 (by decide) rfl (fun q => absurd c15 q) (fun _ => ?_)
                refine zg_iconst (x := (-1 : Int32)) (pc' := 61) zd_Ls_plan_60 (by decide) rfl ?_
                obtain ⟨rfl, rfl⟩ := rt_q h
                exact zg_iret zd_Ls_plan_61 zrt_i
              · refine zg_if_ne (tgt := 62) (pc' := 60) zd_Ls_plan_57 (by decide) rfl (fun _ => ?_) (fun q => absurd q c15)
                exact tm_Ls_plan_L62 hd h
        · refine zg_icmp_ne (tgt := 62) (pc' := 32) zd_Ls_plan_29 (by decide) rfl (fun _ => ?_) (fun q => absurd q c4)
          exact tm_Ls_plan_L62 hd h
      · refine zg_icmp_le (tgt := 27) (pc' := 25) zd_Ls_plan_22 (by decide) rfl (fun q => absurd q c3) (fun _ => ?_)
        refine zg_iconst (x := (-1 : Int32)) (pc' := 26) zd_Ls_plan_25 (by decide) rfl ?_
        obtain ⟨rfl, rfl⟩ := rt_q h
        exact zg_iret zd_Ls_plan_26 zrt_i
theorem zd_Ls_ends_0 : decode prog_1_method_24_code 0 = .ok (.iload_n 1, 1) := by decide +kernel
theorem zd_Ls_ends_1 : decode prog_1_method_24_code 1 = .ok (.ifCond .lt 8, 3) := by decide +kernel
theorem zd_Ls_ends_4 : decode prog_1_method_24_code 4 = .ok (.iload_n 1, 1) := by decide +kernel
theorem zd_Ls_ends_5 : decode prog_1_method_24_code 5 = .ok (.iconst 1, 1) := by decide +kernel
theorem zd_Ls_ends_6 : decode prog_1_method_24_code 6 = .ok (.if_icmp .le 5, 3) := by decide +kernel
theorem zd_Ls_ends_11 : decode prog_1_method_24_code 11 = .ok (.aload_n 0, 1) := by decide +kernel
theorem zd_Ls_ends_12 : decode prog_1_method_24_code 12 = .ok (.getfield 78, 3) := by decide +kernel
theorem zd_Ls_ends_15 : decode prog_1_method_24_code 15 = .ok (.aload_n 0, 1) := by decide +kernel
theorem zd_Ls_ends_16 : decode prog_1_method_24_code 16 = .ok (.getfield 74, 3) := by decide +kernel
theorem zd_Ls_ends_19 : decode prog_1_method_24_code 19 = .ok (.invokevirtual 202, 3) := by decide +kernel
theorem zd_Ls_ends_22 : decode prog_1_method_24_code 22 = .ok (.iconst 0, 1) := by decide +kernel
theorem zd_Ls_ends_23 : decode prog_1_method_24_code 23 = .ok (.istore_n 2, 1) := by decide +kernel
theorem zd_Ls_ends_24 : decode prog_1_method_24_code 24 = .ok (.iload_n 2, 1) := by decide +kernel
theorem zd_Ls_ends_25 : decode prog_1_method_24_code 25 = .ok (.aload_n 0, 1) := by decide +kernel
theorem zd_Ls_ends_26 : decode prog_1_method_24_code 26 = .ok (.getfield 74, 3) := by decide +kernel
theorem zd_Ls_ends_29 : decode prog_1_method_24_code 29 = .ok (.getfield 258, 3) := by decide +kernel
theorem zd_Ls_ends_32 : decode prog_1_method_24_code 32 = .ok (.getfield 261, 3) := by decide +kernel
theorem zd_Ls_ends_35 : decode prog_1_method_24_code 35 = .ok (.if_icmp .ge 40, 3) := by decide +kernel
theorem zd_Ls_ends_75 : decode prog_1_method_24_code 75 = .ok (.iload_n 1, 1) := by decide +kernel
theorem zd_Ls_ends_76 : decode prog_1_method_24_code 76 = .ok (.ifCond .ne 13, 3) := by decide +kernel
theorem zd_Ls_ends_89 : decode prog_1_method_24_code 89 = .ok (.aload_n 0, 1) := by decide +kernel
theorem zd_Ls_ends_90 : decode prog_1_method_24_code 90 = .ok (.getfield 78, 3) := by decide +kernel
theorem zd_Ls_ends_93 : decode prog_1_method_24_code 93 = .ok (.invokevirtual 255, 3) := by decide +kernel
theorem zd_Ls_ends_79 : decode prog_1_method_24_code 79 = .ok (.aload_n 0, 1) := by decide +kernel
theorem zd_Ls_ends_80 : decode prog_1_method_24_code 80 = .ok (.getfield 78, 3) := by decide +kernel
theorem zd_Ls_ends_83 : decode prog_1_method_24_code 83 = .ok (.invokevirtual 185, 3) := by decide +kernel
theorem zd_Ls_ends_86 : decode prog_1_method_24_code 86 = .ok (.goto 10, 3) := by decide +kernel
theorem zd_Ls_ends_96 : decode prog_1_method_24_code 96 = .ok (.ireturn, 1) := by decide +kernel
theorem zd_Ls_ends_38 : decode prog_1_method_24_code 38 = .ok (.aload_n 0, 1) := by decide +kernel
theorem zd_Ls_ends_39 : decode prog_1_method_24_code 39 = .ok (.getfield 78, 3) := by decide +kernel
theorem zd_Ls_ends_42 : decode prog_1_method_24_code 42 = .ok (.aload_n 0, 1) := by decide +kernel
theorem zd_Ls_ends_43 : decode prog_1_method_24_code 43 = .ok (.getfield 74, 3) := by decide +kernel
theorem zd_Ls_ends_46 : decode prog_1_method_24_code 46 = .ok (.getfield 258, 3) := by decide +kernel
theorem zd_Ls_ends_49 : decode prog_1_method_24_code 49 = .ok (.iload_n 2, 1) := by decide +kernel
theorem zd_Ls_ends_50 : decode prog_1_method_24_code 50 = .ok (.iconst 0, 1) := by decide +kernel
theorem zd_Ls_ends_51 : decode prog_1_method_24_code 51 = .ok (.invokevirtual 262, 3) := by decide +kernel
theorem zd_Ls_ends_54 : decode prog_1_method_24_code 54 = .ok (.aload_n 0, 1) := by decide +kernel
theorem zd_Ls_ends_55 : decode prog_1_method_24_code 55 = .ok (.getfield 74, 3) := by decide +kernel
theorem zd_Ls_ends_58 : decode prog_1_method_24_code 58 = .ok (.getfield 258, 3) := by decide +kernel
theorem zd_Ls_ends_61 : decode prog_1_method_24_code 61 = .ok (.iload_n 2, 1) := by decide +kernel
theorem zd_Ls_ends_62 : decode prog_1_method_24_code 62 = .ok (.iconst 1, 1) := by decide +kernel
theorem zd_Ls_ends_63 : decode prog_1_method_24_code 63 = .ok (.invokevirtual 262, 3) := by decide +kernel
theorem zd_Ls_ends_66 : decode prog_1_method_24_code 66 = .ok (.invokevirtual 266, 3) := by decide +kernel
theorem zd_Ls_ends_69 : decode prog_1_method_24_code 69 = .ok (.iinc 2 1, 3) := by decide +kernel
theorem zd_Ls_ends_72 : decode prog_1_method_24_code 72 = .ok (.goto (-48), 3) := by decide +kernel
theorem zd_Ls_ends_9 : decode prog_1_method_24_code 9 = .ok (.iconst (-1), 1) := by decide +kernel
theorem zd_Ls_ends_10 : decode prog_1_method_24_code 10 = .ok (.ireturn, 1) := by decide +kernel
abbrev zm_Ls_ends : zQ := ("LoofahSaints", prog_1_method_24_code, 3, (Option.some Jvm.ClassFile.FieldType.int), false)
set_option maxRecDepth 100000 in
def fn_Ls_ends_L24 (a0 : Nat) (a1 : Int32) (a2 : Int32) (S : zS) (K24 : Nat → Int32 → Int32 → zS → Option (Int32 × zS)) : Option (Int32 × zS) :=
  gd (gT S a0 109) <|
  gd (gT S (zR S a0 7) 101) <|
  gd (gT S (zR S (zR S a0 7) 4) 104) <|
  br (decide ((zI S (zR S (zR S a0 7) 4) 2) ≤ a2)) (br (decide (a1 = 0)) (gd (gT S (zR S a0 8) 101) <|
  bq (fn_Ho_onAll (zR S a0 8) S) fun r13 S11 =>
  some (r13, S11)) <|
  gd (gT S (zR S a0 8) 101) <|
  bq (fn_Ho_wearOfAll (zR S a0 8) S) fun r9 S7 =>
  some (r9, S7)) <|
  bq (fn_Rw_cell (zR S (zR S a0 7) 4) a2 (0 : Int32) S) fun r16 S14 =>
  gd (gT S14 a0 109) <|
  gd (gT S14 (zR S14 a0 7) 101) <|
  gd (gT S14 (zR S14 (zR S14 a0 7) 4) 104) <|
  bq (fn_Rw_cell (zR S14 (zR S14 a0 7) 4) a2 (1 : Int32) S14) fun r22 S20 =>
  gd (gT S20 (zR S a0 8) 101) <|
  bv (fn_Ho_follow (zR S a0 8) r16 r22 S20) fun S24 =>
  K24 a0 a1 (a2 + (1 : Int32)) S24
set_option maxRecDepth 100000 in
set_option maxHeartbeats 4000000 in
theorem tm_Ls_ends_L24 {X : zXt} {d : Nat} (hd : 8 ≤ d) {v : Int32} {S' : zS}  {K24 : Nat → Int32 → Int32 → zS → Option (Int32 × zS)} (hK24 : ∀ (a0 : Nat) (a1 : Int32) (a2 : Int32) (S : zS), K24 a0 a1 a2 S = some (v, S') → zG X zm_Ls_ends d 24 [some (.ref a0), some (.int a1), some (.int a2)] [] S (some (.int v)) S') {a0 : Nat} {a1 : Int32} {a2 : Int32} {S : zS} (h : fn_Ls_ends_L24 a0 a1 a2 S K24 = some (v, S')) : zG X zm_Ls_ends d 24 [some (.ref a0), some (.int a1), some (.int a2)] [] S (some (.int v)) S' := by
  unfold fn_Ls_ends_L24 at h
  refine zg_iload_n (pc' := 25) zd_Ls_ends_24 rfl rfl ?_
  refine zg_aload_n (pc' := 26) zd_Ls_ends_25 rfl rfl ?_
  obtain ⟨g1, h⟩ := gd_some h
  refine zg_getR (pc' := 29) zf_Ls_74 rfl zd_Ls_ends_26 (gT_ok g1) rfl ?_
  obtain ⟨g2, h⟩ := gd_some h
  refine zg_getR (pc' := 32) zf_Ls_258 rfl zd_Ls_ends_29 (gT_ok g2) rfl ?_
  obtain ⟨g3, h⟩ := gd_some h
  refine zg_getI (pc' := 35) zf_Ls_261 zd_Ls_ends_32 (gT_ok g3) rfl ?_
  rcases br_some h with ⟨c4, h⟩ | ⟨c4, h⟩
  · refine zg_icmp_ge (tgt := 75) (pc' := 38) zd_Ls_ends_35 (by decide) rfl (fun _ => ?_) (fun q => absurd c4 q)
    refine zg_iload_n (pc' := 76) zd_Ls_ends_75 rfl rfl ?_
    rcases br_some h with ⟨c5, h⟩ | ⟨c5, h⟩
    · refine zg_if_ne (tgt := 89) (pc' := 79) zd_Ls_ends_76 (by decide) rfl (fun q => absurd c5 q) (fun _ => ?_)
      refine zg_aload_n (pc' := 80) zd_Ls_ends_79 rfl rfl ?_
      refine zg_getR (pc' := 83) zf_Ls_78 rfl zd_Ls_ends_80 (gT_ok g1) rfl ?_
      obtain ⟨g10, h⟩ := gd_some h
      obtain ⟨r13, S11, e12, h⟩ := bq_some h
      refine zg_callV (ci := 1) (As := []) (rest := []) (pc' := 86) zl_Ls_185 zq573 zq574 ⟨_, rfl, rfl⟩ zd_Ls_ends_83 rfl rfl (Nat.le_of_ble_eq_true rfl) (by omega) (gT_ok g10) (tm_Ho_onAll (d := 3) (Nat.le_refl _) e12) rfl ?_
      refine zg_st (st' := [.int r13]) rfl ?_
      refine zg_goto (tgt := 96) zd_Ls_ends_86 (by decide) ?_
      obtain ⟨rfl, rfl⟩ := rt_q h
      exact zg_iret zd_Ls_ends_96 zrt_i
    · refine zg_if_ne (tgt := 89) (pc' := 79) zd_Ls_ends_76 (by decide) rfl (fun _ => ?_) (fun q => absurd q c5)
      refine zg_aload_n (pc' := 90) zd_Ls_ends_89 rfl rfl ?_
      refine zg_getR (pc' := 93) zf_Ls_78 rfl zd_Ls_ends_90 (gT_ok g1) rfl ?_
      obtain ⟨g6, h⟩ := gd_some h
      obtain ⟨r9, S7, e8, h⟩ := bq_some h
      refine zg_callV (ci := 1) (As := []) (rest := []) (pc' := 96) zl_Ls_255 zq687 zq688 ⟨_, rfl, rfl⟩ zd_Ls_ends_93 rfl rfl (Nat.le_of_ble_eq_true rfl) (by omega) (gT_ok g6) (tm_Ho_wearOfAll (d := 2) (Nat.le_refl _) e8) rfl ?_
      refine zg_st (st' := [.int r9]) rfl ?_
      obtain ⟨rfl, rfl⟩ := rt_q h
      exact zg_iret zd_Ls_ends_96 zrt_i
  · refine zg_icmp_ge (tgt := 75) (pc' := 38) zd_Ls_ends_35 (by decide) rfl (fun q => absurd q c4) (fun _ => ?_)
    refine zg_aload_n (pc' := 39) zd_Ls_ends_38 rfl rfl ?_
    refine zg_getR (pc' := 42) zf_Ls_78 rfl zd_Ls_ends_39 (gT_ok g1) rfl ?_
    refine zg_aload_n (pc' := 43) zd_Ls_ends_42 rfl rfl ?_
    refine zg_getR (pc' := 46) zf_Ls_74 rfl zd_Ls_ends_43 (gT_ok g1) rfl ?_
    refine zg_getR (pc' := 49) zf_Ls_258 rfl zd_Ls_ends_46 (gT_ok g2) rfl ?_
    refine zg_iload_n (pc' := 50) zd_Ls_ends_49 rfl rfl ?_
    refine zg_iconst (x := (0 : Int32)) (pc' := 51) zd_Ls_ends_50 (by decide) rfl ?_
    obtain ⟨r16, S14, e15, h⟩ := bq_some h
    refine zg_callV (ci := 4) (As := [.int a2, .int (0 : Int32)]) (rest := [.ref (zR S a0 8)]) (pc' := 54) zl_Ls_262 zq667 zq668 ⟨_, rfl, rfl⟩ zd_Ls_ends_51 rfl rfl (Nat.le_of_ble_eq_true rfl) (by omega) (gT_ok g3) (tm_Rw_cell (d := 2) (Nat.le_refl _) e15) rfl ?_
    refine zg_st (st' := [.int r16, .ref (zR S a0 8)]) rfl ?_
    refine zg_aload_n (pc' := 55) zd_Ls_ends_54 rfl rfl ?_
    obtain ⟨g17, h⟩ := gd_some h
    refine zg_getR (pc' := 58) zf_Ls_74 rfl zd_Ls_ends_55 (gT_ok g17) rfl ?_
    obtain ⟨g18, h⟩ := gd_some h
    refine zg_getR (pc' := 61) zf_Ls_258 rfl zd_Ls_ends_58 (gT_ok g18) rfl ?_
    refine zg_iload_n (pc' := 62) zd_Ls_ends_61 rfl rfl ?_
    refine zg_iconst (x := (1 : Int32)) (pc' := 63) zd_Ls_ends_62 (by decide) rfl ?_
    obtain ⟨g19, h⟩ := gd_some h
    obtain ⟨r22, S20, e21, h⟩ := bq_some h
    refine zg_callV (ci := 4) (As := [.int a2, .int (1 : Int32)]) (rest := [.int r16, .ref (zR S a0 8)]) (pc' := 66) zl_Ls_262 zq667 zq668 ⟨_, rfl, rfl⟩ zd_Ls_ends_63 rfl rfl (Nat.le_of_ble_eq_true rfl) (by omega) (gT_ok g19) (tm_Rw_cell (d := 2) (Nat.le_refl _) e21) rfl ?_
    refine zg_st (st' := [.int r22, .int r16, .ref (zR S a0 8)]) rfl ?_
    obtain ⟨g23, h⟩ := gd_some h
    obtain ⟨S24, e25, h⟩ := bv_some h
    refine zg_callV (ci := 1) (As := [.int r16, .int r22]) (rest := []) (pc' := 69) zl_Ls_266 zq700 zq701 ⟨_, rfl, rfl⟩ zd_Ls_ends_66 rfl rfl (Nat.le_of_ble_eq_true rfl) (by omega) (gT_ok g23) (tm_Ho_follow (d := 7) (Nat.le_refl _) e25) rfl ?_
    refine zg_st (st' := []) rfl ?_
    refine zg_iinc (y := (a2 + (1 : Int32))) (L' := [some (.ref a0), some (.int a1), some (.int (a2 + (1 : Int32)))]) (pc' := 72) zd_Ls_ends_69 rfl rfl (by decide) rfl rfl ?_
    refine zg_goto (tgt := 24) zd_Ls_ends_72 (by decide) ?_
    exact hK24 _ _ _ _ h
set_option maxRecDepth 100000 in
def fn_Ls_ends (a0 : Nat) (a1 : Int32) (S : zS) : Option (Int32 × zS) :=
  br (decide (a1 < 0)) (some ((-1 : Int32), S)) <|
  br (decide (a1 ≤ (1 : Int32))) (gd (gT S a0 109) <|
  gd (gT S (zR S a0 8) 101) <|
  bv (fn_Ho_copy (zR S a0 8) (zR S a0 7) S) fun S5 =>
  lp (σ := Nat × Int32 × Int32 × zS) (fun k s => fn_Ls_ends_L24 s.1 s.2.1 s.2.2.1 s.2.2.2 (fun (a0 : Nat) (a1 : Int32) (a2 : Int32) (S : zS) => k (a0, a1, a2, S))) FU (a0, a1, (0 : Int32), S5)) <|
  some ((-1 : Int32), S)
set_option maxRecDepth 100000 in
set_option maxHeartbeats 4000000 in
theorem tm_Ls_ends {X : zXt} {d : Nat} (hd : 8 ≤ d) {v : Int32} {a0 : Nat} {a1 : Int32} {S : zS} {S' : zS} (h : fn_Ls_ends a0 a1 S = some (v, S')) : zM X zy_Ls_ends prog_1_method_24_code 3 (Option.some Jvm.ClassFile.FieldType.int) d [.ref a0, .int a1] S (some (.int v)) S' := by
  refine zM_of (ini := false) (L := [some (.ref a0), some (.int a1), none]) (plainFor_of_name (by decide)) (fun h => by cases h) (Nat.le_of_ble_eq_true rfl) rfl ?_
  unfold fn_Ls_ends at h
  refine zg_iload_n (pc' := 1) zd_Ls_ends_0 rfl rfl ?_
  rcases br_some h with ⟨c1, h⟩ | ⟨c1, h⟩
  · refine zg_if_lt (tgt := 9) (pc' := 4) zd_Ls_ends_1 (by decide) rfl (fun _ => ?_) (fun q => absurd c1 q)
    refine zg_iconst (x := (-1 : Int32)) (pc' := 10) zd_Ls_ends_9 (by decide) rfl ?_
    obtain ⟨rfl, rfl⟩ := rt_q h
    exact zg_iret zd_Ls_ends_10 zrt_i
  · refine zg_if_lt (tgt := 9) (pc' := 4) zd_Ls_ends_1 (by decide) rfl (fun q => absurd q c1) (fun _ => ?_)
    refine zg_iload_n (pc' := 5) zd_Ls_ends_4 rfl rfl ?_
    refine zg_iconst (x := (1 : Int32)) (pc' := 6) zd_Ls_ends_5 (by decide) rfl ?_
    rcases br_some h with ⟨c2, h⟩ | ⟨c2, h⟩
    · refine zg_icmp_le (tgt := 11) (pc' := 9) zd_Ls_ends_6 (by decide) rfl (fun _ => ?_) (fun q => absurd c2 q)
      refine zg_aload_n (pc' := 12) zd_Ls_ends_11 rfl rfl ?_
      obtain ⟨g3, h⟩ := gd_some h
      refine zg_getR (pc' := 15) zf_Ls_78 rfl zd_Ls_ends_12 (gT_ok g3) rfl ?_
      refine zg_aload_n (pc' := 16) zd_Ls_ends_15 rfl rfl ?_
      refine zg_getR (pc' := 19) zf_Ls_74 rfl zd_Ls_ends_16 (gT_ok g3) rfl ?_
      obtain ⟨g4, h⟩ := gd_some h
      obtain ⟨S5, e6, h⟩ := bv_some h
      refine zg_callV (ci := 1) (As := [.ref (zR S a0 7)]) (rest := []) (pc' := 22) zl_Ls_202 zq548 zq549 ⟨_, rfl, rfl⟩ zd_Ls_ends_19 rfl rfl (Nat.le_of_ble_eq_true rfl) (by omega) (gT_ok g4) (tm_Ho_copy (d := 4) (Nat.le_refl _) e6) rfl ?_
      refine zg_st (st' := []) rfl ?_
      refine zg_iconst (x := (0 : Int32)) (pc' := 23) zd_Ls_ends_22 (by decide) rfl ?_
      refine zg_istore_n (L' := [some (.ref a0), some (.int a1), some (.int (0 : Int32))]) (pc' := 24) zd_Ls_ends_23 (by decide) rfl rfl ?_
      exact lp_indh h (P := fun s => zG X zm_Ls_ends d 24 [some (.ref (s.1)), some (.int (s.2.1)), some (.int (s.2.2.1))] [] (s.2.2.2) (some (.int v)) S') (fun k hk s h => tm_Ls_ends_L24 hd (fun a0 a1 a2 S h => hk (a0, a1, a2, S) h) h)
    · refine zg_icmp_le (tgt := 11) (pc' := 9) zd_Ls_ends_6 (by decide) rfl (fun q => absurd q c2) (fun _ => ?_)
      refine zg_iconst (x := (-1 : Int32)) (pc' := 10) zd_Ls_ends_9 (by decide) rfl ?_
      obtain ⟨rfl, rfl⟩ := rt_q h
      exact zg_iret zd_Ls_ends_10 zrt_i
theorem zd_Ls_book_0 : decode prog_1_method_25_code 0 = .ok (.iload_n 1, 1) := by decide +kernel
theorem zd_Ls_book_1 : decode prog_1_method_25_code 1 = .ok (.iconst (-1), 1) := by decide +kernel
theorem zd_Ls_book_2 : decode prog_1_method_25_code 2 = .ok (.if_icmp .ne 14, 3) := by decide +kernel
theorem zd_Ls_book_16 : decode prog_1_method_25_code 16 = .ok (.iload_n 1, 1) := by decide +kernel
theorem zd_Ls_book_17 : decode prog_1_method_25_code 17 = .ok (.invokestatic 106, 3) := by decide +kernel
theorem zd_Ls_book_20 : decode prog_1_method_25_code 20 = .ok (.ifCond .ne 5, 3) := by decide +kernel
theorem zd_Ls_book_25 : decode prog_1_method_25_code 25 = .ok (.iload_n 2, 1) := by decide +kernel
theorem zd_Ls_book_26 : decode prog_1_method_25_code 26 = .ok (.invokestatic 89, 3) := by decide +kernel
theorem zd_Ls_book_29 : decode prog_1_method_25_code 29 = .ok (.ifCond .ne 6, 3) := by decide +kernel
theorem zd_Ls_book_35 : decode prog_1_method_25_code 35 = .ok (.aload_n 0, 1) := by decide +kernel
theorem zd_Ls_book_36 : decode prog_1_method_25_code 36 = .ok (.getfield 74, 3) := by decide +kernel
theorem zd_Ls_book_39 : decode prog_1_method_25_code 39 = .ok (.getfield 270, 3) := by decide +kernel
theorem zd_Ls_book_42 : decode prog_1_method_25_code 42 = .ok (.iload_n 1, 1) := by decide +kernel
theorem zd_Ls_book_43 : decode prog_1_method_25_code 43 = .ok (.iload_n 2, 1) := by decide +kernel
theorem zd_Ls_book_44 : decode prog_1_method_25_code 44 = .ok (.iconst 0, 1) := by decide +kernel
theorem zd_Ls_book_45 : decode prog_1_method_25_code 45 = .ok (.invokevirtual 238, 3) := by decide +kernel
theorem zd_Ls_book_48 : decode prog_1_method_25_code 48 = .ok (.ireturn, 1) := by decide +kernel
theorem zd_Ls_book_32 : decode prog_1_method_25_code 32 = .ok (.bipush (-2), 2) := by decide +kernel
theorem zd_Ls_book_34 : decode prog_1_method_25_code 34 = .ok (.ireturn, 1) := by decide +kernel
theorem zd_Ls_book_23 : decode prog_1_method_25_code 23 = .ok (.iconst (-1), 1) := by decide +kernel
theorem zd_Ls_book_24 : decode prog_1_method_25_code 24 = .ok (.ireturn, 1) := by decide +kernel
theorem zd_Ls_book_5 : decode prog_1_method_25_code 5 = .ok (.aload_n 0, 1) := by decide +kernel
theorem zd_Ls_book_6 : decode prog_1_method_25_code 6 = .ok (.getfield 74, 3) := by decide +kernel
theorem zd_Ls_book_9 : decode prog_1_method_25_code 9 = .ok (.getfield 270, 3) := by decide +kernel
theorem zd_Ls_book_12 : decode prog_1_method_25_code 12 = .ok (.invokevirtual 233, 3) := by decide +kernel
theorem zd_Ls_book_15 : decode prog_1_method_25_code 15 = .ok (.ireturn, 1) := by decide +kernel
abbrev zm_Ls_book : zQ := ("LoofahSaints", prog_1_method_25_code, 3, (Option.some Jvm.ClassFile.FieldType.int), false)
set_option maxRecDepth 100000 in
def fn_Ls_book (a0 : Nat) (a1 : Int32) (a2 : Int32) (S : zS) : Option (Int32 × zS) :=
  br (decide (a1 = (-1 : Int32))) (gd (gT S a0 109) <|
  gd (gT S (zR S a0 7) 101) <|
  gd (gT S (zR S (zR S a0 7) 5) 104) <|
  bq (fn_Rw_clear (zR S (zR S a0 7) 5) S) fun r21 S19 =>
  some (r21, S19)) <|
  bq (fn_Ls_isNovice a1 S) fun r4 S2 =>
  br (decide (r4 = 0)) (some ((-1 : Int32), S2)) <|
  bq (fn_Ls_isSet a2 S2) fun r8 S6 =>
  br (decide (r8 = 0)) (some ((-2 : Int32), S6)) <|
  gd (gT S6 a0 109) <|
  gd (gT S6 (zR S6 a0 7) 101) <|
  gd (gT S6 (zR S6 (zR S6 a0 7) 5) 104) <|
  bq (fn_Rw_add (zR S6 (zR S6 a0 7) 5) a1 a2 (0 : Int32) S6) fun r15 S13 =>
  some (r15, S13)
set_option maxRecDepth 100000 in
set_option maxHeartbeats 4000000 in
theorem tm_Ls_book {X : zXt} {d : Nat} (hd : 3 ≤ d) {v : Int32} {a0 : Nat} {a1 : Int32} {a2 : Int32} {S : zS} {S' : zS} (h : fn_Ls_book a0 a1 a2 S = some (v, S')) : zM X zy_Ls_book prog_1_method_25_code 3 (Option.some Jvm.ClassFile.FieldType.int) d [.ref a0, .int a1, .int a2] S (some (.int v)) S' := by
  refine zM_of (ini := false) (L := [some (.ref a0), some (.int a1), some (.int a2)]) (plainFor_of_name (by decide)) (fun h => by cases h) (Nat.le_of_ble_eq_true rfl) rfl ?_
  unfold fn_Ls_book at h
  refine zg_iload_n (pc' := 1) zd_Ls_book_0 rfl rfl ?_
  refine zg_iconst (x := (-1 : Int32)) (pc' := 2) zd_Ls_book_1 (by decide) rfl ?_
  rcases br_some h with ⟨c1, h⟩ | ⟨c1, h⟩
  · refine zg_icmp_ne (tgt := 16) (pc' := 5) zd_Ls_book_2 (by decide) rfl (fun q => absurd c1 q) (fun _ => ?_)
    refine zg_aload_n (pc' := 6) zd_Ls_book_5 rfl rfl ?_
    obtain ⟨g16, h⟩ := gd_some h
    refine zg_getR (pc' := 9) zf_Ls_74 rfl zd_Ls_book_6 (gT_ok g16) rfl ?_
    obtain ⟨g17, h⟩ := gd_some h
    refine zg_getR (pc' := 12) zf_Ls_270 rfl zd_Ls_book_9 (gT_ok g17) rfl ?_
    obtain ⟨g18, h⟩ := gd_some h
    obtain ⟨r21, S19, e20, h⟩ := bq_some h
    refine zg_callV (ci := 4) (As := []) (rest := []) (pc' := 15) zl_Ls_233 zq650 zq651 ⟨_, rfl, rfl⟩ zd_Ls_book_12 rfl rfl (Nat.le_of_ble_eq_true rfl) (by omega) (gT_ok g18) (tm_Rw_clear (d := 2) (Nat.le_refl _) e20) rfl ?_
    refine zg_st (st' := [.int r21]) rfl ?_
    obtain ⟨rfl, rfl⟩ := rt_q h
    exact zg_iret zd_Ls_book_15 zrt_i
  · refine zg_icmp_ne (tgt := 16) (pc' := 5) zd_Ls_book_2 (by decide) rfl (fun _ => ?_) (fun q => absurd q c1)
    refine zg_iload_n (pc' := 17) zd_Ls_book_16 rfl rfl ?_
    obtain ⟨r4, S2, e3, h⟩ := bq_some h
    refine zg_callS (As := [.int a1]) (rest := []) (pc' := 20) zl_Ls_106 zq349 zd_Ls_book_17 rfl rfl (Nat.le_of_ble_eq_true rfl) (by omega) (tm_Ls_isNovice (d := 2) (Nat.le_refl _) e3) rfl ?_
    refine zg_st (st' := [.int r4]) rfl ?_
    rcases br_some h with ⟨c5, h⟩ | ⟨c5, h⟩
    · refine zg_if_ne (tgt := 25) (pc' := 23) zd_Ls_book_20 (by decide) rfl (fun q => absurd c5 q) (fun _ => ?_)
      refine zg_iconst (x := (-1 : Int32)) (pc' := 24) zd_Ls_book_23 (by decide) rfl ?_
      obtain ⟨rfl, rfl⟩ := rt_q h
      exact zg_iret zd_Ls_book_24 zrt_i
    · refine zg_if_ne (tgt := 25) (pc' := 23) zd_Ls_book_20 (by decide) rfl (fun _ => ?_) (fun q => absurd q c5)
      refine zg_iload_n (pc' := 26) zd_Ls_book_25 rfl rfl ?_
      obtain ⟨r8, S6, e7, h⟩ := bq_some h
      refine zg_callS (As := [.int a2]) (rest := []) (pc' := 29) zl_Ls_89 zq334 zd_Ls_book_26 rfl rfl (Nat.le_of_ble_eq_true rfl) (by omega) (tm_Ls_isSet (d := 2) (Nat.le_refl _) e7) rfl ?_
      refine zg_st (st' := [.int r8]) rfl ?_
      rcases br_some h with ⟨c9, h⟩ | ⟨c9, h⟩
      · refine zg_if_ne (tgt := 35) (pc' := 32) zd_Ls_book_29 (by decide) rfl (fun q => absurd c9 q) (fun _ => ?_)
        refine zg_bipush (x := (-2 : Int32)) (pc' := 34) zd_Ls_book_32 (by decide) rfl ?_
        obtain ⟨rfl, rfl⟩ := rt_q h
        exact zg_iret zd_Ls_book_34 zrt_i
      · refine zg_if_ne (tgt := 35) (pc' := 32) zd_Ls_book_29 (by decide) rfl (fun _ => ?_) (fun q => absurd q c9)
        refine zg_aload_n (pc' := 36) zd_Ls_book_35 rfl rfl ?_
        obtain ⟨g10, h⟩ := gd_some h
        refine zg_getR (pc' := 39) zf_Ls_74 rfl zd_Ls_book_36 (gT_ok g10) rfl ?_
        obtain ⟨g11, h⟩ := gd_some h
        refine zg_getR (pc' := 42) zf_Ls_270 rfl zd_Ls_book_39 (gT_ok g11) rfl ?_
        refine zg_iload_n (pc' := 43) zd_Ls_book_42 rfl rfl ?_
        refine zg_iload_n (pc' := 44) zd_Ls_book_43 rfl rfl ?_
        refine zg_iconst (x := (0 : Int32)) (pc' := 45) zd_Ls_book_44 (by decide) rfl ?_
        obtain ⟨g12, h⟩ := gd_some h
        obtain ⟨r15, S13, e14, h⟩ := bq_some h
        refine zg_callV (ci := 4) (As := [.int a1, .int a2, .int (0 : Int32)]) (rest := []) (pc' := 48) zl_Ls_238 zq654 zq655 ⟨_, rfl, rfl⟩ zd_Ls_book_45 rfl rfl (Nat.le_of_ble_eq_true rfl) (by omega) (gT_ok g12) (tm_Rw_add (d := 2) (Nat.le_refl _) e14) rfl ?_
        refine zg_st (st' := [.int r15]) rfl ?_
        obtain ⟨rfl, rfl⟩ := rt_q h
        exact zg_iret zd_Ls_book_48 zrt_i
theorem zd_Ls_looked_0 : decode prog_1_method_26_code 0 = .ok (.iconst 0, 1) := by decide +kernel
theorem zd_Ls_looked_1 : decode prog_1_method_26_code 1 = .ok (.istore_n 1, 1) := by decide +kernel
theorem zd_Ls_looked_2 : decode prog_1_method_26_code 2 = .ok (.iload_n 1, 1) := by decide +kernel
theorem zd_Ls_looked_3 : decode prog_1_method_26_code 3 = .ok (.aload_n 0, 1) := by decide +kernel
theorem zd_Ls_looked_4 : decode prog_1_method_26_code 4 = .ok (.getfield 74, 3) := by decide +kernel
theorem zd_Ls_looked_7 : decode prog_1_method_26_code 7 = .ok (.getfield 270, 3) := by decide +kernel
theorem zd_Ls_looked_10 : decode prog_1_method_26_code 10 = .ok (.getfield 261, 3) := by decide +kernel
theorem zd_Ls_looked_13 : decode prog_1_method_26_code 13 = .ok (.if_icmp .ge 55, 3) := by decide +kernel
theorem zd_Ls_looked_68 : decode prog_1_method_26_code 68 = .ok (.bipush (-5), 2) := by decide +kernel
theorem zd_Ls_looked_70 : decode prog_1_method_26_code 70 = .ok (.ireturn, 1) := by decide +kernel
theorem zd_Ls_looked_16 : decode prog_1_method_26_code 16 = .ok (.aload_n 0, 1) := by decide +kernel
theorem zd_Ls_looked_17 : decode prog_1_method_26_code 17 = .ok (.getfield 74, 3) := by decide +kernel
theorem zd_Ls_looked_20 : decode prog_1_method_26_code 20 = .ok (.getfield 270, 3) := by decide +kernel
theorem zd_Ls_looked_23 : decode prog_1_method_26_code 23 = .ok (.iload_n 1, 1) := by decide +kernel
theorem zd_Ls_looked_24 : decode prog_1_method_26_code 24 = .ok (.iconst 0, 1) := by decide +kernel
theorem zd_Ls_looked_25 : decode prog_1_method_26_code 25 = .ok (.invokevirtual 262, 3) := by decide +kernel
theorem zd_Ls_looked_28 : decode prog_1_method_26_code 28 = .ok (.istore_n 2, 1) := by decide +kernel
theorem zd_Ls_looked_29 : decode prog_1_method_26_code 29 = .ok (.iload_n 2, 1) := by decide +kernel
theorem zd_Ls_looked_30 : decode prog_1_method_26_code 30 = .ok (.invokestatic 106, 3) := by decide +kernel
theorem zd_Ls_looked_33 : decode prog_1_method_26_code 33 = .ok (.ifCond .eq 29, 3) := by decide +kernel
theorem zd_Ls_looked_36 : decode prog_1_method_26_code 36 = .ok (.aload_n 0, 1) := by decide +kernel
theorem zd_Ls_looked_37 : decode prog_1_method_26_code 37 = .ok (.getfield 74, 3) := by decide +kernel
theorem zd_Ls_looked_40 : decode prog_1_method_26_code 40 = .ok (.getfield 152, 3) := by decide +kernel
theorem zd_Ls_looked_43 : decode prog_1_method_26_code 43 = .ok (.iload_n 2, 1) := by decide +kernel
theorem zd_Ls_looked_44 : decode prog_1_method_26_code 44 = .ok (.iaload, 1) := by decide +kernel
theorem zd_Ls_looked_45 : decode prog_1_method_26_code 45 = .ok (.aload_n 0, 1) := by decide +kernel
theorem zd_Ls_looked_46 : decode prog_1_method_26_code 46 = .ok (.getfield 74, 3) := by decide +kernel
theorem zd_Ls_looked_49 : decode prog_1_method_26_code 49 = .ok (.getfield 270, 3) := by decide +kernel
theorem zd_Ls_looked_52 : decode prog_1_method_26_code 52 = .ok (.iload_n 1, 1) := by decide +kernel
theorem zd_Ls_looked_53 : decode prog_1_method_26_code 53 = .ok (.iconst 1, 1) := by decide +kernel
theorem zd_Ls_looked_54 : decode prog_1_method_26_code 54 = .ok (.invokevirtual 262, 3) := by decide +kernel
theorem zd_Ls_looked_57 : decode prog_1_method_26_code 57 = .ok (.if_icmp .eq 5, 3) := by decide +kernel
theorem zd_Ls_looked_62 : decode prog_1_method_26_code 62 = .ok (.iinc 1 1, 3) := by decide +kernel
theorem zd_Ls_looked_65 : decode prog_1_method_26_code 65 = .ok (.goto (-63), 3) := by decide +kernel
theorem zd_Ls_looked_60 : decode prog_1_method_26_code 60 = .ok (.iload_n 1, 1) := by decide +kernel
theorem zd_Ls_looked_61 : decode prog_1_method_26_code 61 = .ok (.ireturn, 1) := by decide +kernel
abbrev zm_Ls_looked : zQ := ("LoofahSaints", prog_1_method_26_code, 3, (Option.some Jvm.ClassFile.FieldType.int), false)
set_option maxRecDepth 100000 in
def fn_Ls_looked_L2 (a0 : Nat) (a1 : Int32) (S : zS) (K2 : Nat → Int32 → zS → Option (Int32 × zS)) : Option (Int32 × zS) :=
  gd (gT S a0 109) <|
  gd (gT S (zR S a0 7) 101) <|
  gd (gT S (zR S (zR S a0 7) 5) 104) <|
  br (decide ((zI S (zR S (zR S a0 7) 5) 2) ≤ a1)) (some ((-5 : Int32), S)) <|
  bq (fn_Rw_cell (zR S (zR S a0 7) 5) a1 (0 : Int32) S) fun r7 S5 =>
  bq (fn_Ls_isNovice r7 S5) fun r10 S8 =>
  br (decide (r10 = 0)) (K2 a0 (a1 + (1 : Int32)) S8) <|
  gd (gT S8 a0 109) <|
  gd (gT S8 (zR S8 a0 7) 101) <|
  gd (gT S8 (zR S8 (zR S8 a0 7) 1) 1) <|
  gd (gB r7 (zT S8 (zR S8 (zR S8 a0 7) 1)).2) <|
  gd (gT S8 (zR S8 (zR S8 a0 7) 5) 104) <|
  bq (fn_Rw_cell (zR S8 (zR S8 a0 7) 5) a1 (1 : Int32) S8) fun r19 S17 =>
  br (decide ((zI S8 (zR S8 (zR S8 a0 7) 1) r7.toNatClampNeg) = r19)) (K2 a0 (a1 + (1 : Int32)) S17) <|
  some (a1, S17)
set_option maxRecDepth 100000 in
set_option maxHeartbeats 4000000 in
theorem tm_Ls_looked_L2 {X : zXt} {d : Nat} (hd : 3 ≤ d) {v : Int32} {S' : zS}  {K2 : Nat → Int32 → zS → Option (Int32 × zS)} (hK2 : ∀ (a0 : Nat) (a1 : Int32) (S : zS), K2 a0 a1 S = some (v, S') → zG X zm_Ls_looked d 2 [some (.ref a0), some (.int a1), none] [] S (some (.int v)) S') {a0 : Nat} {a1 : Int32} {S : zS} (h : fn_Ls_looked_L2 a0 a1 S K2 = some (v, S')) : zG X zm_Ls_looked d 2 [some (.ref a0), some (.int a1), none] [] S (some (.int v)) S' := by
  unfold fn_Ls_looked_L2 at h
  refine zg_iload_n (pc' := 3) zd_Ls_looked_2 rfl rfl ?_
  refine zg_aload_n (pc' := 4) zd_Ls_looked_3 rfl rfl ?_
  obtain ⟨g1, h⟩ := gd_some h
  refine zg_getR (pc' := 7) zf_Ls_74 rfl zd_Ls_looked_4 (gT_ok g1) rfl ?_
  obtain ⟨g2, h⟩ := gd_some h
  refine zg_getR (pc' := 10) zf_Ls_270 rfl zd_Ls_looked_7 (gT_ok g2) rfl ?_
  obtain ⟨g3, h⟩ := gd_some h
  refine zg_getI (pc' := 13) zf_Ls_261 zd_Ls_looked_10 (gT_ok g3) rfl ?_
  rcases br_some h with ⟨c4, h⟩ | ⟨c4, h⟩
  · refine zg_icmp_ge (tgt := 68) (pc' := 16) zd_Ls_looked_13 (by decide) rfl (fun _ => ?_) (fun q => absurd c4 q)
    refine zg_bipush (x := (-5 : Int32)) (pc' := 70) zd_Ls_looked_68 (by decide) rfl ?_
    obtain ⟨rfl, rfl⟩ := rt_q h
    exact zg_iret zd_Ls_looked_70 zrt_i
  · refine zg_icmp_ge (tgt := 68) (pc' := 16) zd_Ls_looked_13 (by decide) rfl (fun q => absurd q c4) (fun _ => ?_)
    refine zg_aload_n (pc' := 17) zd_Ls_looked_16 rfl rfl ?_
    refine zg_getR (pc' := 20) zf_Ls_74 rfl zd_Ls_looked_17 (gT_ok g1) rfl ?_
    refine zg_getR (pc' := 23) zf_Ls_270 rfl zd_Ls_looked_20 (gT_ok g2) rfl ?_
    refine zg_iload_n (pc' := 24) zd_Ls_looked_23 rfl rfl ?_
    refine zg_iconst (x := (0 : Int32)) (pc' := 25) zd_Ls_looked_24 (by decide) rfl ?_
    obtain ⟨r7, S5, e6, h⟩ := bq_some h
    refine zg_callV (ci := 4) (As := [.int a1, .int (0 : Int32)]) (rest := []) (pc' := 28) zl_Ls_262 zq667 zq668 ⟨_, rfl, rfl⟩ zd_Ls_looked_25 rfl rfl (Nat.le_of_ble_eq_true rfl) (by omega) (gT_ok g3) (tm_Rw_cell (d := 2) (Nat.le_refl _) e6) rfl ?_
    refine zg_st (st' := [.int r7]) rfl ?_
    refine zg_istore_n (L' := [some (.ref a0), some (.int a1), some (.int r7)]) (pc' := 29) zd_Ls_looked_28 (by decide) rfl rfl ?_
    refine zg_iload_n (pc' := 30) zd_Ls_looked_29 rfl rfl ?_
    obtain ⟨r10, S8, e9, h⟩ := bq_some h
    refine zg_callS (As := [.int r7]) (rest := []) (pc' := 33) zl_Ls_106 zq349 zd_Ls_looked_30 rfl rfl (Nat.le_of_ble_eq_true rfl) (by omega) (tm_Ls_isNovice (d := 2) (Nat.le_refl _) e9) rfl ?_
    refine zg_st (st' := [.int r10]) rfl ?_
    rcases br_some h with ⟨c11, h⟩ | ⟨c11, h⟩
    · refine zg_if_eq (tgt := 62) (pc' := 36) zd_Ls_looked_33 (by decide) rfl (fun _ => ?_) (fun q => absurd c11 q)
      refine zg_iinc (y := (a1 + (1 : Int32))) (L' := [some (.ref a0), some (.int (a1 + (1 : Int32))), some (.int r7)]) (pc' := 65) zd_Ls_looked_62 rfl rfl (by decide) rfl rfl ?_
      refine zg_goto (tgt := 2) zd_Ls_looked_65 (by decide) ?_
      refine zg_mask (L' := [some (.ref a0), some (.int (a1 + (1 : Int32))), none]) (zmk_ok _ _ ⟨rfl, ⟨rfl, trivial⟩⟩) ?_
      exact hK2 _ _ _ h
    · refine zg_if_eq (tgt := 62) (pc' := 36) zd_Ls_looked_33 (by decide) rfl (fun q => absurd q c11) (fun _ => ?_)
      refine zg_aload_n (pc' := 37) zd_Ls_looked_36 rfl rfl ?_
      obtain ⟨g12, h⟩ := gd_some h
      refine zg_getR (pc' := 40) zf_Ls_74 rfl zd_Ls_looked_37 (gT_ok g12) rfl ?_
      obtain ⟨g13, h⟩ := gd_some h
      refine zg_getR (pc' := 43) zf_Ls_152 rfl zd_Ls_looked_40 (gT_ok g13) rfl ?_
      refine zg_iload_n (pc' := 44) zd_Ls_looked_43 rfl rfl ?_
      obtain ⟨g14, h⟩ := gd_some h
      obtain ⟨g15, h⟩ := gd_some h
      refine zg_iald (pc' := 45) zd_Ls_looked_44 (gT_ok g14) (gB_ok g15) rfl ?_
      refine zg_aload_n (pc' := 46) zd_Ls_looked_45 rfl rfl ?_
      refine zg_getR (pc' := 49) zf_Ls_74 rfl zd_Ls_looked_46 (gT_ok g12) rfl ?_
      refine zg_getR (pc' := 52) zf_Ls_270 rfl zd_Ls_looked_49 (gT_ok g13) rfl ?_
      refine zg_iload_n (pc' := 53) zd_Ls_looked_52 rfl rfl ?_
      refine zg_iconst (x := (1 : Int32)) (pc' := 54) zd_Ls_looked_53 (by decide) rfl ?_
      obtain ⟨g16, h⟩ := gd_some h
      obtain ⟨r19, S17, e18, h⟩ := bq_some h
      refine zg_callV (ci := 4) (As := [.int a1, .int (1 : Int32)]) (rest := [.int (zI S8 (zR S8 (zR S8 a0 7) 1) r7.toNatClampNeg)]) (pc' := 57) zl_Ls_262 zq667 zq668 ⟨_, rfl, rfl⟩ zd_Ls_looked_54 rfl rfl (Nat.le_of_ble_eq_true rfl) (by omega) (gT_ok g16) (tm_Rw_cell (d := 2) (Nat.le_refl _) e18) rfl ?_
      refine zg_st (st' := [.int r19, .int (zI S8 (zR S8 (zR S8 a0 7) 1) r7.toNatClampNeg)]) rfl ?_
      rcases br_some h with ⟨c20, h⟩ | ⟨c20, h⟩
      · refine zg_icmp_eq (tgt := 62) (pc' := 60) zd_Ls_looked_57 (by decide) rfl (fun _ => ?_) (fun q => absurd c20 q)
        refine zg_iinc (y := (a1 + (1 : Int32))) (L' := [some (.ref a0), some (.int (a1 + (1 : Int32))), some (.int r7)]) (pc' := 65) zd_Ls_looked_62 rfl rfl (by decide) rfl rfl ?_
        refine zg_goto (tgt := 2) zd_Ls_looked_65 (by decide) ?_
        refine zg_mask (L' := [some (.ref a0), some (.int (a1 + (1 : Int32))), none]) (zmk_ok _ _ ⟨rfl, ⟨rfl, trivial⟩⟩) ?_
        exact hK2 _ _ _ h
      · refine zg_icmp_eq (tgt := 62) (pc' := 60) zd_Ls_looked_57 (by decide) rfl (fun q => absurd q c20) (fun _ => ?_)
        refine zg_iload_n (pc' := 61) zd_Ls_looked_60 rfl rfl ?_
        obtain ⟨rfl, rfl⟩ := rt_q h
        exact zg_iret zd_Ls_looked_61 zrt_i
set_option maxRecDepth 100000 in
def fn_Ls_looked (a0 : Nat) (S : zS) : Option (Int32 × zS) :=
  lp (σ := Nat × Int32 × zS) (fun k s => fn_Ls_looked_L2 s.1 s.2.1 s.2.2 (fun (a0 : Nat) (a1 : Int32) (S : zS) => k (a0, a1, S))) FU (a0, (0 : Int32), S)
set_option maxRecDepth 100000 in
set_option maxHeartbeats 4000000 in
theorem tm_Ls_looked {X : zXt} {d : Nat} (hd : 3 ≤ d) {v : Int32} {a0 : Nat} {S : zS} {S' : zS} (h : fn_Ls_looked a0 S = some (v, S')) : zM X zy_Ls_looked prog_1_method_26_code 3 (Option.some Jvm.ClassFile.FieldType.int) d [.ref a0] S (some (.int v)) S' := by
  refine zM_of (ini := false) (L := [some (.ref a0), none, none]) (plainFor_of_name (by decide)) (fun h => by cases h) (Nat.le_of_ble_eq_true rfl) rfl ?_
  unfold fn_Ls_looked at h
  refine zg_iconst (x := (0 : Int32)) (pc' := 1) zd_Ls_looked_0 (by decide) rfl ?_
  refine zg_istore_n (L' := [some (.ref a0), some (.int (0 : Int32)), none]) (pc' := 2) zd_Ls_looked_1 (by decide) rfl rfl ?_
  exact lp_indh h (P := fun s => zG X zm_Ls_looked d 2 [some (.ref (s.1)), some (.int (s.2.1)), none] [] (s.2.2) (some (.int v)) S') (fun k hk s h => tm_Ls_looked_L2 hd (fun a0 a1 S h => hk (a0, a1, S) h) h)
theorem zd_Ls_judge_0 : decode prog_1_method_27_code 0 = .ok (.iload_n 1, 1) := by decide +kernel
theorem zd_Ls_judge_1 : decode prog_1_method_27_code 1 = .ok (.invokestatic 273, 3) := by decide +kernel
theorem zd_Ls_judge_4 : decode prog_1_method_27_code 4 = .ok (.ifCond .ne 5, 3) := by decide +kernel
theorem zd_Ls_judge_9 : decode prog_1_method_27_code 9 = .ok (.aload_n 0, 1) := by decide +kernel
theorem zd_Ls_judge_10 : decode prog_1_method_27_code 10 = .ok (.getfield 19, 3) := by decide +kernel
theorem zd_Ls_judge_13 : decode prog_1_method_27_code 13 = .ok (.iload_n 1, 1) := by decide +kernel
theorem zd_Ls_judge_14 : decode prog_1_method_27_code 14 = .ok (.aaload, 1) := by decide +kernel
theorem zd_Ls_judge_15 : decode prog_1_method_27_code 15 = .ok (.astore_n 3, 1) := by decide +kernel
theorem zd_Ls_judge_16 : decode prog_1_method_27_code 16 = .ok (.aload_n 3, 1) := by decide +kernel
theorem zd_Ls_judge_17 : decode prog_1_method_27_code 17 = .ok (.getfield 276, 3) := by decide +kernel
theorem zd_Ls_judge_20 : decode prog_1_method_27_code 20 = .ok (.iconst (-1), 1) := by decide +kernel
theorem zd_Ls_judge_21 : decode prog_1_method_27_code 21 = .ok (.if_icmp .eq 14, 3) := by decide +kernel
theorem zd_Ls_judge_24 : decode prog_1_method_27_code 24 = .ok (.aload_n 3, 1) := by decide +kernel
theorem zd_Ls_judge_25 : decode prog_1_method_27_code 25 = .ok (.getfield 276, 3) := by decide +kernel
theorem zd_Ls_judge_28 : decode prog_1_method_27_code 28 = .ok (.iconst 1, 1) := by decide +kernel
theorem zd_Ls_judge_29 : decode prog_1_method_27_code 29 = .ok (.if_icmp .eq 6, 3) := by decide +kernel
theorem zd_Ls_judge_35 : decode prog_1_method_27_code 35 = .ok (.iconst 0, 1) := by decide +kernel
theorem zd_Ls_judge_36 : decode prog_1_method_27_code 36 = .ok (.istore 4, 2) := by decide +kernel
theorem zd_Ls_judge_38 : decode prog_1_method_27_code 38 = .ok (.iload 4, 2) := by decide +kernel
theorem zd_Ls_judge_40 : decode prog_1_method_27_code 40 = .ok (.iconst 4, 1) := by decide +kernel
theorem zd_Ls_judge_41 : decode prog_1_method_27_code 41 = .ok (.if_icmp .ge 57, 3) := by decide +kernel
theorem zd_Ls_judge_98 : decode prog_1_method_27_code 98 = .ok (.bipush (-5), 2) := by decide +kernel
theorem zd_Ls_judge_100 : decode prog_1_method_27_code 100 = .ok (.ireturn, 1) := by decide +kernel
theorem zd_Ls_judge_44 : decode prog_1_method_27_code 44 = .ok (.iload_n 2, 1) := by decide +kernel
theorem zd_Ls_judge_45 : decode prog_1_method_27_code 45 = .ok (.ifCond .lt 14, 3) := by decide +kernel
theorem zd_Ls_judge_48 : decode prog_1_method_27_code 48 = .ok (.iload_n 2, 1) := by decide +kernel
theorem zd_Ls_judge_49 : decode prog_1_method_27_code 49 = .ok (.aload_n 3, 1) := by decide +kernel
theorem zd_Ls_judge_50 : decode prog_1_method_27_code 50 = .ok (.getfield 279, 3) := by decide +kernel
theorem zd_Ls_judge_53 : decode prog_1_method_27_code 53 = .ok (.iload 4, 2) := by decide +kernel
theorem zd_Ls_judge_55 : decode prog_1_method_27_code 55 = .ok (.isub, 1) := by decide +kernel
theorem zd_Ls_judge_56 : decode prog_1_method_27_code 56 = .ok (.if_icmp .lt 9, 3) := by decide +kernel
theorem zd_Ls_judge_65 : decode prog_1_method_27_code 65 = .ok (.aload_n 3, 1) := by decide +kernel
theorem zd_Ls_judge_66 : decode prog_1_method_27_code 66 = .ok (.getfield 280, 3) := by decide +kernel
theorem zd_Ls_judge_69 : decode prog_1_method_27_code 69 = .ok (.iload_n 2, 1) := by decide +kernel
theorem zd_Ls_judge_70 : decode prog_1_method_27_code 70 = .ok (.iload 4, 2) := by decide +kernel
theorem zd_Ls_judge_72 : decode prog_1_method_27_code 72 = .ok (.iadd, 1) := by decide +kernel
theorem zd_Ls_judge_73 : decode prog_1_method_27_code 73 = .ok (.laload, 1) := by decide +kernel
theorem zd_Ls_judge_74 : decode prog_1_method_27_code 74 = .ok (.aload_n 0, 1) := by decide +kernel
theorem zd_Ls_judge_75 : decode prog_1_method_27_code 75 = .ok (.getfield 74, 3) := by decide +kernel
theorem zd_Ls_judge_78 : decode prog_1_method_27_code 78 = .ok (.getfield 152, 3) := by decide +kernel
theorem zd_Ls_judge_81 : decode prog_1_method_27_code 81 = .ok (.iload 4, 2) := by decide +kernel
theorem zd_Ls_judge_83 : decode prog_1_method_27_code 83 = .ok (.iaload, 1) := by decide +kernel
theorem zd_Ls_judge_84 : decode prog_1_method_27_code 84 = .ok (.i2l, 1) := by decide +kernel
theorem zd_Ls_judge_85 : decode prog_1_method_27_code 85 = .ok (.lcmp, 1) := by decide +kernel
theorem zd_Ls_judge_86 : decode prog_1_method_27_code 86 = .ok (.ifCond .eq 6, 3) := by decide +kernel
theorem zd_Ls_judge_92 : decode prog_1_method_27_code 92 = .ok (.iinc 4 1, 3) := by decide +kernel
theorem zd_Ls_judge_95 : decode prog_1_method_27_code 95 = .ok (.goto (-57), 3) := by decide +kernel
theorem zd_Ls_judge_89 : decode prog_1_method_27_code 89 = .ok (.iload 4, 2) := by decide +kernel
theorem zd_Ls_judge_91 : decode prog_1_method_27_code 91 = .ok (.ireturn, 1) := by decide +kernel
theorem zd_Ls_judge_59 : decode prog_1_method_27_code 59 = .ok (.bipush 100, 2) := by decide +kernel
theorem zd_Ls_judge_61 : decode prog_1_method_27_code 61 = .ok (.iload 4, 2) := by decide +kernel
theorem zd_Ls_judge_63 : decode prog_1_method_27_code 63 = .ok (.iadd, 1) := by decide +kernel
theorem zd_Ls_judge_64 : decode prog_1_method_27_code 64 = .ok (.ireturn, 1) := by decide +kernel
theorem zd_Ls_judge_32 : decode prog_1_method_27_code 32 = .ok (.bipush (-12), 2) := by decide +kernel
theorem zd_Ls_judge_34 : decode prog_1_method_27_code 34 = .ok (.ireturn, 1) := by decide +kernel
theorem zd_Ls_judge_7 : decode prog_1_method_27_code 7 = .ok (.iconst (-1), 1) := by decide +kernel
theorem zd_Ls_judge_8 : decode prog_1_method_27_code 8 = .ok (.ireturn, 1) := by decide +kernel
abbrev zm_Ls_judge : zQ := ("LoofahSaints", prog_1_method_27_code, 5, (Option.some Jvm.ClassFile.FieldType.int), false)
set_option maxRecDepth 100000 in
def fn_Ls_judge_L38 (a0 : Nat) (a2 : Int32) (a3 : Nat) (a4 : Int32) (S : zS) (K38 : Nat → Int32 → Nat → Int32 → zS → Option (Int32 × zS)) : Option (Int32 × zS) :=
  br (decide ((4 : Int32) ≤ a4)) (some ((-5 : Int32), S)) <|
  br (decide (a2 < 0)) (some (((100 : Int32) + a4), S)) <|
  gd (gT S a3 108) <|
  br (decide (a2 < ((zI S a3 2) - a4))) (gd (gT S (zR S a3 0) 3) <|
  gd (gB (a2 + a4) (zT S (zR S a3 0)).2) <|
  gd (gT S a0 109) <|
  gd (gT S (zR S a0 7) 101) <|
  gd (gT S (zR S (zR S a0 7) 1) 1) <|
  gd (gB a4 (zT S (zR S (zR S a0 7) 1)).2) <|
  br (decide ((zcmp (zL S (zR S a3 0) (a2 + a4).toNatClampNeg) ((zI S (zR S (zR S a0 7) 1) a4.toNatClampNeg).toInt64)) = 0)) (K38 a0 a2 a3 (a4 + (1 : Int32)) S) <|
  some (a4, S)) <|
  some (((100 : Int32) + a4), S)
set_option maxRecDepth 100000 in
set_option maxHeartbeats 4000000 in
theorem tm_Ls_judge_L38 {X : zXt} {d : Nat} (hd : 3 ≤ d) {v : Int32} {S' : zS}  {K38 : Nat → Int32 → Nat → Int32 → zS → Option (Int32 × zS)} (hK38 : ∀ (a0 : Nat) (a2 : Int32) (a3 : Nat) (a4 : Int32) (S : zS), K38 a0 a2 a3 a4 S = some (v, S') → zG X zm_Ls_judge d 38 [some (.ref a0), none, some (.int a2), some (.ref a3), some (.int a4)] [] S (some (.int v)) S') {a0 : Nat} {a2 : Int32} {a3 : Nat} {a4 : Int32} {S : zS} (h : fn_Ls_judge_L38 a0 a2 a3 a4 S K38 = some (v, S')) : zG X zm_Ls_judge d 38 [some (.ref a0), none, some (.int a2), some (.ref a3), some (.int a4)] [] S (some (.int v)) S' := by
  unfold fn_Ls_judge_L38 at h
  refine zg_iload (pc' := 40) zd_Ls_judge_38 rfl rfl ?_
  refine zg_iconst (x := (4 : Int32)) (pc' := 41) zd_Ls_judge_40 (by decide) rfl ?_
  rcases br_some h with ⟨c1, h⟩ | ⟨c1, h⟩
  · refine zg_icmp_ge (tgt := 98) (pc' := 44) zd_Ls_judge_41 (by decide) rfl (fun _ => ?_) (fun q => absurd c1 q)
    refine zg_bipush (x := (-5 : Int32)) (pc' := 100) zd_Ls_judge_98 (by decide) rfl ?_
    obtain ⟨rfl, rfl⟩ := rt_q h
    exact zg_iret zd_Ls_judge_100 zrt_i
  · refine zg_icmp_ge (tgt := 98) (pc' := 44) zd_Ls_judge_41 (by decide) rfl (fun q => absurd q c1) (fun _ => ?_)
    refine zg_iload_n (pc' := 45) zd_Ls_judge_44 rfl rfl ?_
    rcases br_some h with ⟨c2, h⟩ | ⟨c2, h⟩
    · refine zg_if_lt (tgt := 59) (pc' := 48) zd_Ls_judge_45 (by decide) rfl (fun _ => ?_) (fun q => absurd c2 q)
      refine zg_bipush (x := (100 : Int32)) (pc' := 61) zd_Ls_judge_59 (by decide) rfl ?_
      refine zg_iload (pc' := 63) zd_Ls_judge_61 rfl rfl ?_
      refine zg_iadd (pc' := 64) zd_Ls_judge_63 rfl ?_
      obtain ⟨rfl, rfl⟩ := rt_q h
      exact zg_iret zd_Ls_judge_64 zrt_i
    · refine zg_if_lt (tgt := 59) (pc' := 48) zd_Ls_judge_45 (by decide) rfl (fun q => absurd q c2) (fun _ => ?_)
      refine zg_iload_n (pc' := 49) zd_Ls_judge_48 rfl rfl ?_
      refine zg_aload_n (pc' := 50) zd_Ls_judge_49 rfl rfl ?_
      obtain ⟨g3, h⟩ := gd_some h
      refine zg_getI (pc' := 53) zf_Ls_279 zd_Ls_judge_50 (gT_ok g3) rfl ?_
      refine zg_iload (pc' := 55) zd_Ls_judge_53 rfl rfl ?_
      refine zg_isub (pc' := 56) zd_Ls_judge_55 rfl ?_
      rcases br_some h with ⟨c4, h⟩ | ⟨c4, h⟩
      · refine zg_icmp_lt (tgt := 65) (pc' := 59) zd_Ls_judge_56 (by decide) rfl (fun _ => ?_) (fun q => absurd c4 q)
        refine zg_aload_n (pc' := 66) zd_Ls_judge_65 rfl rfl ?_
        refine zg_getR (pc' := 69) zf_Ls_280 rfl zd_Ls_judge_66 (gT_ok g3) rfl ?_
        refine zg_iload_n (pc' := 70) zd_Ls_judge_69 rfl rfl ?_
        refine zg_iload (pc' := 72) zd_Ls_judge_70 rfl rfl ?_
        refine zg_iadd (pc' := 73) zd_Ls_judge_72 rfl ?_
        obtain ⟨g5, h⟩ := gd_some h
        obtain ⟨g6, h⟩ := gd_some h
        refine zg_lald (pc' := 74) zd_Ls_judge_73 (gT_ok g5) (gB_ok g6) rfl ?_
        refine zg_aload_n (pc' := 75) zd_Ls_judge_74 rfl rfl ?_
        obtain ⟨g7, h⟩ := gd_some h
        refine zg_getR (pc' := 78) zf_Ls_74 rfl zd_Ls_judge_75 (gT_ok g7) rfl ?_
        obtain ⟨g8, h⟩ := gd_some h
        refine zg_getR (pc' := 81) zf_Ls_152 rfl zd_Ls_judge_78 (gT_ok g8) rfl ?_
        refine zg_iload (pc' := 83) zd_Ls_judge_81 rfl rfl ?_
        obtain ⟨g9, h⟩ := gd_some h
        obtain ⟨g10, h⟩ := gd_some h
        refine zg_iald (pc' := 84) zd_Ls_judge_83 (gT_ok g9) (gB_ok g10) rfl ?_
        refine zg_i2l (pc' := 85) zd_Ls_judge_84 rfl ?_
        refine zg_lcm (pc' := 86) zd_Ls_judge_85 rfl ?_
        rcases br_some h with ⟨c11, h⟩ | ⟨c11, h⟩
        · refine zg_if_eq (tgt := 92) (pc' := 89) zd_Ls_judge_86 (by decide) rfl (fun _ => ?_) (fun q => absurd c11 q)
          refine zg_iinc (y := (a4 + (1 : Int32))) (L' := [some (.ref a0), none, some (.int a2), some (.ref a3), some (.int (a4 + (1 : Int32)))]) (pc' := 95) zd_Ls_judge_92 rfl rfl (by decide) rfl rfl ?_
          refine zg_goto (tgt := 38) zd_Ls_judge_95 (by decide) ?_
          exact hK38 _ _ _ _ _ h
        · refine zg_if_eq (tgt := 92) (pc' := 89) zd_Ls_judge_86 (by decide) rfl (fun q => absurd q c11) (fun _ => ?_)
          refine zg_iload (pc' := 91) zd_Ls_judge_89 rfl rfl ?_
          obtain ⟨rfl, rfl⟩ := rt_q h
          exact zg_iret zd_Ls_judge_91 zrt_i
      · refine zg_icmp_lt (tgt := 65) (pc' := 59) zd_Ls_judge_56 (by decide) rfl (fun q => absurd q c4) (fun _ => ?_)
        refine zg_bipush (x := (100 : Int32)) (pc' := 61) zd_Ls_judge_59 (by decide) rfl ?_
        refine zg_iload (pc' := 63) zd_Ls_judge_61 rfl rfl ?_
        refine zg_iadd (pc' := 64) zd_Ls_judge_63 rfl ?_
        obtain ⟨rfl, rfl⟩ := rt_q h
        exact zg_iret zd_Ls_judge_64 zrt_i
set_option maxRecDepth 100000 in
def fn_Ls_judge (a0 : Nat) (a1 : Int32) (a2 : Int32) (S : zS) : Option (Int32 × zS) :=
  bq (fn_Ls_isTape a1 S) fun r3 S1 =>
  br (decide (r3 = 0)) (some ((-1 : Int32), S1)) <|
  gd (gT S1 a0 109) <|
  gd (gT S1 (zR S1 a0 1) 5) <|
  gd (gB a1 (zT S1 (zR S1 a0 1)).2) <|
  gd (gT S1 (zR S1 (zR S1 a0 1) a1.toNatClampNeg) 108) <|
  br (decide ((zI S1 (zR S1 (zR S1 a0 1) a1.toNatClampNeg) 1) = (-1 : Int32))) (lp (σ := Nat × Int32 × Nat × Int32 × zS) (fun k s => fn_Ls_judge_L38 s.1 s.2.1 s.2.2.1 s.2.2.2.1 s.2.2.2.2 (fun (a0 : Nat) (a2 : Int32) (a3 : Nat) (a4 : Int32) (S : zS) => k (a0, a2, a3, a4, S))) FU (a0, a2, (zR S1 (zR S1 a0 1) a1.toNatClampNeg), (0 : Int32), S1)) <|
  br (decide ((zI S1 (zR S1 (zR S1 a0 1) a1.toNatClampNeg) 1) = (1 : Int32))) (lp (σ := Nat × Int32 × Nat × Int32 × zS) (fun k s => fn_Ls_judge_L38 s.1 s.2.1 s.2.2.1 s.2.2.2.1 s.2.2.2.2 (fun (a0 : Nat) (a2 : Int32) (a3 : Nat) (a4 : Int32) (S : zS) => k (a0, a2, a3, a4, S))) FU (a0, a2, (zR S1 (zR S1 a0 1) a1.toNatClampNeg), (0 : Int32), S1)) <|
  some ((-12 : Int32), S1)
set_option maxRecDepth 100000 in
set_option maxHeartbeats 4000000 in
theorem tm_Ls_judge {X : zXt} {d : Nat} (hd : 3 ≤ d) {v : Int32} {a0 : Nat} {a1 : Int32} {a2 : Int32} {S : zS} {S' : zS} (h : fn_Ls_judge a0 a1 a2 S = some (v, S')) : zM X zy_Ls_judge prog_1_method_27_code 5 (Option.some Jvm.ClassFile.FieldType.int) d [.ref a0, .int a1, .int a2] S (some (.int v)) S' := by
  refine zM_of (ini := false) (L := [some (.ref a0), some (.int a1), some (.int a2), none, none]) (plainFor_of_name (by decide)) (fun h => by cases h) (Nat.le_of_ble_eq_true rfl) rfl ?_
  unfold fn_Ls_judge at h
  refine zg_iload_n (pc' := 1) zd_Ls_judge_0 rfl rfl ?_
  obtain ⟨r3, S1, e2, h⟩ := bq_some h
  refine zg_callS (As := [.int a1]) (rest := []) (pc' := 4) zl_Ls_273 zq717 zd_Ls_judge_1 rfl rfl (Nat.le_of_ble_eq_true rfl) (by omega) (tm_Ls_isTape (d := 2) (Nat.le_refl _) e2) rfl ?_
  refine zg_st (st' := [.int r3]) rfl ?_
  rcases br_some h with ⟨c4, h⟩ | ⟨c4, h⟩
  · refine zg_if_ne (tgt := 9) (pc' := 7) zd_Ls_judge_4 (by decide) rfl (fun q => absurd c4 q) (fun _ => ?_)
    refine zg_iconst (x := (-1 : Int32)) (pc' := 8) zd_Ls_judge_7 (by decide) rfl ?_
    obtain ⟨rfl, rfl⟩ := rt_q h
    exact zg_iret zd_Ls_judge_8 zrt_i
  · refine zg_if_ne (tgt := 9) (pc' := 7) zd_Ls_judge_4 (by decide) rfl (fun _ => ?_) (fun q => absurd q c4)
    refine zg_aload_n (pc' := 10) zd_Ls_judge_9 rfl rfl ?_
    obtain ⟨g5, h⟩ := gd_some h
    refine zg_getR (pc' := 13) zf_Ls_19 rfl zd_Ls_judge_10 (gT_ok g5) rfl ?_
    refine zg_iload_n (pc' := 14) zd_Ls_judge_13 rfl rfl ?_
    obtain ⟨g6, h⟩ := gd_some h
    obtain ⟨g7, h⟩ := gd_some h
    refine zg_aald (t := 5) (pc' := 15) (by decide) zd_Ls_judge_14 (gT_ok g6) (gB_ok g7) rfl ?_
    refine zg_astore_n (L' := [some (.ref a0), some (.int a1), some (.int a2), some (.ref (zR S1 (zR S1 a0 1) a1.toNatClampNeg)), none]) (pc' := 16) zd_Ls_judge_15 (by decide) rfl rfl ?_
    refine zg_aload_n (pc' := 17) zd_Ls_judge_16 rfl rfl ?_
    obtain ⟨g8, h⟩ := gd_some h
    refine zg_getI (pc' := 20) zf_Ls_276 zd_Ls_judge_17 (gT_ok g8) rfl ?_
    refine zg_iconst (x := (-1 : Int32)) (pc' := 21) zd_Ls_judge_20 (by decide) rfl ?_
    rcases br_some h with ⟨c9, h⟩ | ⟨c9, h⟩
    · refine zg_icmp_eq (tgt := 35) (pc' := 24) zd_Ls_judge_21 (by decide) rfl (fun _ => ?_) (fun q => absurd c9 q)
      refine zg_iconst (x := (0 : Int32)) (pc' := 36) zd_Ls_judge_35 (by decide) rfl ?_
      refine zg_istore (L' := [some (.ref a0), some (.int a1), some (.int a2), some (.ref (zR S1 (zR S1 a0 1) a1.toNatClampNeg)), some (.int (0 : Int32))]) (pc' := 38) zd_Ls_judge_36 (by decide) rfl rfl ?_
      refine zg_mask (L' := [some (.ref a0), none, some (.int a2), some (.ref (zR S1 (zR S1 a0 1) a1.toNatClampNeg)), some (.int (0 : Int32))]) (zmk_ok _ _ ⟨rfl, ⟨rfl, ⟨rfl, ⟨rfl, trivial⟩⟩⟩⟩) ?_
      exact lp_indh h (P := fun s => zG X zm_Ls_judge d 38 [some (.ref (s.1)), none, some (.int (s.2.1)), some (.ref (s.2.2.1)), some (.int (s.2.2.2.1))] [] (s.2.2.2.2) (some (.int v)) S') (fun k hk s h => tm_Ls_judge_L38 hd (fun a0 a2 a3 a4 S h => hk (a0, a2, a3, a4, S) h) h)
    · refine zg_icmp_eq (tgt := 35) (pc' := 24) zd_Ls_judge_21 (by decide) rfl (fun q => absurd q c9) (fun _ => ?_)
      refine zg_aload_n (pc' := 25) zd_Ls_judge_24 rfl rfl ?_
      refine zg_getI (pc' := 28) zf_Ls_276 zd_Ls_judge_25 (gT_ok g8) rfl ?_
      refine zg_iconst (x := (1 : Int32)) (pc' := 29) zd_Ls_judge_28 (by decide) rfl ?_
      rcases br_some h with ⟨c10, h⟩ | ⟨c10, h⟩
      · refine zg_icmp_eq (tgt := 35) (pc' := 32) zd_Ls_judge_29 (by decide) rfl (fun _ => ?_) (fun q => absurd c10 q)
        refine zg_iconst (x := (0 : Int32)) (pc' := 36) zd_Ls_judge_35 (by decide) rfl ?_
        refine zg_istore (L' := [some (.ref a0), some (.int a1), some (.int a2), some (.ref (zR S1 (zR S1 a0 1) a1.toNatClampNeg)), some (.int (0 : Int32))]) (pc' := 38) zd_Ls_judge_36 (by decide) rfl rfl ?_
        refine zg_mask (L' := [some (.ref a0), none, some (.int a2), some (.ref (zR S1 (zR S1 a0 1) a1.toNatClampNeg)), some (.int (0 : Int32))]) (zmk_ok _ _ ⟨rfl, ⟨rfl, ⟨rfl, ⟨rfl, trivial⟩⟩⟩⟩) ?_
        exact lp_indh h (P := fun s => zG X zm_Ls_judge d 38 [some (.ref (s.1)), none, some (.int (s.2.1)), some (.ref (s.2.2.1)), some (.int (s.2.2.2.1))] [] (s.2.2.2.2) (some (.int v)) S') (fun k hk s h => tm_Ls_judge_L38 hd (fun a0 a2 a3 a4 S h => hk (a0, a2, a3, a4, S) h) h)
      · refine zg_icmp_eq (tgt := 35) (pc' := 32) zd_Ls_judge_29 (by decide) rfl (fun q => absurd q c10) (fun _ => ?_)
        refine zg_bipush (x := (-12 : Int32)) (pc' := 34) zd_Ls_judge_32 (by decide) rfl ?_
        obtain ⟨rfl, rfl⟩ := rt_q h
        exact zg_iret zd_Ls_judge_34 zrt_i
theorem zd_Ls_image_0 : decode prog_1_method_28_code 0 = .ok (.aload_n 0, 1) := by decide +kernel
theorem zd_Ls_image_1 : decode prog_1_method_28_code 1 = .ok (.getfield 81, 3) := by decide +kernel
theorem zd_Ls_image_4 : decode prog_1_method_28_code 4 = .ok (.aload_n 0, 1) := by decide +kernel
theorem zd_Ls_image_5 : decode prog_1_method_28_code 5 = .ok (.getfield 74, 3) := by decide +kernel
theorem zd_Ls_image_8 : decode prog_1_method_28_code 8 = .ok (.invokevirtual 202, 3) := by decide +kernel
theorem zd_Ls_image_11 : decode prog_1_method_28_code 11 = .ok (.aload_n 0, 1) := by decide +kernel
theorem zd_Ls_image_12 : decode prog_1_method_28_code 12 = .ok (.iconst 1, 1) := by decide +kernel
theorem zd_Ls_image_13 : decode prog_1_method_28_code 13 = .ok (.putfield 64, 3) := by decide +kernel
theorem zd_Ls_image_16 : decode prog_1_method_28_code 16 = .ok (.aload_n 0, 1) := by decide +kernel
theorem zd_Ls_image_17 : decode prog_1_method_28_code 17 = .ok (.getfield 74, 3) := by decide +kernel
theorem zd_Ls_image_20 : decode prog_1_method_28_code 20 = .ok (.getfield 92, 3) := by decide +kernel
theorem zd_Ls_image_23 : decode prog_1_method_28_code 23 = .ok (.ireturn, 1) := by decide +kernel
abbrev zm_Ls_image : zQ := ("LoofahSaints", prog_1_method_28_code, 1, (Option.some Jvm.ClassFile.FieldType.int), false)
set_option maxRecDepth 100000 in
def fn_Ls_image (a0 : Nat) (S : zS) : Option (Int32 × zS) :=
  gd (gT S a0 109) <|
  gd (gT S (zR S a0 9) 101) <|
  bv (fn_Ho_copy (zR S a0 9) (zR S a0 7) S) fun S3 =>
  gd (gT S3 a0 109) <|
  nm (uI S3 a0 11 (1 : Int32)) fun S6 =>
  gd (gT S6 a0 109) <|
  gd (gT S6 (zR S6 a0 7) 101) <|
  some ((zI S6 (zR S6 a0 7) 6), S6)
set_option maxRecDepth 100000 in
set_option maxHeartbeats 4000000 in
theorem tm_Ls_image {X : zXt} {d : Nat} (hd : 5 ≤ d) {v : Int32} {a0 : Nat} {S : zS} {S' : zS} (h : fn_Ls_image a0 S = some (v, S')) : zM X zy_Ls_image prog_1_method_28_code 1 (Option.some Jvm.ClassFile.FieldType.int) d [.ref a0] S (some (.int v)) S' := by
  refine zM_of (ini := false) (L := [some (.ref a0)]) (plainFor_of_name (by decide)) (fun h => by cases h) (Nat.le_of_ble_eq_true rfl) rfl ?_
  unfold fn_Ls_image at h
  refine zg_aload_n (pc' := 1) zd_Ls_image_0 rfl rfl ?_
  obtain ⟨g1, h⟩ := gd_some h
  refine zg_getR (pc' := 4) zf_Ls_81 rfl zd_Ls_image_1 (gT_ok g1) rfl ?_
  refine zg_aload_n (pc' := 5) zd_Ls_image_4 rfl rfl ?_
  refine zg_getR (pc' := 8) zf_Ls_74 rfl zd_Ls_image_5 (gT_ok g1) rfl ?_
  obtain ⟨g2, h⟩ := gd_some h
  obtain ⟨S3, e4, h⟩ := bv_some h
  refine zg_callV (ci := 1) (As := [.ref (zR S a0 7)]) (rest := []) (pc' := 11) zl_Ls_202 zq548 zq549 ⟨_, rfl, rfl⟩ zd_Ls_image_8 rfl rfl (Nat.le_of_ble_eq_true rfl) (by omega) (gT_ok g2) (tm_Ho_copy (d := 4) (Nat.le_refl _) e4) rfl ?_
  refine zg_st (st' := []) rfl ?_
  refine zg_aload_n (pc' := 12) zd_Ls_image_11 rfl rfl ?_
  refine zg_iconst (x := (1 : Int32)) (pc' := 13) zd_Ls_image_12 (by decide) rfl ?_
  obtain ⟨g5, h⟩ := gd_some h
  refine zg_putZ (pc' := 16) zf_Ls_64 zd_Ls_image_13 (Or.inl rfl) (gT_ok g5) (by decide) rfl ?_
  obtain ⟨S6, eS6, h⟩ := nm_some h
  refine zg_nm eS6 ?_
  refine zg_aload_n (pc' := 17) zd_Ls_image_16 rfl rfl ?_
  obtain ⟨g7, h⟩ := gd_some h
  refine zg_getR (pc' := 20) zf_Ls_74 rfl zd_Ls_image_17 (gT_ok g7) rfl ?_
  obtain ⟨g8, h⟩ := gd_some h
  refine zg_getI (pc' := 23) zf_Ls_92 zd_Ls_image_20 (gT_ok g8) rfl ?_
  obtain ⟨rfl, rfl⟩ := rt_q h
  exact zg_iret zd_Ls_image_23 zrt_i
theorem zd_Ls_undo_0 : decode prog_1_method_29_code 0 = .ok (.aload_n 0, 1) := by decide +kernel
theorem zd_Ls_undo_1 : decode prog_1_method_29_code 1 = .ok (.getfield 64, 3) := by decide +kernel
theorem zd_Ls_undo_4 : decode prog_1_method_29_code 4 = .ok (.ifCond .ne 6, 3) := by decide +kernel
theorem zd_Ls_undo_10 : decode prog_1_method_29_code 10 = .ok (.aload_n 0, 1) := by decide +kernel
theorem zd_Ls_undo_11 : decode prog_1_method_29_code 11 = .ok (.getfield 74, 3) := by decide +kernel
theorem zd_Ls_undo_14 : decode prog_1_method_29_code 14 = .ok (.aload_n 0, 1) := by decide +kernel
theorem zd_Ls_undo_15 : decode prog_1_method_29_code 15 = .ok (.getfield 81, 3) := by decide +kernel
theorem zd_Ls_undo_18 : decode prog_1_method_29_code 18 = .ok (.invokevirtual 202, 3) := by decide +kernel
theorem zd_Ls_undo_21 : decode prog_1_method_29_code 21 = .ok (.aload_n 0, 1) := by decide +kernel
theorem zd_Ls_undo_22 : decode prog_1_method_29_code 22 = .ok (.getfield 74, 3) := by decide +kernel
theorem zd_Ls_undo_25 : decode prog_1_method_29_code 25 = .ok (.getfield 92, 3) := by decide +kernel
theorem zd_Ls_undo_28 : decode prog_1_method_29_code 28 = .ok (.ireturn, 1) := by decide +kernel
theorem zd_Ls_undo_7 : decode prog_1_method_29_code 7 = .ok (.bipush (-3), 2) := by decide +kernel
theorem zd_Ls_undo_9 : decode prog_1_method_29_code 9 = .ok (.ireturn, 1) := by decide +kernel
abbrev zm_Ls_undo : zQ := ("LoofahSaints", prog_1_method_29_code, 1, (Option.some Jvm.ClassFile.FieldType.int), false)
set_option maxRecDepth 100000 in
def fn_Ls_undo (a0 : Nat) (S : zS) : Option (Int32 × zS) :=
  gd (gT S a0 109) <|
  br (decide ((zI S a0 11) = 0)) (some ((-3 : Int32), S)) <|
  gd (gT S (zR S a0 7) 101) <|
  bv (fn_Ho_copy (zR S a0 7) (zR S a0 9) S) fun S4 =>
  gd (gT S4 a0 109) <|
  gd (gT S4 (zR S4 a0 7) 101) <|
  some ((zI S4 (zR S4 a0 7) 6), S4)
set_option maxRecDepth 100000 in
set_option maxHeartbeats 4000000 in
theorem tm_Ls_undo {X : zXt} {d : Nat} (hd : 5 ≤ d) {v : Int32} {a0 : Nat} {S : zS} {S' : zS} (h : fn_Ls_undo a0 S = some (v, S')) : zM X zy_Ls_undo prog_1_method_29_code 1 (Option.some Jvm.ClassFile.FieldType.int) d [.ref a0] S (some (.int v)) S' := by
  refine zM_of (ini := false) (L := [some (.ref a0)]) (plainFor_of_name (by decide)) (fun h => by cases h) (Nat.le_of_ble_eq_true rfl) rfl ?_
  unfold fn_Ls_undo at h
  refine zg_aload_n (pc' := 1) zd_Ls_undo_0 rfl rfl ?_
  obtain ⟨g1, h⟩ := gd_some h
  refine zg_getZ (pc' := 4) zf_Ls_64 zd_Ls_undo_1 (gT_ok g1) rfl ?_
  rcases br_some h with ⟨c2, h⟩ | ⟨c2, h⟩
  · refine zg_if_ne (tgt := 10) (pc' := 7) zd_Ls_undo_4 (by decide) rfl (fun q => absurd c2 q) (fun _ => ?_)
    refine zg_bipush (x := (-3 : Int32)) (pc' := 9) zd_Ls_undo_7 (by decide) rfl ?_
    obtain ⟨rfl, rfl⟩ := rt_q h
    exact zg_iret zd_Ls_undo_9 zrt_i
  · refine zg_if_ne (tgt := 10) (pc' := 7) zd_Ls_undo_4 (by decide) rfl (fun _ => ?_) (fun q => absurd q c2)
    refine zg_aload_n (pc' := 11) zd_Ls_undo_10 rfl rfl ?_
    refine zg_getR (pc' := 14) zf_Ls_74 rfl zd_Ls_undo_11 (gT_ok g1) rfl ?_
    refine zg_aload_n (pc' := 15) zd_Ls_undo_14 rfl rfl ?_
    refine zg_getR (pc' := 18) zf_Ls_81 rfl zd_Ls_undo_15 (gT_ok g1) rfl ?_
    obtain ⟨g3, h⟩ := gd_some h
    obtain ⟨S4, e5, h⟩ := bv_some h
    refine zg_callV (ci := 1) (As := [.ref (zR S a0 9)]) (rest := []) (pc' := 21) zl_Ls_202 zq548 zq549 ⟨_, rfl, rfl⟩ zd_Ls_undo_18 rfl rfl (Nat.le_of_ble_eq_true rfl) (by omega) (gT_ok g3) (tm_Ho_copy (d := 4) (Nat.le_refl _) e5) rfl ?_
    refine zg_st (st' := []) rfl ?_
    refine zg_aload_n (pc' := 22) zd_Ls_undo_21 rfl rfl ?_
    obtain ⟨g6, h⟩ := gd_some h
    refine zg_getR (pc' := 25) zf_Ls_74 rfl zd_Ls_undo_22 (gT_ok g6) rfl ?_
    obtain ⟨g7, h⟩ := gd_some h
    refine zg_getI (pc' := 28) zf_Ls_92 zd_Ls_undo_25 (gT_ok g7) rfl ?_
    obtain ⟨rfl, rfl⟩ := rt_q h
    exact zg_iret zd_Ls_undo_28 zrt_i
theorem zd_Ls_act_0 : decode prog_1_method_30_code 0 = .ok (.aload_n 0, 1) := by decide +kernel
theorem zd_Ls_act_1 : decode prog_1_method_30_code 1 = .ok (.getfield 47, 3) := by decide +kernel
theorem zd_Ls_act_4 : decode prog_1_method_30_code 4 = .ok (.iconst 0, 1) := by decide +kernel
theorem zd_Ls_act_5 : decode prog_1_method_30_code 5 = .ok (.putfield 284, 3) := by decide +kernel
theorem zd_Ls_act_8 : decode prog_1_method_30_code 8 = .ok (.aload_n 0, 1) := by decide +kernel
theorem zd_Ls_act_9 : decode prog_1_method_30_code 9 = .ok (.getfield 74, 3) := by decide +kernel
theorem zd_Ls_act_12 : decode prog_1_method_30_code 12 = .ok (.iload_n 1, 1) := by decide +kernel
theorem zd_Ls_act_13 : decode prog_1_method_30_code 13 = .ok (.invokevirtual 103, 3) := by decide +kernel
theorem zd_Ls_act_16 : decode prog_1_method_30_code 16 = .ok (.ifCond .eq 12, 3) := by decide +kernel
theorem zd_Ls_act_19 : decode prog_1_method_30_code 19 = .ok (.iload_n 2, 1) := by decide +kernel
theorem zd_Ls_act_20 : decode prog_1_method_30_code 20 = .ok (.ifCond .lt 8, 3) := by decide +kernel
theorem zd_Ls_act_23 : decode prog_1_method_30_code 23 = .ok (.iload_n 2, 1) := by decide +kernel
theorem zd_Ls_act_24 : decode prog_1_method_30_code 24 = .ok (.iconst 2, 1) := by decide +kernel
theorem zd_Ls_act_25 : decode prog_1_method_30_code 25 = .ok (.if_icmp .le 5, 3) := by decide +kernel
theorem zd_Ls_act_30 : decode prog_1_method_30_code 30 = .ok (.aload_n 0, 1) := by decide +kernel
theorem zd_Ls_act_31 : decode prog_1_method_30_code 31 = .ok (.getfield 47, 3) := by decide +kernel
theorem zd_Ls_act_34 : decode prog_1_method_30_code 34 = .ok (.aload_n 0, 1) := by decide +kernel
theorem zd_Ls_act_35 : decode prog_1_method_30_code 35 = .ok (.getfield 74, 3) := by decide +kernel
theorem zd_Ls_act_38 : decode prog_1_method_30_code 38 = .ok (.getfield 95, 3) := by decide +kernel
theorem zd_Ls_act_41 : decode prog_1_method_30_code 41 = .ok (.iload_n 1, 1) := by decide +kernel
theorem zd_Ls_act_42 : decode prog_1_method_30_code 42 = .ok (.aaload, 1) := by decide +kernel
theorem zd_Ls_act_43 : decode prog_1_method_30_code 43 = .ok (.iload_n 2, 1) := by decide +kernel
theorem zd_Ls_act_44 : decode prog_1_method_30_code 44 = .ok (.iload_n 3, 1) := by decide +kernel
theorem zd_Ls_act_45 : decode prog_1_method_30_code 45 = .ok (.invokevirtual 287, 3) := by decide +kernel
theorem zd_Ls_act_48 : decode prog_1_method_30_code 48 = .ok (.ireturn, 1) := by decide +kernel
theorem zd_Ls_act_28 : decode prog_1_method_30_code 28 = .ok (.iconst 0, 1) := by decide +kernel
theorem zd_Ls_act_29 : decode prog_1_method_30_code 29 = .ok (.ireturn, 1) := by decide +kernel
abbrev zm_Ls_act : zQ := ("LoofahSaints", prog_1_method_30_code, 4, (Option.some Jvm.ClassFile.FieldType.int), false)
set_option maxRecDepth 100000 in
def fn_Ls_act (a0 : Nat) (a1 : Int32) (a2 : Int32) (a3 : Int32) (S : zS) : Option (Int32 × zS) :=
  gd (gT S a0 109) <|
  gd (gT S (zR S a0 5) 100) <|
  nm (uI S (zR S a0 5) 1 (0 : Int32)) fun S3 =>
  gd (gT S3 a0 109) <|
  gd (gT S3 (zR S3 a0 7) 101) <|
  bq (fn_Ho_has (zR S3 a0 7) a1 S3) fun r8 S6 =>
  br (decide (r8 = 0)) (some ((0 : Int32), S6)) <|
  br (decide (a2 < 0)) (some ((0 : Int32), S6)) <|
  br (decide (a2 ≤ (2 : Int32))) (gd (gT S6 a0 109) <|
  gd (gT S6 (zR S6 a0 7) 101) <|
  gd (gT S6 (zR S6 (zR S6 a0 7) 0) 6) <|
  gd (gB a1 (zT S6 (zR S6 (zR S6 a0 7) 0)).2) <|
  gd (gT S6 (zR S6 a0 5) 100) <|
  bq (fn_Ac_run (zR S6 a0 5) (zR S6 (zR S6 (zR S6 a0 7) 0) a1.toNatClampNeg) a2 a3 S6) fun r19 S17 =>
  some (r19, S17)) <|
  some ((0 : Int32), S6)
set_option maxRecDepth 100000 in
set_option maxHeartbeats 4000000 in
theorem tm_Ls_act {X : zXt} {d : Nat} (hd : 65 ≤ d) {v : Int32} {a0 : Nat} {a1 : Int32} {a2 : Int32} {a3 : Int32} {S : zS} {S' : zS} (h : fn_Ls_act a0 a1 a2 a3 S = some (v, S')) : zM X zy_Ls_act prog_1_method_30_code 4 (Option.some Jvm.ClassFile.FieldType.int) d [.ref a0, .int a1, .int a2, .int a3] S (some (.int v)) S' := by
  refine zM_of (ini := false) (L := [some (.ref a0), some (.int a1), some (.int a2), some (.int a3)]) (plainFor_of_name (by decide)) (fun h => by cases h) (Nat.le_of_ble_eq_true rfl) rfl ?_
  unfold fn_Ls_act at h
  refine zg_aload_n (pc' := 1) zd_Ls_act_0 rfl rfl ?_
  obtain ⟨g1, h⟩ := gd_some h
  refine zg_getR (pc' := 4) zf_Ls_47 rfl zd_Ls_act_1 (gT_ok g1) rfl ?_
  refine zg_iconst (x := (0 : Int32)) (pc' := 5) zd_Ls_act_4 (by decide) rfl ?_
  obtain ⟨g2, h⟩ := gd_some h
  refine zg_putI (pc' := 8) zf_Ls_284 zd_Ls_act_5 (Or.inl rfl) (gT_ok g2) rfl ?_
  obtain ⟨S3, eS3, h⟩ := nm_some h
  refine zg_nm eS3 ?_
  refine zg_aload_n (pc' := 9) zd_Ls_act_8 rfl rfl ?_
  obtain ⟨g4, h⟩ := gd_some h
  refine zg_getR (pc' := 12) zf_Ls_74 rfl zd_Ls_act_9 (gT_ok g4) rfl ?_
  refine zg_iload_n (pc' := 13) zd_Ls_act_12 rfl rfl ?_
  obtain ⟨g5, h⟩ := gd_some h
  obtain ⟨r8, S6, e7, h⟩ := bq_some h
  refine zg_callV (ci := 1) (As := [.int a1]) (rest := []) (pc' := 16) zl_Ls_103 zq345 zq346 ⟨_, rfl, rfl⟩ zd_Ls_act_13 rfl rfl (Nat.le_of_ble_eq_true rfl) (by omega) (gT_ok g5) (tm_Ho_has (d := 2) (Nat.le_refl _) e7) rfl ?_
  refine zg_st (st' := [.int r8]) rfl ?_
  rcases br_some h with ⟨c9, h⟩ | ⟨c9, h⟩
  · refine zg_if_eq (tgt := 28) (pc' := 19) zd_Ls_act_16 (by decide) rfl (fun _ => ?_) (fun q => absurd c9 q)
    refine zg_iconst (x := (0 : Int32)) (pc' := 29) zd_Ls_act_28 (by decide) rfl ?_
    obtain ⟨rfl, rfl⟩ := rt_q h
    exact zg_iret zd_Ls_act_29 zrt_i
  · refine zg_if_eq (tgt := 28) (pc' := 19) zd_Ls_act_16 (by decide) rfl (fun q => absurd q c9) (fun _ => ?_)
    refine zg_iload_n (pc' := 20) zd_Ls_act_19 rfl rfl ?_
    rcases br_some h with ⟨c10, h⟩ | ⟨c10, h⟩
    · refine zg_if_lt (tgt := 28) (pc' := 23) zd_Ls_act_20 (by decide) rfl (fun _ => ?_) (fun q => absurd c10 q)
      refine zg_iconst (x := (0 : Int32)) (pc' := 29) zd_Ls_act_28 (by decide) rfl ?_
      obtain ⟨rfl, rfl⟩ := rt_q h
      exact zg_iret zd_Ls_act_29 zrt_i
    · refine zg_if_lt (tgt := 28) (pc' := 23) zd_Ls_act_20 (by decide) rfl (fun q => absurd q c10) (fun _ => ?_)
      refine zg_iload_n (pc' := 24) zd_Ls_act_23 rfl rfl ?_
      refine zg_iconst (x := (2 : Int32)) (pc' := 25) zd_Ls_act_24 (by decide) rfl ?_
      rcases br_some h with ⟨c11, h⟩ | ⟨c11, h⟩
      · refine zg_icmp_le (tgt := 30) (pc' := 28) zd_Ls_act_25 (by decide) rfl (fun _ => ?_) (fun q => absurd c11 q)
        refine zg_aload_n (pc' := 31) zd_Ls_act_30 rfl rfl ?_
        obtain ⟨g12, h⟩ := gd_some h
        refine zg_getR (pc' := 34) zf_Ls_47 rfl zd_Ls_act_31 (gT_ok g12) rfl ?_
        refine zg_aload_n (pc' := 35) zd_Ls_act_34 rfl rfl ?_
        refine zg_getR (pc' := 38) zf_Ls_74 rfl zd_Ls_act_35 (gT_ok g12) rfl ?_
        obtain ⟨g13, h⟩ := gd_some h
        refine zg_getR (pc' := 41) zf_Ls_95 rfl zd_Ls_act_38 (gT_ok g13) rfl ?_
        refine zg_iload_n (pc' := 42) zd_Ls_act_41 rfl rfl ?_
        obtain ⟨g14, h⟩ := gd_some h
        obtain ⟨g15, h⟩ := gd_some h
        refine zg_aald (t := 6) (pc' := 43) (by decide) zd_Ls_act_42 (gT_ok g14) (gB_ok g15) rfl ?_
        refine zg_iload_n (pc' := 44) zd_Ls_act_43 rfl rfl ?_
        refine zg_iload_n (pc' := 45) zd_Ls_act_44 rfl rfl ?_
        obtain ⟨g16, h⟩ := gd_some h
        obtain ⟨r19, S17, e18, h⟩ := bq_some h
        refine zg_callV (ci := 0) (As := [.ref (zR S6 (zR S6 (zR S6 a0 7) 0) a1.toNatClampNeg), .int a2, .int a3]) (rest := []) (pc' := 48) zl_Ls_287 zq732 zq733 ⟨_, rfl, rfl⟩ zd_Ls_act_45 rfl rfl (Nat.le_of_ble_eq_true rfl) (by omega) (gT_ok g16) (tm_Ac_run (d := 64) (Nat.le_refl _) e18) rfl ?_
        refine zg_st (st' := [.int r19]) rfl ?_
        obtain ⟨rfl, rfl⟩ := rt_q h
        exact zg_iret zd_Ls_act_48 zrt_i
      · refine zg_icmp_le (tgt := 30) (pc' := 28) zd_Ls_act_25 (by decide) rfl (fun q => absurd q c11) (fun _ => ?_)
        refine zg_iconst (x := (0 : Int32)) (pc' := 29) zd_Ls_act_28 (by decide) rfl ?_
        obtain ⟨rfl, rfl⟩ := rt_q h
        exact zg_iret zd_Ls_act_29 zrt_i
theorem zd_Ls_trace_0 : decode prog_1_method_31_code 0 = .ok (.iload_n 1, 1) := by decide +kernel
theorem zd_Ls_trace_1 : decode prog_1_method_31_code 1 = .ok (.ifCond .lt 19, 3) := by decide +kernel
theorem zd_Ls_trace_4 : decode prog_1_method_31_code 4 = .ok (.iload_n 1, 1) := by decide +kernel
theorem zd_Ls_trace_5 : decode prog_1_method_31_code 5 = .ok (.aload_n 0, 1) := by decide +kernel
theorem zd_Ls_trace_6 : decode prog_1_method_31_code 6 = .ok (.getfield 47, 3) := by decide +kernel
theorem zd_Ls_trace_9 : decode prog_1_method_31_code 9 = .ok (.getfield 284, 3) := by decide +kernel
theorem zd_Ls_trace_12 : decode prog_1_method_31_code 12 = .ok (.bipush 20, 2) := by decide +kernel
theorem zd_Ls_trace_14 : decode prog_1_method_31_code 14 = .ok (.invokestatic 291, 3) := by decide +kernel
theorem zd_Ls_trace_17 : decode prog_1_method_31_code 17 = .ok (.if_icmp .lt 7, 3) := by decide +kernel
theorem zd_Ls_trace_24 : decode prog_1_method_31_code 24 = .ok (.aload_n 0, 1) := by decide +kernel
theorem zd_Ls_trace_25 : decode prog_1_method_31_code 25 = .ok (.getfield 47, 3) := by decide +kernel
theorem zd_Ls_trace_28 : decode prog_1_method_31_code 28 = .ok (.getfield 296, 3) := by decide +kernel
theorem zd_Ls_trace_31 : decode prog_1_method_31_code 31 = .ok (.iload_n 1, 1) := by decide +kernel
theorem zd_Ls_trace_32 : decode prog_1_method_31_code 32 = .ok (.iaload, 1) := by decide +kernel
theorem zd_Ls_trace_20 : decode prog_1_method_31_code 20 = .ok (.iconst (-1), 1) := by decide +kernel
theorem zd_Ls_trace_21 : decode prog_1_method_31_code 21 = .ok (.goto 12, 3) := by decide +kernel
theorem zd_Ls_trace_33 : decode prog_1_method_31_code 33 = .ok (.ireturn, 1) := by decide +kernel
abbrev zm_Ls_trace : zQ := ("LoofahSaints", prog_1_method_31_code, 2, (Option.some Jvm.ClassFile.FieldType.int), false)
set_option maxRecDepth 100000 in
def fn_Ls_trace (a0 : Nat) (a1 : Int32) (S : zS) : Option (Int32 × zS) :=
  br (decide (a1 < 0)) (some ((-1 : Int32), S)) <|
  gd (gT S a0 109) <|
  gd (gT S (zR S a0 5) 100) <|
  bq (fn_Jd_min (zI S (zR S a0 5) 1) (20 : Int32) S) fun r6 S4 =>
  br (decide (a1 < r6)) (gd (gT S4 a0 109) <|
  gd (gT S4 (zR S4 a0 5) 100) <|
  gd (gT S4 (zR S4 (zR S4 a0 5) 0) 1) <|
  gd (gB a1 (zT S4 (zR S4 (zR S4 a0 5) 0)).2) <|
  some ((zI S4 (zR S4 (zR S4 a0 5) 0) a1.toNatClampNeg), S4)) <|
  some ((-1 : Int32), S4)
set_option maxRecDepth 100000 in
set_option maxHeartbeats 4000000 in
theorem tm_Ls_trace {X : zXt} {d : Nat} (hd : 3 ≤ d) {v : Int32} {a0 : Nat} {a1 : Int32} {S : zS} {S' : zS} (h : fn_Ls_trace a0 a1 S = some (v, S')) : zM X zy_Ls_trace prog_1_method_31_code 2 (Option.some Jvm.ClassFile.FieldType.int) d [.ref a0, .int a1] S (some (.int v)) S' := by
  refine zM_of (ini := false) (L := [some (.ref a0), some (.int a1)]) (plainFor_of_name (by decide)) (fun h => by cases h) (Nat.le_of_ble_eq_true rfl) rfl ?_
  unfold fn_Ls_trace at h
  refine zg_iload_n (pc' := 1) zd_Ls_trace_0 rfl rfl ?_
  rcases br_some h with ⟨c1, h⟩ | ⟨c1, h⟩
  · refine zg_if_lt (tgt := 20) (pc' := 4) zd_Ls_trace_1 (by decide) rfl (fun _ => ?_) (fun q => absurd c1 q)
    refine zg_iconst (x := (-1 : Int32)) (pc' := 21) zd_Ls_trace_20 (by decide) rfl ?_
    refine zg_goto (tgt := 33) zd_Ls_trace_21 (by decide) ?_
    obtain ⟨rfl, rfl⟩ := rt_q h
    exact zg_iret zd_Ls_trace_33 zrt_i
  · refine zg_if_lt (tgt := 20) (pc' := 4) zd_Ls_trace_1 (by decide) rfl (fun q => absurd q c1) (fun _ => ?_)
    refine zg_iload_n (pc' := 5) zd_Ls_trace_4 rfl rfl ?_
    refine zg_aload_n (pc' := 6) zd_Ls_trace_5 rfl rfl ?_
    obtain ⟨g2, h⟩ := gd_some h
    refine zg_getR (pc' := 9) zf_Ls_47 rfl zd_Ls_trace_6 (gT_ok g2) rfl ?_
    obtain ⟨g3, h⟩ := gd_some h
    refine zg_getI (pc' := 12) zf_Ls_284 zd_Ls_trace_9 (gT_ok g3) rfl ?_
    refine zg_bipush (x := (20 : Int32)) (pc' := 14) zd_Ls_trace_12 (by decide) rfl ?_
    obtain ⟨r6, S4, e5, h⟩ := bq_some h
    refine zg_callS (As := [.int (zI S (zR S a0 5) 1), .int (20 : Int32)]) (rest := [.int a1]) (pc' := 17) zl_Ls_291 zq398 zd_Ls_trace_14 rfl rfl (Nat.le_of_ble_eq_true rfl) (by omega) (tm_Jd_min (d := 2) (Nat.le_refl _) e5) rfl ?_
    refine zg_st (st' := [.int r6, .int a1]) rfl ?_
    rcases br_some h with ⟨c7, h⟩ | ⟨c7, h⟩
    · refine zg_icmp_lt (tgt := 24) (pc' := 20) zd_Ls_trace_17 (by decide) rfl (fun _ => ?_) (fun q => absurd c7 q)
      refine zg_aload_n (pc' := 25) zd_Ls_trace_24 rfl rfl ?_
      obtain ⟨g8, h⟩ := gd_some h
      refine zg_getR (pc' := 28) zf_Ls_47 rfl zd_Ls_trace_25 (gT_ok g8) rfl ?_
      obtain ⟨g9, h⟩ := gd_some h
      refine zg_getR (pc' := 31) zf_Ls_296 rfl zd_Ls_trace_28 (gT_ok g9) rfl ?_
      refine zg_iload_n (pc' := 32) zd_Ls_trace_31 rfl rfl ?_
      obtain ⟨g10, h⟩ := gd_some h
      obtain ⟨g11, h⟩ := gd_some h
      refine zg_iald (pc' := 33) zd_Ls_trace_32 (gT_ok g10) (gB_ok g11) rfl ?_
      obtain ⟨rfl, rfl⟩ := rt_q h
      exact zg_iret zd_Ls_trace_33 zrt_i
    · refine zg_icmp_lt (tgt := 24) (pc' := 20) zd_Ls_trace_17 (by decide) rfl (fun q => absurd q c7) (fun _ => ?_)
      refine zg_iconst (x := (-1 : Int32)) (pc' := 21) zd_Ls_trace_20 (by decide) rfl ?_
      refine zg_goto (tgt := 33) zd_Ls_trace_21 (by decide) ?_
      obtain ⟨rfl, rfl⟩ := rt_q h
      exact zg_iret zd_Ls_trace_33 zrt_i
theorem zd_Ls_taken_0 : decode prog_1_method_32_code 0 = .ok (.iload_n 2, 1) := by decide +kernel
theorem zd_Ls_taken_1 : decode prog_1_method_32_code 1 = .ok (.invokestatic 85, 3) := by decide +kernel
theorem zd_Ls_taken_4 : decode prog_1_method_32_code 4 = .ok (.ifCond .ne 6, 3) := by decide +kernel
theorem zd_Ls_taken_10 : decode prog_1_method_32_code 10 = .ok (.aload_n 0, 1) := by decide +kernel
theorem zd_Ls_taken_11 : decode prog_1_method_32_code 11 = .ok (.getfield 74, 3) := by decide +kernel
theorem zd_Ls_taken_14 : decode prog_1_method_32_code 14 = .ok (.iload_n 1, 1) := by decide +kernel
theorem zd_Ls_taken_15 : decode prog_1_method_32_code 15 = .ok (.invokevirtual 103, 3) := by decide +kernel
theorem zd_Ls_taken_18 : decode prog_1_method_32_code 18 = .ok (.ifCond .ne 6, 3) := by decide +kernel
theorem zd_Ls_taken_24 : decode prog_1_method_32_code 24 = .ok (.aload_n 0, 1) := by decide +kernel
theorem zd_Ls_taken_25 : decode prog_1_method_32_code 25 = .ok (.getfield 74, 3) := by decide +kernel
theorem zd_Ls_taken_28 : decode prog_1_method_32_code 28 = .ok (.getfield 95, 3) := by decide +kernel
theorem zd_Ls_taken_31 : decode prog_1_method_32_code 31 = .ok (.iload_n 1, 1) := by decide +kernel
theorem zd_Ls_taken_32 : decode prog_1_method_32_code 32 = .ok (.aaload, 1) := by decide +kernel
theorem zd_Ls_taken_33 : decode prog_1_method_32_code 33 = .ok (.iload_n 2, 1) := by decide +kernel
theorem zd_Ls_taken_34 : decode prog_1_method_32_code 34 = .ok (.invokevirtual 299, 3) := by decide +kernel
theorem zd_Ls_taken_37 : decode prog_1_method_32_code 37 = .ok (.ifCond .eq 18, 3) := by decide +kernel
theorem zd_Ls_taken_55 : decode prog_1_method_32_code 55 = .ok (.bipush (-12), 2) := by decide +kernel
theorem zd_Ls_taken_40 : decode prog_1_method_32_code 40 = .ok (.aload_n 0, 1) := by decide +kernel
theorem zd_Ls_taken_41 : decode prog_1_method_32_code 41 = .ok (.getfield 74, 3) := by decide +kernel
theorem zd_Ls_taken_44 : decode prog_1_method_32_code 44 = .ok (.getfield 95, 3) := by decide +kernel
theorem zd_Ls_taken_47 : decode prog_1_method_32_code 47 = .ok (.iload_n 1, 1) := by decide +kernel
theorem zd_Ls_taken_48 : decode prog_1_method_32_code 48 = .ok (.aaload, 1) := by decide +kernel
theorem zd_Ls_taken_49 : decode prog_1_method_32_code 49 = .ok (.getfield 113, 3) := by decide +kernel
theorem zd_Ls_taken_52 : decode prog_1_method_32_code 52 = .ok (.goto 5, 3) := by decide +kernel
theorem zd_Ls_taken_57 : decode prog_1_method_32_code 57 = .ok (.ireturn, 1) := by decide +kernel
theorem zd_Ls_taken_21 : decode prog_1_method_32_code 21 = .ok (.bipush (-11), 2) := by decide +kernel
theorem zd_Ls_taken_23 : decode prog_1_method_32_code 23 = .ok (.ireturn, 1) := by decide +kernel
theorem zd_Ls_taken_7 : decode prog_1_method_32_code 7 = .ok (.bipush (-2), 2) := by decide +kernel
theorem zd_Ls_taken_9 : decode prog_1_method_32_code 9 = .ok (.ireturn, 1) := by decide +kernel
abbrev zm_Ls_taken : zQ := ("LoofahSaints", prog_1_method_32_code, 3, (Option.some Jvm.ClassFile.FieldType.int), false)
set_option maxRecDepth 100000 in
def fn_Ls_taken (a0 : Nat) (a1 : Int32) (a2 : Int32) (S : zS) : Option (Int32 × zS) :=
  bq (fn_Ls_isKind a2 S) fun r3 S1 =>
  br (decide (r3 = 0)) (some ((-2 : Int32), S1)) <|
  gd (gT S1 a0 109) <|
  gd (gT S1 (zR S1 a0 7) 101) <|
  bq (fn_Ho_has (zR S1 a0 7) a1 S1) fun r9 S7 =>
  br (decide (r9 = 0)) (some ((-11 : Int32), S7)) <|
  gd (gT S7 a0 109) <|
  gd (gT S7 (zR S7 a0 7) 101) <|
  gd (gT S7 (zR S7 (zR S7 a0 7) 0) 6) <|
  gd (gB a1 (zT S7 (zR S7 (zR S7 a0 7) 0)).2) <|
  gd (gT S7 (zR S7 (zR S7 (zR S7 a0 7) 0) a1.toNatClampNeg) 105) <|
  bq (fn_Sa_isOf (zR S7 (zR S7 (zR S7 a0 7) 0) a1.toNatClampNeg) a2 S7) fun r18 S16 =>
  br (decide (r18 = 0)) (some ((-12 : Int32), S16)) <|
  gd (gT S16 a0 109) <|
  gd (gT S16 (zR S16 a0 7) 101) <|
  gd (gT S16 (zR S16 (zR S16 a0 7) 0) 6) <|
  gd (gB a1 (zT S16 (zR S16 (zR S16 a0 7) 0)).2) <|
  gd (gT S16 (zR S16 (zR S16 (zR S16 a0 7) 0) a1.toNatClampNeg) 105) <|
  some ((zI S16 (zR S16 (zR S16 (zR S16 a0 7) 0) a1.toNatClampNeg) 2), S16)
set_option maxRecDepth 100000 in
set_option maxHeartbeats 4000000 in
theorem tm_Ls_taken {X : zXt} {d : Nat} (hd : 3 ≤ d) {v : Int32} {a0 : Nat} {a1 : Int32} {a2 : Int32} {S : zS} {S' : zS} (h : fn_Ls_taken a0 a1 a2 S = some (v, S')) : zM X zy_Ls_taken prog_1_method_32_code 3 (Option.some Jvm.ClassFile.FieldType.int) d [.ref a0, .int a1, .int a2] S (some (.int v)) S' := by
  refine zM_of (ini := false) (L := [some (.ref a0), some (.int a1), some (.int a2)]) (plainFor_of_name (by decide)) (fun h => by cases h) (Nat.le_of_ble_eq_true rfl) rfl ?_
  unfold fn_Ls_taken at h
  refine zg_iload_n (pc' := 1) zd_Ls_taken_0 rfl rfl ?_
  obtain ⟨r3, S1, e2, h⟩ := bq_some h
  refine zg_callS (As := [.int a2]) (rest := []) (pc' := 4) zl_Ls_85 zq331 zd_Ls_taken_1 rfl rfl (Nat.le_of_ble_eq_true rfl) (by omega) (tm_Ls_isKind (d := 2) (Nat.le_refl _) e2) rfl ?_
  refine zg_st (st' := [.int r3]) rfl ?_
  rcases br_some h with ⟨c4, h⟩ | ⟨c4, h⟩
  · refine zg_if_ne (tgt := 10) (pc' := 7) zd_Ls_taken_4 (by decide) rfl (fun q => absurd c4 q) (fun _ => ?_)
    refine zg_bipush (x := (-2 : Int32)) (pc' := 9) zd_Ls_taken_7 (by decide) rfl ?_
    obtain ⟨rfl, rfl⟩ := rt_q h
    exact zg_iret zd_Ls_taken_9 zrt_i
  · refine zg_if_ne (tgt := 10) (pc' := 7) zd_Ls_taken_4 (by decide) rfl (fun _ => ?_) (fun q => absurd q c4)
    refine zg_aload_n (pc' := 11) zd_Ls_taken_10 rfl rfl ?_
    obtain ⟨g5, h⟩ := gd_some h
    refine zg_getR (pc' := 14) zf_Ls_74 rfl zd_Ls_taken_11 (gT_ok g5) rfl ?_
    refine zg_iload_n (pc' := 15) zd_Ls_taken_14 rfl rfl ?_
    obtain ⟨g6, h⟩ := gd_some h
    obtain ⟨r9, S7, e8, h⟩ := bq_some h
    refine zg_callV (ci := 1) (As := [.int a1]) (rest := []) (pc' := 18) zl_Ls_103 zq345 zq346 ⟨_, rfl, rfl⟩ zd_Ls_taken_15 rfl rfl (Nat.le_of_ble_eq_true rfl) (by omega) (gT_ok g6) (tm_Ho_has (d := 2) (Nat.le_refl _) e8) rfl ?_
    refine zg_st (st' := [.int r9]) rfl ?_
    rcases br_some h with ⟨c10, h⟩ | ⟨c10, h⟩
    · refine zg_if_ne (tgt := 24) (pc' := 21) zd_Ls_taken_18 (by decide) rfl (fun q => absurd c10 q) (fun _ => ?_)
      refine zg_bipush (x := (-11 : Int32)) (pc' := 23) zd_Ls_taken_21 (by decide) rfl ?_
      obtain ⟨rfl, rfl⟩ := rt_q h
      exact zg_iret zd_Ls_taken_23 zrt_i
    · refine zg_if_ne (tgt := 24) (pc' := 21) zd_Ls_taken_18 (by decide) rfl (fun _ => ?_) (fun q => absurd q c10)
      refine zg_aload_n (pc' := 25) zd_Ls_taken_24 rfl rfl ?_
      obtain ⟨g11, h⟩ := gd_some h
      refine zg_getR (pc' := 28) zf_Ls_74 rfl zd_Ls_taken_25 (gT_ok g11) rfl ?_
      obtain ⟨g12, h⟩ := gd_some h
      refine zg_getR (pc' := 31) zf_Ls_95 rfl zd_Ls_taken_28 (gT_ok g12) rfl ?_
      refine zg_iload_n (pc' := 32) zd_Ls_taken_31 rfl rfl ?_
      obtain ⟨g13, h⟩ := gd_some h
      obtain ⟨g14, h⟩ := gd_some h
      refine zg_aald (t := 6) (pc' := 33) (by decide) zd_Ls_taken_32 (gT_ok g13) (gB_ok g14) rfl ?_
      refine zg_iload_n (pc' := 34) zd_Ls_taken_33 rfl rfl ?_
      obtain ⟨g15, h⟩ := gd_some h
      obtain ⟨r18, S16, e17, h⟩ := bq_some h
      refine zg_callV (ci := 5) (As := [.int a2]) (rest := []) (pc' := 37) zl_Ls_299 zq381 zq382 ⟨_, rfl, rfl⟩ zd_Ls_taken_34 rfl rfl (Nat.le_of_ble_eq_true rfl) (by omega) (gT_ok g15) (tm_Sa_isOf (d := 2) (Nat.le_refl _) e17) rfl ?_
      refine zg_st (st' := [.int r18]) rfl ?_
      rcases br_some h with ⟨c19, h⟩ | ⟨c19, h⟩
      · refine zg_if_eq (tgt := 55) (pc' := 40) zd_Ls_taken_37 (by decide) rfl (fun _ => ?_) (fun q => absurd c19 q)
        refine zg_bipush (x := (-12 : Int32)) (pc' := 57) zd_Ls_taken_55 (by decide) rfl ?_
        obtain ⟨rfl, rfl⟩ := rt_q h
        exact zg_iret zd_Ls_taken_57 zrt_i
      · refine zg_if_eq (tgt := 55) (pc' := 40) zd_Ls_taken_37 (by decide) rfl (fun q => absurd q c19) (fun _ => ?_)
        refine zg_aload_n (pc' := 41) zd_Ls_taken_40 rfl rfl ?_
        obtain ⟨g20, h⟩ := gd_some h
        refine zg_getR (pc' := 44) zf_Ls_74 rfl zd_Ls_taken_41 (gT_ok g20) rfl ?_
        obtain ⟨g21, h⟩ := gd_some h
        refine zg_getR (pc' := 47) zf_Ls_95 rfl zd_Ls_taken_44 (gT_ok g21) rfl ?_
        refine zg_iload_n (pc' := 48) zd_Ls_taken_47 rfl rfl ?_
        obtain ⟨g22, h⟩ := gd_some h
        obtain ⟨g23, h⟩ := gd_some h
        refine zg_aald (t := 6) (pc' := 49) (by decide) zd_Ls_taken_48 (gT_ok g22) (gB_ok g23) rfl ?_
        obtain ⟨g24, h⟩ := gd_some h
        refine zg_getI (pc' := 52) zf_Ls_113 zd_Ls_taken_49 (gT_ok g24) rfl ?_
        refine zg_goto (tgt := 57) zd_Ls_taken_52 (by decide) ?_
        obtain ⟨rfl, rfl⟩ := rt_q h
        exact zg_iret zd_Ls_taken_57 zrt_i
theorem zd_Ls_count_0 : decode prog_1_method_33_code 0 = .ok (.iload_n 1, 1) := by decide +kernel
theorem zd_Ls_count_1 : decode prog_1_method_33_code 1 = .ok (.tableswitch 105 0 6 #[43, 51, 56, 67, 78, 89, 97], 43) := by decide +kernel
theorem zd_Ls_count_106 : decode prog_1_method_33_code 106 = .ok (.bipush (-2), 2) := by decide +kernel
theorem zd_Ls_count_108 : decode prog_1_method_33_code 108 = .ok (.ireturn, 1) := by decide +kernel
theorem zd_Ls_count_98 : decode prog_1_method_33_code 98 = .ok (.aload_n 0, 1) := by decide +kernel
theorem zd_Ls_count_99 : decode prog_1_method_33_code 99 = .ok (.getfield 47, 3) := by decide +kernel
theorem zd_Ls_count_102 : decode prog_1_method_33_code 102 = .ok (.getfield 284, 3) := by decide +kernel
theorem zd_Ls_count_105 : decode prog_1_method_33_code 105 = .ok (.ireturn, 1) := by decide +kernel
theorem zd_Ls_count_90 : decode prog_1_method_33_code 90 = .ok (.aload_n 0, 1) := by decide +kernel
theorem zd_Ls_count_91 : decode prog_1_method_33_code 91 = .ok (.getfield 26, 3) := by decide +kernel
theorem zd_Ls_count_94 : decode prog_1_method_33_code 94 = .ok (.getfield 169, 3) := by decide +kernel
theorem zd_Ls_count_97 : decode prog_1_method_33_code 97 = .ok (.ireturn, 1) := by decide +kernel
theorem zd_Ls_count_79 : decode prog_1_method_33_code 79 = .ok (.aload_n 0, 1) := by decide +kernel
theorem zd_Ls_count_80 : decode prog_1_method_33_code 80 = .ok (.getfield 74, 3) := by decide +kernel
theorem zd_Ls_count_83 : decode prog_1_method_33_code 83 = .ok (.getfield 270, 3) := by decide +kernel
theorem zd_Ls_count_86 : decode prog_1_method_33_code 86 = .ok (.getfield 261, 3) := by decide +kernel
theorem zd_Ls_count_89 : decode prog_1_method_33_code 89 = .ok (.ireturn, 1) := by decide +kernel
theorem zd_Ls_count_68 : decode prog_1_method_33_code 68 = .ok (.aload_n 0, 1) := by decide +kernel
theorem zd_Ls_count_69 : decode prog_1_method_33_code 69 = .ok (.getfield 74, 3) := by decide +kernel
theorem zd_Ls_count_72 : decode prog_1_method_33_code 72 = .ok (.getfield 258, 3) := by decide +kernel
theorem zd_Ls_count_75 : decode prog_1_method_33_code 75 = .ok (.getfield 261, 3) := by decide +kernel
theorem zd_Ls_count_78 : decode prog_1_method_33_code 78 = .ok (.ireturn, 1) := by decide +kernel
theorem zd_Ls_count_57 : decode prog_1_method_33_code 57 = .ok (.aload_n 0, 1) := by decide +kernel
theorem zd_Ls_count_58 : decode prog_1_method_33_code 58 = .ok (.getfield 74, 3) := by decide +kernel
theorem zd_Ls_count_61 : decode prog_1_method_33_code 61 = .ok (.getfield 229, 3) := by decide +kernel
theorem zd_Ls_count_64 : decode prog_1_method_33_code 64 = .ok (.getfield 261, 3) := by decide +kernel
theorem zd_Ls_count_67 : decode prog_1_method_33_code 67 = .ok (.ireturn, 1) := by decide +kernel
theorem zd_Ls_count_52 : decode prog_1_method_33_code 52 = .ok (.aload_n 0, 1) := by decide +kernel
theorem zd_Ls_count_53 : decode prog_1_method_33_code 53 = .ok (.getfield 60, 3) := by decide +kernel
theorem zd_Ls_count_56 : decode prog_1_method_33_code 56 = .ok (.ireturn, 1) := by decide +kernel
theorem zd_Ls_count_44 : decode prog_1_method_33_code 44 = .ok (.aload_n 0, 1) := by decide +kernel
theorem zd_Ls_count_45 : decode prog_1_method_33_code 45 = .ok (.getfield 74, 3) := by decide +kernel
theorem zd_Ls_count_48 : decode prog_1_method_33_code 48 = .ok (.getfield 92, 3) := by decide +kernel
theorem zd_Ls_count_51 : decode prog_1_method_33_code 51 = .ok (.ireturn, 1) := by decide +kernel
abbrev zm_Ls_count : zQ := ("LoofahSaints", prog_1_method_33_code, 2, (Option.some Jvm.ClassFile.FieldType.int), false)
set_option maxRecDepth 100000 in
def fn_Ls_count (a0 : Nat) (a1 : Int32) (S : zS) : Option (Int32 × zS) :=
  br (decide (a1 = (0 : Int32))) (gd (gT S a0 109) <|
  gd (gT S (zR S a0 7) 101) <|
  some ((zI S (zR S a0 7) 6), S)) <|
  br (decide (a1 = (1 : Int32))) (gd (gT S a0 109) <|
  some ((zI S a0 10), S)) <|
  br (decide (a1 = (2 : Int32))) (gd (gT S a0 109) <|
  gd (gT S (zR S a0 7) 101) <|
  gd (gT S (zR S (zR S a0 7) 3) 104) <|
  some ((zI S (zR S (zR S a0 7) 3) 2), S)) <|
  br (decide (a1 = (3 : Int32))) (gd (gT S a0 109) <|
  gd (gT S (zR S a0 7) 101) <|
  gd (gT S (zR S (zR S a0 7) 4) 104) <|
  some ((zI S (zR S (zR S a0 7) 4) 2), S)) <|
  br (decide (a1 = (4 : Int32))) (gd (gT S a0 109) <|
  gd (gT S (zR S a0 7) 101) <|
  gd (gT S (zR S (zR S a0 7) 5) 104) <|
  some ((zI S (zR S (zR S a0 7) 5) 2), S)) <|
  br (decide (a1 = (5 : Int32))) (gd (gT S a0 109) <|
  gd (gT S (zR S a0 2) 103) <|
  some ((zI S (zR S a0 2) 1), S)) <|
  br (decide (a1 = (6 : Int32))) (gd (gT S a0 109) <|
  gd (gT S (zR S a0 5) 100) <|
  some ((zI S (zR S a0 5) 1), S)) <|
  some ((-2 : Int32), S)
set_option maxRecDepth 100000 in
set_option maxHeartbeats 4000000 in
theorem tm_Ls_count {X : zXt} {d : Nat} (hd : 2 ≤ d) {v : Int32} {a0 : Nat} {a1 : Int32} {S : zS} {S' : zS} (h : fn_Ls_count a0 a1 S = some (v, S')) : zM X zy_Ls_count prog_1_method_33_code 2 (Option.some Jvm.ClassFile.FieldType.int) d [.ref a0, .int a1] S (some (.int v)) S' := by
  refine zM_of (ini := false) (L := [some (.ref a0), some (.int a1)]) (plainFor_of_name (by decide)) (fun h => by cases h) (Nat.le_of_ble_eq_true rfl) rfl ?_
  unfold fn_Ls_count at h
  refine zg_iload_n (pc' := 1) zd_Ls_count_0 rfl rfl ?_
  rcases br_some h with ⟨c1, h⟩ | ⟨c1, h⟩
  · refine zg_tabI (tgt := 44) (0 : Int32) zd_Ls_count_1 c1 (by decide) (by decide) rfl (by decide) ?_
    refine zg_aload_n (pc' := 45) zd_Ls_count_44 rfl rfl ?_
    obtain ⟨g2, h⟩ := gd_some h
    refine zg_getR (pc' := 48) zf_Ls_74 rfl zd_Ls_count_45 (gT_ok g2) rfl ?_
    obtain ⟨g3, h⟩ := gd_some h
    refine zg_getI (pc' := 51) zf_Ls_92 zd_Ls_count_48 (gT_ok g3) rfl ?_
    obtain ⟨rfl, rfl⟩ := rt_q h
    exact zg_iret zd_Ls_count_51 zrt_i
  rcases br_some h with ⟨c4, h⟩ | ⟨c4, h⟩
  · refine zg_tabI (tgt := 52) (1 : Int32) zd_Ls_count_1 c4 (by decide) (by decide) rfl (by decide) ?_
    refine zg_aload_n (pc' := 53) zd_Ls_count_52 rfl rfl ?_
    obtain ⟨g5, h⟩ := gd_some h
    refine zg_getI (pc' := 56) zf_Ls_60 zd_Ls_count_53 (gT_ok g5) rfl ?_
    obtain ⟨rfl, rfl⟩ := rt_q h
    exact zg_iret zd_Ls_count_56 zrt_i
  rcases br_some h with ⟨c6, h⟩ | ⟨c6, h⟩
  · refine zg_tabI (tgt := 57) (2 : Int32) zd_Ls_count_1 c6 (by decide) (by decide) rfl (by decide) ?_
    refine zg_aload_n (pc' := 58) zd_Ls_count_57 rfl rfl ?_
    obtain ⟨g7, h⟩ := gd_some h
    refine zg_getR (pc' := 61) zf_Ls_74 rfl zd_Ls_count_58 (gT_ok g7) rfl ?_
    obtain ⟨g8, h⟩ := gd_some h
    refine zg_getR (pc' := 64) zf_Ls_229 rfl zd_Ls_count_61 (gT_ok g8) rfl ?_
    obtain ⟨g9, h⟩ := gd_some h
    refine zg_getI (pc' := 67) zf_Ls_261 zd_Ls_count_64 (gT_ok g9) rfl ?_
    obtain ⟨rfl, rfl⟩ := rt_q h
    exact zg_iret zd_Ls_count_67 zrt_i
  rcases br_some h with ⟨c10, h⟩ | ⟨c10, h⟩
  · refine zg_tabI (tgt := 68) (3 : Int32) zd_Ls_count_1 c10 (by decide) (by decide) rfl (by decide) ?_
    refine zg_aload_n (pc' := 69) zd_Ls_count_68 rfl rfl ?_
    obtain ⟨g11, h⟩ := gd_some h
    refine zg_getR (pc' := 72) zf_Ls_74 rfl zd_Ls_count_69 (gT_ok g11) rfl ?_
    obtain ⟨g12, h⟩ := gd_some h
    refine zg_getR (pc' := 75) zf_Ls_258 rfl zd_Ls_count_72 (gT_ok g12) rfl ?_
    obtain ⟨g13, h⟩ := gd_some h
    refine zg_getI (pc' := 78) zf_Ls_261 zd_Ls_count_75 (gT_ok g13) rfl ?_
    obtain ⟨rfl, rfl⟩ := rt_q h
    exact zg_iret zd_Ls_count_78 zrt_i
  rcases br_some h with ⟨c14, h⟩ | ⟨c14, h⟩
  · refine zg_tabI (tgt := 79) (4 : Int32) zd_Ls_count_1 c14 (by decide) (by decide) rfl (by decide) ?_
    refine zg_aload_n (pc' := 80) zd_Ls_count_79 rfl rfl ?_
    obtain ⟨g15, h⟩ := gd_some h
    refine zg_getR (pc' := 83) zf_Ls_74 rfl zd_Ls_count_80 (gT_ok g15) rfl ?_
    obtain ⟨g16, h⟩ := gd_some h
    refine zg_getR (pc' := 86) zf_Ls_270 rfl zd_Ls_count_83 (gT_ok g16) rfl ?_
    obtain ⟨g17, h⟩ := gd_some h
    refine zg_getI (pc' := 89) zf_Ls_261 zd_Ls_count_86 (gT_ok g17) rfl ?_
    obtain ⟨rfl, rfl⟩ := rt_q h
    exact zg_iret zd_Ls_count_89 zrt_i
  rcases br_some h with ⟨c18, h⟩ | ⟨c18, h⟩
  · refine zg_tabI (tgt := 90) (5 : Int32) zd_Ls_count_1 c18 (by decide) (by decide) rfl (by decide) ?_
    refine zg_aload_n (pc' := 91) zd_Ls_count_90 rfl rfl ?_
    obtain ⟨g19, h⟩ := gd_some h
    refine zg_getR (pc' := 94) zf_Ls_26 rfl zd_Ls_count_91 (gT_ok g19) rfl ?_
    obtain ⟨g20, h⟩ := gd_some h
    refine zg_getI (pc' := 97) zf_Ls_169 zd_Ls_count_94 (gT_ok g20) rfl ?_
    obtain ⟨rfl, rfl⟩ := rt_q h
    exact zg_iret zd_Ls_count_97 zrt_i
  rcases br_some h with ⟨c21, h⟩ | ⟨c21, h⟩
  · refine zg_tabI (tgt := 98) (6 : Int32) zd_Ls_count_1 c21 (by decide) (by decide) rfl (by decide) ?_
    refine zg_aload_n (pc' := 99) zd_Ls_count_98 rfl rfl ?_
    obtain ⟨g22, h⟩ := gd_some h
    refine zg_getR (pc' := 102) zf_Ls_47 rfl zd_Ls_count_99 (gT_ok g22) rfl ?_
    obtain ⟨g23, h⟩ := gd_some h
    refine zg_getI (pc' := 105) zf_Ls_284 zd_Ls_count_102 (gT_ok g23) rfl ?_
    obtain ⟨rfl, rfl⟩ := rt_q h
    exact zg_iret zd_Ls_count_105 zrt_i
  refine zg_tableD (tgt := 106) [(0 : Int32), (1 : Int32), (2 : Int32), (3 : Int32), (4 : Int32), (5 : Int32), (6 : Int32)] zd_Ls_count_1 (by decide) (List.forall_mem_cons.mpr ⟨c1, List.forall_mem_cons.mpr ⟨c4, List.forall_mem_cons.mpr ⟨c6, List.forall_mem_cons.mpr ⟨c10, List.forall_mem_cons.mpr ⟨c14, List.forall_mem_cons.mpr ⟨c18, List.forall_mem_cons.mpr ⟨c21, fun _ h => absurd h List.not_mem_nil⟩⟩⟩⟩⟩⟩⟩) (by decide) ?_
  refine zg_bipush (x := (-2 : Int32)) (pc' := 108) zd_Ls_count_106 (by decide) rfl ?_
  obtain ⟨rfl, rfl⟩ := rt_q h
  exact zg_iret zd_Ls_count_108 zrt_i
theorem zd_Ls_tape_0 : decode prog_1_method_34_code 0 = .ok (.iload_n 1, 1) := by decide +kernel
theorem zd_Ls_tape_1 : decode prog_1_method_34_code 1 = .ok (.invokestatic 273, 3) := by decide +kernel
theorem zd_Ls_tape_4 : decode prog_1_method_34_code 4 = .ok (.ifCond .ne 5, 3) := by decide +kernel
theorem zd_Ls_tape_9 : decode prog_1_method_34_code 9 = .ok (.iload_n 2, 1) := by decide +kernel
theorem zd_Ls_tape_10 : decode prog_1_method_34_code 10 = .ok (.iconst (-1), 1) := by decide +kernel
theorem zd_Ls_tape_11 : decode prog_1_method_34_code 11 = .ok (.if_icmp .ne 16, 3) := by decide +kernel
theorem zd_Ls_tape_27 : decode prog_1_method_34_code 27 = .ok (.iload_n 2, 1) := by decide +kernel
theorem zd_Ls_tape_28 : decode prog_1_method_34_code 28 = .ok (.ifCond .lt 14, 3) := by decide +kernel
theorem zd_Ls_tape_31 : decode prog_1_method_34_code 31 = .ok (.iload_n 2, 1) := by decide +kernel
theorem zd_Ls_tape_32 : decode prog_1_method_34_code 32 = .ok (.iconst 4, 1) := by decide +kernel
theorem zd_Ls_tape_33 : decode prog_1_method_34_code 33 = .ok (.if_icmp .gt 9, 3) := by decide +kernel
theorem zd_Ls_tape_36 : decode prog_1_method_34_code 36 = .ok (.iload_n 3, 1) := by decide +kernel
theorem zd_Ls_tape_37 : decode prog_1_method_34_code 37 = .ok (.bipush 60, 2) := by decide +kernel
theorem zd_Ls_tape_39 : decode prog_1_method_34_code 39 = .ok (.if_icmp .le 6, 3) := by decide +kernel
theorem zd_Ls_tape_45 : decode prog_1_method_34_code 45 = .ok (.iload_n 3, 1) := by decide +kernel
theorem zd_Ls_tape_46 : decode prog_1_method_34_code 46 = .ok (.ifCond .ge 6, 3) := by decide +kernel
theorem zd_Ls_tape_52 : decode prog_1_method_34_code 52 = .ok (.aload_n 0, 1) := by decide +kernel
theorem zd_Ls_tape_53 : decode prog_1_method_34_code 53 = .ok (.getfield 19, 3) := by decide +kernel
theorem zd_Ls_tape_56 : decode prog_1_method_34_code 56 = .ok (.iload_n 1, 1) := by decide +kernel
theorem zd_Ls_tape_57 : decode prog_1_method_34_code 57 = .ok (.aaload, 1) := by decide +kernel
theorem zd_Ls_tape_58 : decode prog_1_method_34_code 58 = .ok (.iload_n 2, 1) := by decide +kernel
theorem zd_Ls_tape_59 : decode prog_1_method_34_code 59 = .ok (.iload_n 3, 1) := by decide +kernel
theorem zd_Ls_tape_60 : decode prog_1_method_34_code 60 = .ok (.invokevirtual 302, 3) := by decide +kernel
theorem zd_Ls_tape_63 : decode prog_1_method_34_code 63 = .ok (.iconst 1, 1) := by decide +kernel
theorem zd_Ls_tape_64 : decode prog_1_method_34_code 64 = .ok (.ireturn, 1) := by decide +kernel
theorem zd_Ls_tape_49 : decode prog_1_method_34_code 49 = .ok (.bipush (-14), 2) := by decide +kernel
theorem zd_Ls_tape_51 : decode prog_1_method_34_code 51 = .ok (.ireturn, 1) := by decide +kernel
theorem zd_Ls_tape_42 : decode prog_1_method_34_code 42 = .ok (.bipush (-2), 2) := by decide +kernel
theorem zd_Ls_tape_44 : decode prog_1_method_34_code 44 = .ok (.ireturn, 1) := by decide +kernel
theorem zd_Ls_tape_14 : decode prog_1_method_34_code 14 = .ok (.aload_n 0, 1) := by decide +kernel
theorem zd_Ls_tape_15 : decode prog_1_method_34_code 15 = .ok (.getfield 19, 3) := by decide +kernel
theorem zd_Ls_tape_18 : decode prog_1_method_34_code 18 = .ok (.iload_n 1, 1) := by decide +kernel
theorem zd_Ls_tape_19 : decode prog_1_method_34_code 19 = .ok (.aaload, 1) := by decide +kernel
theorem zd_Ls_tape_20 : decode prog_1_method_34_code 20 = .ok (.iconst (-1), 1) := by decide +kernel
theorem zd_Ls_tape_21 : decode prog_1_method_34_code 21 = .ok (.iconst 0, 1) := by decide +kernel
theorem zd_Ls_tape_22 : decode prog_1_method_34_code 22 = .ok (.invokevirtual 302, 3) := by decide +kernel
theorem zd_Ls_tape_25 : decode prog_1_method_34_code 25 = .ok (.iconst 1, 1) := by decide +kernel
theorem zd_Ls_tape_26 : decode prog_1_method_34_code 26 = .ok (.ireturn, 1) := by decide +kernel
theorem zd_Ls_tape_7 : decode prog_1_method_34_code 7 = .ok (.iconst (-1), 1) := by decide +kernel
theorem zd_Ls_tape_8 : decode prog_1_method_34_code 8 = .ok (.ireturn, 1) := by decide +kernel
abbrev zm_Ls_tape : zQ := ("LoofahSaints", prog_1_method_34_code, 4, (Option.some Jvm.ClassFile.FieldType.int), false)
set_option maxRecDepth 100000 in
def fn_Ls_tape (a0 : Nat) (a1 : Int32) (a2 : Int32) (a3 : Int32) (S : zS) : Option (Int32 × zS) :=
  bq (fn_Ls_isTape a1 S) fun r3 S1 =>
  br (decide (r3 = 0)) (some ((-1 : Int32), S1)) <|
  br (decide (a2 = (-1 : Int32))) (gd (gT S1 a0 109) <|
  gd (gT S1 (zR S1 a0 1) 5) <|
  gd (gB a1 (zT S1 (zR S1 a0 1)).2) <|
  gd (gT S1 (zR S1 (zR S1 a0 1) a1.toNatClampNeg) 108) <|
  bv (fn_Ta_become (zR S1 (zR S1 a0 1) a1.toNatClampNeg) (-1 : Int32) (0 : Int32) S1) fun S20 =>
  some ((1 : Int32), S20)) <|
  br (decide (a2 < 0)) (some ((-2 : Int32), S1)) <|
  br (decide ((4 : Int32) < a2)) (some ((-2 : Int32), S1)) <|
  br (decide (a3 ≤ (60 : Int32))) (br (decide (0 ≤ a3)) (gd (gT S1 a0 109) <|
  gd (gT S1 (zR S1 a0 1) 5) <|
  gd (gB a1 (zT S1 (zR S1 a0 1)).2) <|
  gd (gT S1 (zR S1 (zR S1 a0 1) a1.toNatClampNeg) 108) <|
  bv (fn_Ta_become (zR S1 (zR S1 a0 1) a1.toNatClampNeg) a2 a3 S1) fun S14 =>
  some ((1 : Int32), S14)) <|
  some ((-14 : Int32), S1)) <|
  some ((-2 : Int32), S1)
set_option maxRecDepth 100000 in
set_option maxHeartbeats 4000000 in
theorem tm_Ls_tape {X : zXt} {d : Nat} (hd : 4 ≤ d) {v : Int32} {a0 : Nat} {a1 : Int32} {a2 : Int32} {a3 : Int32} {S : zS} {S' : zS} (h : fn_Ls_tape a0 a1 a2 a3 S = some (v, S')) : zM X zy_Ls_tape prog_1_method_34_code 4 (Option.some Jvm.ClassFile.FieldType.int) d [.ref a0, .int a1, .int a2, .int a3] S (some (.int v)) S' := by
  refine zM_of (ini := false) (L := [some (.ref a0), some (.int a1), some (.int a2), some (.int a3)]) (plainFor_of_name (by decide)) (fun h => by cases h) (Nat.le_of_ble_eq_true rfl) rfl ?_
  unfold fn_Ls_tape at h
  refine zg_iload_n (pc' := 1) zd_Ls_tape_0 rfl rfl ?_
  obtain ⟨r3, S1, e2, h⟩ := bq_some h
  refine zg_callS (As := [.int a1]) (rest := []) (pc' := 4) zl_Ls_273 zq717 zd_Ls_tape_1 rfl rfl (Nat.le_of_ble_eq_true rfl) (by omega) (tm_Ls_isTape (d := 2) (Nat.le_refl _) e2) rfl ?_
  refine zg_st (st' := [.int r3]) rfl ?_
  rcases br_some h with ⟨c4, h⟩ | ⟨c4, h⟩
  · refine zg_if_ne (tgt := 9) (pc' := 7) zd_Ls_tape_4 (by decide) rfl (fun q => absurd c4 q) (fun _ => ?_)
    refine zg_iconst (x := (-1 : Int32)) (pc' := 8) zd_Ls_tape_7 (by decide) rfl ?_
    obtain ⟨rfl, rfl⟩ := rt_q h
    exact zg_iret zd_Ls_tape_8 zrt_i
  · refine zg_if_ne (tgt := 9) (pc' := 7) zd_Ls_tape_4 (by decide) rfl (fun _ => ?_) (fun q => absurd q c4)
    refine zg_iload_n (pc' := 10) zd_Ls_tape_9 rfl rfl ?_
    refine zg_iconst (x := (-1 : Int32)) (pc' := 11) zd_Ls_tape_10 (by decide) rfl ?_
    rcases br_some h with ⟨c5, h⟩ | ⟨c5, h⟩
    · refine zg_icmp_ne (tgt := 27) (pc' := 14) zd_Ls_tape_11 (by decide) rfl (fun q => absurd c5 q) (fun _ => ?_)
      refine zg_aload_n (pc' := 15) zd_Ls_tape_14 rfl rfl ?_
      obtain ⟨g16, h⟩ := gd_some h
      refine zg_getR (pc' := 18) zf_Ls_19 rfl zd_Ls_tape_15 (gT_ok g16) rfl ?_
      refine zg_iload_n (pc' := 19) zd_Ls_tape_18 rfl rfl ?_
      obtain ⟨g17, h⟩ := gd_some h
      obtain ⟨g18, h⟩ := gd_some h
      refine zg_aald (t := 5) (pc' := 20) (by decide) zd_Ls_tape_19 (gT_ok g17) (gB_ok g18) rfl ?_
      refine zg_iconst (x := (-1 : Int32)) (pc' := 21) zd_Ls_tape_20 (by decide) rfl ?_
      refine zg_iconst (x := (0 : Int32)) (pc' := 22) zd_Ls_tape_21 (by decide) rfl ?_
      obtain ⟨g19, h⟩ := gd_some h
      obtain ⟨S20, e21, h⟩ := bv_some h
      refine zg_callV (ci := 8) (As := [.int (-1 : Int32), .int (0 : Int32)]) (rest := []) (pc' := 25) zl_Ls_302 zq766 zq767 ⟨_, rfl, rfl⟩ zd_Ls_tape_22 rfl rfl (Nat.le_of_ble_eq_true rfl) (by omega) (gT_ok g19) (tm_Ta_become (d := 3) (Nat.le_refl _) e21) rfl ?_
      refine zg_st (st' := []) rfl ?_
      refine zg_iconst (x := (1 : Int32)) (pc' := 26) zd_Ls_tape_25 (by decide) rfl ?_
      obtain ⟨rfl, rfl⟩ := rt_q h
      exact zg_iret zd_Ls_tape_26 zrt_i
    · refine zg_icmp_ne (tgt := 27) (pc' := 14) zd_Ls_tape_11 (by decide) rfl (fun _ => ?_) (fun q => absurd q c5)
      refine zg_iload_n (pc' := 28) zd_Ls_tape_27 rfl rfl ?_
      rcases br_some h with ⟨c6, h⟩ | ⟨c6, h⟩
      · refine zg_if_lt (tgt := 42) (pc' := 31) zd_Ls_tape_28 (by decide) rfl (fun _ => ?_) (fun q => absurd c6 q)
        refine zg_bipush (x := (-2 : Int32)) (pc' := 44) zd_Ls_tape_42 (by decide) rfl ?_
        obtain ⟨rfl, rfl⟩ := rt_q h
        exact zg_iret zd_Ls_tape_44 zrt_i
      · refine zg_if_lt (tgt := 42) (pc' := 31) zd_Ls_tape_28 (by decide) rfl (fun q => absurd q c6) (fun _ => ?_)
        refine zg_iload_n (pc' := 32) zd_Ls_tape_31 rfl rfl ?_
        refine zg_iconst (x := (4 : Int32)) (pc' := 33) zd_Ls_tape_32 (by decide) rfl ?_
        rcases br_some h with ⟨c7, h⟩ | ⟨c7, h⟩
        · refine zg_icmp_gt (tgt := 42) (pc' := 36) zd_Ls_tape_33 (by decide) rfl (fun _ => ?_) (fun q => absurd c7 q)
          refine zg_bipush (x := (-2 : Int32)) (pc' := 44) zd_Ls_tape_42 (by decide) rfl ?_
          obtain ⟨rfl, rfl⟩ := rt_q h
          exact zg_iret zd_Ls_tape_44 zrt_i
        · refine zg_icmp_gt (tgt := 42) (pc' := 36) zd_Ls_tape_33 (by decide) rfl (fun q => absurd q c7) (fun _ => ?_)
          refine zg_iload_n (pc' := 37) zd_Ls_tape_36 rfl rfl ?_
          refine zg_bipush (x := (60 : Int32)) (pc' := 39) zd_Ls_tape_37 (by decide) rfl ?_
          rcases br_some h with ⟨c8, h⟩ | ⟨c8, h⟩
          · refine zg_icmp_le (tgt := 45) (pc' := 42) zd_Ls_tape_39 (by decide) rfl (fun _ => ?_) (fun q => absurd c8 q)
            refine zg_iload_n (pc' := 46) zd_Ls_tape_45 rfl rfl ?_
            rcases br_some h with ⟨c9, h⟩ | ⟨c9, h⟩
            · refine zg_if_ge (tgt := 52) (pc' := 49) zd_Ls_tape_46 (by decide) rfl (fun _ => ?_) (fun q => absurd c9 q)
              refine zg_aload_n (pc' := 53) zd_Ls_tape_52 rfl rfl ?_
              obtain ⟨g10, h⟩ := gd_some h
              refine zg_getR (pc' := 56) zf_Ls_19 rfl zd_Ls_tape_53 (gT_ok g10) rfl ?_
              refine zg_iload_n (pc' := 57) zd_Ls_tape_56 rfl rfl ?_
              obtain ⟨g11, h⟩ := gd_some h
              obtain ⟨g12, h⟩ := gd_some h
              refine zg_aald (t := 5) (pc' := 58) (by decide) zd_Ls_tape_57 (gT_ok g11) (gB_ok g12) rfl ?_
              refine zg_iload_n (pc' := 59) zd_Ls_tape_58 rfl rfl ?_
              refine zg_iload_n (pc' := 60) zd_Ls_tape_59 rfl rfl ?_
              obtain ⟨g13, h⟩ := gd_some h
              obtain ⟨S14, e15, h⟩ := bv_some h
              refine zg_callV (ci := 8) (As := [.int a2, .int a3]) (rest := []) (pc' := 63) zl_Ls_302 zq766 zq767 ⟨_, rfl, rfl⟩ zd_Ls_tape_60 rfl rfl (Nat.le_of_ble_eq_true rfl) (by omega) (gT_ok g13) (tm_Ta_become (d := 3) (Nat.le_refl _) e15) rfl ?_
              refine zg_st (st' := []) rfl ?_
              refine zg_iconst (x := (1 : Int32)) (pc' := 64) zd_Ls_tape_63 (by decide) rfl ?_
              obtain ⟨rfl, rfl⟩ := rt_q h
              exact zg_iret zd_Ls_tape_64 zrt_i
            · refine zg_if_ge (tgt := 52) (pc' := 49) zd_Ls_tape_46 (by decide) rfl (fun q => absurd q c9) (fun _ => ?_)
              refine zg_bipush (x := (-14 : Int32)) (pc' := 51) zd_Ls_tape_49 (by decide) rfl ?_
              obtain ⟨rfl, rfl⟩ := rt_q h
              exact zg_iret zd_Ls_tape_51 zrt_i
          · refine zg_icmp_le (tgt := 45) (pc' := 42) zd_Ls_tape_39 (by decide) rfl (fun q => absurd q c8) (fun _ => ?_)
            refine zg_bipush (x := (-2 : Int32)) (pc' := 44) zd_Ls_tape_42 (by decide) rfl ?_
            obtain ⟨rfl, rfl⟩ := rt_q h
            exact zg_iret zd_Ls_tape_44 zrt_i
theorem zd_Ls_item_0 : decode prog_1_method_35_code 0 = .ok (.iload_n 1, 1) := by decide +kernel
theorem zd_Ls_item_1 : decode prog_1_method_35_code 1 = .ok (.invokestatic 273, 3) := by decide +kernel
theorem zd_Ls_item_4 : decode prog_1_method_35_code 4 = .ok (.ifCond .ne 5, 3) := by decide +kernel
theorem zd_Ls_item_9 : decode prog_1_method_35_code 9 = .ok (.aload_n 0, 1) := by decide +kernel
theorem zd_Ls_item_10 : decode prog_1_method_35_code 10 = .ok (.getfield 19, 3) := by decide +kernel
theorem zd_Ls_item_13 : decode prog_1_method_35_code 13 = .ok (.iload_n 1, 1) := by decide +kernel
theorem zd_Ls_item_14 : decode prog_1_method_35_code 14 = .ok (.aaload, 1) := by decide +kernel
theorem zd_Ls_item_15 : decode prog_1_method_35_code 15 = .ok (.astore 5, 2) := by decide +kernel
theorem zd_Ls_item_17 : decode prog_1_method_35_code 17 = .ok (.aload 5, 2) := by decide +kernel
theorem zd_Ls_item_19 : decode prog_1_method_35_code 19 = .ok (.getfield 276, 3) := by decide +kernel
theorem zd_Ls_item_22 : decode prog_1_method_35_code 22 = .ok (.iconst (-1), 1) := by decide +kernel
theorem zd_Ls_item_23 : decode prog_1_method_35_code 23 = .ok (.if_icmp .ne 6, 3) := by decide +kernel
theorem zd_Ls_item_29 : decode prog_1_method_35_code 29 = .ok (.iload_n 2, 1) := by decide +kernel
theorem zd_Ls_item_30 : decode prog_1_method_35_code 30 = .ok (.ifCond .lt 12, 3) := by decide +kernel
theorem zd_Ls_item_33 : decode prog_1_method_35_code 33 = .ok (.iload_n 2, 1) := by decide +kernel
theorem zd_Ls_item_34 : decode prog_1_method_35_code 34 = .ok (.aload 5, 2) := by decide +kernel
theorem zd_Ls_item_36 : decode prog_1_method_35_code 36 = .ok (.getfield 279, 3) := by decide +kernel
theorem zd_Ls_item_39 : decode prog_1_method_35_code 39 = .ok (.if_icmp .lt 6, 3) := by decide +kernel
theorem zd_Ls_item_45 : decode prog_1_method_35_code 45 = .ok (.aload 5, 2) := by decide +kernel
theorem zd_Ls_item_47 : decode prog_1_method_35_code 47 = .ok (.getfield 280, 3) := by decide +kernel
theorem zd_Ls_item_50 : decode prog_1_method_35_code 50 = .ok (.iload_n 2, 1) := by decide +kernel
theorem zd_Ls_item_51 : decode prog_1_method_35_code 51 = .ok (.aload 5, 2) := by decide +kernel
theorem zd_Ls_item_53 : decode prog_1_method_35_code 53 = .ok (.lload_n 3, 1) := by decide +kernel
theorem zd_Ls_item_54 : decode prog_1_method_35_code 54 = .ok (.invokevirtual 305, 3) := by decide +kernel
theorem zd_Ls_item_57 : decode prog_1_method_35_code 57 = .ok (.lastore, 1) := by decide +kernel
theorem zd_Ls_item_58 : decode prog_1_method_35_code 58 = .ok (.iconst 1, 1) := by decide +kernel
theorem zd_Ls_item_59 : decode prog_1_method_35_code 59 = .ok (.ireturn, 1) := by decide +kernel
theorem zd_Ls_item_42 : decode prog_1_method_35_code 42 = .ok (.bipush (-13), 2) := by decide +kernel
theorem zd_Ls_item_44 : decode prog_1_method_35_code 44 = .ok (.ireturn, 1) := by decide +kernel
theorem zd_Ls_item_26 : decode prog_1_method_35_code 26 = .ok (.bipush (-11), 2) := by decide +kernel
theorem zd_Ls_item_28 : decode prog_1_method_35_code 28 = .ok (.ireturn, 1) := by decide +kernel
theorem zd_Ls_item_7 : decode prog_1_method_35_code 7 = .ok (.iconst (-1), 1) := by decide +kernel
theorem zd_Ls_item_8 : decode prog_1_method_35_code 8 = .ok (.ireturn, 1) := by decide +kernel
abbrev zm_Ls_item : zQ := ("LoofahSaints", prog_1_method_35_code, 6, (Option.some Jvm.ClassFile.FieldType.int), false)
set_option maxRecDepth 100000 in
def fn_Ls_item (a0 : Nat) (a1 : Int32) (a2 : Int32) (a3 : Int64) (S : zS) : Option (Int32 × zS) :=
  bq (fn_Ls_isTape a1 S) fun r3 S1 =>
  br (decide (r3 = 0)) (some ((-1 : Int32), S1)) <|
  gd (gT S1 a0 109) <|
  gd (gT S1 (zR S1 a0 1) 5) <|
  gd (gB a1 (zT S1 (zR S1 a0 1)).2) <|
  gd (gT S1 (zR S1 (zR S1 a0 1) a1.toNatClampNeg) 108) <|
  br (decide ((zI S1 (zR S1 (zR S1 a0 1) a1.toNatClampNeg) 1) = (-1 : Int32))) (some ((-11 : Int32), S1)) <|
  br (decide (a2 < 0)) (some ((-13 : Int32), S1)) <|
  br (decide (a2 < (zI S1 (zR S1 (zR S1 a0 1) a1.toNatClampNeg) 2))) (bq (fn_Ta_cut (zR S1 (zR S1 a0 1) a1.toNatClampNeg) a3 S1) fun r14 S12 =>
  gd (gT S12 (zR S1 (zR S1 (zR S1 a0 1) a1.toNatClampNeg) 0) 3) <|
  gd (gB a2 (zT S12 (zR S1 (zR S1 (zR S1 a0 1) a1.toNatClampNeg) 0)).2) <|
  nm (uL S12 (zR S1 (zR S1 (zR S1 a0 1) a1.toNatClampNeg) 0) a2.toNatClampNeg r14) fun S17 =>
  some ((1 : Int32), S17)) <|
  some ((-13 : Int32), S1)
set_option maxRecDepth 100000 in
set_option maxHeartbeats 4000000 in
theorem tm_Ls_item {X : zXt} {d : Nat} (hd : 3 ≤ d) {v : Int32} {a0 : Nat} {a1 : Int32} {a2 : Int32} {a3 : Int64} {S : zS} {S' : zS} (h : fn_Ls_item a0 a1 a2 a3 S = some (v, S')) : zM X zy_Ls_item prog_1_method_35_code 6 (Option.some Jvm.ClassFile.FieldType.int) d [.ref a0, .int a1, .int a2, .long a3] S (some (.int v)) S' := by
  refine zM_of (ini := false) (L := [some (.ref a0), some (.int a1), some (.int a2), some (.long a3), none, none]) (plainFor_of_name (by decide)) (fun h => by cases h) (Nat.le_of_ble_eq_true rfl) rfl ?_
  unfold fn_Ls_item at h
  refine zg_iload_n (pc' := 1) zd_Ls_item_0 rfl rfl ?_
  obtain ⟨r3, S1, e2, h⟩ := bq_some h
  refine zg_callS (As := [.int a1]) (rest := []) (pc' := 4) zl_Ls_273 zq717 zd_Ls_item_1 rfl rfl (Nat.le_of_ble_eq_true rfl) (by omega) (tm_Ls_isTape (d := 2) (Nat.le_refl _) e2) rfl ?_
  refine zg_st (st' := [.int r3]) rfl ?_
  rcases br_some h with ⟨c4, h⟩ | ⟨c4, h⟩
  · refine zg_if_ne (tgt := 9) (pc' := 7) zd_Ls_item_4 (by decide) rfl (fun q => absurd c4 q) (fun _ => ?_)
    refine zg_iconst (x := (-1 : Int32)) (pc' := 8) zd_Ls_item_7 (by decide) rfl ?_
    obtain ⟨rfl, rfl⟩ := rt_q h
    exact zg_iret zd_Ls_item_8 zrt_i
  · refine zg_if_ne (tgt := 9) (pc' := 7) zd_Ls_item_4 (by decide) rfl (fun _ => ?_) (fun q => absurd q c4)
    refine zg_aload_n (pc' := 10) zd_Ls_item_9 rfl rfl ?_
    obtain ⟨g5, h⟩ := gd_some h
    refine zg_getR (pc' := 13) zf_Ls_19 rfl zd_Ls_item_10 (gT_ok g5) rfl ?_
    refine zg_iload_n (pc' := 14) zd_Ls_item_13 rfl rfl ?_
    obtain ⟨g6, h⟩ := gd_some h
    obtain ⟨g7, h⟩ := gd_some h
    refine zg_aald (t := 5) (pc' := 15) (by decide) zd_Ls_item_14 (gT_ok g6) (gB_ok g7) rfl ?_
    refine zg_astore (L' := [some (.ref a0), some (.int a1), some (.int a2), some (.long a3), none, some (.ref (zR S1 (zR S1 a0 1) a1.toNatClampNeg))]) (pc' := 17) zd_Ls_item_15 (by decide) rfl rfl ?_
    refine zg_aload (pc' := 19) zd_Ls_item_17 rfl rfl ?_
    obtain ⟨g8, h⟩ := gd_some h
    refine zg_getI (pc' := 22) zf_Ls_276 zd_Ls_item_19 (gT_ok g8) rfl ?_
    refine zg_iconst (x := (-1 : Int32)) (pc' := 23) zd_Ls_item_22 (by decide) rfl ?_
    rcases br_some h with ⟨c9, h⟩ | ⟨c9, h⟩
    · refine zg_icmp_ne (tgt := 29) (pc' := 26) zd_Ls_item_23 (by decide) rfl (fun q => absurd c9 q) (fun _ => ?_)
      refine zg_bipush (x := (-11 : Int32)) (pc' := 28) zd_Ls_item_26 (by decide) rfl ?_
      obtain ⟨rfl, rfl⟩ := rt_q h
      exact zg_iret zd_Ls_item_28 zrt_i
    · refine zg_icmp_ne (tgt := 29) (pc' := 26) zd_Ls_item_23 (by decide) rfl (fun _ => ?_) (fun q => absurd q c9)
      refine zg_iload_n (pc' := 30) zd_Ls_item_29 rfl rfl ?_
      rcases br_some h with ⟨c10, h⟩ | ⟨c10, h⟩
      · refine zg_if_lt (tgt := 42) (pc' := 33) zd_Ls_item_30 (by decide) rfl (fun _ => ?_) (fun q => absurd c10 q)
        refine zg_bipush (x := (-13 : Int32)) (pc' := 44) zd_Ls_item_42 (by decide) rfl ?_
        obtain ⟨rfl, rfl⟩ := rt_q h
        exact zg_iret zd_Ls_item_44 zrt_i
      · refine zg_if_lt (tgt := 42) (pc' := 33) zd_Ls_item_30 (by decide) rfl (fun q => absurd q c10) (fun _ => ?_)
        refine zg_iload_n (pc' := 34) zd_Ls_item_33 rfl rfl ?_
        refine zg_aload (pc' := 36) zd_Ls_item_34 rfl rfl ?_
        refine zg_getI (pc' := 39) zf_Ls_279 zd_Ls_item_36 (gT_ok g8) rfl ?_
        rcases br_some h with ⟨c11, h⟩ | ⟨c11, h⟩
        · refine zg_icmp_lt (tgt := 45) (pc' := 42) zd_Ls_item_39 (by decide) rfl (fun _ => ?_) (fun q => absurd c11 q)
          refine zg_aload (pc' := 47) zd_Ls_item_45 rfl rfl ?_
          refine zg_getR (pc' := 50) zf_Ls_280 rfl zd_Ls_item_47 (gT_ok g8) rfl ?_
          refine zg_iload_n (pc' := 51) zd_Ls_item_50 rfl rfl ?_
          refine zg_aload (pc' := 53) zd_Ls_item_51 rfl rfl ?_
          refine zg_lload_n (pc' := 54) zd_Ls_item_53 rfl rfl ?_
          obtain ⟨r14, S12, e13, h⟩ := bq_some h
          refine zg_callV (ci := 8) (As := [.long a3]) (rest := [.int a2, .ref (zR S1 (zR S1 (zR S1 a0 1) a1.toNatClampNeg) 0)]) (pc' := 57) zl_Ls_305 zq778 zq779 ⟨_, rfl, rfl⟩ zd_Ls_item_54 rfl rfl (Nat.le_of_ble_eq_true rfl) (by omega) (gT_ok g8) (tm_Ta_cut (d := 2) (Nat.le_refl _) e13) rfl ?_
          refine zg_st (st' := [.long r14, .int a2, .ref (zR S1 (zR S1 (zR S1 a0 1) a1.toNatClampNeg) 0)]) rfl ?_
          obtain ⟨g15, h⟩ := gd_some h
          obtain ⟨g16, h⟩ := gd_some h
          refine zg_last (pc' := 58) zd_Ls_item_57 (gT_ok g15) (gB_ok g16) rfl ?_
          obtain ⟨S17, eS17, h⟩ := nm_some h
          refine zg_nm eS17 ?_
          refine zg_iconst (x := (1 : Int32)) (pc' := 59) zd_Ls_item_58 (by decide) rfl ?_
          obtain ⟨rfl, rfl⟩ := rt_q h
          exact zg_iret zd_Ls_item_59 zrt_i
        · refine zg_icmp_lt (tgt := 45) (pc' := 42) zd_Ls_item_39 (by decide) rfl (fun q => absurd q c11) (fun _ => ?_)
          refine zg_bipush (x := (-13 : Int32)) (pc' := 44) zd_Ls_item_42 (by decide) rfl ?_
          obtain ⟨rfl, rfl⟩ := rt_q h
          exact zg_iret zd_Ls_item_44 zrt_i
theorem zd_Ls_read_0 : decode prog_1_method_36_code 0 = .ok (.iload_n 1, 1) := by decide +kernel
theorem zd_Ls_read_1 : decode prog_1_method_36_code 1 = .ok (.invokestatic 273, 3) := by decide +kernel
theorem zd_Ls_read_4 : decode prog_1_method_36_code 4 = .ok (.ifCond .eq 20, 3) := by decide +kernel
theorem zd_Ls_read_7 : decode prog_1_method_36_code 7 = .ok (.iload_n 2, 1) := by decide +kernel
theorem zd_Ls_read_8 : decode prog_1_method_36_code 8 = .ok (.ifCond .lt 16, 3) := by decide +kernel
theorem zd_Ls_read_11 : decode prog_1_method_36_code 11 = .ok (.iload_n 2, 1) := by decide +kernel
theorem zd_Ls_read_12 : decode prog_1_method_36_code 12 = .ok (.aload_n 0, 1) := by decide +kernel
theorem zd_Ls_read_13 : decode prog_1_method_36_code 13 = .ok (.getfield 19, 3) := by decide +kernel
theorem zd_Ls_read_16 : decode prog_1_method_36_code 16 = .ok (.iload_n 1, 1) := by decide +kernel
theorem zd_Ls_read_17 : decode prog_1_method_36_code 17 = .ok (.aaload, 1) := by decide +kernel
theorem zd_Ls_read_18 : decode prog_1_method_36_code 18 = .ok (.getfield 279, 3) := by decide +kernel
theorem zd_Ls_read_21 : decode prog_1_method_36_code 21 = .ok (.if_icmp .lt 7, 3) := by decide +kernel
theorem zd_Ls_read_28 : decode prog_1_method_36_code 28 = .ok (.aload_n 0, 1) := by decide +kernel
theorem zd_Ls_read_29 : decode prog_1_method_36_code 29 = .ok (.getfield 19, 3) := by decide +kernel
theorem zd_Ls_read_32 : decode prog_1_method_36_code 32 = .ok (.iload_n 1, 1) := by decide +kernel
theorem zd_Ls_read_33 : decode prog_1_method_36_code 33 = .ok (.aaload, 1) := by decide +kernel
theorem zd_Ls_read_34 : decode prog_1_method_36_code 34 = .ok (.getfield 280, 3) := by decide +kernel
theorem zd_Ls_read_37 : decode prog_1_method_36_code 37 = .ok (.iload_n 2, 1) := by decide +kernel
theorem zd_Ls_read_38 : decode prog_1_method_36_code 38 = .ok (.laload, 1) := by decide +kernel
theorem zd_Ls_read_39 : decode prog_1_method_36_code 39 = .ok (.lreturn, 1) := by decide +kernel
theorem zd_Ls_read_24 : decode prog_1_method_36_code 24 = .ok (.ldc2_w 249, 3) := by decide +kernel
theorem zd_Ls_read_27 : decode prog_1_method_36_code 27 = .ok (.lreturn, 1) := by decide +kernel
abbrev zm_Ls_read : zQ := ("LoofahSaints", prog_1_method_36_code, 3, (Option.some Jvm.ClassFile.FieldType.long), false)
set_option maxRecDepth 100000 in
def fn_Ls_read (a0 : Nat) (a1 : Int32) (a2 : Int32) (S : zS) : Option (Int64 × zS) :=
  bq (fn_Ls_isTape a1 S) fun r3 S1 =>
  br (decide (r3 = 0)) (some ((-9223372036854775808 : Int64), S1)) <|
  br (decide (a2 < 0)) (some ((-9223372036854775808 : Int64), S1)) <|
  gd (gT S1 a0 109) <|
  gd (gT S1 (zR S1 a0 1) 5) <|
  gd (gB a1 (zT S1 (zR S1 a0 1)).2) <|
  gd (gT S1 (zR S1 (zR S1 a0 1) a1.toNatClampNeg) 108) <|
  br (decide (a2 < (zI S1 (zR S1 (zR S1 a0 1) a1.toNatClampNeg) 2))) (gd (gT S1 (zR S1 (zR S1 (zR S1 a0 1) a1.toNatClampNeg) 0) 3) <|
  gd (gB a2 (zT S1 (zR S1 (zR S1 (zR S1 a0 1) a1.toNatClampNeg) 0)).2) <|
  some ((zL S1 (zR S1 (zR S1 (zR S1 a0 1) a1.toNatClampNeg) 0) a2.toNatClampNeg), S1)) <|
  some ((-9223372036854775808 : Int64), S1)
set_option maxRecDepth 100000 in
set_option maxHeartbeats 4000000 in
theorem tm_Ls_read {X : zXt} {d : Nat} (hd : 3 ≤ d) {v : Int64} {a0 : Nat} {a1 : Int32} {a2 : Int32} {S : zS} {S' : zS} (h : fn_Ls_read a0 a1 a2 S = some (v, S')) : zM X zy_Ls_read prog_1_method_36_code 3 (Option.some Jvm.ClassFile.FieldType.long) d [.ref a0, .int a1, .int a2] S (some (.long v)) S' := by
  refine zM_of (ini := false) (L := [some (.ref a0), some (.int a1), some (.int a2)]) (plainFor_of_name (by decide)) (fun h => by cases h) (Nat.le_of_ble_eq_true rfl) rfl ?_
  unfold fn_Ls_read at h
  refine zg_iload_n (pc' := 1) zd_Ls_read_0 rfl rfl ?_
  obtain ⟨r3, S1, e2, h⟩ := bq_some h
  refine zg_callS (As := [.int a1]) (rest := []) (pc' := 4) zl_Ls_273 zq717 zd_Ls_read_1 rfl rfl (Nat.le_of_ble_eq_true rfl) (by omega) (tm_Ls_isTape (d := 2) (Nat.le_refl _) e2) rfl ?_
  refine zg_st (st' := [.int r3]) rfl ?_
  rcases br_some h with ⟨c4, h⟩ | ⟨c4, h⟩
  · refine zg_if_eq (tgt := 24) (pc' := 7) zd_Ls_read_4 (by decide) rfl (fun _ => ?_) (fun q => absurd c4 q)
    refine zg_ldc2 (x := (-9223372036854775808 : Int64)) (pc' := 27) zd_Ls_read_24 zq678 rfl ?_
    obtain ⟨rfl, rfl⟩ := rt_q h
    exact zg_lret zd_Ls_read_27 zrt_l
  · refine zg_if_eq (tgt := 24) (pc' := 7) zd_Ls_read_4 (by decide) rfl (fun q => absurd q c4) (fun _ => ?_)
    refine zg_iload_n (pc' := 8) zd_Ls_read_7 rfl rfl ?_
    rcases br_some h with ⟨c5, h⟩ | ⟨c5, h⟩
    · refine zg_if_lt (tgt := 24) (pc' := 11) zd_Ls_read_8 (by decide) rfl (fun _ => ?_) (fun q => absurd c5 q)
      refine zg_ldc2 (x := (-9223372036854775808 : Int64)) (pc' := 27) zd_Ls_read_24 zq678 rfl ?_
      obtain ⟨rfl, rfl⟩ := rt_q h
      exact zg_lret zd_Ls_read_27 zrt_l
    · refine zg_if_lt (tgt := 24) (pc' := 11) zd_Ls_read_8 (by decide) rfl (fun q => absurd q c5) (fun _ => ?_)
      refine zg_iload_n (pc' := 12) zd_Ls_read_11 rfl rfl ?_
      refine zg_aload_n (pc' := 13) zd_Ls_read_12 rfl rfl ?_
      obtain ⟨g6, h⟩ := gd_some h
      refine zg_getR (pc' := 16) zf_Ls_19 rfl zd_Ls_read_13 (gT_ok g6) rfl ?_
      refine zg_iload_n (pc' := 17) zd_Ls_read_16 rfl rfl ?_
      obtain ⟨g7, h⟩ := gd_some h
      obtain ⟨g8, h⟩ := gd_some h
      refine zg_aald (t := 5) (pc' := 18) (by decide) zd_Ls_read_17 (gT_ok g7) (gB_ok g8) rfl ?_
      obtain ⟨g9, h⟩ := gd_some h
      refine zg_getI (pc' := 21) zf_Ls_279 zd_Ls_read_18 (gT_ok g9) rfl ?_
      rcases br_some h with ⟨c10, h⟩ | ⟨c10, h⟩
      · refine zg_icmp_lt (tgt := 28) (pc' := 24) zd_Ls_read_21 (by decide) rfl (fun _ => ?_) (fun q => absurd c10 q)
        refine zg_aload_n (pc' := 29) zd_Ls_read_28 rfl rfl ?_
        refine zg_getR (pc' := 32) zf_Ls_19 rfl zd_Ls_read_29 (gT_ok g6) rfl ?_
        refine zg_iload_n (pc' := 33) zd_Ls_read_32 rfl rfl ?_
        refine zg_aald (t := 5) (pc' := 34) (by decide) zd_Ls_read_33 (gT_ok g7) (gB_ok g8) rfl ?_
        refine zg_getR (pc' := 37) zf_Ls_280 rfl zd_Ls_read_34 (gT_ok g9) rfl ?_
        refine zg_iload_n (pc' := 38) zd_Ls_read_37 rfl rfl ?_
        obtain ⟨g11, h⟩ := gd_some h
        obtain ⟨g12, h⟩ := gd_some h
        refine zg_lald (pc' := 39) zd_Ls_read_38 (gT_ok g11) (gB_ok g12) rfl ?_
        obtain ⟨rfl, rfl⟩ := rt_q h
        exact zg_lret zd_Ls_read_39 zrt_l
      · refine zg_icmp_lt (tgt := 28) (pc' := 24) zd_Ls_read_21 (by decide) rfl (fun q => absurd q c10) (fun _ => ?_)
        refine zg_ldc2 (x := (-9223372036854775808 : Int64)) (pc' := 27) zd_Ls_read_24 zq678 rfl ?_
        obtain ⟨rfl, rfl⟩ := rt_q h
        exact zg_lret zd_Ls_read_27 zrt_l
theorem zd_Ls_shift_0 : decode prog_1_method_37_code 0 = .ok (.iload_n 1, 1) := by decide +kernel
theorem zd_Ls_shift_1 : decode prog_1_method_37_code 1 = .ok (.invokestatic 273, 3) := by decide +kernel
theorem zd_Ls_shift_4 : decode prog_1_method_37_code 4 = .ok (.ifCond .eq 10, 3) := by decide +kernel
theorem zd_Ls_shift_7 : decode prog_1_method_37_code 7 = .ok (.iload_n 3, 1) := by decide +kernel
theorem zd_Ls_shift_8 : decode prog_1_method_37_code 8 = .ok (.invokestatic 273, 3) := by decide +kernel
theorem zd_Ls_shift_11 : decode prog_1_method_37_code 11 = .ok (.ifCond .ne 5, 3) := by decide +kernel
theorem zd_Ls_shift_16 : decode prog_1_method_37_code 16 = .ok (.aload_n 0, 1) := by decide +kernel
theorem zd_Ls_shift_17 : decode prog_1_method_37_code 17 = .ok (.getfield 19, 3) := by decide +kernel
theorem zd_Ls_shift_20 : decode prog_1_method_37_code 20 = .ok (.iload_n 1, 1) := by decide +kernel
theorem zd_Ls_shift_21 : decode prog_1_method_37_code 21 = .ok (.aaload, 1) := by decide +kernel
theorem zd_Ls_shift_22 : decode prog_1_method_37_code 22 = .ok (.astore 6, 2) := by decide +kernel
theorem zd_Ls_shift_24 : decode prog_1_method_37_code 24 = .ok (.aload_n 0, 1) := by decide +kernel
theorem zd_Ls_shift_25 : decode prog_1_method_37_code 25 = .ok (.getfield 19, 3) := by decide +kernel
theorem zd_Ls_shift_28 : decode prog_1_method_37_code 28 = .ok (.iload_n 3, 1) := by decide +kernel
theorem zd_Ls_shift_29 : decode prog_1_method_37_code 29 = .ok (.aaload, 1) := by decide +kernel
theorem zd_Ls_shift_30 : decode prog_1_method_37_code 30 = .ok (.astore 7, 2) := by decide +kernel
theorem zd_Ls_shift_32 : decode prog_1_method_37_code 32 = .ok (.aload 6, 2) := by decide +kernel
theorem zd_Ls_shift_34 : decode prog_1_method_37_code 34 = .ok (.getfield 276, 3) := by decide +kernel
theorem zd_Ls_shift_37 : decode prog_1_method_37_code 37 = .ok (.iconst (-1), 1) := by decide +kernel
theorem zd_Ls_shift_38 : decode prog_1_method_37_code 38 = .ok (.if_icmp .eq 12, 3) := by decide +kernel
theorem zd_Ls_shift_41 : decode prog_1_method_37_code 41 = .ok (.aload 7, 2) := by decide +kernel
theorem zd_Ls_shift_43 : decode prog_1_method_37_code 43 = .ok (.getfield 276, 3) := by decide +kernel
theorem zd_Ls_shift_46 : decode prog_1_method_37_code 46 = .ok (.iconst (-1), 1) := by decide +kernel
theorem zd_Ls_shift_47 : decode prog_1_method_37_code 47 = .ok (.if_icmp .ne 6, 3) := by decide +kernel
theorem zd_Ls_shift_53 : decode prog_1_method_37_code 53 = .ok (.aload 6, 2) := by decide +kernel
theorem zd_Ls_shift_55 : decode prog_1_method_37_code 55 = .ok (.getfield 276, 3) := by decide +kernel
theorem zd_Ls_shift_58 : decode prog_1_method_37_code 58 = .ok (.aload 7, 2) := by decide +kernel
theorem zd_Ls_shift_60 : decode prog_1_method_37_code 60 = .ok (.getfield 276, 3) := by decide +kernel
theorem zd_Ls_shift_63 : decode prog_1_method_37_code 63 = .ok (.if_icmp .eq 6, 3) := by decide +kernel
theorem zd_Ls_shift_69 : decode prog_1_method_37_code 69 = .ok (.iload 5, 2) := by decide +kernel
theorem zd_Ls_shift_71 : decode prog_1_method_37_code 71 = .ok (.ifCond .lt 12, 3) := by decide +kernel
theorem zd_Ls_shift_74 : decode prog_1_method_37_code 74 = .ok (.iload_n 2, 1) := by decide +kernel
theorem zd_Ls_shift_75 : decode prog_1_method_37_code 75 = .ok (.ifCond .lt 8, 3) := by decide +kernel
theorem zd_Ls_shift_78 : decode prog_1_method_37_code 78 = .ok (.iload 4, 2) := by decide +kernel
theorem zd_Ls_shift_80 : decode prog_1_method_37_code 80 = .ok (.ifCond .ge 6, 3) := by decide +kernel
theorem zd_Ls_shift_86 : decode prog_1_method_37_code 86 = .ok (.iload_n 2, 1) := by decide +kernel
theorem zd_Ls_shift_87 : decode prog_1_method_37_code 87 = .ok (.aload 6, 2) := by decide +kernel
theorem zd_Ls_shift_89 : decode prog_1_method_37_code 89 = .ok (.getfield 279, 3) := by decide +kernel
theorem zd_Ls_shift_92 : decode prog_1_method_37_code 92 = .ok (.iload 5, 2) := by decide +kernel
theorem zd_Ls_shift_94 : decode prog_1_method_37_code 94 = .ok (.isub, 1) := by decide +kernel
theorem zd_Ls_shift_95 : decode prog_1_method_37_code 95 = .ok (.if_icmp .gt 16, 3) := by decide +kernel
theorem zd_Ls_shift_98 : decode prog_1_method_37_code 98 = .ok (.iload 4, 2) := by decide +kernel
theorem zd_Ls_shift_100 : decode prog_1_method_37_code 100 = .ok (.aload 7, 2) := by decide +kernel
theorem zd_Ls_shift_102 : decode prog_1_method_37_code 102 = .ok (.getfield 279, 3) := by decide +kernel
theorem zd_Ls_shift_105 : decode prog_1_method_37_code 105 = .ok (.iload 5, 2) := by decide +kernel
theorem zd_Ls_shift_107 : decode prog_1_method_37_code 107 = .ok (.isub, 1) := by decide +kernel
theorem zd_Ls_shift_108 : decode prog_1_method_37_code 108 = .ok (.if_icmp .le 6, 3) := by decide +kernel
theorem zd_Ls_shift_114 : decode prog_1_method_37_code 114 = .ok (.aload 6, 2) := by decide +kernel
theorem zd_Ls_shift_116 : decode prog_1_method_37_code 116 = .ok (.getfield 280, 3) := by decide +kernel
theorem zd_Ls_shift_119 : decode prog_1_method_37_code 119 = .ok (.iload_n 2, 1) := by decide +kernel
theorem zd_Ls_shift_120 : decode prog_1_method_37_code 120 = .ok (.aload 7, 2) := by decide +kernel
theorem zd_Ls_shift_122 : decode prog_1_method_37_code 122 = .ok (.getfield 280, 3) := by decide +kernel
theorem zd_Ls_shift_125 : decode prog_1_method_37_code 125 = .ok (.iload 4, 2) := by decide +kernel
theorem zd_Ls_shift_127 : decode prog_1_method_37_code 127 = .ok (.iload 5, 2) := by decide +kernel
theorem zd_Ls_shift_129 : decode prog_1_method_37_code 129 = .ok (.invokestatic 309, 3) := by decide +kernel
theorem zd_Ls_shift_132 : decode prog_1_method_37_code 132 = .ok (.iload 5, 2) := by decide +kernel
theorem zd_Ls_shift_134 : decode prog_1_method_37_code 134 = .ok (.ireturn, 1) := by decide +kernel
theorem zd_Ls_shift_111 : decode prog_1_method_37_code 111 = .ok (.bipush (-13), 2) := by decide +kernel
theorem zd_Ls_shift_113 : decode prog_1_method_37_code 113 = .ok (.ireturn, 1) := by decide +kernel
theorem zd_Ls_shift_83 : decode prog_1_method_37_code 83 = .ok (.bipush (-13), 2) := by decide +kernel
theorem zd_Ls_shift_85 : decode prog_1_method_37_code 85 = .ok (.ireturn, 1) := by decide +kernel
theorem zd_Ls_shift_66 : decode prog_1_method_37_code 66 = .ok (.bipush (-12), 2) := by decide +kernel
theorem zd_Ls_shift_68 : decode prog_1_method_37_code 68 = .ok (.ireturn, 1) := by decide +kernel
theorem zd_Ls_shift_50 : decode prog_1_method_37_code 50 = .ok (.bipush (-11), 2) := by decide +kernel
theorem zd_Ls_shift_52 : decode prog_1_method_37_code 52 = .ok (.ireturn, 1) := by decide +kernel
theorem zd_Ls_shift_14 : decode prog_1_method_37_code 14 = .ok (.iconst (-1), 1) := by decide +kernel
theorem zd_Ls_shift_15 : decode prog_1_method_37_code 15 = .ok (.ireturn, 1) := by decide +kernel
abbrev zm_Ls_shift : zQ := ("LoofahSaints", prog_1_method_37_code, 8, (Option.some Jvm.ClassFile.FieldType.int), false)
set_option maxRecDepth 100000 in
def fn_Ls_shift (a0 : Nat) (a1 : Int32) (a2 : Int32) (a3 : Int32) (a4 : Int32) (a5 : Int32) (S : zS) : Option (Int32 × zS) :=
  bq (fn_Ls_isTape a1 S) fun r3 S1 =>
  br (decide (r3 = 0)) (some ((-1 : Int32), S1)) <|
  bq (fn_Ls_isTape a3 S1) fun r7 S5 =>
  br (decide (r7 = 0)) (some ((-1 : Int32), S5)) <|
  gd (gT S5 a0 109) <|
  gd (gT S5 (zR S5 a0 1) 5) <|
  gd (gB a1 (zT S5 (zR S5 a0 1)).2) <|
  gd (gB a3 (zT S5 (zR S5 a0 1)).2) <|
  gd (gT S5 (zR S5 (zR S5 a0 1) a1.toNatClampNeg) 108) <|
  br (decide ((zI S5 (zR S5 (zR S5 a0 1) a1.toNatClampNeg) 1) = (-1 : Int32))) (some ((-11 : Int32), S5)) <|
  gd (gT S5 (zR S5 (zR S5 a0 1) a3.toNatClampNeg) 108) <|
  br (decide ((zI S5 (zR S5 (zR S5 a0 1) a3.toNatClampNeg) 1) = (-1 : Int32))) (some ((-11 : Int32), S5)) <|
  br (decide ((zI S5 (zR S5 (zR S5 a0 1) a1.toNatClampNeg) 1) = (zI S5 (zR S5 (zR S5 a0 1) a3.toNatClampNeg) 1))) (br (decide (a5 < 0)) (some ((-13 : Int32), S5)) <|
  br (decide (a2 < 0)) (some ((-13 : Int32), S5)) <|
  br (decide (0 ≤ a4)) (br (decide (((zI S5 (zR S5 (zR S5 a0 1) a1.toNatClampNeg) 2) - a5) < a2)) (some ((-13 : Int32), S5)) <|
  br (decide (a4 ≤ ((zI S5 (zR S5 (zR S5 a0 1) a3.toNatClampNeg) 2) - a5))) (gd (gK S5 3 (zR S5 (zR S5 (zR S5 a0 1) a1.toNatClampNeg) 0) (zR S5 (zR S5 (zR S5 a0 1) a3.toNatClampNeg) 0) a2 a4 a5) <|
  nm (kL S5 (zR S5 (zR S5 (zR S5 a0 1) a1.toNatClampNeg) 0) a2.toNatClampNeg (zR S5 (zR S5 (zR S5 a0 1) a3.toNatClampNeg) 0) a4.toNatClampNeg a5.toNatClampNeg) fun S24 =>
  some (a5, S24)) <|
  some ((-13 : Int32), S5)) <|
  some ((-13 : Int32), S5)) <|
  some ((-12 : Int32), S5)
set_option maxRecDepth 100000 in
set_option maxHeartbeats 4000000 in
theorem tm_Ls_shift {X : zXt} {d : Nat} (hd : 3 ≤ d) {v : Int32} {a0 : Nat} {a1 : Int32} {a2 : Int32} {a3 : Int32} {a4 : Int32} {a5 : Int32} {S : zS} {S' : zS} (h : fn_Ls_shift a0 a1 a2 a3 a4 a5 S = some (v, S')) : zM X zy_Ls_shift prog_1_method_37_code 8 (Option.some Jvm.ClassFile.FieldType.int) d [.ref a0, .int a1, .int a2, .int a3, .int a4, .int a5] S (some (.int v)) S' := by
  refine zM_of (ini := false) (L := [some (.ref a0), some (.int a1), some (.int a2), some (.int a3), some (.int a4), some (.int a5), none, none]) (plainFor_of_name (by decide)) (fun h => by cases h) (Nat.le_of_ble_eq_true rfl) rfl ?_
  unfold fn_Ls_shift at h
  refine zg_iload_n (pc' := 1) zd_Ls_shift_0 rfl rfl ?_
  obtain ⟨r3, S1, e2, h⟩ := bq_some h
  refine zg_callS (As := [.int a1]) (rest := []) (pc' := 4) zl_Ls_273 zq717 zd_Ls_shift_1 rfl rfl (Nat.le_of_ble_eq_true rfl) (by omega) (tm_Ls_isTape (d := 2) (Nat.le_refl _) e2) rfl ?_
  refine zg_st (st' := [.int r3]) rfl ?_
  rcases br_some h with ⟨c4, h⟩ | ⟨c4, h⟩
  · refine zg_if_eq (tgt := 14) (pc' := 7) zd_Ls_shift_4 (by decide) rfl (fun _ => ?_) (fun q => absurd c4 q)
    refine zg_iconst (x := (-1 : Int32)) (pc' := 15) zd_Ls_shift_14 (by decide) rfl ?_
    obtain ⟨rfl, rfl⟩ := rt_q h
    exact zg_iret zd_Ls_shift_15 zrt_i
  · refine zg_if_eq (tgt := 14) (pc' := 7) zd_Ls_shift_4 (by decide) rfl (fun q => absurd q c4) (fun _ => ?_)
    refine zg_iload_n (pc' := 8) zd_Ls_shift_7 rfl rfl ?_
    obtain ⟨r7, S5, e6, h⟩ := bq_some h
    refine zg_callS (As := [.int a3]) (rest := []) (pc' := 11) zl_Ls_273 zq717 zd_Ls_shift_8 rfl rfl (Nat.le_of_ble_eq_true rfl) (by omega) (tm_Ls_isTape (d := 2) (Nat.le_refl _) e6) rfl ?_
    refine zg_st (st' := [.int r7]) rfl ?_
    rcases br_some h with ⟨c8, h⟩ | ⟨c8, h⟩
    · refine zg_if_ne (tgt := 16) (pc' := 14) zd_Ls_shift_11 (by decide) rfl (fun q => absurd c8 q) (fun _ => ?_)
      refine zg_iconst (x := (-1 : Int32)) (pc' := 15) zd_Ls_shift_14 (by decide) rfl ?_
      obtain ⟨rfl, rfl⟩ := rt_q h
      exact zg_iret zd_Ls_shift_15 zrt_i
    · refine zg_if_ne (tgt := 16) (pc' := 14) zd_Ls_shift_11 (by decide) rfl (fun _ => ?_) (fun q => absurd q c8)
      refine zg_aload_n (pc' := 17) zd_Ls_shift_16 rfl rfl ?_
      obtain ⟨g9, h⟩ := gd_some h
      refine zg_getR (pc' := 20) zf_Ls_19 rfl zd_Ls_shift_17 (gT_ok g9) rfl ?_
      refine zg_iload_n (pc' := 21) zd_Ls_shift_20 rfl rfl ?_
      obtain ⟨g10, h⟩ := gd_some h
      obtain ⟨g11, h⟩ := gd_some h
      refine zg_aald (t := 5) (pc' := 22) (by decide) zd_Ls_shift_21 (gT_ok g10) (gB_ok g11) rfl ?_
      refine zg_astore (L' := [some (.ref a0), some (.int a1), some (.int a2), some (.int a3), some (.int a4), some (.int a5), some (.ref (zR S5 (zR S5 a0 1) a1.toNatClampNeg)), none]) (pc' := 24) zd_Ls_shift_22 (by decide) rfl rfl ?_
      refine zg_aload_n (pc' := 25) zd_Ls_shift_24 rfl rfl ?_
      refine zg_getR (pc' := 28) zf_Ls_19 rfl zd_Ls_shift_25 (gT_ok g9) rfl ?_
      refine zg_iload_n (pc' := 29) zd_Ls_shift_28 rfl rfl ?_
      obtain ⟨g12, h⟩ := gd_some h
      refine zg_aald (t := 5) (pc' := 30) (by decide) zd_Ls_shift_29 (gT_ok g10) (gB_ok g12) rfl ?_
      refine zg_astore (L' := [some (.ref a0), some (.int a1), some (.int a2), some (.int a3), some (.int a4), some (.int a5), some (.ref (zR S5 (zR S5 a0 1) a1.toNatClampNeg)), some (.ref (zR S5 (zR S5 a0 1) a3.toNatClampNeg))]) (pc' := 32) zd_Ls_shift_30 (by decide) rfl rfl ?_
      refine zg_aload (pc' := 34) zd_Ls_shift_32 rfl rfl ?_
      obtain ⟨g13, h⟩ := gd_some h
      refine zg_getI (pc' := 37) zf_Ls_276 zd_Ls_shift_34 (gT_ok g13) rfl ?_
      refine zg_iconst (x := (-1 : Int32)) (pc' := 38) zd_Ls_shift_37 (by decide) rfl ?_
      rcases br_some h with ⟨c14, h⟩ | ⟨c14, h⟩
      · refine zg_icmp_eq (tgt := 50) (pc' := 41) zd_Ls_shift_38 (by decide) rfl (fun _ => ?_) (fun q => absurd c14 q)
        refine zg_bipush (x := (-11 : Int32)) (pc' := 52) zd_Ls_shift_50 (by decide) rfl ?_
        obtain ⟨rfl, rfl⟩ := rt_q h
        exact zg_iret zd_Ls_shift_52 zrt_i
      · refine zg_icmp_eq (tgt := 50) (pc' := 41) zd_Ls_shift_38 (by decide) rfl (fun q => absurd q c14) (fun _ => ?_)
        refine zg_aload (pc' := 43) zd_Ls_shift_41 rfl rfl ?_
        obtain ⟨g15, h⟩ := gd_some h
        refine zg_getI (pc' := 46) zf_Ls_276 zd_Ls_shift_43 (gT_ok g15) rfl ?_
        refine zg_iconst (x := (-1 : Int32)) (pc' := 47) zd_Ls_shift_46 (by decide) rfl ?_
        rcases br_some h with ⟨c16, h⟩ | ⟨c16, h⟩
        · refine zg_icmp_ne (tgt := 53) (pc' := 50) zd_Ls_shift_47 (by decide) rfl (fun q => absurd c16 q) (fun _ => ?_)
          refine zg_bipush (x := (-11 : Int32)) (pc' := 52) zd_Ls_shift_50 (by decide) rfl ?_
          obtain ⟨rfl, rfl⟩ := rt_q h
          exact zg_iret zd_Ls_shift_52 zrt_i
        · refine zg_icmp_ne (tgt := 53) (pc' := 50) zd_Ls_shift_47 (by decide) rfl (fun _ => ?_) (fun q => absurd q c16)
          refine zg_aload (pc' := 55) zd_Ls_shift_53 rfl rfl ?_
          refine zg_getI (pc' := 58) zf_Ls_276 zd_Ls_shift_55 (gT_ok g13) rfl ?_
          refine zg_aload (pc' := 60) zd_Ls_shift_58 rfl rfl ?_
          refine zg_getI (pc' := 63) zf_Ls_276 zd_Ls_shift_60 (gT_ok g15) rfl ?_
          rcases br_some h with ⟨c17, h⟩ | ⟨c17, h⟩
          · refine zg_icmp_eq (tgt := 69) (pc' := 66) zd_Ls_shift_63 (by decide) rfl (fun _ => ?_) (fun q => absurd c17 q)
            refine zg_iload (pc' := 71) zd_Ls_shift_69 rfl rfl ?_
            rcases br_some h with ⟨c18, h⟩ | ⟨c18, h⟩
            · refine zg_if_lt (tgt := 83) (pc' := 74) zd_Ls_shift_71 (by decide) rfl (fun _ => ?_) (fun q => absurd c18 q)
              refine zg_bipush (x := (-13 : Int32)) (pc' := 85) zd_Ls_shift_83 (by decide) rfl ?_
              obtain ⟨rfl, rfl⟩ := rt_q h
              exact zg_iret zd_Ls_shift_85 zrt_i
            · refine zg_if_lt (tgt := 83) (pc' := 74) zd_Ls_shift_71 (by decide) rfl (fun q => absurd q c18) (fun _ => ?_)
              refine zg_iload_n (pc' := 75) zd_Ls_shift_74 rfl rfl ?_
              rcases br_some h with ⟨c19, h⟩ | ⟨c19, h⟩
              · refine zg_if_lt (tgt := 83) (pc' := 78) zd_Ls_shift_75 (by decide) rfl (fun _ => ?_) (fun q => absurd c19 q)
                refine zg_bipush (x := (-13 : Int32)) (pc' := 85) zd_Ls_shift_83 (by decide) rfl ?_
                obtain ⟨rfl, rfl⟩ := rt_q h
                exact zg_iret zd_Ls_shift_85 zrt_i
              · refine zg_if_lt (tgt := 83) (pc' := 78) zd_Ls_shift_75 (by decide) rfl (fun q => absurd q c19) (fun _ => ?_)
                refine zg_iload (pc' := 80) zd_Ls_shift_78 rfl rfl ?_
                rcases br_some h with ⟨c20, h⟩ | ⟨c20, h⟩
                · refine zg_if_ge (tgt := 86) (pc' := 83) zd_Ls_shift_80 (by decide) rfl (fun _ => ?_) (fun q => absurd c20 q)
                  refine zg_iload_n (pc' := 87) zd_Ls_shift_86 rfl rfl ?_
                  refine zg_aload (pc' := 89) zd_Ls_shift_87 rfl rfl ?_
                  refine zg_getI (pc' := 92) zf_Ls_279 zd_Ls_shift_89 (gT_ok g13) rfl ?_
                  refine zg_iload (pc' := 94) zd_Ls_shift_92 rfl rfl ?_
                  refine zg_isub (pc' := 95) zd_Ls_shift_94 rfl ?_
                  rcases br_some h with ⟨c21, h⟩ | ⟨c21, h⟩
                  · refine zg_icmp_gt (tgt := 111) (pc' := 98) zd_Ls_shift_95 (by decide) rfl (fun _ => ?_) (fun q => absurd c21 q)
                    refine zg_bipush (x := (-13 : Int32)) (pc' := 113) zd_Ls_shift_111 (by decide) rfl ?_
                    obtain ⟨rfl, rfl⟩ := rt_q h
                    exact zg_iret zd_Ls_shift_113 zrt_i
                  · refine zg_icmp_gt (tgt := 111) (pc' := 98) zd_Ls_shift_95 (by decide) rfl (fun q => absurd q c21) (fun _ => ?_)
                    refine zg_iload (pc' := 100) zd_Ls_shift_98 rfl rfl ?_
                    refine zg_aload (pc' := 102) zd_Ls_shift_100 rfl rfl ?_
                    refine zg_getI (pc' := 105) zf_Ls_279 zd_Ls_shift_102 (gT_ok g15) rfl ?_
                    refine zg_iload (pc' := 107) zd_Ls_shift_105 rfl rfl ?_
                    refine zg_isub (pc' := 108) zd_Ls_shift_107 rfl ?_
                    rcases br_some h with ⟨c22, h⟩ | ⟨c22, h⟩
                    · refine zg_icmp_le (tgt := 114) (pc' := 111) zd_Ls_shift_108 (by decide) rfl (fun _ => ?_) (fun q => absurd c22 q)
                      refine zg_aload (pc' := 116) zd_Ls_shift_114 rfl rfl ?_
                      refine zg_getR (pc' := 119) zf_Ls_280 rfl zd_Ls_shift_116 (gT_ok g13) rfl ?_
                      refine zg_iload_n (pc' := 120) zd_Ls_shift_119 rfl rfl ?_
                      refine zg_aload (pc' := 122) zd_Ls_shift_120 rfl rfl ?_
                      refine zg_getR (pc' := 125) zf_Ls_280 rfl zd_Ls_shift_122 (gT_ok g15) rfl ?_
                      refine zg_iload (pc' := 127) zd_Ls_shift_125 rfl rfl ?_
                      refine zg_iload (pc' := 129) zd_Ls_shift_127 rfl rfl ?_
                      obtain ⟨g23, h⟩ := gd_some h
                      refine zg_copyL (pc' := 132) zq789 zq557 zq556 zq17 zd_Ls_shift_129 (by omega) (Nat.le_of_ble_eq_true rfl) (gK_ok g23).1 (gK_ok g23).2.1 (gK_ok g23).2.2.1 (gK_ok g23).2.2.2.1 (gK_ok g23).2.2.2.2.1 (gK_ok g23).2.2.2.2.2.1 (gK_ok g23).2.2.2.2.2.2.1 (gK_ok g23).2.2.2.2.2.2.2.1 (gK_ok g23).2.2.2.2.2.2.2.2 rfl ?_
                      obtain ⟨S24, eS24, h⟩ := nm_some h
                      refine zg_nm eS24 ?_
                      refine zg_iload (pc' := 134) zd_Ls_shift_132 rfl rfl ?_
                      obtain ⟨rfl, rfl⟩ := rt_q h
                      exact zg_iret zd_Ls_shift_134 zrt_i
                    · refine zg_icmp_le (tgt := 114) (pc' := 111) zd_Ls_shift_108 (by decide) rfl (fun q => absurd q c22) (fun _ => ?_)
                      refine zg_bipush (x := (-13 : Int32)) (pc' := 113) zd_Ls_shift_111 (by decide) rfl ?_
                      obtain ⟨rfl, rfl⟩ := rt_q h
                      exact zg_iret zd_Ls_shift_113 zrt_i
                · refine zg_if_ge (tgt := 86) (pc' := 83) zd_Ls_shift_80 (by decide) rfl (fun q => absurd q c20) (fun _ => ?_)
                  refine zg_bipush (x := (-13 : Int32)) (pc' := 85) zd_Ls_shift_83 (by decide) rfl ?_
                  obtain ⟨rfl, rfl⟩ := rt_q h
                  exact zg_iret zd_Ls_shift_85 zrt_i
          · refine zg_icmp_eq (tgt := 69) (pc' := 66) zd_Ls_shift_63 (by decide) rfl (fun q => absurd q c17) (fun _ => ?_)
            refine zg_bipush (x := (-12 : Int32)) (pc' := 68) zd_Ls_shift_66 (by decide) rfl ?_
            obtain ⟨rfl, rfl⟩ := rt_q h
            exact zg_iret zd_Ls_shift_68 zrt_i
