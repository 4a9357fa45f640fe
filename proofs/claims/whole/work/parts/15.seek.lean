theorem zd_Ac_init_0 : decode prog_2_method_1_code 0 = .ok (.aload_n 0, 1) := by decide +kernel
theorem zd_Ac_init_1 : decode prog_2_method_1_code 1 = .ok (.invokespecial 3, 3) := by decide +kernel
theorem zd_Ac_init_4 : decode prog_2_method_1_code 4 = .ok (.aload_n 0, 1) := by decide +kernel
theorem zd_Ac_init_5 : decode prog_2_method_1_code 5 = .ok (.bipush 20, 2) := by decide +kernel
theorem zd_Ac_init_7 : decode prog_2_method_1_code 7 = .ok (.newarray .int, 2) := by decide +kernel
theorem zd_Ac_init_9 : decode prog_2_method_1_code 9 = .ok (.putfield 11, 3) := by decide +kernel
theorem zd_Ac_init_12 : decode prog_2_method_1_code 12 = .ok (.aload_n 0, 1) := by decide +kernel
theorem zd_Ac_init_13 : decode prog_2_method_1_code 13 = .ok (.iconst 0, 1) := by decide +kernel
theorem zd_Ac_init_14 : decode prog_2_method_1_code 14 = .ok (.putfield 15, 3) := by decide +kernel
theorem zd_Ac_init_17 : decode prog_2_method_1_code 17 = .ok (.aload_n 0, 1) := by decide +kernel
theorem zd_Ac_init_18 : decode prog_2_method_1_code 18 = .ok (.new 19, 3) := by decide +kernel
theorem zd_Ac_init_21 : decode prog_2_method_1_code 21 = .ok (.dup, 1) := by decide +kernel
theorem zd_Ac_init_22 : decode prog_2_method_1_code 22 = .ok (.iconst 0, 1) := by decide +kernel
theorem zd_Ac_init_23 : decode prog_2_method_1_code 23 = .ok (.invokespecial 21, 3) := by decide +kernel
theorem zd_Ac_init_26 : decode prog_2_method_1_code 26 = .ok (.putfield 24, 3) := by decide +kernel
theorem zd_Ac_init_29 : decode prog_2_method_1_code 29 = .ok (.return_, 1) := by decide +kernel
abbrev zm_Ac_init : zQ := ("LoofahSaints$Acts", prog_2_method_1_code, 1, (Option.none : Option Jvm.ClassFile.FieldType), true)
set_option maxRecDepth 100000 in
def fn_Ac_init (a0 : Nat) (S : zS) : Option (zS) :=
  gd (gT S a0 100) <|
  gd (gN (20 : Int32)) <|
  nm (uN S (1, (20 : Int32).toNatClampNeg)) fun S3 =>
  gd (gT S3 a0 100) <|
  nm (uR S3 a0 0 (zN S)) fun S5 =>
  gd (gT S5 a0 100) <|
  nm (uI S5 a0 1 (0 : Int32)) fun S7 =>
  nm (uN S7 (100 + 5, 8)) fun S8 =>
  gd (gT S8 (zN S7) 105) <|
  bv (fn_Sa_init (zN S7) (0 : Int32) S8) fun S10 =>
  gd (gT S10 a0 100) <|
  nm (uR S10 a0 2 (zN S7)) fun S13 =>
  some S13
set_option maxRecDepth 100000 in
set_option maxHeartbeats 4000000 in
theorem tm_Ac_init {X : zXt} {d : Nat} (hd : 3 ≤ d) {a0 : Nat} {S : zS} {S' : zS} (h : fn_Ac_init a0 S = some S') : zM X zy_Ac_init prog_2_method_1_code 1 (Option.none : Option Jvm.ClassFile.FieldType) d [.ref a0] S none S' := by
  refine zM_of (ini := true) (L := [some (.ref a0)]) (plainFor_of_name (by decide)) (fun _ => rfl) (Nat.le_of_ble_eq_true rfl) rfl ?_
  unfold fn_Ac_init at h
  refine zg_aload_n (pc' := 1) zd_Ac_init_0 rfl rfl ?_
  obtain ⟨g1, h⟩ := gd_some h
  refine zg_oinit (ci := 0) (pc' := 4) zq131 zq25 zq26 zd_Ac_init_1 (by omega) (gT_ok g1) (Nat.le_of_ble_eq_true rfl) rfl ?_
  refine zg_aload_n (pc' := 5) zd_Ac_init_4 rfl rfl ?_
  refine zg_bipush (x := (20 : Int32)) (pc' := 7) zd_Ac_init_5 (by decide) rfl ?_
  obtain ⟨g2, h⟩ := gd_some h
  refine zg_newa (t := 1) (ty := .int) (pc' := 9) rfl (by simp) zq59 zd_Ac_init_7 (gN_ok g2).1 (gN_ok g2).2 rfl ?_
  obtain ⟨S3, eS3, h⟩ := nm_some h
  refine zg_nm eS3 ?_
  obtain ⟨g4, h⟩ := gd_some h
  refine zg_putR (pc' := 12) zf_Ac_11 rfl zd_Ac_init_9 (Or.inr ⟨rfl, _, rfl, rfl⟩) (gT_ok g4) rfl ?_
  obtain ⟨S5, eS5, h⟩ := nm_some h
  refine zg_nm eS5 ?_
  refine zg_aload_n (pc' := 13) zd_Ac_init_12 rfl rfl ?_
  refine zg_iconst (x := (0 : Int32)) (pc' := 14) zd_Ac_init_13 (by decide) rfl ?_
  obtain ⟨g6, h⟩ := gd_some h
  refine zg_putI (pc' := 17) zf_Ac_15 zd_Ac_init_14 (Or.inl rfl) (gT_ok g6) rfl ?_
  obtain ⟨S7, eS7, h⟩ := nm_some h
  refine zg_nm eS7 ?_
  refine zg_aload_n (pc' := 18) zd_Ac_init_17 rfl rfl ?_
  refine zg_new (pc' := 21) zc_Ac_19 zd_Ac_init_18 rfl ?_
  obtain ⟨S8, eS8, h⟩ := nm_some h
  refine zg_nm eS8 ?_
  refine zg_dup (pc' := 22) zd_Ac_init_21 rfl rfl ?_
  refine zg_iconst (x := (0 : Int32)) (pc' := 23) zd_Ac_init_22 (by decide) rfl ?_
  obtain ⟨g9, h⟩ := gd_some h
  obtain ⟨S10, e11, h⟩ := bv_some h
  refine zg_callI (ci := 5) (As := [.int (0 : Int32)]) (rest := [.ref (zN S7), .ref a0]) (pc' := 26) zl_Ac_21 zq135 rfl ⟨_, rfl, rfl⟩ zd_Ac_init_23 rfl rfl (Nat.le_of_ble_eq_true rfl) (by omega) (gT_ok g9) (tm_Sa_init (d := 2) (Nat.le_refl _) e11) rfl ?_
  refine zg_st (st' := [.ref (zN S7), .ref a0]) rfl ?_
  obtain ⟨g12, h⟩ := gd_some h
  refine zg_putR (pc' := 29) zf_Ac_24 rfl zd_Ac_init_26 (Or.inl rfl) (gT_ok g12) rfl ?_
  obtain ⟨S13, eS13, h⟩ := nm_some h
  refine zg_nm eS13 ?_
  obtain rfl := rt_v h
  exact zg_vret zd_Ac_init_29 rfl
theorem zd_Ac_body_0 : decode prog_2_method_4_code 0 = .ok (.aload_n 0, 1) := by decide +kernel
theorem zd_Ac_body_1 : decode prog_2_method_4_code 1 = .ok (.getfield 24, 3) := by decide +kernel
theorem zd_Ac_body_4 : decode prog_2_method_4_code 4 = .ok (.getfield 28, 3) := by decide +kernel
theorem zd_Ac_body_7 : decode prog_2_method_4_code 7 = .ok (.istore 5, 2) := by decide +kernel
theorem zd_Ac_body_9 : decode prog_2_method_4_code 9 = .ok (.iload_n 1, 1) := by decide +kernel
theorem zd_Ac_body_10 : decode prog_2_method_4_code 10 = .ok (.lookupswitch 265 #[(10, 98), (11, 108), (12, 127), (20, 140), (30, 153), (40, 165), (50, 186), (51, 197), (60, 209), (70, 227), (71, 247)], 98) := by decide +kernel
theorem zd_Ac_body_275 : decode prog_2_method_4_code 275 = .ok (.iconst 0, 1) := by decide +kernel
theorem zd_Ac_body_276 : decode prog_2_method_4_code 276 = .ok (.ireturn, 1) := by decide +kernel
theorem zd_Ac_body_257 : decode prog_2_method_4_code 257 = .ok (.aload_n 0, 1) := by decide +kernel
theorem zd_Ac_body_258 : decode prog_2_method_4_code 258 = .ok (.iconst 0, 1) := by decide +kernel
theorem zd_Ac_body_259 : decode prog_2_method_4_code 259 = .ok (.iload_n 2, 1) := by decide +kernel
theorem zd_Ac_body_260 : decode prog_2_method_4_code 260 = .ok (.iload_n 3, 1) := by decide +kernel
theorem zd_Ac_body_261 : decode prog_2_method_4_code 261 = .ok (.iload 4, 2) := by decide +kernel
theorem zd_Ac_body_263 : decode prog_2_method_4_code 263 = .ok (.invokevirtual 31, 3) := by decide +kernel
theorem zd_Ac_body_266 : decode prog_2_method_4_code 266 = .ok (.aload_n 0, 1) := by decide +kernel
theorem zd_Ac_body_267 : decode prog_2_method_4_code 267 = .ok (.getfield 24, 3) := by decide +kernel
theorem zd_Ac_body_270 : decode prog_2_method_4_code 270 = .ok (.getfield 51, 3) := by decide +kernel
theorem zd_Ac_body_273 : decode prog_2_method_4_code 273 = .ok (.ixor, 1) := by decide +kernel
theorem zd_Ac_body_274 : decode prog_2_method_4_code 274 = .ok (.ireturn, 1) := by decide +kernel
theorem zd_Ac_body_237 : decode prog_2_method_4_code 237 = .ok (.aload_n 0, 1) := by decide +kernel
theorem zd_Ac_body_238 : decode prog_2_method_4_code 238 = .ok (.iconst 1, 1) := by decide +kernel
theorem zd_Ac_body_239 : decode prog_2_method_4_code 239 = .ok (.iload_n 2, 1) := by decide +kernel
theorem zd_Ac_body_240 : decode prog_2_method_4_code 240 = .ok (.iload_n 3, 1) := by decide +kernel
theorem zd_Ac_body_241 : decode prog_2_method_4_code 241 = .ok (.iload 4, 2) := by decide +kernel
theorem zd_Ac_body_243 : decode prog_2_method_4_code 243 = .ok (.invokevirtual 31, 3) := by decide +kernel
theorem zd_Ac_body_246 : decode prog_2_method_4_code 246 = .ok (.aload_n 0, 1) := by decide +kernel
theorem zd_Ac_body_247 : decode prog_2_method_4_code 247 = .ok (.iconst 0, 1) := by decide +kernel
theorem zd_Ac_body_248 : decode prog_2_method_4_code 248 = .ok (.iload_n 2, 1) := by decide +kernel
theorem zd_Ac_body_249 : decode prog_2_method_4_code 249 = .ok (.iconst 2, 1) := by decide +kernel
theorem zd_Ac_body_250 : decode prog_2_method_4_code 250 = .ok (.iload 4, 2) := by decide +kernel
theorem zd_Ac_body_252 : decode prog_2_method_4_code 252 = .ok (.invokevirtual 31, 3) := by decide +kernel
theorem zd_Ac_body_255 : decode prog_2_method_4_code 255 = .ok (.iadd, 1) := by decide +kernel
theorem zd_Ac_body_256 : decode prog_2_method_4_code 256 = .ok (.ireturn, 1) := by decide +kernel
theorem zd_Ac_body_219 : decode prog_2_method_4_code 219 = .ok (.aload_n 0, 1) := by decide +kernel
theorem zd_Ac_body_220 : decode prog_2_method_4_code 220 = .ok (.iconst 2, 1) := by decide +kernel
theorem zd_Ac_body_221 : decode prog_2_method_4_code 221 = .ok (.iload_n 2, 1) := by decide +kernel
theorem zd_Ac_body_222 : decode prog_2_method_4_code 222 = .ok (.iload_n 3, 1) := by decide +kernel
theorem zd_Ac_body_223 : decode prog_2_method_4_code 223 = .ok (.aload_n 0, 1) := by decide +kernel
theorem zd_Ac_body_224 : decode prog_2_method_4_code 224 = .ok (.getfield 24, 3) := by decide +kernel
theorem zd_Ac_body_227 : decode prog_2_method_4_code 227 = .ok (.getfield 48, 3) := by decide +kernel
theorem zd_Ac_body_230 : decode prog_2_method_4_code 230 = .ok (.isub, 1) := by decide +kernel
theorem zd_Ac_body_231 : decode prog_2_method_4_code 231 = .ok (.iload 4, 2) := by decide +kernel
theorem zd_Ac_body_233 : decode prog_2_method_4_code 233 = .ok (.invokevirtual 31, 3) := by decide +kernel
theorem zd_Ac_body_236 : decode prog_2_method_4_code 236 = .ok (.ireturn, 1) := by decide +kernel
theorem zd_Ac_body_207 : decode prog_2_method_4_code 207 = .ok (.aload_n 0, 1) := by decide +kernel
theorem zd_Ac_body_208 : decode prog_2_method_4_code 208 = .ok (.iconst 1, 1) := by decide +kernel
theorem zd_Ac_body_209 : decode prog_2_method_4_code 209 = .ok (.iload_n 2, 1) := by decide +kernel
theorem zd_Ac_body_210 : decode prog_2_method_4_code 210 = .ok (.iload_n 3, 1) := by decide +kernel
theorem zd_Ac_body_211 : decode prog_2_method_4_code 211 = .ok (.iconst 1, 1) := by decide +kernel
theorem zd_Ac_body_212 : decode prog_2_method_4_code 212 = .ok (.iadd, 1) := by decide +kernel
theorem zd_Ac_body_213 : decode prog_2_method_4_code 213 = .ok (.iload 4, 2) := by decide +kernel
theorem zd_Ac_body_215 : decode prog_2_method_4_code 215 = .ok (.invokevirtual 31, 3) := by decide +kernel
theorem zd_Ac_body_218 : decode prog_2_method_4_code 218 = .ok (.ireturn, 1) := by decide +kernel
theorem zd_Ac_body_196 : decode prog_2_method_4_code 196 = .ok (.aload_n 0, 1) := by decide +kernel
theorem zd_Ac_body_197 : decode prog_2_method_4_code 197 = .ok (.iconst 0, 1) := by decide +kernel
theorem zd_Ac_body_198 : decode prog_2_method_4_code 198 = .ok (.iload_n 2, 1) := by decide +kernel
theorem zd_Ac_body_199 : decode prog_2_method_4_code 199 = .ok (.iload_n 3, 1) := by decide +kernel
theorem zd_Ac_body_200 : decode prog_2_method_4_code 200 = .ok (.iload 4, 2) := by decide +kernel
theorem zd_Ac_body_202 : decode prog_2_method_4_code 202 = .ok (.invokevirtual 31, 3) := by decide +kernel
theorem zd_Ac_body_205 : decode prog_2_method_4_code 205 = .ok (.ineg, 1) := by decide +kernel
theorem zd_Ac_body_206 : decode prog_2_method_4_code 206 = .ok (.ireturn, 1) := by decide +kernel
theorem zd_Ac_body_175 : decode prog_2_method_4_code 175 = .ok (.aload_n 0, 1) := by decide +kernel
theorem zd_Ac_body_176 : decode prog_2_method_4_code 176 = .ok (.iconst 2, 1) := by decide +kernel
theorem zd_Ac_body_177 : decode prog_2_method_4_code 177 = .ok (.iload_n 2, 1) := by decide +kernel
theorem zd_Ac_body_178 : decode prog_2_method_4_code 178 = .ok (.iload_n 3, 1) := by decide +kernel
theorem zd_Ac_body_179 : decode prog_2_method_4_code 179 = .ok (.iload 4, 2) := by decide +kernel
theorem zd_Ac_body_181 : decode prog_2_method_4_code 181 = .ok (.invokevirtual 31, 3) := by decide +kernel
theorem zd_Ac_body_184 : decode prog_2_method_4_code 184 = .ok (.aload_n 0, 1) := by decide +kernel
theorem zd_Ac_body_185 : decode prog_2_method_4_code 185 = .ok (.iconst 1, 1) := by decide +kernel
theorem zd_Ac_body_186 : decode prog_2_method_4_code 186 = .ok (.iload 5, 2) := by decide +kernel
theorem zd_Ac_body_188 : decode prog_2_method_4_code 188 = .ok (.iconst 1, 1) := by decide +kernel
theorem zd_Ac_body_189 : decode prog_2_method_4_code 189 = .ok (.iload 4, 2) := by decide +kernel
theorem zd_Ac_body_191 : decode prog_2_method_4_code 191 = .ok (.invokevirtual 31, 3) := by decide +kernel
theorem zd_Ac_body_194 : decode prog_2_method_4_code 194 = .ok (.iadd, 1) := by decide +kernel
theorem zd_Ac_body_195 : decode prog_2_method_4_code 195 = .ok (.ireturn, 1) := by decide +kernel
theorem zd_Ac_body_163 : decode prog_2_method_4_code 163 = .ok (.aload_n 0, 1) := by decide +kernel
theorem zd_Ac_body_164 : decode prog_2_method_4_code 164 = .ok (.iconst 0, 1) := by decide +kernel
theorem zd_Ac_body_165 : decode prog_2_method_4_code 165 = .ok (.iload_n 2, 1) := by decide +kernel
theorem zd_Ac_body_166 : decode prog_2_method_4_code 166 = .ok (.iload_n 3, 1) := by decide +kernel
theorem zd_Ac_body_167 : decode prog_2_method_4_code 167 = .ok (.iconst 3, 1) := by decide +kernel
theorem zd_Ac_body_168 : decode prog_2_method_4_code 168 = .ok (.imul, 1) := by decide +kernel
theorem zd_Ac_body_169 : decode prog_2_method_4_code 169 = .ok (.iload 4, 2) := by decide +kernel
theorem zd_Ac_body_171 : decode prog_2_method_4_code 171 = .ok (.invokevirtual 31, 3) := by decide +kernel
theorem zd_Ac_body_174 : decode prog_2_method_4_code 174 = .ok (.ireturn, 1) := by decide +kernel
theorem zd_Ac_body_150 : decode prog_2_method_4_code 150 = .ok (.aload_n 0, 1) := by decide +kernel
theorem zd_Ac_body_151 : decode prog_2_method_4_code 151 = .ok (.iconst 1, 1) := by decide +kernel
theorem zd_Ac_body_152 : decode prog_2_method_4_code 152 = .ok (.iload_n 2, 1) := by decide +kernel
theorem zd_Ac_body_153 : decode prog_2_method_4_code 153 = .ok (.iload_n 3, 1) := by decide +kernel
theorem zd_Ac_body_154 : decode prog_2_method_4_code 154 = .ok (.iload 4, 2) := by decide +kernel
theorem zd_Ac_body_156 : decode prog_2_method_4_code 156 = .ok (.invokevirtual 31, 3) := by decide +kernel
theorem zd_Ac_body_159 : decode prog_2_method_4_code 159 = .ok (.bipush 6, 2) := by decide +kernel
theorem zd_Ac_body_161 : decode prog_2_method_4_code 161 = .ok (.ixor, 1) := by decide +kernel
theorem zd_Ac_body_162 : decode prog_2_method_4_code 162 = .ok (.ireturn, 1) := by decide +kernel
theorem zd_Ac_body_137 : decode prog_2_method_4_code 137 = .ok (.aload_n 0, 1) := by decide +kernel
theorem zd_Ac_body_138 : decode prog_2_method_4_code 138 = .ok (.iconst 1, 1) := by decide +kernel
theorem zd_Ac_body_139 : decode prog_2_method_4_code 139 = .ok (.iload 5, 2) := by decide +kernel
theorem zd_Ac_body_141 : decode prog_2_method_4_code 141 = .ok (.iload_n 3, 1) := by decide +kernel
theorem zd_Ac_body_142 : decode prog_2_method_4_code 142 = .ok (.iload 4, 2) := by decide +kernel
theorem zd_Ac_body_144 : decode prog_2_method_4_code 144 = .ok (.invokevirtual 31, 3) := by decide +kernel
theorem zd_Ac_body_147 : decode prog_2_method_4_code 147 = .ok (.iconst 2, 1) := by decide +kernel
theorem zd_Ac_body_148 : decode prog_2_method_4_code 148 = .ok (.imul, 1) := by decide +kernel
theorem zd_Ac_body_149 : decode prog_2_method_4_code 149 = .ok (.ireturn, 1) := by decide +kernel
theorem zd_Ac_body_118 : decode prog_2_method_4_code 118 = .ok (.aload_n 0, 1) := by decide +kernel
theorem zd_Ac_body_119 : decode prog_2_method_4_code 119 = .ok (.iconst 0, 1) := by decide +kernel
theorem zd_Ac_body_120 : decode prog_2_method_4_code 120 = .ok (.iload 5, 2) := by decide +kernel
theorem zd_Ac_body_122 : decode prog_2_method_4_code 122 = .ok (.iload_n 3, 1) := by decide +kernel
theorem zd_Ac_body_123 : decode prog_2_method_4_code 123 = .ok (.iload 4, 2) := by decide +kernel
theorem zd_Ac_body_125 : decode prog_2_method_4_code 125 = .ok (.invokevirtual 31, 3) := by decide +kernel
theorem zd_Ac_body_128 : decode prog_2_method_4_code 128 = .ok (.aload_n 0, 1) := by decide +kernel
theorem zd_Ac_body_129 : decode prog_2_method_4_code 129 = .ok (.getfield 24, 3) := by decide +kernel
theorem zd_Ac_body_132 : decode prog_2_method_4_code 132 = .ok (.getfield 51, 3) := by decide +kernel
theorem zd_Ac_body_135 : decode prog_2_method_4_code 135 = .ok (.isub, 1) := by decide +kernel
theorem zd_Ac_body_136 : decode prog_2_method_4_code 136 = .ok (.ireturn, 1) := by decide +kernel
theorem zd_Ac_body_108 : decode prog_2_method_4_code 108 = .ok (.iload_n 3, 1) := by decide +kernel
theorem zd_Ac_body_109 : decode prog_2_method_4_code 109 = .ok (.aload_n 0, 1) := by decide +kernel
theorem zd_Ac_body_110 : decode prog_2_method_4_code 110 = .ok (.getfield 24, 3) := by decide +kernel
theorem zd_Ac_body_113 : decode prog_2_method_4_code 113 = .ok (.getfield 48, 3) := by decide +kernel
theorem zd_Ac_body_116 : decode prog_2_method_4_code 116 = .ok (.iadd, 1) := by decide +kernel
theorem zd_Ac_body_117 : decode prog_2_method_4_code 117 = .ok (.ireturn, 1) := by decide +kernel
abbrev zm_Ac_body : zQ := ("LoofahSaints$Acts", prog_2_method_4_code, 6, (Option.some Jvm.ClassFile.FieldType.int), false)
set_option maxRecDepth 100000 in
def fn_Ac_body_o (o0 : Nat → Int32 → Int32 → Int32 → Int32 → zS → Option (Int32 × zS)) (o1 : Nat → Int32 → Int32 → Int32 → Int32 → zS → Option (Int32 × zS)) (a0 : Nat) (a1 : Int32) (a2 : Int32) (a3 : Int32) (a4 : Int32) (S : zS) : Option (Int32 × zS) :=
  gd (gT S a0 100) <|
  gd (gT S (zR S a0 2) 105) <|
  br (decide (a1 = (10 : Int32))) (some ((a3 + (zI S (zR S a0 2) 1)), S)) <|
  br (decide (a1 = (11 : Int32))) (bq (o1 a0 (0 : Int32) (zI S (zR S a0 2) 2) a3 a4 S) fun r7 S5 =>
  gd (gT S5 a0 100) <|
  gd (gT S5 (zR S5 a0 2) 105) <|
  some ((r7 - (zI S5 (zR S5 a0 2) 3)), S5)) <|
  br (decide (a1 = (12 : Int32))) (bq (o1 a0 (1 : Int32) (zI S (zR S a0 2) 2) a3 a4 S) fun r13 S11 =>
  some ((r13 * (2 : Int32)), S11)) <|
  br (decide (a1 = (20 : Int32))) (bq (o1 a0 (1 : Int32) a2 a3 a4 S) fun r17 S15 =>
  some ((r17 ^^^ (6 : Int32)), S15)) <|
  br (decide (a1 = (30 : Int32))) (bq (o1 a0 (0 : Int32) a2 (a3 * (3 : Int32)) a4 S) fun r21 S19 =>
  some (r21, S19)) <|
  br (decide (a1 = (40 : Int32))) (bq (o1 a0 (2 : Int32) a2 a3 a4 S) fun r25 S23 =>
  gd (gT S23 a0 100) <|
  bq (o1 a0 (1 : Int32) (zI S (zR S a0 2) 2) (1 : Int32) a4 S23) fun r29 S27 =>
  some ((r25 + r29), S27)) <|
  br (decide (a1 = (50 : Int32))) (bq (o1 a0 (0 : Int32) a2 a3 a4 S) fun r33 S31 =>
  some ((-r33), S31)) <|
  br (decide (a1 = (51 : Int32))) (bq (o1 a0 (1 : Int32) a2 (a3 + (1 : Int32)) a4 S) fun r37 S35 =>
  some (r37, S35)) <|
  br (decide (a1 = (60 : Int32))) (bq (o1 a0 (2 : Int32) a2 (a3 - (zI S (zR S a0 2) 1)) a4 S) fun r41 S39 =>
  some (r41, S39)) <|
  br (decide (a1 = (70 : Int32))) (bq (o1 a0 (1 : Int32) a2 a3 a4 S) fun r45 S43 =>
  gd (gT S43 a0 100) <|
  bq (o1 a0 (0 : Int32) a2 (2 : Int32) a4 S43) fun r49 S47 =>
  some ((r45 + r49), S47)) <|
  br (decide (a1 = (71 : Int32))) (bq (o1 a0 (0 : Int32) a2 a3 a4 S) fun r53 S51 =>
  gd (gT S51 a0 100) <|
  gd (gT S51 (zR S51 a0 2) 105) <|
  some ((r53 ^^^ (zI S51 (zR S51 a0 2) 3)), S51)) <|
  some ((0 : Int32), S)
set_option maxRecDepth 100000 in
set_option maxHeartbeats 4000000 in
theorem tm_Ac_body_o {X : zXt} {d : Nat} {d' : Nat} (hd : 3 ≤ d ∧ d' + 1 ≤ d) {o0 : Nat → Int32 → Int32 → Int32 → Int32 → zS → Option (Int32 × zS)} (ho0 : ∀ {b0 : Nat} {b1 : Int32} {b2 : Int32} {b3 : Int32} {b4 : Int32} {S : zS} {r : Int32} {S1 : zS}, o0 b0 b1 b2 b3 b4 S = some (r, S1) → zM X zy_Ac_body prog_2_method_4_code 6 (Option.some Jvm.ClassFile.FieldType.int) d' [.ref b0, .int b1, .int b2, .int b3, .int b4] S (some (.int r)) S1) {o1 : Nat → Int32 → Int32 → Int32 → Int32 → zS → Option (Int32 × zS)} (ho1 : ∀ {b0 : Nat} {b1 : Int32} {b2 : Int32} {b3 : Int32} {b4 : Int32} {S : zS} {r : Int32} {S1 : zS}, o1 b0 b1 b2 b3 b4 S = some (r, S1) → zM X zy_Ac_call prog_2_method_3_code 7 (Option.some Jvm.ClassFile.FieldType.int) d' [.ref b0, .int b1, .int b2, .int b3, .int b4] S (some (.int r)) S1) {v : Int32} {a0 : Nat} {a1 : Int32} {a2 : Int32} {a3 : Int32} {a4 : Int32} {S : zS} {S' : zS} (h : fn_Ac_body_o o0 o1 a0 a1 a2 a3 a4 S = some (v, S')) : zM X zy_Ac_body prog_2_method_4_code 6 (Option.some Jvm.ClassFile.FieldType.int) d [.ref a0, .int a1, .int a2, .int a3, .int a4] S (some (.int v)) S' := by
  refine zM_of (ini := false) (L := [some (.ref a0), some (.int a1), some (.int a2), some (.int a3), some (.int a4), none]) (plainFor_of_name (by decide)) (fun h => by cases h) (Nat.le_of_ble_eq_true rfl) rfl ?_
  have hd1 := hd.1
  have hd2 := hd.2
  unfold fn_Ac_body_o at h
  refine zg_aload_n (pc' := 1) zd_Ac_body_0 rfl rfl ?_
  obtain ⟨g1, h⟩ := gd_some h
  refine zg_getR (pc' := 4) zf_Ac_24 rfl zd_Ac_body_1 (gT_ok g1) rfl ?_
  obtain ⟨g2, h⟩ := gd_some h
  refine zg_getI (pc' := 7) zf_Ac_28 zd_Ac_body_4 (gT_ok g2) rfl ?_
  refine zg_istore (L' := [some (.ref a0), some (.int a1), some (.int a2), some (.int a3), some (.int a4), some (.int (zI S (zR S a0 2) 2))]) (pc' := 9) zd_Ac_body_7 (by decide) rfl rfl ?_
  refine zg_iload_n (pc' := 10) zd_Ac_body_9 rfl rfl ?_
  rcases br_some h with ⟨c3, h⟩ | ⟨c3, h⟩
  · refine zg_lookI (tgt := 108) (10 : Int32) zd_Ac_body_10 (by decide) c3 rfl (by decide) ?_
    refine zg_iload_n (pc' := 109) zd_Ac_body_108 rfl rfl ?_
    refine zg_aload_n (pc' := 110) zd_Ac_body_109 rfl rfl ?_
    refine zg_getR (pc' := 113) zf_Ac_24 rfl zd_Ac_body_110 (gT_ok g1) rfl ?_
    refine zg_getI (pc' := 116) zf_Ac_48 zd_Ac_body_113 (gT_ok g2) rfl ?_
    refine zg_iadd (pc' := 117) zd_Ac_body_116 rfl ?_
    obtain ⟨rfl, rfl⟩ := rt_q h
    exact zg_iret zd_Ac_body_117 zrt_i
  rcases br_some h with ⟨c4, h⟩ | ⟨c4, h⟩
  · refine zg_lookI (tgt := 118) (11 : Int32) zd_Ac_body_10 (by decide) c4 rfl (by decide) ?_
    refine zg_aload_n (pc' := 119) zd_Ac_body_118 rfl rfl ?_
    refine zg_iconst (x := (0 : Int32)) (pc' := 120) zd_Ac_body_119 (by decide) rfl ?_
    refine zg_iload (pc' := 122) zd_Ac_body_120 rfl rfl ?_
    refine zg_iload_n (pc' := 123) zd_Ac_body_122 rfl rfl ?_
    refine zg_iload (pc' := 125) zd_Ac_body_123 rfl rfl ?_
    obtain ⟨r7, S5, e6, h⟩ := bq_some h
    refine zg_callV (ci := 0) (As := [.int (0 : Int32), .int (zI S (zR S a0 2) 2), .int a3, .int a4]) (rest := []) (pc' := 128) zl_Ac_31 zq737 zqp9 ⟨_, rfl, rfl⟩ zd_Ac_body_125 rfl rfl (Nat.le_of_ble_eq_true rfl) (by omega) (gT_ok g1) (ho1 e6) rfl ?_
    refine zg_st (st' := [.int r7]) rfl ?_
    refine zg_aload_n (pc' := 129) zd_Ac_body_128 rfl rfl ?_
    obtain ⟨g8, h⟩ := gd_some h
    refine zg_getR (pc' := 132) zf_Ac_24 rfl zd_Ac_body_129 (gT_ok g8) rfl ?_
    obtain ⟨g9, h⟩ := gd_some h
    refine zg_getI (pc' := 135) zf_Ac_51 zd_Ac_body_132 (gT_ok g9) rfl ?_
    refine zg_isub (pc' := 136) zd_Ac_body_135 rfl ?_
    obtain ⟨rfl, rfl⟩ := rt_q h
    exact zg_iret zd_Ac_body_136 zrt_i
  rcases br_some h with ⟨c10, h⟩ | ⟨c10, h⟩
  · refine zg_lookI (tgt := 137) (12 : Int32) zd_Ac_body_10 (by decide) c10 rfl (by decide) ?_
    refine zg_aload_n (pc' := 138) zd_Ac_body_137 rfl rfl ?_
    refine zg_iconst (x := (1 : Int32)) (pc' := 139) zd_Ac_body_138 (by decide) rfl ?_
    refine zg_iload (pc' := 141) zd_Ac_body_139 rfl rfl ?_
    refine zg_iload_n (pc' := 142) zd_Ac_body_141 rfl rfl ?_
    refine zg_iload (pc' := 144) zd_Ac_body_142 rfl rfl ?_
    obtain ⟨r13, S11, e12, h⟩ := bq_some h
    refine zg_callV (ci := 0) (As := [.int (1 : Int32), .int (zI S (zR S a0 2) 2), .int a3, .int a4]) (rest := []) (pc' := 147) zl_Ac_31 zq737 zqp9 ⟨_, rfl, rfl⟩ zd_Ac_body_144 rfl rfl (Nat.le_of_ble_eq_true rfl) (by omega) (gT_ok g1) (ho1 e12) rfl ?_
    refine zg_st (st' := [.int r13]) rfl ?_
    refine zg_iconst (x := (2 : Int32)) (pc' := 148) zd_Ac_body_147 (by decide) rfl ?_
    refine zg_imul (pc' := 149) zd_Ac_body_148 rfl ?_
    obtain ⟨rfl, rfl⟩ := rt_q h
    exact zg_iret zd_Ac_body_149 zrt_i
  rcases br_some h with ⟨c14, h⟩ | ⟨c14, h⟩
  · refine zg_lookI (tgt := 150) (20 : Int32) zd_Ac_body_10 (by decide) c14 rfl (by decide) ?_
    refine zg_aload_n (pc' := 151) zd_Ac_body_150 rfl rfl ?_
    refine zg_iconst (x := (1 : Int32)) (pc' := 152) zd_Ac_body_151 (by decide) rfl ?_
    refine zg_iload_n (pc' := 153) zd_Ac_body_152 rfl rfl ?_
    refine zg_iload_n (pc' := 154) zd_Ac_body_153 rfl rfl ?_
    refine zg_iload (pc' := 156) zd_Ac_body_154 rfl rfl ?_
    obtain ⟨r17, S15, e16, h⟩ := bq_some h
    refine zg_callV (ci := 0) (As := [.int (1 : Int32), .int a2, .int a3, .int a4]) (rest := []) (pc' := 159) zl_Ac_31 zq737 zqp9 ⟨_, rfl, rfl⟩ zd_Ac_body_156 rfl rfl (Nat.le_of_ble_eq_true rfl) (by omega) (gT_ok g1) (ho1 e16) rfl ?_
    refine zg_st (st' := [.int r17]) rfl ?_
    refine zg_bipush (x := (6 : Int32)) (pc' := 161) zd_Ac_body_159 (by decide) rfl ?_
    refine zg_ixor (pc' := 162) zd_Ac_body_161 rfl ?_
    obtain ⟨rfl, rfl⟩ := rt_q h
    exact zg_iret zd_Ac_body_162 zrt_i
  rcases br_some h with ⟨c18, h⟩ | ⟨c18, h⟩
  · refine zg_lookI (tgt := 163) (30 : Int32) zd_Ac_body_10 (by decide) c18 rfl (by decide) ?_
    refine zg_aload_n (pc' := 164) zd_Ac_body_163 rfl rfl ?_
    refine zg_iconst (x := (0 : Int32)) (pc' := 165) zd_Ac_body_164 (by decide) rfl ?_
    refine zg_iload_n (pc' := 166) zd_Ac_body_165 rfl rfl ?_
    refine zg_iload_n (pc' := 167) zd_Ac_body_166 rfl rfl ?_
    refine zg_iconst (x := (3 : Int32)) (pc' := 168) zd_Ac_body_167 (by decide) rfl ?_
    refine zg_imul (pc' := 169) zd_Ac_body_168 rfl ?_
    refine zg_iload (pc' := 171) zd_Ac_body_169 rfl rfl ?_
    obtain ⟨r21, S19, e20, h⟩ := bq_some h
    refine zg_callV (ci := 0) (As := [.int (0 : Int32), .int a2, .int (a3 * (3 : Int32)), .int a4]) (rest := []) (pc' := 174) zl_Ac_31 zq737 zqp9 ⟨_, rfl, rfl⟩ zd_Ac_body_171 rfl rfl (Nat.le_of_ble_eq_true rfl) (by omega) (gT_ok g1) (ho1 e20) rfl ?_
    refine zg_st (st' := [.int r21]) rfl ?_
    obtain ⟨rfl, rfl⟩ := rt_q h
    exact zg_iret zd_Ac_body_174 zrt_i
  rcases br_some h with ⟨c22, h⟩ | ⟨c22, h⟩
  · refine zg_lookI (tgt := 175) (40 : Int32) zd_Ac_body_10 (by decide) c22 rfl (by decide) ?_
    refine zg_aload_n (pc' := 176) zd_Ac_body_175 rfl rfl ?_
    refine zg_iconst (x := (2 : Int32)) (pc' := 177) zd_Ac_body_176 (by decide) rfl ?_
    refine zg_iload_n (pc' := 178) zd_Ac_body_177 rfl rfl ?_
    refine zg_iload_n (pc' := 179) zd_Ac_body_178 rfl rfl ?_
    refine zg_iload (pc' := 181) zd_Ac_body_179 rfl rfl ?_
    obtain ⟨r25, S23, e24, h⟩ := bq_some h
    refine zg_callV (ci := 0) (As := [.int (2 : Int32), .int a2, .int a3, .int a4]) (rest := []) (pc' := 184) zl_Ac_31 zq737 zqp9 ⟨_, rfl, rfl⟩ zd_Ac_body_181 rfl rfl (Nat.le_of_ble_eq_true rfl) (by omega) (gT_ok g1) (ho1 e24) rfl ?_
    refine zg_st (st' := [.int r25]) rfl ?_
    refine zg_aload_n (pc' := 185) zd_Ac_body_184 rfl rfl ?_
    refine zg_iconst (x := (1 : Int32)) (pc' := 186) zd_Ac_body_185 (by decide) rfl ?_
    refine zg_iload (pc' := 188) zd_Ac_body_186 rfl rfl ?_
    refine zg_iconst (x := (1 : Int32)) (pc' := 189) zd_Ac_body_188 (by decide) rfl ?_
    refine zg_iload (pc' := 191) zd_Ac_body_189 rfl rfl ?_
    obtain ⟨g26, h⟩ := gd_some h
    obtain ⟨r29, S27, e28, h⟩ := bq_some h
    refine zg_callV (ci := 0) (As := [.int (1 : Int32), .int (zI S (zR S a0 2) 2), .int (1 : Int32), .int a4]) (rest := [.int r25]) (pc' := 194) zl_Ac_31 zq737 zqp9 ⟨_, rfl, rfl⟩ zd_Ac_body_191 rfl rfl (Nat.le_of_ble_eq_true rfl) (by omega) (gT_ok g26) (ho1 e28) rfl ?_
    refine zg_st (st' := [.int r29, .int r25]) rfl ?_
    refine zg_iadd (pc' := 195) zd_Ac_body_194 rfl ?_
    obtain ⟨rfl, rfl⟩ := rt_q h
    exact zg_iret zd_Ac_body_195 zrt_i
  rcases br_some h with ⟨c30, h⟩ | ⟨c30, h⟩
  · refine zg_lookI (tgt := 196) (50 : Int32) zd_Ac_body_10 (by decide) c30 rfl (by decide) ?_
    refine zg_aload_n (pc' := 197) zd_Ac_body_196 rfl rfl ?_
    refine zg_iconst (x := (0 : Int32)) (pc' := 198) zd_Ac_body_197 (by decide) rfl ?_
    refine zg_iload_n (pc' := 199) zd_Ac_body_198 rfl rfl ?_
    refine zg_iload_n (pc' := 200) zd_Ac_body_199 rfl rfl ?_
    refine zg_iload (pc' := 202) zd_Ac_body_200 rfl rfl ?_
    obtain ⟨r33, S31, e32, h⟩ := bq_some h
    refine zg_callV (ci := 0) (As := [.int (0 : Int32), .int a2, .int a3, .int a4]) (rest := []) (pc' := 205) zl_Ac_31 zq737 zqp9 ⟨_, rfl, rfl⟩ zd_Ac_body_202 rfl rfl (Nat.le_of_ble_eq_true rfl) (by omega) (gT_ok g1) (ho1 e32) rfl ?_
    refine zg_st (st' := [.int r33]) rfl ?_
    refine zg_ineg (pc' := 206) zd_Ac_body_205 rfl ?_
    obtain ⟨rfl, rfl⟩ := rt_q h
    exact zg_iret zd_Ac_body_206 zrt_i
  rcases br_some h with ⟨c34, h⟩ | ⟨c34, h⟩
  · refine zg_lookI (tgt := 207) (51 : Int32) zd_Ac_body_10 (by decide) c34 rfl (by decide) ?_
    refine zg_aload_n (pc' := 208) zd_Ac_body_207 rfl rfl ?_
    refine zg_iconst (x := (1 : Int32)) (pc' := 209) zd_Ac_body_208 (by decide) rfl ?_
    refine zg_iload_n (pc' := 210) zd_Ac_body_209 rfl rfl ?_
    refine zg_iload_n (pc' := 211) zd_Ac_body_210 rfl rfl ?_
    refine zg_iconst (x := (1 : Int32)) (pc' := 212) zd_Ac_body_211 (by decide) rfl ?_
    refine zg_iadd (pc' := 213) zd_Ac_body_212 rfl ?_
    refine zg_iload (pc' := 215) zd_Ac_body_213 rfl rfl ?_
    obtain ⟨r37, S35, e36, h⟩ := bq_some h
    refine zg_callV (ci := 0) (As := [.int (1 : Int32), .int a2, .int (a3 + (1 : Int32)), .int a4]) (rest := []) (pc' := 218) zl_Ac_31 zq737 zqp9 ⟨_, rfl, rfl⟩ zd_Ac_body_215 rfl rfl (Nat.le_of_ble_eq_true rfl) (by omega) (gT_ok g1) (ho1 e36) rfl ?_
    refine zg_st (st' := [.int r37]) rfl ?_
    obtain ⟨rfl, rfl⟩ := rt_q h
    exact zg_iret zd_Ac_body_218 zrt_i
  rcases br_some h with ⟨c38, h⟩ | ⟨c38, h⟩
  · refine zg_lookI (tgt := 219) (60 : Int32) zd_Ac_body_10 (by decide) c38 rfl (by decide) ?_
    refine zg_aload_n (pc' := 220) zd_Ac_body_219 rfl rfl ?_
    refine zg_iconst (x := (2 : Int32)) (pc' := 221) zd_Ac_body_220 (by decide) rfl ?_
    refine zg_iload_n (pc' := 222) zd_Ac_body_221 rfl rfl ?_
    refine zg_iload_n (pc' := 223) zd_Ac_body_222 rfl rfl ?_
    refine zg_aload_n (pc' := 224) zd_Ac_body_223 rfl rfl ?_
    refine zg_getR (pc' := 227) zf_Ac_24 rfl zd_Ac_body_224 (gT_ok g1) rfl ?_
    refine zg_getI (pc' := 230) zf_Ac_48 zd_Ac_body_227 (gT_ok g2) rfl ?_
    refine zg_isub (pc' := 231) zd_Ac_body_230 rfl ?_
    refine zg_iload (pc' := 233) zd_Ac_body_231 rfl rfl ?_
    obtain ⟨r41, S39, e40, h⟩ := bq_some h
    refine zg_callV (ci := 0) (As := [.int (2 : Int32), .int a2, .int (a3 - (zI S (zR S a0 2) 1)), .int a4]) (rest := []) (pc' := 236) zl_Ac_31 zq737 zqp9 ⟨_, rfl, rfl⟩ zd_Ac_body_233 rfl rfl (Nat.le_of_ble_eq_true rfl) (by omega) (gT_ok g1) (ho1 e40) rfl ?_
    refine zg_st (st' := [.int r41]) rfl ?_
    obtain ⟨rfl, rfl⟩ := rt_q h
    exact zg_iret zd_Ac_body_236 zrt_i
  rcases br_some h with ⟨c42, h⟩ | ⟨c42, h⟩
  · refine zg_lookI (tgt := 237) (70 : Int32) zd_Ac_body_10 (by decide) c42 rfl (by decide) ?_
    refine zg_aload_n (pc' := 238) zd_Ac_body_237 rfl rfl ?_
    refine zg_iconst (x := (1 : Int32)) (pc' := 239) zd_Ac_body_238 (by decide) rfl ?_
    refine zg_iload_n (pc' := 240) zd_Ac_body_239 rfl rfl ?_
    refine zg_iload_n (pc' := 241) zd_Ac_body_240 rfl rfl ?_
    refine zg_iload (pc' := 243) zd_Ac_body_241 rfl rfl ?_
    obtain ⟨r45, S43, e44, h⟩ := bq_some h
    refine zg_callV (ci := 0) (As := [.int (1 : Int32), .int a2, .int a3, .int a4]) (rest := []) (pc' := 246) zl_Ac_31 zq737 zqp9 ⟨_, rfl, rfl⟩ zd_Ac_body_243 rfl rfl (Nat.le_of_ble_eq_true rfl) (by omega) (gT_ok g1) (ho1 e44) rfl ?_
    refine zg_st (st' := [.int r45]) rfl ?_
    refine zg_aload_n (pc' := 247) zd_Ac_body_246 rfl rfl ?_
    refine zg_iconst (x := (0 : Int32)) (pc' := 248) zd_Ac_body_247 (by decide) rfl ?_
    refine zg_iload_n (pc' := 249) zd_Ac_body_248 rfl rfl ?_
    refine zg_iconst (x := (2 : Int32)) (pc' := 250) zd_Ac_body_249 (by decide) rfl ?_
    refine zg_iload (pc' := 252) zd_Ac_body_250 rfl rfl ?_
    obtain ⟨g46, h⟩ := gd_some h
    obtain ⟨r49, S47, e48, h⟩ := bq_some h
    refine zg_callV (ci := 0) (As := [.int (0 : Int32), .int a2, .int (2 : Int32), .int a4]) (rest := [.int r45]) (pc' := 255) zl_Ac_31 zq737 zqp9 ⟨_, rfl, rfl⟩ zd_Ac_body_252 rfl rfl (Nat.le_of_ble_eq_true rfl) (by omega) (gT_ok g46) (ho1 e48) rfl ?_
    refine zg_st (st' := [.int r49, .int r45]) rfl ?_
    refine zg_iadd (pc' := 256) zd_Ac_body_255 rfl ?_
    obtain ⟨rfl, rfl⟩ := rt_q h
    exact zg_iret zd_Ac_body_256 zrt_i
  rcases br_some h with ⟨c50, h⟩ | ⟨c50, h⟩
  · refine zg_lookI (tgt := 257) (71 : Int32) zd_Ac_body_10 (by decide) c50 rfl (by decide) ?_
    refine zg_aload_n (pc' := 258) zd_Ac_body_257 rfl rfl ?_
    refine zg_iconst (x := (0 : Int32)) (pc' := 259) zd_Ac_body_258 (by decide) rfl ?_
    refine zg_iload_n (pc' := 260) zd_Ac_body_259 rfl rfl ?_
    refine zg_iload_n (pc' := 261) zd_Ac_body_260 rfl rfl ?_
    refine zg_iload (pc' := 263) zd_Ac_body_261 rfl rfl ?_
    obtain ⟨r53, S51, e52, h⟩ := bq_some h
    refine zg_callV (ci := 0) (As := [.int (0 : Int32), .int a2, .int a3, .int a4]) (rest := []) (pc' := 266) zl_Ac_31 zq737 zqp9 ⟨_, rfl, rfl⟩ zd_Ac_body_263 rfl rfl (Nat.le_of_ble_eq_true rfl) (by omega) (gT_ok g1) (ho1 e52) rfl ?_
    refine zg_st (st' := [.int r53]) rfl ?_
    refine zg_aload_n (pc' := 267) zd_Ac_body_266 rfl rfl ?_
    obtain ⟨g54, h⟩ := gd_some h
    refine zg_getR (pc' := 270) zf_Ac_24 rfl zd_Ac_body_267 (gT_ok g54) rfl ?_
    obtain ⟨g55, h⟩ := gd_some h
    refine zg_getI (pc' := 273) zf_Ac_51 zd_Ac_body_270 (gT_ok g55) rfl ?_
    refine zg_ixor (pc' := 274) zd_Ac_body_273 rfl ?_
    obtain ⟨rfl, rfl⟩ := rt_q h
    exact zg_iret zd_Ac_body_274 zrt_i
  refine zg_lookD (tgt := 275) [(10 : Int32), (11 : Int32), (12 : Int32), (20 : Int32), (30 : Int32), (40 : Int32), (50 : Int32), (51 : Int32), (60 : Int32), (70 : Int32), (71 : Int32)] zd_Ac_body_10 (by decide) (by decide) (List.forall_mem_cons.mpr ⟨c3, List.forall_mem_cons.mpr ⟨c4, List.forall_mem_cons.mpr ⟨c10, List.forall_mem_cons.mpr ⟨c14, List.forall_mem_cons.mpr ⟨c18, List.forall_mem_cons.mpr ⟨c22, List.forall_mem_cons.mpr ⟨c30, List.forall_mem_cons.mpr ⟨c34, List.forall_mem_cons.mpr ⟨c38, List.forall_mem_cons.mpr ⟨c42, List.forall_mem_cons.mpr ⟨c50, fun _ h => absurd h List.not_mem_nil⟩⟩⟩⟩⟩⟩⟩⟩⟩⟩⟩) (by decide) ?_
  refine zg_iconst (x := (0 : Int32)) (pc' := 276) zd_Ac_body_275 (by decide) rfl ?_
  obtain ⟨rfl, rfl⟩ := rt_q h
  exact zg_iret zd_Ac_body_276 zrt_i
theorem zd_Ac_call_0 : decode prog_2_method_3_code 0 = .ok (.iload_n 2, 1) := by decide +kernel
theorem zd_Ac_call_1 : decode prog_2_method_3_code 1 = .ok (.istore 5, 2) := by decide +kernel
theorem zd_Ac_call_3 : decode prog_2_method_3_code 3 = .ok (.iconst 0, 1) := by decide +kernel
theorem zd_Ac_call_4 : decode prog_2_method_3_code 4 = .ok (.istore 6, 2) := by decide +kernel
theorem zd_Ac_call_6 : decode prog_2_method_3_code 6 = .ok (.iload 6, 2) := by decide +kernel
theorem zd_Ac_call_8 : decode prog_2_method_3_code 8 = .ok (.bipush 7, 2) := by decide +kernel
theorem zd_Ac_call_10 : decode prog_2_method_3_code 10 = .ok (.if_icmp .ge 38, 3) := by decide +kernel
theorem zd_Ac_call_13 : decode prog_2_method_3_code 13 = .ok (.iload 5, 2) := by decide +kernel
theorem zd_Ac_call_15 : decode prog_2_method_3_code 15 = .ok (.invokestatic 35, 3) := by decide +kernel
theorem zd_Ac_call_18 : decode prog_2_method_3_code 18 = .ok (.ifCond .eq 30, 3) := by decide +kernel
theorem zd_Ac_call_21 : decode prog_2_method_3_code 21 = .ok (.getstatic 39, 3) := by decide +kernel
theorem zd_Ac_call_24 : decode prog_2_method_3_code 24 = .ok (.iload 5, 2) := by decide +kernel
theorem zd_Ac_call_26 : decode prog_2_method_3_code 26 = .ok (.iconst 3, 1) := by decide +kernel
theorem zd_Ac_call_27 : decode prog_2_method_3_code 27 = .ok (.imul, 1) := by decide +kernel
theorem zd_Ac_call_28 : decode prog_2_method_3_code 28 = .ok (.iload_n 1, 1) := by decide +kernel
theorem zd_Ac_call_29 : decode prog_2_method_3_code 29 = .ok (.iadd, 1) := by decide +kernel
theorem zd_Ac_call_30 : decode prog_2_method_3_code 30 = .ok (.iaload, 1) := by decide +kernel
theorem zd_Ac_call_31 : decode prog_2_method_3_code 31 = .ok (.ifCond .ne 17, 3) := by decide +kernel
theorem zd_Ac_call_48 : decode prog_2_method_3_code 48 = .ok (.iload 5, 2) := by decide +kernel
theorem zd_Ac_call_50 : decode prog_2_method_3_code 50 = .ok (.invokestatic 35, 3) := by decide +kernel
theorem zd_Ac_call_53 : decode prog_2_method_3_code 53 = .ok (.ifCond .eq 10, 3) := by decide +kernel
theorem zd_Ac_call_56 : decode prog_2_method_3_code 56 = .ok (.iload 4, 2) := by decide +kernel
theorem zd_Ac_call_58 : decode prog_2_method_3_code 58 = .ok (.bipush 40, 2) := by decide +kernel
theorem zd_Ac_call_60 : decode prog_2_method_3_code 60 = .ok (.if_icmp .le 5, 3) := by decide +kernel
theorem zd_Ac_call_65 : decode prog_2_method_3_code 65 = .ok (.getstatic 39, 3) := by decide +kernel
theorem zd_Ac_call_68 : decode prog_2_method_3_code 68 = .ok (.iload 5, 2) := by decide +kernel
theorem zd_Ac_call_70 : decode prog_2_method_3_code 70 = .ok (.iconst 3, 1) := by decide +kernel
theorem zd_Ac_call_71 : decode prog_2_method_3_code 71 = .ok (.imul, 1) := by decide +kernel
theorem zd_Ac_call_72 : decode prog_2_method_3_code 72 = .ok (.iload_n 1, 1) := by decide +kernel
theorem zd_Ac_call_73 : decode prog_2_method_3_code 73 = .ok (.iadd, 1) := by decide +kernel
theorem zd_Ac_call_74 : decode prog_2_method_3_code 74 = .ok (.iaload, 1) := by decide +kernel
theorem zd_Ac_call_75 : decode prog_2_method_3_code 75 = .ok (.istore 6, 2) := by decide +kernel
theorem zd_Ac_call_77 : decode prog_2_method_3_code 77 = .ok (.aload_n 0, 1) := by decide +kernel
theorem zd_Ac_call_78 : decode prog_2_method_3_code 78 = .ok (.getfield 15, 3) := by decide +kernel
theorem zd_Ac_call_81 : decode prog_2_method_3_code 81 = .ok (.bipush 20, 2) := by decide +kernel
theorem zd_Ac_call_83 : decode prog_2_method_3_code 83 = .ok (.if_icmp .ge 14, 3) := by decide +kernel
theorem zd_Ac_call_86 : decode prog_2_method_3_code 86 = .ok (.aload_n 0, 1) := by decide +kernel
theorem zd_Ac_call_87 : decode prog_2_method_3_code 87 = .ok (.getfield 11, 3) := by decide +kernel
theorem zd_Ac_call_90 : decode prog_2_method_3_code 90 = .ok (.aload_n 0, 1) := by decide +kernel
theorem zd_Ac_call_91 : decode prog_2_method_3_code 91 = .ok (.getfield 15, 3) := by decide +kernel
theorem zd_Ac_call_94 : decode prog_2_method_3_code 94 = .ok (.iload 6, 2) := by decide +kernel
theorem zd_Ac_call_96 : decode prog_2_method_3_code 96 = .ok (.iastore, 1) := by decide +kernel
theorem zd_Ac_call_97 : decode prog_2_method_3_code 97 = .ok (.aload_n 0, 1) := by decide +kernel
theorem zd_Ac_call_98 : decode prog_2_method_3_code 98 = .ok (.dup, 1) := by decide +kernel
theorem zd_Ac_call_99 : decode prog_2_method_3_code 99 = .ok (.getfield 15, 3) := by decide +kernel
theorem zd_Ac_call_102 : decode prog_2_method_3_code 102 = .ok (.iconst 1, 1) := by decide +kernel
theorem zd_Ac_call_103 : decode prog_2_method_3_code 103 = .ok (.iadd, 1) := by decide +kernel
theorem zd_Ac_call_104 : decode prog_2_method_3_code 104 = .ok (.putfield 15, 3) := by decide +kernel
theorem zd_Ac_call_107 : decode prog_2_method_3_code 107 = .ok (.aload_n 0, 1) := by decide +kernel
theorem zd_Ac_call_108 : decode prog_2_method_3_code 108 = .ok (.iload 6, 2) := by decide +kernel
theorem zd_Ac_call_110 : decode prog_2_method_3_code 110 = .ok (.getstatic 42, 3) := by decide +kernel
theorem zd_Ac_call_113 : decode prog_2_method_3_code 113 = .ok (.iload 5, 2) := by decide +kernel
theorem zd_Ac_call_115 : decode prog_2_method_3_code 115 = .ok (.iaload, 1) := by decide +kernel
theorem zd_Ac_call_116 : decode prog_2_method_3_code 116 = .ok (.iload_n 3, 1) := by decide +kernel
theorem zd_Ac_call_117 : decode prog_2_method_3_code 117 = .ok (.iload 4, 2) := by decide +kernel
theorem zd_Ac_call_119 : decode prog_2_method_3_code 119 = .ok (.iconst 1, 1) := by decide +kernel
theorem zd_Ac_call_120 : decode prog_2_method_3_code 120 = .ok (.iadd, 1) := by decide +kernel
theorem zd_Ac_call_121 : decode prog_2_method_3_code 121 = .ok (.invokevirtual 45, 3) := by decide +kernel
theorem zd_Ac_call_124 : decode prog_2_method_3_code 124 = .ok (.ireturn, 1) := by decide +kernel
theorem zd_Ac_call_63 : decode prog_2_method_3_code 63 = .ok (.iconst 0, 1) := by decide +kernel
theorem zd_Ac_call_64 : decode prog_2_method_3_code 64 = .ok (.ireturn, 1) := by decide +kernel
theorem zd_Ac_call_34 : decode prog_2_method_3_code 34 = .ok (.getstatic 42, 3) := by decide +kernel
theorem zd_Ac_call_37 : decode prog_2_method_3_code 37 = .ok (.iload 5, 2) := by decide +kernel
theorem zd_Ac_call_39 : decode prog_2_method_3_code 39 = .ok (.iaload, 1) := by decide +kernel
theorem zd_Ac_call_40 : decode prog_2_method_3_code 40 = .ok (.istore 5, 2) := by decide +kernel
theorem zd_Ac_call_42 : decode prog_2_method_3_code 42 = .ok (.iinc 6 1, 3) := by decide +kernel
theorem zd_Ac_call_45 : decode prog_2_method_3_code 45 = .ok (.goto (-39), 3) := by decide +kernel
abbrev zm_Ac_call : zQ := ("LoofahSaints$Acts", prog_2_method_3_code, 7, (Option.some Jvm.ClassFile.FieldType.int), false)
set_option maxRecDepth 100000 in
def fn_Ac_call_L97 (o0 : Nat → Int32 → Int32 → Int32 → Int32 → zS → Option (Int32 × zS)) (o1 : Nat → Int32 → Int32 → Int32 → Int32 → zS → Option (Int32 × zS)) (a0 : Nat) (a3 : Int32) (a4 : Int32) (a5 : Int32) (a6 : Int32) (S : zS) : Option (Int32 × zS) :=
  gd (gT S a0 100) <|
  nm (uI S a0 1 ((zI S a0 1) + (1 : Int32))) fun S2 =>
  gd (gT S2 1 1) <|
  gd (gB a5 (zT S2 1).2) <|
  gd (gT S2 a0 100) <|
  bq (o0 a0 a6 (zI S2 1 a5.toNatClampNeg) a3 (a4 + (1 : Int32)) S2) fun r8 S6 =>
  some (r8, S6)
set_option maxRecDepth 100000 in
set_option maxHeartbeats 4000000 in
theorem tm_Ac_call_L97 {X : zXt} {d : Nat} {d' : Nat} (hd : 3 ≤ d ∧ d' + 1 ≤ d) {o0 : Nat → Int32 → Int32 → Int32 → Int32 → zS → Option (Int32 × zS)} (ho0 : ∀ {b0 : Nat} {b1 : Int32} {b2 : Int32} {b3 : Int32} {b4 : Int32} {S : zS} {r : Int32} {S1 : zS}, o0 b0 b1 b2 b3 b4 S = some (r, S1) → zM X zy_Ac_body prog_2_method_4_code 6 (Option.some Jvm.ClassFile.FieldType.int) d' [.ref b0, .int b1, .int b2, .int b3, .int b4] S (some (.int r)) S1) {o1 : Nat → Int32 → Int32 → Int32 → Int32 → zS → Option (Int32 × zS)} (ho1 : ∀ {b0 : Nat} {b1 : Int32} {b2 : Int32} {b3 : Int32} {b4 : Int32} {S : zS} {r : Int32} {S1 : zS}, o1 b0 b1 b2 b3 b4 S = some (r, S1) → zM X zy_Ac_call prog_2_method_3_code 7 (Option.some Jvm.ClassFile.FieldType.int) d' [.ref b0, .int b1, .int b2, .int b3, .int b4] S (some (.int r)) S1) {v : Int32} {S' : zS}  {a0 : Nat} {a3 : Int32} {a4 : Int32} {a5 : Int32} {a6 : Int32} {S : zS} (h : fn_Ac_call_L97 o0 o1 a0 a3 a4 a5 a6 S = some (v, S')) : zG X zm_Ac_call d 97 [some (.ref a0), none, none, some (.int a3), some (.int a4), some (.int a5), some (.int a6)] [] S (some (.int v)) S' := by
  have hd1 := hd.1
  have hd2 := hd.2
  unfold fn_Ac_call_L97 at h
  refine zg_aload_n (pc' := 98) zd_Ac_call_97 rfl rfl ?_
  refine zg_dup (pc' := 99) zd_Ac_call_98 rfl rfl ?_
  obtain ⟨g1, h⟩ := gd_some h
  refine zg_getI (pc' := 102) zf_Ac_15 zd_Ac_call_99 (gT_ok g1) rfl ?_
  refine zg_iconst (x := (1 : Int32)) (pc' := 103) zd_Ac_call_102 (by decide) rfl ?_
  refine zg_iadd (pc' := 104) zd_Ac_call_103 rfl ?_
  refine zg_putI (pc' := 107) zf_Ac_15 zd_Ac_call_104 (Or.inl rfl) (gT_ok g1) rfl ?_
  obtain ⟨S2, eS2, h⟩ := nm_some h
  refine zg_nm eS2 ?_
  refine zg_aload_n (pc' := 108) zd_Ac_call_107 rfl rfl ?_
  refine zg_iload (pc' := 110) zd_Ac_call_108 rfl rfl ?_
  refine zg_gs0 (w := .ref 1) (pc' := 113) zk_above (Or.inr ⟨_, .tail _ (.tail _ (.tail _ (.tail _ (.tail _ (.tail _ (.tail _ (.tail _ (.head _))))))))⟩) zd_Ac_call_110 rfl ?_
  refine zg_iload (pc' := 115) zd_Ac_call_113 rfl rfl ?_
  obtain ⟨g3, h⟩ := gd_some h
  obtain ⟨g4, h⟩ := gd_some h
  refine zg_iald (pc' := 116) zd_Ac_call_115 (gT_ok g3) (gB_ok g4) rfl ?_
  refine zg_iload_n (pc' := 117) zd_Ac_call_116 rfl rfl ?_
  refine zg_iload (pc' := 119) zd_Ac_call_117 rfl rfl ?_
  refine zg_iconst (x := (1 : Int32)) (pc' := 120) zd_Ac_call_119 (by decide) rfl ?_
  refine zg_iadd (pc' := 121) zd_Ac_call_120 rfl ?_
  obtain ⟨g5, h⟩ := gd_some h
  obtain ⟨r8, S6, e7, h⟩ := bq_some h
  refine zg_callV (ci := 0) (As := [.int a6, .int (zI S2 1 a5.toNatClampNeg), .int a3, .int (a4 + (1 : Int32))]) (rest := []) (pc' := 124) zl_Ac_45 zq745 zqp10 ⟨_, rfl, rfl⟩ zd_Ac_call_121 rfl rfl (Nat.le_of_ble_eq_true rfl) (by omega) (gT_ok g5) (ho0 e7) rfl ?_
  refine zg_st (st' := [.int r8]) rfl ?_
  obtain ⟨rfl, rfl⟩ := rt_q h
  exact zg_iret zd_Ac_call_124 zrt_i
set_option maxRecDepth 100000 in
def fn_Ac_call_L48 (o0 : Nat → Int32 → Int32 → Int32 → Int32 → zS → Option (Int32 × zS)) (o1 : Nat → Int32 → Int32 → Int32 → Int32 → zS → Option (Int32 × zS)) (a0 : Nat) (a1 : Int32) (a3 : Int32) (a4 : Int32) (a5 : Int32) (S : zS) : Option (Int32 × zS) :=
  bq (fn_Ls_isKind a5 S) fun r3 S1 =>
  br (decide (r3 = 0)) (some ((0 : Int32), S1)) <|
  br (decide (a4 ≤ (40 : Int32))) (gd (gT S1 2 1) <|
  gd (gB ((a5 * (3 : Int32)) + a1) (zT S1 2).2) <|
  gd (gT S1 a0 100) <|
  br (decide ((20 : Int32) ≤ (zI S1 a0 1))) (fn_Ac_call_L97 o0 o1 a0 a3 a4 a5 (zI S1 2 ((a5 * (3 : Int32)) + a1).toNatClampNeg) S1) <|
  gd (gT S1 (zR S1 a0 0) 1) <|
  gd (gP (zR S1 a0 0)) <|
  gd (gB (zI S1 a0 1) (zT S1 (zR S1 a0 0)).2) <|
  nm (uI S1 (zR S1 a0 0) (zI S1 a0 1).toNatClampNeg (zI S1 2 ((a5 * (3 : Int32)) + a1).toNatClampNeg)) fun S13 =>
  fn_Ac_call_L97 o0 o1 a0 a3 a4 a5 (zI S1 2 ((a5 * (3 : Int32)) + a1).toNatClampNeg) S13) <|
  some ((0 : Int32), S1)
set_option maxRecDepth 100000 in
set_option maxHeartbeats 4000000 in
theorem tm_Ac_call_L48 {X : zXt} {d : Nat} {d' : Nat} (hd : 3 ≤ d ∧ d' + 1 ≤ d) {o0 : Nat → Int32 → Int32 → Int32 → Int32 → zS → Option (Int32 × zS)} (ho0 : ∀ {b0 : Nat} {b1 : Int32} {b2 : Int32} {b3 : Int32} {b4 : Int32} {S : zS} {r : Int32} {S1 : zS}, o0 b0 b1 b2 b3 b4 S = some (r, S1) → zM X zy_Ac_body prog_2_method_4_code 6 (Option.some Jvm.ClassFile.FieldType.int) d' [.ref b0, .int b1, .int b2, .int b3, .int b4] S (some (.int r)) S1) {o1 : Nat → Int32 → Int32 → Int32 → Int32 → zS → Option (Int32 × zS)} (ho1 : ∀ {b0 : Nat} {b1 : Int32} {b2 : Int32} {b3 : Int32} {b4 : Int32} {S : zS} {r : Int32} {S1 : zS}, o1 b0 b1 b2 b3 b4 S = some (r, S1) → zM X zy_Ac_call prog_2_method_3_code 7 (Option.some Jvm.ClassFile.FieldType.int) d' [.ref b0, .int b1, .int b2, .int b3, .int b4] S (some (.int r)) S1) {v : Int32} {S' : zS}  {a0 : Nat} {a1 : Int32} {a3 : Int32} {a4 : Int32} {a5 : Int32} {S : zS} (h : fn_Ac_call_L48 o0 o1 a0 a1 a3 a4 a5 S = some (v, S')) : zG X zm_Ac_call d 48 [some (.ref a0), some (.int a1), none, some (.int a3), some (.int a4), some (.int a5), none] [] S (some (.int v)) S' := by
  have hd1 := hd.1
  have hd2 := hd.2
  unfold fn_Ac_call_L48 at h
  refine zg_iload (pc' := 50) zd_Ac_call_48 rfl rfl ?_
  obtain ⟨r3, S1, e2, h⟩ := bq_some h
  refine zg_callSN (As := [.int a5]) (rest := []) (pc' := 53) zl_Ac_35 zq331 zd_Ac_call_50 rfl rfl (Nat.le_of_ble_eq_true rfl) (by omega) (tm_Ls_isKind (d := 2) (Nat.le_refl _) e2) rfl ?_
  refine zg_st (st' := [.int r3]) rfl ?_
  rcases br_some h with ⟨c4, h⟩ | ⟨c4, h⟩
  · refine zg_if_eq (tgt := 63) (pc' := 56) zd_Ac_call_53 (by decide) rfl (fun _ => ?_) (fun q => absurd c4 q)
    refine zg_iconst (x := (0 : Int32)) (pc' := 64) zd_Ac_call_63 (by decide) rfl ?_
    obtain ⟨rfl, rfl⟩ := rt_q h
    exact zg_iret zd_Ac_call_64 zrt_i
  · refine zg_if_eq (tgt := 63) (pc' := 56) zd_Ac_call_53 (by decide) rfl (fun q => absurd q c4) (fun _ => ?_)
    refine zg_iload (pc' := 58) zd_Ac_call_56 rfl rfl ?_
    refine zg_bipush (x := (40 : Int32)) (pc' := 60) zd_Ac_call_58 (by decide) rfl ?_
    rcases br_some h with ⟨c5, h⟩ | ⟨c5, h⟩
    · refine zg_icmp_le (tgt := 65) (pc' := 63) zd_Ac_call_60 (by decide) rfl (fun _ => ?_) (fun q => absurd c5 q)
      refine zg_gs0 (w := .ref 2) (pc' := 68) zk_bodies (Or.inl zq740) zd_Ac_call_65 rfl ?_
      refine zg_iload (pc' := 70) zd_Ac_call_68 rfl rfl ?_
      refine zg_iconst (x := (3 : Int32)) (pc' := 71) zd_Ac_call_70 (by decide) rfl ?_
      refine zg_imul (pc' := 72) zd_Ac_call_71 rfl ?_
      refine zg_iload_n (pc' := 73) zd_Ac_call_72 rfl rfl ?_
      refine zg_iadd (pc' := 74) zd_Ac_call_73 rfl ?_
      obtain ⟨g6, h⟩ := gd_some h
      obtain ⟨g7, h⟩ := gd_some h
      refine zg_iald (pc' := 75) zd_Ac_call_74 (gT_ok g6) (gB_ok g7) rfl ?_
      refine zg_istore (L' := [some (.ref a0), some (.int a1), none, some (.int a3), some (.int a4), some (.int a5), some (.int (zI S1 2 ((a5 * (3 : Int32)) + a1).toNatClampNeg))]) (pc' := 77) zd_Ac_call_75 (by decide) rfl rfl ?_
      refine zg_aload_n (pc' := 78) zd_Ac_call_77 rfl rfl ?_
      obtain ⟨g8, h⟩ := gd_some h
      refine zg_getI (pc' := 81) zf_Ac_15 zd_Ac_call_78 (gT_ok g8) rfl ?_
      refine zg_bipush (x := (20 : Int32)) (pc' := 83) zd_Ac_call_81 (by decide) rfl ?_
      rcases br_some h with ⟨c9, h⟩ | ⟨c9, h⟩
      · refine zg_icmp_ge (tgt := 97) (pc' := 86) zd_Ac_call_83 (by decide) rfl (fun _ => ?_) (fun q => absurd c9 q)
        refine zg_mask (L' := [some (.ref a0), none, none, some (.int a3), some (.int a4), some (.int a5), some (.int (zI S1 2 ((a5 * (3 : Int32)) + a1).toNatClampNeg))]) (zmk_ok _ _ ⟨rfl, ⟨rfl, ⟨rfl, ⟨rfl, ⟨rfl, trivial⟩⟩⟩⟩⟩) ?_
        exact tm_Ac_call_L97 hd ho0 ho1 h
      · refine zg_icmp_ge (tgt := 97) (pc' := 86) zd_Ac_call_83 (by decide) rfl (fun q => absurd q c9) (fun _ => ?_)
        refine zg_aload_n (pc' := 87) zd_Ac_call_86 rfl rfl ?_
        refine zg_getR (pc' := 90) zf_Ac_11 rfl zd_Ac_call_87 (gT_ok g8) rfl ?_
        refine zg_aload_n (pc' := 91) zd_Ac_call_90 rfl rfl ?_
        refine zg_getI (pc' := 94) zf_Ac_15 zd_Ac_call_91 (gT_ok g8) rfl ?_
        refine zg_iload (pc' := 96) zd_Ac_call_94 rfl rfl ?_
        obtain ⟨g10, h⟩ := gd_some h
        obtain ⟨g11, h⟩ := gd_some h
        obtain ⟨g12, h⟩ := gd_some h
        refine zg_iast (pc' := 97) zd_Ac_call_96 (gT_ok g10) (gP_ok g11) (gB_ok g12) rfl ?_
        obtain ⟨S13, eS13, h⟩ := nm_some h
        refine zg_nm eS13 ?_
        refine zg_mask (L' := [some (.ref a0), none, none, some (.int a3), some (.int a4), some (.int a5), some (.int (zI S1 2 ((a5 * (3 : Int32)) + a1).toNatClampNeg))]) (zmk_ok _ _ ⟨rfl, ⟨rfl, ⟨rfl, ⟨rfl, ⟨rfl, trivial⟩⟩⟩⟩⟩) ?_
        exact tm_Ac_call_L97 hd ho0 ho1 h
    · refine zg_icmp_le (tgt := 65) (pc' := 63) zd_Ac_call_60 (by decide) rfl (fun q => absurd q c5) (fun _ => ?_)
      refine zg_iconst (x := (0 : Int32)) (pc' := 64) zd_Ac_call_63 (by decide) rfl ?_
      obtain ⟨rfl, rfl⟩ := rt_q h
      exact zg_iret zd_Ac_call_64 zrt_i
set_option maxRecDepth 100000 in
def fn_Ac_call_L6 (o0 : Nat → Int32 → Int32 → Int32 → Int32 → zS → Option (Int32 × zS)) (o1 : Nat → Int32 → Int32 → Int32 → Int32 → zS → Option (Int32 × zS)) (a0 : Nat) (a1 : Int32) (a3 : Int32) (a4 : Int32) (a5 : Int32) (a6 : Int32) (S : zS) (K6 : Nat → Int32 → Int32 → Int32 → Int32 → Int32 → zS → Option (Int32 × zS)) : Option (Int32 × zS) :=
  br (decide ((7 : Int32) ≤ a6)) (fn_Ac_call_L48 o0 o1 a0 a1 a3 a4 a5 S) <|
  bq (fn_Ls_isKind a5 S) fun r4 S2 =>
  br (decide (r4 = 0)) (fn_Ac_call_L48 o0 o1 a0 a1 a3 a4 a5 S2) <|
  gd (gT S2 2 1) <|
  gd (gB ((a5 * (3 : Int32)) + a1) (zT S2 2).2) <|
  br (decide ((zI S2 2 ((a5 * (3 : Int32)) + a1).toNatClampNeg) = 0)) (gd (gT S2 1 1) <|
  gd (gB a5 (zT S2 1).2) <|
  K6 a0 a1 a3 a4 (zI S2 1 a5.toNatClampNeg) (a6 + (1 : Int32)) S2) <|
  fn_Ac_call_L48 o0 o1 a0 a1 a3 a4 a5 S2
set_option maxRecDepth 100000 in
set_option maxHeartbeats 4000000 in
theorem tm_Ac_call_L6 {X : zXt} {d : Nat} {d' : Nat} (hd : 3 ≤ d ∧ d' + 1 ≤ d) {o0 : Nat → Int32 → Int32 → Int32 → Int32 → zS → Option (Int32 × zS)} (ho0 : ∀ {b0 : Nat} {b1 : Int32} {b2 : Int32} {b3 : Int32} {b4 : Int32} {S : zS} {r : Int32} {S1 : zS}, o0 b0 b1 b2 b3 b4 S = some (r, S1) → zM X zy_Ac_body prog_2_method_4_code 6 (Option.some Jvm.ClassFile.FieldType.int) d' [.ref b0, .int b1, .int b2, .int b3, .int b4] S (some (.int r)) S1) {o1 : Nat → Int32 → Int32 → Int32 → Int32 → zS → Option (Int32 × zS)} (ho1 : ∀ {b0 : Nat} {b1 : Int32} {b2 : Int32} {b3 : Int32} {b4 : Int32} {S : zS} {r : Int32} {S1 : zS}, o1 b0 b1 b2 b3 b4 S = some (r, S1) → zM X zy_Ac_call prog_2_method_3_code 7 (Option.some Jvm.ClassFile.FieldType.int) d' [.ref b0, .int b1, .int b2, .int b3, .int b4] S (some (.int r)) S1) {v : Int32} {S' : zS}  {K6 : Nat → Int32 → Int32 → Int32 → Int32 → Int32 → zS → Option (Int32 × zS)} (hK6 : ∀ (a0 : Nat) (a1 : Int32) (a3 : Int32) (a4 : Int32) (a5 : Int32) (a6 : Int32) (S : zS), K6 a0 a1 a3 a4 a5 a6 S = some (v, S') → zG X zm_Ac_call d 6 [some (.ref a0), some (.int a1), none, some (.int a3), some (.int a4), some (.int a5), some (.int a6)] [] S (some (.int v)) S') {a0 : Nat} {a1 : Int32} {a3 : Int32} {a4 : Int32} {a5 : Int32} {a6 : Int32} {S : zS} (h : fn_Ac_call_L6 o0 o1 a0 a1 a3 a4 a5 a6 S K6 = some (v, S')) : zG X zm_Ac_call d 6 [some (.ref a0), some (.int a1), none, some (.int a3), some (.int a4), some (.int a5), some (.int a6)] [] S (some (.int v)) S' := by
  have hd1 := hd.1
  have hd2 := hd.2
  unfold fn_Ac_call_L6 at h
  refine zg_iload (pc' := 8) zd_Ac_call_6 rfl rfl ?_
  refine zg_bipush (x := (7 : Int32)) (pc' := 10) zd_Ac_call_8 (by decide) rfl ?_
  rcases br_some h with ⟨c1, h⟩ | ⟨c1, h⟩
  · refine zg_icmp_ge (tgt := 48) (pc' := 13) zd_Ac_call_10 (by decide) rfl (fun _ => ?_) (fun q => absurd c1 q)
    refine zg_mask (L' := [some (.ref a0), some (.int a1), none, some (.int a3), some (.int a4), some (.int a5), none]) (zmk_ok _ _ ⟨rfl, ⟨rfl, ⟨rfl, ⟨rfl, ⟨rfl, trivial⟩⟩⟩⟩⟩) ?_
    exact tm_Ac_call_L48 hd ho0 ho1 h
  · refine zg_icmp_ge (tgt := 48) (pc' := 13) zd_Ac_call_10 (by decide) rfl (fun q => absurd q c1) (fun _ => ?_)
    refine zg_iload (pc' := 15) zd_Ac_call_13 rfl rfl ?_
    obtain ⟨r4, S2, e3, h⟩ := bq_some h
    refine zg_callSN (As := [.int a5]) (rest := []) (pc' := 18) zl_Ac_35 zq331 zd_Ac_call_15 rfl rfl (Nat.le_of_ble_eq_true rfl) (by omega) (tm_Ls_isKind (d := 2) (Nat.le_refl _) e3) rfl ?_
    refine zg_st (st' := [.int r4]) rfl ?_
    rcases br_some h with ⟨c5, h⟩ | ⟨c5, h⟩
    · refine zg_if_eq (tgt := 48) (pc' := 21) zd_Ac_call_18 (by decide) rfl (fun _ => ?_) (fun q => absurd c5 q)
      refine zg_mask (L' := [some (.ref a0), some (.int a1), none, some (.int a3), some (.int a4), some (.int a5), none]) (zmk_ok _ _ ⟨rfl, ⟨rfl, ⟨rfl, ⟨rfl, ⟨rfl, trivial⟩⟩⟩⟩⟩) ?_
      exact tm_Ac_call_L48 hd ho0 ho1 h
    · refine zg_if_eq (tgt := 48) (pc' := 21) zd_Ac_call_18 (by decide) rfl (fun q => absurd q c5) (fun _ => ?_)
      refine zg_gs0 (w := .ref 2) (pc' := 24) zk_bodies (Or.inl zq740) zd_Ac_call_21 rfl ?_
      refine zg_iload (pc' := 26) zd_Ac_call_24 rfl rfl ?_
      refine zg_iconst (x := (3 : Int32)) (pc' := 27) zd_Ac_call_26 (by decide) rfl ?_
      refine zg_imul (pc' := 28) zd_Ac_call_27 rfl ?_
      refine zg_iload_n (pc' := 29) zd_Ac_call_28 rfl rfl ?_
      refine zg_iadd (pc' := 30) zd_Ac_call_29 rfl ?_
      obtain ⟨g6, h⟩ := gd_some h
      obtain ⟨g7, h⟩ := gd_some h
      refine zg_iald (pc' := 31) zd_Ac_call_30 (gT_ok g6) (gB_ok g7) rfl ?_
      rcases br_some h with ⟨c8, h⟩ | ⟨c8, h⟩
      · refine zg_if_ne (tgt := 48) (pc' := 34) zd_Ac_call_31 (by decide) rfl (fun q => absurd c8 q) (fun _ => ?_)
        refine zg_gs0 (w := .ref 1) (pc' := 37) zk_above (Or.inr ⟨_, .tail _ (.tail _ (.tail _ (.tail _ (.tail _ (.tail _ (.tail _ (.tail _ (.head _))))))))⟩) zd_Ac_call_34 rfl ?_
        refine zg_iload (pc' := 39) zd_Ac_call_37 rfl rfl ?_
        obtain ⟨g9, h⟩ := gd_some h
        obtain ⟨g10, h⟩ := gd_some h
        refine zg_iald (pc' := 40) zd_Ac_call_39 (gT_ok g9) (gB_ok g10) rfl ?_
        refine zg_istore (L' := [some (.ref a0), some (.int a1), none, some (.int a3), some (.int a4), some (.int (zI S2 1 a5.toNatClampNeg)), some (.int a6)]) (pc' := 42) zd_Ac_call_40 (by decide) rfl rfl ?_
        refine zg_iinc (y := (a6 + (1 : Int32))) (L' := [some (.ref a0), some (.int a1), none, some (.int a3), some (.int a4), some (.int (zI S2 1 a5.toNatClampNeg)), some (.int (a6 + (1 : Int32)))]) (pc' := 45) zd_Ac_call_42 rfl rfl (by decide) rfl rfl ?_
        refine zg_goto (tgt := 6) zd_Ac_call_45 (by decide) ?_
        exact hK6 _ _ _ _ _ _ _ h
      · refine zg_if_ne (tgt := 48) (pc' := 34) zd_Ac_call_31 (by decide) rfl (fun _ => ?_) (fun q => absurd q c8)
        refine zg_mask (L' := [some (.ref a0), some (.int a1), none, some (.int a3), some (.int a4), some (.int a5), none]) (zmk_ok _ _ ⟨rfl, ⟨rfl, ⟨rfl, ⟨rfl, ⟨rfl, trivial⟩⟩⟩⟩⟩) ?_
        exact tm_Ac_call_L48 hd ho0 ho1 h
set_option maxRecDepth 100000 in
def fn_Ac_call_o (o0 : Nat → Int32 → Int32 → Int32 → Int32 → zS → Option (Int32 × zS)) (o1 : Nat → Int32 → Int32 → Int32 → Int32 → zS → Option (Int32 × zS)) (a0 : Nat) (a1 : Int32) (a2 : Int32) (a3 : Int32) (a4 : Int32) (S : zS) : Option (Int32 × zS) :=
  lp (σ := Nat × Int32 × Int32 × Int32 × Int32 × Int32 × zS) (fun k s => fn_Ac_call_L6 o0 o1 s.1 s.2.1 s.2.2.1 s.2.2.2.1 s.2.2.2.2.1 s.2.2.2.2.2.1 s.2.2.2.2.2.2 (fun (a0 : Nat) (a1 : Int32) (a3 : Int32) (a4 : Int32) (a5 : Int32) (a6 : Int32) (S : zS) => k (a0, a1, a3, a4, a5, a6, S))) FU (a0, a1, a3, a4, a2, (0 : Int32), S)
set_option maxRecDepth 100000 in
set_option maxHeartbeats 4000000 in
theorem tm_Ac_call_o {X : zXt} {d : Nat} {d' : Nat} (hd : 3 ≤ d ∧ d' + 1 ≤ d) {o0 : Nat → Int32 → Int32 → Int32 → Int32 → zS → Option (Int32 × zS)} (ho0 : ∀ {b0 : Nat} {b1 : Int32} {b2 : Int32} {b3 : Int32} {b4 : Int32} {S : zS} {r : Int32} {S1 : zS}, o0 b0 b1 b2 b3 b4 S = some (r, S1) → zM X zy_Ac_body prog_2_method_4_code 6 (Option.some Jvm.ClassFile.FieldType.int) d' [.ref b0, .int b1, .int b2, .int b3, .int b4] S (some (.int r)) S1) {o1 : Nat → Int32 → Int32 → Int32 → Int32 → zS → Option (Int32 × zS)} (ho1 : ∀ {b0 : Nat} {b1 : Int32} {b2 : Int32} {b3 : Int32} {b4 : Int32} {S : zS} {r : Int32} {S1 : zS}, o1 b0 b1 b2 b3 b4 S = some (r, S1) → zM X zy_Ac_call prog_2_method_3_code 7 (Option.some Jvm.ClassFile.FieldType.int) d' [.ref b0, .int b1, .int b2, .int b3, .int b4] S (some (.int r)) S1) {v : Int32} {a0 : Nat} {a1 : Int32} {a2 : Int32} {a3 : Int32} {a4 : Int32} {S : zS} {S' : zS} (h : fn_Ac_call_o o0 o1 a0 a1 a2 a3 a4 S = some (v, S')) : zM X zy_Ac_call prog_2_method_3_code 7 (Option.some Jvm.ClassFile.FieldType.int) d [.ref a0, .int a1, .int a2, .int a3, .int a4] S (some (.int v)) S' := by
  refine zM_of (ini := false) (L := [some (.ref a0), some (.int a1), some (.int a2), some (.int a3), some (.int a4), none, none]) (plainFor_of_name (by decide)) (fun h => by cases h) (Nat.le_of_ble_eq_true rfl) rfl ?_
  have hd1 := hd.1
  have hd2 := hd.2
  unfold fn_Ac_call_o at h
  refine zg_iload_n (pc' := 1) zd_Ac_call_0 rfl rfl ?_
  refine zg_istore (L' := [some (.ref a0), some (.int a1), some (.int a2), some (.int a3), some (.int a4), some (.int a2), none]) (pc' := 3) zd_Ac_call_1 (by decide) rfl rfl ?_
  refine zg_iconst (x := (0 : Int32)) (pc' := 4) zd_Ac_call_3 (by decide) rfl ?_
  refine zg_istore (L' := [some (.ref a0), some (.int a1), some (.int a2), some (.int a3), some (.int a4), some (.int a2), some (.int (0 : Int32))]) (pc' := 6) zd_Ac_call_4 (by decide) rfl rfl ?_
  refine zg_mask (L' := [some (.ref a0), some (.int a1), none, some (.int a3), some (.int a4), some (.int a2), some (.int (0 : Int32))]) (zmk_ok _ _ ⟨rfl, ⟨rfl, ⟨rfl, ⟨rfl, ⟨rfl, ⟨rfl, trivial⟩⟩⟩⟩⟩⟩) ?_
  exact lp_indh h (P := fun s => zG X zm_Ac_call d 6 [some (.ref (s.1)), some (.int (s.2.1)), none, some (.int (s.2.2.1)), some (.int (s.2.2.2.1)), some (.int (s.2.2.2.2.1)), some (.int (s.2.2.2.2.2.1))] [] (s.2.2.2.2.2.2) (some (.int v)) S') (fun k hk s h => tm_Ac_call_L6 hd ho0 ho1 (fun a0 a1 a3 a4 a5 a6 S h => hk (a0, a1, a3, a4, a5, a6, S) h) h)
def fs_Ac_body_Ac_call (k : ((Nat × Int32 × Int32 × Int32 × Int32 × zS) ⊕ (Nat × Int32 × Int32 × Int32 × Int32 × zS)) → Option (Int32 × zS)) (s : (Nat × Int32 × Int32 × Int32 × Int32 × zS) ⊕ (Nat × Int32 × Int32 × Int32 × Int32 × zS)) : Option (Int32 × zS) :=
  match s with
    | .inl (s) => fn_Ac_body_o (fun (b0 : Nat) (b1 : Int32) (b2 : Int32) (b3 : Int32) (b4 : Int32) (S : zS) => k (.inl (b0, b1, b2, b3, b4, S))) (fun (b0 : Nat) (b1 : Int32) (b2 : Int32) (b3 : Int32) (b4 : Int32) (S : zS) => k (.inr (b0, b1, b2, b3, b4, S))) s.1 s.2.1 s.2.2.1 s.2.2.2.1 s.2.2.2.2.1 s.2.2.2.2.2
    | .inr (s) => fn_Ac_call_o (fun (b0 : Nat) (b1 : Int32) (b2 : Int32) (b3 : Int32) (b4 : Int32) (S : zS) => k (.inl (b0, b1, b2, b3, b4, S))) (fun (b0 : Nat) (b1 : Int32) (b2 : Int32) (b3 : Int32) (b4 : Int32) (S : zS) => k (.inr (b0, b1, b2, b3, b4, S))) s.1 s.2.1 s.2.2.1 s.2.2.2.1 s.2.2.2.2.1 s.2.2.2.2.2
def fn_Ac_body (n : Nat) (b0 : Nat) (b1 : Int32) (b2 : Int32) (b3 : Int32) (b4 : Int32) (S : zS) : Option (Int32 × zS) := lp fs_Ac_body_Ac_call n (.inl (b0, b1, b2, b3, b4, S))
def fn_Ac_call (n : Nat) (b0 : Nat) (b1 : Int32) (b2 : Int32) (b3 : Int32) (b4 : Int32) (S : zS) : Option (Int32 × zS) := lp fs_Ac_body_Ac_call n (.inr (b0, b1, b2, b3, b4, S))
def ps_Ac_body_Ac_call (X : zXt) (n : Nat) (s : (Nat × Int32 × Int32 × Int32 × Int32 × zS) ⊕ (Nat × Int32 × Int32 × Int32 × Int32 × zS)) (r : Int32 × zS) : Prop :=
  match s with
    | .inl (s) => ∀ d, 3 + n ≤ d → zM X zy_Ac_body prog_2_method_4_code 6 (Option.some Jvm.ClassFile.FieldType.int) d [.ref (s.1), .int (s.2.1), .int (s.2.2.1), .int (s.2.2.2.1), .int (s.2.2.2.2.1)] (s.2.2.2.2.2) (some (.int r.1)) (r.2)
    | .inr (s) => ∀ d, 3 + n ≤ d → zM X zy_Ac_call prog_2_method_3_code 7 (Option.some Jvm.ClassFile.FieldType.int) d [.ref (s.1), .int (s.2.1), .int (s.2.2.1), .int (s.2.2.2.1), .int (s.2.2.2.2.1)] (s.2.2.2.2.2) (some (.int r.1)) (r.2)
set_option maxRecDepth 100000 in
theorem tr_Ac_body_Ac_call {X : zXt} : ∀ (n : Nat) (s : (Nat × Int32 × Int32 × Int32 × Int32 × zS) ⊕ (Nat × Int32 × Int32 × Int32 × Int32 × zS)) (r : Int32 × zS), lp fs_Ac_body_Ac_call n s = some r → ps_Ac_body_Ac_call X n s r := by
  refine lp_rec (fun n k hk s r h => ?_)
  cases s with
  | inl s =>
    intro d hd
    obtain ⟨v, S'⟩ := r
    exact tm_Ac_body_o (d' := 3 + n) ⟨by omega, by omega⟩ (fun {b0 b1 b2 b3 b4 S r S1} e => hk (.inl (_, _, _, _, _, _)) _ e (3 + n) (Nat.le_refl _)) (fun {b0 b1 b2 b3 b4 S r S1} e => hk (.inr (_, _, _, _, _, _)) _ e (3 + n) (Nat.le_refl _)) h
  | inr s =>
    intro d hd
    obtain ⟨v, S'⟩ := r
    exact tm_Ac_call_o (d' := 3 + n) ⟨by omega, by omega⟩ (fun {b0 b1 b2 b3 b4 S r S1} e => hk (.inl (_, _, _, _, _, _)) _ e (3 + n) (Nat.le_refl _)) (fun {b0 b1 b2 b3 b4 S r S1} e => hk (.inr (_, _, _, _, _, _)) _ e (3 + n) (Nat.le_refl _)) h

theorem tm_Ac_body {X : zXt} {n d : Nat} (hd : 3 + n ≤ d) {v : Int32} {b0 : Nat} {b1 : Int32} {b2 : Int32} {b3 : Int32} {b4 : Int32} {S S' : zS} (h : fn_Ac_body n b0 b1 b2 b3 b4 S = some (v, S')) : zM X zy_Ac_body prog_2_method_4_code 6 (Option.some Jvm.ClassFile.FieldType.int) d [.ref b0, .int b1, .int b2, .int b3, .int b4] S (some (.int v)) S' :=
  tr_Ac_body_Ac_call n (.inl (b0, b1, b2, b3, b4, S)) _ h d hd
theorem tm_Ac_call {X : zXt} {n d : Nat} (hd : 3 + n ≤ d) {v : Int32} {b0 : Nat} {b1 : Int32} {b2 : Int32} {b3 : Int32} {b4 : Int32} {S S' : zS} (h : fn_Ac_call n b0 b1 b2 b3 b4 S = some (v, S')) : zM X zy_Ac_call prog_2_method_3_code 7 (Option.some Jvm.ClassFile.FieldType.int) d [.ref b0, .int b1, .int b2, .int b3, .int b4] S (some (.int v)) S' :=
  tr_Ac_body_Ac_call n (.inr (b0, b1, b2, b3, b4, S)) _ h d hd
theorem zd_Ac_run_0 : decode prog_2_method_2_code 0 = .ok (.aload_n 0, 1) := by decide +kernel
theorem zd_Ac_run_1 : decode prog_2_method_2_code 1 = .ok (.aload_n 1, 1) := by decide +kernel
theorem zd_Ac_run_2 : decode prog_2_method_2_code 2 = .ok (.putfield 24, 3) := by decide +kernel
theorem zd_Ac_run_5 : decode prog_2_method_2_code 5 = .ok (.aload_n 0, 1) := by decide +kernel
theorem zd_Ac_run_6 : decode prog_2_method_2_code 6 = .ok (.iload_n 2, 1) := by decide +kernel
theorem zd_Ac_run_7 : decode prog_2_method_2_code 7 = .ok (.aload_n 1, 1) := by decide +kernel
theorem zd_Ac_run_8 : decode prog_2_method_2_code 8 = .ok (.getfield 28, 3) := by decide +kernel
theorem zd_Ac_run_11 : decode prog_2_method_2_code 11 = .ok (.iload_n 3, 1) := by decide +kernel
theorem zd_Ac_run_12 : decode prog_2_method_2_code 12 = .ok (.iconst 0, 1) := by decide +kernel
theorem zd_Ac_run_13 : decode prog_2_method_2_code 13 = .ok (.invokevirtual 31, 3) := by decide +kernel
theorem zd_Ac_run_16 : decode prog_2_method_2_code 16 = .ok (.ireturn, 1) := by decide +kernel
abbrev zm_Ac_run : zQ := ("LoofahSaints$Acts", prog_2_method_2_code, 4, (Option.some Jvm.ClassFile.FieldType.int), false)
set_option maxRecDepth 100000 in
def fn_Ac_run (a0 : Nat) (a1 : Nat) (a2 : Int32) (a3 : Int32) (S : zS) : Option (Int32 × zS) :=
  gd (gT S a0 100) <|
  nm (uR S a0 2 a1) fun S2 =>
  gd (gT S2 a1 105) <|
  gd (gT S2 a0 100) <|
  bq (fn_Ac_call FR a0 a2 (zI S2 a1 2) a3 (0 : Int32) S2) fun r7 S5 =>
  some (r7, S5)
set_option maxRecDepth 100000 in
set_option maxHeartbeats 4000000 in
theorem tm_Ac_run {X : zXt} {d : Nat} (hd : 64 ≤ d) {v : Int32} {a0 : Nat} {a1 : Nat} {a2 : Int32} {a3 : Int32} {S : zS} {S' : zS} (h : fn_Ac_run a0 a1 a2 a3 S = some (v, S')) : zM X zy_Ac_run prog_2_method_2_code 4 (Option.some Jvm.ClassFile.FieldType.int) d [.ref a0, .ref a1, .int a2, .int a3] S (some (.int v)) S' := by
  refine zM_of (ini := false) (L := [some (.ref a0), some (.ref a1), some (.int a2), some (.int a3)]) (plainFor_of_name (by decide)) (fun h => by cases h) (Nat.le_of_ble_eq_true rfl) rfl ?_
  unfold fn_Ac_run at h
  refine zg_aload_n (pc' := 1) zd_Ac_run_0 rfl rfl ?_
  refine zg_aload_n (pc' := 2) zd_Ac_run_1 rfl rfl ?_
  obtain ⟨g1, h⟩ := gd_some h
  refine zg_putR (pc' := 5) zf_Ac_24 rfl zd_Ac_run_2 (Or.inl rfl) (gT_ok g1) rfl ?_
  obtain ⟨S2, eS2, h⟩ := nm_some h
  refine zg_nm eS2 ?_
  refine zg_aload_n (pc' := 6) zd_Ac_run_5 rfl rfl ?_
  refine zg_iload_n (pc' := 7) zd_Ac_run_6 rfl rfl ?_
  refine zg_aload_n (pc' := 8) zd_Ac_run_7 rfl rfl ?_
  obtain ⟨g3, h⟩ := gd_some h
  refine zg_getI (pc' := 11) zf_Ac_28 zd_Ac_run_8 (gT_ok g3) rfl ?_
  refine zg_iload_n (pc' := 12) zd_Ac_run_11 rfl rfl ?_
  refine zg_iconst (x := (0 : Int32)) (pc' := 13) zd_Ac_run_12 (by decide) rfl ?_
  obtain ⟨g4, h⟩ := gd_some h
  obtain ⟨r7, S5, e6, h⟩ := bq_some h
  refine zg_callV (ci := 0) (As := [.int a2, .int (zI S2 a1 2), .int a3, .int (0 : Int32)]) (rest := []) (pc' := 16) zl_Ac_31 zq737 zqp9 ⟨_, rfl, rfl⟩ zd_Ac_run_13 rfl rfl (Nat.le_of_ble_eq_true rfl) (by omega) (gT_ok g4) (tm_Ac_call (d := 63) (by decide) e6) rfl ?_
  refine zg_st (st' := [.int r7]) rfl ?_
  obtain ⟨rfl, rfl⟩ := rt_q h
  exact zg_iret zd_Ac_run_16 zrt_i
theorem zd_Sc_init_0 : decode prog_8_method_1_code 0 = .ok (.aload_n 0, 1) := by decide +kernel
theorem zd_Sc_init_1 : decode prog_8_method_1_code 1 = .ok (.invokespecial 3, 3) := by decide +kernel
theorem zd_Sc_init_4 : decode prog_8_method_1_code 4 = .ok (.aload_n 0, 1) := by decide +kernel
theorem zd_Sc_init_5 : decode prog_8_method_1_code 5 = .ok (.bipush 6, 2) := by decide +kernel
theorem zd_Sc_init_7 : decode prog_8_method_1_code 7 = .ok (.newarray .int, 2) := by decide +kernel
theorem zd_Sc_init_9 : decode prog_8_method_1_code 9 = .ok (.putfield 9, 3) := by decide +kernel
theorem zd_Sc_init_12 : decode prog_8_method_1_code 12 = .ok (.aload_n 0, 1) := by decide +kernel
theorem zd_Sc_init_13 : decode prog_8_method_1_code 13 = .ok (.iconst 3, 1) := by decide +kernel
theorem zd_Sc_init_14 : decode prog_8_method_1_code 14 = .ok (.newarray .int, 2) := by decide +kernel
theorem zd_Sc_init_16 : decode prog_8_method_1_code 16 = .ok (.putfield 15, 3) := by decide +kernel
theorem zd_Sc_init_19 : decode prog_8_method_1_code 19 = .ok (.aload_n 0, 1) := by decide +kernel
theorem zd_Sc_init_20 : decode prog_8_method_1_code 20 = .ok (.iconst 3, 1) := by decide +kernel
theorem zd_Sc_init_21 : decode prog_8_method_1_code 21 = .ok (.newarray .int, 2) := by decide +kernel
theorem zd_Sc_init_23 : decode prog_8_method_1_code 23 = .ok (.putfield 18, 3) := by decide +kernel
theorem zd_Sc_init_26 : decode prog_8_method_1_code 26 = .ok (.aload_n 0, 1) := by decide +kernel
theorem zd_Sc_init_27 : decode prog_8_method_1_code 27 = .ok (.iconst 0, 1) := by decide +kernel
theorem zd_Sc_init_28 : decode prog_8_method_1_code 28 = .ok (.putfield 21, 3) := by decide +kernel
theorem zd_Sc_init_31 : decode prog_8_method_1_code 31 = .ok (.aload_n 0, 1) := by decide +kernel
theorem zd_Sc_init_32 : decode prog_8_method_1_code 32 = .ok (.iconst 0, 1) := by decide +kernel
theorem zd_Sc_init_33 : decode prog_8_method_1_code 33 = .ok (.putfield 25, 3) := by decide +kernel
theorem zd_Sc_init_36 : decode prog_8_method_1_code 36 = .ok (.return_, 1) := by decide +kernel
abbrev zm_Sc_init : zQ := ("LoofahSaints$Scrubbing", prog_8_method_1_code, 1, (Option.none : Option Jvm.ClassFile.FieldType), true)
set_option maxRecDepth 100000 in
def fn_Sc_init (a0 : Nat) (S : zS) : Option (zS) :=
  gd (gT S a0 106) <|
  gd (gN (6 : Int32)) <|
  nm (uN S (1, (6 : Int32).toNatClampNeg)) fun S3 =>
  gd (gT S3 a0 106) <|
  nm (uR S3 a0 0 (zN S)) fun S5 =>
  gd (gN (3 : Int32)) <|
  nm (uN S5 (1, (3 : Int32).toNatClampNeg)) fun S7 =>
  gd (gT S7 a0 106) <|
  nm (uR S7 a0 1 (zN S5)) fun S9 =>
  nm (uN S9 (1, (3 : Int32).toNatClampNeg)) fun S10 =>
  gd (gT S10 a0 106) <|
  nm (uR S10 a0 2 (zN S9)) fun S12 =>
  gd (gT S12 a0 106) <|
  nm (uI S12 a0 3 (0 : Int32)) fun S14 =>
  gd (gT S14 a0 106) <|
  nm (uI S14 a0 4 (0 : Int32)) fun S16 =>
  some S16
set_option maxRecDepth 100000 in
set_option maxHeartbeats 4000000 in
theorem tm_Sc_init {X : zXt} {d : Nat} (hd : 2 ≤ d) {a0 : Nat} {S : zS} {S' : zS} (h : fn_Sc_init a0 S = some S') : zM X zy_Sc_init prog_8_method_1_code 1 (Option.none : Option Jvm.ClassFile.FieldType) d [.ref a0] S none S' := by
  refine zM_of (ini := true) (L := [some (.ref a0)]) (plainFor_of_name (by decide)) (fun _ => rfl) (Nat.le_of_ble_eq_true rfl) rfl ?_
  unfold fn_Sc_init at h
  refine zg_aload_n (pc' := 1) zd_Sc_init_0 rfl rfl ?_
  obtain ⟨g1, h⟩ := gd_some h
  refine zg_oinit (ci := 6) (pc' := 4) zq107 zq25 zq26 zd_Sc_init_1 (by omega) (gT_ok g1) (Nat.le_of_ble_eq_true rfl) rfl ?_
  refine zg_aload_n (pc' := 5) zd_Sc_init_4 rfl rfl ?_
  refine zg_bipush (x := (6 : Int32)) (pc' := 7) zd_Sc_init_5 (by decide) rfl ?_
  obtain ⟨g2, h⟩ := gd_some h
  refine zg_newa (t := 1) (ty := .int) (pc' := 9) rfl (by simp) zq59 zd_Sc_init_7 (gN_ok g2).1 (gN_ok g2).2 rfl ?_
  obtain ⟨S3, eS3, h⟩ := nm_some h
  refine zg_nm eS3 ?_
  obtain ⟨g4, h⟩ := gd_some h
  refine zg_putR (pc' := 12) zf_Sc_9 rfl zd_Sc_init_9 (Or.inr ⟨rfl, _, rfl, rfl⟩) (gT_ok g4) rfl ?_
  obtain ⟨S5, eS5, h⟩ := nm_some h
  refine zg_nm eS5 ?_
  refine zg_aload_n (pc' := 13) zd_Sc_init_12 rfl rfl ?_
  refine zg_iconst (x := (3 : Int32)) (pc' := 14) zd_Sc_init_13 (by decide) rfl ?_
  obtain ⟨g6, h⟩ := gd_some h
  refine zg_newa (t := 1) (ty := .int) (pc' := 16) rfl (by simp) zq59 zd_Sc_init_14 (gN_ok g6).1 (gN_ok g6).2 rfl ?_
  obtain ⟨S7, eS7, h⟩ := nm_some h
  refine zg_nm eS7 ?_
  obtain ⟨g8, h⟩ := gd_some h
  refine zg_putR (pc' := 19) zf_Sc_15 rfl zd_Sc_init_16 (Or.inr ⟨rfl, _, rfl, rfl⟩) (gT_ok g8) rfl ?_
  obtain ⟨S9, eS9, h⟩ := nm_some h
  refine zg_nm eS9 ?_
  refine zg_aload_n (pc' := 20) zd_Sc_init_19 rfl rfl ?_
  refine zg_iconst (x := (3 : Int32)) (pc' := 21) zd_Sc_init_20 (by decide) rfl ?_
  refine zg_newa (t := 1) (ty := .int) (pc' := 23) rfl (by simp) zq59 zd_Sc_init_21 (gN_ok g6).1 (gN_ok g6).2 rfl ?_
  obtain ⟨S10, eS10, h⟩ := nm_some h
  refine zg_nm eS10 ?_
  obtain ⟨g11, h⟩ := gd_some h
  refine zg_putR (pc' := 26) zf_Sc_18 rfl zd_Sc_init_23 (Or.inr ⟨rfl, _, rfl, rfl⟩) (gT_ok g11) rfl ?_
  obtain ⟨S12, eS12, h⟩ := nm_some h
  refine zg_nm eS12 ?_
  refine zg_aload_n (pc' := 27) zd_Sc_init_26 rfl rfl ?_
  refine zg_iconst (x := (0 : Int32)) (pc' := 28) zd_Sc_init_27 (by decide) rfl ?_
  obtain ⟨g13, h⟩ := gd_some h
  refine zg_putI (pc' := 31) zf_Sc_21 zd_Sc_init_28 (Or.inl rfl) (gT_ok g13) rfl ?_
  obtain ⟨S14, eS14, h⟩ := nm_some h
  refine zg_nm eS14 ?_
  refine zg_aload_n (pc' := 32) zd_Sc_init_31 rfl rfl ?_
  refine zg_iconst (x := (0 : Int32)) (pc' := 33) zd_Sc_init_32 (by decide) rfl ?_
  obtain ⟨g15, h⟩ := gd_some h
  refine zg_putI (pc' := 36) zf_Sc_25 zd_Sc_init_33 (Or.inl rfl) (gT_ok g15) rfl ?_
  obtain ⟨S16, eS16, h⟩ := nm_some h
  refine zg_nm eS16 ?_
  obtain rfl := rt_v h
  exact zg_vret zd_Sc_init_36 rfl
theorem zd_Sc_seek_0 : decode prog_8_method_3_code 0 = .ok (.iload_n 2, 1) := by decide +kernel
theorem zd_Sc_seek_1 : decode prog_8_method_3_code 1 = .ok (.aload_n 0, 1) := by decide +kernel
theorem zd_Sc_seek_2 : decode prog_8_method_3_code 2 = .ok (.getfield 21, 3) := by decide +kernel
theorem zd_Sc_seek_5 : decode prog_8_method_3_code 5 = .ok (.if_icmp .ge 8, 3) := by decide +kernel
theorem zd_Sc_seek_8 : decode prog_8_method_3_code 8 = .ok (.iload_n 2, 1) := by decide +kernel
theorem zd_Sc_seek_9 : decode prog_8_method_3_code 9 = .ok (.iconst 3, 1) := by decide +kernel
theorem zd_Sc_seek_10 : decode prog_8_method_3_code 10 = .ok (.if_icmp .lt 40, 3) := by decide +kernel
theorem zd_Sc_seek_50 : decode prog_8_method_3_code 50 = .ok (.iconst 0, 1) := by decide +kernel
theorem zd_Sc_seek_51 : decode prog_8_method_3_code 51 = .ok (.istore 5, 2) := by decide +kernel
theorem zd_Sc_seek_53 : decode prog_8_method_3_code 53 = .ok (.iload 5, 2) := by decide +kernel
theorem zd_Sc_seek_55 : decode prog_8_method_3_code 55 = .ok (.aload_n 1, 1) := by decide +kernel
theorem zd_Sc_seek_56 : decode prog_8_method_3_code 56 = .ok (.getfield 28, 3) := by decide +kernel
theorem zd_Sc_seek_59 : decode prog_8_method_3_code 59 = .ok (.if_icmp .ge 67, 3) := by decide +kernel
theorem zd_Sc_seek_126 : decode prog_8_method_3_code 126 = .ok (.return_, 1) := by decide +kernel
theorem zd_Sc_seek_62 : decode prog_8_method_3_code 62 = .ok (.iload_n 3, 1) := by decide +kernel
theorem zd_Sc_seek_63 : decode prog_8_method_3_code 63 = .ok (.iload 5, 2) := by decide +kernel
theorem zd_Sc_seek_65 : decode prog_8_method_3_code 65 = .ok (.ishr, 1) := by decide +kernel
theorem zd_Sc_seek_66 : decode prog_8_method_3_code 66 = .ok (.iconst 1, 1) := by decide +kernel
theorem zd_Sc_seek_67 : decode prog_8_method_3_code 67 = .ok (.iand, 1) := by decide +kernel
theorem zd_Sc_seek_68 : decode prog_8_method_3_code 68 = .ok (.ifCond .eq 6, 3) := by decide +kernel
theorem zd_Sc_seek_74 : decode prog_8_method_3_code 74 = .ok (.aload_n 0, 1) := by decide +kernel
theorem zd_Sc_seek_75 : decode prog_8_method_3_code 75 = .ok (.getfield 15, 3) := by decide +kernel
theorem zd_Sc_seek_78 : decode prog_8_method_3_code 78 = .ok (.iload_n 2, 1) := by decide +kernel
theorem zd_Sc_seek_79 : decode prog_8_method_3_code 79 = .ok (.iload 5, 2) := by decide +kernel
theorem zd_Sc_seek_81 : decode prog_8_method_3_code 81 = .ok (.iastore, 1) := by decide +kernel
theorem zd_Sc_seek_82 : decode prog_8_method_3_code 82 = .ok (.aload_n 0, 1) := by decide +kernel
theorem zd_Sc_seek_83 : decode prog_8_method_3_code 83 = .ok (.aload_n 1, 1) := by decide +kernel
theorem zd_Sc_seek_84 : decode prog_8_method_3_code 84 = .ok (.iload_n 2, 1) := by decide +kernel
theorem zd_Sc_seek_85 : decode prog_8_method_3_code 85 = .ok (.iconst 1, 1) := by decide +kernel
theorem zd_Sc_seek_86 : decode prog_8_method_3_code 86 = .ok (.iadd, 1) := by decide +kernel
theorem zd_Sc_seek_87 : decode prog_8_method_3_code 87 = .ok (.iload_n 3, 1) := by decide +kernel
theorem zd_Sc_seek_88 : decode prog_8_method_3_code 88 = .ok (.iconst 1, 1) := by decide +kernel
theorem zd_Sc_seek_89 : decode prog_8_method_3_code 89 = .ok (.iload 5, 2) := by decide +kernel
theorem zd_Sc_seek_91 : decode prog_8_method_3_code 91 = .ok (.ishl, 1) := by decide +kernel
theorem zd_Sc_seek_92 : decode prog_8_method_3_code 92 = .ok (.ior, 1) := by decide +kernel
theorem zd_Sc_seek_93 : decode prog_8_method_3_code 93 = .ok (.iload 4, 2) := by decide +kernel
theorem zd_Sc_seek_95 : decode prog_8_method_3_code 95 = .ok (.aload_n 1, 1) := by decide +kernel
theorem zd_Sc_seek_96 : decode prog_8_method_3_code 96 = .ok (.getfield 33, 3) := by decide +kernel
theorem zd_Sc_seek_99 : decode prog_8_method_3_code 99 = .ok (.iload 5, 2) := by decide +kernel
theorem zd_Sc_seek_101 : decode prog_8_method_3_code 101 = .ok (.aaload, 1) := by decide +kernel
theorem zd_Sc_seek_102 : decode prog_8_method_3_code 102 = .ok (.iload 4, 2) := by decide +kernel
theorem zd_Sc_seek_104 : decode prog_8_method_3_code 104 = .ok (.aload_n 0, 1) := by decide +kernel
theorem zd_Sc_seek_105 : decode prog_8_method_3_code 105 = .ok (.getfield 9, 3) := by decide +kernel
theorem zd_Sc_seek_108 : decode prog_8_method_3_code 108 = .ok (.iload 5, 2) := by decide +kernel
theorem zd_Sc_seek_110 : decode prog_8_method_3_code 110 = .ok (.iaload, 1) := by decide +kernel
theorem zd_Sc_seek_111 : decode prog_8_method_3_code 111 = .ok (.invokevirtual 75, 3) := by decide +kernel
theorem zd_Sc_seek_114 : decode prog_8_method_3_code 114 = .ok (.iconst (-1), 1) := by decide +kernel
theorem zd_Sc_seek_115 : decode prog_8_method_3_code 115 = .ok (.ixor, 1) := by decide +kernel
theorem zd_Sc_seek_116 : decode prog_8_method_3_code 116 = .ok (.iand, 1) := by decide +kernel
theorem zd_Sc_seek_117 : decode prog_8_method_3_code 117 = .ok (.invokestatic 59, 3) := by decide +kernel
theorem zd_Sc_seek_71 : decode prog_8_method_3_code 71 = .ok (.goto 49, 3) := by decide +kernel
theorem zd_Sc_seek_120 : decode prog_8_method_3_code 120 = .ok (.iinc 5 1, 3) := by decide +kernel
theorem zd_Sc_seek_123 : decode prog_8_method_3_code 123 = .ok (.goto (-70), 3) := by decide +kernel
theorem zd_Sc_seek_13 : decode prog_8_method_3_code 13 = .ok (.iload 4, 2) := by decide +kernel
theorem zd_Sc_seek_15 : decode prog_8_method_3_code 15 = .ok (.invokestatic 63, 3) := by decide +kernel
theorem zd_Sc_seek_18 : decode prog_8_method_3_code 18 = .ok (.aload_n 0, 1) := by decide +kernel
theorem zd_Sc_seek_19 : decode prog_8_method_3_code 19 = .ok (.getfield 25, 3) := by decide +kernel
theorem zd_Sc_seek_22 : decode prog_8_method_3_code 22 = .ok (.if_icmp .lt 4, 3) := by decide +kernel
theorem zd_Sc_seek_26 : decode prog_8_method_3_code 26 = .ok (.aload_n 0, 1) := by decide +kernel
theorem zd_Sc_seek_27 : decode prog_8_method_3_code 27 = .ok (.iload 4, 2) := by decide +kernel
theorem zd_Sc_seek_29 : decode prog_8_method_3_code 29 = .ok (.invokestatic 63, 3) := by decide +kernel
theorem zd_Sc_seek_32 : decode prog_8_method_3_code 32 = .ok (.putfield 25, 3) := by decide +kernel
theorem zd_Sc_seek_35 : decode prog_8_method_3_code 35 = .ok (.aload_n 0, 1) := by decide +kernel
theorem zd_Sc_seek_36 : decode prog_8_method_3_code 36 = .ok (.getfield 15, 3) := by decide +kernel
theorem zd_Sc_seek_39 : decode prog_8_method_3_code 39 = .ok (.iconst 0, 1) := by decide +kernel
theorem zd_Sc_seek_40 : decode prog_8_method_3_code 40 = .ok (.aload_n 0, 1) := by decide +kernel
theorem zd_Sc_seek_41 : decode prog_8_method_3_code 41 = .ok (.getfield 18, 3) := by decide +kernel
theorem zd_Sc_seek_44 : decode prog_8_method_3_code 44 = .ok (.iconst 0, 1) := by decide +kernel
theorem zd_Sc_seek_45 : decode prog_8_method_3_code 45 = .ok (.iconst 3, 1) := by decide +kernel
theorem zd_Sc_seek_46 : decode prog_8_method_3_code 46 = .ok (.invokestatic 69, 3) := by decide +kernel
theorem zd_Sc_seek_49 : decode prog_8_method_3_code 49 = .ok (.return_, 1) := by decide +kernel
theorem zd_Sc_seek_25 : decode prog_8_method_3_code 25 = .ok (.return_, 1) := by decide +kernel
abbrev zm_Sc_seek : zQ := ("LoofahSaints$Scrubbing", prog_8_method_3_code, 6, (Option.none : Option Jvm.ClassFile.FieldType), false)
set_option maxRecDepth 100000 in
def fn_Sc_seek_L13 (o0 : Nat → Nat → Int32 → Int32 → Int32 → zS → Option (zS)) (a0 : Nat) (a4 : Int32) (S : zS) : Option (zS) :=
  bq (fn_Jd_bitCount a4 S) fun r3 S1 =>
  gd (gT S1 a0 106) <|
  br (decide (r3 < (zI S1 a0 4))) (bq (fn_Jd_bitCount a4 S1) fun r8 S6 =>
  gd (gT S6 a0 106) <|
  nm (uI S6 a0 4 r8) fun S10 =>
  gd (gT S10 a0 106) <|
  gd (gK S10 1 (zR S10 a0 1) (zR S10 a0 2) (0 : Int32) (0 : Int32) (3 : Int32)) <|
  nm (kI S10 (zR S10 a0 1) (0 : Int32).toNatClampNeg (zR S10 a0 2) (0 : Int32).toNatClampNeg (3 : Int32).toNatClampNeg) fun S13 =>
  some S13) <|
  some S1
set_option maxRecDepth 100000 in
set_option maxHeartbeats 4000000 in
theorem tm_Sc_seek_L13 {X : zXt} {d : Nat} {d' : Nat} (hd : 4 ≤ d ∧ d' + 1 ≤ d) {o0 : Nat → Nat → Int32 → Int32 → Int32 → zS → Option (zS)} (ho0 : ∀ {b0 : Nat} {b1 : Nat} {b2 : Int32} {b3 : Int32} {b4 : Int32} {S : zS} {S1 : zS}, o0 b0 b1 b2 b3 b4 S = some S1 → zM X zy_Sc_seek prog_8_method_3_code 6 (Option.none : Option Jvm.ClassFile.FieldType) d' [.ref b0, .ref b1, .int b2, .int b3, .int b4] S none S1) {S' : zS}  {a0 : Nat} {a4 : Int32} {S : zS} (h : fn_Sc_seek_L13 o0 a0 a4 S = some S') : zG X zm_Sc_seek d 13 [some (.ref a0), none, none, none, some (.int a4), none] [] S none S' := by
  have hd1 := hd.1
  have hd2 := hd.2
  unfold fn_Sc_seek_L13 at h
  refine zg_iload (pc' := 15) zd_Sc_seek_13 rfl rfl ?_
  obtain ⟨r3, S1, e2, h⟩ := bq_some h
  refine zg_callS (As := [.int a4]) (rest := []) (pc' := 18) zl_Sc_63 zq577 zd_Sc_seek_15 rfl rfl (Nat.le_of_ble_eq_true rfl) (by omega) (tm_Jd_bitCount (d := 2) (Nat.le_refl _) e2) rfl ?_
  refine zg_st (st' := [.int r3]) rfl ?_
  refine zg_aload_n (pc' := 19) zd_Sc_seek_18 rfl rfl ?_
  obtain ⟨g4, h⟩ := gd_some h
  refine zg_getI (pc' := 22) zf_Sc_25 zd_Sc_seek_19 (gT_ok g4) rfl ?_
  rcases br_some h with ⟨c5, h⟩ | ⟨c5, h⟩
  · refine zg_icmp_lt (tgt := 26) (pc' := 25) zd_Sc_seek_22 (by decide) rfl (fun _ => ?_) (fun q => absurd c5 q)
    refine zg_aload_n (pc' := 27) zd_Sc_seek_26 rfl rfl ?_
    refine zg_iload (pc' := 29) zd_Sc_seek_27 rfl rfl ?_
    obtain ⟨r8, S6, e7, h⟩ := bq_some h
    refine zg_callS (As := [.int a4]) (rest := [.ref a0]) (pc' := 32) zl_Sc_63 zq577 zd_Sc_seek_29 rfl rfl (Nat.le_of_ble_eq_true rfl) (by omega) (tm_Jd_bitCount (d := 2) (Nat.le_refl _) e7) rfl ?_
    refine zg_st (st' := [.int r8, .ref a0]) rfl ?_
    obtain ⟨g9, h⟩ := gd_some h
    refine zg_putI (pc' := 35) zf_Sc_25 zd_Sc_seek_32 (Or.inl rfl) (gT_ok g9) rfl ?_
    obtain ⟨S10, eS10, h⟩ := nm_some h
    refine zg_nm eS10 ?_
    refine zg_aload_n (pc' := 36) zd_Sc_seek_35 rfl rfl ?_
    obtain ⟨g11, h⟩ := gd_some h
    refine zg_getR (pc' := 39) zf_Sc_15 rfl zd_Sc_seek_36 (gT_ok g11) rfl ?_
    refine zg_iconst (x := (0 : Int32)) (pc' := 40) zd_Sc_seek_39 (by decide) rfl ?_
    refine zg_aload_n (pc' := 41) zd_Sc_seek_40 rfl rfl ?_
    refine zg_getR (pc' := 44) zf_Sc_18 rfl zd_Sc_seek_41 (gT_ok g11) rfl ?_
    refine zg_iconst (x := (0 : Int32)) (pc' := 45) zd_Sc_seek_44 (by decide) rfl ?_
    refine zg_iconst (x := (3 : Int32)) (pc' := 46) zd_Sc_seek_45 (by decide) rfl ?_
    obtain ⟨g12, h⟩ := gd_some h
    refine zg_copyI (pc' := 49) zq643 zq557 zq556 zq17 zd_Sc_seek_46 (by omega) (Nat.le_of_ble_eq_true rfl) (gK_ok g12).1 (gK_ok g12).2.1 (gK_ok g12).2.2.1 (gK_ok g12).2.2.2.1 (gK_ok g12).2.2.2.2.1 (gK_ok g12).2.2.2.2.2.1 (gK_ok g12).2.2.2.2.2.2.1 (gK_ok g12).2.2.2.2.2.2.2.1 (gK_ok g12).2.2.2.2.2.2.2.2 rfl ?_
    obtain ⟨S13, eS13, h⟩ := nm_some h
    refine zg_nm eS13 ?_
    obtain rfl := rt_v h
    exact zg_vret zd_Sc_seek_49 rfl
  · refine zg_icmp_lt (tgt := 26) (pc' := 25) zd_Sc_seek_22 (by decide) rfl (fun q => absurd q c5) (fun _ => ?_)
    obtain rfl := rt_v h
    exact zg_vret zd_Sc_seek_25 rfl
set_option maxRecDepth 100000 in
def fn_Sc_seek_L53 (o0 : Nat → Nat → Int32 → Int32 → Int32 → zS → Option (zS)) (a0 : Nat) (a1 : Nat) (a2 : Int32) (a3 : Int32) (a4 : Int32) (a5 : Int32) (S : zS) (K53 : Nat → Nat → Int32 → Int32 → Int32 → Int32 → zS → Option (zS)) : Option (zS) :=
  gd (gT S a1 101) <|
  br (decide ((zI S a1 6) ≤ a5)) (some S) <|
  br (decide (((a3 >>> (a5 &&& 31)) &&& (1 : Int32)) = 0)) (gd (gT S a0 106) <|
  gd (gT S (zR S a0 1) 1) <|
  gd (gP (zR S a0 1)) <|
  gd (gB a2 (zT S (zR S a0 1)).2) <|
  nm (uI S (zR S a0 1) a2.toNatClampNeg a5) fun S8 =>
  gd (gT S8 a1 101) <|
  gd (gT S8 (zR S8 a1 0) 6) <|
  gd (gB a5 (zT S8 (zR S8 a1 0)).2) <|
  gd (gT S8 a0 106) <|
  gd (gT S8 (zR S8 a0 0) 1) <|
  gd (gB a5 (zT S8 (zR S8 a0 0)).2) <|
  gd (gT S8 (zR S8 (zR S8 a1 0) a5.toNatClampNeg) 105) <|
  bq (fn_Sa_takes (zR S8 (zR S8 a1 0) a5.toNatClampNeg) a4 (zI S8 (zR S8 a0 0) a5.toNatClampNeg) S8) fun r18 S16 =>
  bv (o0 a0 a1 (a2 + (1 : Int32)) (a3 ||| ((1 : Int32) <<< (a5 &&& 31))) (a4 &&& (r18 ^^^ (-1 : Int32))) S16) fun S19 =>
  K53 a0 a1 a2 a3 a4 (a5 + (1 : Int32)) S19) <|
  K53 a0 a1 a2 a3 a4 (a5 + (1 : Int32)) S
set_option maxRecDepth 100000 in
set_option maxHeartbeats 4000000 in
theorem tm_Sc_seek_L53 {X : zXt} {d : Nat} {d' : Nat} (hd : 4 ≤ d ∧ d' + 1 ≤ d) {o0 : Nat → Nat → Int32 → Int32 → Int32 → zS → Option (zS)} (ho0 : ∀ {b0 : Nat} {b1 : Nat} {b2 : Int32} {b3 : Int32} {b4 : Int32} {S : zS} {S1 : zS}, o0 b0 b1 b2 b3 b4 S = some S1 → zM X zy_Sc_seek prog_8_method_3_code 6 (Option.none : Option Jvm.ClassFile.FieldType) d' [.ref b0, .ref b1, .int b2, .int b3, .int b4] S none S1) {S' : zS}  {K53 : Nat → Nat → Int32 → Int32 → Int32 → Int32 → zS → Option (zS)} (hK53 : ∀ (a0 : Nat) (a1 : Nat) (a2 : Int32) (a3 : Int32) (a4 : Int32) (a5 : Int32) (S : zS), K53 a0 a1 a2 a3 a4 a5 S = some S' → zG X zm_Sc_seek d 53 [some (.ref a0), some (.ref a1), some (.int a2), some (.int a3), some (.int a4), some (.int a5)] [] S none S') {a0 : Nat} {a1 : Nat} {a2 : Int32} {a3 : Int32} {a4 : Int32} {a5 : Int32} {S : zS} (h : fn_Sc_seek_L53 o0 a0 a1 a2 a3 a4 a5 S K53 = some S') : zG X zm_Sc_seek d 53 [some (.ref a0), some (.ref a1), some (.int a2), some (.int a3), some (.int a4), some (.int a5)] [] S none S' := by
  have hd1 := hd.1
  have hd2 := hd.2
  unfold fn_Sc_seek_L53 at h
  refine zg_iload (pc' := 55) zd_Sc_seek_53 rfl rfl ?_
  refine zg_aload_n (pc' := 56) zd_Sc_seek_55 rfl rfl ?_
  obtain ⟨g1, h⟩ := gd_some h
  refine zg_getI (pc' := 59) zf_Sc_28 zd_Sc_seek_56 (gT_ok g1) rfl ?_
  rcases br_some h with ⟨c2, h⟩ | ⟨c2, h⟩
  · refine zg_icmp_ge (tgt := 126) (pc' := 62) zd_Sc_seek_59 (by decide) rfl (fun _ => ?_) (fun q => absurd c2 q)
    obtain rfl := rt_v h
    exact zg_vret zd_Sc_seek_126 rfl
  · refine zg_icmp_ge (tgt := 126) (pc' := 62) zd_Sc_seek_59 (by decide) rfl (fun q => absurd q c2) (fun _ => ?_)
    refine zg_iload_n (pc' := 63) zd_Sc_seek_62 rfl rfl ?_
    refine zg_iload (pc' := 65) zd_Sc_seek_63 rfl rfl ?_
    refine zg_ishr (pc' := 66) zd_Sc_seek_65 rfl ?_
    refine zg_iconst (x := (1 : Int32)) (pc' := 67) zd_Sc_seek_66 (by decide) rfl ?_
    refine zg_iand (pc' := 68) zd_Sc_seek_67 rfl ?_
    rcases br_some h with ⟨c3, h⟩ | ⟨c3, h⟩
    · refine zg_if_eq (tgt := 74) (pc' := 71) zd_Sc_seek_68 (by decide) rfl (fun _ => ?_) (fun q => absurd c3 q)
      refine zg_aload_n (pc' := 75) zd_Sc_seek_74 rfl rfl ?_
      obtain ⟨g4, h⟩ := gd_some h
      refine zg_getR (pc' := 78) zf_Sc_15 rfl zd_Sc_seek_75 (gT_ok g4) rfl ?_
      refine zg_iload_n (pc' := 79) zd_Sc_seek_78 rfl rfl ?_
      refine zg_iload (pc' := 81) zd_Sc_seek_79 rfl rfl ?_
      obtain ⟨g5, h⟩ := gd_some h
      obtain ⟨g6, h⟩ := gd_some h
      obtain ⟨g7, h⟩ := gd_some h
      refine zg_iast (pc' := 82) zd_Sc_seek_81 (gT_ok g5) (gP_ok g6) (gB_ok g7) rfl ?_
      obtain ⟨S8, eS8, h⟩ := nm_some h
      refine zg_nm eS8 ?_
      refine zg_aload_n (pc' := 83) zd_Sc_seek_82 rfl rfl ?_
      refine zg_aload_n (pc' := 84) zd_Sc_seek_83 rfl rfl ?_
      refine zg_iload_n (pc' := 85) zd_Sc_seek_84 rfl rfl ?_
      refine zg_iconst (x := (1 : Int32)) (pc' := 86) zd_Sc_seek_85 (by decide) rfl ?_
      refine zg_iadd (pc' := 87) zd_Sc_seek_86 rfl ?_
      refine zg_iload_n (pc' := 88) zd_Sc_seek_87 rfl rfl ?_
      refine zg_iconst (x := (1 : Int32)) (pc' := 89) zd_Sc_seek_88 (by decide) rfl ?_
      refine zg_iload (pc' := 91) zd_Sc_seek_89 rfl rfl ?_
      refine zg_ishl (pc' := 92) zd_Sc_seek_91 rfl ?_
      refine zg_ior (pc' := 93) zd_Sc_seek_92 rfl ?_
      refine zg_iload (pc' := 95) zd_Sc_seek_93 rfl rfl ?_
      refine zg_aload_n (pc' := 96) zd_Sc_seek_95 rfl rfl ?_
      obtain ⟨g9, h⟩ := gd_some h
      refine zg_getR (pc' := 99) zf_Sc_33 rfl zd_Sc_seek_96 (gT_ok g9) rfl ?_
      refine zg_iload (pc' := 101) zd_Sc_seek_99 rfl rfl ?_
      obtain ⟨g10, h⟩ := gd_some h
      obtain ⟨g11, h⟩ := gd_some h
      refine zg_aald (t := 6) (pc' := 102) (by decide) zd_Sc_seek_101 (gT_ok g10) (gB_ok g11) rfl ?_
      refine zg_iload (pc' := 104) zd_Sc_seek_102 rfl rfl ?_
      refine zg_aload_n (pc' := 105) zd_Sc_seek_104 rfl rfl ?_
      obtain ⟨g12, h⟩ := gd_some h
      refine zg_getR (pc' := 108) zf_Sc_9 rfl zd_Sc_seek_105 (gT_ok g12) rfl ?_
      refine zg_iload (pc' := 110) zd_Sc_seek_108 rfl rfl ?_
      obtain ⟨g13, h⟩ := gd_some h
      obtain ⟨g14, h⟩ := gd_some h
      refine zg_iald (pc' := 111) zd_Sc_seek_110 (gT_ok g13) (gB_ok g14) rfl ?_
      obtain ⟨g15, h⟩ := gd_some h
      obtain ⟨r18, S16, e17, h⟩ := bq_some h
      refine zg_callV (ci := 5) (As := [.int a4, .int (zI S8 (zR S8 a0 0) a5.toNatClampNeg)]) (rest := [.int a4, .int (a3 ||| ((1 : Int32) <<< (a5 &&& 31))), .int (a2 + (1 : Int32)), .ref a1, .ref a0]) (pc' := 114) zl_Sc_75 zq373 zq374 ⟨_, rfl, rfl⟩ zd_Sc_seek_111 rfl rfl (Nat.le_of_ble_eq_true rfl) (by omega) (gT_ok g15) (tm_Sa_takes (d := 3) (Nat.le_refl _) e17) rfl ?_
      refine zg_st (st' := [.int r18, .int a4, .int (a3 ||| ((1 : Int32) <<< (a5 &&& 31))), .int (a2 + (1 : Int32)), .ref a1, .ref a0]) rfl ?_
      refine zg_iconst (x := (-1 : Int32)) (pc' := 115) zd_Sc_seek_114 (by decide) rfl ?_
      refine zg_ixor (pc' := 116) zd_Sc_seek_115 rfl ?_
      refine zg_iand (pc' := 117) zd_Sc_seek_116 rfl ?_
      obtain ⟨S19, e20, h⟩ := bv_some h
      refine zg_callS (As := [.ref a0, .ref a1, .int (a2 + (1 : Int32)), .int (a3 ||| ((1 : Int32) <<< (a5 &&& 31))), .int (a4 &&& (r18 ^^^ (-1 : Int32)))]) (rest := []) (pc' := 120) zl_Sc_59 zq640 zd_Sc_seek_117 rfl rfl (Nat.le_of_ble_eq_true rfl) (by omega) (ho0 e20) rfl ?_
      refine zg_st (st' := []) rfl ?_
      refine zg_iinc (y := (a5 + (1 : Int32))) (L' := [some (.ref a0), some (.ref a1), some (.int a2), some (.int a3), some (.int a4), some (.int (a5 + (1 : Int32)))]) (pc' := 123) zd_Sc_seek_120 rfl rfl (by decide) rfl rfl ?_
      refine zg_goto (tgt := 53) zd_Sc_seek_123 (by decide) ?_
      exact hK53 _ _ _ _ _ _ _ h
    · refine zg_if_eq (tgt := 74) (pc' := 71) zd_Sc_seek_68 (by decide) rfl (fun q => absurd q c3) (fun _ => ?_)
      refine zg_goto (tgt := 120) zd_Sc_seek_71 (by decide) ?_
      refine zg_iinc (y := (a5 + (1 : Int32))) (L' := [some (.ref a0), some (.ref a1), some (.int a2), some (.int a3), some (.int a4), some (.int (a5 + (1 : Int32)))]) (pc' := 123) zd_Sc_seek_120 rfl rfl (by decide) rfl rfl ?_
      refine zg_goto (tgt := 53) zd_Sc_seek_123 (by decide) ?_
      exact hK53 _ _ _ _ _ _ _ h
set_option maxRecDepth 100000 in
def fn_Sc_seek_o (o0 : Nat → Nat → Int32 → Int32 → Int32 → zS → Option (zS)) (a0 : Nat) (a1 : Nat) (a2 : Int32) (a3 : Int32) (a4 : Int32) (S : zS) : Option (zS) :=
  gd (gT S a0 106) <|
  br (decide ((zI S a0 3) ≤ a2)) (fn_Sc_seek_L13 o0 a0 a4 S) <|
  br (decide (a2 < (3 : Int32))) (lp (σ := Nat × Nat × Int32 × Int32 × Int32 × Int32 × zS) (fun k s => fn_Sc_seek_L53 o0 s.1 s.2.1 s.2.2.1 s.2.2.2.1 s.2.2.2.2.1 s.2.2.2.2.2.1 s.2.2.2.2.2.2 (fun (a0 : Nat) (a1 : Nat) (a2 : Int32) (a3 : Int32) (a4 : Int32) (a5 : Int32) (S : zS) => k (a0, a1, a2, a3, a4, a5, S))) FU (a0, a1, a2, a3, a4, (0 : Int32), S)) <|
  fn_Sc_seek_L13 o0 a0 a4 S
set_option maxRecDepth 100000 in
set_option maxHeartbeats 4000000 in
theorem tm_Sc_seek_o {X : zXt} {d : Nat} {d' : Nat} (hd : 4 ≤ d ∧ d' + 1 ≤ d) {o0 : Nat → Nat → Int32 → Int32 → Int32 → zS → Option (zS)} (ho0 : ∀ {b0 : Nat} {b1 : Nat} {b2 : Int32} {b3 : Int32} {b4 : Int32} {S : zS} {S1 : zS}, o0 b0 b1 b2 b3 b4 S = some S1 → zM X zy_Sc_seek prog_8_method_3_code 6 (Option.none : Option Jvm.ClassFile.FieldType) d' [.ref b0, .ref b1, .int b2, .int b3, .int b4] S none S1) {a0 : Nat} {a1 : Nat} {a2 : Int32} {a3 : Int32} {a4 : Int32} {S : zS} {S' : zS} (h : fn_Sc_seek_o o0 a0 a1 a2 a3 a4 S = some S') : zM X zy_Sc_seek prog_8_method_3_code 6 (Option.none : Option Jvm.ClassFile.FieldType) d [.ref a0, .ref a1, .int a2, .int a3, .int a4] S none S' := by
  refine zM_of (ini := false) (L := [some (.ref a0), some (.ref a1), some (.int a2), some (.int a3), some (.int a4), none]) (plainFor_of_name (by decide)) (fun h => by cases h) (Nat.le_of_ble_eq_true rfl) rfl ?_
  have hd1 := hd.1
  have hd2 := hd.2
  unfold fn_Sc_seek_o at h
  refine zg_iload_n (pc' := 1) zd_Sc_seek_0 rfl rfl ?_
  refine zg_aload_n (pc' := 2) zd_Sc_seek_1 rfl rfl ?_
  obtain ⟨g1, h⟩ := gd_some h
  refine zg_getI (pc' := 5) zf_Sc_21 zd_Sc_seek_2 (gT_ok g1) rfl ?_
  rcases br_some h with ⟨c2, h⟩ | ⟨c2, h⟩
  · refine zg_icmp_ge (tgt := 13) (pc' := 8) zd_Sc_seek_5 (by decide) rfl (fun _ => ?_) (fun q => absurd c2 q)
    refine zg_mask (L' := [some (.ref a0), none, none, none, some (.int a4), none]) (zmk_ok _ _ ⟨rfl, ⟨rfl, trivial⟩⟩) ?_
    exact tm_Sc_seek_L13 hd ho0 h
  · refine zg_icmp_ge (tgt := 13) (pc' := 8) zd_Sc_seek_5 (by decide) rfl (fun q => absurd q c2) (fun _ => ?_)
    refine zg_iload_n (pc' := 9) zd_Sc_seek_8 rfl rfl ?_
    refine zg_iconst (x := (3 : Int32)) (pc' := 10) zd_Sc_seek_9 (by decide) rfl ?_
    rcases br_some h with ⟨c3, h⟩ | ⟨c3, h⟩
    · refine zg_icmp_lt (tgt := 50) (pc' := 13) zd_Sc_seek_10 (by decide) rfl (fun _ => ?_) (fun q => absurd c3 q)
      refine zg_iconst (x := (0 : Int32)) (pc' := 51) zd_Sc_seek_50 (by decide) rfl ?_
      refine zg_istore (L' := [some (.ref a0), some (.ref a1), some (.int a2), some (.int a3), some (.int a4), some (.int (0 : Int32))]) (pc' := 53) zd_Sc_seek_51 (by decide) rfl rfl ?_
      exact lp_indh h (P := fun s => zG X zm_Sc_seek d 53 [some (.ref (s.1)), some (.ref (s.2.1)), some (.int (s.2.2.1)), some (.int (s.2.2.2.1)), some (.int (s.2.2.2.2.1)), some (.int (s.2.2.2.2.2.1))] [] (s.2.2.2.2.2.2) none S') (fun k hk s h => tm_Sc_seek_L53 hd ho0 (fun a0 a1 a2 a3 a4 a5 S h => hk (a0, a1, a2, a3, a4, a5, S) h) h)
    · refine zg_icmp_lt (tgt := 50) (pc' := 13) zd_Sc_seek_10 (by decide) rfl (fun q => absurd q c3) (fun _ => ?_)
      refine zg_mask (L' := [some (.ref a0), none, none, none, some (.int a4), none]) (zmk_ok _ _ ⟨rfl, ⟨rfl, trivial⟩⟩) ?_
      exact tm_Sc_seek_L13 hd ho0 h
def fs_Sc_seek (k : (Nat × Nat × Int32 × Int32 × Int32 × zS) → Option (zS)) (s : Nat × Nat × Int32 × Int32 × Int32 × zS) : Option (zS) :=
  fn_Sc_seek_o (fun (b0 : Nat) (b1 : Nat) (b2 : Int32) (b3 : Int32) (b4 : Int32) (S : zS) => k (b0, b1, b2, b3, b4, S)) s.1 s.2.1 s.2.2.1 s.2.2.2.1 s.2.2.2.2.1 s.2.2.2.2.2
def fn_Sc_seek (n : Nat) (b0 : Nat) (b1 : Nat) (b2 : Int32) (b3 : Int32) (b4 : Int32) (S : zS) : Option (zS) := lp fs_Sc_seek n (b0, b1, b2, b3, b4, S)
def ps_Sc_seek (X : zXt) (n : Nat) (s : Nat × Nat × Int32 × Int32 × Int32 × zS) (r : zS) : Prop :=
  ∀ d, 4 + n ≤ d → zM X zy_Sc_seek prog_8_method_3_code 6 (Option.none : Option Jvm.ClassFile.FieldType) d [.ref (s.1), .ref (s.2.1), .int (s.2.2.1), .int (s.2.2.2.1), .int (s.2.2.2.2.1)] (s.2.2.2.2.2) none (r)
set_option maxRecDepth 100000 in
theorem tr_Sc_seek {X : zXt} : ∀ (n : Nat) (s : Nat × Nat × Int32 × Int32 × Int32 × zS) (r : zS), lp fs_Sc_seek n s = some r → ps_Sc_seek X n s r := by
  refine lp_rec (fun n k hk s r h => ?_)
  intro d hd
  exact tm_Sc_seek_o (d' := 4 + n) ⟨by omega, by omega⟩ (fun {b0 b1 b2 b3 b4 S S1} e => hk (_, _, _, _, _, _) _ e (4 + n) (Nat.le_refl _)) h
theorem tm_Sc_seek {X : zXt} {n d : Nat} (hd : 4 + n ≤ d) {b0 : Nat} {b1 : Nat} {b2 : Int32} {b3 : Int32} {b4 : Int32} {S S' : zS} (h : fn_Sc_seek n b0 b1 b2 b3 b4 S = some S') : zM X zy_Sc_seek prog_8_method_3_code 6 (Option.none : Option Jvm.ClassFile.FieldType) d [.ref b0, .ref b1, .int b2, .int b3, .int b4] S none S' :=
  tr_Sc_seek n (b0, b1, b2, b3, b4, S) _ h d hd
theorem zd_Sc_choose_0 : decode prog_8_method_2_code 0 = .ok (.iconst 0, 1) := by decide +kernel
theorem zd_Sc_choose_1 : decode prog_8_method_2_code 1 = .ok (.istore 4, 2) := by decide +kernel
theorem zd_Sc_choose_3 : decode prog_8_method_2_code 3 = .ok (.iload 4, 2) := by decide +kernel
theorem zd_Sc_choose_5 : decode prog_8_method_2_code 5 = .ok (.aload_n 1, 1) := by decide +kernel
theorem zd_Sc_choose_6 : decode prog_8_method_2_code 6 = .ok (.getfield 28, 3) := by decide +kernel
theorem zd_Sc_choose_9 : decode prog_8_method_2_code 9 = .ok (.if_icmp .ge 34, 3) := by decide +kernel
theorem zd_Sc_choose_43 : decode prog_8_method_2_code 43 = .ok (.aload_n 0, 1) := by decide +kernel
theorem zd_Sc_choose_44 : decode prog_8_method_2_code 44 = .ok (.iload_n 3, 1) := by decide +kernel
theorem zd_Sc_choose_45 : decode prog_8_method_2_code 45 = .ok (.iconst 3, 1) := by decide +kernel
theorem zd_Sc_choose_46 : decode prog_8_method_2_code 46 = .ok (.invokestatic 50, 3) := by decide +kernel
theorem zd_Sc_choose_49 : decode prog_8_method_2_code 49 = .ok (.putfield 21, 3) := by decide +kernel
theorem zd_Sc_choose_52 : decode prog_8_method_2_code 52 = .ok (.aload_n 0, 1) := by decide +kernel
theorem zd_Sc_choose_53 : decode prog_8_method_2_code 53 = .ok (.bipush 13, 2) := by decide +kernel
theorem zd_Sc_choose_55 : decode prog_8_method_2_code 55 = .ok (.putfield 25, 3) := by decide +kernel
theorem zd_Sc_choose_58 : decode prog_8_method_2_code 58 = .ok (.aload_n 0, 1) := by decide +kernel
theorem zd_Sc_choose_59 : decode prog_8_method_2_code 59 = .ok (.aload_n 1, 1) := by decide +kernel
theorem zd_Sc_choose_60 : decode prog_8_method_2_code 60 = .ok (.iconst 0, 1) := by decide +kernel
theorem zd_Sc_choose_61 : decode prog_8_method_2_code 61 = .ok (.iconst 0, 1) := by decide +kernel
theorem zd_Sc_choose_62 : decode prog_8_method_2_code 62 = .ok (.aload_n 1, 1) := by decide +kernel
theorem zd_Sc_choose_63 : decode prog_8_method_2_code 63 = .ok (.getfield 56, 3) := by decide +kernel
theorem zd_Sc_choose_66 : decode prog_8_method_2_code 66 = .ok (.iload_n 2, 1) := by decide +kernel
theorem zd_Sc_choose_67 : decode prog_8_method_2_code 67 = .ok (.iaload, 1) := by decide +kernel
theorem zd_Sc_choose_68 : decode prog_8_method_2_code 68 = .ok (.invokestatic 59, 3) := by decide +kernel
theorem zd_Sc_choose_71 : decode prog_8_method_2_code 71 = .ok (.return_, 1) := by decide +kernel
theorem zd_Sc_choose_12 : decode prog_8_method_2_code 12 = .ok (.aload_n 0, 1) := by decide +kernel
theorem zd_Sc_choose_13 : decode prog_8_method_2_code 13 = .ok (.getfield 9, 3) := by decide +kernel
theorem zd_Sc_choose_16 : decode prog_8_method_2_code 16 = .ok (.iload 4, 2) := by decide +kernel
theorem zd_Sc_choose_18 : decode prog_8_method_2_code 18 = .ok (.aload_n 1, 1) := by decide +kernel
theorem zd_Sc_choose_19 : decode prog_8_method_2_code 19 = .ok (.getfield 33, 3) := by decide +kernel
theorem zd_Sc_choose_22 : decode prog_8_method_2_code 22 = .ok (.iload 4, 2) := by decide +kernel
theorem zd_Sc_choose_24 : decode prog_8_method_2_code 24 = .ok (.aaload, 1) := by decide +kernel
theorem zd_Sc_choose_25 : decode prog_8_method_2_code 25 = .ok (.aload_n 1, 1) := by decide +kernel
theorem zd_Sc_choose_26 : decode prog_8_method_2_code 26 = .ok (.getfield 37, 3) := by decide +kernel
theorem zd_Sc_choose_29 : decode prog_8_method_2_code 29 = .ok (.aload_n 1, 1) := by decide +kernel
theorem zd_Sc_choose_30 : decode prog_8_method_2_code 30 = .ok (.getfield 41, 3) := by decide +kernel
theorem zd_Sc_choose_33 : decode prog_8_method_2_code 33 = .ok (.invokevirtual 44, 3) := by decide +kernel
theorem zd_Sc_choose_36 : decode prog_8_method_2_code 36 = .ok (.iastore, 1) := by decide +kernel
theorem zd_Sc_choose_37 : decode prog_8_method_2_code 37 = .ok (.iinc 4 1, 3) := by decide +kernel
theorem zd_Sc_choose_40 : decode prog_8_method_2_code 40 = .ok (.goto (-37), 3) := by decide +kernel
abbrev zm_Sc_choose : zQ := ("LoofahSaints$Scrubbing", prog_8_method_2_code, 5, (Option.none : Option Jvm.ClassFile.FieldType), false)
set_option maxRecDepth 100000 in
def fn_Sc_choose_L3 (a0 : Nat) (a1 : Nat) (a2 : Int32) (a3 : Int32) (a4 : Int32) (S : zS) (K3 : Nat → Nat → Int32 → Int32 → Int32 → zS → Option (zS)) : Option (zS) :=
  gd (gT S a1 101) <|
  br (decide ((zI S a1 6) ≤ a4)) (bq (fn_Jd_min a3 (3 : Int32) S) fun r5 S3 =>
  gd (gT S3 a0 106) <|
  nm (uI S3 a0 3 r5) fun S7 =>
  gd (gT S7 a0 106) <|
  nm (uI S7 a0 4 (13 : Int32)) fun S9 =>
  gd (gT S9 a1 101) <|
  gd (gT S9 (zR S9 a1 1) 1) <|
  gd (gB a2 (zT S9 (zR S9 a1 1)).2) <|
  bv (fn_Sc_seek FR a0 a1 (0 : Int32) (0 : Int32) (zI S9 (zR S9 a1 1) a2.toNatClampNeg) S9) fun S13 =>
  some S13) <|
  gd (gT S a0 106) <|
  gd (gT S (zR S a1 0) 6) <|
  gd (gB a4 (zT S (zR S a1 0)).2) <|
  gd (gT S (zR S (zR S a1 0) a4.toNatClampNeg) 105) <|
  bq (fn_Sa_grit (zR S (zR S a1 0) a4.toNatClampNeg) (zR S a1 8) (zI S a1 7) S) fun r21 S19 =>
  gd (gT S19 (zR S a0 0) 1) <|
  gd (gP (zR S a0 0)) <|
  gd (gB a4 (zT S19 (zR S a0 0)).2) <|
  nm (uI S19 (zR S a0 0) a4.toNatClampNeg r21) fun S25 =>
  K3 a0 a1 a2 a3 (a4 + (1 : Int32)) S25
set_option maxRecDepth 100000 in
set_option maxHeartbeats 4000000 in
theorem tm_Sc_choose_L3 {X : zXt} {d : Nat} (hd : 65 ≤ d) {S' : zS}  {K3 : Nat → Nat → Int32 → Int32 → Int32 → zS → Option (zS)} (hK3 : ∀ (a0 : Nat) (a1 : Nat) (a2 : Int32) (a3 : Int32) (a4 : Int32) (S : zS), K3 a0 a1 a2 a3 a4 S = some S' → zG X zm_Sc_choose d 3 [some (.ref a0), some (.ref a1), some (.int a2), some (.int a3), some (.int a4)] [] S none S') {a0 : Nat} {a1 : Nat} {a2 : Int32} {a3 : Int32} {a4 : Int32} {S : zS} (h : fn_Sc_choose_L3 a0 a1 a2 a3 a4 S K3 = some S') : zG X zm_Sc_choose d 3 [some (.ref a0), some (.ref a1), some (.int a2), some (.int a3), some (.int a4)] [] S none S' := by
  unfold fn_Sc_choose_L3 at h
  refine zg_iload (pc' := 5) zd_Sc_choose_3 rfl rfl ?_
  refine zg_aload_n (pc' := 6) zd_Sc_choose_5 rfl rfl ?_
  obtain ⟨g1, h⟩ := gd_some h
  refine zg_getI (pc' := 9) zf_Sc_28 zd_Sc_choose_6 (gT_ok g1) rfl ?_
  rcases br_some h with ⟨c2, h⟩ | ⟨c2, h⟩
  · refine zg_icmp_ge (tgt := 43) (pc' := 12) zd_Sc_choose_9 (by decide) rfl (fun _ => ?_) (fun q => absurd c2 q)
    refine zg_aload_n (pc' := 44) zd_Sc_choose_43 rfl rfl ?_
    refine zg_iload_n (pc' := 45) zd_Sc_choose_44 rfl rfl ?_
    refine zg_iconst (x := (3 : Int32)) (pc' := 46) zd_Sc_choose_45 (by decide) rfl ?_
    obtain ⟨r5, S3, e4, h⟩ := bq_some h
    refine zg_callS (As := [.int a3, .int (3 : Int32)]) (rest := [.ref a0]) (pc' := 49) zl_Sc_50 zq398 zd_Sc_choose_46 rfl rfl (Nat.le_of_ble_eq_true rfl) (by omega) (tm_Jd_min (d := 2) (Nat.le_refl _) e4) rfl ?_
    refine zg_st (st' := [.int r5, .ref a0]) rfl ?_
    obtain ⟨g6, h⟩ := gd_some h
    refine zg_putI (pc' := 52) zf_Sc_21 zd_Sc_choose_49 (Or.inl rfl) (gT_ok g6) rfl ?_
    obtain ⟨S7, eS7, h⟩ := nm_some h
    refine zg_nm eS7 ?_
    refine zg_aload_n (pc' := 53) zd_Sc_choose_52 rfl rfl ?_
    refine zg_bipush (x := (13 : Int32)) (pc' := 55) zd_Sc_choose_53 (by decide) rfl ?_
    obtain ⟨g8, h⟩ := gd_some h
    refine zg_putI (pc' := 58) zf_Sc_25 zd_Sc_choose_55 (Or.inl rfl) (gT_ok g8) rfl ?_
    obtain ⟨S9, eS9, h⟩ := nm_some h
    refine zg_nm eS9 ?_
    refine zg_aload_n (pc' := 59) zd_Sc_choose_58 rfl rfl ?_
    refine zg_aload_n (pc' := 60) zd_Sc_choose_59 rfl rfl ?_
    refine zg_iconst (x := (0 : Int32)) (pc' := 61) zd_Sc_choose_60 (by decide) rfl ?_
    refine zg_iconst (x := (0 : Int32)) (pc' := 62) zd_Sc_choose_61 (by decide) rfl ?_
    refine zg_aload_n (pc' := 63) zd_Sc_choose_62 rfl rfl ?_
    obtain ⟨g10, h⟩ := gd_some h
    refine zg_getR (pc' := 66) zf_Sc_56 rfl zd_Sc_choose_63 (gT_ok g10) rfl ?_
    refine zg_iload_n (pc' := 67) zd_Sc_choose_66 rfl rfl ?_
    obtain ⟨g11, h⟩ := gd_some h
    obtain ⟨g12, h⟩ := gd_some h
    refine zg_iald (pc' := 68) zd_Sc_choose_67 (gT_ok g11) (gB_ok g12) rfl ?_
    obtain ⟨S13, e14, h⟩ := bv_some h
    refine zg_callS (As := [.ref a0, .ref a1, .int (0 : Int32), .int (0 : Int32), .int (zI S9 (zR S9 a1 1) a2.toNatClampNeg)]) (rest := []) (pc' := 71) zl_Sc_59 zq640 zd_Sc_choose_68 rfl rfl (Nat.le_of_ble_eq_true rfl) (by omega) (tm_Sc_seek (d := 64) (by decide) e14) rfl ?_
    refine zg_st (st' := []) rfl ?_
    obtain rfl := rt_v h
    exact zg_vret zd_Sc_choose_71 rfl
  · refine zg_icmp_ge (tgt := 43) (pc' := 12) zd_Sc_choose_9 (by decide) rfl (fun q => absurd q c2) (fun _ => ?_)
    refine zg_aload_n (pc' := 13) zd_Sc_choose_12 rfl rfl ?_
    obtain ⟨g15, h⟩ := gd_some h
    refine zg_getR (pc' := 16) zf_Sc_9 rfl zd_Sc_choose_13 (gT_ok g15) rfl ?_
    refine zg_iload (pc' := 18) zd_Sc_choose_16 rfl rfl ?_
    refine zg_aload_n (pc' := 19) zd_Sc_choose_18 rfl rfl ?_
    refine zg_getR (pc' := 22) zf_Sc_33 rfl zd_Sc_choose_19 (gT_ok g1) rfl ?_
    refine zg_iload (pc' := 24) zd_Sc_choose_22 rfl rfl ?_
    obtain ⟨g16, h⟩ := gd_some h
    obtain ⟨g17, h⟩ := gd_some h
    refine zg_aald (t := 6) (pc' := 25) (by decide) zd_Sc_choose_24 (gT_ok g16) (gB_ok g17) rfl ?_
    refine zg_aload_n (pc' := 26) zd_Sc_choose_25 rfl rfl ?_
    refine zg_getR (pc' := 29) zf_Sc_37 rfl zd_Sc_choose_26 (gT_ok g1) rfl ?_
    refine zg_aload_n (pc' := 30) zd_Sc_choose_29 rfl rfl ?_
    refine zg_getI (pc' := 33) zf_Sc_41 zd_Sc_choose_30 (gT_ok g1) rfl ?_
    obtain ⟨g18, h⟩ := gd_some h
    obtain ⟨r21, S19, e20, h⟩ := bq_some h
    refine zg_callV (ci := 5) (As := [.ref (zR S a1 8), .int (zI S a1 7)]) (rest := [.int a4, .ref (zR S a0 0)]) (pc' := 36) zl_Sc_44 zq356 zq357 ⟨_, rfl, rfl⟩ zd_Sc_choose_33 rfl rfl (Nat.le_of_ble_eq_true rfl) (by omega) (gT_ok g18) (tm_Sa_grit (d := 4) (Nat.le_refl _) e20) rfl ?_
    refine zg_st (st' := [.int r21, .int a4, .ref (zR S a0 0)]) rfl ?_
    obtain ⟨g22, h⟩ := gd_some h
    obtain ⟨g23, h⟩ := gd_some h
    obtain ⟨g24, h⟩ := gd_some h
    refine zg_iast (pc' := 37) zd_Sc_choose_36 (gT_ok g22) (gP_ok g23) (gB_ok g24) rfl ?_
    obtain ⟨S25, eS25, h⟩ := nm_some h
    refine zg_nm eS25 ?_
    refine zg_iinc (y := (a4 + (1 : Int32))) (L' := [some (.ref a0), some (.ref a1), some (.int a2), some (.int a3), some (.int (a4 + (1 : Int32)))]) (pc' := 40) zd_Sc_choose_37 rfl rfl (by decide) rfl rfl ?_
    refine zg_goto (tgt := 3) zd_Sc_choose_40 (by decide) ?_
    exact hK3 _ _ _ _ _ _ h
set_option maxRecDepth 100000 in
def fn_Sc_choose (a0 : Nat) (a1 : Nat) (a2 : Int32) (a3 : Int32) (S : zS) : Option (zS) :=
  lp (σ := Nat × Nat × Int32 × Int32 × Int32 × zS) (fun k s => fn_Sc_choose_L3 s.1 s.2.1 s.2.2.1 s.2.2.2.1 s.2.2.2.2.1 s.2.2.2.2.2 (fun (a0 : Nat) (a1 : Nat) (a2 : Int32) (a3 : Int32) (a4 : Int32) (S : zS) => k (a0, a1, a2, a3, a4, S))) FU (a0, a1, a2, a3, (0 : Int32), S)
set_option maxRecDepth 100000 in
set_option maxHeartbeats 4000000 in
theorem tm_Sc_choose {X : zXt} {d : Nat} (hd : 65 ≤ d) {a0 : Nat} {a1 : Nat} {a2 : Int32} {a3 : Int32} {S : zS} {S' : zS} (h : fn_Sc_choose a0 a1 a2 a3 S = some S') : zM X zy_Sc_choose prog_8_method_2_code 5 (Option.none : Option Jvm.ClassFile.FieldType) d [.ref a0, .ref a1, .int a2, .int a3] S none S' := by
  refine zM_of (ini := false) (L := [some (.ref a0), some (.ref a1), some (.int a2), some (.int a3), none]) (plainFor_of_name (by decide)) (fun h => by cases h) (Nat.le_of_ble_eq_true rfl) rfl ?_
  unfold fn_Sc_choose at h
  refine zg_iconst (x := (0 : Int32)) (pc' := 1) zd_Sc_choose_0 (by decide) rfl ?_
  refine zg_istore (L' := [some (.ref a0), some (.ref a1), some (.int a2), some (.int a3), some (.int (0 : Int32))]) (pc' := 3) zd_Sc_choose_1 (by decide) rfl rfl ?_
  exact lp_indh h (P := fun s => zG X zm_Sc_choose d 3 [some (.ref (s.1)), some (.ref (s.2.1)), some (.int (s.2.2.1)), some (.int (s.2.2.2.1)), some (.int (s.2.2.2.2.1))] [] (s.2.2.2.2.2) none S') (fun k hk s h => tm_Sc_choose_L3 hd (fun a0 a1 a2 a3 a4 S h => hk (a0, a1, a2, a3, a4, S) h) h)
theorem zd_Sh_init_0 : decode prog_9_method_1_code 0 = .ok (.aload_n 0, 1) := by decide +kernel
theorem zd_Sh_init_1 : decode prog_9_method_1_code 1 = .ok (.invokespecial 3, 3) := by decide +kernel
theorem zd_Sh_init_4 : decode prog_9_method_1_code 4 = .ok (.aload_n 0, 1) := by decide +kernel
theorem zd_Sh_init_5 : decode prog_9_method_1_code 5 = .ok (.bipush 24, 2) := by decide +kernel
theorem zd_Sh_init_7 : decode prog_9_method_1_code 7 = .ok (.newarray .int, 2) := by decide +kernel
theorem zd_Sh_init_9 : decode prog_9_method_1_code 9 = .ok (.putfield 9, 3) := by decide +kernel
theorem zd_Sh_init_12 : decode prog_9_method_1_code 12 = .ok (.aload_n 0, 1) := by decide +kernel
theorem zd_Sh_init_13 : decode prog_9_method_1_code 13 = .ok (.bipush 6, 2) := by decide +kernel
theorem zd_Sh_init_15 : decode prog_9_method_1_code 15 = .ok (.newarray .int, 2) := by decide +kernel
theorem zd_Sh_init_17 : decode prog_9_method_1_code 17 = .ok (.putfield 15, 3) := by decide +kernel
theorem zd_Sh_init_20 : decode prog_9_method_1_code 20 = .ok (.aload_n 0, 1) := by decide +kernel
theorem zd_Sh_init_21 : decode prog_9_method_1_code 21 = .ok (.bipush 6, 2) := by decide +kernel
theorem zd_Sh_init_23 : decode prog_9_method_1_code 23 = .ok (.newarray .int, 2) := by decide +kernel
theorem zd_Sh_init_25 : decode prog_9_method_1_code 25 = .ok (.putfield 18, 3) := by decide +kernel
theorem zd_Sh_init_28 : decode prog_9_method_1_code 28 = .ok (.aload_n 0, 1) := by decide +kernel
theorem zd_Sh_init_29 : decode prog_9_method_1_code 29 = .ok (.iconst 0, 1) := by decide +kernel
theorem zd_Sh_init_30 : decode prog_9_method_1_code 30 = .ok (.putfield 21, 3) := by decide +kernel
theorem zd_Sh_init_33 : decode prog_9_method_1_code 33 = .ok (.aload_n 0, 1) := by decide +kernel
theorem zd_Sh_init_34 : decode prog_9_method_1_code 34 = .ok (.iconst 0, 1) := by decide +kernel
theorem zd_Sh_init_35 : decode prog_9_method_1_code 35 = .ok (.putfield 25, 3) := by decide +kernel
theorem zd_Sh_init_38 : decode prog_9_method_1_code 38 = .ok (.return_, 1) := by decide +kernel
abbrev zm_Sh_init : zQ := ("LoofahSaints$Sharing", prog_9_method_1_code, 1, (Option.none : Option Jvm.ClassFile.FieldType), true)
set_option maxRecDepth 100000 in
def fn_Sh_init (a0 : Nat) (S : zS) : Option (zS) :=
  gd (gT S a0 107) <|
  gd (gN (24 : Int32)) <|
  nm (uN S (1, (24 : Int32).toNatClampNeg)) fun S3 =>
  gd (gT S3 a0 107) <|
  nm (uR S3 a0 0 (zN S)) fun S5 =>
  gd (gN (6 : Int32)) <|
  nm (uN S5 (1, (6 : Int32).toNatClampNeg)) fun S7 =>
  gd (gT S7 a0 107) <|
  nm (uR S7 a0 1 (zN S5)) fun S9 =>
  nm (uN S9 (1, (6 : Int32).toNatClampNeg)) fun S10 =>
  gd (gT S10 a0 107) <|
  nm (uR S10 a0 2 (zN S9)) fun S12 =>
  gd (gT S12 a0 107) <|
  nm (uI S12 a0 3 (0 : Int32)) fun S14 =>
  gd (gT S14 a0 107) <|
  nm (uI S14 a0 4 (0 : Int32)) fun S16 =>
  some S16
set_option maxRecDepth 100000 in
set_option maxHeartbeats 4000000 in
theorem tm_Sh_init {X : zXt} {d : Nat} (hd : 2 ≤ d) {a0 : Nat} {S : zS} {S' : zS} (h : fn_Sh_init a0 S = some S') : zM X zy_Sh_init prog_9_method_1_code 1 (Option.none : Option Jvm.ClassFile.FieldType) d [.ref a0] S none S' := by
  refine zM_of (ini := true) (L := [some (.ref a0)]) (plainFor_of_name (by decide)) (fun _ => rfl) (Nat.le_of_ble_eq_true rfl) rfl ?_
  unfold fn_Sh_init at h
  refine zg_aload_n (pc' := 1) zd_Sh_init_0 rfl rfl ?_
  obtain ⟨g1, h⟩ := gd_some h
  refine zg_oinit (ci := 7) (pc' := 4) zq84 zq25 zq26 zd_Sh_init_1 (by omega) (gT_ok g1) (Nat.le_of_ble_eq_true rfl) rfl ?_
  refine zg_aload_n (pc' := 5) zd_Sh_init_4 rfl rfl ?_
  refine zg_bipush (x := (24 : Int32)) (pc' := 7) zd_Sh_init_5 (by decide) rfl ?_
  obtain ⟨g2, h⟩ := gd_some h
  refine zg_newa (t := 1) (ty := .int) (pc' := 9) rfl (by simp) zq59 zd_Sh_init_7 (gN_ok g2).1 (gN_ok g2).2 rfl ?_
  obtain ⟨S3, eS3, h⟩ := nm_some h
  refine zg_nm eS3 ?_
  obtain ⟨g4, h⟩ := gd_some h
  refine zg_putR (pc' := 12) zf_Sh_9 rfl zd_Sh_init_9 (Or.inr ⟨rfl, _, rfl, rfl⟩) (gT_ok g4) rfl ?_
  obtain ⟨S5, eS5, h⟩ := nm_some h
  refine zg_nm eS5 ?_
  refine zg_aload_n (pc' := 13) zd_Sh_init_12 rfl rfl ?_
  refine zg_bipush (x := (6 : Int32)) (pc' := 15) zd_Sh_init_13 (by decide) rfl ?_
  obtain ⟨g6, h⟩ := gd_some h
  refine zg_newa (t := 1) (ty := .int) (pc' := 17) rfl (by simp) zq59 zd_Sh_init_15 (gN_ok g6).1 (gN_ok g6).2 rfl ?_
  obtain ⟨S7, eS7, h⟩ := nm_some h
  refine zg_nm eS7 ?_
  obtain ⟨g8, h⟩ := gd_some h
  refine zg_putR (pc' := 20) zf_Sh_15 rfl zd_Sh_init_17 (Or.inr ⟨rfl, _, rfl, rfl⟩) (gT_ok g8) rfl ?_
  obtain ⟨S9, eS9, h⟩ := nm_some h
  refine zg_nm eS9 ?_
  refine zg_aload_n (pc' := 21) zd_Sh_init_20 rfl rfl ?_
  refine zg_bipush (x := (6 : Int32)) (pc' := 23) zd_Sh_init_21 (by decide) rfl ?_
  refine zg_newa (t := 1) (ty := .int) (pc' := 25) rfl (by simp) zq59 zd_Sh_init_23 (gN_ok g6).1 (gN_ok g6).2 rfl ?_
  obtain ⟨S10, eS10, h⟩ := nm_some h
  refine zg_nm eS10 ?_
  obtain ⟨g11, h⟩ := gd_some h
  refine zg_putR (pc' := 28) zf_Sh_18 rfl zd_Sh_init_25 (Or.inr ⟨rfl, _, rfl, rfl⟩) (gT_ok g11) rfl ?_
  obtain ⟨S12, eS12, h⟩ := nm_some h
  refine zg_nm eS12 ?_
  refine zg_aload_n (pc' := 29) zd_Sh_init_28 rfl rfl ?_
  refine zg_iconst (x := (0 : Int32)) (pc' := 30) zd_Sh_init_29 (by decide) rfl ?_
  obtain ⟨g13, h⟩ := gd_some h
  refine zg_putI (pc' := 33) zf_Sh_21 zd_Sh_init_30 (Or.inl rfl) (gT_ok g13) rfl ?_
  obtain ⟨S14, eS14, h⟩ := nm_some h
  refine zg_nm eS14 ?_
  refine zg_aload_n (pc' := 34) zd_Sh_init_33 rfl rfl ?_
  refine zg_iconst (x := (0 : Int32)) (pc' := 35) zd_Sh_init_34 (by decide) rfl ?_
  obtain ⟨g15, h⟩ := gd_some h
  refine zg_putI (pc' := 38) zf_Sh_25 zd_Sh_init_35 (Or.inl rfl) (gT_ok g15) rfl ?_
  obtain ⟨S16, eS16, h⟩ := nm_some h
  refine zg_nm eS16 ?_
  obtain rfl := rt_v h
  exact zg_vret zd_Sh_init_38 rfl
theorem zd_Sh_seek_0 : decode prog_9_method_3_code 0 = .ok (.iload_n 1, 1) := by decide +kernel
theorem zd_Sh_seek_1 : decode prog_9_method_3_code 1 = .ok (.aload_n 0, 1) := by decide +kernel
theorem zd_Sh_seek_2 : decode prog_9_method_3_code 2 = .ok (.getfield 21, 3) := by decide +kernel
theorem zd_Sh_seek_5 : decode prog_9_method_3_code 5 = .ok (.if_icmp .ge 9, 3) := by decide +kernel
theorem zd_Sh_seek_8 : decode prog_9_method_3_code 8 = .ok (.iload_n 1, 1) := by decide +kernel
theorem zd_Sh_seek_9 : decode prog_9_method_3_code 9 = .ok (.bipush 6, 2) := by decide +kernel
theorem zd_Sh_seek_11 : decode prog_9_method_3_code 11 = .ok (.if_icmp .lt 33, 3) := by decide +kernel
theorem zd_Sh_seek_44 : decode prog_9_method_3_code 44 = .ok (.iconst 0, 1) := by decide +kernel
theorem zd_Sh_seek_45 : decode prog_9_method_3_code 45 = .ok (.istore 4, 2) := by decide +kernel
theorem zd_Sh_seek_47 : decode prog_9_method_3_code 47 = .ok (.iload 4, 2) := by decide +kernel
theorem zd_Sh_seek_49 : decode prog_9_method_3_code 49 = .ok (.iconst 4, 1) := by decide +kernel
theorem zd_Sh_seek_50 : decode prog_9_method_3_code 50 = .ok (.if_icmp .ge 65, 3) := by decide +kernel
theorem zd_Sh_seek_115 : decode prog_9_method_3_code 115 = .ok (.aload_n 0, 1) := by decide +kernel
theorem zd_Sh_seek_116 : decode prog_9_method_3_code 116 = .ok (.getfield 15, 3) := by decide +kernel
theorem zd_Sh_seek_119 : decode prog_9_method_3_code 119 = .ok (.iload_n 1, 1) := by decide +kernel
theorem zd_Sh_seek_120 : decode prog_9_method_3_code 120 = .ok (.bipush 9, 2) := by decide +kernel
theorem zd_Sh_seek_122 : decode prog_9_method_3_code 122 = .ok (.iastore, 1) := by decide +kernel
theorem zd_Sh_seek_123 : decode prog_9_method_3_code 123 = .ok (.aload_n 0, 1) := by decide +kernel
theorem zd_Sh_seek_124 : decode prog_9_method_3_code 124 = .ok (.iload_n 1, 1) := by decide +kernel
theorem zd_Sh_seek_125 : decode prog_9_method_3_code 125 = .ok (.iconst 1, 1) := by decide +kernel
theorem zd_Sh_seek_126 : decode prog_9_method_3_code 126 = .ok (.iadd, 1) := by decide +kernel
theorem zd_Sh_seek_127 : decode prog_9_method_3_code 127 = .ok (.iload_n 2, 1) := by decide +kernel
theorem zd_Sh_seek_128 : decode prog_9_method_3_code 128 = .ok (.iload_n 3, 1) := by decide +kernel
theorem zd_Sh_seek_129 : decode prog_9_method_3_code 129 = .ok (.invokestatic 64, 3) := by decide +kernel
theorem zd_Sh_seek_132 : decode prog_9_method_3_code 132 = .ok (.return_, 1) := by decide +kernel
theorem zd_Sh_seek_53 : decode prog_9_method_3_code 53 = .ok (.aload_n 0, 1) := by decide +kernel
theorem zd_Sh_seek_54 : decode prog_9_method_3_code 54 = .ok (.getfield 9, 3) := by decide +kernel
theorem zd_Sh_seek_57 : decode prog_9_method_3_code 57 = .ok (.iload_n 1, 1) := by decide +kernel
theorem zd_Sh_seek_58 : decode prog_9_method_3_code 58 = .ok (.iconst 4, 1) := by decide +kernel
theorem zd_Sh_seek_59 : decode prog_9_method_3_code 59 = .ok (.imul, 1) := by decide +kernel
theorem zd_Sh_seek_60 : decode prog_9_method_3_code 60 = .ok (.iload 4, 2) := by decide +kernel
theorem zd_Sh_seek_62 : decode prog_9_method_3_code 62 = .ok (.iadd, 1) := by decide +kernel
theorem zd_Sh_seek_63 : decode prog_9_method_3_code 63 = .ok (.iaload, 1) := by decide +kernel
theorem zd_Sh_seek_64 : decode prog_9_method_3_code 64 = .ok (.istore 5, 2) := by decide +kernel
theorem zd_Sh_seek_66 : decode prog_9_method_3_code 66 = .ok (.iload 5, 2) := by decide +kernel
theorem zd_Sh_seek_68 : decode prog_9_method_3_code 68 = .ok (.iconst (-1), 1) := by decide +kernel
theorem zd_Sh_seek_69 : decode prog_9_method_3_code 69 = .ok (.if_icmp .eq 40, 3) := by decide +kernel
theorem zd_Sh_seek_72 : decode prog_9_method_3_code 72 = .ok (.iload_n 2, 1) := by decide +kernel
theorem zd_Sh_seek_73 : decode prog_9_method_3_code 73 = .ok (.iload 4, 2) := by decide +kernel
theorem zd_Sh_seek_75 : decode prog_9_method_3_code 75 = .ok (.ishr, 1) := by decide +kernel
theorem zd_Sh_seek_76 : decode prog_9_method_3_code 76 = .ok (.iconst 1, 1) := by decide +kernel
theorem zd_Sh_seek_77 : decode prog_9_method_3_code 77 = .ok (.iand, 1) := by decide +kernel
theorem zd_Sh_seek_78 : decode prog_9_method_3_code 78 = .ok (.ifCond .eq 6, 3) := by decide +kernel
theorem zd_Sh_seek_84 : decode prog_9_method_3_code 84 = .ok (.aload_n 0, 1) := by decide +kernel
theorem zd_Sh_seek_85 : decode prog_9_method_3_code 85 = .ok (.getfield 15, 3) := by decide +kernel
theorem zd_Sh_seek_88 : decode prog_9_method_3_code 88 = .ok (.iload_n 1, 1) := by decide +kernel
theorem zd_Sh_seek_89 : decode prog_9_method_3_code 89 = .ok (.iload 4, 2) := by decide +kernel
theorem zd_Sh_seek_91 : decode prog_9_method_3_code 91 = .ok (.iastore, 1) := by decide +kernel
theorem zd_Sh_seek_92 : decode prog_9_method_3_code 92 = .ok (.aload_n 0, 1) := by decide +kernel
theorem zd_Sh_seek_93 : decode prog_9_method_3_code 93 = .ok (.iload_n 1, 1) := by decide +kernel
theorem zd_Sh_seek_94 : decode prog_9_method_3_code 94 = .ok (.iconst 1, 1) := by decide +kernel
theorem zd_Sh_seek_95 : decode prog_9_method_3_code 95 = .ok (.iadd, 1) := by decide +kernel
theorem zd_Sh_seek_96 : decode prog_9_method_3_code 96 = .ok (.iload_n 2, 1) := by decide +kernel
theorem zd_Sh_seek_97 : decode prog_9_method_3_code 97 = .ok (.iconst 1, 1) := by decide +kernel
theorem zd_Sh_seek_98 : decode prog_9_method_3_code 98 = .ok (.iload 4, 2) := by decide +kernel
theorem zd_Sh_seek_100 : decode prog_9_method_3_code 100 = .ok (.ishl, 1) := by decide +kernel
theorem zd_Sh_seek_101 : decode prog_9_method_3_code 101 = .ok (.ior, 1) := by decide +kernel
theorem zd_Sh_seek_102 : decode prog_9_method_3_code 102 = .ok (.iload_n 3, 1) := by decide +kernel
theorem zd_Sh_seek_103 : decode prog_9_method_3_code 103 = .ok (.iload 5, 2) := by decide +kernel
theorem zd_Sh_seek_105 : decode prog_9_method_3_code 105 = .ok (.iadd, 1) := by decide +kernel
theorem zd_Sh_seek_106 : decode prog_9_method_3_code 106 = .ok (.invokestatic 64, 3) := by decide +kernel
theorem zd_Sh_seek_81 : decode prog_9_method_3_code 81 = .ok (.goto 28, 3) := by decide +kernel
theorem zd_Sh_seek_109 : decode prog_9_method_3_code 109 = .ok (.iinc 4 1, 3) := by decide +kernel
theorem zd_Sh_seek_112 : decode prog_9_method_3_code 112 = .ok (.goto (-65), 3) := by decide +kernel
theorem zd_Sh_seek_14 : decode prog_9_method_3_code 14 = .ok (.iload_n 3, 1) := by decide +kernel
theorem zd_Sh_seek_15 : decode prog_9_method_3_code 15 = .ok (.aload_n 0, 1) := by decide +kernel
theorem zd_Sh_seek_16 : decode prog_9_method_3_code 16 = .ok (.getfield 25, 3) := by decide +kernel
theorem zd_Sh_seek_19 : decode prog_9_method_3_code 19 = .ok (.if_icmp .gt 4, 3) := by decide +kernel
theorem zd_Sh_seek_23 : decode prog_9_method_3_code 23 = .ok (.aload_n 0, 1) := by decide +kernel
theorem zd_Sh_seek_24 : decode prog_9_method_3_code 24 = .ok (.iload_n 3, 1) := by decide +kernel
theorem zd_Sh_seek_25 : decode prog_9_method_3_code 25 = .ok (.putfield 25, 3) := by decide +kernel
theorem zd_Sh_seek_28 : decode prog_9_method_3_code 28 = .ok (.aload_n 0, 1) := by decide +kernel
theorem zd_Sh_seek_29 : decode prog_9_method_3_code 29 = .ok (.getfield 15, 3) := by decide +kernel
theorem zd_Sh_seek_32 : decode prog_9_method_3_code 32 = .ok (.iconst 0, 1) := by decide +kernel
theorem zd_Sh_seek_33 : decode prog_9_method_3_code 33 = .ok (.aload_n 0, 1) := by decide +kernel
theorem zd_Sh_seek_34 : decode prog_9_method_3_code 34 = .ok (.getfield 18, 3) := by decide +kernel
theorem zd_Sh_seek_37 : decode prog_9_method_3_code 37 = .ok (.iconst 0, 1) := by decide +kernel
theorem zd_Sh_seek_38 : decode prog_9_method_3_code 38 = .ok (.bipush 6, 2) := by decide +kernel
theorem zd_Sh_seek_40 : decode prog_9_method_3_code 40 = .ok (.invokestatic 68, 3) := by decide +kernel
theorem zd_Sh_seek_43 : decode prog_9_method_3_code 43 = .ok (.return_, 1) := by decide +kernel
theorem zd_Sh_seek_22 : decode prog_9_method_3_code 22 = .ok (.return_, 1) := by decide +kernel
abbrev zm_Sh_seek : zQ := ("LoofahSaints$Sharing", prog_9_method_3_code, 6, (Option.none : Option Jvm.ClassFile.FieldType), false)
set_option maxRecDepth 100000 in
def fn_Sh_seek_L14 (o0 : Nat → Int32 → Int32 → Int32 → zS → Option (zS)) (a0 : Nat) (a3 : Int32) (S : zS) : Option (zS) :=
  gd (gT S a0 107) <|
  br (decide ((zI S a0 4) < a3)) (nm (uI S a0 4 a3) fun S3 =>
  gd (gT S3 a0 107) <|
  gd (gK S3 1 (zR S3 a0 1) (zR S3 a0 2) (0 : Int32) (0 : Int32) (6 : Int32)) <|
  nm (kI S3 (zR S3 a0 1) (0 : Int32).toNatClampNeg (zR S3 a0 2) (0 : Int32).toNatClampNeg (6 : Int32).toNatClampNeg) fun S6 =>
  some S6) <|
  some S
set_option maxRecDepth 100000 in
set_option maxHeartbeats 4000000 in
theorem tm_Sh_seek_L14 {X : zXt} {d : Nat} {d' : Nat} (hd : 2 ≤ d ∧ d' + 1 ≤ d) {o0 : Nat → Int32 → Int32 → Int32 → zS → Option (zS)} (ho0 : ∀ {b0 : Nat} {b1 : Int32} {b2 : Int32} {b3 : Int32} {S : zS} {S1 : zS}, o0 b0 b1 b2 b3 S = some S1 → zM X zy_Sh_seek prog_9_method_3_code 6 (Option.none : Option Jvm.ClassFile.FieldType) d' [.ref b0, .int b1, .int b2, .int b3] S none S1) {S' : zS}  {a0 : Nat} {a3 : Int32} {S : zS} (h : fn_Sh_seek_L14 o0 a0 a3 S = some S') : zG X zm_Sh_seek d 14 [some (.ref a0), none, none, some (.int a3), none, none] [] S none S' := by
  have hd1 := hd.1
  have hd2 := hd.2
  unfold fn_Sh_seek_L14 at h
  refine zg_iload_n (pc' := 15) zd_Sh_seek_14 rfl rfl ?_
  refine zg_aload_n (pc' := 16) zd_Sh_seek_15 rfl rfl ?_
  obtain ⟨g1, h⟩ := gd_some h
  refine zg_getI (pc' := 19) zf_Sh_25 zd_Sh_seek_16 (gT_ok g1) rfl ?_
  rcases br_some h with ⟨c2, h⟩ | ⟨c2, h⟩
  · refine zg_icmp_gt (tgt := 23) (pc' := 22) zd_Sh_seek_19 (by decide) rfl (fun _ => ?_) (fun q => absurd c2 q)
    refine zg_aload_n (pc' := 24) zd_Sh_seek_23 rfl rfl ?_
    refine zg_iload_n (pc' := 25) zd_Sh_seek_24 rfl rfl ?_
    refine zg_putI (pc' := 28) zf_Sh_25 zd_Sh_seek_25 (Or.inl rfl) (gT_ok g1) rfl ?_
    obtain ⟨S3, eS3, h⟩ := nm_some h
    refine zg_nm eS3 ?_
    refine zg_aload_n (pc' := 29) zd_Sh_seek_28 rfl rfl ?_
    obtain ⟨g4, h⟩ := gd_some h
    refine zg_getR (pc' := 32) zf_Sh_15 rfl zd_Sh_seek_29 (gT_ok g4) rfl ?_
    refine zg_iconst (x := (0 : Int32)) (pc' := 33) zd_Sh_seek_32 (by decide) rfl ?_
    refine zg_aload_n (pc' := 34) zd_Sh_seek_33 rfl rfl ?_
    refine zg_getR (pc' := 37) zf_Sh_18 rfl zd_Sh_seek_34 (gT_ok g4) rfl ?_
    refine zg_iconst (x := (0 : Int32)) (pc' := 38) zd_Sh_seek_37 (by decide) rfl ?_
    refine zg_bipush (x := (6 : Int32)) (pc' := 40) zd_Sh_seek_38 (by decide) rfl ?_
    obtain ⟨g5, h⟩ := gd_some h
    refine zg_copyI (pc' := 43) zq601 zq557 zq556 zq17 zd_Sh_seek_40 (by omega) (Nat.le_of_ble_eq_true rfl) (gK_ok g5).1 (gK_ok g5).2.1 (gK_ok g5).2.2.1 (gK_ok g5).2.2.2.1 (gK_ok g5).2.2.2.2.1 (gK_ok g5).2.2.2.2.2.1 (gK_ok g5).2.2.2.2.2.2.1 (gK_ok g5).2.2.2.2.2.2.2.1 (gK_ok g5).2.2.2.2.2.2.2.2 rfl ?_
    obtain ⟨S6, eS6, h⟩ := nm_some h
    refine zg_nm eS6 ?_
    obtain rfl := rt_v h
    exact zg_vret zd_Sh_seek_43 rfl
  · refine zg_icmp_gt (tgt := 23) (pc' := 22) zd_Sh_seek_19 (by decide) rfl (fun q => absurd q c2) (fun _ => ?_)
    obtain rfl := rt_v h
    exact zg_vret zd_Sh_seek_22 rfl
set_option maxRecDepth 100000 in
def fn_Sh_seek_L47 (o0 : Nat → Int32 → Int32 → Int32 → zS → Option (zS)) (a0 : Nat) (a1 : Int32) (a2 : Int32) (a3 : Int32) (a4 : Int32) (S : zS) (K47 : Nat → Int32 → Int32 → Int32 → Int32 → zS → Option (zS)) : Option (zS) :=
  br (decide ((4 : Int32) ≤ a4)) (gd (gT S a0 107) <|
  gd (gT S (zR S a0 1) 1) <|
  gd (gP (zR S a0 1)) <|
  gd (gB a1 (zT S (zR S a0 1)).2) <|
  nm (uI S (zR S a0 1) a1.toNatClampNeg (9 : Int32)) fun S6 =>
  bv (o0 a0 (a1 + (1 : Int32)) a2 a3 S6) fun S7 =>
  some S7) <|
  gd (gT S a0 107) <|
  gd (gT S (zR S a0 0) 1) <|
  gd (gB ((a1 * (4 : Int32)) + a4) (zT S (zR S a0 0)).2) <|
  br (decide ((zI S (zR S a0 0) ((a1 * (4 : Int32)) + a4).toNatClampNeg) = (-1 : Int32))) (K47 a0 a1 a2 a3 (a4 + (1 : Int32)) S) <|
  br (decide (((a2 >>> (a4 &&& 31)) &&& (1 : Int32)) = 0)) (gd (gT S (zR S a0 1) 1) <|
  gd (gP (zR S a0 1)) <|
  gd (gB a1 (zT S (zR S a0 1)).2) <|
  nm (uI S (zR S a0 1) a1.toNatClampNeg a4) fun S17 =>
  bv (o0 a0 (a1 + (1 : Int32)) (a2 ||| ((1 : Int32) <<< (a4 &&& 31))) (a3 + (zI S (zR S a0 0) ((a1 * (4 : Int32)) + a4).toNatClampNeg)) S17) fun S18 =>
  K47 a0 a1 a2 a3 (a4 + (1 : Int32)) S18) <|
  K47 a0 a1 a2 a3 (a4 + (1 : Int32)) S
set_option maxRecDepth 100000 in
set_option maxHeartbeats 4000000 in
theorem tm_Sh_seek_L47 {X : zXt} {d : Nat} {d' : Nat} (hd : 2 ≤ d ∧ d' + 1 ≤ d) {o0 : Nat → Int32 → Int32 → Int32 → zS → Option (zS)} (ho0 : ∀ {b0 : Nat} {b1 : Int32} {b2 : Int32} {b3 : Int32} {S : zS} {S1 : zS}, o0 b0 b1 b2 b3 S = some S1 → zM X zy_Sh_seek prog_9_method_3_code 6 (Option.none : Option Jvm.ClassFile.FieldType) d' [.ref b0, .int b1, .int b2, .int b3] S none S1) {S' : zS}  {K47 : Nat → Int32 → Int32 → Int32 → Int32 → zS → Option (zS)} (hK47 : ∀ (a0 : Nat) (a1 : Int32) (a2 : Int32) (a3 : Int32) (a4 : Int32) (S : zS), K47 a0 a1 a2 a3 a4 S = some S' → zG X zm_Sh_seek d 47 [some (.ref a0), some (.int a1), some (.int a2), some (.int a3), some (.int a4), none] [] S none S') {a0 : Nat} {a1 : Int32} {a2 : Int32} {a3 : Int32} {a4 : Int32} {S : zS} (h : fn_Sh_seek_L47 o0 a0 a1 a2 a3 a4 S K47 = some S') : zG X zm_Sh_seek d 47 [some (.ref a0), some (.int a1), some (.int a2), some (.int a3), some (.int a4), none] [] S none S' := by
  have hd1 := hd.1
  have hd2 := hd.2
  unfold fn_Sh_seek_L47 at h
  refine zg_iload (pc' := 49) zd_Sh_seek_47 rfl rfl ?_
  refine zg_iconst (x := (4 : Int32)) (pc' := 50) zd_Sh_seek_49 (by decide) rfl ?_
  rcases br_some h with ⟨c1, h⟩ | ⟨c1, h⟩
  · refine zg_icmp_ge (tgt := 115) (pc' := 53) zd_Sh_seek_50 (by decide) rfl (fun _ => ?_) (fun q => absurd c1 q)
    refine zg_aload_n (pc' := 116) zd_Sh_seek_115 rfl rfl ?_
    obtain ⟨g2, h⟩ := gd_some h
    refine zg_getR (pc' := 119) zf_Sh_15 rfl zd_Sh_seek_116 (gT_ok g2) rfl ?_
    refine zg_iload_n (pc' := 120) zd_Sh_seek_119 rfl rfl ?_
    refine zg_bipush (x := (9 : Int32)) (pc' := 122) zd_Sh_seek_120 (by decide) rfl ?_
    obtain ⟨g3, h⟩ := gd_some h
    obtain ⟨g4, h⟩ := gd_some h
    obtain ⟨g5, h⟩ := gd_some h
    refine zg_iast (pc' := 123) zd_Sh_seek_122 (gT_ok g3) (gP_ok g4) (gB_ok g5) rfl ?_
    obtain ⟨S6, eS6, h⟩ := nm_some h
    refine zg_nm eS6 ?_
    refine zg_aload_n (pc' := 124) zd_Sh_seek_123 rfl rfl ?_
    refine zg_iload_n (pc' := 125) zd_Sh_seek_124 rfl rfl ?_
    refine zg_iconst (x := (1 : Int32)) (pc' := 126) zd_Sh_seek_125 (by decide) rfl ?_
    refine zg_iadd (pc' := 127) zd_Sh_seek_126 rfl ?_
    refine zg_iload_n (pc' := 128) zd_Sh_seek_127 rfl rfl ?_
    refine zg_iload_n (pc' := 129) zd_Sh_seek_128 rfl rfl ?_
    obtain ⟨S7, e8, h⟩ := bv_some h
    refine zg_callS (As := [.ref a0, .int (a1 + (1 : Int32)), .int a2, .int a3]) (rest := []) (pc' := 132) zl_Sh_64 zq599 zd_Sh_seek_129 rfl rfl (Nat.le_of_ble_eq_true rfl) (by omega) (ho0 e8) rfl ?_
    refine zg_st (st' := []) rfl ?_
    obtain rfl := rt_v h
    exact zg_vret zd_Sh_seek_132 rfl
  · refine zg_icmp_ge (tgt := 115) (pc' := 53) zd_Sh_seek_50 (by decide) rfl (fun q => absurd q c1) (fun _ => ?_)
    refine zg_aload_n (pc' := 54) zd_Sh_seek_53 rfl rfl ?_
    obtain ⟨g9, h⟩ := gd_some h
    refine zg_getR (pc' := 57) zf_Sh_9 rfl zd_Sh_seek_54 (gT_ok g9) rfl ?_
    refine zg_iload_n (pc' := 58) zd_Sh_seek_57 rfl rfl ?_
    refine zg_iconst (x := (4 : Int32)) (pc' := 59) zd_Sh_seek_58 (by decide) rfl ?_
    refine zg_imul (pc' := 60) zd_Sh_seek_59 rfl ?_
    refine zg_iload (pc' := 62) zd_Sh_seek_60 rfl rfl ?_
    refine zg_iadd (pc' := 63) zd_Sh_seek_62 rfl ?_
    obtain ⟨g10, h⟩ := gd_some h
    obtain ⟨g11, h⟩ := gd_some h
    refine zg_iald (pc' := 64) zd_Sh_seek_63 (gT_ok g10) (gB_ok g11) rfl ?_
    refine zg_istore (L' := [some (.ref a0), some (.int a1), some (.int a2), some (.int a3), some (.int a4), some (.int (zI S (zR S a0 0) ((a1 * (4 : Int32)) + a4).toNatClampNeg))]) (pc' := 66) zd_Sh_seek_64 (by decide) rfl rfl ?_
    refine zg_iload (pc' := 68) zd_Sh_seek_66 rfl rfl ?_
    refine zg_iconst (x := (-1 : Int32)) (pc' := 69) zd_Sh_seek_68 (by decide) rfl ?_
    rcases br_some h with ⟨c12, h⟩ | ⟨c12, h⟩
    · refine zg_icmp_eq (tgt := 109) (pc' := 72) zd_Sh_seek_69 (by decide) rfl (fun _ => ?_) (fun q => absurd c12 q)
      refine zg_iinc (y := (a4 + (1 : Int32))) (L' := [some (.ref a0), some (.int a1), some (.int a2), some (.int a3), some (.int (a4 + (1 : Int32))), some (.int (zI S (zR S a0 0) ((a1 * (4 : Int32)) + a4).toNatClampNeg))]) (pc' := 112) zd_Sh_seek_109 rfl rfl (by decide) rfl rfl ?_
      refine zg_goto (tgt := 47) zd_Sh_seek_112 (by decide) ?_
      refine zg_mask (L' := [some (.ref a0), some (.int a1), some (.int a2), some (.int a3), some (.int (a4 + (1 : Int32))), none]) (zmk_ok _ _ ⟨rfl, ⟨rfl, ⟨rfl, ⟨rfl, ⟨rfl, trivial⟩⟩⟩⟩⟩) ?_
      exact hK47 _ _ _ _ _ _ h
    · refine zg_icmp_eq (tgt := 109) (pc' := 72) zd_Sh_seek_69 (by decide) rfl (fun q => absurd q c12) (fun _ => ?_)
      refine zg_iload_n (pc' := 73) zd_Sh_seek_72 rfl rfl ?_
      refine zg_iload (pc' := 75) zd_Sh_seek_73 rfl rfl ?_
      refine zg_ishr (pc' := 76) zd_Sh_seek_75 rfl ?_
      refine zg_iconst (x := (1 : Int32)) (pc' := 77) zd_Sh_seek_76 (by decide) rfl ?_
      refine zg_iand (pc' := 78) zd_Sh_seek_77 rfl ?_
      rcases br_some h with ⟨c13, h⟩ | ⟨c13, h⟩
      · refine zg_if_eq (tgt := 84) (pc' := 81) zd_Sh_seek_78 (by decide) rfl (fun _ => ?_) (fun q => absurd c13 q)
        refine zg_aload_n (pc' := 85) zd_Sh_seek_84 rfl rfl ?_
        refine zg_getR (pc' := 88) zf_Sh_15 rfl zd_Sh_seek_85 (gT_ok g9) rfl ?_
        refine zg_iload_n (pc' := 89) zd_Sh_seek_88 rfl rfl ?_
        refine zg_iload (pc' := 91) zd_Sh_seek_89 rfl rfl ?_
        obtain ⟨g14, h⟩ := gd_some h
        obtain ⟨g15, h⟩ := gd_some h
        obtain ⟨g16, h⟩ := gd_some h
        refine zg_iast (pc' := 92) zd_Sh_seek_91 (gT_ok g14) (gP_ok g15) (gB_ok g16) rfl ?_
        obtain ⟨S17, eS17, h⟩ := nm_some h
        refine zg_nm eS17 ?_
        refine zg_aload_n (pc' := 93) zd_Sh_seek_92 rfl rfl ?_
        refine zg_iload_n (pc' := 94) zd_Sh_seek_93 rfl rfl ?_
        refine zg_iconst (x := (1 : Int32)) (pc' := 95) zd_Sh_seek_94 (by decide) rfl ?_
        refine zg_iadd (pc' := 96) zd_Sh_seek_95 rfl ?_
        refine zg_iload_n (pc' := 97) zd_Sh_seek_96 rfl rfl ?_
        refine zg_iconst (x := (1 : Int32)) (pc' := 98) zd_Sh_seek_97 (by decide) rfl ?_
        refine zg_iload (pc' := 100) zd_Sh_seek_98 rfl rfl ?_
        refine zg_ishl (pc' := 101) zd_Sh_seek_100 rfl ?_
        refine zg_ior (pc' := 102) zd_Sh_seek_101 rfl ?_
        refine zg_iload_n (pc' := 103) zd_Sh_seek_102 rfl rfl ?_
        refine zg_iload (pc' := 105) zd_Sh_seek_103 rfl rfl ?_
        refine zg_iadd (pc' := 106) zd_Sh_seek_105 rfl ?_
        obtain ⟨S18, e19, h⟩ := bv_some h
        refine zg_callS (As := [.ref a0, .int (a1 + (1 : Int32)), .int (a2 ||| ((1 : Int32) <<< (a4 &&& 31))), .int (a3 + (zI S (zR S a0 0) ((a1 * (4 : Int32)) + a4).toNatClampNeg))]) (rest := []) (pc' := 109) zl_Sh_64 zq599 zd_Sh_seek_106 rfl rfl (Nat.le_of_ble_eq_true rfl) (by omega) (ho0 e19) rfl ?_
        refine zg_st (st' := []) rfl ?_
        refine zg_iinc (y := (a4 + (1 : Int32))) (L' := [some (.ref a0), some (.int a1), some (.int a2), some (.int a3), some (.int (a4 + (1 : Int32))), some (.int (zI S (zR S a0 0) ((a1 * (4 : Int32)) + a4).toNatClampNeg))]) (pc' := 112) zd_Sh_seek_109 rfl rfl (by decide) rfl rfl ?_
        refine zg_goto (tgt := 47) zd_Sh_seek_112 (by decide) ?_
        refine zg_mask (L' := [some (.ref a0), some (.int a1), some (.int a2), some (.int a3), some (.int (a4 + (1 : Int32))), none]) (zmk_ok _ _ ⟨rfl, ⟨rfl, ⟨rfl, ⟨rfl, ⟨rfl, trivial⟩⟩⟩⟩⟩) ?_
        exact hK47 _ _ _ _ _ _ h
      · refine zg_if_eq (tgt := 84) (pc' := 81) zd_Sh_seek_78 (by decide) rfl (fun q => absurd q c13) (fun _ => ?_)
        refine zg_goto (tgt := 109) zd_Sh_seek_81 (by decide) ?_
        refine zg_iinc (y := (a4 + (1 : Int32))) (L' := [some (.ref a0), some (.int a1), some (.int a2), some (.int a3), some (.int (a4 + (1 : Int32))), some (.int (zI S (zR S a0 0) ((a1 * (4 : Int32)) + a4).toNatClampNeg))]) (pc' := 112) zd_Sh_seek_109 rfl rfl (by decide) rfl rfl ?_
        refine zg_goto (tgt := 47) zd_Sh_seek_112 (by decide) ?_
        refine zg_mask (L' := [some (.ref a0), some (.int a1), some (.int a2), some (.int a3), some (.int (a4 + (1 : Int32))), none]) (zmk_ok _ _ ⟨rfl, ⟨rfl, ⟨rfl, ⟨rfl, ⟨rfl, trivial⟩⟩⟩⟩⟩) ?_
        exact hK47 _ _ _ _ _ _ h
set_option maxRecDepth 100000 in
def fn_Sh_seek_o (o0 : Nat → Int32 → Int32 → Int32 → zS → Option (zS)) (a0 : Nat) (a1 : Int32) (a2 : Int32) (a3 : Int32) (S : zS) : Option (zS) :=
  gd (gT S a0 107) <|
  br (decide ((zI S a0 3) ≤ a1)) (fn_Sh_seek_L14 o0 a0 a3 S) <|
  br (decide (a1 < (6 : Int32))) (lp (σ := Nat × Int32 × Int32 × Int32 × Int32 × zS) (fun k s => fn_Sh_seek_L47 o0 s.1 s.2.1 s.2.2.1 s.2.2.2.1 s.2.2.2.2.1 s.2.2.2.2.2 (fun (a0 : Nat) (a1 : Int32) (a2 : Int32) (a3 : Int32) (a4 : Int32) (S : zS) => k (a0, a1, a2, a3, a4, S))) FU (a0, a1, a2, a3, (0 : Int32), S)) <|
  fn_Sh_seek_L14 o0 a0 a3 S
set_option maxRecDepth 100000 in
set_option maxHeartbeats 4000000 in
theorem tm_Sh_seek_o {X : zXt} {d : Nat} {d' : Nat} (hd : 2 ≤ d ∧ d' + 1 ≤ d) {o0 : Nat → Int32 → Int32 → Int32 → zS → Option (zS)} (ho0 : ∀ {b0 : Nat} {b1 : Int32} {b2 : Int32} {b3 : Int32} {S : zS} {S1 : zS}, o0 b0 b1 b2 b3 S = some S1 → zM X zy_Sh_seek prog_9_method_3_code 6 (Option.none : Option Jvm.ClassFile.FieldType) d' [.ref b0, .int b1, .int b2, .int b3] S none S1) {a0 : Nat} {a1 : Int32} {a2 : Int32} {a3 : Int32} {S : zS} {S' : zS} (h : fn_Sh_seek_o o0 a0 a1 a2 a3 S = some S') : zM X zy_Sh_seek prog_9_method_3_code 6 (Option.none : Option Jvm.ClassFile.FieldType) d [.ref a0, .int a1, .int a2, .int a3] S none S' := by
  refine zM_of (ini := false) (L := [some (.ref a0), some (.int a1), some (.int a2), some (.int a3), none, none]) (plainFor_of_name (by decide)) (fun h => by cases h) (Nat.le_of_ble_eq_true rfl) rfl ?_
  have hd1 := hd.1
  have hd2 := hd.2
  unfold fn_Sh_seek_o at h
  refine zg_iload_n (pc' := 1) zd_Sh_seek_0 rfl rfl ?_
  refine zg_aload_n (pc' := 2) zd_Sh_seek_1 rfl rfl ?_
  obtain ⟨g1, h⟩ := gd_some h
  refine zg_getI (pc' := 5) zf_Sh_21 zd_Sh_seek_2 (gT_ok g1) rfl ?_
  rcases br_some h with ⟨c2, h⟩ | ⟨c2, h⟩
  · refine zg_icmp_ge (tgt := 14) (pc' := 8) zd_Sh_seek_5 (by decide) rfl (fun _ => ?_) (fun q => absurd c2 q)
    refine zg_mask (L' := [some (.ref a0), none, none, some (.int a3), none, none]) (zmk_ok _ _ ⟨rfl, ⟨rfl, trivial⟩⟩) ?_
    exact tm_Sh_seek_L14 hd ho0 h
  · refine zg_icmp_ge (tgt := 14) (pc' := 8) zd_Sh_seek_5 (by decide) rfl (fun q => absurd q c2) (fun _ => ?_)
    refine zg_iload_n (pc' := 9) zd_Sh_seek_8 rfl rfl ?_
    refine zg_bipush (x := (6 : Int32)) (pc' := 11) zd_Sh_seek_9 (by decide) rfl ?_
    rcases br_some h with ⟨c3, h⟩ | ⟨c3, h⟩
    · refine zg_icmp_lt (tgt := 44) (pc' := 14) zd_Sh_seek_11 (by decide) rfl (fun _ => ?_) (fun q => absurd c3 q)
      refine zg_iconst (x := (0 : Int32)) (pc' := 45) zd_Sh_seek_44 (by decide) rfl ?_
      refine zg_istore (L' := [some (.ref a0), some (.int a1), some (.int a2), some (.int a3), some (.int (0 : Int32)), none]) (pc' := 47) zd_Sh_seek_45 (by decide) rfl rfl ?_
      exact lp_indh h (P := fun s => zG X zm_Sh_seek d 47 [some (.ref (s.1)), some (.int (s.2.1)), some (.int (s.2.2.1)), some (.int (s.2.2.2.1)), some (.int (s.2.2.2.2.1)), none] [] (s.2.2.2.2.2) none S') (fun k hk s h => tm_Sh_seek_L47 hd ho0 (fun a0 a1 a2 a3 a4 S h => hk (a0, a1, a2, a3, a4, S) h) h)
    · refine zg_icmp_lt (tgt := 44) (pc' := 14) zd_Sh_seek_11 (by decide) rfl (fun q => absurd q c3) (fun _ => ?_)
      refine zg_mask (L' := [some (.ref a0), none, none, some (.int a3), none, none]) (zmk_ok _ _ ⟨rfl, ⟨rfl, trivial⟩⟩) ?_
      exact tm_Sh_seek_L14 hd ho0 h
def fs_Sh_seek (k : (Nat × Int32 × Int32 × Int32 × zS) → Option (zS)) (s : Nat × Int32 × Int32 × Int32 × zS) : Option (zS) :=
  fn_Sh_seek_o (fun (b0 : Nat) (b1 : Int32) (b2 : Int32) (b3 : Int32) (S : zS) => k (b0, b1, b2, b3, S)) s.1 s.2.1 s.2.2.1 s.2.2.2.1 s.2.2.2.2
def fn_Sh_seek (n : Nat) (b0 : Nat) (b1 : Int32) (b2 : Int32) (b3 : Int32) (S : zS) : Option (zS) := lp fs_Sh_seek n (b0, b1, b2, b3, S)
def ps_Sh_seek (X : zXt) (n : Nat) (s : Nat × Int32 × Int32 × Int32 × zS) (r : zS) : Prop :=
  ∀ d, 2 + n ≤ d → zM X zy_Sh_seek prog_9_method_3_code 6 (Option.none : Option Jvm.ClassFile.FieldType) d [.ref (s.1), .int (s.2.1), .int (s.2.2.1), .int (s.2.2.2.1)] (s.2.2.2.2) none (r)
set_option maxRecDepth 100000 in
theorem tr_Sh_seek {X : zXt} : ∀ (n : Nat) (s : Nat × Int32 × Int32 × Int32 × zS) (r : zS), lp fs_Sh_seek n s = some r → ps_Sh_seek X n s r := by
  refine lp_rec (fun n k hk s r h => ?_)
  intro d hd
  exact tm_Sh_seek_o (d' := 2 + n) ⟨by omega, by omega⟩ (fun {b0 b1 b2 b3 S S1} e => hk (_, _, _, _, _) _ e (2 + n) (Nat.le_refl _)) h
theorem tm_Sh_seek {X : zXt} {n d : Nat} (hd : 2 + n ≤ d) {b0 : Nat} {b1 : Int32} {b2 : Int32} {b3 : Int32} {S S' : zS} (h : fn_Sh_seek n b0 b1 b2 b3 S = some S') : zM X zy_Sh_seek prog_9_method_3_code 6 (Option.none : Option Jvm.ClassFile.FieldType) d [.ref b0, .int b1, .int b2, .int b3] S none S' :=
  tr_Sh_seek n (b0, b1, b2, b3, S) _ h d hd
theorem zd_Sh_share_0 : decode prog_9_method_2_code 0 = .ok (.aload_n 0, 1) := by decide +kernel
theorem zd_Sh_share_1 : decode prog_9_method_2_code 1 = .ok (.aload_n 1, 1) := by decide +kernel
theorem zd_Sh_share_2 : decode prog_9_method_2_code 2 = .ok (.getfield 28, 3) := by decide +kernel
theorem zd_Sh_share_5 : decode prog_9_method_2_code 5 = .ok (.putfield 21, 3) := by decide +kernel
theorem zd_Sh_share_8 : decode prog_9_method_2_code 8 = .ok (.iconst 0, 1) := by decide +kernel
theorem zd_Sh_share_9 : decode prog_9_method_2_code 9 = .ok (.istore_n 3, 1) := by decide +kernel
theorem zd_Sh_share_10 : decode prog_9_method_2_code 10 = .ok (.iload_n 3, 1) := by decide +kernel
theorem zd_Sh_share_11 : decode prog_9_method_2_code 11 = .ok (.aload_n 0, 1) := by decide +kernel
theorem zd_Sh_share_12 : decode prog_9_method_2_code 12 = .ok (.getfield 21, 3) := by decide +kernel
theorem zd_Sh_share_15 : decode prog_9_method_2_code 15 = .ok (.if_icmp .ge 104, 3) := by decide +kernel
theorem zd_Sh_share_119 : decode prog_9_method_2_code 119 = .ok (.aload_n 0, 1) := by decide +kernel
theorem zd_Sh_share_120 : decode prog_9_method_2_code 120 = .ok (.iconst (-1), 1) := by decide +kernel
theorem zd_Sh_share_121 : decode prog_9_method_2_code 121 = .ok (.putfield 25, 3) := by decide +kernel
theorem zd_Sh_share_124 : decode prog_9_method_2_code 124 = .ok (.aload_n 0, 1) := by decide +kernel
theorem zd_Sh_share_125 : decode prog_9_method_2_code 125 = .ok (.iconst 0, 1) := by decide +kernel
theorem zd_Sh_share_126 : decode prog_9_method_2_code 126 = .ok (.iconst 0, 1) := by decide +kernel
theorem zd_Sh_share_127 : decode prog_9_method_2_code 127 = .ok (.iconst 0, 1) := by decide +kernel
theorem zd_Sh_share_128 : decode prog_9_method_2_code 128 = .ok (.invokestatic 64, 3) := by decide +kernel
theorem zd_Sh_share_131 : decode prog_9_method_2_code 131 = .ok (.return_, 1) := by decide +kernel
theorem zd_Sh_share_18 : decode prog_9_method_2_code 18 = .ok (.aload_n 1, 1) := by decide +kernel
theorem zd_Sh_share_19 : decode prog_9_method_2_code 19 = .ok (.getfield 31, 3) := by decide +kernel
theorem zd_Sh_share_22 : decode prog_9_method_2_code 22 = .ok (.iload_n 3, 1) := by decide +kernel
theorem zd_Sh_share_23 : decode prog_9_method_2_code 23 = .ok (.aaload, 1) := by decide +kernel
theorem zd_Sh_share_24 : decode prog_9_method_2_code 24 = .ok (.astore 4, 2) := by decide +kernel
theorem zd_Sh_share_26 : decode prog_9_method_2_code 26 = .ok (.aload 4, 2) := by decide +kernel
theorem zd_Sh_share_28 : decode prog_9_method_2_code 28 = .ok (.aload_n 1, 1) := by decide +kernel
theorem zd_Sh_share_29 : decode prog_9_method_2_code 29 = .ok (.getfield 35, 3) := by decide +kernel
theorem zd_Sh_share_32 : decode prog_9_method_2_code 32 = .ok (.aload_n 1, 1) := by decide +kernel
theorem zd_Sh_share_33 : decode prog_9_method_2_code 33 = .ok (.getfield 39, 3) := by decide +kernel
theorem zd_Sh_share_36 : decode prog_9_method_2_code 36 = .ok (.invokevirtual 42, 3) := by decide +kernel
theorem zd_Sh_share_39 : decode prog_9_method_2_code 39 = .ok (.istore 5, 2) := by decide +kernel
theorem zd_Sh_share_41 : decode prog_9_method_2_code 41 = .ok (.iload_n 3, 1) := by decide +kernel
theorem zd_Sh_share_42 : decode prog_9_method_2_code 42 = .ok (.iload_n 2, 1) := by decide +kernel
theorem zd_Sh_share_43 : decode prog_9_method_2_code 43 = .ok (.if_icmp .eq 15, 3) := by decide +kernel
theorem zd_Sh_share_46 : decode prog_9_method_2_code 46 = .ok (.aload 4, 2) := by decide +kernel
theorem zd_Sh_share_48 : decode prog_9_method_2_code 48 = .ok (.invokevirtual 48, 3) := by decide +kernel
theorem zd_Sh_share_51 : decode prog_9_method_2_code 51 = .ok (.ifCond .ne 7, 3) := by decide +kernel
theorem zd_Sh_share_58 : decode prog_9_method_2_code 58 = .ok (.iconst 0, 1) := by decide +kernel
theorem zd_Sh_share_54 : decode prog_9_method_2_code 54 = .ok (.iconst 1, 1) := by decide +kernel
theorem zd_Sh_share_55 : decode prog_9_method_2_code 55 = .ok (.goto 4, 3) := by decide +kernel
theorem zd_Sh_share_59 : decode prog_9_method_2_code 59 = .ok (.istore 6, 2) := by decide +kernel
theorem zd_Sh_share_61 : decode prog_9_method_2_code 61 = .ok (.iconst 0, 1) := by decide +kernel
theorem zd_Sh_share_62 : decode prog_9_method_2_code 62 = .ok (.istore 7, 2) := by decide +kernel
theorem zd_Sh_share_64 : decode prog_9_method_2_code 64 = .ok (.iload 7, 2) := by decide +kernel
theorem zd_Sh_share_66 : decode prog_9_method_2_code 66 = .ok (.iconst 4, 1) := by decide +kernel
theorem zd_Sh_share_67 : decode prog_9_method_2_code 67 = .ok (.if_icmp .ge 46, 3) := by decide +kernel
theorem zd_Sh_share_113 : decode prog_9_method_2_code 113 = .ok (.iinc 3 1, 3) := by decide +kernel
theorem zd_Sh_share_116 : decode prog_9_method_2_code 116 = .ok (.goto (-106), 3) := by decide +kernel
theorem zd_Sh_share_70 : decode prog_9_method_2_code 70 = .ok (.aload_n 0, 1) := by decide +kernel
theorem zd_Sh_share_71 : decode prog_9_method_2_code 71 = .ok (.getfield 9, 3) := by decide +kernel
theorem zd_Sh_share_74 : decode prog_9_method_2_code 74 = .ok (.iload_n 3, 1) := by decide +kernel
theorem zd_Sh_share_75 : decode prog_9_method_2_code 75 = .ok (.iconst 4, 1) := by decide +kernel
theorem zd_Sh_share_76 : decode prog_9_method_2_code 76 = .ok (.imul, 1) := by decide +kernel
theorem zd_Sh_share_77 : decode prog_9_method_2_code 77 = .ok (.iload 7, 2) := by decide +kernel
theorem zd_Sh_share_79 : decode prog_9_method_2_code 79 = .ok (.iadd, 1) := by decide +kernel
theorem zd_Sh_share_80 : decode prog_9_method_2_code 80 = .ok (.iload 6, 2) := by decide +kernel
theorem zd_Sh_share_82 : decode prog_9_method_2_code 82 = .ok (.ifCond .eq 23, 3) := by decide +kernel
theorem zd_Sh_share_105 : decode prog_9_method_2_code 105 = .ok (.iconst (-1), 1) := by decide +kernel
theorem zd_Sh_share_85 : decode prog_9_method_2_code 85 = .ok (.aload 4, 2) := by decide +kernel
theorem zd_Sh_share_87 : decode prog_9_method_2_code 87 = .ok (.aload_n 1, 1) := by decide +kernel
theorem zd_Sh_share_88 : decode prog_9_method_2_code 88 = .ok (.getfield 52, 3) := by decide +kernel
theorem zd_Sh_share_91 : decode prog_9_method_2_code 91 = .ok (.iload 7, 2) := by decide +kernel
theorem zd_Sh_share_93 : decode prog_9_method_2_code 93 = .ok (.iaload, 1) := by decide +kernel
theorem zd_Sh_share_94 : decode prog_9_method_2_code 94 = .ok (.iload 5, 2) := by decide +kernel
theorem zd_Sh_share_96 : decode prog_9_method_2_code 96 = .ok (.invokevirtual 55, 3) := by decide +kernel
theorem zd_Sh_share_99 : decode prog_9_method_2_code 99 = .ok (.invokestatic 58, 3) := by decide +kernel
theorem zd_Sh_share_102 : decode prog_9_method_2_code 102 = .ok (.goto 4, 3) := by decide +kernel
theorem zd_Sh_share_106 : decode prog_9_method_2_code 106 = .ok (.iastore, 1) := by decide +kernel
theorem zd_Sh_share_107 : decode prog_9_method_2_code 107 = .ok (.iinc 7 1, 3) := by decide +kernel
theorem zd_Sh_share_110 : decode prog_9_method_2_code 110 = .ok (.goto (-46), 3) := by decide +kernel
abbrev zm_Sh_share : zQ := ("LoofahSaints$Sharing", prog_9_method_2_code, 8, (Option.none : Option Jvm.ClassFile.FieldType), false)
set_option maxRecDepth 100000 in
def fn_Sh_share_L64 (a0 : Nat) (a1 : Nat) (a2 : Int32) (a3 : Int32) (a4 : Nat) (a5 : Int32) (a6 : Int32) (a7 : Int32) (S : zS) (K10 : Nat → Nat → Int32 → Int32 → zS → Option (zS)) (K64 : Nat → Nat → Int32 → Int32 → Nat → Int32 → Int32 → Int32 → zS → Option (zS)) : Option (zS) :=
  br (decide ((4 : Int32) ≤ a7)) (K10 a0 a1 a2 (a3 + (1 : Int32)) S) <|
  gd (gT S a0 107) <|
  br (decide (a6 = 0)) (gd (gT S (zR S a0 0) 1) <|
  gd (gP (zR S a0 0)) <|
  gd (gB ((a3 * (4 : Int32)) + a7) (zT S (zR S a0 0)).2) <|
  nm (uI S (zR S a0 0) ((a3 * (4 : Int32)) + a7).toNatClampNeg (-1 : Int32)) fun S7 =>
  K64 a0 a1 a2 a3 a4 a5 a6 (a7 + (1 : Int32)) S7) <|
  gd (gT S a1 101) <|
  gd (gT S (zR S a1 1) 1) <|
  gd (gB a7 (zT S (zR S a1 1)).2) <|
  gd (gT S a4 105) <|
  bq (fn_Sa_takes a4 (zI S (zR S a1 1) a7.toNatClampNeg) a5 S) fun r14 S12 =>
  bq (fn_Jd_bitCount r14 S12) fun r17 S15 =>
  gd (gT S15 (zR S a0 0) 1) <|
  gd (gP (zR S a0 0)) <|
  gd (gB ((a3 * (4 : Int32)) + a7) (zT S15 (zR S a0 0)).2) <|
  nm (uI S15 (zR S a0 0) ((a3 * (4 : Int32)) + a7).toNatClampNeg r17) fun S21 =>
  K64 a0 a1 a2 a3 a4 a5 a6 (a7 + (1 : Int32)) S21
set_option maxRecDepth 100000 in
set_option maxHeartbeats 4000000 in
theorem tm_Sh_share_L64 {X : zXt} {d : Nat} (hd : 63 ≤ d) {S' : zS}  {K10 : Nat → Nat → Int32 → Int32 → zS → Option (zS)} (hK10 : ∀ (a0 : Nat) (a1 : Nat) (a2 : Int32) (a3 : Int32) (S : zS), K10 a0 a1 a2 a3 S = some S' → zG X zm_Sh_share d 10 [some (.ref a0), some (.ref a1), some (.int a2), some (.int a3), none, none, none, none] [] S none S') {K64 : Nat → Nat → Int32 → Int32 → Nat → Int32 → Int32 → Int32 → zS → Option (zS)} (hK64 : ∀ (a0 : Nat) (a1 : Nat) (a2 : Int32) (a3 : Int32) (a4 : Nat) (a5 : Int32) (a6 : Int32) (a7 : Int32) (S : zS), K64 a0 a1 a2 a3 a4 a5 a6 a7 S = some S' → zG X zm_Sh_share d 64 [some (.ref a0), some (.ref a1), some (.int a2), some (.int a3), some (.ref a4), some (.int a5), some (.int a6), some (.int a7)] [] S none S') {a0 : Nat} {a1 : Nat} {a2 : Int32} {a3 : Int32} {a4 : Nat} {a5 : Int32} {a6 : Int32} {a7 : Int32} {S : zS} (h : fn_Sh_share_L64 a0 a1 a2 a3 a4 a5 a6 a7 S K10 K64 = some S') : zG X zm_Sh_share d 64 [some (.ref a0), some (.ref a1), some (.int a2), some (.int a3), some (.ref a4), some (.int a5), some (.int a6), some (.int a7)] [] S none S' := by
  unfold fn_Sh_share_L64 at h
  refine zg_iload (pc' := 66) zd_Sh_share_64 rfl rfl ?_
  refine zg_iconst (x := (4 : Int32)) (pc' := 67) zd_Sh_share_66 (by decide) rfl ?_
  rcases br_some h with ⟨c1, h⟩ | ⟨c1, h⟩
  · refine zg_icmp_ge (tgt := 113) (pc' := 70) zd_Sh_share_67 (by decide) rfl (fun _ => ?_) (fun q => absurd c1 q)
    refine zg_iinc (y := (a3 + (1 : Int32))) (L' := [some (.ref a0), some (.ref a1), some (.int a2), some (.int (a3 + (1 : Int32))), some (.ref a4), some (.int a5), some (.int a6), some (.int a7)]) (pc' := 116) zd_Sh_share_113 rfl rfl (by decide) rfl rfl ?_
    refine zg_goto (tgt := 10) zd_Sh_share_116 (by decide) ?_
    refine zg_mask (L' := [some (.ref a0), some (.ref a1), some (.int a2), some (.int (a3 + (1 : Int32))), none, none, none, none]) (zmk_ok _ _ ⟨rfl, ⟨rfl, ⟨rfl, ⟨rfl, trivial⟩⟩⟩⟩) ?_
    exact hK10 _ _ _ _ _ h
  · refine zg_icmp_ge (tgt := 113) (pc' := 70) zd_Sh_share_67 (by decide) rfl (fun q => absurd q c1) (fun _ => ?_)
    refine zg_aload_n (pc' := 71) zd_Sh_share_70 rfl rfl ?_
    obtain ⟨g2, h⟩ := gd_some h
    refine zg_getR (pc' := 74) zf_Sh_9 rfl zd_Sh_share_71 (gT_ok g2) rfl ?_
    refine zg_iload_n (pc' := 75) zd_Sh_share_74 rfl rfl ?_
    refine zg_iconst (x := (4 : Int32)) (pc' := 76) zd_Sh_share_75 (by decide) rfl ?_
    refine zg_imul (pc' := 77) zd_Sh_share_76 rfl ?_
    refine zg_iload (pc' := 79) zd_Sh_share_77 rfl rfl ?_
    refine zg_iadd (pc' := 80) zd_Sh_share_79 rfl ?_
    refine zg_iload (pc' := 82) zd_Sh_share_80 rfl rfl ?_
    rcases br_some h with ⟨c3, h⟩ | ⟨c3, h⟩
    · refine zg_if_eq (tgt := 105) (pc' := 85) zd_Sh_share_82 (by decide) rfl (fun _ => ?_) (fun q => absurd c3 q)
      refine zg_iconst (x := (-1 : Int32)) (pc' := 106) zd_Sh_share_105 (by decide) rfl ?_
      obtain ⟨g4, h⟩ := gd_some h
      obtain ⟨g5, h⟩ := gd_some h
      obtain ⟨g6, h⟩ := gd_some h
      refine zg_iast (pc' := 107) zd_Sh_share_106 (gT_ok g4) (gP_ok g5) (gB_ok g6) rfl ?_
      obtain ⟨S7, eS7, h⟩ := nm_some h
      refine zg_nm eS7 ?_
      refine zg_iinc (y := (a7 + (1 : Int32))) (L' := [some (.ref a0), some (.ref a1), some (.int a2), some (.int a3), some (.ref a4), some (.int a5), some (.int a6), some (.int (a7 + (1 : Int32)))]) (pc' := 110) zd_Sh_share_107 rfl rfl (by decide) rfl rfl ?_
      refine zg_goto (tgt := 64) zd_Sh_share_110 (by decide) ?_
      exact hK64 _ _ _ _ _ _ _ _ _ h
    · refine zg_if_eq (tgt := 105) (pc' := 85) zd_Sh_share_82 (by decide) rfl (fun q => absurd q c3) (fun _ => ?_)
      refine zg_aload (pc' := 87) zd_Sh_share_85 rfl rfl ?_
      refine zg_aload_n (pc' := 88) zd_Sh_share_87 rfl rfl ?_
      obtain ⟨g8, h⟩ := gd_some h
      refine zg_getR (pc' := 91) zf_Sh_52 rfl zd_Sh_share_88 (gT_ok g8) rfl ?_
      refine zg_iload (pc' := 93) zd_Sh_share_91 rfl rfl ?_
      obtain ⟨g9, h⟩ := gd_some h
      obtain ⟨g10, h⟩ := gd_some h
      refine zg_iald (pc' := 94) zd_Sh_share_93 (gT_ok g9) (gB_ok g10) rfl ?_
      refine zg_iload (pc' := 96) zd_Sh_share_94 rfl rfl ?_
      obtain ⟨g11, h⟩ := gd_some h
      obtain ⟨r14, S12, e13, h⟩ := bq_some h
      refine zg_callV (ci := 5) (As := [.int (zI S (zR S a1 1) a7.toNatClampNeg), .int a5]) (rest := [.int ((a3 * (4 : Int32)) + a7), .ref (zR S a0 0)]) (pc' := 99) zl_Sh_55 zq373 zq374 ⟨_, rfl, rfl⟩ zd_Sh_share_96 rfl rfl (Nat.le_of_ble_eq_true rfl) (by omega) (gT_ok g11) (tm_Sa_takes (d := 3) (Nat.le_refl _) e13) rfl ?_
      refine zg_st (st' := [.int r14, .int ((a3 * (4 : Int32)) + a7), .ref (zR S a0 0)]) rfl ?_
      obtain ⟨r17, S15, e16, h⟩ := bq_some h
      refine zg_callS (As := [.int r14]) (rest := [.int ((a3 * (4 : Int32)) + a7), .ref (zR S a0 0)]) (pc' := 102) zl_Sh_58 zq577 zd_Sh_share_99 rfl rfl (Nat.le_of_ble_eq_true rfl) (by omega) (tm_Jd_bitCount (d := 2) (Nat.le_refl _) e16) rfl ?_
      refine zg_st (st' := [.int r17, .int ((a3 * (4 : Int32)) + a7), .ref (zR S a0 0)]) rfl ?_
      refine zg_goto (tgt := 106) zd_Sh_share_102 (by decide) ?_
      obtain ⟨g18, h⟩ := gd_some h
      obtain ⟨g19, h⟩ := gd_some h
      obtain ⟨g20, h⟩ := gd_some h
      refine zg_iast (pc' := 107) zd_Sh_share_106 (gT_ok g18) (gP_ok g19) (gB_ok g20) rfl ?_
      obtain ⟨S21, eS21, h⟩ := nm_some h
      refine zg_nm eS21 ?_
      refine zg_iinc (y := (a7 + (1 : Int32))) (L' := [some (.ref a0), some (.ref a1), some (.int a2), some (.int a3), some (.ref a4), some (.int a5), some (.int a6), some (.int (a7 + (1 : Int32)))]) (pc' := 110) zd_Sh_share_107 rfl rfl (by decide) rfl rfl ?_
      refine zg_goto (tgt := 64) zd_Sh_share_110 (by decide) ?_
      exact hK64 _ _ _ _ _ _ _ _ _ h
set_option maxRecDepth 100000 in
def fn_Sh_share_L10 (a0 : Nat) (a1 : Nat) (a2 : Int32) (a3 : Int32) (S : zS) (K10 : Nat → Nat → Int32 → Int32 → zS → Option (zS)) : Option (zS) :=
  gd (gT S a0 107) <|
  br (decide ((zI S a0 3) ≤ a3)) (nm (uI S a0 4 (-1 : Int32)) fun S3 =>
  bv (fn_Sh_seek FR a0 (0 : Int32) (0 : Int32) (0 : Int32) S3) fun S4 =>
  some S4) <|
  gd (gT S a1 101) <|
  gd (gT S (zR S a1 0) 6) <|
  gd (gB a3 (zT S (zR S a1 0)).2) <|
  gd (gT S (zR S (zR S a1 0) a3.toNatClampNeg) 105) <|
  bq (fn_Sa_grit (zR S (zR S a1 0) a3.toNatClampNeg) (zR S a1 8) (zI S a1 7) S) fun r12 S10 =>
  br (decide (a3 = a2)) (lp (σ := Nat × Nat × Int32 × Int32 × Nat × Int32 × Int32 × Int32 × zS) (fun k s => fn_Sh_share_L64 s.1 s.2.1 s.2.2.1 s.2.2.2.1 s.2.2.2.2.1 s.2.2.2.2.2.1 s.2.2.2.2.2.2.1 s.2.2.2.2.2.2.2.1 s.2.2.2.2.2.2.2.2 K10 (fun (a0 : Nat) (a1 : Nat) (a2 : Int32) (a3 : Int32) (a4 : Nat) (a5 : Int32) (a6 : Int32) (a7 : Int32) (S : zS) => k (a0, a1, a2, a3, a4, a5, a6, a7, S))) FU (a0, a1, a2, a3, (zR S (zR S a1 0) a3.toNatClampNeg), r12, (0 : Int32), (0 : Int32), S10)) <|
  gd (gT S10 (zR S (zR S a1 0) a3.toNatClampNeg) 105) <|
  bq (fn_Sa_isThread (zR S (zR S a1 0) a3.toNatClampNeg) S10) fun r17 S15 =>
  br (decide (r17 = 0)) (lp (σ := Nat × Nat × Int32 × Int32 × Nat × Int32 × Int32 × Int32 × zS) (fun k s => fn_Sh_share_L64 s.1 s.2.1 s.2.2.1 s.2.2.2.1 s.2.2.2.2.1 s.2.2.2.2.2.1 s.2.2.2.2.2.2.1 s.2.2.2.2.2.2.2.1 s.2.2.2.2.2.2.2.2 K10 (fun (a0 : Nat) (a1 : Nat) (a2 : Int32) (a3 : Int32) (a4 : Nat) (a5 : Int32) (a6 : Int32) (a7 : Int32) (S : zS) => k (a0, a1, a2, a3, a4, a5, a6, a7, S))) FU (a0, a1, a2, a3, (zR S (zR S a1 0) a3.toNatClampNeg), r12, (1 : Int32), (0 : Int32), S15)) <|
  lp (σ := Nat × Nat × Int32 × Int32 × Nat × Int32 × Int32 × Int32 × zS) (fun k s => fn_Sh_share_L64 s.1 s.2.1 s.2.2.1 s.2.2.2.1 s.2.2.2.2.1 s.2.2.2.2.2.1 s.2.2.2.2.2.2.1 s.2.2.2.2.2.2.2.1 s.2.2.2.2.2.2.2.2 K10 (fun (a0 : Nat) (a1 : Nat) (a2 : Int32) (a3 : Int32) (a4 : Nat) (a5 : Int32) (a6 : Int32) (a7 : Int32) (S : zS) => k (a0, a1, a2, a3, a4, a5, a6, a7, S))) FU (a0, a1, a2, a3, (zR S (zR S a1 0) a3.toNatClampNeg), r12, (0 : Int32), (0 : Int32), S15)
set_option maxRecDepth 100000 in
set_option maxHeartbeats 4000000 in
theorem tm_Sh_share_L10 {X : zXt} {d : Nat} (hd : 63 ≤ d) {S' : zS}  {K10 : Nat → Nat → Int32 → Int32 → zS → Option (zS)} (hK10 : ∀ (a0 : Nat) (a1 : Nat) (a2 : Int32) (a3 : Int32) (S : zS), K10 a0 a1 a2 a3 S = some S' → zG X zm_Sh_share d 10 [some (.ref a0), some (.ref a1), some (.int a2), some (.int a3), none, none, none, none] [] S none S') {a0 : Nat} {a1 : Nat} {a2 : Int32} {a3 : Int32} {S : zS} (h : fn_Sh_share_L10 a0 a1 a2 a3 S K10 = some S') : zG X zm_Sh_share d 10 [some (.ref a0), some (.ref a1), some (.int a2), some (.int a3), none, none, none, none] [] S none S' := by
  unfold fn_Sh_share_L10 at h
  refine zg_iload_n (pc' := 11) zd_Sh_share_10 rfl rfl ?_
  refine zg_aload_n (pc' := 12) zd_Sh_share_11 rfl rfl ?_
  obtain ⟨g1, h⟩ := gd_some h
  refine zg_getI (pc' := 15) zf_Sh_21 zd_Sh_share_12 (gT_ok g1) rfl ?_
  rcases br_some h with ⟨c2, h⟩ | ⟨c2, h⟩
  · refine zg_icmp_ge (tgt := 119) (pc' := 18) zd_Sh_share_15 (by decide) rfl (fun _ => ?_) (fun q => absurd c2 q)
    refine zg_aload_n (pc' := 120) zd_Sh_share_119 rfl rfl ?_
    refine zg_iconst (x := (-1 : Int32)) (pc' := 121) zd_Sh_share_120 (by decide) rfl ?_
    refine zg_putI (pc' := 124) zf_Sh_25 zd_Sh_share_121 (Or.inl rfl) (gT_ok g1) rfl ?_
    obtain ⟨S3, eS3, h⟩ := nm_some h
    refine zg_nm eS3 ?_
    refine zg_aload_n (pc' := 125) zd_Sh_share_124 rfl rfl ?_
    refine zg_iconst (x := (0 : Int32)) (pc' := 126) zd_Sh_share_125 (by decide) rfl ?_
    refine zg_iconst (x := (0 : Int32)) (pc' := 127) zd_Sh_share_126 (by decide) rfl ?_
    refine zg_iconst (x := (0 : Int32)) (pc' := 128) zd_Sh_share_127 (by decide) rfl ?_
    obtain ⟨S4, e5, h⟩ := bv_some h
    refine zg_callS (As := [.ref a0, .int (0 : Int32), .int (0 : Int32), .int (0 : Int32)]) (rest := []) (pc' := 131) zl_Sh_64 zq599 zd_Sh_share_128 rfl rfl (Nat.le_of_ble_eq_true rfl) (by omega) (tm_Sh_seek (d := 62) (by decide) e5) rfl ?_
    refine zg_st (st' := []) rfl ?_
    obtain rfl := rt_v h
    exact zg_vret zd_Sh_share_131 rfl
  · refine zg_icmp_ge (tgt := 119) (pc' := 18) zd_Sh_share_15 (by decide) rfl (fun q => absurd q c2) (fun _ => ?_)
    refine zg_aload_n (pc' := 19) zd_Sh_share_18 rfl rfl ?_
    obtain ⟨g6, h⟩ := gd_some h
    refine zg_getR (pc' := 22) zf_Sh_31 rfl zd_Sh_share_19 (gT_ok g6) rfl ?_
    refine zg_iload_n (pc' := 23) zd_Sh_share_22 rfl rfl ?_
    obtain ⟨g7, h⟩ := gd_some h
    obtain ⟨g8, h⟩ := gd_some h
    refine zg_aald (t := 6) (pc' := 24) (by decide) zd_Sh_share_23 (gT_ok g7) (gB_ok g8) rfl ?_
    refine zg_astore (L' := [some (.ref a0), some (.ref a1), some (.int a2), some (.int a3), some (.ref (zR S (zR S a1 0) a3.toNatClampNeg)), none, none, none]) (pc' := 26) zd_Sh_share_24 (by decide) rfl rfl ?_
    refine zg_aload (pc' := 28) zd_Sh_share_26 rfl rfl ?_
    refine zg_aload_n (pc' := 29) zd_Sh_share_28 rfl rfl ?_
    refine zg_getR (pc' := 32) zf_Sh_35 rfl zd_Sh_share_29 (gT_ok g6) rfl ?_
    refine zg_aload_n (pc' := 33) zd_Sh_share_32 rfl rfl ?_
    refine zg_getI (pc' := 36) zf_Sh_39 zd_Sh_share_33 (gT_ok g6) rfl ?_
    obtain ⟨g9, h⟩ := gd_some h
    obtain ⟨r12, S10, e11, h⟩ := bq_some h
    refine zg_callV (ci := 5) (As := [.ref (zR S a1 8), .int (zI S a1 7)]) (rest := []) (pc' := 39) zl_Sh_42 zq356 zq357 ⟨_, rfl, rfl⟩ zd_Sh_share_36 rfl rfl (Nat.le_of_ble_eq_true rfl) (by omega) (gT_ok g9) (tm_Sa_grit (d := 4) (Nat.le_refl _) e11) rfl ?_
    refine zg_st (st' := [.int r12]) rfl ?_
    refine zg_istore (L' := [some (.ref a0), some (.ref a1), some (.int a2), some (.int a3), some (.ref (zR S (zR S a1 0) a3.toNatClampNeg)), some (.int r12), none, none]) (pc' := 41) zd_Sh_share_39 (by decide) rfl rfl ?_
    refine zg_iload_n (pc' := 42) zd_Sh_share_41 rfl rfl ?_
    refine zg_iload_n (pc' := 43) zd_Sh_share_42 rfl rfl ?_
    rcases br_some h with ⟨c13, h⟩ | ⟨c13, h⟩
    · refine zg_icmp_eq (tgt := 58) (pc' := 46) zd_Sh_share_43 (by decide) rfl (fun _ => ?_) (fun q => absurd c13 q)
      refine zg_iconst (x := (0 : Int32)) (pc' := 59) zd_Sh_share_58 (by decide) rfl ?_
      refine zg_istore (L' := [some (.ref a0), some (.ref a1), some (.int a2), some (.int a3), some (.ref (zR S (zR S a1 0) a3.toNatClampNeg)), some (.int r12), some (.int (0 : Int32)), none]) (pc' := 61) zd_Sh_share_59 (by decide) rfl rfl ?_
      refine zg_iconst (x := (0 : Int32)) (pc' := 62) zd_Sh_share_61 (by decide) rfl ?_
      refine zg_istore (L' := [some (.ref a0), some (.ref a1), some (.int a2), some (.int a3), some (.ref (zR S (zR S a1 0) a3.toNatClampNeg)), some (.int r12), some (.int (0 : Int32)), some (.int (0 : Int32))]) (pc' := 64) zd_Sh_share_62 (by decide) rfl rfl ?_
      exact lp_indh h (P := fun s => zG X zm_Sh_share d 64 [some (.ref (s.1)), some (.ref (s.2.1)), some (.int (s.2.2.1)), some (.int (s.2.2.2.1)), some (.ref (s.2.2.2.2.1)), some (.int (s.2.2.2.2.2.1)), some (.int (s.2.2.2.2.2.2.1)), some (.int (s.2.2.2.2.2.2.2.1))] [] (s.2.2.2.2.2.2.2.2) none S') (fun k hk s h => tm_Sh_share_L64 hd hK10 (fun a0 a1 a2 a3 a4 a5 a6 a7 S h => hk (a0, a1, a2, a3, a4, a5, a6, a7, S) h) h)
    · refine zg_icmp_eq (tgt := 58) (pc' := 46) zd_Sh_share_43 (by decide) rfl (fun q => absurd q c13) (fun _ => ?_)
      refine zg_aload (pc' := 48) zd_Sh_share_46 rfl rfl ?_
      obtain ⟨g14, h⟩ := gd_some h
      obtain ⟨r17, S15, e16, h⟩ := bq_some h
      refine zg_callV (ci := 5) (As := []) (rest := []) (pc' := 51) zl_Sh_48 zq377 zq378 ⟨_, rfl, rfl⟩ zd_Sh_share_48 rfl rfl (Nat.le_of_ble_eq_true rfl) (by omega) (gT_ok g14) (tm_Sa_isThread (d := 2) (Nat.le_refl _) e16) rfl ?_
      refine zg_st (st' := [.int r17]) rfl ?_
      rcases br_some h with ⟨c18, h⟩ | ⟨c18, h⟩
      · refine zg_if_ne (tgt := 58) (pc' := 54) zd_Sh_share_51 (by decide) rfl (fun q => absurd c18 q) (fun _ => ?_)
        refine zg_iconst (x := (1 : Int32)) (pc' := 55) zd_Sh_share_54 (by decide) rfl ?_
        refine zg_goto (tgt := 59) zd_Sh_share_55 (by decide) ?_
        refine zg_istore (L' := [some (.ref a0), some (.ref a1), some (.int a2), some (.int a3), some (.ref (zR S (zR S a1 0) a3.toNatClampNeg)), some (.int r12), some (.int (1 : Int32)), none]) (pc' := 61) zd_Sh_share_59 (by decide) rfl rfl ?_
        refine zg_iconst (x := (0 : Int32)) (pc' := 62) zd_Sh_share_61 (by decide) rfl ?_
        refine zg_istore (L' := [some (.ref a0), some (.ref a1), some (.int a2), some (.int a3), some (.ref (zR S (zR S a1 0) a3.toNatClampNeg)), some (.int r12), some (.int (1 : Int32)), some (.int (0 : Int32))]) (pc' := 64) zd_Sh_share_62 (by decide) rfl rfl ?_
        exact lp_indh h (P := fun s => zG X zm_Sh_share d 64 [some (.ref (s.1)), some (.ref (s.2.1)), some (.int (s.2.2.1)), some (.int (s.2.2.2.1)), some (.ref (s.2.2.2.2.1)), some (.int (s.2.2.2.2.2.1)), some (.int (s.2.2.2.2.2.2.1)), some (.int (s.2.2.2.2.2.2.2.1))] [] (s.2.2.2.2.2.2.2.2) none S') (fun k hk s h => tm_Sh_share_L64 hd hK10 (fun a0 a1 a2 a3 a4 a5 a6 a7 S h => hk (a0, a1, a2, a3, a4, a5, a6, a7, S) h) h)
      · refine zg_if_ne (tgt := 58) (pc' := 54) zd_Sh_share_51 (by decide) rfl (fun _ => ?_) (fun q => absurd q c18)
        refine zg_iconst (x := (0 : Int32)) (pc' := 59) zd_Sh_share_58 (by decide) rfl ?_
        refine zg_istore (L' := [some (.ref a0), some (.ref a1), some (.int a2), some (.int a3), some (.ref (zR S (zR S a1 0) a3.toNatClampNeg)), some (.int r12), some (.int (0 : Int32)), none]) (pc' := 61) zd_Sh_share_59 (by decide) rfl rfl ?_
        refine zg_iconst (x := (0 : Int32)) (pc' := 62) zd_Sh_share_61 (by decide) rfl ?_
        refine zg_istore (L' := [some (.ref a0), some (.ref a1), some (.int a2), some (.int a3), some (.ref (zR S (zR S a1 0) a3.toNatClampNeg)), some (.int r12), some (.int (0 : Int32)), some (.int (0 : Int32))]) (pc' := 64) zd_Sh_share_62 (by decide) rfl rfl ?_
        exact lp_indh h (P := fun s => zG X zm_Sh_share d 64 [some (.ref (s.1)), some (.ref (s.2.1)), some (.int (s.2.2.1)), some (.int (s.2.2.2.1)), some (.ref (s.2.2.2.2.1)), some (.int (s.2.2.2.2.2.1)), some (.int (s.2.2.2.2.2.2.1)), some (.int (s.2.2.2.2.2.2.2.1))] [] (s.2.2.2.2.2.2.2.2) none S') (fun k hk s h => tm_Sh_share_L64 hd hK10 (fun a0 a1 a2 a3 a4 a5 a6 a7 S h => hk (a0, a1, a2, a3, a4, a5, a6, a7, S) h) h)
set_option maxRecDepth 100000 in
def fn_Sh_share (a0 : Nat) (a1 : Nat) (a2 : Int32) (S : zS) : Option (zS) :=
  gd (gT S a1 101) <|
  gd (gT S a0 107) <|
  nm (uI S a0 3 (zI S a1 6)) fun S3 =>
  lp (σ := Nat × Nat × Int32 × Int32 × zS) (fun k s => fn_Sh_share_L10 s.1 s.2.1 s.2.2.1 s.2.2.2.1 s.2.2.2.2 (fun (a0 : Nat) (a1 : Nat) (a2 : Int32) (a3 : Int32) (S : zS) => k (a0, a1, a2, a3, S))) FU (a0, a1, a2, (0 : Int32), S3)
set_option maxRecDepth 100000 in
set_option maxHeartbeats 4000000 in
theorem tm_Sh_share {X : zXt} {d : Nat} (hd : 63 ≤ d) {a0 : Nat} {a1 : Nat} {a2 : Int32} {S : zS} {S' : zS} (h : fn_Sh_share a0 a1 a2 S = some S') : zM X zy_Sh_share prog_9_method_2_code 8 (Option.none : Option Jvm.ClassFile.FieldType) d [.ref a0, .ref a1, .int a2] S none S' := by
  refine zM_of (ini := false) (L := [some (.ref a0), some (.ref a1), some (.int a2), none, none, none, none, none]) (plainFor_of_name (by decide)) (fun h => by cases h) (Nat.le_of_ble_eq_true rfl) rfl ?_
  unfold fn_Sh_share at h
  refine zg_aload_n (pc' := 1) zd_Sh_share_0 rfl rfl ?_
  refine zg_aload_n (pc' := 2) zd_Sh_share_1 rfl rfl ?_
  obtain ⟨g1, h⟩ := gd_some h
  refine zg_getI (pc' := 5) zf_Sh_28 zd_Sh_share_2 (gT_ok g1) rfl ?_
  obtain ⟨g2, h⟩ := gd_some h
  refine zg_putI (pc' := 8) zf_Sh_21 zd_Sh_share_5 (Or.inl rfl) (gT_ok g2) rfl ?_
  obtain ⟨S3, eS3, h⟩ := nm_some h
  refine zg_nm eS3 ?_
  refine zg_iconst (x := (0 : Int32)) (pc' := 9) zd_Sh_share_8 (by decide) rfl ?_
  refine zg_istore_n (L' := [some (.ref a0), some (.ref a1), some (.int a2), some (.int (0 : Int32)), none, none, none, none]) (pc' := 10) zd_Sh_share_9 (by decide) rfl rfl ?_
  exact lp_indh h (P := fun s => zG X zm_Sh_share d 10 [some (.ref (s.1)), some (.ref (s.2.1)), some (.int (s.2.2.1)), some (.int (s.2.2.2.1)), none, none, none, none] [] (s.2.2.2.2) none S') (fun k hk s h => tm_Sh_share_L10 hd (fun a0 a1 a2 a3 S h => hk (a0, a1, a2, a3, S) h) h)
theorem zd_Sh_givenTo_0 : decode prog_9_method_4_code 0 = .ok (.iload_n 1, 1) := by decide +kernel
theorem zd_Sh_givenTo_1 : decode prog_9_method_4_code 1 = .ok (.ifCond .lt 22, 3) := by decide +kernel
theorem zd_Sh_givenTo_4 : decode prog_9_method_4_code 4 = .ok (.iload_n 1, 1) := by decide +kernel
theorem zd_Sh_givenTo_5 : decode prog_9_method_4_code 5 = .ok (.aload_n 0, 1) := by decide +kernel
theorem zd_Sh_givenTo_6 : decode prog_9_method_4_code 6 = .ok (.getfield 21, 3) := by decide +kernel
theorem zd_Sh_givenTo_9 : decode prog_9_method_4_code 9 = .ok (.if_icmp .ge 14, 3) := by decide +kernel
theorem zd_Sh_givenTo_12 : decode prog_9_method_4_code 12 = .ok (.aload_n 0, 1) := by decide +kernel
theorem zd_Sh_givenTo_13 : decode prog_9_method_4_code 13 = .ok (.getfield 18, 3) := by decide +kernel
theorem zd_Sh_givenTo_16 : decode prog_9_method_4_code 16 = .ok (.iload_n 1, 1) := by decide +kernel
theorem zd_Sh_givenTo_17 : decode prog_9_method_4_code 17 = .ok (.iaload, 1) := by decide +kernel
theorem zd_Sh_givenTo_18 : decode prog_9_method_4_code 18 = .ok (.bipush 9, 2) := by decide +kernel
theorem zd_Sh_givenTo_20 : decode prog_9_method_4_code 20 = .ok (.if_icmp .ne 6, 3) := by decide +kernel
theorem zd_Sh_givenTo_26 : decode prog_9_method_4_code 26 = .ok (.aload_n 0, 1) := by decide +kernel
theorem zd_Sh_givenTo_27 : decode prog_9_method_4_code 27 = .ok (.getfield 18, 3) := by decide +kernel
theorem zd_Sh_givenTo_30 : decode prog_9_method_4_code 30 = .ok (.iload_n 1, 1) := by decide +kernel
theorem zd_Sh_givenTo_31 : decode prog_9_method_4_code 31 = .ok (.iaload, 1) := by decide +kernel
theorem zd_Sh_givenTo_32 : decode prog_9_method_4_code 32 = .ok (.ireturn, 1) := by decide +kernel
theorem zd_Sh_givenTo_23 : decode prog_9_method_4_code 23 = .ok (.bipush (-5), 2) := by decide +kernel
theorem zd_Sh_givenTo_25 : decode prog_9_method_4_code 25 = .ok (.ireturn, 1) := by decide +kernel
abbrev zm_Sh_givenTo : zQ := ("LoofahSaints$Sharing", prog_9_method_4_code, 2, (Option.some Jvm.ClassFile.FieldType.int), false)
set_option maxRecDepth 100000 in
def fn_Sh_givenTo (a0 : Nat) (a1 : Int32) (S : zS) : Option (Int32 × zS) :=
  br (decide (a1 < 0)) (some ((-5 : Int32), S)) <|
  gd (gT S a0 107) <|
  br (decide ((zI S a0 3) ≤ a1)) (some ((-5 : Int32), S)) <|
  gd (gT S (zR S a0 2) 1) <|
  gd (gB a1 (zT S (zR S a0 2)).2) <|
  br (decide ((zI S (zR S a0 2) a1.toNatClampNeg) = (9 : Int32))) (some ((-5 : Int32), S)) <|
  some ((zI S (zR S a0 2) a1.toNatClampNeg), S)
set_option maxRecDepth 100000 in
set_option maxHeartbeats 4000000 in
theorem tm_Sh_givenTo {X : zXt} {d : Nat} (hd : 2 ≤ d) {v : Int32} {a0 : Nat} {a1 : Int32} {S : zS} {S' : zS} (h : fn_Sh_givenTo a0 a1 S = some (v, S')) : zM X zy_Sh_givenTo prog_9_method_4_code 2 (Option.some Jvm.ClassFile.FieldType.int) d [.ref a0, .int a1] S (some (.int v)) S' := by
  refine zM_of (ini := false) (L := [some (.ref a0), some (.int a1)]) (plainFor_of_name (by decide)) (fun h => by cases h) (Nat.le_of_ble_eq_true rfl) rfl ?_
  unfold fn_Sh_givenTo at h
  refine zg_iload_n (pc' := 1) zd_Sh_givenTo_0 rfl rfl ?_
  rcases br_some h with ⟨c1, h⟩ | ⟨c1, h⟩
  · refine zg_if_lt (tgt := 23) (pc' := 4) zd_Sh_givenTo_1 (by decide) rfl (fun _ => ?_) (fun q => absurd c1 q)
    refine zg_bipush (x := (-5 : Int32)) (pc' := 25) zd_Sh_givenTo_23 (by decide) rfl ?_
    obtain ⟨rfl, rfl⟩ := rt_q h
    exact zg_iret zd_Sh_givenTo_25 zrt_i
  · refine zg_if_lt (tgt := 23) (pc' := 4) zd_Sh_givenTo_1 (by decide) rfl (fun q => absurd q c1) (fun _ => ?_)
    refine zg_iload_n (pc' := 5) zd_Sh_givenTo_4 rfl rfl ?_
    refine zg_aload_n (pc' := 6) zd_Sh_givenTo_5 rfl rfl ?_
    obtain ⟨g2, h⟩ := gd_some h
    refine zg_getI (pc' := 9) zf_Sh_21 zd_Sh_givenTo_6 (gT_ok g2) rfl ?_
    rcases br_some h with ⟨c3, h⟩ | ⟨c3, h⟩
    · refine zg_icmp_ge (tgt := 23) (pc' := 12) zd_Sh_givenTo_9 (by decide) rfl (fun _ => ?_) (fun q => absurd c3 q)
      refine zg_bipush (x := (-5 : Int32)) (pc' := 25) zd_Sh_givenTo_23 (by decide) rfl ?_
      obtain ⟨rfl, rfl⟩ := rt_q h
      exact zg_iret zd_Sh_givenTo_25 zrt_i
    · refine zg_icmp_ge (tgt := 23) (pc' := 12) zd_Sh_givenTo_9 (by decide) rfl (fun q => absurd q c3) (fun _ => ?_)
      refine zg_aload_n (pc' := 13) zd_Sh_givenTo_12 rfl rfl ?_
      refine zg_getR (pc' := 16) zf_Sh_18 rfl zd_Sh_givenTo_13 (gT_ok g2) rfl ?_
      refine zg_iload_n (pc' := 17) zd_Sh_givenTo_16 rfl rfl ?_
      obtain ⟨g4, h⟩ := gd_some h
      obtain ⟨g5, h⟩ := gd_some h
      refine zg_iald (pc' := 18) zd_Sh_givenTo_17 (gT_ok g4) (gB_ok g5) rfl ?_
      refine zg_bipush (x := (9 : Int32)) (pc' := 20) zd_Sh_givenTo_18 (by decide) rfl ?_
      rcases br_some h with ⟨c6, h⟩ | ⟨c6, h⟩
      · refine zg_icmp_ne (tgt := 26) (pc' := 23) zd_Sh_givenTo_20 (by decide) rfl (fun q => absurd c6 q) (fun _ => ?_)
        refine zg_bipush (x := (-5 : Int32)) (pc' := 25) zd_Sh_givenTo_23 (by decide) rfl ?_
        obtain ⟨rfl, rfl⟩ := rt_q h
        exact zg_iret zd_Sh_givenTo_25 zrt_i
      · refine zg_icmp_ne (tgt := 26) (pc' := 23) zd_Sh_givenTo_20 (by decide) rfl (fun _ => ?_) (fun q => absurd q c6)
        refine zg_aload_n (pc' := 27) zd_Sh_givenTo_26 rfl rfl ?_
        refine zg_getR (pc' := 30) zf_Sh_18 rfl zd_Sh_givenTo_27 (gT_ok g2) rfl ?_
        refine zg_iload_n (pc' := 31) zd_Sh_givenTo_30 rfl rfl ?_
        refine zg_iald (pc' := 32) zd_Sh_givenTo_31 (gT_ok g4) (gB_ok g5) rfl ?_
        obtain ⟨rfl, rfl⟩ := rt_q h
        exact zg_iret zd_Sh_givenTo_32 zrt_i
theorem zd_Sh_dearest_0 : decode prog_9_method_5_code 0 = .ok (.bipush (-5), 2) := by decide +kernel
theorem zd_Sh_dearest_2 : decode prog_9_method_5_code 2 = .ok (.istore_n 2, 1) := by decide +kernel
theorem zd_Sh_dearest_3 : decode prog_9_method_5_code 3 = .ok (.iconst 0, 1) := by decide +kernel
theorem zd_Sh_dearest_4 : decode prog_9_method_5_code 4 = .ok (.istore_n 3, 1) := by decide +kernel
theorem zd_Sh_dearest_5 : decode prog_9_method_5_code 5 = .ok (.iconst 0, 1) := by decide +kernel
theorem zd_Sh_dearest_6 : decode prog_9_method_5_code 6 = .ok (.istore 4, 2) := by decide +kernel
theorem zd_Sh_dearest_8 : decode prog_9_method_5_code 8 = .ok (.iload 4, 2) := by decide +kernel
theorem zd_Sh_dearest_10 : decode prog_9_method_5_code 10 = .ok (.aload_n 1, 1) := by decide +kernel
theorem zd_Sh_dearest_11 : decode prog_9_method_5_code 11 = .ok (.getfield 28, 3) := by decide +kernel
theorem zd_Sh_dearest_14 : decode prog_9_method_5_code 14 = .ok (.if_icmp .ge 57, 3) := by decide +kernel
theorem zd_Sh_dearest_71 : decode prog_9_method_5_code 71 = .ok (.iload_n 2, 1) := by decide +kernel
theorem zd_Sh_dearest_72 : decode prog_9_method_5_code 72 = .ok (.ireturn, 1) := by decide +kernel
theorem zd_Sh_dearest_17 : decode prog_9_method_5_code 17 = .ok (.aload_n 1, 1) := by decide +kernel
theorem zd_Sh_dearest_18 : decode prog_9_method_5_code 18 = .ok (.getfield 31, 3) := by decide +kernel
theorem zd_Sh_dearest_21 : decode prog_9_method_5_code 21 = .ok (.iload 4, 2) := by decide +kernel
theorem zd_Sh_dearest_23 : decode prog_9_method_5_code 23 = .ok (.aaload, 1) := by decide +kernel
theorem zd_Sh_dearest_24 : decode prog_9_method_5_code 24 = .ok (.invokevirtual 48, 3) := by decide +kernel
theorem zd_Sh_dearest_27 : decode prog_9_method_5_code 27 = .ok (.ifCond .eq 6, 3) := by decide +kernel
theorem zd_Sh_dearest_33 : decode prog_9_method_5_code 33 = .ok (.aload_n 0, 1) := by decide +kernel
theorem zd_Sh_dearest_34 : decode prog_9_method_5_code 34 = .ok (.aload_n 1, 1) := by decide +kernel
theorem zd_Sh_dearest_35 : decode prog_9_method_5_code 35 = .ok (.iload 4, 2) := by decide +kernel
theorem zd_Sh_dearest_37 : decode prog_9_method_5_code 37 = .ok (.invokevirtual 74, 3) := by decide +kernel
theorem zd_Sh_dearest_40 : decode prog_9_method_5_code 40 = .ok (.iload_n 2, 1) := by decide +kernel
theorem zd_Sh_dearest_41 : decode prog_9_method_5_code 41 = .ok (.bipush (-5), 2) := by decide +kernel
theorem zd_Sh_dearest_43 : decode prog_9_method_5_code 43 = .ok (.if_icmp .eq 14, 3) := by decide +kernel
theorem zd_Sh_dearest_46 : decode prog_9_method_5_code 46 = .ok (.aload_n 0, 1) := by decide +kernel
theorem zd_Sh_dearest_47 : decode prog_9_method_5_code 47 = .ok (.getfield 25, 3) := by decide +kernel
theorem zd_Sh_dearest_50 : decode prog_9_method_5_code 50 = .ok (.iload_n 3, 1) := by decide +kernel
theorem zd_Sh_dearest_51 : decode prog_9_method_5_code 51 = .ok (.if_icmp .lt 6, 3) := by decide +kernel
theorem zd_Sh_dearest_57 : decode prog_9_method_5_code 57 = .ok (.iload 4, 2) := by decide +kernel
theorem zd_Sh_dearest_59 : decode prog_9_method_5_code 59 = .ok (.istore_n 2, 1) := by decide +kernel
theorem zd_Sh_dearest_60 : decode prog_9_method_5_code 60 = .ok (.aload_n 0, 1) := by decide +kernel
theorem zd_Sh_dearest_61 : decode prog_9_method_5_code 61 = .ok (.getfield 25, 3) := by decide +kernel
theorem zd_Sh_dearest_64 : decode prog_9_method_5_code 64 = .ok (.istore_n 3, 1) := by decide +kernel
theorem zd_Sh_dearest_54 : decode prog_9_method_5_code 54 = .ok (.goto 11, 3) := by decide +kernel
theorem zd_Sh_dearest_30 : decode prog_9_method_5_code 30 = .ok (.goto 35, 3) := by decide +kernel
theorem zd_Sh_dearest_65 : decode prog_9_method_5_code 65 = .ok (.iinc 4 1, 3) := by decide +kernel
theorem zd_Sh_dearest_68 : decode prog_9_method_5_code 68 = .ok (.goto (-60), 3) := by decide +kernel
abbrev zm_Sh_dearest : zQ := ("LoofahSaints$Sharing", prog_9_method_5_code, 5, (Option.some Jvm.ClassFile.FieldType.int), false)
set_option maxRecDepth 100000 in
def fn_Sh_dearest_L8 (a0 : Nat) (a1 : Nat) (a2 : Int32) (a3 : Int32) (a4 : Int32) (S : zS) (K8 : Nat → Nat → Int32 → Int32 → Int32 → zS → Option (Int32 × zS)) : Option (Int32 × zS) :=
  gd (gT S a1 101) <|
  br (decide ((zI S a1 6) ≤ a4)) (some (a2, S)) <|
  gd (gT S (zR S a1 0) 6) <|
  gd (gB a4 (zT S (zR S a1 0)).2) <|
  gd (gT S (zR S (zR S a1 0) a4.toNatClampNeg) 105) <|
  bq (fn_Sa_isThread (zR S (zR S a1 0) a4.toNatClampNeg) S) fun r8 S6 =>
  br (decide (r8 = 0)) (gd (gT S6 a0 107) <|
  bv (fn_Sh_share a0 a1 a4 S6) fun S11 =>
  br (decide (a2 = (-5 : Int32))) (gd (gT S11 a0 107) <|
  K8 a0 a1 a4 (zI S11 a0 4) (a4 + (1 : Int32)) S11) <|
  gd (gT S11 a0 107) <|
  br (decide ((zI S11 a0 4) < a3)) (K8 a0 a1 a4 (zI S11 a0 4) (a4 + (1 : Int32)) S11) <|
  K8 a0 a1 a2 a3 (a4 + (1 : Int32)) S11) <|
  K8 a0 a1 a2 a3 (a4 + (1 : Int32)) S6
set_option maxRecDepth 100000 in
set_option maxHeartbeats 4000000 in
theorem tm_Sh_dearest_L8 {X : zXt} {d : Nat} (hd : 64 ≤ d) {v : Int32} {S' : zS}  {K8 : Nat → Nat → Int32 → Int32 → Int32 → zS → Option (Int32 × zS)} (hK8 : ∀ (a0 : Nat) (a1 : Nat) (a2 : Int32) (a3 : Int32) (a4 : Int32) (S : zS), K8 a0 a1 a2 a3 a4 S = some (v, S') → zG X zm_Sh_dearest d 8 [some (.ref a0), some (.ref a1), some (.int a2), some (.int a3), some (.int a4)] [] S (some (.int v)) S') {a0 : Nat} {a1 : Nat} {a2 : Int32} {a3 : Int32} {a4 : Int32} {S : zS} (h : fn_Sh_dearest_L8 a0 a1 a2 a3 a4 S K8 = some (v, S')) : zG X zm_Sh_dearest d 8 [some (.ref a0), some (.ref a1), some (.int a2), some (.int a3), some (.int a4)] [] S (some (.int v)) S' := by
  unfold fn_Sh_dearest_L8 at h
  refine zg_iload (pc' := 10) zd_Sh_dearest_8 rfl rfl ?_
  refine zg_aload_n (pc' := 11) zd_Sh_dearest_10 rfl rfl ?_
  obtain ⟨g1, h⟩ := gd_some h
  refine zg_getI (pc' := 14) zf_Sh_28 zd_Sh_dearest_11 (gT_ok g1) rfl ?_
  rcases br_some h with ⟨c2, h⟩ | ⟨c2, h⟩
  · refine zg_icmp_ge (tgt := 71) (pc' := 17) zd_Sh_dearest_14 (by decide) rfl (fun _ => ?_) (fun q => absurd c2 q)
    refine zg_iload_n (pc' := 72) zd_Sh_dearest_71 rfl rfl ?_
    obtain ⟨rfl, rfl⟩ := rt_q h
    exact zg_iret zd_Sh_dearest_72 zrt_i
  · refine zg_icmp_ge (tgt := 71) (pc' := 17) zd_Sh_dearest_14 (by decide) rfl (fun q => absurd q c2) (fun _ => ?_)
    refine zg_aload_n (pc' := 18) zd_Sh_dearest_17 rfl rfl ?_
    refine zg_getR (pc' := 21) zf_Sh_31 rfl zd_Sh_dearest_18 (gT_ok g1) rfl ?_
    refine zg_iload (pc' := 23) zd_Sh_dearest_21 rfl rfl ?_
    obtain ⟨g3, h⟩ := gd_some h
    obtain ⟨g4, h⟩ := gd_some h
    refine zg_aald (t := 6) (pc' := 24) (by decide) zd_Sh_dearest_23 (gT_ok g3) (gB_ok g4) rfl ?_
    obtain ⟨g5, h⟩ := gd_some h
    obtain ⟨r8, S6, e7, h⟩ := bq_some h
    refine zg_callV (ci := 5) (As := []) (rest := []) (pc' := 27) zl_Sh_48 zq377 zq378 ⟨_, rfl, rfl⟩ zd_Sh_dearest_24 rfl rfl (Nat.le_of_ble_eq_true rfl) (by omega) (gT_ok g5) (tm_Sa_isThread (d := 2) (Nat.le_refl _) e7) rfl ?_
    refine zg_st (st' := [.int r8]) rfl ?_
    rcases br_some h with ⟨c9, h⟩ | ⟨c9, h⟩
    · refine zg_if_eq (tgt := 33) (pc' := 30) zd_Sh_dearest_27 (by decide) rfl (fun _ => ?_) (fun q => absurd c9 q)
      refine zg_aload_n (pc' := 34) zd_Sh_dearest_33 rfl rfl ?_
      refine zg_aload_n (pc' := 35) zd_Sh_dearest_34 rfl rfl ?_
      refine zg_iload (pc' := 37) zd_Sh_dearest_35 rfl rfl ?_
      obtain ⟨g10, h⟩ := gd_some h
      obtain ⟨S11, e12, h⟩ := bv_some h
      refine zg_callV (ci := 7) (As := [.ref a1, .int a4]) (rest := []) (pc' := 40) zl_Sh_74 zq592 zq593 ⟨_, rfl, rfl⟩ zd_Sh_dearest_37 rfl rfl (Nat.le_of_ble_eq_true rfl) (by omega) (gT_ok g10) (tm_Sh_share (d := 63) (Nat.le_refl _) e12) rfl ?_
      refine zg_st (st' := []) rfl ?_
      refine zg_iload_n (pc' := 41) zd_Sh_dearest_40 rfl rfl ?_
      refine zg_bipush (x := (-5 : Int32)) (pc' := 43) zd_Sh_dearest_41 (by decide) rfl ?_
      rcases br_some h with ⟨c13, h⟩ | ⟨c13, h⟩
      · refine zg_icmp_eq (tgt := 57) (pc' := 46) zd_Sh_dearest_43 (by decide) rfl (fun _ => ?_) (fun q => absurd c13 q)
        refine zg_iload (pc' := 59) zd_Sh_dearest_57 rfl rfl ?_
        refine zg_istore_n (L' := [some (.ref a0), some (.ref a1), some (.int a4), some (.int a3), some (.int a4)]) (pc' := 60) zd_Sh_dearest_59 (by decide) rfl rfl ?_
        refine zg_aload_n (pc' := 61) zd_Sh_dearest_60 rfl rfl ?_
        obtain ⟨g14, h⟩ := gd_some h
        refine zg_getI (pc' := 64) zf_Sh_25 zd_Sh_dearest_61 (gT_ok g14) rfl ?_
        refine zg_istore_n (L' := [some (.ref a0), some (.ref a1), some (.int a4), some (.int (zI S11 a0 4)), some (.int a4)]) (pc' := 65) zd_Sh_dearest_64 (by decide) rfl rfl ?_
        refine zg_iinc (y := (a4 + (1 : Int32))) (L' := [some (.ref a0), some (.ref a1), some (.int a4), some (.int (zI S11 a0 4)), some (.int (a4 + (1 : Int32)))]) (pc' := 68) zd_Sh_dearest_65 rfl rfl (by decide) rfl rfl ?_
        refine zg_goto (tgt := 8) zd_Sh_dearest_68 (by decide) ?_
        exact hK8 _ _ _ _ _ _ h
      · refine zg_icmp_eq (tgt := 57) (pc' := 46) zd_Sh_dearest_43 (by decide) rfl (fun q => absurd q c13) (fun _ => ?_)
        refine zg_aload_n (pc' := 47) zd_Sh_dearest_46 rfl rfl ?_
        obtain ⟨g15, h⟩ := gd_some h
        refine zg_getI (pc' := 50) zf_Sh_25 zd_Sh_dearest_47 (gT_ok g15) rfl ?_
        refine zg_iload_n (pc' := 51) zd_Sh_dearest_50 rfl rfl ?_
        rcases br_some h with ⟨c16, h⟩ | ⟨c16, h⟩
        · refine zg_icmp_lt (tgt := 57) (pc' := 54) zd_Sh_dearest_51 (by decide) rfl (fun _ => ?_) (fun q => absurd c16 q)
          refine zg_iload (pc' := 59) zd_Sh_dearest_57 rfl rfl ?_
          refine zg_istore_n (L' := [some (.ref a0), some (.ref a1), some (.int a4), some (.int a3), some (.int a4)]) (pc' := 60) zd_Sh_dearest_59 (by decide) rfl rfl ?_
          refine zg_aload_n (pc' := 61) zd_Sh_dearest_60 rfl rfl ?_
          refine zg_getI (pc' := 64) zf_Sh_25 zd_Sh_dearest_61 (gT_ok g15) rfl ?_
          refine zg_istore_n (L' := [some (.ref a0), some (.ref a1), some (.int a4), some (.int (zI S11 a0 4)), some (.int a4)]) (pc' := 65) zd_Sh_dearest_64 (by decide) rfl rfl ?_
          refine zg_iinc (y := (a4 + (1 : Int32))) (L' := [some (.ref a0), some (.ref a1), some (.int a4), some (.int (zI S11 a0 4)), some (.int (a4 + (1 : Int32)))]) (pc' := 68) zd_Sh_dearest_65 rfl rfl (by decide) rfl rfl ?_
          refine zg_goto (tgt := 8) zd_Sh_dearest_68 (by decide) ?_
          exact hK8 _ _ _ _ _ _ h
        · refine zg_icmp_lt (tgt := 57) (pc' := 54) zd_Sh_dearest_51 (by decide) rfl (fun q => absurd q c16) (fun _ => ?_)
          refine zg_goto (tgt := 65) zd_Sh_dearest_54 (by decide) ?_
          refine zg_iinc (y := (a4 + (1 : Int32))) (L' := [some (.ref a0), some (.ref a1), some (.int a2), some (.int a3), some (.int (a4 + (1 : Int32)))]) (pc' := 68) zd_Sh_dearest_65 rfl rfl (by decide) rfl rfl ?_
          refine zg_goto (tgt := 8) zd_Sh_dearest_68 (by decide) ?_
          exact hK8 _ _ _ _ _ _ h
    · refine zg_if_eq (tgt := 33) (pc' := 30) zd_Sh_dearest_27 (by decide) rfl (fun q => absurd q c9) (fun _ => ?_)
      refine zg_goto (tgt := 65) zd_Sh_dearest_30 (by decide) ?_
      refine zg_iinc (y := (a4 + (1 : Int32))) (L' := [some (.ref a0), some (.ref a1), some (.int a2), some (.int a3), some (.int (a4 + (1 : Int32)))]) (pc' := 68) zd_Sh_dearest_65 rfl rfl (by decide) rfl rfl ?_
      refine zg_goto (tgt := 8) zd_Sh_dearest_68 (by decide) ?_
      exact hK8 _ _ _ _ _ _ h
set_option maxRecDepth 100000 in
def fn_Sh_dearest (a0 : Nat) (a1 : Nat) (S : zS) : Option (Int32 × zS) :=
  lp (σ := Nat × Nat × Int32 × Int32 × Int32 × zS) (fun k s => fn_Sh_dearest_L8 s.1 s.2.1 s.2.2.1 s.2.2.2.1 s.2.2.2.2.1 s.2.2.2.2.2 (fun (a0 : Nat) (a1 : Nat) (a2 : Int32) (a3 : Int32) (a4 : Int32) (S : zS) => k (a0, a1, a2, a3, a4, S))) FU (a0, a1, (-5 : Int32), (0 : Int32), (0 : Int32), S)
set_option maxRecDepth 100000 in
set_option maxHeartbeats 4000000 in
theorem tm_Sh_dearest {X : zXt} {d : Nat} (hd : 64 ≤ d) {v : Int32} {a0 : Nat} {a1 : Nat} {S : zS} {S' : zS} (h : fn_Sh_dearest a0 a1 S = some (v, S')) : zM X zy_Sh_dearest prog_9_method_5_code 5 (Option.some Jvm.ClassFile.FieldType.int) d [.ref a0, .ref a1] S (some (.int v)) S' := by
  refine zM_of (ini := false) (L := [some (.ref a0), some (.ref a1), none, none, none]) (plainFor_of_name (by decide)) (fun h => by cases h) (Nat.le_of_ble_eq_true rfl) rfl ?_
  unfold fn_Sh_dearest at h
  refine zg_bipush (x := (-5 : Int32)) (pc' := 2) zd_Sh_dearest_0 (by decide) rfl ?_
  refine zg_istore_n (L' := [some (.ref a0), some (.ref a1), some (.int (-5 : Int32)), none, none]) (pc' := 3) zd_Sh_dearest_2 (by decide) rfl rfl ?_
  refine zg_iconst (x := (0 : Int32)) (pc' := 4) zd_Sh_dearest_3 (by decide) rfl ?_
  refine zg_istore_n (L' := [some (.ref a0), some (.ref a1), some (.int (-5 : Int32)), some (.int (0 : Int32)), none]) (pc' := 5) zd_Sh_dearest_4 (by decide) rfl rfl ?_
  refine zg_iconst (x := (0 : Int32)) (pc' := 6) zd_Sh_dearest_5 (by decide) rfl ?_
  refine zg_istore (L' := [some (.ref a0), some (.ref a1), some (.int (-5 : Int32)), some (.int (0 : Int32)), some (.int (0 : Int32))]) (pc' := 8) zd_Sh_dearest_6 (by decide) rfl rfl ?_
  exact lp_indh h (P := fun s => zG X zm_Sh_dearest d 8 [some (.ref (s.1)), some (.ref (s.2.1)), some (.int (s.2.2.1)), some (.int (s.2.2.2.1)), some (.int (s.2.2.2.2.1))] [] (s.2.2.2.2.2) (some (.int v)) S') (fun k hk s h => tm_Sh_dearest_L8 hd (fun a0 a1 a2 a3 a4 S h => hk (a0, a1, a2, a3, a4, S) h) h)
theorem zd_Sh_leastWithout_0 : decode prog_9_method_6_code 0 = .ok (.aload_n 0, 1) := by decide +kernel
theorem zd_Sh_leastWithout_1 : decode prog_9_method_6_code 1 = .ok (.aload_n 1, 1) := by decide +kernel
theorem zd_Sh_leastWithout_2 : decode prog_9_method_6_code 2 = .ok (.invokevirtual 78, 3) := by decide +kernel
theorem zd_Sh_leastWithout_5 : decode prog_9_method_6_code 5 = .ok (.istore_n 2, 1) := by decide +kernel
theorem zd_Sh_leastWithout_6 : decode prog_9_method_6_code 6 = .ok (.iload_n 2, 1) := by decide +kernel
theorem zd_Sh_leastWithout_7 : decode prog_9_method_6_code 7 = .ok (.bipush (-5), 2) := by decide +kernel
theorem zd_Sh_leastWithout_9 : decode prog_9_method_6_code 9 = .ok (.if_icmp .ne 6, 3) := by decide +kernel
theorem zd_Sh_leastWithout_15 : decode prog_9_method_6_code 15 = .ok (.aload_n 0, 1) := by decide +kernel
theorem zd_Sh_leastWithout_16 : decode prog_9_method_6_code 16 = .ok (.aload_n 1, 1) := by decide +kernel
theorem zd_Sh_leastWithout_17 : decode prog_9_method_6_code 17 = .ok (.iload_n 2, 1) := by decide +kernel
theorem zd_Sh_leastWithout_18 : decode prog_9_method_6_code 18 = .ok (.invokevirtual 74, 3) := by decide +kernel
theorem zd_Sh_leastWithout_21 : decode prog_9_method_6_code 21 = .ok (.aload_n 0, 1) := by decide +kernel
theorem zd_Sh_leastWithout_22 : decode prog_9_method_6_code 22 = .ok (.getfield 25, 3) := by decide +kernel
theorem zd_Sh_leastWithout_25 : decode prog_9_method_6_code 25 = .ok (.ireturn, 1) := by decide +kernel
theorem zd_Sh_leastWithout_12 : decode prog_9_method_6_code 12 = .ok (.bipush (-5), 2) := by decide +kernel
theorem zd_Sh_leastWithout_14 : decode prog_9_method_6_code 14 = .ok (.ireturn, 1) := by decide +kernel
abbrev zm_Sh_leastWithout : zQ := ("LoofahSaints$Sharing", prog_9_method_6_code, 3, (Option.some Jvm.ClassFile.FieldType.int), false)
set_option maxRecDepth 100000 in
def fn_Sh_leastWithout (a0 : Nat) (a1 : Nat) (S : zS) : Option (Int32 × zS) :=
  gd (gT S a0 107) <|
  bq (fn_Sh_dearest a0 a1 S) fun r4 S2 =>
  br (decide (r4 = (-5 : Int32))) (some ((-5 : Int32), S2)) <|
  gd (gT S2 a0 107) <|
  bv (fn_Sh_share a0 a1 r4 S2) fun S7 =>
  gd (gT S7 a0 107) <|
  some ((zI S7 a0 4), S7)
set_option maxRecDepth 100000 in
set_option maxHeartbeats 4000000 in
theorem tm_Sh_leastWithout {X : zXt} {d : Nat} (hd : 65 ≤ d) {v : Int32} {a0 : Nat} {a1 : Nat} {S : zS} {S' : zS} (h : fn_Sh_leastWithout a0 a1 S = some (v, S')) : zM X zy_Sh_leastWithout prog_9_method_6_code 3 (Option.some Jvm.ClassFile.FieldType.int) d [.ref a0, .ref a1] S (some (.int v)) S' := by
  refine zM_of (ini := false) (L := [some (.ref a0), some (.ref a1), none]) (plainFor_of_name (by decide)) (fun h => by cases h) (Nat.le_of_ble_eq_true rfl) rfl ?_
  unfold fn_Sh_leastWithout at h
  refine zg_aload_n (pc' := 1) zd_Sh_leastWithout_0 rfl rfl ?_
  refine zg_aload_n (pc' := 2) zd_Sh_leastWithout_1 rfl rfl ?_
  obtain ⟨g1, h⟩ := gd_some h
  obtain ⟨r4, S2, e3, h⟩ := bq_some h
  refine zg_callV (ci := 7) (As := [.ref a1]) (rest := []) (pc' := 5) zl_Sh_78 zq587 zq588 ⟨_, rfl, rfl⟩ zd_Sh_leastWithout_2 rfl rfl (Nat.le_of_ble_eq_true rfl) (by omega) (gT_ok g1) (tm_Sh_dearest (d := 64) (Nat.le_refl _) e3) rfl ?_
  refine zg_st (st' := [.int r4]) rfl ?_
  refine zg_istore_n (L' := [some (.ref a0), some (.ref a1), some (.int r4)]) (pc' := 6) zd_Sh_leastWithout_5 (by decide) rfl rfl ?_
  refine zg_iload_n (pc' := 7) zd_Sh_leastWithout_6 rfl rfl ?_
  refine zg_bipush (x := (-5 : Int32)) (pc' := 9) zd_Sh_leastWithout_7 (by decide) rfl ?_
  rcases br_some h with ⟨c5, h⟩ | ⟨c5, h⟩
  · refine zg_icmp_ne (tgt := 15) (pc' := 12) zd_Sh_leastWithout_9 (by decide) rfl (fun q => absurd c5 q) (fun _ => ?_)
    refine zg_bipush (x := (-5 : Int32)) (pc' := 14) zd_Sh_leastWithout_12 (by decide) rfl ?_
    obtain ⟨rfl, rfl⟩ := rt_q h
    exact zg_iret zd_Sh_leastWithout_14 zrt_i
  · refine zg_icmp_ne (tgt := 15) (pc' := 12) zd_Sh_leastWithout_9 (by decide) rfl (fun _ => ?_) (fun q => absurd q c5)
    refine zg_aload_n (pc' := 16) zd_Sh_leastWithout_15 rfl rfl ?_
    refine zg_aload_n (pc' := 17) zd_Sh_leastWithout_16 rfl rfl ?_
    refine zg_iload_n (pc' := 18) zd_Sh_leastWithout_17 rfl rfl ?_
    obtain ⟨g6, h⟩ := gd_some h
    obtain ⟨S7, e8, h⟩ := bv_some h
    refine zg_callV (ci := 7) (As := [.ref a1, .int r4]) (rest := []) (pc' := 21) zl_Sh_74 zq592 zq593 ⟨_, rfl, rfl⟩ zd_Sh_leastWithout_18 rfl rfl (Nat.le_of_ble_eq_true rfl) (by omega) (gT_ok g6) (tm_Sh_share (d := 63) (Nat.le_refl _) e8) rfl ?_
    refine zg_st (st' := []) rfl ?_
    refine zg_aload_n (pc' := 22) zd_Sh_leastWithout_21 rfl rfl ?_
    obtain ⟨g9, h⟩ := gd_some h
    refine zg_getI (pc' := 25) zf_Sh_25 zd_Sh_leastWithout_22 (gT_ok g9) rfl ?_
    obtain ⟨rfl, rfl⟩ := rt_q h
    exact zg_iret zd_Sh_leastWithout_25 zrt_i
