/-! THE CLASS: one use, one day, days; how much is on all, wears, threads -/
theorem hbA {b : Nat} (h : zb b) : (∀ f l R, gT (mk f l R) b 101 = true) ∧ (∀ f l R, gT (mk f l R) (b + 1) 6 = true) ∧ (∀ f l R, gT (mk f l R) (b + 2) 1 = true) ∧ (∀ f l R, gT (mk f l R) (b + 3) 1 = true) ∧ (∀ f l R, gT (mk f l R) (b + 4) 104 = true) ∧ (∀ f l R, gT (mk f l R) (b + 5) 1 = true) ∧ (∀ f l R, gT (mk f l R) (b + 6) 104 = true) ∧ (∀ f l R, gT (mk f l R) (b + 7) 1 = true) ∧ (∀ f l R, gT (mk f l R) (b + 8) 104 = true) ∧ (∀ f l R, gT (mk f l R) (b + 9) 1 = true)
    ∧ (∀ f l R, (zT (mk f l R) (b + 1)).2 = 6) ∧ (∀ f l R, (zT (mk f l R) (b + 2)).2 = 4) ∧ (∀ f l R, (zT (mk f l R) (b + 3)).2 = 4) ∧ (∀ f l R, (zT (mk f l R) (b + 5)).2 = 15) ∧ (∀ f l R, (zT (mk f l R) (b + 7)).2 = 24) ∧ (∀ f l R, (zT (mk f l R) (b + 9)).2 = 24)
    ∧ (∀ f l R, zR (mk f l R) b 0 = b + 1) ∧ (∀ f l R, zR (mk f l R) b 1 = b + 2) ∧ (∀ f l R, zR (mk f l R) b 2 = b + 3) ∧ (∀ f l R, zR (mk f l R) b 3 = b + 4) ∧ (∀ f l R, zR (mk f l R) b 4 = b + 6) ∧ (∀ f l R, zR (mk f l R) b 5 = b + 8) ∧ (∀ f l R, zR (mk f l R) b 8 = R b) ∧ (∀ f l R, zR (mk f l R) (b + 4) 0 = b + 5) ∧ (∀ f l R, zR (mk f l R) (b + 6) 0 = b + 7) ∧ (∀ f l R, zR (mk f l R) (b + 8) 0 = b + 9) ∧ (∀ f l R i, i < 6 → zR (mk f l R) (b + 1) i = b + 10 + 2 * i)
    ∧ (∀ f l R i, i < 6 → gT (mk f l R) (b + 10 + 2 * i) 105 = true) ∧ (∀ f l R i, i < 6 → gT (mk f l R) (b + 11 + 2 * i) 1 = true) ∧ (∀ f l R i, i < 6 → (zT (mk f l R) (b + 11 + 2 * i)).2 = 4) ∧ (∀ f l R i, i < 6 → zR (mk f l R) (b + 10 + 2 * i) 0 = b + 11 + 2 * i) :=
  ⟨fun _ _ _ => hb_T h, fun _ _ _ => hb_T1 h, fun _ _ _ => hb_T2 h, fun _ _ _ => hb_T3 h, fun _ _ _ => hb_T4 h, fun _ _ _ => hb_T5 h, fun _ _ _ => hb_T6 h, fun _ _ _ => hb_T7 h, fun _ _ _ => hb_T8 h, fun _ _ _ => hb_T9 h,
    fun _ _ _ => hb_n1 h, fun _ _ _ => hb_n2 h, fun _ _ _ => hb_n3 h, fun _ _ _ => hb_n5 h, fun _ _ _ => hb_n7 h, fun _ _ _ => hb_n9 h,
    fun _ _ _ => hb_R0 h, fun _ _ _ => hb_R1 h, fun _ _ _ => hb_R2 h, fun _ _ _ => hb_R3 h, fun _ _ _ => hb_R4 h, fun _ _ _ => hb_R5 h, fun _ _ _ => hb_R8 h, fun _ _ _ => hb_R40 h, fun _ _ _ => hb_R60 h, fun _ _ _ => hb_R80 h, fun _ _ _ _ hi => hb_Rs h hi,
    fun _ _ _ _ hi => sp_T (sp_b h hi), fun f l R i hi => by
      have := sp_T1 (f := f) (l := l) (R := R) (sp_b h hi)
      rw [show b + 10 + 2 * i + 1 = b + 11 + 2 * i by omega] at this
      exact this, fun f l R i hi => by
      have := sp_n1 (f := f) (l := l) (R := R) (sp_b h hi)
      rw [show b + 10 + 2 * i + 1 = b + 11 + 2 * i by omega] at this
      exact this, fun f l R i hi => by
      have := sp_R0 (f := f) (l := l) (R := R) (sp_b h hi)
      rw [show b + 10 + 2 * i + 1 = b + 11 + 2 * i by omega] at this
      exact this⟩
/-- how many doctrines -/
def pc (x : Nat) : Nat := dn (mnP (nI x) 12)
theorem nI_pc {x : Nat} : mnP (nI x) 12 = nI (pc x) := (nI_dn _).symm
set_option maxRecDepth 100000 in
theorem pc_le : ∀ x, x < 4096 → pc x ≤ 12 := by decide +kernel
theorem bc_pc {x : Nat} {S : zS} (h : x < 4096) : fn_Jd_bitCount (nI x) S = some (nI (pc x), S) := by
  rw [c_bit, bc_mn x h, nI_pc]
theorem m_pc {x : Nat} {S : zS} : fn_Mo_many (nI x) S = some (nI (pc x), S) := by
  rw [m_many, nI_pc]
def onN (a : Nat → Nat) : Nat → Nat
  | 0 => 0
  | k + 1 => onN a k + pc (a (60 + 2 * k))
def wrN (a : Nat → Nat) : Nat → Nat
  | 0 => 0
  | k + 1 => wrN a k + a (10 * k + 3)
def thN (a : Nat → Nat) : Nat → Nat
  | 0 => 0
  | k + 1 => if 99 ≤ a (10 * k + 3) then thN a k ||| 2 ^ k else thN a k
theorem sh_k : ∀ k, k < 31 → (1 : Int32) <<< (nI k &&& 31) = nI (2 ^ k) := by decide +kernel
theorem thN_lt {a : Nat → Nat} : ∀ k, k ≤ 6 → thN a k < 64
  | 0, _ => Nat.succ_pos 63
  | k + 1, h => by
    unfold thN
    have h1 := thN_lt (a := a) k (by omega)
    split
    · exact Nat.or_lt_two_pow (n := 6) h1 (Nat.pow_lt_pow_right (by decide) (by omega))
    · exact h1
section
variable {f f' : Nat → Nat → Int32} {l : Nat → Nat → Int64} {R : Nat → Nat} {a : Nat → Nat} {b i j k x : Nat} {T : Nat → Nat → Nat} {N : Nat → Nat} {ru D : Nat}
theorem c_onAll (hb : zb b) (h : cC b a f R) (hG : Gd a ru D) : fn_Ho_onAll b (mk f l R) = some (nI (onN a 4), mk f l R) := by
  obtain ⟨u0, u1, u2, u3, u4, u5, u6, u7, u8, u9, u10, u11, u12, u13, u14, u15, u16, u17, u18, u19, u20, u21, u22, u23, u24, u25, u26, u27, u28, u29, u30⟩ := hbA hb
  refine lp_walkF (fun k => (b, nI (onN a k), nI k, mk f l R)) 4 (by decide) rfl (fun k hk K => ?_) (fun K => rfl)
  show fn_Ho_onAll_L4 b (nI (onN a k)) (nI k) (mk f l R) _ = K (b, nI (onN a k + pc (a (60 + 2 * k))), nI (k + 1), mk f l R)
  have e := cC_o h hk
  have g := ((Gd_all hG).2.2.1 k hk).1
  simp (disch := omega) only [fn_Ho_onAll_L4, e, bc_pc g, u0, u1, u2, u3, u4, u5, u6, u7, u8, u9, u10, u11, u12, u13, u14, u15, u16, u17, u18, u19, u20, u21, u22, u23, u24, u25, u26, u27, u28, u29, u30, wbr_T, wbr_F, wgd_T, wbq, wbv, wnm, zI_mk, zL_mk, uI_mk, uL_mk, kI_mk, kL_mk, nI_add, nI_mul, nI_sub, nI_div, nI_clamp, wgB, wgP, nI_leI, nI_ltI, nI_eq, nI_eqm, nI_eqm5, wdT, wdF, wd1, wd0, li_1, li_4]
theorem c_wears (hb : zb b) (h : cC b a f R) : fn_Ho_wearOfAll b (mk f l R) = some (nI (wrN a (a 68)), mk f l R) := by
  obtain ⟨u0, u1, u2, u3, u4, u5, u6, u7, u8, u9, u10, u11, u12, u13, u14, u15, u16, u17, u18, u19, u20, u21, u22, u23, u24, u25, u26, u27, u28, u29, u30⟩ := hbA hb
  have h6 := h.1.1
  have z := cC_z h
  refine lp_walkF (fun k => (b, nI (wrN a k), nI k, mk f l R)) (a 68) (by omega) rfl (fun k hk K => ?_) (fun K => ?_)
  · show fn_Ho_wearOfAll_L4 b (nI (wrN a k)) (nI k) (mk f l R) _ = K (b, nI (wrN a k + a (10 * k + 3)), nI (k + 1), mk f l R)
    have e := cC_w h hk
    simp (disch := omega) only [fn_Ho_wearOfAll_L4, e, z, u0, u1, u2, u3, u4, u5, u6, u7, u8, u9, u10, u11, u12, u13, u14, u15, u16, u17, u18, u19, u20, u21, u22, u23, u24, u25, u26, u27, u28, u29, u30, wbr_T, wbr_F, wgd_T, wbq, wbv, wnm, zI_mk, zL_mk, uI_mk, uL_mk, kI_mk, kL_mk, nI_add, nI_mul, nI_sub, nI_div, nI_clamp, wgB, wgP, nI_leI, nI_ltI, nI_eq, nI_eqm, nI_eqm5, wdT, wdF, wd1, wd0, li_1]
  · show fn_Ho_wearOfAll_L4 b (nI (wrN a (a 68))) (nI (a 68)) (mk f l R) _ = _
    simp (disch := omega) only [fn_Ho_wearOfAll_L4, z, u0, u1, u2, u3, u4, u5, u6, u7, u8, u9, u10, u11, u12, u13, u14, u15, u16, u17, u18, u19, u20, u21, u22, u23, u24, u25, u26, u27, u28, u29, u30, wbr_T, wbr_F, wgd_T, wbq, wbv, wnm, zI_mk, zL_mk, uI_mk, uL_mk, kI_mk, kL_mk, nI_add, nI_mul, nI_sub, nI_div, nI_clamp, wgB, wgP, nI_leI, nI_ltI, nI_eq, nI_eqm, nI_eqm5, wdT, wdF, wd1, wd0]
theorem c_threads (hb : zb b) (h : cC b a f R) (hG : Gd a ru D) : fn_Ho_threads b (mk f l R) = some (nI (thN a (a 68)), mk f l R) := by
  obtain ⟨u0, u1, u2, u3, u4, u5, u6, u7, u8, u9, u10, u11, u12, u13, u14, u15, u16, u17, u18, u19, u20, u21, u22, u23, u24, u25, u26, u27, u28, u29, u30⟩ := hbA hb
  have h6 := h.1.1
  have z := cC_z h
  refine lp_walkF (fun k => (b, nI (thN a k), nI k, mk f l R)) (a 68) (by omega) rfl (fun k hk K => ?_) (fun K => ?_)
  · show fn_Ho_threads_L4 b (nI (thN a k)) (nI k) (mk f l R) _ = K (b, nI (if 99 ≤ a (10 * k + 3) then thN a k ||| 2 ^ k else thN a k), nI (k + 1), mk f l R)
    have e := c_thread (l := l) (R := R) (sp_b hb (show k < 6 by omega)) (cC_w h hk) (Gd_gs hG (by omega)).2.2.2.1
    have hp : 2 ^ k < 2 ^ 6 := Nat.pow_lt_pow_right (by decide) (by omega)
    have ht := thN_lt (a := a) k (by omega)
    have s : nI 1 <<< (nI k &&& 31) = nI (2 ^ k) := sh_k k (by omega)
    have o := nI_or (a := thN a k) (b := 2 ^ k) (by omega) (by omega)
    by_cases c : 99 ≤ a (10 * k + 3)
    · rw [if_pos c] at e ⊢
      simp (disch := omega) only [fn_Ho_threads_L4, e, z, s, o, u0, u1, u2, u3, u4, u5, u6, u7, u8, u9, u10, u11, u12, u13, u14, u15, u16, u17, u18, u19, u20, u21, u22, u23, u24, u25, u26, u27, u28, u29, u30, wbr_T, wbr_F, wgd_T, wbq, wbv, wnm, zI_mk, zL_mk, uI_mk, uL_mk, kI_mk, kL_mk, nI_add, nI_mul, nI_sub, nI_div, nI_clamp, wgB, wgP, nI_leI, nI_ltI, nI_eq, nI_eqm, nI_eqm5, wdT, wdF, wd1, wd0, li_0, li_1]
    · rw [if_neg c] at e ⊢
      simp (disch := omega) only [fn_Ho_threads_L4, e, z, u0, u1, u2, u3, u4, u5, u6, u7, u8, u9, u10, u11, u12, u13, u14, u15, u16, u17, u18, u19, u20, u21, u22, u23, u24, u25, u26, u27, u28, u29, u30, wbr_T, wbr_F, wgd_T, wbq, wbv, wnm, zI_mk, zL_mk, uI_mk, uL_mk, kI_mk, kL_mk, nI_add, nI_mul, nI_sub, nI_div, nI_clamp, wgB, wgP, nI_leI, nI_ltI, nI_eq, nI_eqm, nI_eqm5, wdT, wdF, wd1, wd0, li_0, li_1]
  · show fn_Ho_threads_L4 b (nI (thN a (a 68))) (nI (a 68)) (mk f l R) _ = _
    simp (disch := omega) only [fn_Ho_threads_L4, z, u0, u1, u2, u3, u4, u5, u6, u7, u8, u9, u10, u11, u12, u13, u14, u15, u16, u17, u18, u19, u20, u21, u22, u23, u24, u25, u26, u27, u28, u29, u30, wbr_T, wbr_F, wgd_T, wbq, wbv, wnm, zI_mk, zL_mk, uI_mk, uL_mk, kI_mk, kL_mk, nI_add, nI_mul, nI_sub, nI_div, nI_clamp, wgB, wgP, nI_leI, nI_ltI, nI_eq, nI_eqm, nI_eqm5, wdT, wdF, wd1, wd0]
theorem m_onAll (h : MX T N ru D a f) : fn_Mo_onAll 137 (mk f l R) = some (nI (onN a 4), mk f l R) := by
  have hA := h.2.1
  refine lp_walkF (fun k => (137, nI (onN a k), nI k, mk f l R)) 4 (by decide) rfl (fun k hk K => ?_) (fun K => rfl)
  show fn_Mo_onAll_L4 137 (nI (onN a k)) (nI k) (mk f l R) _ = K (137, nI (onN a k + pc (a (60 + 2 * k))), nI (k + 1), mk f l R)
  have e := m_on (f := f) (l := l) (R := R) hk
  rw [hA] at e
  simp (disch := omega) only [fn_Mo_onAll_L4, e, m_pc, gT_mk_137, wbr_T, wbr_F, wgd_T, wbq, wbv, wnm, zI_mk, zL_mk, uI_mk, uL_mk, kI_mk, kL_mk, nI_add, nI_mul, nI_sub, nI_div, nI_clamp, wgB, wgP, nI_leI, nI_ltI, nI_eq, nI_eqm, nI_eqm5, wdT, wdF, wd1, wd0, li_1, li_4]
theorem m_wears (h : MX T N ru D a f) : fn_Mo_wears 137 (mk f l R) = some (nI (wrN a (a 68)), mk f l R) := by
  have hA := h.2.1
  have h6 := (Gd_all h.2.2.1).1
  refine lp_walkF (fun k => (137, nI (wrN a k), nI k, mk f l R)) (a 68) (by omega) rfl (fun k hk K => ?_) (fun K => ?_)
  · show fn_Mo_wears_L4 137 (nI (wrN a k)) (nI k) (mk f l R) _ = K (137, nI (wrN a k + a (10 * k + 3)), nI (k + 1), mk f l R)
    have e := m_wear (f := f) (l := l) (R := R) (show k < 6 by omega)
    rw [hA] at e
    simp (disch := omega) only [fn_Mo_wears_L4, e, hA, gT_mk_137, zR_mk_137_0, gT_mk_138, zT_mk_138, wbr_T, wbr_F, wgd_T, wbq, wbv, wnm, zI_mk, zL_mk, uI_mk, uL_mk, kI_mk, kL_mk, nI_add, nI_mul, nI_sub, nI_div, nI_clamp, wgB, wgP, nI_leI, nI_ltI, nI_eq, nI_eqm, nI_eqm5, wdT, wdF, wd1, wd0, li_1, li_68]
  · show fn_Mo_wears_L4 137 (nI (wrN a (a 68))) (nI (a 68)) (mk f l R) _ = _
    simp (disch := omega) only [fn_Mo_wears_L4, hA, gT_mk_137, zR_mk_137_0, gT_mk_138, zT_mk_138, wbr_T, wbr_F, wgd_T, wbq, wbv, wnm, zI_mk, zL_mk, uI_mk, uL_mk, kI_mk, kL_mk, nI_add, nI_mul, nI_sub, nI_div, nI_clamp, wgB, wgP, nI_leI, nI_ltI, nI_eq, nI_eqm, nI_eqm5, wdT, wdF, wd1, wd0, li_1, li_68]
theorem or_0 {m : Nat} (h : m < 2 ^ 31) : nI m ||| (0 : Int32) = nI m := by
  rw [li_0, nI_or (by omega) (by decide), Nat.or_zero]
theorem m_threads (h : MX T N ru D a f) : fn_Mo_threads 137 (mk f l R) = some (nI (thN a (a 68)), mk f l R) := by
  have hA := h.2.1
  have h6 := (Gd_all h.2.2.1).1
  refine lp_walkF (fun k => (137, nI (thN a k), nI k, mk f l R)) (a 68) (by omega) rfl (fun k hk K => ?_) (fun K => ?_)
  · show fn_Mo_threads_L4 137 (nI (thN a k)) (nI k) (mk f l R) _ = K (137, nI (if 99 ≤ a (10 * k + 3) then thN a k ||| 2 ^ k else thN a k), nI (k + 1), mk f l R)
    have e := m_thread (f := f) (l := l) (R := R) (show k < 6 by omega) (hA _) (Gd_gs h.2.2.1 (by omega)).2.2.2.1
    have hp : 2 ^ k < 2 ^ 6 := Nat.pow_lt_pow_right (by decide) (by omega)
    have ht := thN_lt (a := a) k (by omega)
    have s : nI 1 <<< (nI k &&& 31) = nI (2 ^ k) := sh_k k (by omega)
    have o := nI_or (a := thN a k) (b := 2 ^ k) (by omega) (by omega)
    have o0 : nI (thN a k) ||| nI 0 = nI (thN a k) := or_0 (by omega)
    by_cases c : 99 ≤ a (10 * k + 3)
    · rw [if_pos c] at e ⊢
      simp (disch := omega) only [fn_Mo_threads_L4, e, hA, s, o, gT_mk_137, zR_mk_137_0, gT_mk_138, zT_mk_138, wbr_T, wbr_F, wgd_T, wbq, wbv, wnm, zI_mk, zL_mk, uI_mk, uL_mk, kI_mk, kL_mk, nI_add, nI_mul, nI_sub, nI_div, nI_clamp, wgB, wgP, nI_leI, nI_ltI, nI_eq, nI_eqm, nI_eqm5, wdT, wdF, wd1, wd0, li_0, li_1, li_68]
    · rw [if_neg c] at e ⊢
      simp (disch := omega) only [fn_Mo_threads_L4, e, hA, o0, gT_mk_137, zR_mk_137_0, gT_mk_138, zT_mk_138, wbr_T, wbr_F, wgd_T, wbq, wbv, wnm, zI_mk, zL_mk, uI_mk, uL_mk, kI_mk, kL_mk, nI_add, nI_mul, nI_sub, nI_div, nI_clamp, wgB, wgP, nI_leI, nI_ltI, nI_eq, nI_eqm, nI_eqm5, wdT, wdF, wd1, wd0, li_0, li_1, li_68]
  · show fn_Mo_threads_L4 137 (nI (thN a (a 68))) (nI (a 68)) (mk f l R) _ = _
    simp (disch := omega) only [fn_Mo_threads_L4, hA, gT_mk_137, zR_mk_137_0, gT_mk_138, zT_mk_138, wbr_T, wbr_F, wgd_T, wbq, wbv, wnm, zI_mk, zL_mk, uI_mk, uL_mk, kI_mk, kL_mk, nI_add, nI_mul, nI_sub, nI_div, nI_clamp, wgB, wgP, nI_leI, nI_ltI, nI_eq, nI_eqm, nI_eqm5, wdT, wdF, wd1, wd0, li_1, li_68]
/-! the class's days -/
/-- the class's side: the house at b is the row a -/
def CX (T : Nat → Nat → Nat) (N : Nat → Nat) (ru D : Nat) (b : Nat) (a : Nat → Nat) (f : Nat → Nat → Int32) (R : Nat → Nat) : Prop := CK T N ru f ∧ cC b a f R ∧ Gd a ru D ∧ D < 2 ^ 20
theorem CX_of {a' : Nat → Nat} {D' : Nat} {R' : Nat → Nat} (h : CX T N ru D b a f R) (hb : zb b) (hd : cd b f f') (hc : cC b a' f' R') (hg : Gd a' ru D') (hD : D' < 2 ^ 20) : CX T N ru D' b a' f' R' := by
  have := zb_ge hb
  exact ⟨CK_fr h.1 (fun p j q => hd p j (by omega)), hc, hg, hD⟩
theorem c_scrub (hb : zb b) (h : CX T N ru D b a f R) (hi : i < a 68) (hj : j < 4) : ∃ f', fn_Ho_scrub b (b + 10 + 2 * i) (nI j) (mk f l R) = some (nI (takesN (rV T N) a i (a (60 + 2 * j))), mk f' l R) ∧ cC b (usedS (rV T N) a i j) f' R ∧ cd b f f' := by
  obtain ⟨u0, u1, u2, u3, u4, u5, u6, u7, u8, u9, u10, u11, u12, u13, u14, u15, u16, u17, u18, u19, u20, u21, u22, u23, u24, u25, u26, u27, u28, u29, u30⟩ := hbA hb
  obtain ⟨h1, h2, h3, h4⟩ := h
  have h6 := h2.1.1
  have i6 : i < 6 := by omega
  obtain ⟨z1, z2, z3, z4, z5⟩ := Gd_all h3
  obtain ⟨g1, g2, g3, g4, g5, g6, g7⟩ := z2 i i6
  have hV := rV_g T N
  have hs := sp_b hb i6
  have eg := c_grit (l := l) (R := R) h1 hs (cC_sP h2 hi) h3 h4 i6
  have et := c_takesS (l := l) (R := R) h1 hs (cC_sP h2 hi) h3 i6 (z3 j hj).1
  have eo := cC_o h2 hj
  have ed := cC_d h2
  have hR := h2.2.2.1
  have ho := nI_offN (o := a (60 + 2 * j)) (m := takesN (rV T N) a i (a (60 + 2 * j)))
  have c1 := cC_uo (x := offN (a (60 + 2 * j)) (takesN (rV T N) a i (a (60 + 2 * j)))) h2 hj
  have c2 := cC_uw (x := wornN (a (10 * i + 3)) (a (10 * i + 4)) (rV T N (a 70)).1) c1 i6
  have c3 := cC_ut (x := 1) c2 i6
  have ew : up f (b + 2) j (nI (offN (a (60 + 2 * j)) (takesN (rV T N) a i (a (60 + 2 * j))))) (b + 10 + 2 * i) 5 = nI (a (10 * i + 3)) := (up_np (by omega)).trans (cC_w h2 hi)
  have ewt : up f (b + 2) j (nI (offN (a (60 + 2 * j)) (takesN (rV T N) a i (a (60 + 2 * j))))) (b + 10 + 2 * i) 7 = nI (a (10 * i + 4)) := (up_np (by omega)).trans (cC_t h2 hi)
  have hh := c_hard h1 z5
  have hge := zb_ge hb
  have hrl := h1.1.1
  have hhp : hp (a 70) = 38 ∨ 107 ≤ hp (a 70) := by
    by_cases e : a 70 = 0
    · rw [e]; exact Or.inl rfl
    · exact Or.inr (hp_ge (by omega) (by omega)).1
  have eh : up f (b + 2) j (nI (offN (a (60 + 2 * j)) (takesN (rV T N) a i (a (60 + 2 * j))))) (hp (a 70)) 3 = nI (rV T N (a 70)).1 := (up_np (by omega)).trans hh
  have eT := hp_T (f := up f (b + 2) j (nI (offN (a (60 + 2 * j)) (takesN (rV T N) a i (a (60 + 2 * j)))))) (l := l) (R := R) (show a 70 ≤ 6 by omega)
  have eWn := c_worn (S := mk (up f (b + 2) j (nI (offN (a (60 + 2 * j)) (takesN (rV T N) a i (a (60 + 2 * j)))))) l R) g4 g5 (hV (a 70))
  have ho' : nI (a (60 + 2 * j)) &&& (nI (takesN (rV T N) a i (a (60 + 2 * j))) ^^^ -nI 1) = nI (offN (a (60 + 2 * j)) (takesN (rV T N) a i (a (60 + 2 * j)))) := ho.symm
  refine ⟨_, ?_, c3, cd_t (cd_t (cd_up (by omega) (by omega)) (cd_up (by omega) (by omega))) (cd_up (by omega) (by omega))⟩
  simp (disch := omega) only [fn_Ho_scrub, fn_Sa_wearBy, eg, et, eo, ed, hR, ho', ew, ewt, eh, eT, eWn, u0, u1, u2, u3, u4, u5, u6, u7, u8, u9, u10, u11, u12, u13, u14, u15, u16, u17, u18, u19, u20, u21, u22, u23, u24, u25, u26, u27, u28, u29, u30, wbr_T, wbr_F, wgd_T, wbq, wbv, wnm, zI_mk, zL_mk, uI_mk, uL_mk, kI_mk, kL_mk, nI_clamp, wgB, wgP, li_1]
theorem c_dayg : ∀ (e k G : Nat) (f : Nat → Nat → Int32) (a0 : Nat → Nat), k + e = 4 → e < G → zb b → cC b (gS a0 k) f R → Gd (gS a0 k) ru D →
    ∃ f', lp (σ := Nat × Int32 × zS) (fun k s => fn_Ho_goDay_L60 s.1 s.2.1 s.2.2 (fun (a0 : Nat) (a1 : Int32) (S : zS) => k (a0, a1, S))) G (b, nI k, mk f l R) = some (mk f' l R) ∧ cd b f f' ∧ cC b (us (gS a0 4) 69 (gS a0 4 69 + 1)) f' R
  | 0, k, G, f, a0, he, hG, hb, h, hg => by
    obtain ⟨G, rfl⟩ : ∃ H, G = H + 1 := ⟨G - 1, by omega⟩
    obtain ⟨u0, u1, u2, u3, u4, u5, u6, u7, u8, u9, u10, u11, u12, u13, u14, u15, u16, u17, u18, u19, u20, u21, u22, u23, u24, u25, u26, u27, u28, u29, u30⟩ := hbA hb
    have hk : k = 4 := by omega
    subst hk
    rw [lpS]
    show ∃ f', fn_Ho_goDay_L60 b (nI 4) (mk f l R) _ = _ ∧ _
    have ed := cC_d h
    refine ⟨_, ?_, cd_up (by omega) (by omega), cC_ud h⟩
    simp (disch := omega) only [fn_Ho_goDay_L60, ed, u0, u1, u2, u3, u4, u5, u6, u7, u8, u9, u10, u11, u12, u13, u14, u15, u16, u17, u18, u19, u20, u21, u22, u23, u24, u25, u26, u27, u28, u29, u30, wbr_T, wbr_F, wgd_T, wbq, wbv, wnm, zI_mk, zL_mk, uI_mk, uL_mk, kI_mk, kL_mk, nI_add, nI_mul, nI_sub, nI_div, nI_clamp, wgB, wgP, nI_leI, nI_ltI, nI_eq, nI_eqm, nI_eqm5, wdT, wdF, wd1, wd0, li_1, li_4]
  | e + 1, k, G, f, a0, he, hG, hb, h, hg => by
    obtain ⟨G, rfl⟩ : ∃ H, G = H + 1 := ⟨G - 1, by omega⟩
    obtain ⟨u0, u1, u2, u3, u4, u5, u6, u7, u8, u9, u10, u11, u12, u13, u14, u15, u16, u17, u18, u19, u20, u21, u22, u23, u24, u25, u26, u27, u28, u29, u30⟩ := hbA hb
    have hge := zb_ge hb
    rw [lpS]
    show ∃ f', fn_Ho_goDay_L60 b (nI k) (mk f l R) _ = _ ∧ _
    have g := (Gd_all hg).2.2.1 k (by omega)
    have eo := cC_o h (show k < 4 by omega)
    have eg := cC_g h (show k < 4 by omega)
    have hor := nI_or (a := gS a0 k (60 + 2 * k)) (b := gS a0 k (61 + 2 * k)) (by omega) (by omega)
    obtain ⟨f1, e1, fr1, r1⟩ := c_dayg e (k + 1) G (up f (b + 2) k (nI (gS a0 k (60 + 2 * k) ||| gS a0 k (61 + 2 * k)))) a0 (by omega) (by omega) hb (cC_uo h (by omega)) (Gd_us hg (by rw [rng_n (by omega) (by omega)]; exact Nat.or_lt_two_pow (n := 12) g.1 g.2))
    refine ⟨f1, ?_, cd_t (cd_up (by omega) (by omega)) fr1, r1⟩
    simp (disch := omega) only [fn_Ho_goDay_L60, eo, eg, hor, u0, u1, u2, u3, u4, u5, u6, u7, u8, u9, u10, u11, u12, u13, u14, u15, u16, u17, u18, u19, u20, u21, u22, u23, u24, u25, u26, u27, u28, u29, u30, wbr_T, wbr_F, wgd_T, wbq, wbv, wnm, zI_mk, zL_mk, uI_mk, uL_mk, kI_mk, kL_mk, nI_add, nI_mul, nI_sub, nI_div, nI_clamp, wgB, wgP, nI_leI, nI_ltI, nI_eq, nI_eqm, nI_eqm5, wdT, wdF, wd1, wd0, li_1, li_4]
    exact e1
theorem c_dayl (hb : zb b) : ∀ (e k G : Nat) (f : Nat → Nat → Int32), k + e = a 68 → e < G → CX T N ru D b (dS (rV T N) a k) f R → dS (rV T N) a k 68 = a 68 →
    ∃ f', lp (σ := Nat × Int32 × zS) (fun k s => fn_Ho_goDay_L2 s.1 s.2.1 s.2.2 (fun (a0 : Nat) (a1 : Int32) (S : zS) => k (a0, a1, S))) G (b, nI k, mk f l R) = some (mk f' l R) ∧ cd b f f' ∧ cC b (dayS (rV T N) a) f' R
  | 0, k, G, f, he, hG, h, h68 => by
    obtain ⟨G, rfl⟩ : ∃ H, G = H + 1 := ⟨G - 1, by omega⟩
    obtain ⟨u0, u1, u2, u3, u4, u5, u6, u7, u8, u9, u10, u11, u12, u13, u14, u15, u16, u17, u18, u19, u20, u21, u22, u23, u24, u25, u26, u27, u28, u29, u30⟩ := hbA hb
    rw [lpS]
    show ∃ f', fn_Ho_goDay_L2 b (nI k) (mk f l R) _ = _ ∧ _
    have hk : k = a 68 := by omega
    have h6 := h.2.1.1.1
    have ez := cC_z h.2.1
    rw [h68] at ez
    obtain ⟨f1, e1, fr1, r1⟩ := c_dayg (l := l) 4 0 FU f (dS (rV T N) a k) rfl (by decide) hb h.2.1 h.2.2.1
    refine ⟨f1, ?_, fr1, ?_⟩
    · have e1' : lp (σ := Nat × Int32 × zS) (fun k s => fn_Ho_goDay_L60 s.1 s.2.1 s.2.2 (fun (a0 : Nat) (a1 : Int32) (S : zS) => k (a0, a1, S))) FU (b, (0 : Int32), mk f l R) = some (mk f1 l R) := e1
      simp (disch := omega) only [fn_Ho_goDay_L2, ez, e1', u0, u1, u2, u3, u4, u5, u6, u7, u8, u9, u10, u11, u12, u13, u14, u15, u16, u17, u18, u19, u20, u21, u22, u23, u24, u25, u26, u27, u28, u29, u30, wbr_T, wbr_F, wgd_T, wbq, wbv, wnm, zI_mk, zL_mk, uI_mk, uL_mk, kI_mk, kL_mk, nI_leI, wdT, wdF, wd1, wd0]
    · rw [hk] at r1
      exact r1
  | e + 1, k, G, f, he, hG, h, h68 => by
    obtain ⟨G, rfl⟩ : ∃ H, G = H + 1 := ⟨G - 1, by omega⟩
    obtain ⟨u0, u1, u2, u3, u4, u5, u6, u7, u8, u9, u10, u11, u12, u13, u14, u15, u16, u17, u18, u19, u20, u21, u22, u23, u24, u25, u26, u27, u28, u29, u30⟩ := hbA hb
    have hge := zb_ge hb
    rw [lpS]
    show ∃ f', fn_Ho_goDay_L2 b (nI k) (mk f l R) _ = _ ∧ _
    have h6 := h.2.1.1.1
    have hkz : k < dS (rV T N) a k 68 := by omega
    have g := (Gd_all h.2.2.1).2.1 k (by omega)
    obtain ⟨g1, g2, g3, g4, g5, g6, g7⟩ := g
    have ez := cC_z h.2.1
    rw [h68] at ez
    have et := c_thread (l := l) (R := R) (sp_b hb (show k < 6 by omega)) (cC_w h.2.1 hkz) g4
    have ep := cC_p h.2.1 hkz
    have fix := fun q (hq : 68 ≤ q) => dSt_fix (V := rV T N) h.2.2.1 (show k < 6 by omega) hq
    have cont : ∀ f1, cC b (dSt (rV T N) (dS (rV T N) a k) k) f1 R → cd b f f1 → (∀ K : Nat → Int32 → zS → Option zS, fn_Ho_goDay_L2 b (nI k) (mk f l R) K = K b (nI (k + 1)) (mk f1 l R)) → ∃ f', fn_Ho_goDay_L2 b (nI k) (mk f l R) (fun (a0 : Nat) (a1 : Int32) (S : zS) => lp (σ := Nat × Int32 × zS) (fun k s => fn_Ho_goDay_L2 s.1 s.2.1 s.2.2 (fun (a0 : Nat) (a1 : Int32) (S : zS) => k (a0, a1, S))) G (a0, a1, S)) = some (mk f' l R) ∧ cd b f f' ∧ cC b (dayS (rV T N) a) f' R := by
      intro f1 h1 fr1 hK
      obtain ⟨f2, e2, fr2, r2⟩ := c_dayl hb e (k + 1) G f1 (by omega) (by omega) (CX_of h hb fr1 h1 (Gd_dSt h.2.2.1 (by omega)) h.2.2.2) ((fix 68 (by decide)).trans h68)
      rw [hK]
      exact ⟨f2, e2, cd_t fr1 fr2, r2⟩
    by_cases c1 : 0 < dS (rV T N) a k (10 * k + 5)
    · have en : nI (dS (rV T N) a k (10 * k + 5)) - nI 1 = nI (dS (rV T N) a k (10 * k + 5) - 1) := nI_sub (by omega)
      have enn := c_nov_in (S := mk f l R) (show dS (rV T N) a k (10 * k + 5) - 1 < 4 by omega)
      rw [en] at ep
      by_cases c2 : dS (rV T N) a k (10 * k + 3) < 99
      · rw [if_neg (by omega)] at et
        obtain ⟨f1, e1, h1, fr1⟩ := c_scrub (l := l) hb h hkz (show dS (rV T N) a k (10 * k + 5) - 1 < 4 by omega)
        refine cont f1 (by unfold dSt; rw [if_pos ⟨c1, c2⟩]; exact h1) fr1 (fun K => ?_)
        simp (disch := omega) only [fn_Ho_goDay_L2, ez, et, ep, enn, e1, u0, u1, u2, u3, u4, u5, u6, u7, u8, u9, u10, u11, u12, u13, u14, u15, u16, u17, u18, u19, u20, u21, u22, u23, u24, u25, u26, u27, u28, u29, u30, wbr_T, wbr_F, wgd_T, wbq, wbv, wnm, zI_mk, zL_mk, uI_mk, uL_mk, kI_mk, kL_mk, nI_add, nI_mul, nI_sub, nI_div, nI_clamp, wgB, wgP, nI_leI, nI_ltI, nI_eq, nI_eqm, nI_eqm5, wdT, wdF, wd1, wd0, li_0, li_1]
      · rw [if_pos (by omega)] at et
        refine cont (up f (b + 10 + 2 * k) 7 (nI 0)) (by unfold dSt; rw [if_neg (fun q => c2 q.2)]; exact cC_ut h.2.1 (by omega)) (cd_up (by omega) (by omega)) (fun K => ?_)
        simp (disch := omega) only [fn_Ho_goDay_L2, ez, et, ep, enn, u0, u1, u2, u3, u4, u5, u6, u7, u8, u9, u10, u11, u12, u13, u14, u15, u16, u17, u18, u19, u20, u21, u22, u23, u24, u25, u26, u27, u28, u29, u30, wbr_T, wbr_F, wgd_T, wbq, wbv, wnm, zI_mk, zL_mk, uI_mk, uL_mk, kI_mk, kL_mk, nI_add, nI_mul, nI_sub, nI_div, nI_clamp, wgB, wgP, nI_leI, nI_ltI, nI_eq, nI_eqm, nI_eqm5, wdT, wdF, wd1, wd0, li_0, li_1]
    · have e0 : dS (rV T N) a k (10 * k + 5) = 0 := by omega
      rw [e0] at ep
      have enn := c_nov_out (S := mk f l R) (a := nI 0 - nI 1) (Or.inl (by decide))
      refine cont (up f (b + 10 + 2 * k) 7 (nI 0)) (by unfold dSt; rw [if_neg (fun q => c1 q.1)]; exact cC_ut h.2.1 (by omega)) (cd_up (by omega) (by omega)) (fun K => ?_)
      simp (disch := omega) only [fn_Ho_goDay_L2, ez, ep, enn, u0, u1, u2, u3, u4, u5, u6, u7, u8, u9, u10, u11, u12, u13, u14, u15, u16, u17, u18, u19, u20, u21, u22, u23, u24, u25, u26, u27, u28, u29, u30, wbr_T, wbr_F, wgd_T, wbq, wbv, wnm, zI_mk, zL_mk, uI_mk, uL_mk, kI_mk, kL_mk, nI_leI, nI_clamp, nI_add, wgB, wdT, wdF, wd1, wd0, li_0, li_1]
theorem c_day (hb : zb b) (h : CX T N ru D b a f R) (hD : D + 1 < 2 ^ 20) : ∃ f', fn_Ho_goDay b (mk f l R) = some (mk f' l R) ∧ cd b f f' ∧ CX T N ru (D + 1) b (dayS (rV T N) a) f' R := by
  have h6 := h.2.1.1.1
  obtain ⟨f1, e1, fr1, r1⟩ := c_dayl (l := l) (a := a) hb (a 68) 0 FU f (Nat.zero_add _) (by show _ < 5000; omega) h rfl
  exact ⟨f1, e1, fr1, CX_of h hb fr1 r1 (Gd_day h.2.2.1).1 hD⟩
theorem c_daysl (hb : zb b) {n : Nat} (h60 : n ≤ 60) : ∀ (e k G : Nat) (f : Nat → Nat → Int32), k + e = n → e < G → CX T N ru (D + k) b (daysS (rV T N) a k) f R → D + n < 2 ^ 20 →
    ∃ f', lp (σ := Nat × Int32 × Int32 × zS) (fun k s => fn_Ho_goDays_L2 s.1 s.2.1 s.2.2.1 s.2.2.2 (fun (a0 : Nat) (a1 : Int32) (a2 : Int32) (S : zS) => k (a0, a1, a2, S))) G (b, nI n, nI k, mk f l R) = some (mk f' l R) ∧ cd b f f' ∧ CX T N ru (D + n) b (daysS (rV T N) a n) f' R
  | 0, k, G, f, he, hG, h, hD => by
    obtain ⟨G, rfl⟩ : ∃ H, G = H + 1 := ⟨G - 1, by omega⟩
    have hk : k = n := by omega
    subst hk
    rw [lpS]
    show ∃ f', fn_Ho_goDays_L2 b (nI k) (nI k) (mk f l R) _ = _ ∧ _
    refine ⟨f, ?_, cd_r, h⟩
    simp (disch := omega) only [fn_Ho_goDays_L2, wbr_T, wbr_F, wgd_T, wbq, wbv, wnm, zI_mk, zL_mk, uI_mk, uL_mk, kI_mk, kL_mk, nI_leI, wdT, wdF, wd1, wd0]
  | e + 1, k, G, f, he, hG, h, hD => by
    obtain ⟨G, rfl⟩ : ∃ H, G = H + 1 := ⟨G - 1, by omega⟩
    obtain ⟨u0, u1, u2, u3, u4, u5, u6, u7, u8, u9, u10, u11, u12, u13, u14, u15, u16, u17, u18, u19, u20, u21, u22, u23, u24, u25, u26, u27, u28, u29, u30⟩ := hbA hb
    rw [lpS]
    show ∃ f', fn_Ho_goDays_L2 b (nI n) (nI k) (mk f l R) _ = _ ∧ _
    obtain ⟨f1, e1, fr1, r1⟩ := c_day (l := l) hb h (by omega)
    obtain ⟨f2, e2, fr2, r2⟩ := c_daysl hb h60 e (k + 1) G f1 (by omega) (by omega) r1 hD
    refine ⟨f2, ?_, cd_t fr1 fr2, r2⟩
    simp (disch := omega) only [fn_Ho_goDays_L2, e1, u0, u1, u2, u3, u4, u5, u6, u7, u8, u9, u10, u11, u12, u13, u14, u15, u16, u17, u18, u19, u20, u21, u22, u23, u24, u25, u26, u27, u28, u29, u30, wbr_T, wbr_F, wgd_T, wbq, wbv, wnm, zI_mk, zL_mk, uI_mk, uL_mk, kI_mk, kL_mk, nI_add, nI_mul, nI_sub, nI_div, nI_clamp, wgB, wgP, nI_leI, nI_ltI, nI_eq, nI_eqm, nI_eqm5, wdT, wdF, wd1, wd0, li_1]
    exact e2
theorem c_days (hb : zb b) {n : Nat} (h60 : n ≤ 60) (h : CX T N ru D b a f R) (hD : D + n < 2 ^ 20) : ∃ f', fn_Ho_goDays b (nI n) (mk f l R) = some (mk f' l R) ∧ cd b f f' ∧ CX T N ru (D + n) b (daysS (rV T N) a n) f' R :=
  c_daysl (l := l) hb h60 n 0 FU f (Nat.zero_add _) (by show _ < 5000; omega) h hD
/-- a loop of the model's whose steps are days -/
theorem m_daysl {σ ρ : Type} {step : (σ → Option ρ) → σ → Option ρ} (W : Nat → zS → σ) {n : Nat} (hs : ∀ k, k < n → ∀ f K, step K (W k (mk f l R)) = bv (fn_Mo_day 137 (mk f l R)) fun S => K (W (k + 1) S)) : ∀ (e k G : Nat) (f : Nat → Nat → Int32), k + e = n → e < G → MX T N ru (D + k) (daysS (rV T N) a k) f → D + n < 2 ^ 20 →
    ∃ f' G', lp step G (W k (mk f l R)) = step (lp step G') (W n (mk f' l R)) ∧ sd f f' ∧ MX T N ru (D + n) (daysS (rV T N) a n) f'
  | 0, k, G, f, he, hG, h, hD => by
    obtain ⟨G, rfl⟩ : ∃ H, G = H + 1 := ⟨G - 1, by omega⟩
    have hk : k = n := by omega
    subst hk
    exact ⟨f, G, rfl, sd_r, h⟩
  | e + 1, k, G, f, he, hG, h, hD => by
    obtain ⟨G, rfl⟩ : ∃ H, G = H + 1 := ⟨G - 1, by omega⟩
    obtain ⟨f1, e1, fr1, r1⟩ := m_day (l := l) (R := R) h (by omega)
    obtain ⟨f2, G2, e2, fr2, r2⟩ := m_daysl W hs e (k + 1) G f1 (by omega) (by omega) r1 hD
    refine ⟨f2, G2, ?_, sd_t fr1 fr2, r2⟩
    rw [lpS, hs k (by omega), e1, wbv]
    exact e2
theorem m_daysF {σ ρ : Type} {step : (σ → Option ρ) → σ → Option ρ} (W : Nat → zS → σ) {n : Nat} (h60 : n ≤ 60) {s : σ} (h0 : W 0 (mk f l R) = s) (hs : ∀ k, k < n → ∀ f K, step K (W k (mk f l R)) = bv (fn_Mo_day 137 (mk f l R)) fun S => K (W (k + 1) S)) (h : MX T N ru D a f) (hD : D + n < 2 ^ 20) :
    ∃ f' G', lp step FU s = step (lp step G') (W n (mk f' l R)) ∧ sd f f' ∧ MX T N ru (D + n) (daysS (rV T N) a n) f' := by
  rw [← h0]
  exact m_daysl W hs n 0 FU f (Nat.zero_add _) (by show _ < 5000; omega) h hD
end
