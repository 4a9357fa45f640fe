/-! CALLS: SEEN: HOLED, CAN -/
/-- whether all of SEEN that is of a saint is so -/
def snP (V : zV) (a : Nat → Nat) (i : Nat) : Nat → Nat → Bool
  | 0, _ => true
  | d + 1, r => if a (72 + 3 * r) = i ∧ ¬ takesN V a i (a (60 + 2 * a (73 + 3 * r))) = a (74 + 3 * r) then false else snP V a i d (r + 1)
/-- how many numbers below k are so; the first from k on -/
def cntP (P : Nat → Bool) : Nat → Nat
  | 0 => 0
  | k + 1 => cntP P k + vb (P k)
def fsP (P : Nat → Bool) : Nat → Nat → Int32
  | 0, _ => -nI 5
  | d + 1, k => if P k = true then nI k else fsP P d (k + 1)
theorem cntP_le (P : Nat → Bool) : ∀ k, cntP P k ≤ k
  | 0 => Nat.le_refl _
  | k + 1 => by
    have h := cntP_le P k
    show cntP P k + vb (P k) ≤ k + 1
    cases P k
    · rw [vb_F]; omega
    · rw [vb_T]; omega
/-- the numbers so far, from the left -/
def hdI (P : Nat → Bool) (M d k n : Nat) (L : Int32) : Prop := n = cntP P k ∧ (n = 0 → L = -nI 5 ∧ fsP P d k = fsP P M 0) ∧ (¬ n = 0 → L = fsP P M 0)
theorem hdI_0 {P : Nat → Bool} {M : Nat} : hdI P M M 0 0 (-nI 5) := ⟨rfl, fun _ => ⟨rfl, rfl⟩, fun h => absurd rfl h⟩
theorem hdI_n {P : Nat → Bool} {M d k n : Nat} {L : Int32} (h : hdI P M (d + 1) k n L) (hp : P k = false) : hdI P M d (k + 1) n L := by
  obtain ⟨h1, h2, h3⟩ := h
  refine ⟨?_, fun e => ⟨(h2 e).1, ?_⟩, h3⟩
  · show n = cntP P k + vb (P k)
    rw [hp, vb_F]
    exact h1
  · rw [← (h2 e).2]
    show _ = if P k = true then nI k else fsP P d (k + 1)
    rw [hp]
    rfl
theorem hdI_y {P : Nat → Bool} {M d k n : Nat} {L : Int32} (h : hdI P M (d + 1) k n L) (hp : P k = true) : hdI P M d (k + 1) (n + 1) (if n = 0 then nI k else L) := by
  obtain ⟨h1, h2, h3⟩ := h
  refine ⟨?_, fun e => absurd e (Nat.succ_ne_zero n), fun _ => ?_⟩
  · show n + 1 = cntP P k + vb (P k)
    rw [hp, vb_T, ← h1]
  · by_cases e : n = 0
    · rw [if_pos e, ← (h2 e).2]
      show _ = if P k = true then nI k else fsP P d (k + 1)
      rw [hp]
      rfl
    · rw [if_neg e]
      exact h3 e
theorem hdI_e {P : Nat → Bool} {M n : Nat} {L : Int32} (h : hdI P M 0 M n L) : n = cntP P M ∧ L = fsP P M 0 := by
  obtain ⟨h1, h2, h3⟩ := h
  refine ⟨h1, ?_⟩
  by_cases e : n = 0
  · rw [(h2 e).1, ← (h2 e).2]
    rfl
  · exact h3 e
section
variable {f f' g : Nat → Nat → Int32} {l : Nat → Nat → Int64} {R : Nat → Nat} {a a' : Nat → Nat} {T : Nat → Nat → Nat} {N : Nat → Nat} {ru D i j k n w z c x y M : Nat} {V : zV}
theorem nmS_h {x : Nat} : nmS (us a (10 * i + 2) x) i = nmS a i := by
  funext k
  unfold nmS
  rw [us_ne (by omega), us_ne (by omega), us_ne (by omega), us_ne (by omega), us_ne (by omega)]
theorem gritS_h (hi : i < 6) {x : Nat} : gritS V (us a (10 * i + 2) x) i = gritS V a i := by
  unfold gritS
  rw [nmS_h, us_ne (show ¬ 10 * i = 10 * i + 2 by omega), us_ne (show ¬ 70 = 10 * i + 2 by omega), us_ne (show ¬ 10 * i + 1 = 10 * i + 2 by omega), us_ne (show ¬ 10 * i + 4 = 10 * i + 2 by omega), us_ne (show ¬ 69 = 10 * i + 2 by omega), us_ne (show ¬ 10 * i + 6 + a 69 % 4 = 10 * i + 2 by omega)]
theorem us_us {k x y : Nat} : us (us a k x) k y = us a k y := by
  funext j
  unfold us
  by_cases e : j = k
  · rw [if_pos e, if_pos e]
  · rw [if_neg e, if_neg e, if_neg e]
theorem us_self {k : Nat} : us a k (a k) = a := by
  funext j
  unfold us
  by_cases e : j = k
  · rw [if_pos e, e]
  · rw [if_neg e]
theorem c_seenl (hK : CK T N ru f) (hP : sP 36 a' i f) (hG' : Gd a' ru D) (hi : i < 6) (hc : cC 41 a f R) (hR : GR a) (hG : Gd a ru D) (he : ∀ q, 60 ≤ q → a' q = a q) : ∀ (d r G : Nat), r + d = a 71 → d < G →
    lp (σ := Nat × Int32 × Nat × Int32 × Int32 × zS) (fun k s => fn_Ho_isAsSeen_L3 s.1 s.2.1 s.2.2.1 s.2.2.2.1 s.2.2.2.2.1 s.2.2.2.2.2 (fun (a0 : Nat) (a1 : Int32) (a2 : Nat) (a3 : Int32) (a4 : Int32) (S : zS) => k (a0, a1, a2, a3, a4, S))) G (41, nI i, 36, gritS (rV T N) a' i, nI r, mk f l R) = some (nI (vb (snP (rV T N) a' i d r)), mk f l R)
  | 0, r, G, hr, hG0 => by
    obtain ⟨G, rfl⟩ : ∃ H, G = H + 1 := ⟨G - 1, by omega⟩
    obtain ⟨u0, u1, u2, u3, u4, u5, u6, u7, u8, u9, u10, u11, u12, u13, u14, u15, u16, u17, u18, u19, u20, u21, u22, u23, u24, u25, u26, u27, u28, u29, u30⟩ := hbB
    have z5 := hR.1.1
    have en : f 45 2 = nI (a 71) := cC_nsee hc
    rw [lpS]
    show fn_Ho_isAsSeen_L3 41 (nI i) 36 _ (nI r) (mk f l R) _ = some (nI 1, _)
    simp (disch := omega) only [wbr_T, wbr_F, wgd_T, wbq, wbv, wnm, zI_mk, zL_mk, uI_mk, uL_mk, kI_mk, kL_mk, nI_add, nI_mul, nI_sub, nI_div, nI_clamp, wgB, wgP, nI_leI, nI_ltI, nI_eq, nI_eqm, nI_eqm5, wdT, wdF, wd1, wd0, li_0, li_1, li_2, li_3, li_4, li_5, li_6, li_7, li_8, li_9, li_10, li_11, li_12, li_13, li_14, li_15, li_16, li_17, li_18, li_19, li_20, li_21, li_22, li_23, li_24, li_25, li_26, li_27, li_28, li_29, li_30, li_31, li_32, li_33, li_38, li_40, li_41, li_48, li_57, li_58, li_59, li_60, li_61, li_62, li_63, li_68, li_69, li_70, li_71, li_72, li_73, li_74, li_75, li_83, li_87, li_88, li_89, li_99, li_100, li_104, li_105, li_106, li_107, li_108, li_109, li_110, li_111, li_112, li_113, li_114, li_115, li_116, li_117, li_118, li_119, li_120, li_121, li_124, li_127, li_128, li_200, li_4095, li_4096, li_9999, fn_Ho_isAsSeen_L3, en, u0, u1, u2, u3, u4, u5, u6, u7, u8, u9, u10, u11, u12, u13, u14, u15, u16, u17, u18, u19, u20, u21, u22, u23, u24, u25, u26, u27, u28, u29, u30]
  | d + 1, r, G, hr, hG0 => by
    obtain ⟨G, rfl⟩ : ∃ H, G = H + 1 := ⟨G - 1, by omega⟩
    obtain ⟨u0, u1, u2, u3, u4, u5, u6, u7, u8, u9, u10, u11, u12, u13, u14, u15, u16, u17, u18, u19, u20, u21, u22, u23, u24, u25, u26, u27, u28, u29, u30⟩ := hbB
    have z5 := hR.1.1
    have z6 := hc.1.1
    have en : f 45 2 = nI (a 71) := cC_nsee hc
    have hr1 : r < a 71 := by omega
    obtain ⟨o1, o2, o3⟩ := hR.2.1 r hr1
    have b0 : f 46 (r * 3) = nI (a (72 + 3 * r)) := by
      have q := cC_see hc (m := 3 * r) (by omega)
      rw [Nat.mul_comm 3 r] at q
      rw [Nat.mul_comm 3 r]
      exact q
    have b1 : f 46 (r * 3 + 1) = nI (a (73 + 3 * r)) := by
      have q := cC_see hc (m := r * 3 + 1) (by omega)
      rw [show 72 + (r * 3 + 1) = 73 + 3 * r by omega] at q
      exact q
    have b2 : f 46 (r * 3 + 2) = nI (a (74 + 3 * r)) := by
      have q := cC_see hc (m := r * 3 + 2) (by omega)
      rw [show 72 + (r * 3 + 2) = 74 + 3 * r by omega] at q
      exact q
    have cl0 := c_cell (l := l) (R := R) (p := 45) (k := r) (c := 0) (C := 15) (u4 f l R) (u23 f l R) (u5 f l R) (u13 f l R) en (by omega) (by decide) (by omega) (by decide)
    have cl1 := c_cell (l := l) (R := R) (p := 45) (k := r) (c := 1) (C := 15) (u4 f l R) (u23 f l R) (u5 f l R) (u13 f l R) en (by omega) (by decide) (by omega) (by decide)
    have cl2 := c_cell (l := l) (R := R) (p := 45) (k := r) (c := 2) (C := 15) (u4 f l R) (u23 f l R) (u5 f l R) (u13 f l R) en (by omega) (by decide) (by omega) (by decide)
    rw [show 45 + 1 = 46 from rfl, show r * 3 + 0 = r * 3 from rfl, b0] at cl0
    rw [show 45 + 1 = 46 from rfl, b1] at cl1
    rw [show 45 + 1 = 46 from rfl, b2] at cl2
    have ih := c_seenl hK hP hG' hi hc hR hG he d (r + 1) G (by omega) (by omega)
    rw [lpS]
    show fn_Ho_isAsSeen_L3 41 (nI i) 36 _ (nI r) (mk f l R) _ = some (nI (vb (if a' (72 + 3 * r) = i ∧ ¬ takesN (rV T N) a' i (a' (60 + 2 * a' (73 + 3 * r))) = a' (74 + 3 * r) then false else snP (rV T N) a' i d (r + 1))), _)
    rw [he (72 + 3 * r) (by omega), he (73 + 3 * r) (by omega), he (74 + 3 * r) (by omega), he (60 + 2 * a (73 + 3 * r)) (by omega)]
    have sT := sp_T (f := f) (l := l) (R := R) sp_36
    have nv := c_nov_in (S := mk f l R) o2
    have eo : f 43 (a (73 + 3 * r)) = nI (a (60 + 2 * a (73 + 3 * r))) := cC_o hc o2
    have go := ((Gd_all hG).2.2.1 _ o2).1
    have et := c_takesS (l := l) (R := R) hK sp_36 hP hG' hi go
    have tl := takesN_lt (V := rV T N) (a := a') (i := i) (o := a (60 + 2 * a (73 + 3 * r)))
    generalize takesN (rV T N) a' i (a (60 + 2 * a (73 + 3 * r))) = t at et tl ⊢
    by_cases e1 : a (72 + 3 * r) = i
    · by_cases e2 : t = a (74 + 3 * r)
      · rw [if_neg (fun q => q.2 e2)]
        simp (disch := omega) only [wbr_T, wbr_F, wgd_T, wbq, wbv, wnm, zI_mk, zL_mk, uI_mk, uL_mk, kI_mk, kL_mk, nI_add, nI_mul, nI_sub, nI_div, nI_clamp, wgB, wgP, nI_leI, nI_ltI, nI_eq, nI_eqm, nI_eqm5, wdT, wdF, wd1, wd0, li_0, li_1, li_2, li_3, li_4, li_5, li_6, li_7, li_8, li_9, li_10, li_11, li_12, li_13, li_14, li_15, li_16, li_17, li_18, li_19, li_20, li_21, li_22, li_23, li_24, li_25, li_26, li_27, li_28, li_29, li_30, li_31, li_32, li_33, li_38, li_40, li_41, li_48, li_57, li_58, li_59, li_60, li_61, li_62, li_63, li_68, li_69, li_70, li_71, li_72, li_73, li_74, li_75, li_83, li_87, li_88, li_89, li_99, li_100, li_104, li_105, li_106, li_107, li_108, li_109, li_110, li_111, li_112, li_113, li_114, li_115, li_116, li_117, li_118, li_119, li_120, li_121, li_124, li_127, li_128, li_200, li_4095, li_4096, li_9999, fn_Ho_isAsSeen_L3, en, cl0, cl1, cl2, nv, eo, et, sT, e1, e2, u0, u1, u2, u3, u4, u5, u6, u7, u8, u9, u10, u11, u12, u13, u14, u15, u16, u17, u18, u19, u20, u21, u22, u23, u24, u25, u26, u27, u28, u29, u30]
        exact ih
      · rw [if_pos ⟨e1, e2⟩]
        simp (disch := omega) only [wbr_T, wbr_F, wgd_T, wbq, wbv, wnm, zI_mk, zL_mk, uI_mk, uL_mk, kI_mk, kL_mk, nI_add, nI_mul, nI_sub, nI_div, nI_clamp, wgB, wgP, nI_leI, nI_ltI, nI_eq, nI_eqm, nI_eqm5, wdT, wdF, wd1, wd0, li_0, li_1, li_2, li_3, li_4, li_5, li_6, li_7, li_8, li_9, li_10, li_11, li_12, li_13, li_14, li_15, li_16, li_17, li_18, li_19, li_20, li_21, li_22, li_23, li_24, li_25, li_26, li_27, li_28, li_29, li_30, li_31, li_32, li_33, li_38, li_40, li_41, li_48, li_57, li_58, li_59, li_60, li_61, li_62, li_63, li_68, li_69, li_70, li_71, li_72, li_73, li_74, li_75, li_83, li_87, li_88, li_89, li_99, li_100, li_104, li_105, li_106, li_107, li_108, li_109, li_110, li_111, li_112, li_113, li_114, li_115, li_116, li_117, li_118, li_119, li_120, li_121, li_124, li_127, li_128, li_200, li_4095, li_4096, li_9999, fn_Ho_isAsSeen_L3, en, cl0, cl1, cl2, nv, eo, et, sT, e1, u0, u1, u2, u3, u4, u5, u6, u7, u8, u9, u10, u11, u12, u13, u14, u15, u16, u17, u18, u19, u20, u21, u22, u23, u24, u25, u26, u27, u28, u29, u30, vb_F]
    · rw [if_neg (fun q => e1 q.1)]
      simp (disch := omega) only [wbr_T, wbr_F, wgd_T, wbq, wbv, wnm, zI_mk, zL_mk, uI_mk, uL_mk, kI_mk, kL_mk, nI_add, nI_mul, nI_sub, nI_div, nI_clamp, wgB, wgP, nI_leI, nI_ltI, nI_eq, nI_eqm, nI_eqm5, wdT, wdF, wd1, wd0, li_0, li_1, li_2, li_3, li_4, li_5, li_6, li_7, li_8, li_9, li_10, li_11, li_12, li_13, li_14, li_15, li_16, li_17, li_18, li_19, li_20, li_21, li_22, li_23, li_24, li_25, li_26, li_27, li_28, li_29, li_30, li_31, li_32, li_33, li_38, li_40, li_41, li_48, li_57, li_58, li_59, li_60, li_61, li_62, li_63, li_68, li_69, li_70, li_71, li_72, li_73, li_74, li_75, li_83, li_87, li_88, li_89, li_99, li_100, li_104, li_105, li_106, li_107, li_108, li_109, li_110, li_111, li_112, li_113, li_114, li_115, li_116, li_117, li_118, li_119, li_120, li_121, li_124, li_127, li_128, li_200, li_4095, li_4096, li_9999, fn_Ho_isAsSeen_L3, en, cl0, cl1, u0, u1, u2, u3, u4, u5, u6, u7, u8, u9, u10, u11, u12, u13, u14, u15, u16, u17, u18, u19, u20, u21, u22, u23, u24, u25, u26, u27, u28, u29, u30]
      exact ih
theorem m_seenl (hi : i < 6) (hR : GR a) : ∀ (d r G : Nat) (f : Nat → Nat → Int32), r + d = a 71 → d < G → MX T N ru D a f →
    ∃ f', lp (σ := Nat × Int32 × Int32 × zS) (fun k s => fn_Mo_isAllSeen_L2 s.1 s.2.1 s.2.2.1 s.2.2.2 (fun (a0 : Nat) (a1 : Int32) (a2 : Int32) (S : zS) => k (a0, a1, a2, S))) G (137, nI i, nI r, mk f l R) = some (nI (vb (snP (rV T N) a i d r)), mk f' l R) ∧ sc f f'
  | 0, r, G, f, hr, hG0, h => by
    obtain ⟨G, rfl⟩ : ∃ H, G = H + 1 := ⟨G - 1, by omega⟩
    have z5 := hR.1.1
    have hA := h.2.1
    refine ⟨f, ?_, sc_r⟩
    rw [lpS]
    show fn_Mo_isAllSeen_L2 137 (nI i) (nI r) (mk f l R) _ = some (nI 1, _)
    simp (disch := omega) only [wbr_T, wbr_F, wgd_T, wbq, wbv, wnm, zI_mk, zL_mk, uI_mk, uL_mk, kI_mk, kL_mk, nI_add, nI_mul, nI_sub, nI_div, nI_clamp, wgB, wgP, nI_leI, nI_ltI, nI_eq, nI_eqm, nI_eqm5, wdT, wdF, wd1, wd0, li_0, li_1, li_2, li_3, li_4, li_5, li_6, li_7, li_8, li_9, li_10, li_11, li_12, li_13, li_14, li_15, li_16, li_17, li_18, li_19, li_20, li_21, li_22, li_23, li_24, li_25, li_26, li_27, li_28, li_29, li_30, li_31, li_32, li_33, li_38, li_40, li_41, li_48, li_57, li_58, li_59, li_60, li_61, li_62, li_63, li_68, li_69, li_70, li_71, li_72, li_73, li_74, li_75, li_83, li_87, li_88, li_89, li_99, li_100, li_104, li_105, li_106, li_107, li_108, li_109, li_110, li_111, li_112, li_113, li_114, li_115, li_116, li_117, li_118, li_119, li_120, li_121, li_124, li_127, li_128, li_200, li_4095, li_4096, li_9999, gT_mk_137, zT_mk_137, zR_mk_137_0, zR_mk_137_1, zR_mk_137_2, zR_mk_137_4, zR_mk_137_6, zR_mk_137_7, zR_mk_137_9, zR_mk_137_16, zR_mk_137_17, zR_mk_137_18, zR_mk_137_19, zR_mk_137_20, zR_mk_137_22, zR_mk_137_24, zR_mk_137_25, zR_mk_137_26, zR_mk_137_28, zR_mk_137_29, zR_mk_137_30, zR_mk_137_31, gT_mk_138, zT_mk_138, gT_mk_139, zT_mk_139, gT_mk_140, zT_mk_140, gT_mk_141, zT_mk_141, gT_mk_142, zT_mk_142, gT_mk_143, zT_mk_143, gT_mk_144, zT_mk_144, gT_mk_145, zT_mk_145, gT_mk_146, zT_mk_146, gT_mk_147, zT_mk_147, gT_mk_148, zT_mk_148, gT_mk_149, zT_mk_149, gT_mk_150, zT_mk_150, gT_mk_151, zT_mk_151, gT_mk_152, zT_mk_152, gT_mk_153, zT_mk_153, gT_mk_154, zT_mk_154, gT_mk_155, zT_mk_155, gT_mk_156, zT_mk_156, gT_mk_157, zT_mk_157, fn_Mo_isAllSeen_L2, hA]
  | d + 1, r, G, f, hr, hG0, h => by
    obtain ⟨G, rfl⟩ : ∃ H, G = H + 1 := ⟨G - 1, by omega⟩
    have z5 := hR.1.1
    have z6 := (Gd_all h.2.2.1).1
    have hA := h.2.1
    have hr1 : r < a 71 := by omega
    obtain ⟨o1, o2, o3⟩ := hR.2.1 r hr1
    rw [lpS]
    show ∃ f', fn_Mo_isAllSeen_L2 137 (nI i) (nI r) (mk f l R) _ = some (nI (vb (if a (72 + 3 * r) = i ∧ ¬ takesN (rV T N) a i (a (60 + 2 * a (73 + 3 * r))) = a (74 + 3 * r) then false else snP (rV T N) a i d (r + 1))), _) ∧ _
    have go := ((Gd_all h.2.2.1).2.2.1 _ o2).1
    have mo := m_on (f := f) (l := l) (R := R) o2
    rw [hA] at mo
    have n1 : 72 + 3 * r + 1 = 73 + 3 * r := by omega
    have n2 : 72 + 3 * r + 2 = 74 + 3 * r := by omega
    obtain ⟨f1, e1, s1⟩ := m_comesOff (l := l) (R := R) h hi go
    have hA1 := (MX_sc h s1).2.1
    have tl := takesN_lt (V := rV T N) (a := a) (i := i) (o := a (60 + 2 * a (73 + 3 * r)))
    generalize takesN (rV T N) a i (a (60 + 2 * a (73 + 3 * r))) = t at e1 tl ⊢
    by_cases c1 : a (72 + 3 * r) = i
    · by_cases c2 : t = a (74 + 3 * r)
      · rw [if_neg (fun q => q.2 c2)]
        obtain ⟨f2, e2, s2⟩ := m_seenl hi hR d (r + 1) G f1 (by omega) (by omega) (MX_sc h s1)
        refine ⟨f2, ?_, sc_t s1 s2⟩
        simp (disch := omega) only [wbr_T, wbr_F, wgd_T, wbq, wbv, wnm, zI_mk, zL_mk, uI_mk, uL_mk, kI_mk, kL_mk, nI_add, nI_mul, nI_sub, nI_div, nI_clamp, wgB, wgP, nI_leI, nI_ltI, nI_eq, nI_eqm, nI_eqm5, wdT, wdF, wd1, wd0, li_0, li_1, li_2, li_3, li_4, li_5, li_6, li_7, li_8, li_9, li_10, li_11, li_12, li_13, li_14, li_15, li_16, li_17, li_18, li_19, li_20, li_21, li_22, li_23, li_24, li_25, li_26, li_27, li_28, li_29, li_30, li_31, li_32, li_33, li_38, li_40, li_41, li_48, li_57, li_58, li_59, li_60, li_61, li_62, li_63, li_68, li_69, li_70, li_71, li_72, li_73, li_74, li_75, li_83, li_87, li_88, li_89, li_99, li_100, li_104, li_105, li_106, li_107, li_108, li_109, li_110, li_111, li_112, li_113, li_114, li_115, li_116, li_117, li_118, li_119, li_120, li_121, li_124, li_127, li_128, li_200, li_4095, li_4096, li_9999, gT_mk_137, zT_mk_137, zR_mk_137_0, zR_mk_137_1, zR_mk_137_2, zR_mk_137_4, zR_mk_137_6, zR_mk_137_7, zR_mk_137_9, zR_mk_137_16, zR_mk_137_17, zR_mk_137_18, zR_mk_137_19, zR_mk_137_20, zR_mk_137_22, zR_mk_137_24, zR_mk_137_25, zR_mk_137_26, zR_mk_137_28, zR_mk_137_29, zR_mk_137_30, zR_mk_137_31, gT_mk_138, zT_mk_138, gT_mk_139, zT_mk_139, gT_mk_140, zT_mk_140, gT_mk_141, zT_mk_141, gT_mk_142, zT_mk_142, gT_mk_143, zT_mk_143, gT_mk_144, zT_mk_144, gT_mk_145, zT_mk_145, gT_mk_146, zT_mk_146, gT_mk_147, zT_mk_147, gT_mk_148, zT_mk_148, gT_mk_149, zT_mk_149, gT_mk_150, zT_mk_150, gT_mk_151, zT_mk_151, gT_mk_152, zT_mk_152, gT_mk_153, zT_mk_153, gT_mk_154, zT_mk_154, gT_mk_155, zT_mk_155, gT_mk_156, zT_mk_156, gT_mk_157, zT_mk_157, fn_Mo_isAllSeen_L2, hA, hA1, n1, n2, mo, e1, c1, c2]
        exact e2
      · rw [if_pos ⟨c1, c2⟩]
        refine ⟨f1, ?_, s1⟩
        simp (disch := omega) only [wbr_T, wbr_F, wgd_T, wbq, wbv, wnm, zI_mk, zL_mk, uI_mk, uL_mk, kI_mk, kL_mk, nI_add, nI_mul, nI_sub, nI_div, nI_clamp, wgB, wgP, nI_leI, nI_ltI, nI_eq, nI_eqm, nI_eqm5, wdT, wdF, wd1, wd0, li_0, li_1, li_2, li_3, li_4, li_5, li_6, li_7, li_8, li_9, li_10, li_11, li_12, li_13, li_14, li_15, li_16, li_17, li_18, li_19, li_20, li_21, li_22, li_23, li_24, li_25, li_26, li_27, li_28, li_29, li_30, li_31, li_32, li_33, li_38, li_40, li_41, li_48, li_57, li_58, li_59, li_60, li_61, li_62, li_63, li_68, li_69, li_70, li_71, li_72, li_73, li_74, li_75, li_83, li_87, li_88, li_89, li_99, li_100, li_104, li_105, li_106, li_107, li_108, li_109, li_110, li_111, li_112, li_113, li_114, li_115, li_116, li_117, li_118, li_119, li_120, li_121, li_124, li_127, li_128, li_200, li_4095, li_4096, li_9999, gT_mk_137, zT_mk_137, zR_mk_137_0, zR_mk_137_1, zR_mk_137_2, zR_mk_137_4, zR_mk_137_6, zR_mk_137_7, zR_mk_137_9, zR_mk_137_16, zR_mk_137_17, zR_mk_137_18, zR_mk_137_19, zR_mk_137_20, zR_mk_137_22, zR_mk_137_24, zR_mk_137_25, zR_mk_137_26, zR_mk_137_28, zR_mk_137_29, zR_mk_137_30, zR_mk_137_31, gT_mk_138, zT_mk_138, gT_mk_139, zT_mk_139, gT_mk_140, zT_mk_140, gT_mk_141, zT_mk_141, gT_mk_142, zT_mk_142, gT_mk_143, zT_mk_143, gT_mk_144, zT_mk_144, gT_mk_145, zT_mk_145, gT_mk_146, zT_mk_146, gT_mk_147, zT_mk_147, gT_mk_148, zT_mk_148, gT_mk_149, zT_mk_149, gT_mk_150, zT_mk_150, gT_mk_151, zT_mk_151, gT_mk_152, zT_mk_152, gT_mk_153, zT_mk_153, gT_mk_154, zT_mk_154, gT_mk_155, zT_mk_155, gT_mk_156, zT_mk_156, gT_mk_157, zT_mk_157, fn_Mo_isAllSeen_L2, hA, hA1, n1, n2, mo, e1, c1, vb_F]
    · rw [if_neg (fun q => c1 q.1)]
      obtain ⟨f2, e2, s2⟩ := m_seenl hi hR d (r + 1) G f (by omega) (by omega) h
      refine ⟨f2, ?_, s2⟩
      simp (disch := omega) only [wbr_T, wbr_F, wgd_T, wbq, wbv, wnm, zI_mk, zL_mk, uI_mk, uL_mk, kI_mk, kL_mk, nI_add, nI_mul, nI_sub, nI_div, nI_clamp, wgB, wgP, nI_leI, nI_ltI, nI_eq, nI_eqm, nI_eqm5, wdT, wdF, wd1, wd0, li_0, li_1, li_2, li_3, li_4, li_5, li_6, li_7, li_8, li_9, li_10, li_11, li_12, li_13, li_14, li_15, li_16, li_17, li_18, li_19, li_20, li_21, li_22, li_23, li_24, li_25, li_26, li_27, li_28, li_29, li_30, li_31, li_32, li_33, li_38, li_40, li_41, li_48, li_57, li_58, li_59, li_60, li_61, li_62, li_63, li_68, li_69, li_70, li_71, li_72, li_73, li_74, li_75, li_83, li_87, li_88, li_89, li_99, li_100, li_104, li_105, li_106, li_107, li_108, li_109, li_110, li_111, li_112, li_113, li_114, li_115, li_116, li_117, li_118, li_119, li_120, li_121, li_124, li_127, li_128, li_200, li_4095, li_4096, li_9999, gT_mk_137, zT_mk_137, zR_mk_137_0, zR_mk_137_1, zR_mk_137_2, zR_mk_137_4, zR_mk_137_6, zR_mk_137_7, zR_mk_137_9, zR_mk_137_16, zR_mk_137_17, zR_mk_137_18, zR_mk_137_19, zR_mk_137_20, zR_mk_137_22, zR_mk_137_24, zR_mk_137_25, zR_mk_137_26, zR_mk_137_28, zR_mk_137_29, zR_mk_137_30, zR_mk_137_31, gT_mk_138, zT_mk_138, gT_mk_139, zT_mk_139, gT_mk_140, zT_mk_140, gT_mk_141, zT_mk_141, gT_mk_142, zT_mk_142, gT_mk_143, zT_mk_143, gT_mk_144, zT_mk_144, gT_mk_145, zT_mk_145, gT_mk_146, zT_mk_146, gT_mk_147, zT_mk_147, gT_mk_148, zT_mk_148, gT_mk_149, zT_mk_149, gT_mk_150, zT_mk_150, gT_mk_151, zT_mk_151, gT_mk_152, zT_mk_152, gT_mk_153, zT_mk_153, gT_mk_154, zT_mk_154, gT_mk_155, zT_mk_155, gT_mk_156, zT_mk_156, gT_mk_157, zT_mk_157, fn_Mo_isAllSeen_L2, hA]
      exact e2
/-- all of SEEN, with another number in the place c of a saint's -/
def hoP (V : zV) (a : Nat → Nat) (i c : Nat) : Nat → Bool := fun v => snP V (us a (10 * i + c) v) i (a 71) 0
theorem GR_s (h : GR a) (hi : i < 6) (hc : c < 10) : GR (us a (10 * i + c) x) := GR_us h (Or.inl (by omega))
theorem Gd_s (h : Gd a ru D) (hi : i < 6) (hc : c = 2 ∧ x < 4096 ∨ c = 1 ∧ x < 10) : Gd (us a (10 * i + c) x) ru D := by
  rcases hc with ⟨rfl, hx⟩ | ⟨rfl, hx⟩
  · exact Gd_us h (by rw [rng_s hi (by decide)]; exact hx)
  · exact Gd_us h (by rw [rng_s hi (by decide)]; exact hx)
theorem sP_h (h : sP 36 (us a (10 * i + 2) x) i f) : sP 36 (us a (10 * i + 2) y) i (up f 36 4 (nI y)) := by
  obtain ⟨h1, h2, h3, h4, h5, h6, h7⟩ := h
  rw [us_ne (by omega)] at h2 h3 h5 h6
  refine ⟨(up_nj (by decide)).trans h1, ?_, ?_, ?_, ?_, ?_, fun k hk => ?_⟩
  · rw [us_ne (by omega), up_nj (by decide)]; exact h2
  · rw [us_ne (by omega), up_nj (by decide)]; exact h3
  · rw [us_eq, up_eq]
  · rw [us_ne (by omega), up_nj (by decide)]; exact h5
  · rw [us_ne (by omega), up_nj (by decide)]; exact h6
  · have := h7 k hk
    rw [us_ne (by omega)] at this ⊢
    rw [up_np (by decide)]
    exact this
theorem sP_v (h : sP 36 (us a (10 * i + 1) x) i f) : sP 36 (us a (10 * i + 1) y) i (up f 36 3 (nI y)) := by
  obtain ⟨h1, h2, h3, h4, h5, h6, h7⟩ := h
  rw [us_ne (by omega)] at h2 h4 h5 h6
  refine ⟨(up_nj (by decide)).trans h1, ?_, ?_, ?_, ?_, ?_, fun k hk => ?_⟩
  · rw [us_ne (by omega), up_nj (by decide)]; exact h2
  · rw [us_eq, up_eq]
  · rw [us_ne (by omega), up_nj (by decide)]; exact h4
  · rw [us_ne (by omega), up_nj (by decide)]; exact h5
  · rw [us_ne (by omega), up_nj (by decide)]; exact h6
  · have := h7 k hk
    rw [us_ne (by omega)] at this ⊢
    rw [up_np (by decide)]
    exact this
/-- only the supposed saint's numbers change -/
def su (f f' : Nat → Nat → Int32) : Prop := ∀ p j, ¬ p = 36 → ¬ p = 37 → f' p j = f p j
theorem su_r : su f f := fun _ _ _ _ => rfl
theorem su_t (h : su f f') (h2 : su f' g) : su f g := fun p j a b => (h2 p j a b).trans (h p j a b)
theorem su_up {v : Int32} : su f (up f 36 j v) := fun _ _ h _ => up_np h
theorem su_CK (h : CK T N ru f) (hs : su f f') : CK T N ru f' := CK_fr h (fun p j q => hs p j (by omega) (by omega))
theorem su_cC (h : cC 41 a f R) (hs : su f f') : cC 41 a f' R := cC_fr h (fun p j q1 q2 => hs p j (by omega) (by omega)) rfl
theorem c_holedl (hi : i < 6) (hw : w < 2) (hR : GR a) (hG : Gd a ru 9999) : ∀ (d k G n : Nat) (L : Int32) (f : Nat → Nat → Int32), k + d = 4096 → d < G → hdI (hoP (rV T N) a i 2) 4096 d k n L → CK T N ru f → cC 41 a f R → (∃ x, sP 36 (us a (10 * i + 2) x) i f) →
    ∃ f', lp (σ := Nat × Int32 × Int32 × Int32 × Int32 × Int32 × Int32 × zS) (fun k s => fn_Ls_holed_L70 s.1 s.2.1 s.2.2.1 s.2.2.2.1 s.2.2.2.2.1 s.2.2.2.2.2.1 s.2.2.2.2.2.2.1 s.2.2.2.2.2.2.2 (fun (a0 : Nat) (a1 : Int32) (a2 : Int32) (a3 : Int32) (a4 : Int32) (a5 : Int32) (a6 : Int32) (S : zS) => k (a0, a1, a2, a3, a4, a5, a6, S))) G (16, nI i, nI w, gritS (rV T N) a i, nI n, L, nI k, mk f l R) = some (if w = 0 then nI (cntP (hoP (rV T N) a i 2) 4096) else fsP (hoP (rV T N) a i 2) 4096 0, mk f' l R) ∧ su f f'
  | 0, k, G, n, L, f, hk, hG0, hI, hK, hc, hs => by
    obtain ⟨G, rfl⟩ : ∃ H, G = H + 1 := ⟨G - 1, by omega⟩
    have e : k = 4096 := by omega
    subst e
    obtain ⟨q1, q2⟩ := hdI_e hI
    refine ⟨f, ?_, su_r⟩
    rw [lpS]
    show fn_Ls_holed_L70 16 (nI i) (nI w) _ (nI n) L (nI 4096) (mk f l R) _ = _
    rw [← q1, ← q2]
    rcases (by omega : w = 0 ∨ w = 1) with rfl | rfl
    · rw [if_pos rfl]
      simp (disch := omega) only [wbr_T, wbr_F, wgd_T, wbq, wbv, wnm, zI_mk, zL_mk, uI_mk, uL_mk, kI_mk, kL_mk, nI_add, nI_mul, nI_sub, nI_div, nI_clamp, wgB, wgP, nI_leI, nI_ltI, nI_eq, nI_eqm, nI_eqm5, wdT, wdF, wd1, wd0, li_0, li_1, li_2, li_3, li_4, li_5, li_6, li_7, li_8, li_9, li_10, li_11, li_12, li_13, li_14, li_15, li_16, li_17, li_18, li_19, li_20, li_21, li_22, li_23, li_24, li_25, li_26, li_27, li_28, li_29, li_30, li_31, li_32, li_33, li_38, li_40, li_41, li_48, li_57, li_58, li_59, li_60, li_61, li_62, li_63, li_68, li_69, li_70, li_71, li_72, li_73, li_74, li_75, li_83, li_87, li_88, li_89, li_99, li_100, li_104, li_105, li_106, li_107, li_108, li_109, li_110, li_111, li_112, li_113, li_114, li_115, li_116, li_117, li_118, li_119, li_120, li_121, li_124, li_127, li_128, li_200, li_4095, li_4096, li_9999, fn_Ls_holed_L70]
    · rw [if_neg (by decide)]
      simp (disch := omega) only [wbr_T, wbr_F, wgd_T, wbq, wbv, wnm, zI_mk, zL_mk, uI_mk, uL_mk, kI_mk, kL_mk, nI_add, nI_mul, nI_sub, nI_div, nI_clamp, wgB, wgP, nI_leI, nI_ltI, nI_eq, nI_eqm, nI_eqm5, wdT, wdF, wd1, wd0, li_0, li_1, li_2, li_3, li_4, li_5, li_6, li_7, li_8, li_9, li_10, li_11, li_12, li_13, li_14, li_15, li_16, li_17, li_18, li_19, li_20, li_21, li_22, li_23, li_24, li_25, li_26, li_27, li_28, li_29, li_30, li_31, li_32, li_33, li_38, li_40, li_41, li_48, li_57, li_58, li_59, li_60, li_61, li_62, li_63, li_68, li_69, li_70, li_71, li_72, li_73, li_74, li_75, li_83, li_87, li_88, li_89, li_99, li_100, li_104, li_105, li_106, li_107, li_108, li_109, li_110, li_111, li_112, li_113, li_114, li_115, li_116, li_117, li_118, li_119, li_120, li_121, li_124, li_127, li_128, li_200, li_4095, li_4096, li_9999, fn_Ls_holed_L70]
  | d + 1, k, G, n, L, f, hk, hG0, hI, hK, hc, hs => by
    obtain ⟨G, rfl⟩ : ∃ H, G = H + 1 := ⟨G - 1, by omega⟩
    obtain ⟨c0, c1, c2, c3, c4, c5, c6, c7, c8⟩ := hbC
    obtain ⟨u0, u1, u2, u3, u4, u5, u6, u7, u8, u9, u10, u11, u12, u13, u14, u15, u16, u17, u18, u19, u20, u21, u22, u23, u24, u25, u26, u27, u28, u29, u30⟩ := hbB
    obtain ⟨x, hs⟩ := hs
    have sT := fun f : Nat → Nat → Int32 => sp_T (f := f) (l := l) (R := R) sp_36
    have hs1 : sP 36 (us a (10 * i + 2) k) i (up f 36 4 (nI k)) := sP_h hs
    have hu : su f (up f 36 4 (nI k)) := su_up
    have hn : n ≤ k := by rw [hI.1]; exact cntP_le _ k
    have e1 := c_seenl (l := l) (su_CK hK hu) hs1 (Gd_s hG hi (Or.inl ⟨rfl, by omega⟩)) hi (su_cC hc hu) hR hG (fun q hq => us_ne (by omega)) (a 71) 0 FU (Nat.zero_add _) (by have := hR.1.1; show _ < 5000; omega)
    rw [gritS_h hi] at e1
    have e1' : fn_Ho_isAsSeen 41 (nI i) 36 (gritS (rV T N) a i) (mk (up f 36 4 (nI k)) l R) = some (nI (vb (hoP (rV T N) a i 2 k)), mk (up f 36 4 (nI k)) l R) := e1
    rw [lpS]
    show ∃ f', fn_Ls_holed_L70 16 (nI i) (nI w) _ (nI n) L (nI k) (mk f l R) _ = _ ∧ _
    cases hp : hoP (rV T N) a i 2 k with
    | false =>
      rw [hp, vb_F] at e1'
      obtain ⟨f2, e2, s2⟩ := c_holedl hi hw hR hG d (k + 1) G n L _ (by omega) (by omega) (hdI_n hI hp) (su_CK hK hu) (su_cC hc hu) ⟨k, hs1⟩
      refine ⟨f2, ?_, su_t hu s2⟩
      simp (disch := omega) only [wbr_T, wbr_F, wgd_T, wbq, wbv, wnm, zI_mk, zL_mk, uI_mk, uL_mk, kI_mk, kL_mk, nI_add, nI_mul, nI_sub, nI_div, nI_clamp, wgB, wgP, nI_leI, nI_ltI, nI_eq, nI_eqm, nI_eqm5, wdT, wdF, wd1, wd0, li_0, li_1, li_2, li_3, li_4, li_5, li_6, li_7, li_8, li_9, li_10, li_11, li_12, li_13, li_14, li_15, li_16, li_17, li_18, li_19, li_20, li_21, li_22, li_23, li_24, li_25, li_26, li_27, li_28, li_29, li_30, li_31, li_32, li_33, li_38, li_40, li_41, li_48, li_57, li_58, li_59, li_60, li_61, li_62, li_63, li_68, li_69, li_70, li_71, li_72, li_73, li_74, li_75, li_83, li_87, li_88, li_89, li_99, li_100, li_104, li_105, li_106, li_107, li_108, li_109, li_110, li_111, li_112, li_113, li_114, li_115, li_116, li_117, li_118, li_119, li_120, li_121, li_124, li_127, li_128, li_200, li_4095, li_4096, li_9999, fn_Ls_holed_L70, e1', sT, c0, c1, c2, c3, c4, c5, c6, c7, c8, u0, u1, u2, u3, u4, u5, u6, u7, u8, u9, u10, u11, u12, u13, u14, u15, u16, u17, u18, u19, u20, u21, u22, u23, u24, u25, u26, u27, u28, u29, u30]
      exact e2
    | true =>
      rw [hp, vb_T] at e1'
      obtain ⟨f2, e2, s2⟩ := c_holedl hi hw hR hG d (k + 1) G (n + 1) _ _ (by omega) (by omega) (hdI_y hI hp) (su_CK hK hu) (su_cC hc hu) ⟨k, hs1⟩
      refine ⟨f2, ?_, su_t hu s2⟩
      by_cases en : n = 0
      · rw [if_pos en] at e2
        simp (disch := omega) only [wbr_T, wbr_F, wgd_T, wbq, wbv, wnm, zI_mk, zL_mk, uI_mk, uL_mk, kI_mk, kL_mk, nI_add, nI_mul, nI_sub, nI_div, nI_clamp, wgB, wgP, nI_leI, nI_ltI, nI_eq, nI_eqm, nI_eqm5, wdT, wdF, wd1, wd0, li_0, li_1, li_2, li_3, li_4, li_5, li_6, li_7, li_8, li_9, li_10, li_11, li_12, li_13, li_14, li_15, li_16, li_17, li_18, li_19, li_20, li_21, li_22, li_23, li_24, li_25, li_26, li_27, li_28, li_29, li_30, li_31, li_32, li_33, li_38, li_40, li_41, li_48, li_57, li_58, li_59, li_60, li_61, li_62, li_63, li_68, li_69, li_70, li_71, li_72, li_73, li_74, li_75, li_83, li_87, li_88, li_89, li_99, li_100, li_104, li_105, li_106, li_107, li_108, li_109, li_110, li_111, li_112, li_113, li_114, li_115, li_116, li_117, li_118, li_119, li_120, li_121, li_124, li_127, li_128, li_200, li_4095, li_4096, li_9999, fn_Ls_holed_L70, e1', sT, c0, c1, c2, c3, c4, c5, c6, c7, c8, u0, u1, u2, u3, u4, u5, u6, u7, u8, u9, u10, u11, u12, u13, u14, u15, u16, u17, u18, u19, u20, u21, u22, u23, u24, u25, u26, u27, u28, u29, u30]
        exact e2
      · rw [if_neg en] at e2
        simp (disch := omega) only [wbr_T, wbr_F, wgd_T, wbq, wbv, wnm, zI_mk, zL_mk, uI_mk, uL_mk, kI_mk, kL_mk, nI_add, nI_mul, nI_sub, nI_div, nI_clamp, wgB, wgP, nI_leI, nI_ltI, nI_eq, nI_eqm, nI_eqm5, wdT, wdF, wd1, wd0, li_0, li_1, li_2, li_3, li_4, li_5, li_6, li_7, li_8, li_9, li_10, li_11, li_12, li_13, li_14, li_15, li_16, li_17, li_18, li_19, li_20, li_21, li_22, li_23, li_24, li_25, li_26, li_27, li_28, li_29, li_30, li_31, li_32, li_33, li_38, li_40, li_41, li_48, li_57, li_58, li_59, li_60, li_61, li_62, li_63, li_68, li_69, li_70, li_71, li_72, li_73, li_74, li_75, li_83, li_87, li_88, li_89, li_99, li_100, li_104, li_105, li_106, li_107, li_108, li_109, li_110, li_111, li_112, li_113, li_114, li_115, li_116, li_117, li_118, li_119, li_120, li_121, li_124, li_127, li_128, li_200, li_4095, li_4096, li_9999, fn_Ls_holed_L70, e1', sT, c0, c1, c2, c3, c4, c5, c6, c7, c8, u0, u1, u2, u3, u4, u5, u6, u7, u8, u9, u10, u11, u12, u13, u14, u15, u16, u17, u18, u19, u20, u21, u22, u23, u24, u25, u26, u27, u28, u29, u30]
        exact e2
theorem c_canl (hi : i < 6) (hw : w < 2) (hR : GR a) (hG : Gd a ru 9999) : ∀ (d k G n : Nat) (L : Int32) (f : Nat → Nat → Int32), k + d = 10 → d < G → hdI (hoP (rV T N) a i 1) 10 d k n L → CK T N ru f → cC 41 a f R → (∃ x, sP 36 (us a (10 * i + 1) x) i f) →
    ∃ f', lp (σ := Nat × Int32 × Int32 × Int32 × Int32 × Int32 × zS) (fun k s => fn_Ls_can_L47 s.1 s.2.1 s.2.2.1 s.2.2.2.1 s.2.2.2.2.1 s.2.2.2.2.2.1 s.2.2.2.2.2.2 (fun (a0 : Nat) (a1 : Int32) (a2 : Int32) (a3 : Int32) (a4 : Int32) (a5 : Int32) (S : zS) => k (a0, a1, a2, a3, a4, a5, S))) G (16, nI i, nI w, nI n, L, nI k, mk f l R) = some (if w = 0 then nI (cntP (hoP (rV T N) a i 1) 10) else fsP (hoP (rV T N) a i 1) 10 0, mk f' l R) ∧ su f f'
  | 0, k, G, n, L, f, hk, hG0, hI, hK, hc, hs => by
    obtain ⟨G, rfl⟩ : ∃ H, G = H + 1 := ⟨G - 1, by omega⟩
    have e : k = 10 := by omega
    subst e
    obtain ⟨q1, q2⟩ := hdI_e hI
    refine ⟨f, ?_, su_r⟩
    rw [lpS]
    show fn_Ls_can_L47 16 (nI i) (nI w) (nI n) L (nI 10) (mk f l R) _ = _
    rw [← q1, ← q2]
    rcases (by omega : w = 0 ∨ w = 1) with rfl | rfl
    · rw [if_pos rfl]
      simp (disch := omega) only [wbr_T, wbr_F, wgd_T, wbq, wbv, wnm, zI_mk, zL_mk, uI_mk, uL_mk, kI_mk, kL_mk, nI_add, nI_mul, nI_sub, nI_div, nI_clamp, wgB, wgP, nI_leI, nI_ltI, nI_eq, nI_eqm, nI_eqm5, wdT, wdF, wd1, wd0, li_0, li_1, li_2, li_3, li_4, li_5, li_6, li_7, li_8, li_9, li_10, li_11, li_12, li_13, li_14, li_15, li_16, li_17, li_18, li_19, li_20, li_21, li_22, li_23, li_24, li_25, li_26, li_27, li_28, li_29, li_30, li_31, li_32, li_33, li_38, li_40, li_41, li_48, li_57, li_58, li_59, li_60, li_61, li_62, li_63, li_68, li_69, li_70, li_71, li_72, li_73, li_74, li_75, li_83, li_87, li_88, li_89, li_99, li_100, li_104, li_105, li_106, li_107, li_108, li_109, li_110, li_111, li_112, li_113, li_114, li_115, li_116, li_117, li_118, li_119, li_120, li_121, li_124, li_127, li_128, li_200, li_4095, li_4096, li_9999, fn_Ls_can_L47]
    · rw [if_neg (by decide)]
      simp (disch := omega) only [wbr_T, wbr_F, wgd_T, wbq, wbv, wnm, zI_mk, zL_mk, uI_mk, uL_mk, kI_mk, kL_mk, nI_add, nI_mul, nI_sub, nI_div, nI_clamp, wgB, wgP, nI_leI, nI_ltI, nI_eq, nI_eqm, nI_eqm5, wdT, wdF, wd1, wd0, li_0, li_1, li_2, li_3, li_4, li_5, li_6, li_7, li_8, li_9, li_10, li_11, li_12, li_13, li_14, li_15, li_16, li_17, li_18, li_19, li_20, li_21, li_22, li_23, li_24, li_25, li_26, li_27, li_28, li_29, li_30, li_31, li_32, li_33, li_38, li_40, li_41, li_48, li_57, li_58, li_59, li_60, li_61, li_62, li_63, li_68, li_69, li_70, li_71, li_72, li_73, li_74, li_75, li_83, li_87, li_88, li_89, li_99, li_100, li_104, li_105, li_106, li_107, li_108, li_109, li_110, li_111, li_112, li_113, li_114, li_115, li_116, li_117, li_118, li_119, li_120, li_121, li_124, li_127, li_128, li_200, li_4095, li_4096, li_9999, fn_Ls_can_L47]
  | d + 1, k, G, n, L, f, hk, hG0, hI, hK, hc, hs => by
    obtain ⟨G, rfl⟩ : ∃ H, G = H + 1 := ⟨G - 1, by omega⟩
    obtain ⟨c0, c1, c2, c3, c4, c5, c6, c7, c8⟩ := hbC
    obtain ⟨u0, u1, u2, u3, u4, u5, u6, u7, u8, u9, u10, u11, u12, u13, u14, u15, u16, u17, u18, u19, u20, u21, u22, u23, u24, u25, u26, u27, u28, u29, u30⟩ := hbB
    obtain ⟨x, hs⟩ := hs
    have sT := fun f : Nat → Nat → Int32 => sp_T (f := f) (l := l) (R := R) sp_36
    have hs1 : sP 36 (us a (10 * i + 1) k) i (up f 36 3 (nI k)) := sP_v hs
    have hu : su f (up f 36 3 (nI k)) := su_up
    have hG1 : Gd (us a (10 * i + 1) k) ru 9999 := Gd_s hG hi (Or.inr ⟨rfl, by omega⟩)
    have hn : n ≤ k := by rw [hI.1]; exact cntP_le _ k
    have hc1 := su_cC hc hu
    have ed : up f 36 3 (nI k) 41 7 = nI (a 69) := cC_d hc1
    have hRh := hc.2.2.1
    have eg := c_grit (l := l) (R := R) (su_CK hK hu) sp_36 hs1 hG1 (by decide) hi
    rw [us_ne (show ¬ 70 = 10 * i + 1 by omega), us_ne (show ¬ 69 = 10 * i + 1 by omega)] at eg
    have e1 := c_seenl (l := l) (su_CK hK hu) hs1 hG1 hi hc1 hR hG (fun q hq => us_ne (by omega)) (a 71) 0 FU (Nat.zero_add _) (by have := hR.1.1; show _ < 5000; omega)
    have e1' : fn_Ho_isAsSeen 41 (nI i) 36 (gritS (rV T N) (us a (10 * i + 1) k) i) (mk (up f 36 3 (nI k)) l R) = some (nI (vb (hoP (rV T N) a i 1 k)), mk (up f 36 3 (nI k)) l R) := e1
    rw [lpS]
    show ∃ f', fn_Ls_can_L47 16 (nI i) (nI w) (nI n) L (nI k) (mk f l R) _ = _ ∧ _
    cases hp : hoP (rV T N) a i 1 k with
    | false =>
      rw [hp, vb_F] at e1'
      obtain ⟨f2, e2, s2⟩ := c_canl hi hw hR hG d (k + 1) G n L _ (by omega) (by omega) (hdI_n hI hp) (su_CK hK hu) hc1 ⟨k, hs1⟩
      refine ⟨f2, ?_, su_t hu s2⟩
      simp (disch := omega) only [wbr_T, wbr_F, wgd_T, wbq, wbv, wnm, zI_mk, zL_mk, uI_mk, uL_mk, kI_mk, kL_mk, nI_add, nI_mul, nI_sub, nI_div, nI_clamp, wgB, wgP, nI_leI, nI_ltI, nI_eq, nI_eqm, nI_eqm5, wdT, wdF, wd1, wd0, li_0, li_1, li_2, li_3, li_4, li_5, li_6, li_7, li_8, li_9, li_10, li_11, li_12, li_13, li_14, li_15, li_16, li_17, li_18, li_19, li_20, li_21, li_22, li_23, li_24, li_25, li_26, li_27, li_28, li_29, li_30, li_31, li_32, li_33, li_38, li_40, li_41, li_48, li_57, li_58, li_59, li_60, li_61, li_62, li_63, li_68, li_69, li_70, li_71, li_72, li_73, li_74, li_75, li_83, li_87, li_88, li_89, li_99, li_100, li_104, li_105, li_106, li_107, li_108, li_109, li_110, li_111, li_112, li_113, li_114, li_115, li_116, li_117, li_118, li_119, li_120, li_121, li_124, li_127, li_128, li_200, li_4095, li_4096, li_9999, fn_Ls_can_L47, eg, ed, hRh, e1', sT, c0, c1, c2, c3, c4, c5, c6, c7, c8, u0, u1, u2, u3, u4, u5, u6, u7, u8, u9, u10, u11, u12, u13, u14, u15, u16, u17, u18, u19, u20, u21, u22, u23, u24, u25, u26, u27, u28, u29, u30]
      exact e2
    | true =>
      rw [hp, vb_T] at e1'
      obtain ⟨f2, e2, s2⟩ := c_canl hi hw hR hG d (k + 1) G (n + 1) _ _ (by omega) (by omega) (hdI_y hI hp) (su_CK hK hu) hc1 ⟨k, hs1⟩
      refine ⟨f2, ?_, su_t hu s2⟩
      by_cases en : n = 0
      · rw [if_pos en] at e2
        simp (disch := omega) only [wbr_T, wbr_F, wgd_T, wbq, wbv, wnm, zI_mk, zL_mk, uI_mk, uL_mk, kI_mk, kL_mk, nI_add, nI_mul, nI_sub, nI_div, nI_clamp, wgB, wgP, nI_leI, nI_ltI, nI_eq, nI_eqm, nI_eqm5, wdT, wdF, wd1, wd0, li_0, li_1, li_2, li_3, li_4, li_5, li_6, li_7, li_8, li_9, li_10, li_11, li_12, li_13, li_14, li_15, li_16, li_17, li_18, li_19, li_20, li_21, li_22, li_23, li_24, li_25, li_26, li_27, li_28, li_29, li_30, li_31, li_32, li_33, li_38, li_40, li_41, li_48, li_57, li_58, li_59, li_60, li_61, li_62, li_63, li_68, li_69, li_70, li_71, li_72, li_73, li_74, li_75, li_83, li_87, li_88, li_89, li_99, li_100, li_104, li_105, li_106, li_107, li_108, li_109, li_110, li_111, li_112, li_113, li_114, li_115, li_116, li_117, li_118, li_119, li_120, li_121, li_124, li_127, li_128, li_200, li_4095, li_4096, li_9999, fn_Ls_can_L47, eg, ed, hRh, e1', sT, c0, c1, c2, c3, c4, c5, c6, c7, c8, u0, u1, u2, u3, u4, u5, u6, u7, u8, u9, u10, u11, u12, u13, u14, u15, u16, u17, u18, u19, u20, u21, u22, u23, u24, u25, u26, u27, u28, u29, u30]
        exact e2
      · rw [if_neg en] at e2
        simp (disch := omega) only [wbr_T, wbr_F, wgd_T, wbq, wbv, wnm, zI_mk, zL_mk, uI_mk, uL_mk, kI_mk, kL_mk, nI_add, nI_mul, nI_sub, nI_div, nI_clamp, wgB, wgP, nI_leI, nI_ltI, nI_eq, nI_eqm, nI_eqm5, wdT, wdF, wd1, wd0, li_0, li_1, li_2, li_3, li_4, li_5, li_6, li_7, li_8, li_9, li_10, li_11, li_12, li_13, li_14, li_15, li_16, li_17, li_18, li_19, li_20, li_21, li_22, li_23, li_24, li_25, li_26, li_27, li_28, li_29, li_30, li_31, li_32, li_33, li_38, li_40, li_41, li_48, li_57, li_58, li_59, li_60, li_61, li_62, li_63, li_68, li_69, li_70, li_71, li_72, li_73, li_74, li_75, li_83, li_87, li_88, li_89, li_99, li_100, li_104, li_105, li_106, li_107, li_108, li_109, li_110, li_111, li_112, li_113, li_114, li_115, li_116, li_117, li_118, li_119, li_120, li_121, li_124, li_127, li_128, li_200, li_4095, li_4096, li_9999, fn_Ls_can_L47, eg, ed, hRh, e1', sT, c0, c1, c2, c3, c4, c5, c6, c7, c8, u0, u1, u2, u3, u4, u5, u6, u7, u8, u9, u10, u11, u12, u13, u14, u15, u16, u17, u18, u19, u20, u21, u22, u23, u24, u25, u26, u27, u28, u29, u30]
        exact e2
/-- the model goes from the right -/
theorem m_fitsl (hi : i < 6) (hw : w < 2) (hc : c = 2 ∧ M = 4096 ∨ c = 1 ∧ M = 10) (hR : GR a) (hG : Gd a ru 9999) : ∀ (k G n d : Nat) (L y : Int32) (f : Nat → Nat → Int32), k < G → k + d = M → n + cntP (hoP (rV T N) a i c) k = cntP (hoP (rV T N) a i c) M → L = fsP (hoP (rV T N) a i c) d k → y = nI k - nI 1 → (∃ x, MX T N ru 9999 (us a (10 * i + c) x) f) →
    ∃ f', lp (σ := Nat × Int32 × Int32 × Int32 × Int32 × Int32 × Int32 × Int32 × zS) (fun k s => fn_Mo_fits_L27 s.1 s.2.1 s.2.2.1 s.2.2.2.1 s.2.2.2.2.1 s.2.2.2.2.2.1 s.2.2.2.2.2.2.1 s.2.2.2.2.2.2.2.1 s.2.2.2.2.2.2.2.2 (fun (a0 : Nat) (a1 : Int32) (a4 : Int32) (a5 : Int32) (a6 : Int32) (a7 : Int32) (a8 : Int32) (a9 : Int32) (S : zS) => k (a0, a1, a4, a5, a6, a7, a8, a9, S))) G (137, nI i, nI w, nI (10 * i + c), nI (a (10 * i + c)), nI n, L, y, mk f l R) = some (if w = 0 then nI (cntP (hoP (rV T N) a i c) M) else fsP (hoP (rV T N) a i c) M 0, mk f' l R) ∧ sd f f' ∧ ∀ q, f' 138 q = nI (a q)
  | 0, G, n, d, L, y, f, hG0, hk, hn, hL, hy, hM => by
    obtain ⟨G, rfl⟩ : ∃ H, G = H + 1 := ⟨G - 1, by omega⟩
    obtain ⟨x, hM⟩ := hM
    have e : d = M := by omega
    rw [e] at hL
    have n0 : n = cntP (hoP (rV T N) a i c) M := hn
    have hM1 := MX_up (a' := us a (10 * i + c) (a (10 * i + c))) hM us_us.symm (fun q => hG (10 * i + c) q)
    rw [us_self] at hM1
    refine ⟨_, ?_, sd_up, hM1.2.1⟩
    have hy0 : y < nI 0 := by rw [hy]; decide
    have c10 : 10 * i + c < 121 := by omega
    rw [lpS]
    show fn_Mo_fits_L27 137 (nI i) (nI w) (nI (10 * i + c)) (nI (a (10 * i + c))) (nI n) L y (mk f l R) _ = _
    rw [← n0, ← hL]
    rcases (by omega : w = 0 ∨ w = 1) with rfl | rfl
    · rw [if_pos rfl]
      simp (disch := omega) only [wbr_T, wbr_F, wgd_T, wbq, wbv, wnm, zI_mk, zL_mk, uI_mk, uL_mk, kI_mk, kL_mk, nI_add, nI_mul, nI_sub, nI_div, nI_clamp, wgB, wgP, nI_leI, nI_ltI, nI_eq, nI_eqm, nI_eqm5, wdT, wdF, wd1, wd0, li_0, li_1, li_2, li_3, li_4, li_5, li_6, li_7, li_8, li_9, li_10, li_11, li_12, li_13, li_14, li_15, li_16, li_17, li_18, li_19, li_20, li_21, li_22, li_23, li_24, li_25, li_26, li_27, li_28, li_29, li_30, li_31, li_32, li_33, li_38, li_40, li_41, li_48, li_57, li_58, li_59, li_60, li_61, li_62, li_63, li_68, li_69, li_70, li_71, li_72, li_73, li_74, li_75, li_83, li_87, li_88, li_89, li_99, li_100, li_104, li_105, li_106, li_107, li_108, li_109, li_110, li_111, li_112, li_113, li_114, li_115, li_116, li_117, li_118, li_119, li_120, li_121, li_124, li_127, li_128, li_200, li_4095, li_4096, li_9999, gT_mk_137, zT_mk_137, zR_mk_137_0, zR_mk_137_1, zR_mk_137_2, zR_mk_137_4, zR_mk_137_6, zR_mk_137_7, zR_mk_137_9, zR_mk_137_16, zR_mk_137_17, zR_mk_137_18, zR_mk_137_19, zR_mk_137_20, zR_mk_137_22, zR_mk_137_24, zR_mk_137_25, zR_mk_137_26, zR_mk_137_28, zR_mk_137_29, zR_mk_137_30, zR_mk_137_31, gT_mk_138, zT_mk_138, gT_mk_139, zT_mk_139, gT_mk_140, zT_mk_140, gT_mk_141, zT_mk_141, gT_mk_142, zT_mk_142, gT_mk_143, zT_mk_143, gT_mk_144, zT_mk_144, gT_mk_145, zT_mk_145, gT_mk_146, zT_mk_146, gT_mk_147, zT_mk_147, gT_mk_148, zT_mk_148, gT_mk_149, zT_mk_149, gT_mk_150, zT_mk_150, gT_mk_151, zT_mk_151, gT_mk_152, zT_mk_152, gT_mk_153, zT_mk_153, gT_mk_154, zT_mk_154, gT_mk_155, zT_mk_155, gT_mk_156, zT_mk_156, gT_mk_157, zT_mk_157, fn_Mo_fits_L27, hy0]
    · rw [if_neg (by decide)]
      simp (disch := omega) only [wbr_T, wbr_F, wgd_T, wbq, wbv, wnm, zI_mk, zL_mk, uI_mk, uL_mk, kI_mk, kL_mk, nI_add, nI_mul, nI_sub, nI_div, nI_clamp, wgB, wgP, nI_leI, nI_ltI, nI_eq, nI_eqm, nI_eqm5, wdT, wdF, wd1, wd0, li_0, li_1, li_2, li_3, li_4, li_5, li_6, li_7, li_8, li_9, li_10, li_11, li_12, li_13, li_14, li_15, li_16, li_17, li_18, li_19, li_20, li_21, li_22, li_23, li_24, li_25, li_26, li_27, li_28, li_29, li_30, li_31, li_32, li_33, li_38, li_40, li_41, li_48, li_57, li_58, li_59, li_60, li_61, li_62, li_63, li_68, li_69, li_70, li_71, li_72, li_73, li_74, li_75, li_83, li_87, li_88, li_89, li_99, li_100, li_104, li_105, li_106, li_107, li_108, li_109, li_110, li_111, li_112, li_113, li_114, li_115, li_116, li_117, li_118, li_119, li_120, li_121, li_124, li_127, li_128, li_200, li_4095, li_4096, li_9999, gT_mk_137, zT_mk_137, zR_mk_137_0, zR_mk_137_1, zR_mk_137_2, zR_mk_137_4, zR_mk_137_6, zR_mk_137_7, zR_mk_137_9, zR_mk_137_16, zR_mk_137_17, zR_mk_137_18, zR_mk_137_19, zR_mk_137_20, zR_mk_137_22, zR_mk_137_24, zR_mk_137_25, zR_mk_137_26, zR_mk_137_28, zR_mk_137_29, zR_mk_137_30, zR_mk_137_31, gT_mk_138, zT_mk_138, gT_mk_139, zT_mk_139, gT_mk_140, zT_mk_140, gT_mk_141, zT_mk_141, gT_mk_142, zT_mk_142, gT_mk_143, zT_mk_143, gT_mk_144, zT_mk_144, gT_mk_145, zT_mk_145, gT_mk_146, zT_mk_146, gT_mk_147, zT_mk_147, gT_mk_148, zT_mk_148, gT_mk_149, zT_mk_149, gT_mk_150, zT_mk_150, gT_mk_151, zT_mk_151, gT_mk_152, zT_mk_152, gT_mk_153, zT_mk_153, gT_mk_154, zT_mk_154, gT_mk_155, zT_mk_155, gT_mk_156, zT_mk_156, gT_mk_157, zT_mk_157, fn_Mo_fits_L27, hy0]
  | k + 1, G, n, d, L, y, f, hG0, hk, hn, hL, hy, hM => by
    obtain ⟨G, rfl⟩ : ∃ H, G = H + 1 := ⟨G - 1, by omega⟩
    obtain ⟨x, hM⟩ := hM
    have ey : y = nI k := by
      rw [hy, nI_sub (by omega)]
      rfl
    have hMk : M = 4096 ∨ M = 10 := by omega
    have hM1 : MX T N ru 9999 (us a (10 * i + c) k) (up f 138 (10 * i + c) (nI k)) := MX_up hM us_us.symm (fun q => (Gd_s (x := k) hG hi (by omega : c = 2 ∧ k < 4096 ∨ c = 1 ∧ k < 10)) (10 * i + c) q |> fun r => by rw [us_eq] at r; exact r)
    have c10 : 10 * i + c < 121 := by omega
    obtain ⟨f1, e1, s1⟩ := m_seenl (l := l) (R := R) hi (GR_s hR hi (by omega)) (us a (10 * i + c) k 71) 0 FU _ (Nat.zero_add _) (by have := (GR_s (x := k) hR hi (show c < 10 by omega)).1.1; show _ < 5000; omega) hM1
    rw [us_ne (show ¬ 71 = 10 * i + c by omega)] at e1
    have e1' : fn_Mo_isAllSeen 137 (nI i) (mk (up f 138 (10 * i + c) (nI k)) l R) = some (nI (vb (hoP (rV T N) a i c k)), mk f1 l R) := e1
    have hn' : n + (cntP (hoP (rV T N) a i c) k + vb (hoP (rV T N) a i c k)) = cntP (hoP (rV T N) a i c) M := hn
    have hle := cntP_le (hoP (rV T N) a i c) M
    have ms : nI k + -nI 1 = nI k - nI 1 := (Int32.sub_eq_add_neg _ _).symm
    rw [lpS]
    show ∃ f', fn_Mo_fits_L27 137 (nI i) (nI w) (nI (10 * i + c)) (nI (a (10 * i + c))) (nI n) L y (mk f l R) _ = _ ∧ _
    rw [ey]
    cases hp : hoP (rV T N) a i c k with
    | false =>
      rw [hp, vb_F] at e1' hn'
      obtain ⟨f2, e2, s2, h2⟩ := m_fitsl hi hw hc hR hG k G n (d + 1) L _ f1 (by omega) (by omega) hn' (by
        show L = if hoP (rV T N) a i c k = true then nI k else fsP (hoP (rV T N) a i c) d (k + 1)
        rw [hp]
        exact hL) rfl ⟨k, MX_sc hM1 s1⟩
      refine ⟨f2, ?_, sd_t (sd_t sd_up (sc_sd s1)) s2, h2⟩
      rw [← ms] at e2
      simp (disch := omega) only [wbr_T, wbr_F, wgd_T, wbq, wbv, wnm, zI_mk, zL_mk, uI_mk, uL_mk, kI_mk, kL_mk, nI_add, nI_mul, nI_sub, nI_div, nI_clamp, wgB, wgP, nI_leI, nI_ltI, nI_eq, nI_eqm, nI_eqm5, wdT, wdF, wd1, wd0, li_0, li_1, li_2, li_3, li_4, li_5, li_6, li_7, li_8, li_9, li_10, li_11, li_12, li_13, li_14, li_15, li_16, li_17, li_18, li_19, li_20, li_21, li_22, li_23, li_24, li_25, li_26, li_27, li_28, li_29, li_30, li_31, li_32, li_33, li_38, li_40, li_41, li_48, li_57, li_58, li_59, li_60, li_61, li_62, li_63, li_68, li_69, li_70, li_71, li_72, li_73, li_74, li_75, li_83, li_87, li_88, li_89, li_99, li_100, li_104, li_105, li_106, li_107, li_108, li_109, li_110, li_111, li_112, li_113, li_114, li_115, li_116, li_117, li_118, li_119, li_120, li_121, li_124, li_127, li_128, li_200, li_4095, li_4096, li_9999, gT_mk_137, zT_mk_137, zR_mk_137_0, zR_mk_137_1, zR_mk_137_2, zR_mk_137_4, zR_mk_137_6, zR_mk_137_7, zR_mk_137_9, zR_mk_137_16, zR_mk_137_17, zR_mk_137_18, zR_mk_137_19, zR_mk_137_20, zR_mk_137_22, zR_mk_137_24, zR_mk_137_25, zR_mk_137_26, zR_mk_137_28, zR_mk_137_29, zR_mk_137_30, zR_mk_137_31, gT_mk_138, zT_mk_138, gT_mk_139, zT_mk_139, gT_mk_140, zT_mk_140, gT_mk_141, zT_mk_141, gT_mk_142, zT_mk_142, gT_mk_143, zT_mk_143, gT_mk_144, zT_mk_144, gT_mk_145, zT_mk_145, gT_mk_146, zT_mk_146, gT_mk_147, zT_mk_147, gT_mk_148, zT_mk_148, gT_mk_149, zT_mk_149, gT_mk_150, zT_mk_150, gT_mk_151, zT_mk_151, gT_mk_152, zT_mk_152, gT_mk_153, zT_mk_153, gT_mk_154, zT_mk_154, gT_mk_155, zT_mk_155, gT_mk_156, zT_mk_156, gT_mk_157, zT_mk_157, fn_Mo_fits_L27, fn_Mo_fits_L60, e1', Nat.add_zero]
      exact e2
    | true =>
      rw [hp, vb_T] at e1' hn'
      obtain ⟨f2, e2, s2, h2⟩ := m_fitsl hi hw hc hR hG k G (n + 1) (d + 1) (nI k) _ f1 (by omega) (by omega) (by omega) (by
        show nI k = if hoP (rV T N) a i c k = true then nI k else fsP (hoP (rV T N) a i c) d (k + 1)
        rw [hp]
        rfl) rfl ⟨k, MX_sc hM1 s1⟩
      refine ⟨f2, ?_, sd_t (sd_t sd_up (sc_sd s1)) s2, h2⟩
      rw [← ms] at e2
      simp (disch := omega) only [wbr_T, wbr_F, wgd_T, wbq, wbv, wnm, zI_mk, zL_mk, uI_mk, uL_mk, kI_mk, kL_mk, nI_add, nI_mul, nI_sub, nI_div, nI_clamp, wgB, wgP, nI_leI, nI_ltI, nI_eq, nI_eqm, nI_eqm5, wdT, wdF, wd1, wd0, li_0, li_1, li_2, li_3, li_4, li_5, li_6, li_7, li_8, li_9, li_10, li_11, li_12, li_13, li_14, li_15, li_16, li_17, li_18, li_19, li_20, li_21, li_22, li_23, li_24, li_25, li_26, li_27, li_28, li_29, li_30, li_31, li_32, li_33, li_38, li_40, li_41, li_48, li_57, li_58, li_59, li_60, li_61, li_62, li_63, li_68, li_69, li_70, li_71, li_72, li_73, li_74, li_75, li_83, li_87, li_88, li_89, li_99, li_100, li_104, li_105, li_106, li_107, li_108, li_109, li_110, li_111, li_112, li_113, li_114, li_115, li_116, li_117, li_118, li_119, li_120, li_121, li_124, li_127, li_128, li_200, li_4095, li_4096, li_9999, gT_mk_137, zT_mk_137, zR_mk_137_0, zR_mk_137_1, zR_mk_137_2, zR_mk_137_4, zR_mk_137_6, zR_mk_137_7, zR_mk_137_9, zR_mk_137_16, zR_mk_137_17, zR_mk_137_18, zR_mk_137_19, zR_mk_137_20, zR_mk_137_22, zR_mk_137_24, zR_mk_137_25, zR_mk_137_26, zR_mk_137_28, zR_mk_137_29, zR_mk_137_30, zR_mk_137_31, gT_mk_138, zT_mk_138, gT_mk_139, zT_mk_139, gT_mk_140, zT_mk_140, gT_mk_141, zT_mk_141, gT_mk_142, zT_mk_142, gT_mk_143, zT_mk_143, gT_mk_144, zT_mk_144, gT_mk_145, zT_mk_145, gT_mk_146, zT_mk_146, gT_mk_147, zT_mk_147, gT_mk_148, zT_mk_148, gT_mk_149, zT_mk_149, gT_mk_150, zT_mk_150, gT_mk_151, zT_mk_151, gT_mk_152, zT_mk_152, gT_mk_153, zT_mk_153, gT_mk_154, zT_mk_154, gT_mk_155, zT_mk_155, gT_mk_156, zT_mk_156, gT_mk_157, zT_mk_157, fn_Mo_fits_L27, fn_Mo_fits_L60, e1']
      exact e2
/-- what is only asked, of the two -/
theorem Iv_ask2 (h : Iv f l R) (hs : su f f') (hd : sd f' g) (hA : ∀ k, f 138 k = nI (a k)) (hg : ∀ k, g 138 k = nI (a k)) (hN : cN 63 f) : Iv g l R :=
  Iv_q h (fun p j q => by
    unfold vol at q
    rw [hd p j (by omega) (by omega) (by omega) (by omega), hs p j (by omega) (by omega)]) (fun p j h1 h2 => by
    rw [hd p j (by omega) (by omega) (by omega) (by omega), hs p j (by omega) (by omega)]) (fun k => by rw [hg, hA]) (cN_fr hN (fun p j h1 h2 => by
    rw [hd p j (by omega) (by omega) (by omega) (by omega), hs p j (by omega) (by omega)])) rfl rfl
theorem m_fits (h : MX T N ru 9999 a f) (hi : i < 6) (hw : w < 2) (hc : c = 2 ∧ M = 4096 ∨ c = 1 ∧ M = 10) (hR : GR a) : ∃ f', fn_Mo_fits 137 (nI i) (nI c) (nI (M - 1)) (nI w) (mk f l R) = some (if w = 0 then nI (cntP (hoP (rV T N) a i c) M) else fsP (hoP (rV T N) a i c) M 0, mk f' l R) ∧ sd f f' ∧ ∀ q, f' 138 q = nI (a q) := by
  have hA := h.2.1
  obtain ⟨f1, e1, s1, h1⟩ := m_fitsl (l := l) (R := R) hi hw hc hR h.2.2.1 M FU 0 0 (-nI 5) (nI (M - 1)) f (by show _ < 5000; omega) (by omega) (Nat.zero_add _) rfl (by rw [nI_sub (by omega)]) ⟨a (10 * i + c), by rw [us_self]; exact h⟩
  refine ⟨f1, ?_, s1, h1⟩
  have c10 : 10 * i + c < 121 := by omega
  simp (disch := omega) only [wbr_T, wbr_F, wgd_T, wbq, wbv, wnm, zI_mk, zL_mk, uI_mk, uL_mk, kI_mk, kL_mk, nI_add, nI_mul, nI_sub, nI_div, nI_clamp, wgB, wgP, nI_leI, nI_ltI, nI_eq, nI_eqm, nI_eqm5, wdT, wdF, wd1, wd0, li_0, li_1, li_2, li_3, li_4, li_5, li_6, li_7, li_8, li_9, li_10, li_11, li_12, li_13, li_14, li_15, li_16, li_17, li_18, li_19, li_20, li_21, li_22, li_23, li_24, li_25, li_26, li_27, li_28, li_29, li_30, li_31, li_32, li_33, li_38, li_40, li_41, li_48, li_57, li_58, li_59, li_60, li_61, li_62, li_63, li_68, li_69, li_70, li_71, li_72, li_73, li_74, li_75, li_83, li_87, li_88, li_89, li_99, li_100, li_104, li_105, li_106, li_107, li_108, li_109, li_110, li_111, li_112, li_113, li_114, li_115, li_116, li_117, li_118, li_119, li_120, li_121, li_124, li_127, li_128, li_200, li_4095, li_4096, li_9999, gT_mk_137, zT_mk_137, zR_mk_137_0, zR_mk_137_1, zR_mk_137_2, zR_mk_137_4, zR_mk_137_6, zR_mk_137_7, zR_mk_137_9, zR_mk_137_16, zR_mk_137_17, zR_mk_137_18, zR_mk_137_19, zR_mk_137_20, zR_mk_137_22, zR_mk_137_24, zR_mk_137_25, zR_mk_137_26, zR_mk_137_28, zR_mk_137_29, zR_mk_137_30, zR_mk_137_31, gT_mk_138, zT_mk_138, gT_mk_139, zT_mk_139, gT_mk_140, zT_mk_140, gT_mk_141, zT_mk_141, gT_mk_142, zT_mk_142, gT_mk_143, zT_mk_143, gT_mk_144, zT_mk_144, gT_mk_145, zT_mk_145, gT_mk_146, zT_mk_146, gT_mk_147, zT_mk_147, gT_mk_148, zT_mk_148, gT_mk_149, zT_mk_149, gT_mk_150, zT_mk_150, gT_mk_151, zT_mk_151, gT_mk_152, zT_mk_152, gT_mk_153, zT_mk_153, gT_mk_154, zT_mk_154, gT_mk_155, zT_mk_155, gT_mk_156, zT_mk_156, gT_mk_157, zT_mk_157, fn_Mo_fits, hA]
  exact e1
end
theorem c_sup {f : Nat → Nat → Int32} {l : Nat → Nat → Int64} {R : Nat → Nat} {a : Nat → Nat} {ru D i : Nat} (hc : cC 41 a f R) (hi : i < a 68) (hG : Gd a ru D) : ∃ f1, fn_Sa_copy 36 (51 + 2 * i) (mk f l R) = some (mk f1 l R) ∧ su f f1 ∧ sP 36 a i f1 := by
  have z6 := hc.1.1
  have g5 := (Gd_gs hG (show i < 6 by omega)).2.2.2.2.1
  obtain ⟨p1, p2, p3, p4, p5, p6, p7⟩ := cC_sP hc hi
  obtain ⟨f1, e1, q1, q2, q3⟩ := c_saCopy (f := f) (l := l) (R := R) (p := 36) (q := 51 + 2 * i) sp_36 (sp_b zb41 (show i < 6 by omega)) (by omega) (by omega) (by omega) (cC_t hc hi) g5
  exact ⟨f1, e1, fun p j h1 h2 => q3 p j h1 h2, (q1 1 (by decide) (by decide)).trans p1, (q1 2 (by decide) (by decide)).trans p2, (q1 3 (by decide) (by decide)).trans p3, (q1 4 (by decide) (by decide)).trans p4, (q1 5 (by decide) (by decide)).trans p5, (q1 7 (by decide) (by decide)).trans p6, fun k hk => (q2 k hk).trans (by
    have := p7 k hk
    rw [show 41 + 10 + 2 * i + 1 = 51 + 2 * i + 1 by omega] at this
    exact this)⟩
theorem op_holed (x y : Int32) : OpI (fn_Ls_holed 16 x y) (fn_Mo_holed 137 x y) := by
  intro f l R h
  obtain ⟨ru, T, N, ⟨a, hc, hA, hG, hR⟩, hE⟩ := id h
  obtain ⟨c0, c1, c2, c3, c4, c5, c6, c7, c8⟩ := hbC
  obtain ⟨u0, u1, u2, u3, u4, u5, u6, u7, u8, u9, u10, u11, u12, u13, u14, u15, u16, u17, u18, u19, u20, u21, u22, u23, u24, u25, u26, u27, u28, u29, u30⟩ := hbB
  obtain ⟨z6, z7, z8, z9⟩ := id hc.1
  have gA := Gd_all hG
  have ez := cC_z hc
  rcases ix_or x (N := a 68) (by omega) with ⟨i, hi, rfl⟩ | hx
  · have hi6 : i < 6 := by omega
    have e1 := c_has_in (l := l) (R := R) zb41 ez z6 hi
    have m1 := m_saint_in (l := l) (R := R) (hA 68) z6 hi
    rcases ix_or y (N := 2) (by decide) with ⟨w, hw, rfl⟩ | hy
    · have m2 := fun S : zS => m_in (S := S) (k := w) (lo := 0) (hi := 1) (by omega) (by omega) (by decide)
      obtain ⟨f1, e2, s1, p1⟩ := c_sup (l := l) hc hi hG
      have hX := JC_CX (Re_JC hE) (Re_JG hE) hc hG (by decide)
      have hc1 := su_cC hc s1
      have hK1 := su_CK hX.1 s1
      have sT := fun f : Nat → Nat → Int32 => sp_T (f := f) (l := l) (R := R) sp_36
      have ed : f1 41 7 = nI (a 69) := cC_d hc1
      have hRh := hc.2.2.1
      have eg := c_grit (l := l) (R := R) hK1 sp_36 p1 hG (by decide) hi6
      obtain ⟨f2, e3, s2⟩ := c_holedl (l := l) (w := w) hi6 hw hR hG 4096 0 FU 0 (-nI 5) f1 (by omega) (by decide) hdI_0 hK1 hc1 ⟨a (10 * i + 2), by rw [us_self]; exact p1⟩
      have hs := su_t s1 s2
      have hM := MX_fr (JC_MX (Re_JC hE) (Re_JG hE) hA hG (show 9999 < 2 ^ 20 by decide)) (f' := f2) (fun p j hp => hs p j (by omega) (by omega))
      have m1' : fn_Mo_isSaint 137 (nI i) (mk f2 l R) = some (1, mk f2 l R) := m_saint_in (hM.2.1 68) z6 hi
      obtain ⟨f3, e4, s3, h3⟩ := m_fits (l := l) (R := R) (c := 2) (M := 4096) hM hi6 hw (Or.inl ⟨rfl, rfl⟩) hR
      refine ⟨if w = 0 then nI (cntP (hoP (rV T N) a i 2) 4096) else fsP (hoP (rV T N) a i 2) 4096 0, f2, l, R, f3, l, ?_, ?_, Iv_ask2 h hs s3 hA h3 hE.2.2.2.2.2.2⟩
      · simp (disch := omega) only [wbr_T, wbr_F, wgd_T, wbq, wbv, wnm, zI_mk, zL_mk, uI_mk, uL_mk, kI_mk, kL_mk, nI_add, nI_mul, nI_sub, nI_div, nI_clamp, wgB, wgP, nI_leI, nI_ltI, nI_eq, nI_eqm, nI_eqm5, wdT, wdF, wd1, wd0, li_0, li_1, li_2, li_3, li_4, li_5, li_6, li_7, li_8, li_9, li_10, li_11, li_12, li_13, li_14, li_15, li_16, li_17, li_18, li_19, li_20, li_21, li_22, li_23, li_24, li_25, li_26, li_27, li_28, li_29, li_30, li_31, li_32, li_33, li_38, li_40, li_41, li_48, li_57, li_58, li_59, li_60, li_61, li_62, li_63, li_68, li_69, li_70, li_71, li_72, li_73, li_74, li_75, li_83, li_87, li_88, li_89, li_99, li_100, li_104, li_105, li_106, li_107, li_108, li_109, li_110, li_111, li_112, li_113, li_114, li_115, li_116, li_117, li_118, li_119, li_120, li_121, li_124, li_127, li_128, li_200, li_4095, li_4096, li_9999, c0, c1, c2, c3, c4, c5, c6, c7, c8, u0, u1, u2, u3, u4, u5, u6, u7, u8, u9, u10, u11, u12, u13, u14, u15, u16, u17, u18, u19, u20, u21, u22, u23, u24, u25, u26, u27, u28, u29, u30, fn_Ls_holed, e1, e2, sT, eg, ed, hRh]
        exact e3
      · have e4' : fn_Mo_fits 137 (nI i) (nI 2) (nI 4095) (nI w) (mk f2 l R) = _ := e4
        simp (disch := omega) only [wbr_T, wbr_F, wgd_T, wbq, wbv, wnm, zI_mk, zL_mk, uI_mk, uL_mk, kI_mk, kL_mk, nI_add, nI_mul, nI_sub, nI_div, nI_clamp, wgB, wgP, nI_leI, nI_ltI, nI_eq, nI_eqm, nI_eqm5, wdT, wdF, wd1, wd0, li_0, li_1, li_2, li_3, li_4, li_5, li_6, li_7, li_8, li_9, li_10, li_11, li_12, li_13, li_14, li_15, li_16, li_17, li_18, li_19, li_20, li_21, li_22, li_23, li_24, li_25, li_26, li_27, li_28, li_29, li_30, li_31, li_32, li_33, li_38, li_40, li_41, li_48, li_57, li_58, li_59, li_60, li_61, li_62, li_63, li_68, li_69, li_70, li_71, li_72, li_73, li_74, li_75, li_83, li_87, li_88, li_89, li_99, li_100, li_104, li_105, li_106, li_107, li_108, li_109, li_110, li_111, li_112, li_113, li_114, li_115, li_116, li_117, li_118, li_119, li_120, li_121, li_124, li_127, li_128, li_200, li_4095, li_4096, li_9999, gT_mk_137, zT_mk_137, zR_mk_137_0, zR_mk_137_1, zR_mk_137_2, zR_mk_137_4, zR_mk_137_6, zR_mk_137_7, zR_mk_137_9, zR_mk_137_16, zR_mk_137_17, zR_mk_137_18, zR_mk_137_19, zR_mk_137_20, zR_mk_137_22, zR_mk_137_24, zR_mk_137_25, zR_mk_137_26, zR_mk_137_28, zR_mk_137_29, zR_mk_137_30, zR_mk_137_31, gT_mk_138, zT_mk_138, gT_mk_139, zT_mk_139, gT_mk_140, zT_mk_140, gT_mk_141, zT_mk_141, gT_mk_142, zT_mk_142, gT_mk_143, zT_mk_143, gT_mk_144, zT_mk_144, gT_mk_145, zT_mk_145, gT_mk_146, zT_mk_146, gT_mk_147, zT_mk_147, gT_mk_148, zT_mk_148, gT_mk_149, zT_mk_149, gT_mk_150, zT_mk_150, gT_mk_151, zT_mk_151, gT_mk_152, zT_mk_152, gT_mk_153, zT_mk_153, gT_mk_154, zT_mk_154, gT_mk_155, zT_mk_155, gT_mk_156, zT_mk_156, gT_mk_157, zT_mk_157, fn_Mo_holed, m1', m2, e4']
    · have m2 := fun S : zS => m_out (S := S) (hi := 1) hy (by decide)
      refine op_same (r := -nI 1) h ?_ ?_
      · by_cases h0 : y < nI 0
        · simp (disch := omega) only [wbr_T, wbr_F, wgd_T, wbq, wbv, wnm, zI_mk, zL_mk, uI_mk, uL_mk, kI_mk, kL_mk, nI_add, nI_mul, nI_sub, nI_div, nI_clamp, wgB, wgP, nI_leI, nI_ltI, nI_eq, nI_eqm, nI_eqm5, wdT, wdF, wd1, wd0, li_0, li_1, li_2, li_3, li_4, li_5, li_6, li_7, li_8, li_9, li_10, li_11, li_12, li_13, li_14, li_15, li_16, li_17, li_18, li_19, li_20, li_21, li_22, li_23, li_24, li_25, li_26, li_27, li_28, li_29, li_30, li_31, li_32, li_33, li_38, li_40, li_41, li_48, li_57, li_58, li_59, li_60, li_61, li_62, li_63, li_68, li_69, li_70, li_71, li_72, li_73, li_74, li_75, li_83, li_87, li_88, li_89, li_99, li_100, li_104, li_105, li_106, li_107, li_108, li_109, li_110, li_111, li_112, li_113, li_114, li_115, li_116, li_117, li_118, li_119, li_120, li_121, li_124, li_127, li_128, li_200, li_4095, li_4096, li_9999, c0, c1, c2, c3, c4, c5, c6, c7, c8, u0, u1, u2, u3, u4, u5, u6, u7, u8, u9, u10, u11, u12, u13, u14, u15, u16, u17, u18, u19, u20, u21, u22, u23, u24, u25, u26, u27, u28, u29, u30, fn_Ls_holed, e1, h0]
        · have h1 := ox_le hy h0 (by decide)
          simp (disch := omega) only [wbr_T, wbr_F, wgd_T, wbq, wbv, wnm, zI_mk, zL_mk, uI_mk, uL_mk, kI_mk, kL_mk, nI_add, nI_mul, nI_sub, nI_div, nI_clamp, wgB, wgP, nI_leI, nI_ltI, nI_eq, nI_eqm, nI_eqm5, wdT, wdF, wd1, wd0, li_0, li_1, li_2, li_3, li_4, li_5, li_6, li_7, li_8, li_9, li_10, li_11, li_12, li_13, li_14, li_15, li_16, li_17, li_18, li_19, li_20, li_21, li_22, li_23, li_24, li_25, li_26, li_27, li_28, li_29, li_30, li_31, li_32, li_33, li_38, li_40, li_41, li_48, li_57, li_58, li_59, li_60, li_61, li_62, li_63, li_68, li_69, li_70, li_71, li_72, li_73, li_74, li_75, li_83, li_87, li_88, li_89, li_99, li_100, li_104, li_105, li_106, li_107, li_108, li_109, li_110, li_111, li_112, li_113, li_114, li_115, li_116, li_117, li_118, li_119, li_120, li_121, li_124, li_127, li_128, li_200, li_4095, li_4096, li_9999, c0, c1, c2, c3, c4, c5, c6, c7, c8, u0, u1, u2, u3, u4, u5, u6, u7, u8, u9, u10, u11, u12, u13, u14, u15, u16, u17, u18, u19, u20, u21, u22, u23, u24, u25, u26, u27, u28, u29, u30, fn_Ls_holed, e1, h0, h1]
      · simp (disch := omega) only [wbr_T, wbr_F, wgd_T, wbq, wbv, wnm, zI_mk, zL_mk, uI_mk, uL_mk, kI_mk, kL_mk, nI_add, nI_mul, nI_sub, nI_div, nI_clamp, wgB, wgP, nI_leI, nI_ltI, nI_eq, nI_eqm, nI_eqm5, wdT, wdF, wd1, wd0, li_0, li_1, li_2, li_3, li_4, li_5, li_6, li_7, li_8, li_9, li_10, li_11, li_12, li_13, li_14, li_15, li_16, li_17, li_18, li_19, li_20, li_21, li_22, li_23, li_24, li_25, li_26, li_27, li_28, li_29, li_30, li_31, li_32, li_33, li_38, li_40, li_41, li_48, li_57, li_58, li_59, li_60, li_61, li_62, li_63, li_68, li_69, li_70, li_71, li_72, li_73, li_74, li_75, li_83, li_87, li_88, li_89, li_99, li_100, li_104, li_105, li_106, li_107, li_108, li_109, li_110, li_111, li_112, li_113, li_114, li_115, li_116, li_117, li_118, li_119, li_120, li_121, li_124, li_127, li_128, li_200, li_4095, li_4096, li_9999, gT_mk_137, zT_mk_137, zR_mk_137_0, zR_mk_137_1, zR_mk_137_2, zR_mk_137_4, zR_mk_137_6, zR_mk_137_7, zR_mk_137_9, zR_mk_137_16, zR_mk_137_17, zR_mk_137_18, zR_mk_137_19, zR_mk_137_20, zR_mk_137_22, zR_mk_137_24, zR_mk_137_25, zR_mk_137_26, zR_mk_137_28, zR_mk_137_29, zR_mk_137_30, zR_mk_137_31, gT_mk_138, zT_mk_138, gT_mk_139, zT_mk_139, gT_mk_140, zT_mk_140, gT_mk_141, zT_mk_141, gT_mk_142, zT_mk_142, gT_mk_143, zT_mk_143, gT_mk_144, zT_mk_144, gT_mk_145, zT_mk_145, gT_mk_146, zT_mk_146, gT_mk_147, zT_mk_147, gT_mk_148, zT_mk_148, gT_mk_149, zT_mk_149, gT_mk_150, zT_mk_150, gT_mk_151, zT_mk_151, gT_mk_152, zT_mk_152, gT_mk_153, zT_mk_153, gT_mk_154, zT_mk_154, gT_mk_155, zT_mk_155, gT_mk_156, zT_mk_156, gT_mk_157, zT_mk_157, fn_Mo_holed, m1, m2]
  · have e1 := c_has_out (l := l) (R := R) zb41 ez z6 hx
    have m1 := m_saint_out (l := l) (R := R) (hA 68) z6 hx
    refine op_same (r := -nI 1) h ?_ ?_
    · simp (disch := omega) only [wbr_T, wbr_F, wgd_T, wbq, wbv, wnm, zI_mk, zL_mk, uI_mk, uL_mk, kI_mk, kL_mk, nI_add, nI_mul, nI_sub, nI_div, nI_clamp, wgB, wgP, nI_leI, nI_ltI, nI_eq, nI_eqm, nI_eqm5, wdT, wdF, wd1, wd0, li_0, li_1, li_2, li_3, li_4, li_5, li_6, li_7, li_8, li_9, li_10, li_11, li_12, li_13, li_14, li_15, li_16, li_17, li_18, li_19, li_20, li_21, li_22, li_23, li_24, li_25, li_26, li_27, li_28, li_29, li_30, li_31, li_32, li_33, li_38, li_40, li_41, li_48, li_57, li_58, li_59, li_60, li_61, li_62, li_63, li_68, li_69, li_70, li_71, li_72, li_73, li_74, li_75, li_83, li_87, li_88, li_89, li_99, li_100, li_104, li_105, li_106, li_107, li_108, li_109, li_110, li_111, li_112, li_113, li_114, li_115, li_116, li_117, li_118, li_119, li_120, li_121, li_124, li_127, li_128, li_200, li_4095, li_4096, li_9999, c0, c1, c2, c3, c4, c5, c6, c7, c8, u0, u1, u2, u3, u4, u5, u6, u7, u8, u9, u10, u11, u12, u13, u14, u15, u16, u17, u18, u19, u20, u21, u22, u23, u24, u25, u26, u27, u28, u29, u30, fn_Ls_holed, e1]
    · simp (disch := omega) only [wbr_T, wbr_F, wgd_T, wbq, wbv, wnm, zI_mk, zL_mk, uI_mk, uL_mk, kI_mk, kL_mk, nI_add, nI_mul, nI_sub, nI_div, nI_clamp, wgB, wgP, nI_leI, nI_ltI, nI_eq, nI_eqm, nI_eqm5, wdT, wdF, wd1, wd0, li_0, li_1, li_2, li_3, li_4, li_5, li_6, li_7, li_8, li_9, li_10, li_11, li_12, li_13, li_14, li_15, li_16, li_17, li_18, li_19, li_20, li_21, li_22, li_23, li_24, li_25, li_26, li_27, li_28, li_29, li_30, li_31, li_32, li_33, li_38, li_40, li_41, li_48, li_57, li_58, li_59, li_60, li_61, li_62, li_63, li_68, li_69, li_70, li_71, li_72, li_73, li_74, li_75, li_83, li_87, li_88, li_89, li_99, li_100, li_104, li_105, li_106, li_107, li_108, li_109, li_110, li_111, li_112, li_113, li_114, li_115, li_116, li_117, li_118, li_119, li_120, li_121, li_124, li_127, li_128, li_200, li_4095, li_4096, li_9999, gT_mk_137, zT_mk_137, zR_mk_137_0, zR_mk_137_1, zR_mk_137_2, zR_mk_137_4, zR_mk_137_6, zR_mk_137_7, zR_mk_137_9, zR_mk_137_16, zR_mk_137_17, zR_mk_137_18, zR_mk_137_19, zR_mk_137_20, zR_mk_137_22, zR_mk_137_24, zR_mk_137_25, zR_mk_137_26, zR_mk_137_28, zR_mk_137_29, zR_mk_137_30, zR_mk_137_31, gT_mk_138, zT_mk_138, gT_mk_139, zT_mk_139, gT_mk_140, zT_mk_140, gT_mk_141, zT_mk_141, gT_mk_142, zT_mk_142, gT_mk_143, zT_mk_143, gT_mk_144, zT_mk_144, gT_mk_145, zT_mk_145, gT_mk_146, zT_mk_146, gT_mk_147, zT_mk_147, gT_mk_148, zT_mk_148, gT_mk_149, zT_mk_149, gT_mk_150, zT_mk_150, gT_mk_151, zT_mk_151, gT_mk_152, zT_mk_152, gT_mk_153, zT_mk_153, gT_mk_154, zT_mk_154, gT_mk_155, zT_mk_155, gT_mk_156, zT_mk_156, gT_mk_157, zT_mk_157, fn_Mo_holed, m1]
theorem op_can (x y : Int32) : OpI (fn_Ls_can 16 x y) (fn_Mo_can 137 x y) := by
  intro f l R h
  obtain ⟨ru, T, N, ⟨a, hc, hA, hG, hR⟩, hE⟩ := id h
  obtain ⟨c0, c1, c2, c3, c4, c5, c6, c7, c8⟩ := hbC
  obtain ⟨u0, u1, u2, u3, u4, u5, u6, u7, u8, u9, u10, u11, u12, u13, u14, u15, u16, u17, u18, u19, u20, u21, u22, u23, u24, u25, u26, u27, u28, u29, u30⟩ := hbB
  obtain ⟨z6, z7, z8, z9⟩ := id hc.1
  have gA := Gd_all hG
  have ez := cC_z hc
  rcases ix_or x (N := a 68) (by omega) with ⟨i, hi, rfl⟩ | hx
  · have hi6 : i < 6 := by omega
    have e1 := c_has_in (l := l) (R := R) zb41 ez z6 hi
    have m1 := m_saint_in (l := l) (R := R) (hA 68) z6 hi
    rcases ix_or y (N := 2) (by decide) with ⟨w, hw, rfl⟩ | hy
    · have m2 := fun S : zS => m_in (S := S) (k := w) (lo := 0) (hi := 1) (by omega) (by omega) (by decide)
      obtain ⟨f1, e2, s1, p1⟩ := c_sup (l := l) hc hi hG
      have hX := JC_CX (Re_JC hE) (Re_JG hE) hc hG (by decide)
      have hc1 := su_cC hc s1
      have hK1 := su_CK hX.1 s1
      have sT := fun f : Nat → Nat → Int32 => sp_T (f := f) (l := l) (R := R) sp_36
      obtain ⟨f2, e3, s2⟩ := c_canl (l := l) (w := w) hi6 hw hR hG 10 0 FU 0 (-nI 5) f1 (by omega) (by decide) hdI_0 hK1 hc1 ⟨a (10 * i + 1), by rw [us_self]; exact p1⟩
      have hs := su_t s1 s2
      have hM := MX_fr (JC_MX (Re_JC hE) (Re_JG hE) hA hG (show 9999 < 2 ^ 20 by decide)) (f' := f2) (fun p j hp => hs p j (by omega) (by omega))
      have m1' : fn_Mo_isSaint 137 (nI i) (mk f2 l R) = some (1, mk f2 l R) := m_saint_in (hM.2.1 68) z6 hi
      obtain ⟨f3, e4, s3, h3⟩ := m_fits (l := l) (R := R) (c := 1) (M := 10) hM hi6 hw (Or.inr ⟨rfl, rfl⟩) hR
      refine ⟨if w = 0 then nI (cntP (hoP (rV T N) a i 1) 10) else fsP (hoP (rV T N) a i 1) 10 0, f2, l, R, f3, l, ?_, ?_, Iv_ask2 h hs s3 hA h3 hE.2.2.2.2.2.2⟩
      · simp (disch := omega) only [wbr_T, wbr_F, wgd_T, wbq, wbv, wnm, zI_mk, zL_mk, uI_mk, uL_mk, kI_mk, kL_mk, nI_add, nI_mul, nI_sub, nI_div, nI_clamp, wgB, wgP, nI_leI, nI_ltI, nI_eq, nI_eqm, nI_eqm5, wdT, wdF, wd1, wd0, li_0, li_1, li_2, li_3, li_4, li_5, li_6, li_7, li_8, li_9, li_10, li_11, li_12, li_13, li_14, li_15, li_16, li_17, li_18, li_19, li_20, li_21, li_22, li_23, li_24, li_25, li_26, li_27, li_28, li_29, li_30, li_31, li_32, li_33, li_38, li_40, li_41, li_48, li_57, li_58, li_59, li_60, li_61, li_62, li_63, li_68, li_69, li_70, li_71, li_72, li_73, li_74, li_75, li_83, li_87, li_88, li_89, li_99, li_100, li_104, li_105, li_106, li_107, li_108, li_109, li_110, li_111, li_112, li_113, li_114, li_115, li_116, li_117, li_118, li_119, li_120, li_121, li_124, li_127, li_128, li_200, li_4095, li_4096, li_9999, c0, c1, c2, c3, c4, c5, c6, c7, c8, u0, u1, u2, u3, u4, u5, u6, u7, u8, u9, u10, u11, u12, u13, u14, u15, u16, u17, u18, u19, u20, u21, u22, u23, u24, u25, u26, u27, u28, u29, u30, fn_Ls_can, e1, e2, sT]
        exact e3
      · have e4' : fn_Mo_fits 137 (nI i) (nI 1) (nI 9) (nI w) (mk f2 l R) = _ := e4
        simp (disch := omega) only [wbr_T, wbr_F, wgd_T, wbq, wbv, wnm, zI_mk, zL_mk, uI_mk, uL_mk, kI_mk, kL_mk, nI_add, nI_mul, nI_sub, nI_div, nI_clamp, wgB, wgP, nI_leI, nI_ltI, nI_eq, nI_eqm, nI_eqm5, wdT, wdF, wd1, wd0, li_0, li_1, li_2, li_3, li_4, li_5, li_6, li_7, li_8, li_9, li_10, li_11, li_12, li_13, li_14, li_15, li_16, li_17, li_18, li_19, li_20, li_21, li_22, li_23, li_24, li_25, li_26, li_27, li_28, li_29, li_30, li_31, li_32, li_33, li_38, li_40, li_41, li_48, li_57, li_58, li_59, li_60, li_61, li_62, li_63, li_68, li_69, li_70, li_71, li_72, li_73, li_74, li_75, li_83, li_87, li_88, li_89, li_99, li_100, li_104, li_105, li_106, li_107, li_108, li_109, li_110, li_111, li_112, li_113, li_114, li_115, li_116, li_117, li_118, li_119, li_120, li_121, li_124, li_127, li_128, li_200, li_4095, li_4096, li_9999, gT_mk_137, zT_mk_137, zR_mk_137_0, zR_mk_137_1, zR_mk_137_2, zR_mk_137_4, zR_mk_137_6, zR_mk_137_7, zR_mk_137_9, zR_mk_137_16, zR_mk_137_17, zR_mk_137_18, zR_mk_137_19, zR_mk_137_20, zR_mk_137_22, zR_mk_137_24, zR_mk_137_25, zR_mk_137_26, zR_mk_137_28, zR_mk_137_29, zR_mk_137_30, zR_mk_137_31, gT_mk_138, zT_mk_138, gT_mk_139, zT_mk_139, gT_mk_140, zT_mk_140, gT_mk_141, zT_mk_141, gT_mk_142, zT_mk_142, gT_mk_143, zT_mk_143, gT_mk_144, zT_mk_144, gT_mk_145, zT_mk_145, gT_mk_146, zT_mk_146, gT_mk_147, zT_mk_147, gT_mk_148, zT_mk_148, gT_mk_149, zT_mk_149, gT_mk_150, zT_mk_150, gT_mk_151, zT_mk_151, gT_mk_152, zT_mk_152, gT_mk_153, zT_mk_153, gT_mk_154, zT_mk_154, gT_mk_155, zT_mk_155, gT_mk_156, zT_mk_156, gT_mk_157, zT_mk_157, fn_Mo_can, m1', m2, e4']
    · have m2 := fun S : zS => m_out (S := S) (hi := 1) hy (by decide)
      refine op_same (r := -nI 1) h ?_ ?_
      · by_cases h0 : y < nI 0
        · simp (disch := omega) only [wbr_T, wbr_F, wgd_T, wbq, wbv, wnm, zI_mk, zL_mk, uI_mk, uL_mk, kI_mk, kL_mk, nI_add, nI_mul, nI_sub, nI_div, nI_clamp, wgB, wgP, nI_leI, nI_ltI, nI_eq, nI_eqm, nI_eqm5, wdT, wdF, wd1, wd0, li_0, li_1, li_2, li_3, li_4, li_5, li_6, li_7, li_8, li_9, li_10, li_11, li_12, li_13, li_14, li_15, li_16, li_17, li_18, li_19, li_20, li_21, li_22, li_23, li_24, li_25, li_26, li_27, li_28, li_29, li_30, li_31, li_32, li_33, li_38, li_40, li_41, li_48, li_57, li_58, li_59, li_60, li_61, li_62, li_63, li_68, li_69, li_70, li_71, li_72, li_73, li_74, li_75, li_83, li_87, li_88, li_89, li_99, li_100, li_104, li_105, li_106, li_107, li_108, li_109, li_110, li_111, li_112, li_113, li_114, li_115, li_116, li_117, li_118, li_119, li_120, li_121, li_124, li_127, li_128, li_200, li_4095, li_4096, li_9999, c0, c1, c2, c3, c4, c5, c6, c7, c8, u0, u1, u2, u3, u4, u5, u6, u7, u8, u9, u10, u11, u12, u13, u14, u15, u16, u17, u18, u19, u20, u21, u22, u23, u24, u25, u26, u27, u28, u29, u30, fn_Ls_can, e1, h0]
        · have h1 := ox_le hy h0 (by decide)
          simp (disch := omega) only [wbr_T, wbr_F, wgd_T, wbq, wbv, wnm, zI_mk, zL_mk, uI_mk, uL_mk, kI_mk, kL_mk, nI_add, nI_mul, nI_sub, nI_div, nI_clamp, wgB, wgP, nI_leI, nI_ltI, nI_eq, nI_eqm, nI_eqm5, wdT, wdF, wd1, wd0, li_0, li_1, li_2, li_3, li_4, li_5, li_6, li_7, li_8, li_9, li_10, li_11, li_12, li_13, li_14, li_15, li_16, li_17, li_18, li_19, li_20, li_21, li_22, li_23, li_24, li_25, li_26, li_27, li_28, li_29, li_30, li_31, li_32, li_33, li_38, li_40, li_41, li_48, li_57, li_58, li_59, li_60, li_61, li_62, li_63, li_68, li_69, li_70, li_71, li_72, li_73, li_74, li_75, li_83, li_87, li_88, li_89, li_99, li_100, li_104, li_105, li_106, li_107, li_108, li_109, li_110, li_111, li_112, li_113, li_114, li_115, li_116, li_117, li_118, li_119, li_120, li_121, li_124, li_127, li_128, li_200, li_4095, li_4096, li_9999, c0, c1, c2, c3, c4, c5, c6, c7, c8, u0, u1, u2, u3, u4, u5, u6, u7, u8, u9, u10, u11, u12, u13, u14, u15, u16, u17, u18, u19, u20, u21, u22, u23, u24, u25, u26, u27, u28, u29, u30, fn_Ls_can, e1, h0, h1]
      · simp (disch := omega) only [wbr_T, wbr_F, wgd_T, wbq, wbv, wnm, zI_mk, zL_mk, uI_mk, uL_mk, kI_mk, kL_mk, nI_add, nI_mul, nI_sub, nI_div, nI_clamp, wgB, wgP, nI_leI, nI_ltI, nI_eq, nI_eqm, nI_eqm5, wdT, wdF, wd1, wd0, li_0, li_1, li_2, li_3, li_4, li_5, li_6, li_7, li_8, li_9, li_10, li_11, li_12, li_13, li_14, li_15, li_16, li_17, li_18, li_19, li_20, li_21, li_22, li_23, li_24, li_25, li_26, li_27, li_28, li_29, li_30, li_31, li_32, li_33, li_38, li_40, li_41, li_48, li_57, li_58, li_59, li_60, li_61, li_62, li_63, li_68, li_69, li_70, li_71, li_72, li_73, li_74, li_75, li_83, li_87, li_88, li_89, li_99, li_100, li_104, li_105, li_106, li_107, li_108, li_109, li_110, li_111, li_112, li_113, li_114, li_115, li_116, li_117, li_118, li_119, li_120, li_121, li_124, li_127, li_128, li_200, li_4095, li_4096, li_9999, gT_mk_137, zT_mk_137, zR_mk_137_0, zR_mk_137_1, zR_mk_137_2, zR_mk_137_4, zR_mk_137_6, zR_mk_137_7, zR_mk_137_9, zR_mk_137_16, zR_mk_137_17, zR_mk_137_18, zR_mk_137_19, zR_mk_137_20, zR_mk_137_22, zR_mk_137_24, zR_mk_137_25, zR_mk_137_26, zR_mk_137_28, zR_mk_137_29, zR_mk_137_30, zR_mk_137_31, gT_mk_138, zT_mk_138, gT_mk_139, zT_mk_139, gT_mk_140, zT_mk_140, gT_mk_141, zT_mk_141, gT_mk_142, zT_mk_142, gT_mk_143, zT_mk_143, gT_mk_144, zT_mk_144, gT_mk_145, zT_mk_145, gT_mk_146, zT_mk_146, gT_mk_147, zT_mk_147, gT_mk_148, zT_mk_148, gT_mk_149, zT_mk_149, gT_mk_150, zT_mk_150, gT_mk_151, zT_mk_151, gT_mk_152, zT_mk_152, gT_mk_153, zT_mk_153, gT_mk_154, zT_mk_154, gT_mk_155, zT_mk_155, gT_mk_156, zT_mk_156, gT_mk_157, zT_mk_157, fn_Mo_can, m1, m2]
  · have e1 := c_has_out (l := l) (R := R) zb41 ez z6 hx
    have m1 := m_saint_out (l := l) (R := R) (hA 68) z6 hx
    refine op_same (r := -nI 1) h ?_ ?_
    · simp (disch := omega) only [wbr_T, wbr_F, wgd_T, wbq, wbv, wnm, zI_mk, zL_mk, uI_mk, uL_mk, kI_mk, kL_mk, nI_add, nI_mul, nI_sub, nI_div, nI_clamp, wgB, wgP, nI_leI, nI_ltI, nI_eq, nI_eqm, nI_eqm5, wdT, wdF, wd1, wd0, li_0, li_1, li_2, li_3, li_4, li_5, li_6, li_7, li_8, li_9, li_10, li_11, li_12, li_13, li_14, li_15, li_16, li_17, li_18, li_19, li_20, li_21, li_22, li_23, li_24, li_25, li_26, li_27, li_28, li_29, li_30, li_31, li_32, li_33, li_38, li_40, li_41, li_48, li_57, li_58, li_59, li_60, li_61, li_62, li_63, li_68, li_69, li_70, li_71, li_72, li_73, li_74, li_75, li_83, li_87, li_88, li_89, li_99, li_100, li_104, li_105, li_106, li_107, li_108, li_109, li_110, li_111, li_112, li_113, li_114, li_115, li_116, li_117, li_118, li_119, li_120, li_121, li_124, li_127, li_128, li_200, li_4095, li_4096, li_9999, c0, c1, c2, c3, c4, c5, c6, c7, c8, u0, u1, u2, u3, u4, u5, u6, u7, u8, u9, u10, u11, u12, u13, u14, u15, u16, u17, u18, u19, u20, u21, u22, u23, u24, u25, u26, u27, u28, u29, u30, fn_Ls_can, e1]
    · simp (disch := omega) only [wbr_T, wbr_F, wgd_T, wbq, wbv, wnm, zI_mk, zL_mk, uI_mk, uL_mk, kI_mk, kL_mk, nI_add, nI_mul, nI_sub, nI_div, nI_clamp, wgB, wgP, nI_leI, nI_ltI, nI_eq, nI_eqm, nI_eqm5, wdT, wdF, wd1, wd0, li_0, li_1, li_2, li_3, li_4, li_5, li_6, li_7, li_8, li_9, li_10, li_11, li_12, li_13, li_14, li_15, li_16, li_17, li_18, li_19, li_20, li_21, li_22, li_23, li_24, li_25, li_26, li_27, li_28, li_29, li_30, li_31, li_32, li_33, li_38, li_40, li_41, li_48, li_57, li_58, li_59, li_60, li_61, li_62, li_63, li_68, li_69, li_70, li_71, li_72, li_73, li_74, li_75, li_83, li_87, li_88, li_89, li_99, li_100, li_104, li_105, li_106, li_107, li_108, li_109, li_110, li_111, li_112, li_113, li_114, li_115, li_116, li_117, li_118, li_119, li_120, li_121, li_124, li_127, li_128, li_200, li_4095, li_4096, li_9999, gT_mk_137, zT_mk_137, zR_mk_137_0, zR_mk_137_1, zR_mk_137_2, zR_mk_137_4, zR_mk_137_6, zR_mk_137_7, zR_mk_137_9, zR_mk_137_16, zR_mk_137_17, zR_mk_137_18, zR_mk_137_19, zR_mk_137_20, zR_mk_137_22, zR_mk_137_24, zR_mk_137_25, zR_mk_137_26, zR_mk_137_28, zR_mk_137_29, zR_mk_137_30, zR_mk_137_31, gT_mk_138, zT_mk_138, gT_mk_139, zT_mk_139, gT_mk_140, zT_mk_140, gT_mk_141, zT_mk_141, gT_mk_142, zT_mk_142, gT_mk_143, zT_mk_143, gT_mk_144, zT_mk_144, gT_mk_145, zT_mk_145, gT_mk_146, zT_mk_146, gT_mk_147, zT_mk_147, gT_mk_148, zT_mk_148, gT_mk_149, zT_mk_149, gT_mk_150, zT_mk_150, gT_mk_151, zT_mk_151, gT_mk_152, zT_mk_152, gT_mk_153, zT_mk_153, gT_mk_154, zT_mk_154, gT_mk_155, zT_mk_155, gT_mk_156, zT_mk_156, gT_mk_157, zT_mk_157, fn_Mo_can, m1]
