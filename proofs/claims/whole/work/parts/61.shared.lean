/-! CALLS: SHARED; DEAR -/
section
variable {f f' g : Nat → Nat → Int32} {l : Nat → Nat → Int64} {R : Nat → Nat} {a a' : Nat → Nat} {T : Nat → Nat → Nat} {N : Nat → Nat} {ru D i j k n w z s x : Nat} {V : zV}
theorem c_given (hz : f 24 3 = nI z) (z6 : z ≤ 6) (hi : i < z) (hb : f 27 i = nI x) (hx : x ≤ 9) : fn_Sh_givenTo 24 (nI i) (mk f l R) = some (cdM x, mk f l R) := by
  by_cases e : x = 9
  · subst e
    rw [cdM_9]
    simp (disch := omega) only [wbr_T, wbr_F, wgd_T, wbq, wbv, wnm, zI_mk, zL_mk, uI_mk, uL_mk, kI_mk, kL_mk, nI_add, nI_mul, nI_sub, nI_div, nI_clamp, wgB, wgP, nI_leI, nI_ltI, nI_eq, nI_eqm, nI_eqm5, wdT, wdF, wd1, wd0, li_0, li_1, li_2, li_3, li_4, li_5, li_6, li_7, li_8, li_9, li_10, li_11, li_12, li_13, li_14, li_15, li_16, li_17, li_18, li_19, li_20, li_21, li_22, li_23, li_24, li_25, li_26, li_27, li_28, li_29, li_30, li_31, li_32, li_33, li_38, li_40, li_41, li_48, li_57, li_58, li_59, li_60, li_61, li_62, li_63, li_68, li_69, li_70, li_71, li_72, li_73, li_74, li_75, li_83, li_87, li_88, li_89, li_99, li_100, li_104, li_105, li_106, li_107, li_108, li_109, li_110, li_111, li_112, li_113, li_114, li_115, li_116, li_117, li_118, li_119, li_120, li_121, li_124, li_127, li_128, li_200, li_4095, li_4096, li_9999, fn_Sh_givenTo, hz, hb, gT_mk_24, zT_mk_24, zR_mk_24_0, zR_mk_24_1, zR_mk_24_2, gT_mk_25, zT_mk_25, gT_mk_26, zT_mk_26, gT_mk_27, zT_mk_27, gT_mk_28, zT_mk_28, zR_mk_28_0, zR_mk_28_1, zR_mk_28_2, gT_mk_29, zT_mk_29, gT_mk_30, zT_mk_30, gT_mk_31, zT_mk_31, gT_mk_32, zT_mk_32, zR_mk_32_0, gT_mk_33, zT_mk_33]
  · rw [cdM_n e]
    simp (disch := omega) only [wbr_T, wbr_F, wgd_T, wbq, wbv, wnm, zI_mk, zL_mk, uI_mk, uL_mk, kI_mk, kL_mk, nI_add, nI_mul, nI_sub, nI_div, nI_clamp, wgB, wgP, nI_leI, nI_ltI, nI_eq, nI_eqm, nI_eqm5, wdT, wdF, wd1, wd0, li_0, li_1, li_2, li_3, li_4, li_5, li_6, li_7, li_8, li_9, li_10, li_11, li_12, li_13, li_14, li_15, li_16, li_17, li_18, li_19, li_20, li_21, li_22, li_23, li_24, li_25, li_26, li_27, li_28, li_29, li_30, li_31, li_32, li_33, li_38, li_40, li_41, li_48, li_57, li_58, li_59, li_60, li_61, li_62, li_63, li_68, li_69, li_70, li_71, li_72, li_73, li_74, li_75, li_83, li_87, li_88, li_89, li_99, li_100, li_104, li_105, li_106, li_107, li_108, li_109, li_110, li_111, li_112, li_113, li_114, li_115, li_116, li_117, li_118, li_119, li_120, li_121, li_124, li_127, li_128, li_200, li_4095, li_4096, li_9999, fn_Sh_givenTo, hz, hb, gT_mk_24, zT_mk_24, zR_mk_24_0, zR_mk_24_1, zR_mk_24_2, gT_mk_25, zT_mk_25, gT_mk_26, zT_mk_26, gT_mk_27, zT_mk_27, gT_mk_28, zT_mk_28, zR_mk_28_0, zR_mk_28_1, zR_mk_28_2, gT_mk_29, zT_mk_29, gT_mk_30, zT_mk_30, gT_mk_31, zT_mk_31, gT_mk_32, zT_mk_32, zR_mk_32_0, gT_mk_33, zT_mk_33]
/-- what sharing and scrubbing leave, of the two -/
theorem Iv_ask3 (h : Iv f l R) (hs : ∀ p j, ¬ (24 ≤ p ∧ p ≤ 31) → f' p j = f p j) (hd : fm f' g) (hN : cN 63 f) : Iv g l R :=
  Iv_q h (fun p j q => by
    unfold vol at q
    rw [hd p j (by omega) (by omega) (by omega) (by omega) (by omega) (by omega), hs p j (by omega)]) (fun p j h1 h2 => by
    rw [hd p j (by omega) (by omega) (by omega) (by omega) (by omega) (by omega), hs p j (by omega)]) (fun k => by
    rw [hd 138 k (by omega) (by omega) (by omega) (by omega) (by omega) (by omega), hs 138 k (by omega)]) (cN_fr hN (fun p j h1 h2 => by
    rw [hd p j (by omega) (by omega) (by omega) (by omega) (by omega) (by omega), hs p j (by omega)])) rfl rfl
/-! which one could least do without -/
def shm (V : zV) (a : Nat → Nat) (s : Nat) : Nat := (shR V a (nI s)).1 - 1
def drP (V : zV) (a : Nat → Nat) : Nat → Nat → Nat → Nat
  | 0, _, c => c
  | d + 1, s, c => if 99 ≤ a (10 * s + 3) then drP V a d (s + 1) c else if c = 0 ∨ shm V a s < shm V a (c - 1) then drP V a d (s + 1) (s + 1) else drP V a d (s + 1) c
def drC (c : Nat) : Int32 := if c = 0 then -nI 5 else nI (c - 1)
def drL (V : zV) (a : Nat → Nat) (c : Nat) : Int32 := if c = 0 then -nI 5 else nI (shm V a (c - 1))
theorem drC_0 : drC 0 = -nI 5 := if_pos rfl
theorem drC_s {c : Nat} : drC (c + 1) = nI c := if_neg (Nat.succ_ne_zero c)
theorem drL_0 : drL V a 0 = -nI 5 := if_pos rfl
theorem drL_s {c : Nat} : drL V a (c + 1) = nI (shm V a c) := if_neg (Nat.succ_ne_zero c)
theorem drP_le : ∀ (d s c : Nat), s + d ≤ 6 → c ≤ 6 → drP V a d s c ≤ 6
  | 0, s, c, h, hc => hc
  | d + 1, s, c, h, hc => by
    unfold drP
    split
    · exact drP_le d (s + 1) c (by omega) hc
    · split
      · exact drP_le d (s + 1) (s + 1) (by omega) (by omega)
      · exact drP_le d (s + 1) c (by omega) hc
theorem shm_c (h : CX T N ru D 41 a f R) (s : Nat) : ∃ f', fn_Sh_share 24 41 (nI s) (mk f l R) = some (mk f' l R) ∧ sj f f' ∧ f' 24 4 = nI (shm (rV T N) a s) ∧ shm (rV T N) a s ≤ 100 := by
  obtain ⟨f1, e1, s1, r1, b1, b2, b3⟩ := c_share (l := l) h (nI s)
  have pos := shR_pos (V := rV T N) (a := a) (wo := nI s)
  refine ⟨f1, e1, s1, b2.trans (nI_sub pos), ?_⟩
  unfold shm
  omega
theorem shm_m (h : MX T N ru D a f) (s : Nat) : ∃ f', fn_Mo_shareAll 137 (nI s) (mk f l R) = some (nI (shm (rV T N) a s), mk f' l R) ∧ fm f f' ∧ shm (rV T N) a s ≤ 100 := by
  obtain ⟨f1, e1, s1, b1, b2, b3⟩ := m_share (l := l) (R := R) h (nI s)
  have pos := shR_pos (V := rV T N) (a := a) (wo := nI s)
  rw [nI_sub pos] at e1
  refine ⟨f1, e1, s1, ?_⟩
  unfold shm
  omega
theorem c_dearl : ∀ (d s G c : Nat) (L : Int32) (f : Nat → Nat → Int32), s + d = a 68 → d < G → c ≤ 6 → (¬ c = 0 → L = nI (shm (rV T N) a (c - 1)) ∧ shm (rV T N) a (c - 1) ≤ 100) → CX T N ru D 41 a f R →
    ∃ f', lp (σ := Nat × Nat × Int32 × Int32 × Int32 × zS) (fun k s => fn_Sh_dearest_L8 s.1 s.2.1 s.2.2.1 s.2.2.2.1 s.2.2.2.2.1 s.2.2.2.2.2 (fun (a0 : Nat) (a1 : Nat) (a2 : Int32) (a3 : Int32) (a4 : Int32) (S : zS) => k (a0, a1, a2, a3, a4, S))) G (24, 41, drC c, L, nI s, mk f l R) = some (drC (drP (rV T N) a d s c), mk f' l R) ∧ sj f f'
  | 0, s, G, c, L, f, hs, hG, hc, hL, h => by
    obtain ⟨G, rfl⟩ : ∃ H, G = H + 1 := ⟨G - 1, by omega⟩
    obtain ⟨u0, u1, u2, u3, u4, u5, u6, u7, u8, u9, u10, u11, u12, u13, u14, u15, u16, u17, u18, u19, u20, u21, u22, u23, u24, u25, u26, u27, u28, u29, u30⟩ := hbB
    have z6 := h.2.1.1.1
    have ez : f 41 6 = nI (a 68) := cC_z h.2.1
    refine ⟨f, ?_, sj_r⟩
    rw [lpS]
    show fn_Sh_dearest_L8 24 41 (drC c) L (nI s) (mk f l R) _ = some (drC c, _)
    simp (disch := omega) only [wbr_T, wbr_F, wgd_T, wbq, wbv, wnm, zI_mk, zL_mk, uI_mk, uL_mk, kI_mk, kL_mk, nI_add, nI_mul, nI_sub, nI_div, nI_clamp, wgB, wgP, nI_leI, nI_ltI, nI_eq, nI_eqm, nI_eqm5, wdT, wdF, wd1, wd0, li_0, li_1, li_2, li_3, li_4, li_5, li_6, li_7, li_8, li_9, li_10, li_11, li_12, li_13, li_14, li_15, li_16, li_17, li_18, li_19, li_20, li_21, li_22, li_23, li_24, li_25, li_26, li_27, li_28, li_29, li_30, li_31, li_32, li_33, li_38, li_40, li_41, li_48, li_57, li_58, li_59, li_60, li_61, li_62, li_63, li_68, li_69, li_70, li_71, li_72, li_73, li_74, li_75, li_83, li_87, li_88, li_89, li_99, li_100, li_104, li_105, li_106, li_107, li_108, li_109, li_110, li_111, li_112, li_113, li_114, li_115, li_116, li_117, li_118, li_119, li_120, li_121, li_124, li_127, li_128, li_200, li_4095, li_4096, li_9999, fn_Sh_dearest_L8, ez, u0, u1, u2, u3, u4, u5, u6, u7, u8, u9, u10, u11, u12, u13, u14, u15, u16, u17, u18, u19, u20, u21, u22, u23, u24, u25, u26, u27, u28, u29, u30]
  | d + 1, s, G, c, L, f, hs, hG, hc, hL, h => by
    obtain ⟨G, rfl⟩ : ∃ H, G = H + 1 := ⟨G - 1, by omega⟩
    obtain ⟨u0, u1, u2, u3, u4, u5, u6, u7, u8, u9, u10, u11, u12, u13, u14, u15, u16, u17, u18, u19, u20, u21, u22, u23, u24, u25, u26, u27, u28, u29, u30⟩ := hbB
    have z6 := h.2.1.1.1
    have hi : s < a 68 := by omega
    have ez : f 41 6 = nI (a 68) := cC_z h.2.1
    have g9 := (Gd_gs h.2.2.1 (show s < 6 by omega)).2.2.2.1
    have et : fn_Sa_isThread (51 + 2 * s) (mk f l R) = _ := c_thread (l := l) (R := R) (sp_b zb41 (show s < 6 by omega)) (cC_w h.2.1 hi) g9
    rw [lpS]
    show ∃ f', fn_Sh_dearest_L8 24 41 (drC c) L (nI s) (mk f l R) _ = some (drC (if 99 ≤ a (10 * s + 3) then drP (rV T N) a d (s + 1) c else if c = 0 ∨ shm (rV T N) a s < shm (rV T N) a (c - 1) then drP (rV T N) a d (s + 1) (s + 1) else drP (rV T N) a d (s + 1) c), _) ∧ _
    by_cases c1 : 99 ≤ a (10 * s + 3)
    · rw [if_pos c1]
      rw [if_pos c1] at et
      obtain ⟨f2, e2, s2⟩ := c_dearl d (s + 1) G c L f (by omega) (by omega) hc hL h
      refine ⟨f2, ?_, s2⟩
      simp (disch := omega) only [wbr_T, wbr_F, wgd_T, wbq, wbv, wnm, zI_mk, zL_mk, uI_mk, uL_mk, kI_mk, kL_mk, nI_add, nI_mul, nI_sub, nI_div, nI_clamp, wgB, wgP, nI_leI, nI_ltI, nI_eq, nI_eqm, nI_eqm5, wdT, wdF, wd1, wd0, li_0, li_1, li_2, li_3, li_4, li_5, li_6, li_7, li_8, li_9, li_10, li_11, li_12, li_13, li_14, li_15, li_16, li_17, li_18, li_19, li_20, li_21, li_22, li_23, li_24, li_25, li_26, li_27, li_28, li_29, li_30, li_31, li_32, li_33, li_38, li_40, li_41, li_48, li_57, li_58, li_59, li_60, li_61, li_62, li_63, li_68, li_69, li_70, li_71, li_72, li_73, li_74, li_75, li_83, li_87, li_88, li_89, li_99, li_100, li_104, li_105, li_106, li_107, li_108, li_109, li_110, li_111, li_112, li_113, li_114, li_115, li_116, li_117, li_118, li_119, li_120, li_121, li_124, li_127, li_128, li_200, li_4095, li_4096, li_9999, fn_Sh_dearest_L8, ez, et, u0, u1, u2, u3, u4, u5, u6, u7, u8, u9, u10, u11, u12, u13, u14, u15, u16, u17, u18, u19, u20, u21, u22, u23, u24, u25, u26, u27, u28, u29, u30]
      exact e2
    · rw [if_neg c1]
      rw [if_neg c1] at et
      obtain ⟨f1, e1, s1, b1, b2⟩ := shm_c (l := l) h s
      by_cases c0 : c = 0
      · rw [if_pos (Or.inl c0)]
        subst c0
        obtain ⟨f2, e2, s2⟩ := c_dearl d (s + 1) G (s + 1) (nI (shm (rV T N) a s)) f1 (by omega) (by omega) (by omega) (fun _ => ⟨rfl, b2⟩) (sj_CX h s1)
        rw [drC_s] at e2
        refine ⟨f2, ?_, sj_t s1 s2⟩
        rw [drC_0]
        simp (disch := omega) only [wbr_T, wbr_F, wgd_T, wbq, wbv, wnm, zI_mk, zL_mk, uI_mk, uL_mk, kI_mk, kL_mk, nI_add, nI_mul, nI_sub, nI_div, nI_clamp, wgB, wgP, nI_leI, nI_ltI, nI_eq, nI_eqm, nI_eqm5, wdT, wdF, wd1, wd0, li_0, li_1, li_2, li_3, li_4, li_5, li_6, li_7, li_8, li_9, li_10, li_11, li_12, li_13, li_14, li_15, li_16, li_17, li_18, li_19, li_20, li_21, li_22, li_23, li_24, li_25, li_26, li_27, li_28, li_29, li_30, li_31, li_32, li_33, li_38, li_40, li_41, li_48, li_57, li_58, li_59, li_60, li_61, li_62, li_63, li_68, li_69, li_70, li_71, li_72, li_73, li_74, li_75, li_83, li_87, li_88, li_89, li_99, li_100, li_104, li_105, li_106, li_107, li_108, li_109, li_110, li_111, li_112, li_113, li_114, li_115, li_116, li_117, li_118, li_119, li_120, li_121, li_124, li_127, li_128, li_200, li_4095, li_4096, li_9999, fn_Sh_dearest_L8, ez, et, e1, b1, gT_mk_24, u0, u1, u2, u3, u4, u5, u6, u7, u8, u9, u10, u11, u12, u13, u14, u15, u16, u17, u18, u19, u20, u21, u22, u23, u24, u25, u26, u27, u28, u29, u30]
        exact e2
      · obtain ⟨hL1, hL2⟩ := hL c0
        obtain ⟨c, rfl⟩ : ∃ q, c = q + 1 := ⟨c - 1, by omega⟩
        rw [Nat.add_sub_cancel] at hL1 hL2 ⊢
        by_cases c2 : shm (rV T N) a s < shm (rV T N) a c
        · rw [if_pos (Or.inr c2)]
          obtain ⟨f2, e2, s2⟩ := c_dearl d (s + 1) G (s + 1) (nI (shm (rV T N) a s)) f1 (by omega) (by omega) (by omega) (fun _ => ⟨rfl, b2⟩) (sj_CX h s1)
          rw [drC_s] at e2
          refine ⟨f2, ?_, sj_t s1 s2⟩
          rw [drC_s, hL1]
          simp (disch := omega) only [wbr_T, wbr_F, wgd_T, wbq, wbv, wnm, zI_mk, zL_mk, uI_mk, uL_mk, kI_mk, kL_mk, nI_add, nI_mul, nI_sub, nI_div, nI_clamp, wgB, wgP, nI_leI, nI_ltI, nI_eq, nI_eqm, nI_eqm5, wdT, wdF, wd1, wd0, li_0, li_1, li_2, li_3, li_4, li_5, li_6, li_7, li_8, li_9, li_10, li_11, li_12, li_13, li_14, li_15, li_16, li_17, li_18, li_19, li_20, li_21, li_22, li_23, li_24, li_25, li_26, li_27, li_28, li_29, li_30, li_31, li_32, li_33, li_38, li_40, li_41, li_48, li_57, li_58, li_59, li_60, li_61, li_62, li_63, li_68, li_69, li_70, li_71, li_72, li_73, li_74, li_75, li_83, li_87, li_88, li_89, li_99, li_100, li_104, li_105, li_106, li_107, li_108, li_109, li_110, li_111, li_112, li_113, li_114, li_115, li_116, li_117, li_118, li_119, li_120, li_121, li_124, li_127, li_128, li_200, li_4095, li_4096, li_9999, fn_Sh_dearest_L8, ez, et, e1, b1, gT_mk_24, u0, u1, u2, u3, u4, u5, u6, u7, u8, u9, u10, u11, u12, u13, u14, u15, u16, u17, u18, u19, u20, u21, u22, u23, u24, u25, u26, u27, u28, u29, u30]
          exact e2
        · rw [if_neg (show ¬ (c + 1 = 0 ∨ shm (rV T N) a s < shm (rV T N) a c) from fun q => q.elim (fun q => absurd q (Nat.succ_ne_zero c)) c2)]
          obtain ⟨f2, e2, s2⟩ := c_dearl d (s + 1) G (c + 1) (nI (shm (rV T N) a c)) f1 (by omega) (by omega) (by omega) (fun _ => ⟨rfl, hL2⟩) (sj_CX h s1)
          rw [drC_s] at e2
          refine ⟨f2, ?_, sj_t s1 s2⟩
          rw [drC_s, hL1]
          simp (disch := omega) only [wbr_T, wbr_F, wgd_T, wbq, wbv, wnm, zI_mk, zL_mk, uI_mk, uL_mk, kI_mk, kL_mk, nI_add, nI_mul, nI_sub, nI_div, nI_clamp, wgB, wgP, nI_leI, nI_ltI, nI_eq, nI_eqm, nI_eqm5, wdT, wdF, wd1, wd0, li_0, li_1, li_2, li_3, li_4, li_5, li_6, li_7, li_8, li_9, li_10, li_11, li_12, li_13, li_14, li_15, li_16, li_17, li_18, li_19, li_20, li_21, li_22, li_23, li_24, li_25, li_26, li_27, li_28, li_29, li_30, li_31, li_32, li_33, li_38, li_40, li_41, li_48, li_57, li_58, li_59, li_60, li_61, li_62, li_63, li_68, li_69, li_70, li_71, li_72, li_73, li_74, li_75, li_83, li_87, li_88, li_89, li_99, li_100, li_104, li_105, li_106, li_107, li_108, li_109, li_110, li_111, li_112, li_113, li_114, li_115, li_116, li_117, li_118, li_119, li_120, li_121, li_124, li_127, li_128, li_200, li_4095, li_4096, li_9999, fn_Sh_dearest_L8, ez, et, e1, b1, gT_mk_24, u0, u1, u2, u3, u4, u5, u6, u7, u8, u9, u10, u11, u12, u13, u14, u15, u16, u17, u18, u19, u20, u21, u22, u23, u24, u25, u26, u27, u28, u29, u30]
          exact e2
theorem c_dear (h : CX T N ru D 41 a f R) : ∃ f', fn_Sh_dearest 24 41 (mk f l R) = some (drC (drP (rV T N) a (a 68) 0 0), mk f' l R) ∧ sj f f' := by
  have z6 := h.2.1.1.1
  have e := c_dearl (l := l) (a 68) 0 FU 0 (nI 0) f (Nat.zero_add _) (by show _ < 5000; omega) (by decide) (fun q => absurd rfl q) h
  rw [drC_0] at e
  exact e
theorem c_least (h : CX T N ru D 41 a f R) : ∃ f', fn_Sh_leastWithout 24 41 (mk f l R) = some (drL (rV T N) a (drP (rV T N) a (a 68) 0 0), mk f' l R) ∧ sj f f' := by
  have z6 := h.2.1.1.1
  obtain ⟨f1, e1, s1⟩ := c_dear (l := l) h
  have hle := drP_le (V := rV T N) (a := a) (a 68) 0 0 (by omega) (by decide)
  generalize drP (rV T N) a (a 68) 0 0 = r at e1 hle ⊢
  by_cases c0 : r = 0
  · subst c0
    rw [drC_0] at e1
    rw [drL_0]
    refine ⟨f1, ?_, s1⟩
    simp (disch := omega) only [wbr_T, wbr_F, wgd_T, wbq, wbv, wnm, zI_mk, zL_mk, uI_mk, uL_mk, kI_mk, kL_mk, nI_add, nI_mul, nI_sub, nI_div, nI_clamp, wgB, wgP, nI_leI, nI_ltI, nI_eq, nI_eqm, nI_eqm5, wdT, wdF, wd1, wd0, li_0, li_1, li_2, li_3, li_4, li_5, li_6, li_7, li_8, li_9, li_10, li_11, li_12, li_13, li_14, li_15, li_16, li_17, li_18, li_19, li_20, li_21, li_22, li_23, li_24, li_25, li_26, li_27, li_28, li_29, li_30, li_31, li_32, li_33, li_38, li_40, li_41, li_48, li_57, li_58, li_59, li_60, li_61, li_62, li_63, li_68, li_69, li_70, li_71, li_72, li_73, li_74, li_75, li_83, li_87, li_88, li_89, li_99, li_100, li_104, li_105, li_106, li_107, li_108, li_109, li_110, li_111, li_112, li_113, li_114, li_115, li_116, li_117, li_118, li_119, li_120, li_121, li_124, li_127, li_128, li_200, li_4095, li_4096, li_9999, fn_Sh_leastWithout, e1, gT_mk_24]
  · obtain ⟨c, rfl⟩ : ∃ q, r = q + 1 := ⟨r - 1, by omega⟩
    rw [drC_s] at e1
    rw [drL_s]
    obtain ⟨f2, e2, s2, b1, b2⟩ := shm_c (l := l) (sj_CX h s1) c
    refine ⟨f2, ?_, sj_t s1 s2⟩
    simp (disch := omega) only [wbr_T, wbr_F, wgd_T, wbq, wbv, wnm, zI_mk, zL_mk, uI_mk, uL_mk, kI_mk, kL_mk, nI_add, nI_mul, nI_sub, nI_div, nI_clamp, wgB, wgP, nI_leI, nI_ltI, nI_eq, nI_eqm, nI_eqm5, wdT, wdF, wd1, wd0, li_0, li_1, li_2, li_3, li_4, li_5, li_6, li_7, li_8, li_9, li_10, li_11, li_12, li_13, li_14, li_15, li_16, li_17, li_18, li_19, li_20, li_21, li_22, li_23, li_24, li_25, li_26, li_27, li_28, li_29, li_30, li_31, li_32, li_33, li_38, li_40, li_41, li_48, li_57, li_58, li_59, li_60, li_61, li_62, li_63, li_68, li_69, li_70, li_71, li_72, li_73, li_74, li_75, li_83, li_87, li_88, li_89, li_99, li_100, li_104, li_105, li_106, li_107, li_108, li_109, li_110, li_111, li_112, li_113, li_114, li_115, li_116, li_117, li_118, li_119, li_120, li_121, li_124, li_127, li_128, li_200, li_4095, li_4096, li_9999, fn_Sh_leastWithout, e1, e2, b1, gT_mk_24]
theorem m_dearl (hw : w < 2) : ∀ (d s G c : Nat) (f : Nat → Nat → Int32), s + d = a 68 → d < G → c ≤ 6 → (¬ c = 0 → shm (rV T N) a (c - 1) ≤ 100) → MX T N ru D a f →
    ∃ f', lp (σ := Nat × Int32 × Int32 × Int32 × Int32 × zS) (fun k s => fn_Mo_dear_L9 s.1 s.2.1 s.2.2.1 s.2.2.2.1 s.2.2.2.2.1 s.2.2.2.2.2 (fun (a0 : Nat) (a1 : Int32) (a2 : Int32) (a3 : Int32) (a4 : Int32) (S : zS) => k (a0, a1, a2, a3, a4, S))) G (137, nI w, drC c, drL (rV T N) a c, nI s, mk f l R) = some (if w = 0 then drC (drP (rV T N) a d s c) else drL (rV T N) a (drP (rV T N) a d s c), mk f' l R) ∧ fm f f'
  | 0, s, G, c, f, hs, hG, hc, hL, h => by
    obtain ⟨G, rfl⟩ : ∃ H, G = H + 1 := ⟨G - 1, by omega⟩
    have z6 := (Gd_all h.2.2.1).1
    have hA := h.2.1
    refine ⟨f, ?_, fm_r⟩
    rw [lpS]
    show fn_Mo_dear_L9 137 (nI w) (drC c) (drL (rV T N) a c) (nI s) (mk f l R) _ = some (if w = 0 then drC c else drL (rV T N) a c, _)
    rcases (by omega : w = 0 ∨ w = 1) with rfl | rfl
    · rw [if_pos rfl]
      simp (disch := omega) only [wbr_T, wbr_F, wgd_T, wbq, wbv, wnm, zI_mk, zL_mk, uI_mk, uL_mk, kI_mk, kL_mk, nI_add, nI_mul, nI_sub, nI_div, nI_clamp, wgB, wgP, nI_leI, nI_ltI, nI_eq, nI_eqm, nI_eqm5, wdT, wdF, wd1, wd0, li_0, li_1, li_2, li_3, li_4, li_5, li_6, li_7, li_8, li_9, li_10, li_11, li_12, li_13, li_14, li_15, li_16, li_17, li_18, li_19, li_20, li_21, li_22, li_23, li_24, li_25, li_26, li_27, li_28, li_29, li_30, li_31, li_32, li_33, li_38, li_40, li_41, li_48, li_57, li_58, li_59, li_60, li_61, li_62, li_63, li_68, li_69, li_70, li_71, li_72, li_73, li_74, li_75, li_83, li_87, li_88, li_89, li_99, li_100, li_104, li_105, li_106, li_107, li_108, li_109, li_110, li_111, li_112, li_113, li_114, li_115, li_116, li_117, li_118, li_119, li_120, li_121, li_124, li_127, li_128, li_200, li_4095, li_4096, li_9999, gT_mk_137, zT_mk_137, zR_mk_137_0, zR_mk_137_1, zR_mk_137_2, zR_mk_137_4, zR_mk_137_6, zR_mk_137_7, zR_mk_137_9, zR_mk_137_16, zR_mk_137_17, zR_mk_137_18, zR_mk_137_19, zR_mk_137_20, zR_mk_137_22, zR_mk_137_24, zR_mk_137_25, zR_mk_137_26, zR_mk_137_28, zR_mk_137_29, zR_mk_137_30, zR_mk_137_31, gT_mk_138, zT_mk_138, gT_mk_139, zT_mk_139, gT_mk_140, zT_mk_140, gT_mk_141, zT_mk_141, gT_mk_142, zT_mk_142, gT_mk_143, zT_mk_143, gT_mk_144, zT_mk_144, gT_mk_145, zT_mk_145, gT_mk_146, zT_mk_146, gT_mk_147, zT_mk_147, gT_mk_148, zT_mk_148, gT_mk_149, zT_mk_149, gT_mk_150, zT_mk_150, gT_mk_151, zT_mk_151, gT_mk_152, zT_mk_152, gT_mk_153, zT_mk_153, gT_mk_154, zT_mk_154, gT_mk_155, zT_mk_155, gT_mk_156, zT_mk_156, gT_mk_157, zT_mk_157, fn_Mo_dear_L9, hA]
    · rw [if_neg (by decide)]
      simp (disch := omega) only [wbr_T, wbr_F, wgd_T, wbq, wbv, wnm, zI_mk, zL_mk, uI_mk, uL_mk, kI_mk, kL_mk, nI_add, nI_mul, nI_sub, nI_div, nI_clamp, wgB, wgP, nI_leI, nI_ltI, nI_eq, nI_eqm, nI_eqm5, wdT, wdF, wd1, wd0, li_0, li_1, li_2, li_3, li_4, li_5, li_6, li_7, li_8, li_9, li_10, li_11, li_12, li_13, li_14, li_15, li_16, li_17, li_18, li_19, li_20, li_21, li_22, li_23, li_24, li_25, li_26, li_27, li_28, li_29, li_30, li_31, li_32, li_33, li_38, li_40, li_41, li_48, li_57, li_58, li_59, li_60, li_61, li_62, li_63, li_68, li_69, li_70, li_71, li_72, li_73, li_74, li_75, li_83, li_87, li_88, li_89, li_99, li_100, li_104, li_105, li_106, li_107, li_108, li_109, li_110, li_111, li_112, li_113, li_114, li_115, li_116, li_117, li_118, li_119, li_120, li_121, li_124, li_127, li_128, li_200, li_4095, li_4096, li_9999, gT_mk_137, zT_mk_137, zR_mk_137_0, zR_mk_137_1, zR_mk_137_2, zR_mk_137_4, zR_mk_137_6, zR_mk_137_7, zR_mk_137_9, zR_mk_137_16, zR_mk_137_17, zR_mk_137_18, zR_mk_137_19, zR_mk_137_20, zR_mk_137_22, zR_mk_137_24, zR_mk_137_25, zR_mk_137_26, zR_mk_137_28, zR_mk_137_29, zR_mk_137_30, zR_mk_137_31, gT_mk_138, zT_mk_138, gT_mk_139, zT_mk_139, gT_mk_140, zT_mk_140, gT_mk_141, zT_mk_141, gT_mk_142, zT_mk_142, gT_mk_143, zT_mk_143, gT_mk_144, zT_mk_144, gT_mk_145, zT_mk_145, gT_mk_146, zT_mk_146, gT_mk_147, zT_mk_147, gT_mk_148, zT_mk_148, gT_mk_149, zT_mk_149, gT_mk_150, zT_mk_150, gT_mk_151, zT_mk_151, gT_mk_152, zT_mk_152, gT_mk_153, zT_mk_153, gT_mk_154, zT_mk_154, gT_mk_155, zT_mk_155, gT_mk_156, zT_mk_156, gT_mk_157, zT_mk_157, fn_Mo_dear_L9, hA]
  | d + 1, s, G, c, f, hs, hG, hc, hL, h => by
    obtain ⟨G, rfl⟩ : ∃ H, G = H + 1 := ⟨G - 1, by omega⟩
    have z6 := (Gd_all h.2.2.1).1
    have hA := h.2.1
    have hi : s < a 68 := by omega
    have g9 := (Gd_gs h.2.2.1 (show s < 6 by omega)).2.2.2.1
    have mt := m_thread (f := f) (l := l) (R := R) (show s < 6 by omega) (hA _) g9
    rw [lpS]
    show ∃ f', fn_Mo_dear_L9 137 (nI w) (drC c) (drL (rV T N) a c) (nI s) (mk f l R) _ = some (if w = 0 then drC (if 99 ≤ a (10 * s + 3) then drP (rV T N) a d (s + 1) c else if c = 0 ∨ shm (rV T N) a s < shm (rV T N) a (c - 1) then drP (rV T N) a d (s + 1) (s + 1) else drP (rV T N) a d (s + 1) c) else drL (rV T N) a (if 99 ≤ a (10 * s + 3) then drP (rV T N) a d (s + 1) c else if c = 0 ∨ shm (rV T N) a s < shm (rV T N) a (c - 1) then drP (rV T N) a d (s + 1) (s + 1) else drP (rV T N) a d (s + 1) c), _) ∧ _
    by_cases c1 : 99 ≤ a (10 * s + 3)
    · rw [if_pos c1]
      rw [if_pos c1] at mt
      obtain ⟨f2, e2, s2⟩ := m_dearl hw d (s + 1) G c f (by omega) (by omega) hc hL h
      refine ⟨f2, ?_, s2⟩
      simp (disch := omega) only [wbr_T, wbr_F, wgd_T, wbq, wbv, wnm, zI_mk, zL_mk, uI_mk, uL_mk, kI_mk, kL_mk, nI_add, nI_mul, nI_sub, nI_div, nI_clamp, wgB, wgP, nI_leI, nI_ltI, nI_eq, nI_eqm, nI_eqm5, wdT, wdF, wd1, wd0, li_0, li_1, li_2, li_3, li_4, li_5, li_6, li_7, li_8, li_9, li_10, li_11, li_12, li_13, li_14, li_15, li_16, li_17, li_18, li_19, li_20, li_21, li_22, li_23, li_24, li_25, li_26, li_27, li_28, li_29, li_30, li_31, li_32, li_33, li_38, li_40, li_41, li_48, li_57, li_58, li_59, li_60, li_61, li_62, li_63, li_68, li_69, li_70, li_71, li_72, li_73, li_74, li_75, li_83, li_87, li_88, li_89, li_99, li_100, li_104, li_105, li_106, li_107, li_108, li_109, li_110, li_111, li_112, li_113, li_114, li_115, li_116, li_117, li_118, li_119, li_120, li_121, li_124, li_127, li_128, li_200, li_4095, li_4096, li_9999, gT_mk_137, zT_mk_137, zR_mk_137_0, zR_mk_137_1, zR_mk_137_2, zR_mk_137_4, zR_mk_137_6, zR_mk_137_7, zR_mk_137_9, zR_mk_137_16, zR_mk_137_17, zR_mk_137_18, zR_mk_137_19, zR_mk_137_20, zR_mk_137_22, zR_mk_137_24, zR_mk_137_25, zR_mk_137_26, zR_mk_137_28, zR_mk_137_29, zR_mk_137_30, zR_mk_137_31, gT_mk_138, zT_mk_138, gT_mk_139, zT_mk_139, gT_mk_140, zT_mk_140, gT_mk_141, zT_mk_141, gT_mk_142, zT_mk_142, gT_mk_143, zT_mk_143, gT_mk_144, zT_mk_144, gT_mk_145, zT_mk_145, gT_mk_146, zT_mk_146, gT_mk_147, zT_mk_147, gT_mk_148, zT_mk_148, gT_mk_149, zT_mk_149, gT_mk_150, zT_mk_150, gT_mk_151, zT_mk_151, gT_mk_152, zT_mk_152, gT_mk_153, zT_mk_153, gT_mk_154, zT_mk_154, gT_mk_155, zT_mk_155, gT_mk_156, zT_mk_156, gT_mk_157, zT_mk_157, fn_Mo_dear_L9, fn_Mo_dear_L40, hA, mt]
      exact e2
    · rw [if_neg c1]
      rw [if_neg c1] at mt
      obtain ⟨f1, e1, s1, b2⟩ := shm_m (l := l) (R := R) h s
      have h1 := fm_MX h s1
      have mt1 := m_thread (f := f1) (l := l) (R := R) (show s < 6 by omega) (h1.2.1 _) g9
      rw [if_neg c1] at mt1
      by_cases c0 : c = 0
      · rw [if_pos (Or.inl c0)]
        subst c0
        obtain ⟨f2, e2, s2⟩ := m_dearl hw d (s + 1) G (s + 1) f1 (by omega) (by omega) (by omega) (fun _ => b2) h1
        rw [drC_s, drL_s] at e2
        refine ⟨f2, ?_, fm_t s1 s2⟩
        rw [drC_0]
        simp (disch := omega) only [wbr_T, wbr_F, wgd_T, wbq, wbv, wnm, zI_mk, zL_mk, uI_mk, uL_mk, kI_mk, kL_mk, nI_add, nI_mul, nI_sub, nI_div, nI_clamp, wgB, wgP, nI_leI, nI_ltI, nI_eq, nI_eqm, nI_eqm5, wdT, wdF, wd1, wd0, li_0, li_1, li_2, li_3, li_4, li_5, li_6, li_7, li_8, li_9, li_10, li_11, li_12, li_13, li_14, li_15, li_16, li_17, li_18, li_19, li_20, li_21, li_22, li_23, li_24, li_25, li_26, li_27, li_28, li_29, li_30, li_31, li_32, li_33, li_38, li_40, li_41, li_48, li_57, li_58, li_59, li_60, li_61, li_62, li_63, li_68, li_69, li_70, li_71, li_72, li_73, li_74, li_75, li_83, li_87, li_88, li_89, li_99, li_100, li_104, li_105, li_106, li_107, li_108, li_109, li_110, li_111, li_112, li_113, li_114, li_115, li_116, li_117, li_118, li_119, li_120, li_121, li_124, li_127, li_128, li_200, li_4095, li_4096, li_9999, gT_mk_137, zT_mk_137, zR_mk_137_0, zR_mk_137_1, zR_mk_137_2, zR_mk_137_4, zR_mk_137_6, zR_mk_137_7, zR_mk_137_9, zR_mk_137_16, zR_mk_137_17, zR_mk_137_18, zR_mk_137_19, zR_mk_137_20, zR_mk_137_22, zR_mk_137_24, zR_mk_137_25, zR_mk_137_26, zR_mk_137_28, zR_mk_137_29, zR_mk_137_30, zR_mk_137_31, gT_mk_138, zT_mk_138, gT_mk_139, zT_mk_139, gT_mk_140, zT_mk_140, gT_mk_141, zT_mk_141, gT_mk_142, zT_mk_142, gT_mk_143, zT_mk_143, gT_mk_144, zT_mk_144, gT_mk_145, zT_mk_145, gT_mk_146, zT_mk_146, gT_mk_147, zT_mk_147, gT_mk_148, zT_mk_148, gT_mk_149, zT_mk_149, gT_mk_150, zT_mk_150, gT_mk_151, zT_mk_151, gT_mk_152, zT_mk_152, gT_mk_153, zT_mk_153, gT_mk_154, zT_mk_154, gT_mk_155, zT_mk_155, gT_mk_156, zT_mk_156, gT_mk_157, zT_mk_157, fn_Mo_dear_L9, fn_Mo_dear_L40, hA, mt, mt1, e1]
        exact e2
      · have hL2 := hL c0
        obtain ⟨c, rfl⟩ : ∃ q, c = q + 1 := ⟨c - 1, by omega⟩
        rw [Nat.add_sub_cancel] at hL2 ⊢
        by_cases c2 : shm (rV T N) a s < shm (rV T N) a c
        · rw [if_pos (Or.inr c2)]
          obtain ⟨f2, e2, s2⟩ := m_dearl hw d (s + 1) G (s + 1) f1 (by omega) (by omega) (by omega) (fun _ => b2) h1
          rw [drC_s, drL_s] at e2
          refine ⟨f2, ?_, fm_t s1 s2⟩
          rw [drC_s, drL_s]
          simp (disch := omega) only [wbr_T, wbr_F, wgd_T, wbq, wbv, wnm, zI_mk, zL_mk, uI_mk, uL_mk, kI_mk, kL_mk, nI_add, nI_mul, nI_sub, nI_div, nI_clamp, wgB, wgP, nI_leI, nI_ltI, nI_eq, nI_eqm, nI_eqm5, wdT, wdF, wd1, wd0, li_0, li_1, li_2, li_3, li_4, li_5, li_6, li_7, li_8, li_9, li_10, li_11, li_12, li_13, li_14, li_15, li_16, li_17, li_18, li_19, li_20, li_21, li_22, li_23, li_24, li_25, li_26, li_27, li_28, li_29, li_30, li_31, li_32, li_33, li_38, li_40, li_41, li_48, li_57, li_58, li_59, li_60, li_61, li_62, li_63, li_68, li_69, li_70, li_71, li_72, li_73, li_74, li_75, li_83, li_87, li_88, li_89, li_99, li_100, li_104, li_105, li_106, li_107, li_108, li_109, li_110, li_111, li_112, li_113, li_114, li_115, li_116, li_117, li_118, li_119, li_120, li_121, li_124, li_127, li_128, li_200, li_4095, li_4096, li_9999, gT_mk_137, zT_mk_137, zR_mk_137_0, zR_mk_137_1, zR_mk_137_2, zR_mk_137_4, zR_mk_137_6, zR_mk_137_7, zR_mk_137_9, zR_mk_137_16, zR_mk_137_17, zR_mk_137_18, zR_mk_137_19, zR_mk_137_20, zR_mk_137_22, zR_mk_137_24, zR_mk_137_25, zR_mk_137_26, zR_mk_137_28, zR_mk_137_29, zR_mk_137_30, zR_mk_137_31, gT_mk_138, zT_mk_138, gT_mk_139, zT_mk_139, gT_mk_140, zT_mk_140, gT_mk_141, zT_mk_141, gT_mk_142, zT_mk_142, gT_mk_143, zT_mk_143, gT_mk_144, zT_mk_144, gT_mk_145, zT_mk_145, gT_mk_146, zT_mk_146, gT_mk_147, zT_mk_147, gT_mk_148, zT_mk_148, gT_mk_149, zT_mk_149, gT_mk_150, zT_mk_150, gT_mk_151, zT_mk_151, gT_mk_152, zT_mk_152, gT_mk_153, zT_mk_153, gT_mk_154, zT_mk_154, gT_mk_155, zT_mk_155, gT_mk_156, zT_mk_156, gT_mk_157, zT_mk_157, fn_Mo_dear_L9, fn_Mo_dear_L40, hA, mt, mt1, e1]
          exact e2
        · rw [if_neg (show ¬ (c + 1 = 0 ∨ shm (rV T N) a s < shm (rV T N) a c) from fun q => q.elim (fun q => absurd q (Nat.succ_ne_zero c)) c2)]
          obtain ⟨f2, e2, s2⟩ := m_dearl hw d (s + 1) G (c + 1) f1 (by omega) (by omega) (by omega) (fun _ => hL2) h1
          rw [drC_s, drL_s] at e2
          refine ⟨f2, ?_, fm_t s1 s2⟩
          rw [drC_s, drL_s]
          simp (disch := omega) only [wbr_T, wbr_F, wgd_T, wbq, wbv, wnm, zI_mk, zL_mk, uI_mk, uL_mk, kI_mk, kL_mk, nI_add, nI_mul, nI_sub, nI_div, nI_clamp, wgB, wgP, nI_leI, nI_ltI, nI_eq, nI_eqm, nI_eqm5, wdT, wdF, wd1, wd0, li_0, li_1, li_2, li_3, li_4, li_5, li_6, li_7, li_8, li_9, li_10, li_11, li_12, li_13, li_14, li_15, li_16, li_17, li_18, li_19, li_20, li_21, li_22, li_23, li_24, li_25, li_26, li_27, li_28, li_29, li_30, li_31, li_32, li_33, li_38, li_40, li_41, li_48, li_57, li_58, li_59, li_60, li_61, li_62, li_63, li_68, li_69, li_70, li_71, li_72, li_73, li_74, li_75, li_83, li_87, li_88, li_89, li_99, li_100, li_104, li_105, li_106, li_107, li_108, li_109, li_110, li_111, li_112, li_113, li_114, li_115, li_116, li_117, li_118, li_119, li_120, li_121, li_124, li_127, li_128, li_200, li_4095, li_4096, li_9999, gT_mk_137, zT_mk_137, zR_mk_137_0, zR_mk_137_1, zR_mk_137_2, zR_mk_137_4, zR_mk_137_6, zR_mk_137_7, zR_mk_137_9, zR_mk_137_16, zR_mk_137_17, zR_mk_137_18, zR_mk_137_19, zR_mk_137_20, zR_mk_137_22, zR_mk_137_24, zR_mk_137_25, zR_mk_137_26, zR_mk_137_28, zR_mk_137_29, zR_mk_137_30, zR_mk_137_31, gT_mk_138, zT_mk_138, gT_mk_139, zT_mk_139, gT_mk_140, zT_mk_140, gT_mk_141, zT_mk_141, gT_mk_142, zT_mk_142, gT_mk_143, zT_mk_143, gT_mk_144, zT_mk_144, gT_mk_145, zT_mk_145, gT_mk_146, zT_mk_146, gT_mk_147, zT_mk_147, gT_mk_148, zT_mk_148, gT_mk_149, zT_mk_149, gT_mk_150, zT_mk_150, gT_mk_151, zT_mk_151, gT_mk_152, zT_mk_152, gT_mk_153, zT_mk_153, gT_mk_154, zT_mk_154, gT_mk_155, zT_mk_155, gT_mk_156, zT_mk_156, gT_mk_157, zT_mk_157, fn_Mo_dear_L9, fn_Mo_dear_L40, hA, mt, mt1, e1]
          exact e2
theorem m_dear (hw : w < 2) (h : MX T N ru D a f) : ∃ f', fn_Mo_dear 137 (nI w) (mk f l R) = some (if w = 0 then drC (drP (rV T N) a (a 68) 0 0) else drL (rV T N) a (drP (rV T N) a (a 68) 0 0), mk f' l R) ∧ fm f f' := by
  have z6 := (Gd_all h.2.2.1).1
  have e := m_dearl (l := l) (R := R) hw (a 68) 0 FU 0 f (Nat.zero_add _) (by show _ < 5000; omega) (by decide) (fun q => absurd rfl q) h
  rw [drC_0, drL_0] at e
  exact e
end
theorem op_shared (x : Int32) : OpI (fn_Ls_shared 16 x) (fn_Mo_shared 137 x) := by
  intro f l R h
  obtain ⟨ru, T, N, ⟨a, hc, hA, hG, hR⟩, hE⟩ := id h
  obtain ⟨c0, c1, c2, c3, c4, c5, c6, c7, c8⟩ := hbC
  obtain ⟨u0, u1, u2, u3, u4, u5, u6, u7, u8, u9, u10, u11, u12, u13, u14, u15, u16, u17, u18, u19, u20, u21, u22, u23, u24, u25, u26, u27, u28, u29, u30⟩ := hbB
  obtain ⟨z6, z7, z8, z9⟩ := id hc.1
  have gA := Gd_all hG
  have ez := cC_z hc
  have hX := JC_CX (Re_JC hE) (Re_JG hE) hc hG (show 9999 < 2 ^ 20 by decide)
  obtain ⟨f1, e1, s1, r1, b1, b2, b3⟩ := c_share (l := l) hX (-nI 1)
  have hM := MX_fr (JC_MX (Re_JC hE) (Re_JG hE) hA hG (show 9999 < 2 ^ 20 by decide)) (f' := f1) (fun p j hp => s1 p j (by omega))
  obtain ⟨g1, e2, s2, b4, b5, b6⟩ := m_share (l := l) (R := R) hM (-nI 1)
  have hI := Iv_ask3 h (fun p j q => s1 p j (by omega)) s2 hE.2.2.2.2.2.2
  have pos := shR_pos (V := rV T N) (a := a) (wo := -nI 1)
  by_cases hx0 : x = nI 0
  · subst hx0
    refine ⟨nI (shR (rV T N) a (-nI 1)).1 - nI 1, f1, l, R, g1, l, ?_, ?_, hI⟩
    · simp (disch := omega) only [wbr_T, wbr_F, wgd_T, wbq, wbv, wnm, zI_mk, zL_mk, uI_mk, uL_mk, kI_mk, kL_mk, nI_add, nI_mul, nI_sub, nI_div, nI_clamp, wgB, wgP, nI_leI, nI_ltI, nI_eq, nI_eqm, nI_eqm5, wdT, wdF, wd1, wd0, li_0, li_1, li_2, li_3, li_4, li_5, li_6, li_7, li_8, li_9, li_10, li_11, li_12, li_13, li_14, li_15, li_16, li_17, li_18, li_19, li_20, li_21, li_22, li_23, li_24, li_25, li_26, li_27, li_28, li_29, li_30, li_31, li_32, li_33, li_38, li_40, li_41, li_48, li_57, li_58, li_59, li_60, li_61, li_62, li_63, li_68, li_69, li_70, li_71, li_72, li_73, li_74, li_75, li_83, li_87, li_88, li_89, li_99, li_100, li_104, li_105, li_106, li_107, li_108, li_109, li_110, li_111, li_112, li_113, li_114, li_115, li_116, li_117, li_118, li_119, li_120, li_121, li_124, li_127, li_128, li_200, li_4095, li_4096, li_9999, c0, c1, c2, c3, c4, c5, c6, c7, c8, u0, u1, u2, u3, u4, u5, u6, u7, u8, u9, u10, u11, u12, u13, u14, u15, u16, u17, u18, u19, u20, u21, u22, u23, u24, u25, u26, u27, u28, u29, u30, fn_Ls_shared, fn_Ls_shared_L20, e1, b2, gT_mk_24]
    · simp (disch := omega) only [wbr_T, wbr_F, wgd_T, wbq, wbv, wnm, zI_mk, zL_mk, uI_mk, uL_mk, kI_mk, kL_mk, nI_add, nI_mul, nI_sub, nI_div, nI_clamp, wgB, wgP, nI_leI, nI_ltI, nI_eq, nI_eqm, nI_eqm5, wdT, wdF, wd1, wd0, li_0, li_1, li_2, li_3, li_4, li_5, li_6, li_7, li_8, li_9, li_10, li_11, li_12, li_13, li_14, li_15, li_16, li_17, li_18, li_19, li_20, li_21, li_22, li_23, li_24, li_25, li_26, li_27, li_28, li_29, li_30, li_31, li_32, li_33, li_38, li_40, li_41, li_48, li_57, li_58, li_59, li_60, li_61, li_62, li_63, li_68, li_69, li_70, li_71, li_72, li_73, li_74, li_75, li_83, li_87, li_88, li_89, li_99, li_100, li_104, li_105, li_106, li_107, li_108, li_109, li_110, li_111, li_112, li_113, li_114, li_115, li_116, li_117, li_118, li_119, li_120, li_121, li_124, li_127, li_128, li_200, li_4095, li_4096, li_9999, gT_mk_137, zT_mk_137, zR_mk_137_0, zR_mk_137_1, zR_mk_137_2, zR_mk_137_4, zR_mk_137_6, zR_mk_137_7, zR_mk_137_9, zR_mk_137_16, zR_mk_137_17, zR_mk_137_18, zR_mk_137_19, zR_mk_137_20, zR_mk_137_22, zR_mk_137_24, zR_mk_137_25, zR_mk_137_26, zR_mk_137_28, zR_mk_137_29, zR_mk_137_30, zR_mk_137_31, gT_mk_138, zT_mk_138, gT_mk_139, zT_mk_139, gT_mk_140, zT_mk_140, gT_mk_141, zT_mk_141, gT_mk_142, zT_mk_142, gT_mk_143, zT_mk_143, gT_mk_144, zT_mk_144, gT_mk_145, zT_mk_145, gT_mk_146, zT_mk_146, gT_mk_147, zT_mk_147, gT_mk_148, zT_mk_148, gT_mk_149, zT_mk_149, gT_mk_150, zT_mk_150, gT_mk_151, zT_mk_151, gT_mk_152, zT_mk_152, gT_mk_153, zT_mk_153, gT_mk_154, zT_mk_154, gT_mk_155, zT_mk_155, gT_mk_156, zT_mk_156, gT_mk_157, zT_mk_157, fn_Mo_shared, fn_Mo_shared_L17, e2]
  · rcases ix_less x 10 (n := a 68) (by omega) with ⟨i, hi, rfl⟩ | ⟨hx, hxn⟩
    · have sb : nI (10 + i) - nI 10 = nI i := by rw [nI_sub (by omega), Nat.add_sub_cancel_left]
      have e3 := c_has_in (l := l) (R := R) zb41 ez z6 hi
      have gv := c_given (l := l) (R := R) r1 z6 hi (b3 pos i hi) (shR_le i)
      have m3 := m_saint_in (l := l) (R := R) (hM.2.1 68) z6 hi
      have mb := b6 pos i hi
      refine ⟨cdM ((shR (rV T N) a (-nI 1)).2 i), f1, l, R, g1, l, ?_, ?_, hI⟩
      · simp (disch := omega) only [wbr_T, wbr_F, wgd_T, wbq, wbv, wnm, zI_mk, zL_mk, uI_mk, uL_mk, kI_mk, kL_mk, nI_add, nI_mul, nI_sub, nI_div, nI_clamp, wgB, wgP, nI_leI, nI_ltI, nI_eq, nI_eqm, nI_eqm5, wdT, wdF, wd1, wd0, li_0, li_1, li_2, li_3, li_4, li_5, li_6, li_7, li_8, li_9, li_10, li_11, li_12, li_13, li_14, li_15, li_16, li_17, li_18, li_19, li_20, li_21, li_22, li_23, li_24, li_25, li_26, li_27, li_28, li_29, li_30, li_31, li_32, li_33, li_38, li_40, li_41, li_48, li_57, li_58, li_59, li_60, li_61, li_62, li_63, li_68, li_69, li_70, li_71, li_72, li_73, li_74, li_75, li_83, li_87, li_88, li_89, li_99, li_100, li_104, li_105, li_106, li_107, li_108, li_109, li_110, li_111, li_112, li_113, li_114, li_115, li_116, li_117, li_118, li_119, li_120, li_121, li_124, li_127, li_128, li_200, li_4095, li_4096, li_9999, c0, c1, c2, c3, c4, c5, c6, c7, c8, u0, u1, u2, u3, u4, u5, u6, u7, u8, u9, u10, u11, u12, u13, u14, u15, u16, u17, u18, u19, u20, u21, u22, u23, u24, u25, u26, u27, u28, u29, u30, fn_Ls_shared, fn_Ls_shared_L20, sb, Nat.add_sub_cancel_left, e3, e1, gv, gT_mk_24]
      · simp (disch := omega) only [wbr_T, wbr_F, wgd_T, wbq, wbv, wnm, zI_mk, zL_mk, uI_mk, uL_mk, kI_mk, kL_mk, nI_add, nI_mul, nI_sub, nI_div, nI_clamp, wgB, wgP, nI_leI, nI_ltI, nI_eq, nI_eqm, nI_eqm5, wdT, wdF, wd1, wd0, li_0, li_1, li_2, li_3, li_4, li_5, li_6, li_7, li_8, li_9, li_10, li_11, li_12, li_13, li_14, li_15, li_16, li_17, li_18, li_19, li_20, li_21, li_22, li_23, li_24, li_25, li_26, li_27, li_28, li_29, li_30, li_31, li_32, li_33, li_38, li_40, li_41, li_48, li_57, li_58, li_59, li_60, li_61, li_62, li_63, li_68, li_69, li_70, li_71, li_72, li_73, li_74, li_75, li_83, li_87, li_88, li_89, li_99, li_100, li_104, li_105, li_106, li_107, li_108, li_109, li_110, li_111, li_112, li_113, li_114, li_115, li_116, li_117, li_118, li_119, li_120, li_121, li_124, li_127, li_128, li_200, li_4095, li_4096, li_9999, gT_mk_137, zT_mk_137, zR_mk_137_0, zR_mk_137_1, zR_mk_137_2, zR_mk_137_4, zR_mk_137_6, zR_mk_137_7, zR_mk_137_9, zR_mk_137_16, zR_mk_137_17, zR_mk_137_18, zR_mk_137_19, zR_mk_137_20, zR_mk_137_22, zR_mk_137_24, zR_mk_137_25, zR_mk_137_26, zR_mk_137_28, zR_mk_137_29, zR_mk_137_30, zR_mk_137_31, gT_mk_138, zT_mk_138, gT_mk_139, zT_mk_139, gT_mk_140, zT_mk_140, gT_mk_141, zT_mk_141, gT_mk_142, zT_mk_142, gT_mk_143, zT_mk_143, gT_mk_144, zT_mk_144, gT_mk_145, zT_mk_145, gT_mk_146, zT_mk_146, gT_mk_147, zT_mk_147, gT_mk_148, zT_mk_148, gT_mk_149, zT_mk_149, gT_mk_150, zT_mk_150, gT_mk_151, zT_mk_151, gT_mk_152, zT_mk_152, gT_mk_153, zT_mk_153, gT_mk_154, zT_mk_154, gT_mk_155, zT_mk_155, gT_mk_156, zT_mk_156, gT_mk_157, zT_mk_157, fn_Mo_shared, fn_Mo_shared_L17, sb, Nat.add_sub_cancel_left, m3, e2, mb]
    · have e3 := c_has_out (l := l) (R := R) zb41 ez z6 hx
      have m3 := m_saint_out (l := l) (R := R) (hA 68) z6 hx
      refine op_same (r := -nI 1) h ?_ ?_
      · simp (disch := omega) only [wbr_T, wbr_F, wgd_T, wbq, wbv, wnm, zI_mk, zL_mk, uI_mk, uL_mk, kI_mk, kL_mk, nI_add, nI_mul, nI_sub, nI_div, nI_clamp, wgB, wgP, nI_leI, nI_ltI, nI_eq, nI_eqm, nI_eqm5, wdT, wdF, wd1, wd0, li_0, li_1, li_2, li_3, li_4, li_5, li_6, li_7, li_8, li_9, li_10, li_11, li_12, li_13, li_14, li_15, li_16, li_17, li_18, li_19, li_20, li_21, li_22, li_23, li_24, li_25, li_26, li_27, li_28, li_29, li_30, li_31, li_32, li_33, li_38, li_40, li_41, li_48, li_57, li_58, li_59, li_60, li_61, li_62, li_63, li_68, li_69, li_70, li_71, li_72, li_73, li_74, li_75, li_83, li_87, li_88, li_89, li_99, li_100, li_104, li_105, li_106, li_107, li_108, li_109, li_110, li_111, li_112, li_113, li_114, li_115, li_116, li_117, li_118, li_119, li_120, li_121, li_124, li_127, li_128, li_200, li_4095, li_4096, li_9999, c0, c1, c2, c3, c4, c5, c6, c7, c8, u0, u1, u2, u3, u4, u5, u6, u7, u8, u9, u10, u11, u12, u13, u14, u15, u16, u17, u18, u19, u20, u21, u22, u23, u24, u25, u26, u27, u28, u29, u30, fn_Ls_shared, hx0, e3]
      · simp (disch := omega) only [wbr_T, wbr_F, wgd_T, wbq, wbv, wnm, zI_mk, zL_mk, uI_mk, uL_mk, kI_mk, kL_mk, nI_add, nI_mul, nI_sub, nI_div, nI_clamp, wgB, wgP, nI_leI, nI_ltI, nI_eq, nI_eqm, nI_eqm5, wdT, wdF, wd1, wd0, li_0, li_1, li_2, li_3, li_4, li_5, li_6, li_7, li_8, li_9, li_10, li_11, li_12, li_13, li_14, li_15, li_16, li_17, li_18, li_19, li_20, li_21, li_22, li_23, li_24, li_25, li_26, li_27, li_28, li_29, li_30, li_31, li_32, li_33, li_38, li_40, li_41, li_48, li_57, li_58, li_59, li_60, li_61, li_62, li_63, li_68, li_69, li_70, li_71, li_72, li_73, li_74, li_75, li_83, li_87, li_88, li_89, li_99, li_100, li_104, li_105, li_106, li_107, li_108, li_109, li_110, li_111, li_112, li_113, li_114, li_115, li_116, li_117, li_118, li_119, li_120, li_121, li_124, li_127, li_128, li_200, li_4095, li_4096, li_9999, gT_mk_137, zT_mk_137, zR_mk_137_0, zR_mk_137_1, zR_mk_137_2, zR_mk_137_4, zR_mk_137_6, zR_mk_137_7, zR_mk_137_9, zR_mk_137_16, zR_mk_137_17, zR_mk_137_18, zR_mk_137_19, zR_mk_137_20, zR_mk_137_22, zR_mk_137_24, zR_mk_137_25, zR_mk_137_26, zR_mk_137_28, zR_mk_137_29, zR_mk_137_30, zR_mk_137_31, gT_mk_138, zT_mk_138, gT_mk_139, zT_mk_139, gT_mk_140, zT_mk_140, gT_mk_141, zT_mk_141, gT_mk_142, zT_mk_142, gT_mk_143, zT_mk_143, gT_mk_144, zT_mk_144, gT_mk_145, zT_mk_145, gT_mk_146, zT_mk_146, gT_mk_147, zT_mk_147, gT_mk_148, zT_mk_148, gT_mk_149, zT_mk_149, gT_mk_150, zT_mk_150, gT_mk_151, zT_mk_151, gT_mk_152, zT_mk_152, gT_mk_153, zT_mk_153, gT_mk_154, zT_mk_154, gT_mk_155, zT_mk_155, gT_mk_156, zT_mk_156, gT_mk_157, zT_mk_157, fn_Mo_shared, hx0, m3]
