/-! CALLS: what is asked of days to come, step by step: CLEAN, ENDS -/
section
variable {f f' g : Nat → Nat → Int32} {l : Nat → Nat → Int64} {R : Nat → Nat} {a : Nat → Nat} {T : Nat → Nat → Nat} {N : Nat → Nat} {ru D i j k n w z : Nat} {V : zV}
theorem ask_go (h : Iv f l R) (hE : Re ru T N f l R) (hc : cC 41 a f R) (hA : ∀ k, f 138 k = nI (a k)) (hG : Gd a ru 9999) : ∃ f1, fn_Ho_copy 63 41 (mk f l R) = some (mk f1 l (ur R 63 (R 41))) ∧ CX T N ru 9999 63 a f1 (ur R 63 (R 41)) ∧ cd 63 f f1
    ∧ ∀ f2, cd 63 f1 f2 → cN 63 f2 → ∃ g1, fn_Mo_move 138 139 (mk f2 l (ur R 63 (R 41))) = some (mk g1 l (ur R 63 (R 41))) ∧ MX T N ru 9999 a g1 ∧ ∀ g2, sd g1 g2 → (∀ k, 121 ≤ k → g2 138 k = nI (a k)) → ∃ g3, fn_Mo_move 139 138 (mk g2 l (ur R 63 (R 41))) = some (mk g3 l (ur R 63 (R 41))) ∧ Iv g3 l (ur R 63 (R 41)) := by
  obtain ⟨f1, e1, d1, k1⟩ := c_copy (l := l) zb63 zb41 (by decide) hG hc hE.2.2.2.2.2.2
  have hX := JC_CX (b := 41) (Re_JC hE) (Re_JG hE) hc hG (by decide)
  have hX1 : CX T N ru 9999 63 a f1 (ur R 63 (R 41)) := ⟨CK_fr hX.1 (fun p j q => d1 p j (by omega)), k1, hG, by decide⟩
  have hM := JC_MX (Re_JC hE) (Re_JG hE) hA hG (show 9999 < 2 ^ 20 by decide)
  refine ⟨f1, e1, hX1, d1, fun f2 d2 hN => ?_⟩
  have d12 := cd_t d1 d2
  have hM2 := MX_fr hM (fun p j hp => d12 p j (by omega))
  obtain ⟨g1, e3, q1, q2⟩ := m_mv1 (f := f2) (l := l) (R := ur R 63 (R 41))
  refine ⟨g1, e3, MX_139 hM2 q2, fun g2 hs hk => ?_⟩
  obtain ⟨g3, e4, q3, q4⟩ := m_mv2 (f := g2) (l := l) (R := ur R 63 (R 41))
  exact ⟨g3, e4, Iv_ask h hA d12 hN q1 q2 hs hk q3 q4⟩
/-! CLEAN -/
def clP (V : zV) (a : Nat → Nat) (j : Nat) : Nat → Nat → Int32
  | 0, _ => -nI 5
  | d + 1, n => if daysS V a n (60 + 2 * j) = 0 then nI n else clP V a j d (n + 1)
theorem c_cleanl (hj : j < 4) : ∀ (d n G : Nat) (f : Nat → Nat → Int32), n + d = 61 → d < G → CX T N ru (9999 + n) 63 (daysS (rV T N) a n) f R →
    ∃ f', lp (σ := Nat × Int32 × Int32 × zS) (fun k s => fn_Ls_daysTillClean_L13 s.1 s.2.1 s.2.2.1 s.2.2.2 (fun (a0 : Nat) (a1 : Int32) (a2 : Int32) (S : zS) => k (a0, a1, a2, S))) G (16, nI j, nI n, mk f l R) = some (clP (rV T N) a j d n, mk f' l R) ∧ cd 63 f f' ∧ cN 63 f'
  | 0, n, G, f, hn, hG, h => by
    obtain ⟨G, rfl⟩ : ∃ H, G = H + 1 := ⟨G - 1, by omega⟩
    have e : n = 61 := by omega
    subst e
    exact ⟨f, rfl, cd_r, h.2.1.2.1⟩
  | d + 1, n, G, f, hn, hG, h => by
    obtain ⟨G, rfl⟩ : ∃ H, G = H + 1 := ⟨G - 1, by omega⟩
    obtain ⟨c0, c1, c2, c3, c4, c5, c6, c7, c8⟩ := hbC
    obtain ⟨v0, v1, v2, v3, v4, v5, v6, v7, v8, v9, v10, v11, v12, v13, v14, v15, v16, v17, v18, v19, v20, v21, v22, v23, v24, v25, v26, v27, v28, v29, v30⟩ := hbD
    rw [lpS]
    show ∃ f', fn_Ls_daysTillClean_L13 16 (nI j) (nI n) (mk f l R) _ = some (if daysS (rV T N) a n (60 + 2 * j) = 0 then nI n else clP (rV T N) a j d (n + 1), _) ∧ _
    have eo : f 65 j = nI (daysS (rV T N) a n (60 + 2 * j)) := cC_o h.2.1 hj
    have go := ((Gd_all h.2.2.1).2.2.1 j hj).1
    by_cases e : daysS (rV T N) a n (60 + 2 * j) = 0
    · rw [if_pos e]
      rw [e] at eo
      refine ⟨f, ?_, cd_r, h.2.1.2.1⟩
      simp (disch := omega) only [wbr_T, wbr_F, wgd_T, wbq, wbv, wnm, zI_mk, zL_mk, uI_mk, uL_mk, kI_mk, kL_mk, nI_add, nI_mul, nI_sub, nI_div, nI_clamp, wgB, wgP, nI_leI, nI_ltI, nI_eq, nI_eqm, nI_eqm5, wdT, wdF, wd1, wd0, li_0, li_1, li_2, li_3, li_4, li_5, li_6, li_7, li_8, li_9, li_10, li_11, li_12, li_13, li_14, li_15, li_16, li_17, li_18, li_19, li_20, li_21, li_22, li_23, li_24, li_25, li_26, li_27, li_28, li_29, li_30, li_31, li_32, li_33, li_38, li_40, li_41, li_48, li_57, li_58, li_59, li_60, li_61, li_62, li_63, li_68, li_69, li_70, li_71, li_72, li_73, li_74, li_75, li_83, li_87, li_88, li_89, li_99, li_100, li_104, li_105, li_106, li_107, li_108, li_109, li_110, li_111, li_112, li_113, li_114, li_115, li_116, li_117, li_118, li_119, li_120, li_121, li_124, li_127, li_128, li_200, li_4095, li_4096, li_9999, fn_Ls_daysTillClean_L13, eo, c0, c1, c2, c3, c4, c5, c6, c7, c8, v0, v1, v2, v3, v4, v5, v6, v7, v8, v9, v10, v11, v12, v13, v14, v15, v16, v17, v18, v19, v20, v21, v22, v23, v24, v25, v26, v27, v28, v29, v30]
    · rw [if_neg e]
      obtain ⟨f1, e1, d1, k1⟩ := c_day (l := l) zb63 h (by omega)
      obtain ⟨f2, e2, d2, k2⟩ := c_cleanl hj d (n + 1) G f1 (by omega) (by omega) k1
      refine ⟨f2, ?_, cd_t d1 d2, k2⟩
      simp (disch := omega) only [wbr_T, wbr_F, wgd_T, wbq, wbv, wnm, zI_mk, zL_mk, uI_mk, uL_mk, kI_mk, kL_mk, nI_add, nI_mul, nI_sub, nI_div, nI_clamp, wgB, wgP, nI_leI, nI_ltI, nI_eq, nI_eqm, nI_eqm5, wdT, wdF, wd1, wd0, li_0, li_1, li_2, li_3, li_4, li_5, li_6, li_7, li_8, li_9, li_10, li_11, li_12, li_13, li_14, li_15, li_16, li_17, li_18, li_19, li_20, li_21, li_22, li_23, li_24, li_25, li_26, li_27, li_28, li_29, li_30, li_31, li_32, li_33, li_38, li_40, li_41, li_48, li_57, li_58, li_59, li_60, li_61, li_62, li_63, li_68, li_69, li_70, li_71, li_72, li_73, li_74, li_75, li_83, li_87, li_88, li_89, li_99, li_100, li_104, li_105, li_106, li_107, li_108, li_109, li_110, li_111, li_112, li_113, li_114, li_115, li_116, li_117, li_118, li_119, li_120, li_121, li_124, li_127, li_128, li_200, li_4095, li_4096, li_9999, fn_Ls_daysTillClean_L13, eo, e1, c0, c1, c2, c3, c4, c5, c6, c7, c8, v0, v1, v2, v3, v4, v5, v6, v7, v8, v9, v10, v11, v12, v13, v14, v15, v16, v17, v18, v19, v20, v21, v22, v23, v24, v25, v26, v27, v28, v29, v30]
      exact e2
theorem m_cleanl (hj : j < 4) : ∀ (d n G : Nat) (f : Nat → Nat → Int32), n + d = 61 → d < G → MX T N ru (9999 + n) (daysS (rV T N) a n) f →
    ∃ f' m, lp (σ := Nat × Int32 × Int32 × Int32 × zS) (fun k s => fn_Mo_clean_L16 s.1 s.2.1 s.2.2.1 s.2.2.2.1 s.2.2.2.2 (fun (a0 : Nat) (a1 : Int32) (a2 : Int32) (a3 : Int32) (S : zS) => k (a0, a1, a2, a3, S))) G (137, nI j, -nI 5, nI n, mk f l R) = (bv (fn_Mo_move 139 138 (mk f' l R)) fun S => some (clP (rV T N) a j d n, S)) ∧ sd f f' ∧ MX T N ru (9999 + m) (daysS (rV T N) a m) f'
  | 0, n, G, f, hn, hG, h => by
    obtain ⟨G, rfl⟩ : ∃ H, G = H + 1 := ⟨G - 1, by omega⟩
    have e : n = 61 := by omega
    subst e
    refine ⟨f, 61, ?_, sd_r, h⟩
    rw [lpS]
    show fn_Mo_clean_L16 137 (nI j) (-nI 5) (nI 61) (mk f l R) _ = (bv _ fun S => some (-nI 5, S))
    simp (disch := omega) only [wbr_T, wbr_F, wgd_T, wbq, wbv, wnm, zI_mk, zL_mk, uI_mk, uL_mk, kI_mk, kL_mk, nI_add, nI_mul, nI_sub, nI_div, nI_clamp, wgB, wgP, nI_leI, nI_ltI, nI_eq, nI_eqm, nI_eqm5, wdT, wdF, wd1, wd0, li_0, li_1, li_2, li_3, li_4, li_5, li_6, li_7, li_8, li_9, li_10, li_11, li_12, li_13, li_14, li_15, li_16, li_17, li_18, li_19, li_20, li_21, li_22, li_23, li_24, li_25, li_26, li_27, li_28, li_29, li_30, li_31, li_32, li_33, li_38, li_40, li_41, li_48, li_57, li_58, li_59, li_60, li_61, li_62, li_63, li_68, li_69, li_70, li_71, li_72, li_73, li_74, li_75, li_83, li_87, li_88, li_89, li_99, li_100, li_104, li_105, li_106, li_107, li_108, li_109, li_110, li_111, li_112, li_113, li_114, li_115, li_116, li_117, li_118, li_119, li_120, li_121, li_124, li_127, li_128, li_200, li_4095, li_4096, li_9999, gT_mk_137, zT_mk_137, zR_mk_137_0, zR_mk_137_1, zR_mk_137_2, zR_mk_137_4, zR_mk_137_6, zR_mk_137_7, zR_mk_137_9, zR_mk_137_16, zR_mk_137_17, zR_mk_137_18, zR_mk_137_19, zR_mk_137_20, zR_mk_137_22, zR_mk_137_24, zR_mk_137_25, zR_mk_137_26, zR_mk_137_28, zR_mk_137_29, zR_mk_137_30, zR_mk_137_31, gT_mk_138, zT_mk_138, gT_mk_139, zT_mk_139, gT_mk_140, zT_mk_140, gT_mk_141, zT_mk_141, gT_mk_142, zT_mk_142, gT_mk_143, zT_mk_143, gT_mk_144, zT_mk_144, gT_mk_145, zT_mk_145, gT_mk_146, zT_mk_146, gT_mk_147, zT_mk_147, gT_mk_148, zT_mk_148, gT_mk_149, zT_mk_149, gT_mk_150, zT_mk_150, gT_mk_151, zT_mk_151, gT_mk_152, zT_mk_152, gT_mk_153, zT_mk_153, gT_mk_154, zT_mk_154, gT_mk_155, zT_mk_155, gT_mk_156, zT_mk_156, gT_mk_157, zT_mk_157, fn_Mo_clean_L16]
  | d + 1, n, G, f, hn, hG, h => by
    obtain ⟨G, rfl⟩ : ∃ H, G = H + 1 := ⟨G - 1, by omega⟩
    rw [lpS]
    show ∃ f' m, fn_Mo_clean_L16 137 (nI j) (-nI 5) (nI n) (mk f l R) _ = (bv (fn_Mo_move 139 138 (mk f' l R)) fun S => some (if daysS (rV T N) a n (60 + 2 * j) = 0 then nI n else clP (rV T N) a j d (n + 1), S)) ∧ _
    have mo := m_on (f := f) (l := l) (R := R) hj
    rw [h.2.1] at mo
    have go := ((Gd_all h.2.2.1).2.2.1 j hj).1
    obtain ⟨f1, e1, s1, h1⟩ := m_day (l := l) (R := R) h (by omega)
    by_cases e : daysS (rV T N) a n (60 + 2 * j) = 0
    · rw [if_pos e]
      rw [e] at mo
      refine ⟨f1, n + 1, ?_, s1, h1⟩
      obtain ⟨G, rfl⟩ : ∃ H, G = H + 1 := ⟨G - 1, by omega⟩
      have step : ∀ K : Nat → Int32 → Int32 → Int32 → zS → Option (Int32 × zS), fn_Mo_clean_L16 137 (nI j) (-nI 5) (nI n) (mk f l R) K = K 137 (nI j) (nI n) (nI (n + 1)) (mk f1 l R) := fun K => by
        simp (disch := omega) only [wbr_T, wbr_F, wgd_T, wbq, wbv, wnm, zI_mk, zL_mk, uI_mk, uL_mk, kI_mk, kL_mk, nI_add, nI_mul, nI_sub, nI_div, nI_clamp, wgB, wgP, nI_leI, nI_ltI, nI_eq, nI_eqm, nI_eqm5, wdT, wdF, wd1, wd0, li_0, li_1, li_2, li_3, li_4, li_5, li_6, li_7, li_8, li_9, li_10, li_11, li_12, li_13, li_14, li_15, li_16, li_17, li_18, li_19, li_20, li_21, li_22, li_23, li_24, li_25, li_26, li_27, li_28, li_29, li_30, li_31, li_32, li_33, li_38, li_40, li_41, li_48, li_57, li_58, li_59, li_60, li_61, li_62, li_63, li_68, li_69, li_70, li_71, li_72, li_73, li_74, li_75, li_83, li_87, li_88, li_89, li_99, li_100, li_104, li_105, li_106, li_107, li_108, li_109, li_110, li_111, li_112, li_113, li_114, li_115, li_116, li_117, li_118, li_119, li_120, li_121, li_124, li_127, li_128, li_200, li_4095, li_4096, li_9999, gT_mk_137, zT_mk_137, zR_mk_137_0, zR_mk_137_1, zR_mk_137_2, zR_mk_137_4, zR_mk_137_6, zR_mk_137_7, zR_mk_137_9, zR_mk_137_16, zR_mk_137_17, zR_mk_137_18, zR_mk_137_19, zR_mk_137_20, zR_mk_137_22, zR_mk_137_24, zR_mk_137_25, zR_mk_137_26, zR_mk_137_28, zR_mk_137_29, zR_mk_137_30, zR_mk_137_31, gT_mk_138, zT_mk_138, gT_mk_139, zT_mk_139, gT_mk_140, zT_mk_140, gT_mk_141, zT_mk_141, gT_mk_142, zT_mk_142, gT_mk_143, zT_mk_143, gT_mk_144, zT_mk_144, gT_mk_145, zT_mk_145, gT_mk_146, zT_mk_146, gT_mk_147, zT_mk_147, gT_mk_148, zT_mk_148, gT_mk_149, zT_mk_149, gT_mk_150, zT_mk_150, gT_mk_151, zT_mk_151, gT_mk_152, zT_mk_152, gT_mk_153, zT_mk_153, gT_mk_154, zT_mk_154, gT_mk_155, zT_mk_155, gT_mk_156, zT_mk_156, gT_mk_157, zT_mk_157, fn_Mo_clean_L16, mo, e1]
      rw [step, lpS]
      show fn_Mo_clean_L16 137 (nI j) (nI n) (nI (n + 1)) (mk f1 l R) _ = _
      by_cases c : 60 < n + 1
      · simp (disch := omega) only [wbr_T, wbr_F, wgd_T, wbq, wbv, wnm, zI_mk, zL_mk, uI_mk, uL_mk, kI_mk, kL_mk, nI_add, nI_mul, nI_sub, nI_div, nI_clamp, wgB, wgP, nI_leI, nI_ltI, nI_eq, nI_eqm, nI_eqm5, wdT, wdF, wd1, wd0, li_0, li_1, li_2, li_3, li_4, li_5, li_6, li_7, li_8, li_9, li_10, li_11, li_12, li_13, li_14, li_15, li_16, li_17, li_18, li_19, li_20, li_21, li_22, li_23, li_24, li_25, li_26, li_27, li_28, li_29, li_30, li_31, li_32, li_33, li_38, li_40, li_41, li_48, li_57, li_58, li_59, li_60, li_61, li_62, li_63, li_68, li_69, li_70, li_71, li_72, li_73, li_74, li_75, li_83, li_87, li_88, li_89, li_99, li_100, li_104, li_105, li_106, li_107, li_108, li_109, li_110, li_111, li_112, li_113, li_114, li_115, li_116, li_117, li_118, li_119, li_120, li_121, li_124, li_127, li_128, li_200, li_4095, li_4096, li_9999, gT_mk_137, zT_mk_137, zR_mk_137_0, zR_mk_137_1, zR_mk_137_2, zR_mk_137_4, zR_mk_137_6, zR_mk_137_7, zR_mk_137_9, zR_mk_137_16, zR_mk_137_17, zR_mk_137_18, zR_mk_137_19, zR_mk_137_20, zR_mk_137_22, zR_mk_137_24, zR_mk_137_25, zR_mk_137_26, zR_mk_137_28, zR_mk_137_29, zR_mk_137_30, zR_mk_137_31, gT_mk_138, zT_mk_138, gT_mk_139, zT_mk_139, gT_mk_140, zT_mk_140, gT_mk_141, zT_mk_141, gT_mk_142, zT_mk_142, gT_mk_143, zT_mk_143, gT_mk_144, zT_mk_144, gT_mk_145, zT_mk_145, gT_mk_146, zT_mk_146, gT_mk_147, zT_mk_147, gT_mk_148, zT_mk_148, gT_mk_149, zT_mk_149, gT_mk_150, zT_mk_150, gT_mk_151, zT_mk_151, gT_mk_152, zT_mk_152, gT_mk_153, zT_mk_153, gT_mk_154, zT_mk_154, gT_mk_155, zT_mk_155, gT_mk_156, zT_mk_156, gT_mk_157, zT_mk_157, fn_Mo_clean_L16]
      · simp (disch := omega) only [wbr_T, wbr_F, wgd_T, wbq, wbv, wnm, zI_mk, zL_mk, uI_mk, uL_mk, kI_mk, kL_mk, nI_add, nI_mul, nI_sub, nI_div, nI_clamp, wgB, wgP, nI_leI, nI_ltI, nI_eq, nI_eqm, nI_eqm5, wdT, wdF, wd1, wd0, li_0, li_1, li_2, li_3, li_4, li_5, li_6, li_7, li_8, li_9, li_10, li_11, li_12, li_13, li_14, li_15, li_16, li_17, li_18, li_19, li_20, li_21, li_22, li_23, li_24, li_25, li_26, li_27, li_28, li_29, li_30, li_31, li_32, li_33, li_38, li_40, li_41, li_48, li_57, li_58, li_59, li_60, li_61, li_62, li_63, li_68, li_69, li_70, li_71, li_72, li_73, li_74, li_75, li_83, li_87, li_88, li_89, li_99, li_100, li_104, li_105, li_106, li_107, li_108, li_109, li_110, li_111, li_112, li_113, li_114, li_115, li_116, li_117, li_118, li_119, li_120, li_121, li_124, li_127, li_128, li_200, li_4095, li_4096, li_9999, gT_mk_137, zT_mk_137, zR_mk_137_0, zR_mk_137_1, zR_mk_137_2, zR_mk_137_4, zR_mk_137_6, zR_mk_137_7, zR_mk_137_9, zR_mk_137_16, zR_mk_137_17, zR_mk_137_18, zR_mk_137_19, zR_mk_137_20, zR_mk_137_22, zR_mk_137_24, zR_mk_137_25, zR_mk_137_26, zR_mk_137_28, zR_mk_137_29, zR_mk_137_30, zR_mk_137_31, gT_mk_138, zT_mk_138, gT_mk_139, zT_mk_139, gT_mk_140, zT_mk_140, gT_mk_141, zT_mk_141, gT_mk_142, zT_mk_142, gT_mk_143, zT_mk_143, gT_mk_144, zT_mk_144, gT_mk_145, zT_mk_145, gT_mk_146, zT_mk_146, gT_mk_147, zT_mk_147, gT_mk_148, zT_mk_148, gT_mk_149, zT_mk_149, gT_mk_150, zT_mk_150, gT_mk_151, zT_mk_151, gT_mk_152, zT_mk_152, gT_mk_153, zT_mk_153, gT_mk_154, zT_mk_154, gT_mk_155, zT_mk_155, gT_mk_156, zT_mk_156, gT_mk_157, zT_mk_157, fn_Mo_clean_L16]
    · rw [if_neg e]
      obtain ⟨f2, m, e2, s2, h2⟩ := m_cleanl hj d (n + 1) G f1 (by omega) (by omega) h1
      refine ⟨f2, m, ?_, sd_t s1 s2, h2⟩
      simp (disch := omega) only [wbr_T, wbr_F, wgd_T, wbq, wbv, wnm, zI_mk, zL_mk, uI_mk, uL_mk, kI_mk, kL_mk, nI_add, nI_mul, nI_sub, nI_div, nI_clamp, wgB, wgP, nI_leI, nI_ltI, nI_eq, nI_eqm, nI_eqm5, wdT, wdF, wd1, wd0, li_0, li_1, li_2, li_3, li_4, li_5, li_6, li_7, li_8, li_9, li_10, li_11, li_12, li_13, li_14, li_15, li_16, li_17, li_18, li_19, li_20, li_21, li_22, li_23, li_24, li_25, li_26, li_27, li_28, li_29, li_30, li_31, li_32, li_33, li_38, li_40, li_41, li_48, li_57, li_58, li_59, li_60, li_61, li_62, li_63, li_68, li_69, li_70, li_71, li_72, li_73, li_74, li_75, li_83, li_87, li_88, li_89, li_99, li_100, li_104, li_105, li_106, li_107, li_108, li_109, li_110, li_111, li_112, li_113, li_114, li_115, li_116, li_117, li_118, li_119, li_120, li_121, li_124, li_127, li_128, li_200, li_4095, li_4096, li_9999, gT_mk_137, zT_mk_137, zR_mk_137_0, zR_mk_137_1, zR_mk_137_2, zR_mk_137_4, zR_mk_137_6, zR_mk_137_7, zR_mk_137_9, zR_mk_137_16, zR_mk_137_17, zR_mk_137_18, zR_mk_137_19, zR_mk_137_20, zR_mk_137_22, zR_mk_137_24, zR_mk_137_25, zR_mk_137_26, zR_mk_137_28, zR_mk_137_29, zR_mk_137_30, zR_mk_137_31, gT_mk_138, zT_mk_138, gT_mk_139, zT_mk_139, gT_mk_140, zT_mk_140, gT_mk_141, zT_mk_141, gT_mk_142, zT_mk_142, gT_mk_143, zT_mk_143, gT_mk_144, zT_mk_144, gT_mk_145, zT_mk_145, gT_mk_146, zT_mk_146, gT_mk_147, zT_mk_147, gT_mk_148, zT_mk_148, gT_mk_149, zT_mk_149, gT_mk_150, zT_mk_150, gT_mk_151, zT_mk_151, gT_mk_152, zT_mk_152, gT_mk_153, zT_mk_153, gT_mk_154, zT_mk_154, gT_mk_155, zT_mk_155, gT_mk_156, zT_mk_156, gT_mk_157, zT_mk_157, fn_Mo_clean_L16, mo, e1]
      exact e2
/-! ENDS -/
def plS (V : zV) (w n : Nat) (b : Nat → Nat) : Nat → Nat := if w = 0 then dayS V b else if w = 1 then (if b (10 * (n / 10) + 3) < 99 then usedS V b (n / 10) (n % 10) else b) else if w = 2 then us b (10 * n + 3) 0 else us b (10 * n + 5) 0
def plF (V : zV) (a : Nat → Nat) : Nat → Nat → Nat
  | 0 => a
  | k + 1 => plS V (a (88 + 2 * k)) (a (89 + 2 * k)) (plF V a k)
def plO (z w n : Nat) : Prop := w ≤ 3 ∧ (w = 1 → n / 10 < z ∧ n % 10 < 4) ∧ (2 ≤ w → n < z)
theorem Gd_pl (h : Gd a ru D) (hz : z ≤ 6) (ho : plO z w n) : Gd (plS V w n a) ru (D + 1) ∧ ∀ q, 68 ≤ q → ¬ q = 69 → plS V w n a q = a q := by
  obtain ⟨o1, o2, o3⟩ := ho
  unfold plS
  by_cases e0 : w = 0
  · rw [if_pos e0]
    exact ⟨(Gd_day h).1, (Gd_day h).2.1⟩
  · rw [if_neg e0]
    by_cases e1 : w = 1
    · rw [if_pos e1]
      have o := o2 e1
      by_cases e2 : a (10 * (n / 10) + 3) < 99
      · rw [if_pos e2]
        exact ⟨Gd_mono (Gd_used h (by omega) (by omega)) (Nat.le_refl _) (by omega), fun q h1 h2 => used_fix (by omega) (by omega) h1⟩
      · rw [if_neg e2]
        exact ⟨Gd_mono h (Nat.le_refl _) (by omega), fun _ _ _ => rfl⟩
    · rw [if_neg e1]
      have o := o3 (by omega)
      by_cases e2 : w = 2
      · rw [if_pos e2]
        exact ⟨Gd_mono (Gd_us h (by rw [rng_s (by omega) (by decide)]; decide)) (Nat.le_refl _) (by omega), fun q h1 h2 => us_ne (by omega)⟩
      · rw [if_neg e2]
        exact ⟨Gd_mono (Gd_us h (by rw [rng_s (by omega) (by decide)]; decide)) (Nat.le_refl _) (by omega), fun q h1 h2 => us_ne (by omega)⟩
theorem plS_0 {b : Nat → Nat} : plS V 0 n b = dayS V b := if_pos rfl
theorem plS_1 {b : Nat → Nat} (h : b (10 * (n / 10) + 3) < 99) : plS V 1 n b = usedS V b (n / 10) (n % 10) := by
  unfold plS
  rw [if_neg (by decide), if_pos rfl, if_pos h]
theorem plS_1n {b : Nat → Nat} (h : ¬ b (10 * (n / 10) + 3) < 99) : plS V 1 n b = b := by
  unfold plS
  rw [if_neg (by decide), if_pos rfl, if_neg h]
theorem plS_2 {b : Nat → Nat} : plS V 2 n b = us b (10 * n + 3) 0 := by
  unfold plS
  rw [if_neg (by decide), if_neg (by decide), if_pos rfl]
theorem plS_3 {b : Nat → Nat} : plS V 3 n b = us b (10 * n + 5) 0 := by
  unfold plS
  rw [if_neg (by decide), if_neg (by decide), if_neg (by decide)]
theorem c_follow (h : CX T N ru D 63 a f R) (ho : plO (a 68) w n) (hD : D + 1 < 2 ^ 20) : ∃ f', fn_Ho_follow 63 (nI w) (nI n) (mk f l R) = some (mk f' l R) ∧ cd 63 f f' ∧ CX T N ru (D + 1) 63 (plS (rV T N) w n a) f' R := by
  obtain ⟨o1, o2, o3⟩ := id ho
  have z6 := h.2.1.1.1
  have hg := (Gd_pl (V := rV T N) h.2.2.1 z6 ho).1
  obtain ⟨v0, v1, v2, v3, v4, v5, v6, v7, v8, v9, v10, v11, v12, v13, v14, v15, v16, v17, v18, v19, v20, v21, v22, v23, v24, v25, v26, v27, v28, v29, v30⟩ := hbD
  have ez : f 63 6 = nI (a 68) := cC_z h.2.1
  rcases (by omega : w = 0 ∨ w = 1 ∨ w = 2 ∨ w = 3) with rfl | rfl | rfl | rfl
  · obtain ⟨f1, e1, d1, k1⟩ := c_day (l := l) zb63 h hD
    refine ⟨f1, ?_, d1, by rw [plS_0]; exact k1⟩
    simp (disch := omega) only [wbr_T, wbr_F, wgd_T, wbq, wbv, wnm, zI_mk, zL_mk, uI_mk, uL_mk, kI_mk, kL_mk, nI_add, nI_mul, nI_sub, nI_div, nI_clamp, wgB, wgP, nI_leI, nI_ltI, nI_eq, nI_eqm, nI_eqm5, wdT, wdF, wd1, wd0, li_0, li_1, li_2, li_3, li_4, li_5, li_6, li_7, li_8, li_9, li_10, li_11, li_12, li_13, li_14, li_15, li_16, li_17, li_18, li_19, li_20, li_21, li_22, li_23, li_24, li_25, li_26, li_27, li_28, li_29, li_30, li_31, li_32, li_33, li_38, li_40, li_41, li_48, li_57, li_58, li_59, li_60, li_61, li_62, li_63, li_68, li_69, li_70, li_71, li_72, li_73, li_74, li_75, li_83, li_87, li_88, li_89, li_99, li_100, li_104, li_105, li_106, li_107, li_108, li_109, li_110, li_111, li_112, li_113, li_114, li_115, li_116, li_117, li_118, li_119, li_120, li_121, li_124, li_127, li_128, li_200, li_4095, li_4096, li_9999, fn_Ho_follow, e1, v0, v1, v2, v3, v4, v5, v6, v7, v8, v9, v10, v11, v12, v13, v14, v15, v16, v17, v18, v19, v20, v21, v22, v23, v24, v25, v26, v27, v28, v29, v30]
  · have o := o2 rfl
    have hh := c_has_in (l := l) (R := R) zb63 ez z6 o.1
    have nv := c_nov_in (S := mk f l R) o.2
    have rm : n - n / 10 * 10 = n % 10 := by omega
    have lem : n / 10 * 10 ≤ n := by omega
    have g9 := (Gd_gs h.2.2.1 (show n / 10 < 6 by omega)).2.2.2.1
    have et : fn_Sa_isThread (73 + 2 * (n / 10)) (mk f l R) = _ := c_thread (l := l) (R := R) (sp_b zb63 (show n / 10 < 6 by omega)) (cC_w h.2.1 o.1) g9
    by_cases c2 : a (10 * (n / 10) + 3) < 99
    · rw [if_neg (by omega)] at et
      rw [plS_1 c2] at hg ⊢
      obtain ⟨f1, e1, k1, d1⟩ := c_scrub (l := l) zb63 h o.1 o.2
      have e1' : fn_Ho_scrub 63 (73 + 2 * (n / 10)) (nI (n % 10)) (mk f l R) = _ := e1
      refine ⟨f1, ?_, d1, CX_of h zb63 d1 k1 hg hD⟩
      simp (disch := omega) only [wbr_T, wbr_F, wgd_T, wbq, wbv, wnm, zI_mk, zL_mk, uI_mk, uL_mk, kI_mk, kL_mk, nI_add, nI_mul, nI_sub, nI_div, nI_clamp, wgB, wgP, nI_leI, nI_ltI, nI_eq, nI_eqm, nI_eqm5, wdT, wdF, wd1, wd0, li_0, li_1, li_2, li_3, li_4, li_5, li_6, li_7, li_8, li_9, li_10, li_11, li_12, li_13, li_14, li_15, li_16, li_17, li_18, li_19, li_20, li_21, li_22, li_23, li_24, li_25, li_26, li_27, li_28, li_29, li_30, li_31, li_32, li_33, li_38, li_40, li_41, li_48, li_57, li_58, li_59, li_60, li_61, li_62, li_63, li_68, li_69, li_70, li_71, li_72, li_73, li_74, li_75, li_83, li_87, li_88, li_89, li_99, li_100, li_104, li_105, li_106, li_107, li_108, li_109, li_110, li_111, li_112, li_113, li_114, li_115, li_116, li_117, li_118, li_119, li_120, li_121, li_124, li_127, li_128, li_200, li_4095, li_4096, li_9999, fn_Ho_follow, fn_Ho_follow_L22, hh, rm, nv, et, e1', v0, v1, v2, v3, v4, v5, v6, v7, v8, v9, v10, v11, v12, v13, v14, v15, v16, v17, v18, v19, v20, v21, v22, v23, v24, v25, v26, v27, v28, v29, v30]
    · rw [if_pos (by omega)] at et
      rw [plS_1n c2] at hg ⊢
      refine ⟨f, ?_, cd_r, CX_of h zb63 cd_r h.2.1 hg hD⟩
      simp (disch := omega) only [wbr_T, wbr_F, wgd_T, wbq, wbv, wnm, zI_mk, zL_mk, uI_mk, uL_mk, kI_mk, kL_mk, nI_add, nI_mul, nI_sub, nI_div, nI_clamp, wgB, wgP, nI_leI, nI_ltI, nI_eq, nI_eqm, nI_eqm5, wdT, wdF, wd1, wd0, li_0, li_1, li_2, li_3, li_4, li_5, li_6, li_7, li_8, li_9, li_10, li_11, li_12, li_13, li_14, li_15, li_16, li_17, li_18, li_19, li_20, li_21, li_22, li_23, li_24, li_25, li_26, li_27, li_28, li_29, li_30, li_31, li_32, li_33, li_38, li_40, li_41, li_48, li_57, li_58, li_59, li_60, li_61, li_62, li_63, li_68, li_69, li_70, li_71, li_72, li_73, li_74, li_75, li_83, li_87, li_88, li_89, li_99, li_100, li_104, li_105, li_106, li_107, li_108, li_109, li_110, li_111, li_112, li_113, li_114, li_115, li_116, li_117, li_118, li_119, li_120, li_121, li_124, li_127, li_128, li_200, li_4095, li_4096, li_9999, fn_Ho_follow, fn_Ho_follow_L22, hh, rm, nv, et, v0, v1, v2, v3, v4, v5, v6, v7, v8, v9, v10, v11, v12, v13, v14, v15, v16, v17, v18, v19, v20, v21, v22, v23, v24, v25, v26, v27, v28, v29, v30]
  · have o := o3 (by decide)
    have hh := c_has_in (l := l) (R := R) zb63 ez z6 o
    have k1 : cC 63 (us a (10 * n + 3) 0) (up f (73 + 2 * n) 5 (nI 0)) R := cC_uw (x := 0) h.2.1 (show n < 6 by omega)
    have d1 : cd 63 f (up f (73 + 2 * n) 5 (nI 0)) := cd_up (by omega) (by omega)
    rw [plS_2] at hg ⊢
    refine ⟨_, ?_, d1, CX_of h zb63 d1 k1 hg hD⟩
    simp (disch := omega) only [wbr_T, wbr_F, wgd_T, wbq, wbv, wnm, zI_mk, zL_mk, uI_mk, uL_mk, kI_mk, kL_mk, nI_add, nI_mul, nI_sub, nI_div, nI_clamp, wgB, wgP, nI_leI, nI_ltI, nI_eq, nI_eqm, nI_eqm5, wdT, wdF, wd1, wd0, li_0, li_1, li_2, li_3, li_4, li_5, li_6, li_7, li_8, li_9, li_10, li_11, li_12, li_13, li_14, li_15, li_16, li_17, li_18, li_19, li_20, li_21, li_22, li_23, li_24, li_25, li_26, li_27, li_28, li_29, li_30, li_31, li_32, li_33, li_38, li_40, li_41, li_48, li_57, li_58, li_59, li_60, li_61, li_62, li_63, li_68, li_69, li_70, li_71, li_72, li_73, li_74, li_75, li_83, li_87, li_88, li_89, li_99, li_100, li_104, li_105, li_106, li_107, li_108, li_109, li_110, li_111, li_112, li_113, li_114, li_115, li_116, li_117, li_118, li_119, li_120, li_121, li_124, li_127, li_128, li_200, li_4095, li_4096, li_9999, fn_Ho_follow, fn_Ho_follow_L22, hh, v0, v1, v2, v3, v4, v5, v6, v7, v8, v9, v10, v11, v12, v13, v14, v15, v16, v17, v18, v19, v20, v21, v22, v23, v24, v25, v26, v27, v28, v29, v30]
  · have o := o3 (by decide)
    have hh := c_has_in (l := l) (R := R) zb63 ez z6 o
    have k1 : cC 63 (us a (10 * n + 5) 0) (up f (73 + 2 * n) 6 (-nI 1)) R := cC_up5 (x := 0) h.2.1 (show n < 6 by omega)
    have d1 : cd 63 f (up f (73 + 2 * n) 6 (-nI 1)) := cd_up (by omega) (by omega)
    rw [plS_3] at hg ⊢
    refine ⟨_, ?_, d1, CX_of h zb63 d1 k1 hg hD⟩
    simp (disch := omega) only [wbr_T, wbr_F, wgd_T, wbq, wbv, wnm, zI_mk, zL_mk, uI_mk, uL_mk, kI_mk, kL_mk, nI_add, nI_mul, nI_sub, nI_div, nI_clamp, wgB, wgP, nI_leI, nI_ltI, nI_eq, nI_eqm, nI_eqm5, wdT, wdF, wd1, wd0, li_0, li_1, li_2, li_3, li_4, li_5, li_6, li_7, li_8, li_9, li_10, li_11, li_12, li_13, li_14, li_15, li_16, li_17, li_18, li_19, li_20, li_21, li_22, li_23, li_24, li_25, li_26, li_27, li_28, li_29, li_30, li_31, li_32, li_33, li_38, li_40, li_41, li_48, li_57, li_58, li_59, li_60, li_61, li_62, li_63, li_68, li_69, li_70, li_71, li_72, li_73, li_74, li_75, li_83, li_87, li_88, li_89, li_99, li_100, li_104, li_105, li_106, li_107, li_108, li_109, li_110, li_111, li_112, li_113, li_114, li_115, li_116, li_117, li_118, li_119, li_120, li_121, li_124, li_127, li_128, li_200, li_4095, li_4096, li_9999, fn_Ho_follow, fn_Ho_follow_L22, hh, v0, v1, v2, v3, v4, v5, v6, v7, v8, v9, v10, v11, v12, v13, v14, v15, v16, v17, v18, v19, v20, v21, v22, v23, v24, v25, v26, v27, v28, v29, v30]
theorem MX_mono (h : MX T N ru D a f) (hD : D + 1 < 2 ^ 20) : MX T N ru (D + 1) a f := ⟨h.1, h.2.1, Gd_mono h.2.2.1 (Nat.le_refl _) (by omega), hD⟩
theorem m_follow {x : Int32} (h : MX T N ru D a f) (ho : plO (a 68) w n) (hD : D + 1 < 2 ^ 20) (hz : a 87 = z) (hk : k < z) (z8 : z ≤ 8) (hw : a (88 + 2 * k) = w) (hn : a (89 + 2 * k) = n) :
    ∃ f', (∀ K : Nat → Int32 → Int32 → zS → Option (Int32 × zS), fn_Mo_ends_L24 137 x (nI k) (mk f l R) K = K 137 x (nI (k + 1)) (mk f' l R)) ∧ sd f f' ∧ MX T N ru (D + 1) (plS (rV T N) w n a) f' := by
  obtain ⟨o1, o2, o3⟩ := id ho
  have z6 := (Gd_all h.2.2.1).1
  have hA := h.2.1
  rcases (by omega : w = 0 ∨ w = 1 ∨ w = 2 ∨ w = 3) with rfl | rfl | rfl | rfl
  · obtain ⟨f1, e1, s1, h1⟩ := m_day (l := l) (R := R) h hD
    refine ⟨f1, fun K => ?_, s1, by rw [plS_0]; exact h1⟩
    simp (disch := omega) only [wbr_T, wbr_F, wgd_T, wbq, wbv, wnm, zI_mk, zL_mk, uI_mk, uL_mk, kI_mk, kL_mk, nI_add, nI_mul, nI_sub, nI_div, nI_clamp, wgB, wgP, nI_leI, nI_ltI, nI_eq, nI_eqm, nI_eqm5, wdT, wdF, wd1, wd0, li_0, li_1, li_2, li_3, li_4, li_5, li_6, li_7, li_8, li_9, li_10, li_11, li_12, li_13, li_14, li_15, li_16, li_17, li_18, li_19, li_20, li_21, li_22, li_23, li_24, li_25, li_26, li_27, li_28, li_29, li_30, li_31, li_32, li_33, li_38, li_40, li_41, li_48, li_57, li_58, li_59, li_60, li_61, li_62, li_63, li_68, li_69, li_70, li_71, li_72, li_73, li_74, li_75, li_83, li_87, li_88, li_89, li_99, li_100, li_104, li_105, li_106, li_107, li_108, li_109, li_110, li_111, li_112, li_113, li_114, li_115, li_116, li_117, li_118, li_119, li_120, li_121, li_124, li_127, li_128, li_200, li_4095, li_4096, li_9999, gT_mk_137, zT_mk_137, zR_mk_137_0, zR_mk_137_1, zR_mk_137_2, zR_mk_137_4, zR_mk_137_6, zR_mk_137_7, zR_mk_137_9, zR_mk_137_16, zR_mk_137_17, zR_mk_137_18, zR_mk_137_19, zR_mk_137_20, zR_mk_137_22, zR_mk_137_24, zR_mk_137_25, zR_mk_137_26, zR_mk_137_28, zR_mk_137_29, zR_mk_137_30, zR_mk_137_31, gT_mk_138, zT_mk_138, gT_mk_139, zT_mk_139, gT_mk_140, zT_mk_140, gT_mk_141, zT_mk_141, gT_mk_142, zT_mk_142, gT_mk_143, zT_mk_143, gT_mk_144, zT_mk_144, gT_mk_145, zT_mk_145, gT_mk_146, zT_mk_146, gT_mk_147, zT_mk_147, gT_mk_148, zT_mk_148, gT_mk_149, zT_mk_149, gT_mk_150, zT_mk_150, gT_mk_151, zT_mk_151, gT_mk_152, zT_mk_152, gT_mk_153, zT_mk_153, gT_mk_154, zT_mk_154, gT_mk_155, zT_mk_155, gT_mk_156, zT_mk_156, gT_mk_157, zT_mk_157, fn_Mo_ends_L24, hA, hz, hw, hn, e1]
  · have o := o2 rfl
    have rm : n - n / 10 * 10 = n % 10 := by omega
    have lem : n / 10 * 10 ≤ n := by omega
    have g9 := (Gd_gs h.2.2.1 (show n / 10 < 6 by omega)).2.2.2.1
    have mt := m_thread (f := f) (l := l) (R := R) (show n / 10 < 6 by omega) (hA _) g9
    by_cases c2 : a (10 * (n / 10) + 3) < 99
    · rw [if_neg (by omega)] at mt
      obtain ⟨f1, e1, h1, s1⟩ := m_used (l := l) (R := R) h (show n / 10 < 6 by omega) o.2
      refine ⟨f1, fun K => ?_, s1, by rw [plS_1 c2]; exact MX_mono h1 hD⟩
      simp (disch := omega) only [wbr_T, wbr_F, wgd_T, wbq, wbv, wnm, zI_mk, zL_mk, uI_mk, uL_mk, kI_mk, kL_mk, nI_add, nI_mul, nI_sub, nI_div, nI_clamp, wgB, wgP, nI_leI, nI_ltI, nI_eq, nI_eqm, nI_eqm5, wdT, wdF, wd1, wd0, li_0, li_1, li_2, li_3, li_4, li_5, li_6, li_7, li_8, li_9, li_10, li_11, li_12, li_13, li_14, li_15, li_16, li_17, li_18, li_19, li_20, li_21, li_22, li_23, li_24, li_25, li_26, li_27, li_28, li_29, li_30, li_31, li_32, li_33, li_38, li_40, li_41, li_48, li_57, li_58, li_59, li_60, li_61, li_62, li_63, li_68, li_69, li_70, li_71, li_72, li_73, li_74, li_75, li_83, li_87, li_88, li_89, li_99, li_100, li_104, li_105, li_106, li_107, li_108, li_109, li_110, li_111, li_112, li_113, li_114, li_115, li_116, li_117, li_118, li_119, li_120, li_121, li_124, li_127, li_128, li_200, li_4095, li_4096, li_9999, gT_mk_137, zT_mk_137, zR_mk_137_0, zR_mk_137_1, zR_mk_137_2, zR_mk_137_4, zR_mk_137_6, zR_mk_137_7, zR_mk_137_9, zR_mk_137_16, zR_mk_137_17, zR_mk_137_18, zR_mk_137_19, zR_mk_137_20, zR_mk_137_22, zR_mk_137_24, zR_mk_137_25, zR_mk_137_26, zR_mk_137_28, zR_mk_137_29, zR_mk_137_30, zR_mk_137_31, gT_mk_138, zT_mk_138, gT_mk_139, zT_mk_139, gT_mk_140, zT_mk_140, gT_mk_141, zT_mk_141, gT_mk_142, zT_mk_142, gT_mk_143, zT_mk_143, gT_mk_144, zT_mk_144, gT_mk_145, zT_mk_145, gT_mk_146, zT_mk_146, gT_mk_147, zT_mk_147, gT_mk_148, zT_mk_148, gT_mk_149, zT_mk_149, gT_mk_150, zT_mk_150, gT_mk_151, zT_mk_151, gT_mk_152, zT_mk_152, gT_mk_153, zT_mk_153, gT_mk_154, zT_mk_154, gT_mk_155, zT_mk_155, gT_mk_156, zT_mk_156, gT_mk_157, zT_mk_157, fn_Mo_ends_L24, hA, hz, hw, hn, rm, mt, e1]
    · rw [if_pos (by omega)] at mt
      refine ⟨f, fun K => ?_, sd_r, by rw [plS_1n c2]; exact MX_mono h hD⟩
      simp (disch := omega) only [wbr_T, wbr_F, wgd_T, wbq, wbv, wnm, zI_mk, zL_mk, uI_mk, uL_mk, kI_mk, kL_mk, nI_add, nI_mul, nI_sub, nI_div, nI_clamp, wgB, wgP, nI_leI, nI_ltI, nI_eq, nI_eqm, nI_eqm5, wdT, wdF, wd1, wd0, li_0, li_1, li_2, li_3, li_4, li_5, li_6, li_7, li_8, li_9, li_10, li_11, li_12, li_13, li_14, li_15, li_16, li_17, li_18, li_19, li_20, li_21, li_22, li_23, li_24, li_25, li_26, li_27, li_28, li_29, li_30, li_31, li_32, li_33, li_38, li_40, li_41, li_48, li_57, li_58, li_59, li_60, li_61, li_62, li_63, li_68, li_69, li_70, li_71, li_72, li_73, li_74, li_75, li_83, li_87, li_88, li_89, li_99, li_100, li_104, li_105, li_106, li_107, li_108, li_109, li_110, li_111, li_112, li_113, li_114, li_115, li_116, li_117, li_118, li_119, li_120, li_121, li_124, li_127, li_128, li_200, li_4095, li_4096, li_9999, gT_mk_137, zT_mk_137, zR_mk_137_0, zR_mk_137_1, zR_mk_137_2, zR_mk_137_4, zR_mk_137_6, zR_mk_137_7, zR_mk_137_9, zR_mk_137_16, zR_mk_137_17, zR_mk_137_18, zR_mk_137_19, zR_mk_137_20, zR_mk_137_22, zR_mk_137_24, zR_mk_137_25, zR_mk_137_26, zR_mk_137_28, zR_mk_137_29, zR_mk_137_30, zR_mk_137_31, gT_mk_138, zT_mk_138, gT_mk_139, zT_mk_139, gT_mk_140, zT_mk_140, gT_mk_141, zT_mk_141, gT_mk_142, zT_mk_142, gT_mk_143, zT_mk_143, gT_mk_144, zT_mk_144, gT_mk_145, zT_mk_145, gT_mk_146, zT_mk_146, gT_mk_147, zT_mk_147, gT_mk_148, zT_mk_148, gT_mk_149, zT_mk_149, gT_mk_150, zT_mk_150, gT_mk_151, zT_mk_151, gT_mk_152, zT_mk_152, gT_mk_153, zT_mk_153, gT_mk_154, zT_mk_154, gT_mk_155, zT_mk_155, gT_mk_156, zT_mk_156, gT_mk_157, zT_mk_157, fn_Mo_ends_L24, hA, hz, hw, hn, mt]
  · have o := o3 (by decide)
    have h1 : MX T N ru D (us a (10 * n + 3) 0) (up f 138 (10 * n + 3) (nI 0)) := MX_up h rfl (fun _ => by rw [rng_s (by omega) (by decide)]; decide)
    refine ⟨_, fun K => ?_, sd_up, by rw [plS_2]; exact MX_mono h1 hD⟩
    simp (disch := omega) only [wbr_T, wbr_F, wgd_T, wbq, wbv, wnm, zI_mk, zL_mk, uI_mk, uL_mk, kI_mk, kL_mk, nI_add, nI_mul, nI_sub, nI_div, nI_clamp, wgB, wgP, nI_leI, nI_ltI, nI_eq, nI_eqm, nI_eqm5, wdT, wdF, wd1, wd0, li_0, li_1, li_2, li_3, li_4, li_5, li_6, li_7, li_8, li_9, li_10, li_11, li_12, li_13, li_14, li_15, li_16, li_17, li_18, li_19, li_20, li_21, li_22, li_23, li_24, li_25, li_26, li_27, li_28, li_29, li_30, li_31, li_32, li_33, li_38, li_40, li_41, li_48, li_57, li_58, li_59, li_60, li_61, li_62, li_63, li_68, li_69, li_70, li_71, li_72, li_73, li_74, li_75, li_83, li_87, li_88, li_89, li_99, li_100, li_104, li_105, li_106, li_107, li_108, li_109, li_110, li_111, li_112, li_113, li_114, li_115, li_116, li_117, li_118, li_119, li_120, li_121, li_124, li_127, li_128, li_200, li_4095, li_4096, li_9999, gT_mk_137, zT_mk_137, zR_mk_137_0, zR_mk_137_1, zR_mk_137_2, zR_mk_137_4, zR_mk_137_6, zR_mk_137_7, zR_mk_137_9, zR_mk_137_16, zR_mk_137_17, zR_mk_137_18, zR_mk_137_19, zR_mk_137_20, zR_mk_137_22, zR_mk_137_24, zR_mk_137_25, zR_mk_137_26, zR_mk_137_28, zR_mk_137_29, zR_mk_137_30, zR_mk_137_31, gT_mk_138, zT_mk_138, gT_mk_139, zT_mk_139, gT_mk_140, zT_mk_140, gT_mk_141, zT_mk_141, gT_mk_142, zT_mk_142, gT_mk_143, zT_mk_143, gT_mk_144, zT_mk_144, gT_mk_145, zT_mk_145, gT_mk_146, zT_mk_146, gT_mk_147, zT_mk_147, gT_mk_148, zT_mk_148, gT_mk_149, zT_mk_149, gT_mk_150, zT_mk_150, gT_mk_151, zT_mk_151, gT_mk_152, zT_mk_152, gT_mk_153, zT_mk_153, gT_mk_154, zT_mk_154, gT_mk_155, zT_mk_155, gT_mk_156, zT_mk_156, gT_mk_157, zT_mk_157, fn_Mo_ends_L24, hA, hz, hw, hn]
  · have o := o3 (by decide)
    have h1 : MX T N ru D (us a (10 * n + 5) 0) (up f 138 (10 * n + 5) (nI 0)) := MX_up h rfl (fun _ => by rw [rng_s (by omega) (by decide)]; decide)
    refine ⟨_, fun K => ?_, sd_up, by rw [plS_3]; exact MX_mono h1 hD⟩
    simp (disch := omega) only [wbr_T, wbr_F, wgd_T, wbq, wbv, wnm, zI_mk, zL_mk, uI_mk, uL_mk, kI_mk, kL_mk, nI_add, nI_mul, nI_sub, nI_div, nI_clamp, wgB, wgP, nI_leI, nI_ltI, nI_eq, nI_eqm, nI_eqm5, wdT, wdF, wd1, wd0, li_0, li_1, li_2, li_3, li_4, li_5, li_6, li_7, li_8, li_9, li_10, li_11, li_12, li_13, li_14, li_15, li_16, li_17, li_18, li_19, li_20, li_21, li_22, li_23, li_24, li_25, li_26, li_27, li_28, li_29, li_30, li_31, li_32, li_33, li_38, li_40, li_41, li_48, li_57, li_58, li_59, li_60, li_61, li_62, li_63, li_68, li_69, li_70, li_71, li_72, li_73, li_74, li_75, li_83, li_87, li_88, li_89, li_99, li_100, li_104, li_105, li_106, li_107, li_108, li_109, li_110, li_111, li_112, li_113, li_114, li_115, li_116, li_117, li_118, li_119, li_120, li_121, li_124, li_127, li_128, li_200, li_4095, li_4096, li_9999, gT_mk_137, zT_mk_137, zR_mk_137_0, zR_mk_137_1, zR_mk_137_2, zR_mk_137_4, zR_mk_137_6, zR_mk_137_7, zR_mk_137_9, zR_mk_137_16, zR_mk_137_17, zR_mk_137_18, zR_mk_137_19, zR_mk_137_20, zR_mk_137_22, zR_mk_137_24, zR_mk_137_25, zR_mk_137_26, zR_mk_137_28, zR_mk_137_29, zR_mk_137_30, zR_mk_137_31, gT_mk_138, zT_mk_138, gT_mk_139, zT_mk_139, gT_mk_140, zT_mk_140, gT_mk_141, zT_mk_141, gT_mk_142, zT_mk_142, gT_mk_143, zT_mk_143, gT_mk_144, zT_mk_144, gT_mk_145, zT_mk_145, gT_mk_146, zT_mk_146, gT_mk_147, zT_mk_147, gT_mk_148, zT_mk_148, gT_mk_149, zT_mk_149, gT_mk_150, zT_mk_150, gT_mk_151, zT_mk_151, gT_mk_152, zT_mk_152, gT_mk_153, zT_mk_153, gT_mk_154, zT_mk_154, gT_mk_155, zT_mk_155, gT_mk_156, zT_mk_156, gT_mk_157, zT_mk_157, fn_Mo_ends_L24, hA, hz, hw, hn]
def enP (V : zV) (a : Nat → Nat) (w : Nat) : Nat := if w = 0 then onN (plF V a (a 87)) 4 else wrN (plF V a (a 87)) (a 68)
theorem GR_plO (hR : GR a) (hk : k < a 87) : plO (a 68) (a (88 + 2 * k)) (a (89 + 2 * k)) := hR.2.2.1 k hk
theorem c_endsl (hw : w < 2) (hR : GR a) : ∀ (e k G : Nat) (f : Nat → Nat → Int32), k + e = a 87 → e < G → CX T N ru (9999 + k) 63 (plF (rV T N) a k) f R → cC 41 a f R → (∀ q, 68 ≤ q → ¬ q = 69 → plF (rV T N) a k q = a q) →
    ∃ f', lp (σ := Nat × Int32 × Int32 × zS) (fun k s => fn_Ls_ends_L24 s.1 s.2.1 s.2.2.1 s.2.2.2 (fun (a0 : Nat) (a1 : Int32) (a2 : Int32) (S : zS) => k (a0, a1, a2, S))) G (16, nI w, nI k, mk f l R) = some (nI (enP (rV T N) a w), mk f' l R) ∧ cd 63 f f' ∧ cN 63 f'
  | 0, k, G, f, he, hG, h, hc, fix => by
    obtain ⟨G, rfl⟩ : ∃ H, G = H + 1 := ⟨G - 1, by omega⟩
    obtain ⟨c0, c1, c2, c3, c4, c5, c6, c7, c8⟩ := hbC
    obtain ⟨u0, u1, u2, u3, u4, u5, u6, u7, u8, u9, u10, u11, u12, u13, u14, u15, u16, u17, u18, u19, u20, u21, u22, u23, u24, u25, u26, u27, u28, u29, u30⟩ := hbB
    obtain ⟨v0, v1, v2, v3, v4, v5, v6, v7, v8, v9, v10, v11, v12, v13, v14, v15, v16, v17, v18, v19, v20, v21, v22, v23, v24, v25, v26, v27, v28, v29, v30⟩ := hbD
    have z8 := hR.1.2.1
    have e : k = a 87 := by omega
    refine ⟨f, ?_, cd_r, h.2.1.2.1⟩
    rw [lpS]
    show fn_Ls_ends_L24 16 (nI w) (nI k) (mk f l R) _ = _
    have en : f 47 2 = nI (a 87) := cC_npla hc
    have o1 := c_onAll (l := l) zb63 h.2.1 h.2.2.1
    have o2 := c_wears (l := l) zb63 h.2.1
    rw [fix 68 (by decide) (by decide)] at o2
    rw [e] at o1 o2
    unfold enP
    rcases (by omega : w = 0 ∨ w = 1) with rfl | rfl
    · rw [if_pos rfl]
      simp (disch := omega) only [wbr_T, wbr_F, wgd_T, wbq, wbv, wnm, zI_mk, zL_mk, uI_mk, uL_mk, kI_mk, kL_mk, nI_add, nI_mul, nI_sub, nI_div, nI_clamp, wgB, wgP, nI_leI, nI_ltI, nI_eq, nI_eqm, nI_eqm5, wdT, wdF, wd1, wd0, li_0, li_1, li_2, li_3, li_4, li_5, li_6, li_7, li_8, li_9, li_10, li_11, li_12, li_13, li_14, li_15, li_16, li_17, li_18, li_19, li_20, li_21, li_22, li_23, li_24, li_25, li_26, li_27, li_28, li_29, li_30, li_31, li_32, li_33, li_38, li_40, li_41, li_48, li_57, li_58, li_59, li_60, li_61, li_62, li_63, li_68, li_69, li_70, li_71, li_72, li_73, li_74, li_75, li_83, li_87, li_88, li_89, li_99, li_100, li_104, li_105, li_106, li_107, li_108, li_109, li_110, li_111, li_112, li_113, li_114, li_115, li_116, li_117, li_118, li_119, li_120, li_121, li_124, li_127, li_128, li_200, li_4095, li_4096, li_9999, c0, c1, c2, c3, c4, c5, c6, c7, c8, u0, u1, u2, u3, u4, u5, u6, u7, u8, u9, u10, u11, u12, u13, u14, u15, u16, u17, u18, u19, u20, u21, u22, u23, u24, u25, u26, u27, u28, u29, u30, v0, v1, v2, v3, v4, v5, v6, v7, v8, v9, v10, v11, v12, v13, v14, v15, v16, v17, v18, v19, v20, v21, v22, v23, v24, v25, v26, v27, v28, v29, v30, fn_Ls_ends_L24, en, o1]
    · rw [if_neg (by decide)]
      simp (disch := omega) only [wbr_T, wbr_F, wgd_T, wbq, wbv, wnm, zI_mk, zL_mk, uI_mk, uL_mk, kI_mk, kL_mk, nI_add, nI_mul, nI_sub, nI_div, nI_clamp, wgB, wgP, nI_leI, nI_ltI, nI_eq, nI_eqm, nI_eqm5, wdT, wdF, wd1, wd0, li_0, li_1, li_2, li_3, li_4, li_5, li_6, li_7, li_8, li_9, li_10, li_11, li_12, li_13, li_14, li_15, li_16, li_17, li_18, li_19, li_20, li_21, li_22, li_23, li_24, li_25, li_26, li_27, li_28, li_29, li_30, li_31, li_32, li_33, li_38, li_40, li_41, li_48, li_57, li_58, li_59, li_60, li_61, li_62, li_63, li_68, li_69, li_70, li_71, li_72, li_73, li_74, li_75, li_83, li_87, li_88, li_89, li_99, li_100, li_104, li_105, li_106, li_107, li_108, li_109, li_110, li_111, li_112, li_113, li_114, li_115, li_116, li_117, li_118, li_119, li_120, li_121, li_124, li_127, li_128, li_200, li_4095, li_4096, li_9999, c0, c1, c2, c3, c4, c5, c6, c7, c8, u0, u1, u2, u3, u4, u5, u6, u7, u8, u9, u10, u11, u12, u13, u14, u15, u16, u17, u18, u19, u20, u21, u22, u23, u24, u25, u26, u27, u28, u29, u30, v0, v1, v2, v3, v4, v5, v6, v7, v8, v9, v10, v11, v12, v13, v14, v15, v16, v17, v18, v19, v20, v21, v22, v23, v24, v25, v26, v27, v28, v29, v30, fn_Ls_ends_L24, en, o2]
  | e + 1, k, G, f, he, hG, h, hc, fix => by
    obtain ⟨G, rfl⟩ : ∃ H, G = H + 1 := ⟨G - 1, by omega⟩
    obtain ⟨c0, c1, c2, c3, c4, c5, c6, c7, c8⟩ := hbC
    obtain ⟨u0, u1, u2, u3, u4, u5, u6, u7, u8, u9, u10, u11, u12, u13, u14, u15, u16, u17, u18, u19, u20, u21, u22, u23, u24, u25, u26, u27, u28, u29, u30⟩ := hbB
    obtain ⟨v0, v1, v2, v3, v4, v5, v6, v7, v8, v9, v10, v11, v12, v13, v14, v15, v16, v17, v18, v19, v20, v21, v22, v23, v24, v25, v26, v27, v28, v29, v30⟩ := hbD
    have z8 := hR.1.2.1
    have hk : k < a 87 := by omega
    have ho := GR_plO hR hk
    have z6 := h.2.1.1.1
    have e68 := fix 68 (by decide) (by decide)
    rw [lpS]
    show ∃ f', fn_Ls_ends_L24 16 (nI w) (nI k) (mk f l R) _ = _ ∧ _
    have en : f 47 2 = nI (a 87) := cC_npla hc
    have b1 : f 48 (k * 3) = nI (a (88 + 2 * k)) := by
      have q := cC_pla hc (m := 2 * k) (by omega)
      rw [show 3 * (2 * k / 2) + 2 * k % 2 = k * 3 by omega] at q
      exact q
    have b2 : f 48 (k * 3 + 1) = nI (a (89 + 2 * k)) := by
      have q := cC_pla hc (m := 2 * k + 1) (by omega)
      rw [show 3 * ((2 * k + 1) / 2) + (2 * k + 1) % 2 = k * 3 + 1 by omega, show 88 + (2 * k + 1) = 89 + 2 * k by omega] at q
      exact q
    have cl0 := c_cell (l := l) (R := R) (p := 47) (k := k) (c := 0) (C := 24) (u6 f l R) (u24 f l R) (u7 f l R) (u14 f l R) en (by omega) (by decide) (by omega) (by decide)
    have cl1 := c_cell (l := l) (R := R) (p := 47) (k := k) (c := 1) (C := 24) (u6 f l R) (u24 f l R) (u7 f l R) (u14 f l R) en (by omega) (by decide) (by omega) (by decide)
    rw [show 47 + 1 = 48 from rfl, show k * 3 + 0 = k * 3 from rfl, b1] at cl0
    rw [show 47 + 1 = 48 from rfl, b2] at cl1
    obtain ⟨f1, e1, d1, k1⟩ := c_follow (l := l) h (by rw [e68]; exact ho) (by omega)
    have hg := Gd_pl (V := rV T N) h.2.2.1 z6 (by rw [e68]; exact ho)
    obtain ⟨f2, e2, d2, k2⟩ := c_endsl hw hR e (k + 1) G f1 (by omega) (by omega) k1 (cC_fr hc (fun p j q1 q2 => d1 p j (by omega)) rfl) (fun q h1 h2 => (hg.2 q h1 h2).trans (fix q h1 h2))
    refine ⟨f2, ?_, cd_t d1 d2, k2⟩
    simp (disch := omega) only [wbr_T, wbr_F, wgd_T, wbq, wbv, wnm, zI_mk, zL_mk, uI_mk, uL_mk, kI_mk, kL_mk, nI_add, nI_mul, nI_sub, nI_div, nI_clamp, wgB, wgP, nI_leI, nI_ltI, nI_eq, nI_eqm, nI_eqm5, wdT, wdF, wd1, wd0, li_0, li_1, li_2, li_3, li_4, li_5, li_6, li_7, li_8, li_9, li_10, li_11, li_12, li_13, li_14, li_15, li_16, li_17, li_18, li_19, li_20, li_21, li_22, li_23, li_24, li_25, li_26, li_27, li_28, li_29, li_30, li_31, li_32, li_33, li_38, li_40, li_41, li_48, li_57, li_58, li_59, li_60, li_61, li_62, li_63, li_68, li_69, li_70, li_71, li_72, li_73, li_74, li_75, li_83, li_87, li_88, li_89, li_99, li_100, li_104, li_105, li_106, li_107, li_108, li_109, li_110, li_111, li_112, li_113, li_114, li_115, li_116, li_117, li_118, li_119, li_120, li_121, li_124, li_127, li_128, li_200, li_4095, li_4096, li_9999, c0, c1, c2, c3, c4, c5, c6, c7, c8, u0, u1, u2, u3, u4, u5, u6, u7, u8, u9, u10, u11, u12, u13, u14, u15, u16, u17, u18, u19, u20, u21, u22, u23, u24, u25, u26, u27, u28, u29, u30, v0, v1, v2, v3, v4, v5, v6, v7, v8, v9, v10, v11, v12, v13, v14, v15, v16, v17, v18, v19, v20, v21, v22, v23, v24, v25, v26, v27, v28, v29, v30, fn_Ls_ends_L24, en, cl0, cl1, e1]
    exact e2
theorem m_endsl (hw : w < 2) (hR : GR a) : ∀ (e k G : Nat) (f : Nat → Nat → Int32), k + e = a 87 → e < G → MX T N ru (9999 + k) (plF (rV T N) a k) f → (∀ q, 68 ≤ q → ¬ q = 69 → plF (rV T N) a k q = a q) →
    ∃ f', lp (σ := Nat × Int32 × Int32 × zS) (fun k s => fn_Mo_ends_L24 s.1 s.2.1 s.2.2.1 s.2.2.2 (fun (a0 : Nat) (a1 : Int32) (a2 : Int32) (S : zS) => k (a0, a1, a2, S))) G (137, nI w, nI k, mk f l R) = (bv (fn_Mo_move 139 138 (mk f' l R)) fun S => some (nI (enP (rV T N) a w), S)) ∧ sd f f' ∧ ∀ q, 121 ≤ q → f' 138 q = nI (a q)
  | 0, k, G, f, he, hG, h, fix => by
    obtain ⟨G, rfl⟩ : ∃ H, G = H + 1 := ⟨G - 1, by omega⟩
    have z8 := hR.1.2.1
    have e : k = a 87 := by omega
    have hA := h.2.1
    refine ⟨f, ?_, sd_r, fun q hq => by rw [hA, fix q (by omega) (by omega)]⟩
    rw [lpS]
    show fn_Mo_ends_L24 137 (nI w) (nI k) (mk f l R) _ = _
    have en : f 138 87 = nI (a 87) := by rw [hA, fix 87 (by decide) (by decide)]
    have o1 := m_onAll (l := l) (R := R) h
    have o2 := m_wears (l := l) (R := R) h
    rw [fix 68 (by decide) (by decide)] at o2
    rw [e] at o1 o2
    unfold enP
    rcases (by omega : w = 0 ∨ w = 1) with rfl | rfl
    · rw [if_pos rfl]
      simp (disch := omega) only [wbr_T, wbr_F, wgd_T, wbq, wbv, wnm, zI_mk, zL_mk, uI_mk, uL_mk, kI_mk, kL_mk, nI_add, nI_mul, nI_sub, nI_div, nI_clamp, wgB, wgP, nI_leI, nI_ltI, nI_eq, nI_eqm, nI_eqm5, wdT, wdF, wd1, wd0, li_0, li_1, li_2, li_3, li_4, li_5, li_6, li_7, li_8, li_9, li_10, li_11, li_12, li_13, li_14, li_15, li_16, li_17, li_18, li_19, li_20, li_21, li_22, li_23, li_24, li_25, li_26, li_27, li_28, li_29, li_30, li_31, li_32, li_33, li_38, li_40, li_41, li_48, li_57, li_58, li_59, li_60, li_61, li_62, li_63, li_68, li_69, li_70, li_71, li_72, li_73, li_74, li_75, li_83, li_87, li_88, li_89, li_99, li_100, li_104, li_105, li_106, li_107, li_108, li_109, li_110, li_111, li_112, li_113, li_114, li_115, li_116, li_117, li_118, li_119, li_120, li_121, li_124, li_127, li_128, li_200, li_4095, li_4096, li_9999, gT_mk_137, zT_mk_137, zR_mk_137_0, zR_mk_137_1, zR_mk_137_2, zR_mk_137_4, zR_mk_137_6, zR_mk_137_7, zR_mk_137_9, zR_mk_137_16, zR_mk_137_17, zR_mk_137_18, zR_mk_137_19, zR_mk_137_20, zR_mk_137_22, zR_mk_137_24, zR_mk_137_25, zR_mk_137_26, zR_mk_137_28, zR_mk_137_29, zR_mk_137_30, zR_mk_137_31, gT_mk_138, zT_mk_138, gT_mk_139, zT_mk_139, gT_mk_140, zT_mk_140, gT_mk_141, zT_mk_141, gT_mk_142, zT_mk_142, gT_mk_143, zT_mk_143, gT_mk_144, zT_mk_144, gT_mk_145, zT_mk_145, gT_mk_146, zT_mk_146, gT_mk_147, zT_mk_147, gT_mk_148, zT_mk_148, gT_mk_149, zT_mk_149, gT_mk_150, zT_mk_150, gT_mk_151, zT_mk_151, gT_mk_152, zT_mk_152, gT_mk_153, zT_mk_153, gT_mk_154, zT_mk_154, gT_mk_155, zT_mk_155, gT_mk_156, zT_mk_156, gT_mk_157, zT_mk_157, fn_Mo_ends_L24, en, o1]
    · rw [if_neg (by decide)]
      simp (disch := omega) only [wbr_T, wbr_F, wgd_T, wbq, wbv, wnm, zI_mk, zL_mk, uI_mk, uL_mk, kI_mk, kL_mk, nI_add, nI_mul, nI_sub, nI_div, nI_clamp, wgB, wgP, nI_leI, nI_ltI, nI_eq, nI_eqm, nI_eqm5, wdT, wdF, wd1, wd0, li_0, li_1, li_2, li_3, li_4, li_5, li_6, li_7, li_8, li_9, li_10, li_11, li_12, li_13, li_14, li_15, li_16, li_17, li_18, li_19, li_20, li_21, li_22, li_23, li_24, li_25, li_26, li_27, li_28, li_29, li_30, li_31, li_32, li_33, li_38, li_40, li_41, li_48, li_57, li_58, li_59, li_60, li_61, li_62, li_63, li_68, li_69, li_70, li_71, li_72, li_73, li_74, li_75, li_83, li_87, li_88, li_89, li_99, li_100, li_104, li_105, li_106, li_107, li_108, li_109, li_110, li_111, li_112, li_113, li_114, li_115, li_116, li_117, li_118, li_119, li_120, li_121, li_124, li_127, li_128, li_200, li_4095, li_4096, li_9999, gT_mk_137, zT_mk_137, zR_mk_137_0, zR_mk_137_1, zR_mk_137_2, zR_mk_137_4, zR_mk_137_6, zR_mk_137_7, zR_mk_137_9, zR_mk_137_16, zR_mk_137_17, zR_mk_137_18, zR_mk_137_19, zR_mk_137_20, zR_mk_137_22, zR_mk_137_24, zR_mk_137_25, zR_mk_137_26, zR_mk_137_28, zR_mk_137_29, zR_mk_137_30, zR_mk_137_31, gT_mk_138, zT_mk_138, gT_mk_139, zT_mk_139, gT_mk_140, zT_mk_140, gT_mk_141, zT_mk_141, gT_mk_142, zT_mk_142, gT_mk_143, zT_mk_143, gT_mk_144, zT_mk_144, gT_mk_145, zT_mk_145, gT_mk_146, zT_mk_146, gT_mk_147, zT_mk_147, gT_mk_148, zT_mk_148, gT_mk_149, zT_mk_149, gT_mk_150, zT_mk_150, gT_mk_151, zT_mk_151, gT_mk_152, zT_mk_152, gT_mk_153, zT_mk_153, gT_mk_154, zT_mk_154, gT_mk_155, zT_mk_155, gT_mk_156, zT_mk_156, gT_mk_157, zT_mk_157, fn_Mo_ends_L24, en, o2]
  | e + 1, k, G, f, he, hG, h, fix => by
    obtain ⟨G, rfl⟩ : ∃ H, G = H + 1 := ⟨G - 1, by omega⟩
    have z8 := hR.1.2.1
    have hk : k < a 87 := by omega
    have ho := GR_plO hR hk
    have z6 := (Gd_all h.2.2.1).1
    have e68 := fix 68 (by decide) (by decide)
    rw [lpS]
    obtain ⟨f1, e1, s1, k1⟩ := m_follow (l := l) (R := R) (x := nI w) h (by rw [e68]; exact ho) (by omega) (fix 87 (by decide) (by decide)) hk z8 (fix _ (by omega) (by omega)) (fix _ (by omega) (by omega))
    have hg := Gd_pl (V := rV T N) h.2.2.1 z6 (by rw [e68]; exact ho)
    obtain ⟨f2, e2, s2, k2⟩ := m_endsl hw hR e (k + 1) G f1 (by omega) (by omega) k1 (fun q h1 h2 => (hg.2 q h1 h2).trans (fix q h1 h2))
    exact ⟨f2, (e1 _).trans e2, sd_t s1 s2, k2⟩
end
theorem op_clean {j : Nat} (hj : j < 4) : OpI (fn_Ls_daysTillClean 16 (nI j)) (fn_Mo_clean 137 (nI j)) := by
  intro f l R h
  obtain ⟨ru, T, N, ⟨a, hc, hA, hG, hR⟩, hE⟩ := id h
  obtain ⟨c0, c1, c2, c3, c4, c5, c6, c7, c8⟩ := hbC
  obtain ⟨u0, u1, u2, u3, u4, u5, u6, u7, u8, u9, u10, u11, u12, u13, u14, u15, u16, u17, u18, u19, u20, u21, u22, u23, u24, u25, u26, u27, u28, u29, u30⟩ := hbB
  obtain ⟨z6, z7, z8, z9⟩ := id hc.1
  have gA := Gd_all hG
  obtain ⟨f1, e1, hX, d1, go⟩ := ask_go h hE hc hA hG
  obtain ⟨f2, e2, d2, hN⟩ := c_cleanl (l := l) hj 61 0 FU f1 rfl (by decide) hX
  obtain ⟨g1, e3, hM, back⟩ := go f2 d2 hN
  obtain ⟨g2, m, e4, s4, hM4⟩ := m_cleanl (l := l) (R := ur R 63 (R 41)) hj 61 0 FU g1 rfl (by decide) hM
  obtain ⟨g3, e5, hI⟩ := back g2 s4 (fun k hk => by rw [hM4.2.1, (Gd_days hG m).2.1 k (by omega) (by omega)])
  refine ⟨clP (rV T N) a j 61 0, f2, l, ur R 63 (R 41), g3, l, ?_, ?_, hI⟩
  · simp (disch := omega) only [wbr_T, wbr_F, wgd_T, wbq, wbv, wnm, zI_mk, zL_mk, uI_mk, uL_mk, kI_mk, kL_mk, nI_add, nI_mul, nI_sub, nI_div, nI_clamp, wgB, wgP, nI_leI, nI_ltI, nI_eq, nI_eqm, nI_eqm5, wdT, wdF, wd1, wd0, li_0, li_1, li_2, li_3, li_4, li_5, li_6, li_7, li_8, li_9, li_10, li_11, li_12, li_13, li_14, li_15, li_16, li_17, li_18, li_19, li_20, li_21, li_22, li_23, li_24, li_25, li_26, li_27, li_28, li_29, li_30, li_31, li_32, li_33, li_38, li_40, li_41, li_48, li_57, li_58, li_59, li_60, li_61, li_62, li_63, li_68, li_69, li_70, li_71, li_72, li_73, li_74, li_75, li_83, li_87, li_88, li_89, li_99, li_100, li_104, li_105, li_106, li_107, li_108, li_109, li_110, li_111, li_112, li_113, li_114, li_115, li_116, li_117, li_118, li_119, li_120, li_121, li_124, li_127, li_128, li_200, li_4095, li_4096, li_9999, c0, c1, c2, c3, c4, c5, c6, c7, c8, u0, u1, u2, u3, u4, u5, u6, u7, u8, u9, u10, u11, u12, u13, u14, u15, u16, u17, u18, u19, u20, u21, u22, u23, u24, u25, u26, u27, u28, u29, u30, fn_Ls_daysTillClean, e1]
    exact e2
  · rw [e5, wbv] at e4
    simp (disch := omega) only [wbr_T, wbr_F, wgd_T, wbq, wbv, wnm, zI_mk, zL_mk, uI_mk, uL_mk, kI_mk, kL_mk, nI_add, nI_mul, nI_sub, nI_div, nI_clamp, wgB, wgP, nI_leI, nI_ltI, nI_eq, nI_eqm, nI_eqm5, wdT, wdF, wd1, wd0, li_0, li_1, li_2, li_3, li_4, li_5, li_6, li_7, li_8, li_9, li_10, li_11, li_12, li_13, li_14, li_15, li_16, li_17, li_18, li_19, li_20, li_21, li_22, li_23, li_24, li_25, li_26, li_27, li_28, li_29, li_30, li_31, li_32, li_33, li_38, li_40, li_41, li_48, li_57, li_58, li_59, li_60, li_61, li_62, li_63, li_68, li_69, li_70, li_71, li_72, li_73, li_74, li_75, li_83, li_87, li_88, li_89, li_99, li_100, li_104, li_105, li_106, li_107, li_108, li_109, li_110, li_111, li_112, li_113, li_114, li_115, li_116, li_117, li_118, li_119, li_120, li_121, li_124, li_127, li_128, li_200, li_4095, li_4096, li_9999, gT_mk_137, zT_mk_137, zR_mk_137_0, zR_mk_137_1, zR_mk_137_2, zR_mk_137_4, zR_mk_137_6, zR_mk_137_7, zR_mk_137_9, zR_mk_137_16, zR_mk_137_17, zR_mk_137_18, zR_mk_137_19, zR_mk_137_20, zR_mk_137_22, zR_mk_137_24, zR_mk_137_25, zR_mk_137_26, zR_mk_137_28, zR_mk_137_29, zR_mk_137_30, zR_mk_137_31, gT_mk_138, zT_mk_138, gT_mk_139, zT_mk_139, gT_mk_140, zT_mk_140, gT_mk_141, zT_mk_141, gT_mk_142, zT_mk_142, gT_mk_143, zT_mk_143, gT_mk_144, zT_mk_144, gT_mk_145, zT_mk_145, gT_mk_146, zT_mk_146, gT_mk_147, zT_mk_147, gT_mk_148, zT_mk_148, gT_mk_149, zT_mk_149, gT_mk_150, zT_mk_150, gT_mk_151, zT_mk_151, gT_mk_152, zT_mk_152, gT_mk_153, zT_mk_153, gT_mk_154, zT_mk_154, gT_mk_155, zT_mk_155, gT_mk_156, zT_mk_156, gT_mk_157, zT_mk_157, fn_Mo_clean, e3]
    exact e4
theorem op_ends (x : Int32) : OpI (fn_Ls_ends 16 x) (fn_Mo_ends 137 x) := by
  intro f l R h
  obtain ⟨ru, T, N, ⟨a, hc, hA, hG, hR⟩, hE⟩ := id h
  obtain ⟨c0, c1, c2, c3, c4, c5, c6, c7, c8⟩ := hbC
  obtain ⟨u0, u1, u2, u3, u4, u5, u6, u7, u8, u9, u10, u11, u12, u13, u14, u15, u16, u17, u18, u19, u20, u21, u22, u23, u24, u25, u26, u27, u28, u29, u30⟩ := hbB
  obtain ⟨z6, z7, z8, z9⟩ := id hc.1
  have gA := Gd_all hG
  have z8 := hR.1.2.1
  rcases ix_or x (N := 2) (by decide) with ⟨w, hw, rfl⟩ | hx
  · have m1 := fun S : zS => m_in (S := S) (k := w) (lo := 0) (hi := 1) (by omega) (by omega) (by decide)
    obtain ⟨f1, e1, hX, d1, go⟩ := ask_go h hE hc hA hG
    have hc1 : cC 41 a f1 (ur R 63 (R 41)) := cC_fr hc (fun p j q1 q2 => d1 p j (by omega)) rfl
    obtain ⟨f2, e2, d2, hN⟩ := c_endsl (l := l) hw hR (a 87) 0 FU f1 (Nat.zero_add _) (by show _ < 5000; omega) hX hc1 (fun _ _ _ => rfl)
    obtain ⟨g1, e3, hM, back⟩ := go f2 d2 hN
    obtain ⟨g2, e4, s4, hk⟩ := m_endsl (l := l) (R := ur R 63 (R 41)) hw hR (a 87) 0 FU g1 (Nat.zero_add _) (by show _ < 5000; omega) hM (fun _ _ _ => rfl)
    obtain ⟨g3, e5, hI⟩ := back g2 s4 hk
    refine ⟨nI (enP (rV T N) a w), f2, l, ur R 63 (R 41), g3, l, ?_, ?_, hI⟩
    · simp (disch := omega) only [wbr_T, wbr_F, wgd_T, wbq, wbv, wnm, zI_mk, zL_mk, uI_mk, uL_mk, kI_mk, kL_mk, nI_add, nI_mul, nI_sub, nI_div, nI_clamp, wgB, wgP, nI_leI, nI_ltI, nI_eq, nI_eqm, nI_eqm5, wdT, wdF, wd1, wd0, li_0, li_1, li_2, li_3, li_4, li_5, li_6, li_7, li_8, li_9, li_10, li_11, li_12, li_13, li_14, li_15, li_16, li_17, li_18, li_19, li_20, li_21, li_22, li_23, li_24, li_25, li_26, li_27, li_28, li_29, li_30, li_31, li_32, li_33, li_38, li_40, li_41, li_48, li_57, li_58, li_59, li_60, li_61, li_62, li_63, li_68, li_69, li_70, li_71, li_72, li_73, li_74, li_75, li_83, li_87, li_88, li_89, li_99, li_100, li_104, li_105, li_106, li_107, li_108, li_109, li_110, li_111, li_112, li_113, li_114, li_115, li_116, li_117, li_118, li_119, li_120, li_121, li_124, li_127, li_128, li_200, li_4095, li_4096, li_9999, c0, c1, c2, c3, c4, c5, c6, c7, c8, u0, u1, u2, u3, u4, u5, u6, u7, u8, u9, u10, u11, u12, u13, u14, u15, u16, u17, u18, u19, u20, u21, u22, u23, u24, u25, u26, u27, u28, u29, u30, fn_Ls_ends, e1]
      exact e2
    · rw [e5, wbv] at e4
      simp (disch := omega) only [wbr_T, wbr_F, wgd_T, wbq, wbv, wnm, zI_mk, zL_mk, uI_mk, uL_mk, kI_mk, kL_mk, nI_add, nI_mul, nI_sub, nI_div, nI_clamp, wgB, wgP, nI_leI, nI_ltI, nI_eq, nI_eqm, nI_eqm5, wdT, wdF, wd1, wd0, li_0, li_1, li_2, li_3, li_4, li_5, li_6, li_7, li_8, li_9, li_10, li_11, li_12, li_13, li_14, li_15, li_16, li_17, li_18, li_19, li_20, li_21, li_22, li_23, li_24, li_25, li_26, li_27, li_28, li_29, li_30, li_31, li_32, li_33, li_38, li_40, li_41, li_48, li_57, li_58, li_59, li_60, li_61, li_62, li_63, li_68, li_69, li_70, li_71, li_72, li_73, li_74, li_75, li_83, li_87, li_88, li_89, li_99, li_100, li_104, li_105, li_106, li_107, li_108, li_109, li_110, li_111, li_112, li_113, li_114, li_115, li_116, li_117, li_118, li_119, li_120, li_121, li_124, li_127, li_128, li_200, li_4095, li_4096, li_9999, gT_mk_137, zT_mk_137, zR_mk_137_0, zR_mk_137_1, zR_mk_137_2, zR_mk_137_4, zR_mk_137_6, zR_mk_137_7, zR_mk_137_9, zR_mk_137_16, zR_mk_137_17, zR_mk_137_18, zR_mk_137_19, zR_mk_137_20, zR_mk_137_22, zR_mk_137_24, zR_mk_137_25, zR_mk_137_26, zR_mk_137_28, zR_mk_137_29, zR_mk_137_30, zR_mk_137_31, gT_mk_138, zT_mk_138, gT_mk_139, zT_mk_139, gT_mk_140, zT_mk_140, gT_mk_141, zT_mk_141, gT_mk_142, zT_mk_142, gT_mk_143, zT_mk_143, gT_mk_144, zT_mk_144, gT_mk_145, zT_mk_145, gT_mk_146, zT_mk_146, gT_mk_147, zT_mk_147, gT_mk_148, zT_mk_148, gT_mk_149, zT_mk_149, gT_mk_150, zT_mk_150, gT_mk_151, zT_mk_151, gT_mk_152, zT_mk_152, gT_mk_153, zT_mk_153, gT_mk_154, zT_mk_154, gT_mk_155, zT_mk_155, gT_mk_156, zT_mk_156, gT_mk_157, zT_mk_157, fn_Mo_ends, m1, e3]
      exact e4
  · have m1 := fun S : zS => m_out (S := S) (hi := 1) hx (by decide)
    refine op_same (r := -nI 1) h ?_ ?_
    · by_cases h0 : x < nI 0
      · simp (disch := omega) only [wbr_T, wbr_F, wgd_T, wbq, wbv, wnm, zI_mk, zL_mk, uI_mk, uL_mk, kI_mk, kL_mk, nI_add, nI_mul, nI_sub, nI_div, nI_clamp, wgB, wgP, nI_leI, nI_ltI, nI_eq, nI_eqm, nI_eqm5, wdT, wdF, wd1, wd0, li_0, li_1, li_2, li_3, li_4, li_5, li_6, li_7, li_8, li_9, li_10, li_11, li_12, li_13, li_14, li_15, li_16, li_17, li_18, li_19, li_20, li_21, li_22, li_23, li_24, li_25, li_26, li_27, li_28, li_29, li_30, li_31, li_32, li_33, li_38, li_40, li_41, li_48, li_57, li_58, li_59, li_60, li_61, li_62, li_63, li_68, li_69, li_70, li_71, li_72, li_73, li_74, li_75, li_83, li_87, li_88, li_89, li_99, li_100, li_104, li_105, li_106, li_107, li_108, li_109, li_110, li_111, li_112, li_113, li_114, li_115, li_116, li_117, li_118, li_119, li_120, li_121, li_124, li_127, li_128, li_200, li_4095, li_4096, li_9999, c0, c1, c2, c3, c4, c5, c6, c7, c8, u0, u1, u2, u3, u4, u5, u6, u7, u8, u9, u10, u11, u12, u13, u14, u15, u16, u17, u18, u19, u20, u21, u22, u23, u24, u25, u26, u27, u28, u29, u30, fn_Ls_ends, h0]
      · have h1 := ox_le hx h0 (by decide)
        simp (disch := omega) only [wbr_T, wbr_F, wgd_T, wbq, wbv, wnm, zI_mk, zL_mk, uI_mk, uL_mk, kI_mk, kL_mk, nI_add, nI_mul, nI_sub, nI_div, nI_clamp, wgB, wgP, nI_leI, nI_ltI, nI_eq, nI_eqm, nI_eqm5, wdT, wdF, wd1, wd0, li_0, li_1, li_2, li_3, li_4, li_5, li_6, li_7, li_8, li_9, li_10, li_11, li_12, li_13, li_14, li_15, li_16, li_17, li_18, li_19, li_20, li_21, li_22, li_23, li_24, li_25, li_26, li_27, li_28, li_29, li_30, li_31, li_32, li_33, li_38, li_40, li_41, li_48, li_57, li_58, li_59, li_60, li_61, li_62, li_63, li_68, li_69, li_70, li_71, li_72, li_73, li_74, li_75, li_83, li_87, li_88, li_89, li_99, li_100, li_104, li_105, li_106, li_107, li_108, li_109, li_110, li_111, li_112, li_113, li_114, li_115, li_116, li_117, li_118, li_119, li_120, li_121, li_124, li_127, li_128, li_200, li_4095, li_4096, li_9999, c0, c1, c2, c3, c4, c5, c6, c7, c8, u0, u1, u2, u3, u4, u5, u6, u7, u8, u9, u10, u11, u12, u13, u14, u15, u16, u17, u18, u19, u20, u21, u22, u23, u24, u25, u26, u27, u28, u29, u30, fn_Ls_ends, h0, h1]
    · simp (disch := omega) only [wbr_T, wbr_F, wgd_T, wbq, wbv, wnm, zI_mk, zL_mk, uI_mk, uL_mk, kI_mk, kL_mk, nI_add, nI_mul, nI_sub, nI_div, nI_clamp, wgB, wgP, nI_leI, nI_ltI, nI_eq, nI_eqm, nI_eqm5, wdT, wdF, wd1, wd0, li_0, li_1, li_2, li_3, li_4, li_5, li_6, li_7, li_8, li_9, li_10, li_11, li_12, li_13, li_14, li_15, li_16, li_17, li_18, li_19, li_20, li_21, li_22, li_23, li_24, li_25, li_26, li_27, li_28, li_29, li_30, li_31, li_32, li_33, li_38, li_40, li_41, li_48, li_57, li_58, li_59, li_60, li_61, li_62, li_63, li_68, li_69, li_70, li_71, li_72, li_73, li_74, li_75, li_83, li_87, li_88, li_89, li_99, li_100, li_104, li_105, li_106, li_107, li_108, li_109, li_110, li_111, li_112, li_113, li_114, li_115, li_116, li_117, li_118, li_119, li_120, li_121, li_124, li_127, li_128, li_200, li_4095, li_4096, li_9999, gT_mk_137, zT_mk_137, zR_mk_137_0, zR_mk_137_1, zR_mk_137_2, zR_mk_137_4, zR_mk_137_6, zR_mk_137_7, zR_mk_137_9, zR_mk_137_16, zR_mk_137_17, zR_mk_137_18, zR_mk_137_19, zR_mk_137_20, zR_mk_137_22, zR_mk_137_24, zR_mk_137_25, zR_mk_137_26, zR_mk_137_28, zR_mk_137_29, zR_mk_137_30, zR_mk_137_31, gT_mk_138, zT_mk_138, gT_mk_139, zT_mk_139, gT_mk_140, zT_mk_140, gT_mk_141, zT_mk_141, gT_mk_142, zT_mk_142, gT_mk_143, zT_mk_143, gT_mk_144, zT_mk_144, gT_mk_145, zT_mk_145, gT_mk_146, zT_mk_146, gT_mk_147, zT_mk_147, gT_mk_148, zT_mk_148, gT_mk_149, zT_mk_149, gT_mk_150, zT_mk_150, gT_mk_151, zT_mk_151, gT_mk_152, zT_mk_152, gT_mk_153, zT_mk_153, gT_mk_154, zT_mk_154, gT_mk_155, zT_mk_155, gT_mk_156, zT_mk_156, gT_mk_157, zT_mk_157, fn_Mo_ends, m1]
