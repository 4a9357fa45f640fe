/-! what is asked goes on in the house 'ahead', and comes back in the model -/
section
variable {f f1 g1 g2 g3 : Nat → Nat → Int32} {l : Nat → Nat → Int64} {R : Nat → Nat} {a : Nat → Nat} {x : Nat} {T : Nat → Nat → Nat} {N : Nat → Nat} {ru D n : Nat}
theorem Iv_ask (h : Iv f l R) (hA : ∀ k, f 138 k = nI (a k)) (hcd : cd 63 f f1) (hN : cN 63 f1) (q1 : ∀ j, j < 121 → g1 139 j = f1 138 j) (q2 : ∀ r j, ¬ (r = 139 ∧ j < 121) → g1 r j = f1 r j) (hsd : sd g1 g2) (hk : ∀ k, 121 ≤ k → g2 138 k = nI (a k)) (q3 : ∀ j, j < 121 → g3 138 j = g2 139 j) (q4 : ∀ r j, ¬ (r = 138 ∧ j < 121) → g3 r j = g2 r j) : Iv g3 l (ur R 63 x) := by
  have lo : ∀ p j, p < 137 → g3 p j = f1 p j := fun p j hp => by
    rw [q4 p j (by omega), hsd p j (by omega) (by omega) (by omega) (by omega), q2 p j (by omega)]
  refine Iv_q h (fun p j hp => ?_) (fun p j h1 h2 => ?_) (fun k => ?_) (cN_fr hN (fun p j h1 h2 => lo p j (by omega))) (if_neg (by decide)) (if_neg (by decide))
  · unfold vol at hp
    rw [q4 p j (by omega), hsd p j (by omega) (by omega) (by omega) (by omega), q2 p j (by omega), hcd p j (by omega)]
  · rw [lo p j (by omega), hcd p j (by omega)]
  · by_cases e : k < 121
    · rw [q3 k e, hsd 139 k (by omega) (by omega) (by omega) (by omega), q1 k e, hcd 138 k (by omega)]
    · rw [q4 138 k (by omega), hk k (by omega), hA k]
theorem MX_139 (h : MX T N ru D a f) (q2 : ∀ r j, ¬ (r = 139 ∧ j < 121) → g1 r j = f r j) : MX T N ru D a g1 := by
  obtain ⟨⟨h1, h2, h3⟩, h4, h5⟩ := h
  exact ⟨⟨h1, fun r hr => ⟨(q2 _ _ (by omega)).trans (h2 r hr).1, fun k hk => (q2 _ _ (by omega)).trans ((h2 r hr).2 k hk)⟩, fun j hj => (q2 _ _ (by omega)).trans (h3.1 j hj), fun j hj => (q2 _ _ (by omega)).trans (h3.2 j hj)⟩, fun k => (q2 _ _ (by omega)).trans (h4 k), h5⟩
/-- days ahead, in both: the class's memory f2 then, the model's g2, and back: g3 -/
theorem ask_days (h : Iv f l R) (hE : Re ru T N f l R) (hc : cC 41 a f R) (hA : ∀ k, f 138 k = nI (a k)) (hG : Gd a ru 9999) (hn : n ≤ 60) : ∃ f1 f2 g1, fn_Ho_copy 63 41 (mk f l R) = some (mk f1 l (ur R 63 (R 41))) ∧ fn_Ho_goDays 63 (nI n) (mk f1 l (ur R 63 (R 41))) = some (mk f2 l (ur R 63 (R 41))) ∧ CX T N ru (9999 + n) 63 (daysS (rV T N) a n) f2 (ur R 63 (R 41)) ∧ cd 63 f f2
    ∧ fn_Mo_move 138 139 (mk f2 l (ur R 63 (R 41))) = some (mk g1 l (ur R 63 (R 41))) ∧ MX T N ru 9999 a g1 ∧ ∀ g2, sd g1 g2 → MX T N ru (9999 + n) (daysS (rV T N) a n) g2 → ∃ g3, fn_Mo_move 139 138 (mk g2 l (ur R 63 (R 41))) = some (mk g3 l (ur R 63 (R 41))) ∧ Iv g3 l (ur R 63 (R 41)) := by
  obtain ⟨f1, e1, d1, k1⟩ := c_copy (l := l) zb63 zb41 (by decide) hG hc hE.2.2.2.2.2.2
  have hX := JC_CX (b := 41) (Re_JC hE) (Re_JG hE) hc hG (by decide)
  have hX1 : CX T N ru 9999 63 a f1 (ur R 63 (R 41)) := ⟨CK_fr hX.1 (fun p j q => d1 p j (by omega)), k1, hG, by decide⟩
  obtain ⟨f2, e2, d2, k2⟩ := c_days (l := l) (n := n) zb63 hn hX1 (by omega)
  have hM := JC_MX (Re_JC hE) (Re_JG hE) hA hG (show 9999 < 2 ^ 20 by decide)
  have hM2 := MX_fr hM (fun p j hp => (cd_t d1 d2) p j (by omega))
  obtain ⟨g1, e3, q1, q2⟩ := m_mv1 (f := f2) (l := l) (R := ur R 63 (R 41))
  refine ⟨f1, f2, g1, e1, e2, k2, cd_t d1 d2, e3, MX_139 hM2 q2, fun g2 hs hm => ?_⟩
  obtain ⟨g3, e4, q3, q4⟩ := m_mv2 (f := g2) (l := l) (R := ur R 63 (R 41))
  exact ⟨g3, e4, Iv_ask h hA (cd_t d1 d2) k2.2.1.2.1 q1 q2 hs (fun k hk => by rw [hm.2.1 k, (Gd_days hG n).2.1 k (by omega) (by omega)]) q3 q4⟩
theorem wrN_lt (hG : Gd a ru D) : ∀ k, k ≤ 6 → wrN a k ≤ 99 * k
  | 0, _ => Nat.le_refl _
  | k + 1, h => by
    have h1 := wrN_lt hG k (by omega)
    have h2 := (Gd_gs hG (show k < 6 by omega)).2.2.2.1
    show wrN a k + a (10 * k + 3) ≤ _
    omega
end
/-- ON, of a number that there is -/
theorem op_on_core {f : Nat → Nat → Int32} {l : Nat → Nat → Int64} {R : Nat → Nat} {a : Nat → Nat} {ru : Nat} {T : Nat → Nat → Nat} {N : Nat → Nat} {x y r3 : Int32} (h : Iv f l R) (hc : cC 41 a f R) (hA : ∀ k, f 138 k = nI (a k)) (hG : Gd a ru 9999) (hE : Re ru T N f l R)
    (hcl : fn_Ls_on 16 x y (mk f l R) = fn_Ls_on_L30 16 x y (mk f l R)) (hm : ∀ g R', (∀ k, g 138 k = f 138 k) → fn_Mo_on_ 137 x y (mk g l R') = fn_Mo_on__L30 137 x y r3 (mk g l R')) (ans : Nat → Int32)
    (hct : ∀ n f1 f2, n ≤ 60 → fn_Ho_copy 63 41 (mk f l R) = some (mk f1 l (ur R 63 (R 41))) → fn_Ho_goDays 63 (nI n) (mk f1 l (ur R 63 (R 41))) = some (mk f2 l (ur R 63 (R 41))) → CX T N ru (9999 + n) 63 (daysS (rV T N) a n) f2 (ur R 63 (R 41)) → fn_Ls_on_L30 16 (nI n) y (mk f l R) = some (ans n, mk f2 l (ur R 63 (R 41))))
    (hmt : ∀ n g2 g3 K, n ≤ 60 → MX T N ru (9999 + n) (daysS (rV T N) a n) g2 → fn_Mo_move 139 138 (mk g2 l (ur R 63 (R 41))) = some (mk g3 l (ur R 63 (R 41))) → fn_Mo_on__L57 137 (nI n) y r3 (nI n) (mk g2 l (ur R 63 (R 41))) K = some (ans n, mk g3 l (ur R 63 (R 41)))) :
    ∃ r f1 l1 R1 f2 l2, fn_Ls_on 16 x y (mk f l R) = some (r, mk f1 l1 R1) ∧ fn_Mo_on_ 137 x y (mk f1 l1 R1) = some (r, mk f2 l2 R1) ∧ Iv f2 l2 R1 := by
  obtain ⟨c0, c1, c2, c3, c4, c5, c6, c7, c8⟩ := hbC
  obtain ⟨u0, u1, u2, u3, u4, u5, u6, u7, u8, u9, u10, u11, u12, u13, u14, u15, u16, u17, u18, u19, u20, u21, u22, u23, u24, u25, u26, u27, u28, u29, u30⟩ := hbB
  rcases ix_or x (N := 61) (by decide) with ⟨n, hn, rfl⟩ | hx
  · obtain ⟨f1, f2, g1, e1, e2, k2, d2, e3, hM1, back⟩ := ask_days h hE hc hA hG (n := n) (by omega)
    have m1 := fun S : zS => m_in (S := S) (k := n) (lo := 0) (hi := 60) (by omega) (by omega) (by decide)
    obtain ⟨g2, G2, e4, s2, hM2⟩ := m_daysF (l := l) (R := ur R 63 (R 41)) (f := g1) (step := (fun k s => fn_Mo_on__L57 s.1 s.2.1 s.2.2.1 s.2.2.2.1 s.2.2.2.2.1 s.2.2.2.2.2 (fun (a0 : Nat) (a1 : Int32) (a2 : Int32) (a3 : Int32) (a4 : Int32) (S : zS) => k (a0, a1, a2, a3, a4, S)) : (Nat × Int32 × Int32 × Int32 × Int32 × zS → Option (Int32 × zS)) → (Nat × Int32 × Int32 × Int32 × Int32 × zS → Option (Int32 × zS)))) (fun k S => (137, nI n, y, r3, nI k, S)) (n := n) (by omega) rfl (fun k hk f K => by
      show fn_Mo_on__L57 137 (nI n) y r3 (nI k) (mk f l _) _ = _
      simp (disch := omega) only [wbr_T, wbr_F, wgd_T, wbq, wbv, wnm, zI_mk, zL_mk, uI_mk, uL_mk, kI_mk, kL_mk, nI_add, nI_mul, nI_sub, nI_div, nI_clamp, wgB, wgP, nI_leI, nI_ltI, nI_eq, nI_eqm, nI_eqm5, wdT, wdF, wd1, wd0, li_0, li_1, li_2, li_3, li_4, li_5, li_6, li_7, li_8, li_9, li_10, li_11, li_12, li_13, li_14, li_15, li_16, li_17, li_18, li_19, li_20, li_21, li_22, li_23, li_24, li_25, li_26, li_27, li_28, li_29, li_30, li_31, li_32, li_33, li_38, li_40, li_41, li_48, li_57, li_58, li_59, li_60, li_61, li_62, li_63, li_68, li_69, li_70, li_71, li_72, li_73, li_74, li_75, li_83, li_87, li_88, li_89, li_99, li_100, li_104, li_105, li_106, li_107, li_108, li_109, li_110, li_111, li_112, li_113, li_114, li_115, li_116, li_117, li_118, li_119, li_120, li_121, li_124, li_127, li_128, li_200, li_4095, li_4096, li_9999, gT_mk_137, zT_mk_137, zR_mk_137_0, zR_mk_137_1, zR_mk_137_2, zR_mk_137_4, zR_mk_137_6, zR_mk_137_7, zR_mk_137_9, zR_mk_137_16, zR_mk_137_17, zR_mk_137_18, zR_mk_137_19, zR_mk_137_20, zR_mk_137_22, zR_mk_137_24, zR_mk_137_25, zR_mk_137_26, zR_mk_137_28, zR_mk_137_29, zR_mk_137_30, zR_mk_137_31, gT_mk_138, zT_mk_138, gT_mk_139, zT_mk_139, gT_mk_140, zT_mk_140, gT_mk_141, zT_mk_141, gT_mk_142, zT_mk_142, gT_mk_143, zT_mk_143, gT_mk_144, zT_mk_144, gT_mk_145, zT_mk_145, gT_mk_146, zT_mk_146, gT_mk_147, zT_mk_147, gT_mk_148, zT_mk_148, gT_mk_149, zT_mk_149, gT_mk_150, zT_mk_150, gT_mk_151, zT_mk_151, gT_mk_152, zT_mk_152, gT_mk_153, zT_mk_153, gT_mk_154, zT_mk_154, gT_mk_155, zT_mk_155, gT_mk_156, zT_mk_156, gT_mk_157, zT_mk_157, fn_Mo_on__L57]) hM1 (by omega)
    obtain ⟨g3, e5, hI⟩ := back g2 s2 hM2
    have e6 : lp (σ := Nat × Int32 × Int32 × Int32 × Int32 × zS) (fun k s => fn_Mo_on__L57 s.1 s.2.1 s.2.2.1 s.2.2.2.1 s.2.2.2.2.1 s.2.2.2.2.2 (fun (a0 : Nat) (a1 : Int32) (a2 : Int32) (a3 : Int32) (a4 : Int32) (S : zS) => k (a0, a1, a2, a3, a4, S))) FU (137, nI n, y, r3, nI 0, mk g1 l (ur R 63 (R 41))) = some (ans n, mk g3 l (ur R 63 (R 41))) := by
      rw [e4]
      exact hmt n g2 g3 _ (by omega) hM2 e5
    refine ⟨ans n, f2, l, ur R 63 (R 41), g3, l, ?_, ?_, hI⟩
    · rw [hcl]
      exact hct n f1 f2 (by omega) e1 e2 k2
    · rw [hm f2 _ (fun k => d2 138 k (by omega))]
      simp (disch := omega) only [wbr_T, wbr_F, wgd_T, wbq, wbv, wnm, zI_mk, zL_mk, uI_mk, uL_mk, kI_mk, kL_mk, nI_add, nI_mul, nI_sub, nI_div, nI_clamp, wgB, wgP, nI_leI, nI_ltI, nI_eq, nI_eqm, nI_eqm5, wdT, wdF, wd1, wd0, li_0, li_1, li_2, li_3, li_4, li_5, li_6, li_7, li_8, li_9, li_10, li_11, li_12, li_13, li_14, li_15, li_16, li_17, li_18, li_19, li_20, li_21, li_22, li_23, li_24, li_25, li_26, li_27, li_28, li_29, li_30, li_31, li_32, li_33, li_38, li_40, li_41, li_48, li_57, li_58, li_59, li_60, li_61, li_62, li_63, li_68, li_69, li_70, li_71, li_72, li_73, li_74, li_75, li_83, li_87, li_88, li_89, li_99, li_100, li_104, li_105, li_106, li_107, li_108, li_109, li_110, li_111, li_112, li_113, li_114, li_115, li_116, li_117, li_118, li_119, li_120, li_121, li_124, li_127, li_128, li_200, li_4095, li_4096, li_9999, gT_mk_137, zT_mk_137, zR_mk_137_0, zR_mk_137_1, zR_mk_137_2, zR_mk_137_4, zR_mk_137_6, zR_mk_137_7, zR_mk_137_9, zR_mk_137_16, zR_mk_137_17, zR_mk_137_18, zR_mk_137_19, zR_mk_137_20, zR_mk_137_22, zR_mk_137_24, zR_mk_137_25, zR_mk_137_26, zR_mk_137_28, zR_mk_137_29, zR_mk_137_30, zR_mk_137_31, gT_mk_138, zT_mk_138, gT_mk_139, zT_mk_139, gT_mk_140, zT_mk_140, gT_mk_141, zT_mk_141, gT_mk_142, zT_mk_142, gT_mk_143, zT_mk_143, gT_mk_144, zT_mk_144, gT_mk_145, zT_mk_145, gT_mk_146, zT_mk_146, gT_mk_147, zT_mk_147, gT_mk_148, zT_mk_148, gT_mk_149, zT_mk_149, gT_mk_150, zT_mk_150, gT_mk_151, zT_mk_151, gT_mk_152, zT_mk_152, gT_mk_153, zT_mk_153, gT_mk_154, zT_mk_154, gT_mk_155, zT_mk_155, gT_mk_156, zT_mk_156, gT_mk_157, zT_mk_157, fn_Mo_on__L30, m1, e3]
      exact e6
  · have m1 := fun S : zS => m_out (S := S) (hi := 60) hx (by decide)
    refine op_same (r := -nI 2) h ?_ ?_
    · rw [hcl]
      by_cases h0 : x < nI 0
      · simp (disch := omega) only [wbr_T, wbr_F, wgd_T, wbq, wbv, wnm, zI_mk, zL_mk, uI_mk, uL_mk, kI_mk, kL_mk, nI_add, nI_mul, nI_sub, nI_div, nI_clamp, wgB, wgP, nI_leI, nI_ltI, nI_eq, nI_eqm, nI_eqm5, wdT, wdF, wd1, wd0, li_0, li_1, li_2, li_3, li_4, li_5, li_6, li_7, li_8, li_9, li_10, li_11, li_12, li_13, li_14, li_15, li_16, li_17, li_18, li_19, li_20, li_21, li_22, li_23, li_24, li_25, li_26, li_27, li_28, li_29, li_30, li_31, li_32, li_33, li_38, li_40, li_41, li_48, li_57, li_58, li_59, li_60, li_61, li_62, li_63, li_68, li_69, li_70, li_71, li_72, li_73, li_74, li_75, li_83, li_87, li_88, li_89, li_99, li_100, li_104, li_105, li_106, li_107, li_108, li_109, li_110, li_111, li_112, li_113, li_114, li_115, li_116, li_117, li_118, li_119, li_120, li_121, li_124, li_127, li_128, li_200, li_4095, li_4096, li_9999, c0, c1, c2, c3, c4, c5, c6, c7, c8, u0, u1, u2, u3, u4, u5, u6, u7, u8, u9, u10, u11, u12, u13, u14, u15, u16, u17, u18, u19, u20, u21, u22, u23, u24, u25, u26, u27, u28, u29, u30, fn_Ls_on_L30, h0]
      · have h1 := ox_le hx h0 (by decide)
        simp (disch := omega) only [wbr_T, wbr_F, wgd_T, wbq, wbv, wnm, zI_mk, zL_mk, uI_mk, uL_mk, kI_mk, kL_mk, nI_add, nI_mul, nI_sub, nI_div, nI_clamp, wgB, wgP, nI_leI, nI_ltI, nI_eq, nI_eqm, nI_eqm5, wdT, wdF, wd1, wd0, li_0, li_1, li_2, li_3, li_4, li_5, li_6, li_7, li_8, li_9, li_10, li_11, li_12, li_13, li_14, li_15, li_16, li_17, li_18, li_19, li_20, li_21, li_22, li_23, li_24, li_25, li_26, li_27, li_28, li_29, li_30, li_31, li_32, li_33, li_38, li_40, li_41, li_48, li_57, li_58, li_59, li_60, li_61, li_62, li_63, li_68, li_69, li_70, li_71, li_72, li_73, li_74, li_75, li_83, li_87, li_88, li_89, li_99, li_100, li_104, li_105, li_106, li_107, li_108, li_109, li_110, li_111, li_112, li_113, li_114, li_115, li_116, li_117, li_118, li_119, li_120, li_121, li_124, li_127, li_128, li_200, li_4095, li_4096, li_9999, c0, c1, c2, c3, c4, c5, c6, c7, c8, u0, u1, u2, u3, u4, u5, u6, u7, u8, u9, u10, u11, u12, u13, u14, u15, u16, u17, u18, u19, u20, u21, u22, u23, u24, u25, u26, u27, u28, u29, u30, fn_Ls_on_L30, h0, h1]
    · rw [hm f R (fun _ => rfl)]
      simp (disch := omega) only [wbr_T, wbr_F, wgd_T, wbq, wbv, wnm, zI_mk, zL_mk, uI_mk, uL_mk, kI_mk, kL_mk, nI_add, nI_mul, nI_sub, nI_div, nI_clamp, wgB, wgP, nI_leI, nI_ltI, nI_eq, nI_eqm, nI_eqm5, wdT, wdF, wd1, wd0, li_0, li_1, li_2, li_3, li_4, li_5, li_6, li_7, li_8, li_9, li_10, li_11, li_12, li_13, li_14, li_15, li_16, li_17, li_18, li_19, li_20, li_21, li_22, li_23, li_24, li_25, li_26, li_27, li_28, li_29, li_30, li_31, li_32, li_33, li_38, li_40, li_41, li_48, li_57, li_58, li_59, li_60, li_61, li_62, li_63, li_68, li_69, li_70, li_71, li_72, li_73, li_74, li_75, li_83, li_87, li_88, li_89, li_99, li_100, li_104, li_105, li_106, li_107, li_108, li_109, li_110, li_111, li_112, li_113, li_114, li_115, li_116, li_117, li_118, li_119, li_120, li_121, li_124, li_127, li_128, li_200, li_4095, li_4096, li_9999, gT_mk_137, zT_mk_137, zR_mk_137_0, zR_mk_137_1, zR_mk_137_2, zR_mk_137_4, zR_mk_137_6, zR_mk_137_7, zR_mk_137_9, zR_mk_137_16, zR_mk_137_17, zR_mk_137_18, zR_mk_137_19, zR_mk_137_20, zR_mk_137_22, zR_mk_137_24, zR_mk_137_25, zR_mk_137_26, zR_mk_137_28, zR_mk_137_29, zR_mk_137_30, zR_mk_137_31, gT_mk_138, zT_mk_138, gT_mk_139, zT_mk_139, gT_mk_140, zT_mk_140, gT_mk_141, zT_mk_141, gT_mk_142, zT_mk_142, gT_mk_143, zT_mk_143, gT_mk_144, zT_mk_144, gT_mk_145, zT_mk_145, gT_mk_146, zT_mk_146, gT_mk_147, zT_mk_147, gT_mk_148, zT_mk_148, gT_mk_149, zT_mk_149, gT_mk_150, zT_mk_150, gT_mk_151, zT_mk_151, gT_mk_152, zT_mk_152, gT_mk_153, zT_mk_153, gT_mk_154, zT_mk_154, gT_mk_155, zT_mk_155, gT_mk_156, zT_mk_156, gT_mk_157, zT_mk_157, fn_Mo_on__L30, m1]
