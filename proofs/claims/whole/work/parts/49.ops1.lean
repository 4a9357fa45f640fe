/-! CALLS, first part: saints and novices -/
section
variable {f f' g : Nat → Nat → Int32} {l l' : Nat → Nat → Int64} {R R' : Nat → Nat} {a a' : Nat → Nat} {T : Nat → Nat → Nat} {N : Nat → Nat} {ru D b i j k x : Nat}
theorem c_zero {q : Nat} (t1 : ∀ f, gT (mk f l R) q 105 = true) (t2 : ∀ f, gT (mk f l R) (q + 1) 1 = true) (r1 : ∀ f, zR (mk f l R) q 0 = q + 1) (n1 : ∀ f, (zT (mk f l R) (q + 1)).2 = 4) (hq : 16 ≤ q) : ∀ (e k G : Nat) (f : Nat → Nat → Int32), k + e = 4 → e < G →
    ∃ f', lp (σ := Nat × Int32 × zS) (fun k s => fn_Sa_begin_L33 s.1 s.2.1 s.2.2 (fun (a0 : Nat) (a4 : Int32) (S : zS) => k (a0, a4, S))) G (q, nI k, mk f l R) = some (mk f' l R) ∧ (∀ j, k ≤ j → j < 4 → f' (q + 1) j = nI 0) ∧ ∀ r j, ¬ (r = q + 1 ∧ k ≤ j ∧ j < 4) → f' r j = f r j
  | 0, k, G, f, he, hG => by
    obtain ⟨G, rfl⟩ : ∃ H, G = H + 1 := ⟨G - 1, by omega⟩
    have hk : k = 4 := by omega
    subst hk
    exact ⟨f, rfl, fun j h1 h2 => by omega, fun _ _ _ => rfl⟩
  | e + 1, k, G, f, he, hG => by
    obtain ⟨G, rfl⟩ : ∃ H, G = H + 1 := ⟨G - 1, by omega⟩
    rw [lpS]
    show ∃ f', fn_Sa_begin_L33 q (nI k) (mk f l R) _ = _ ∧ _
    obtain ⟨f1, e1, q1, q2⟩ := c_zero t1 t2 r1 n1 hq e (k + 1) G (up f (q + 1) k (nI 0)) (by omega) (by omega)
    refine ⟨f1, ?_, fun j h1 h2 => ?_, fun r j hr => ?_⟩
    · simp (disch := omega) only [fn_Sa_begin_L33, t1, t2, r1, n1, wbr_T, wbr_F, wgd_T, wbq, wbv, wnm, zI_mk, zL_mk, uI_mk, uL_mk, kI_mk, kL_mk, nI_add, nI_mul, nI_sub, nI_div, nI_clamp, wgB, wgP, nI_leI, nI_ltI, nI_eq, nI_eqm, nI_eqm5, wdT, wdF, wd1, wd0, li_0, li_1, li_4]
      exact e1
    · by_cases ej : j = k
      · subst ej
        rw [q2 _ j (by omega), up_eq]
      · exact q1 j (by omega) h2
    · rw [q2 r j (by omega)]
      by_cases er : r = q + 1
      · exact up_nj (by omega)
      · exact up_np er
theorem m_zero {f : Nat → Nat → Int32} {l : Nat → Nat → Int64} {R : Nat → Nat} {i kd v h : Nat} (hi : i < 6) (hA : f 138 68 = nI i) : ∀ (e k G : Nat) (g : Nat → Nat → Int32), k + e = 10 → e < G → (∀ j, ¬ (10 * i ≤ j ∧ j < 10 * i + 10) → g 138 j = f 138 j) → (∀ j, 10 * i ≤ j → j < 10 * i + k → g 138 j = nI 0) → (∀ r j, ¬ r = 138 → g r j = f r j) →
    ∃ f', lp (σ := Nat × Int32 × Int32 × Int32 × Int32 × Int32 × zS) (fun k s => fn_Mo_saint_L54 s.1 s.2.1 s.2.2.1 s.2.2.2.1 s.2.2.2.2.1 s.2.2.2.2.2.1 s.2.2.2.2.2.2 (fun (a0 : Nat) (a1 : Int32) (a2 : Int32) (a3 : Int32) (a4 : Int32) (a5 : Int32) (S : zS) => k (a0, a1, a2, a3, a4, a5, S))) G (137, nI kd, nI v, nI h, nI i, nI k, mk g l R) = some (nI i, mk f' l R)
      ∧ (f' 138 (10 * i) = nI kd ∧ f' 138 (10 * i + 1) = nI v ∧ f' 138 (10 * i + 2) = nI h ∧ (∀ j, 10 * i + 3 ≤ j → j < 10 * i + 10 → f' 138 j = nI 0) ∧ f' 138 68 = nI (i + 1)) ∧ (∀ j, ¬ (10 * i ≤ j ∧ j < 10 * i + 10) → ¬ j = 68 → f' 138 j = f 138 j) ∧ ∀ r j, ¬ r = 138 → f' r j = f r j
  | 0, k, G, g, he, hG, h1, h2, h3 => by
    obtain ⟨G, rfl⟩ : ∃ H, G = H + 1 := ⟨G - 1, by omega⟩
    have hk : k = 10 := by omega
    subst hk
    rw [lpS]
    show ∃ f', fn_Mo_saint_L54 137 (nI kd) (nI v) (nI h) (nI i) (nI 10) (mk g l R) _ = _ ∧ _
    have e68 : g 138 68 = nI i := (h1 68 (by omega)).trans hA
    refine ⟨up (up (up (up g 138 (10 * i) (nI kd)) 138 (10 * i + 1) (nI v)) 138 (10 * i + 2) (nI h)) 138 68 (nI (i + 1)), ?_, ⟨?_, ?_, ?_, fun j q1 q2 => ?_, up_eq⟩, fun j q1 q2 => ?_, fun r j hr => ?_⟩
    · simp (disch := omega) only [fn_Mo_saint_L54, up_nj, e68, gT_mk_137, zR_mk_137_0, gT_mk_138, zT_mk_138, wbr_T, wbr_F, wgd_T, wbq, wbv, wnm, zI_mk, zL_mk, uI_mk, uL_mk, kI_mk, kL_mk, nI_add, nI_mul, nI_sub, nI_div, nI_clamp, wgB, wgP, nI_leI, nI_ltI, nI_eq, nI_eqm, nI_eqm5, wdT, wdF, wd1, wd0, li_1, li_2, li_10, li_68]
    · simp (disch := omega) only [up_nj, up_eq]
    · simp (disch := omega) only [up_nj, up_eq]
    · simp (disch := omega) only [up_nj, up_eq]
    · simp (disch := omega) only [up_nj]
      exact h2 j (by omega) (by omega)
    · simp (disch := omega) only [up_nj]
      exact h1 j q1
    · simp (disch := omega) only [up_np]
      exact h3 r j hr
  | e + 1, k, G, g, he, hG, h1, h2, h3 => by
    obtain ⟨G, rfl⟩ : ∃ H, G = H + 1 := ⟨G - 1, by omega⟩
    rw [lpS]
    show ∃ f', fn_Mo_saint_L54 137 (nI kd) (nI v) (nI h) (nI i) (nI k) (mk g l R) _ = _ ∧ _
    obtain ⟨f1, e1, q⟩ := m_zero hi hA e (k + 1) G (up g 138 (10 * i + k) (nI 0)) (by omega) (by omega) (fun j hj => (up_nj (by omega)).trans (h1 j hj)) (fun j q1 q2 => by
      by_cases ej : j = 10 * i + k
      · subst ej
        exact up_eq
      · exact (up_nj ej).trans (h2 j q1 (by omega))) (fun r j hr => (up_np hr).trans (h3 r j hr))
    refine ⟨f1, ?_, q⟩
    simp (disch := omega) only [fn_Mo_saint_L54, gT_mk_137, zR_mk_137_0, gT_mk_138, zT_mk_138, wbr_T, wbr_F, wgd_T, wbq, wbv, wnm, zI_mk, zL_mk, uI_mk, uL_mk, kI_mk, kL_mk, nI_add, nI_mul, nI_sub, nI_div, nI_clamp, wgB, wgP, nI_leI, nI_ltI, nI_eq, nI_eqm, nI_eqm5, wdT, wdF, wd1, wd0, li_0, li_1, li_10]
    exact e1
end
section
variable {f : Nat → Nat → Int32} {l : Nat → Nat → Int64} {R : Nat → Nat}
theorem op_saint (x y z : Int32) : OpI (fn_Ls_saint 16 x y z) (fn_Mo_saint 137 x y z) := by
  intro f l R h
  obtain ⟨ru, T, N, ⟨a, hc, hA, hG, hR⟩, hE⟩ := id h
  obtain ⟨c0, c1, c2, c3, c4, c5, c6, c7, c8⟩ := hbC
  obtain ⟨u0, u1, u2, u3, u4, u5, u6, u7, u8, u9, u10, u11, u12, u13, u14, u15, u16, u17, u18, u19, u20, u21, u22, u23, u24, u25, u26, u27, u28, u29, u30⟩ := hbB
  obtain ⟨z6, z7, z8, z9⟩ := id hc.1
  have gA := Gd_all hG
  rcases ix_or x (N := 7) (by decide) with ⟨kd, hx, rfl⟩ | hx
  · have e1 := fun S : zS => c_kind_in (S := S) hx
    have m1 := fun S : zS => m_in (S := S) (k := kd) (lo := 0) (hi := 6) (by omega) (by omega) (by decide)
    rcases ix_or y (N := 10) (by decide) with ⟨v, hy, rfl⟩ | hy
    · have m2 := fun S : zS => m_in (S := S) (k := v) (lo := 0) (hi := 9) (by omega) (by omega) (by decide)
      rcases ix_or z (N := 4096) (by decide) with ⟨s, hz, rfl⟩ | hz
      · have e3 := fun S : zS => c_set_in (S := S) hz
        have m3 := fun S : zS => m_set_in (S := S) hz
        have ez := cC_z hc
        by_cases h6 : a 68 = 6
        · rw [h6] at ez
          have hA6 := hA 68
          rw [h6] at hA6
          refine op_same (r := -nI 4) h ?_ ?_
          · simp (disch := omega) only [wbr_T, wbr_F, wgd_T, wbq, wbv, wnm, zI_mk, zL_mk, uI_mk, uL_mk, kI_mk, kL_mk, nI_add, nI_mul, nI_sub, nI_div, nI_clamp, wgB, wgP, nI_leI, nI_ltI, nI_eq, nI_eqm, nI_eqm5, wdT, wdF, wd1, wd0, li_0, li_1, li_2, li_3, li_4, li_5, li_6, li_7, li_8, li_9, li_10, li_11, li_12, li_13, li_14, li_15, li_16, li_17, li_18, li_19, li_20, li_21, li_22, li_23, li_24, li_25, li_26, li_27, li_28, li_29, li_30, li_31, li_32, li_33, li_38, li_40, li_41, li_48, li_57, li_58, li_59, li_60, li_61, li_62, li_63, li_68, li_69, li_70, li_71, li_72, li_73, li_74, li_75, li_83, li_87, li_88, li_89, li_99, li_100, li_104, li_105, li_106, li_107, li_108, li_109, li_110, li_111, li_112, li_113, li_114, li_115, li_116, li_117, li_118, li_119, li_120, li_121, li_124, li_127, li_128, li_200, li_4095, li_4096, li_9999, c0, c1, c2, c3, c4, c5, c6, c7, c8, u0, u1, u2, u3, u4, u5, u6, u7, u8, u9, u10, u11, u12, u13, u14, u15, u16, u17, u18, u19, u20, u21, u22, u23, u24, u25, u26, u27, u28, u29, u30, fn_Ls_saint, e1, e3, ez]
          · simp (disch := omega) only [wbr_T, wbr_F, wgd_T, wbq, wbv, wnm, zI_mk, zL_mk, uI_mk, uL_mk, kI_mk, kL_mk, nI_add, nI_mul, nI_sub, nI_div, nI_clamp, wgB, wgP, nI_leI, nI_ltI, nI_eq, nI_eqm, nI_eqm5, wdT, wdF, wd1, wd0, li_0, li_1, li_2, li_3, li_4, li_5, li_6, li_7, li_8, li_9, li_10, li_11, li_12, li_13, li_14, li_15, li_16, li_17, li_18, li_19, li_20, li_21, li_22, li_23, li_24, li_25, li_26, li_27, li_28, li_29, li_30, li_31, li_32, li_33, li_38, li_40, li_41, li_48, li_57, li_58, li_59, li_60, li_61, li_62, li_63, li_68, li_69, li_70, li_71, li_72, li_73, li_74, li_75, li_83, li_87, li_88, li_89, li_99, li_100, li_104, li_105, li_106, li_107, li_108, li_109, li_110, li_111, li_112, li_113, li_114, li_115, li_116, li_117, li_118, li_119, li_120, li_121, li_124, li_127, li_128, li_200, li_4095, li_4096, li_9999, gT_mk_137, zT_mk_137, zR_mk_137_0, zR_mk_137_1, zR_mk_137_2, zR_mk_137_4, zR_mk_137_6, zR_mk_137_7, zR_mk_137_9, zR_mk_137_16, zR_mk_137_17, zR_mk_137_18, zR_mk_137_19, zR_mk_137_20, zR_mk_137_22, zR_mk_137_24, zR_mk_137_25, zR_mk_137_26, zR_mk_137_28, zR_mk_137_29, zR_mk_137_30, zR_mk_137_31, gT_mk_138, zT_mk_138, gT_mk_139, zT_mk_139, gT_mk_140, zT_mk_140, gT_mk_141, zT_mk_141, gT_mk_142, zT_mk_142, gT_mk_143, zT_mk_143, gT_mk_144, zT_mk_144, gT_mk_145, zT_mk_145, gT_mk_146, zT_mk_146, gT_mk_147, zT_mk_147, gT_mk_148, zT_mk_148, gT_mk_149, zT_mk_149, gT_mk_150, zT_mk_150, gT_mk_151, zT_mk_151, gT_mk_152, zT_mk_152, gT_mk_153, zT_mk_153, gT_mk_154, zT_mk_154, gT_mk_155, zT_mk_155, gT_mk_156, zT_mk_156, gT_mk_157, zT_mk_157, fn_Mo_saint, m1, m2, m3, hA6]
        · have hi : a 68 < 6 := by omega
          -- the class
          obtain ⟨f1, g1, q1, q2⟩ := c_zero (l := l) (R := R) (q := 51 + 2 * a 68) (fun f => u27 f l R _ hi) (fun f => by rw [show 51 + 2 * a 68 + 1 = 52 + 2 * a 68 by omega]; exact u28 f l R _ hi) (fun f => by rw [show 51 + 2 * a 68 + 1 = 52 + 2 * a 68 by omega]; exact u30 f l R _ hi) (fun f => by rw [show 51 + 2 * a 68 + 1 = 52 + 2 * a 68 by omega]; exact u29 f l R _ hi) (by omega) 4 0 FU (up (up (up (up (up (up f (51 + 2 * a 68) 2 (nI kd)) (51 + 2 * a 68) 3 (nI v)) (51 + 2 * a 68) 4 (nI s)) (51 + 2 * a 68) 5 (nI 0)) (51 + 2 * a 68) 6 (-nI 1)) (51 + 2 * a 68) 7 (nI 0)) rfl (by decide)
          rw [show 51 + 2 * a 68 + 1 = 52 + 2 * a 68 by omega] at q1 q2
          have ez1 : f1 41 6 = nI (a 68) := by
            rw [q2 41 6 (by omega)]
            simp (disch := omega) only [up_np]
            exact ez
          have ebeg : fn_Sa_begin (51 + 2 * a 68) (nI kd) (nI v) (nI s) (mk f l R) = some (mk f1 l R) := by
            simp (disch := omega) only [wbr_T, wbr_F, wgd_T, wbq, wbv, wnm, zI_mk, zL_mk, uI_mk, uL_mk, kI_mk, kL_mk, nI_add, nI_mul, nI_sub, nI_div, nI_clamp, wgB, wgP, nI_leI, nI_ltI, nI_eq, nI_eqm, nI_eqm5, wdT, wdF, wd1, wd0, li_0, li_1, li_2, li_3, li_4, li_5, li_6, li_7, li_8, li_9, li_10, li_11, li_12, li_13, li_14, li_15, li_16, li_17, li_18, li_19, li_20, li_21, li_22, li_23, li_24, li_25, li_26, li_27, li_28, li_29, li_30, li_31, li_32, li_33, li_38, li_40, li_41, li_48, li_57, li_58, li_59, li_60, li_61, li_62, li_63, li_68, li_69, li_70, li_71, li_72, li_73, li_74, li_75, li_83, li_87, li_88, li_89, li_99, li_100, li_104, li_105, li_106, li_107, li_108, li_109, li_110, li_111, li_112, li_113, li_114, li_115, li_116, li_117, li_118, li_119, li_120, li_121, li_124, li_127, li_128, li_200, li_4095, li_4096, li_9999, c0, c1, c2, c3, c4, c5, c6, c7, c8, u0, u1, u2, u3, u4, u5, u6, u7, u8, u9, u10, u11, u12, u13, u14, u15, u16, u17, u18, u19, u20, u21, u22, u23, u24, u25, u26, u27, u28, u29, u30, fn_Sa_begin]
            exact g1
          -- the model
          obtain ⟨f2, g2, ⟨p1, p2, p3, p4, p5⟩, p6, p7⟩ := m_zero (l := l) (R := R) (f := up f1 41 6 (nI (a 68 + 1))) (i := a 68) (kd := kd) (v := v) (h := s) hi (by rw [up_np (by decide), q2 _ _ (by omega)]; simp (disch := omega) only [up_np]; exact hA 68) 10 0 FU _ rfl (by decide) (fun _ _ => rfl) (fun j h1 h2 => by omega) (fun _ _ _ => rfl)
          have b138 : ∀ j, up f1 41 6 (nI (a 68 + 1)) 138 j = nI (a j) := fun j => by
            rw [up_np (by decide), q2 _ _ (by omega)]
            simp (disch := omega) only [up_np]
            exact hA j
          refine ⟨nI (a 68), up f1 41 6 (nI (a 68 + 1)), l, R, f2, l, ?_, ?_, ?_⟩
          · simp (disch := omega) only [wbr_T, wbr_F, wgd_T, wbq, wbv, wnm, zI_mk, zL_mk, uI_mk, uL_mk, kI_mk, kL_mk, nI_add, nI_mul, nI_sub, nI_div, nI_clamp, wgB, wgP, nI_leI, nI_ltI, nI_eq, nI_eqm, nI_eqm5, wdT, wdF, wd1, wd0, li_0, li_1, li_2, li_3, li_4, li_5, li_6, li_7, li_8, li_9, li_10, li_11, li_12, li_13, li_14, li_15, li_16, li_17, li_18, li_19, li_20, li_21, li_22, li_23, li_24, li_25, li_26, li_27, li_28, li_29, li_30, li_31, li_32, li_33, li_38, li_40, li_41, li_48, li_57, li_58, li_59, li_60, li_61, li_62, li_63, li_68, li_69, li_70, li_71, li_72, li_73, li_74, li_75, li_83, li_87, li_88, li_89, li_99, li_100, li_104, li_105, li_106, li_107, li_108, li_109, li_110, li_111, li_112, li_113, li_114, li_115, li_116, li_117, li_118, li_119, li_120, li_121, li_124, li_127, li_128, li_200, li_4095, li_4096, li_9999, c0, c1, c2, c3, c4, c5, c6, c7, c8, u0, u1, u2, u3, u4, u5, u6, u7, u8, u9, u10, u11, u12, u13, u14, u15, u16, u17, u18, u19, u20, u21, u22, u23, u24, u25, u26, u27, u28, u29, u30, fn_Ls_saint, e1, e3, ez, ebeg, ez1]
          · have m68 := b138 68
            simp (disch := omega) only [wbr_T, wbr_F, wgd_T, wbq, wbv, wnm, zI_mk, zL_mk, uI_mk, uL_mk, kI_mk, kL_mk, nI_add, nI_mul, nI_sub, nI_div, nI_clamp, wgB, wgP, nI_leI, nI_ltI, nI_eq, nI_eqm, nI_eqm5, wdT, wdF, wd1, wd0, li_0, li_1, li_2, li_3, li_4, li_5, li_6, li_7, li_8, li_9, li_10, li_11, li_12, li_13, li_14, li_15, li_16, li_17, li_18, li_19, li_20, li_21, li_22, li_23, li_24, li_25, li_26, li_27, li_28, li_29, li_30, li_31, li_32, li_33, li_38, li_40, li_41, li_48, li_57, li_58, li_59, li_60, li_61, li_62, li_63, li_68, li_69, li_70, li_71, li_72, li_73, li_74, li_75, li_83, li_87, li_88, li_89, li_99, li_100, li_104, li_105, li_106, li_107, li_108, li_109, li_110, li_111, li_112, li_113, li_114, li_115, li_116, li_117, li_118, li_119, li_120, li_121, li_124, li_127, li_128, li_200, li_4095, li_4096, li_9999, gT_mk_137, zT_mk_137, zR_mk_137_0, zR_mk_137_1, zR_mk_137_2, zR_mk_137_4, zR_mk_137_6, zR_mk_137_7, zR_mk_137_9, zR_mk_137_16, zR_mk_137_17, zR_mk_137_18, zR_mk_137_19, zR_mk_137_20, zR_mk_137_22, zR_mk_137_24, zR_mk_137_25, zR_mk_137_26, zR_mk_137_28, zR_mk_137_29, zR_mk_137_30, zR_mk_137_31, gT_mk_138, zT_mk_138, gT_mk_139, zT_mk_139, gT_mk_140, zT_mk_140, gT_mk_141, zT_mk_141, gT_mk_142, zT_mk_142, gT_mk_143, zT_mk_143, gT_mk_144, zT_mk_144, gT_mk_145, zT_mk_145, gT_mk_146, zT_mk_146, gT_mk_147, zT_mk_147, gT_mk_148, zT_mk_148, gT_mk_149, zT_mk_149, gT_mk_150, zT_mk_150, gT_mk_151, zT_mk_151, gT_mk_152, zT_mk_152, gT_mk_153, zT_mk_153, gT_mk_154, zT_mk_154, gT_mk_155, zT_mk_155, gT_mk_156, zT_mk_156, gT_mk_157, zT_mk_157, fn_Mo_saint, m1, m2, m3, m68]
            exact g2
          · have hlow : ∀ r j, r < 137 → ¬ (51 + 2 * a 68 ≤ r ∧ r ≤ 52 + 2 * a 68) → ¬ (r = 41 ∧ j = 6) → f2 r j = f r j := fun r j h1 h2 h3 => by
              rw [p7 r j (by omega)]
              by_cases er : r = 41
              · subst er
                rw [up_nj (by omega), q2 _ _ (by omega)]
                simp (disch := omega) only [up_np]
              · rw [up_np er, q2 _ _ (by omega)]
                simp (disch := omega) only [up_np]
            have hs : ∀ j, f2 (51 + 2 * a 68) j = up (up (up (up (up (up f (51 + 2 * a 68) 2 (nI kd)) (51 + 2 * a 68) 3 (nI v)) (51 + 2 * a 68) 4 (nI s)) (51 + 2 * a 68) 5 (nI 0)) (51 + 2 * a 68) 6 (-nI 1)) (51 + 2 * a 68) 7 (nI 0) (51 + 2 * a 68) j := fun j => by
              rw [p7 _ _ (by omega), up_np (by omega), q2 _ _ (by omega)]
            have hr : ∀ j, j < 4 → f2 (52 + 2 * a 68) j = nI 0 := fun j hj => by
              rw [p7 _ _ (by omega), up_np (by omega)]
              exact q1 j (Nat.zero_le _) hj
            obtain ⟨a', w0, n0, n1, n2, wm, w, w68⟩ : ∃ a' : Nat → Nat, (∀ k, k < 10 * a 68 → a' k = a k) ∧ a' (10 * a 68) = kd ∧ a' (10 * a 68 + 1) = v ∧ a' (10 * a 68 + 2) = s ∧ (∀ k, 10 * a 68 + 3 ≤ k → k < 10 * a 68 + 10 → a' k = 0) ∧ (∀ k, 10 * a 68 + 10 ≤ k → ¬ k = 68 → a' k = a k) ∧ a' 68 = a 68 + 1 := by
              refine ⟨fun k => if k = 10 * a 68 then kd else if k = 10 * a 68 + 1 then v else if k = 10 * a 68 + 2 then s else if 10 * a 68 ≤ k ∧ k < 10 * a 68 + 10 then 0 else if k = 68 then a 68 + 1 else a k, fun k h1 => ?_, ?_, ?_, ?_, fun k h1 h2 => ?_, fun k h1 h2 => ?_, ?_⟩ <;> dsimp only
              · rw [if_neg (by omega), if_neg (by omega), if_neg (by omega), if_neg (by omega), if_neg (by omega)]
              · rw [if_pos rfl]
              · rw [if_neg (by omega), if_pos rfl]
              · rw [if_neg (by omega), if_neg (by omega), if_pos rfl]
              · rw [if_neg (by omega), if_neg (by omega), if_neg (by omega), if_pos ⟨by omega, by omega⟩]
              · rw [if_neg (by omega), if_neg (by omega), if_neg (by omega), if_neg (by omega), if_neg (by omega)]
              · rw [if_neg (by omega), if_neg (by omega), if_neg (by omega), if_neg (by omega), if_pos rfl]
            have w69 := w 69 (by omega) (by omega)
            have w70 := w 70 (by omega) (by omega)
            have w71 := w 71 (by omega) (by omega)
            have w87 := w 87 (by omega) (by omega)
            have w104 := w 104 (by omega) (by omega)
            refine Iv_R (R := R) ⟨a', ?_, fun k => ?_, fun k hk => ?_, ?_⟩ hE (fun p j hp => ?_) rfl (cN_fr hE.2.2.2.2.2.2 (fun p j q1 q2 => hlow p j (by omega) (by omega) (by omega)))
            · refine cC_mk ⟨by omega, by omega, by omega, by omega⟩ ⟨fun i hi' => ?_, ?_, ?_, ?_⟩ ?_ (fun i hi' => ?_) (fun j hj => ⟨?_, ?_⟩) ?_ ?_ ?_ (fun m hm => ?_) ?_ (fun m hm => ?_) ?_ (fun m hm => ?_)
              · by_cases ei : i = a 68
                · subst ei
                  have q := hs 1
                  rw [show 51 + 2 * a 68 = 41 + 10 + 2 * a 68 by omega] at q
                  rw [q]
                  simp (disch := omega) only [up_nj]
                  exact hc.2.1.1 _ hi'
                · rw [hlow _ _ (by omega) (by omega) (by omega)]
                  exact hc.2.1.1 i hi'
              · rw [hlow _ _ (by omega) (by omega) (by omega)]; exact hc.2.1.2.1
              · rw [hlow _ _ (by omega) (by omega) (by omega)]; exact hc.2.1.2.2.1
              · rw [hlow _ _ (by omega) (by omega) (by omega)]; exact hc.2.1.2.2.2
              · rw [w70]
                exact hc.2.2.1
              · by_cases ei : i = a 68
                · subst ei
                  rw [show 41 + 10 + 2 * a 68 = 51 + 2 * a 68 by omega]
                  refine ⟨⟨?_, ?_, ?_, ?_, ?_, ?_, fun k hk => ?_⟩, ?_⟩
                  · rw [hs]
                    simp (disch := omega) only [up_nj]
                    have q := hc.2.1.1 _ hi
                    rw [show 41 + 10 + 2 * a 68 = 51 + 2 * a 68 by omega] at q
                    exact q
                  · rw [hs, n0]
                    simp (disch := omega) only [up_nj, up_eq]
                  · rw [hs, n1]
                    simp (disch := omega) only [up_nj, up_eq]
                  · rw [hs, n2]
                    simp (disch := omega) only [up_nj, up_eq]
                  · rw [hs, wm _ (by omega) (by omega)]
                    simp (disch := omega) only [up_nj, up_eq]
                  · rw [hs, wm _ (by omega) (by omega)]
                    exact up_eq
                  · rw [show 51 + 2 * a 68 + 1 = 52 + 2 * a 68 by omega, hr k hk, wm _ (by omega) (by omega)]
                  · rw [hs, wm _ (by omega) (by omega)]
                    simp (disch := omega) only [up_nj, up_eq]
                    rfl
                · obtain ⟨s1, s2, s3, s4, s5, s6, s7⟩ := cC_sP hc (show i < a 68 by omega)
                  have s8 := cC_p hc (show i < a 68 by omega)
                  refine ⟨⟨?_, ?_, ?_, ?_, ?_, ?_, fun k hk => ?_⟩, ?_⟩ <;> rw [hlow _ _ (by omega) (by omega) (by omega)]
                  · exact s1
                  · rw [w0 _ (by omega)]; exact s2
                  · rw [w0 _ (by omega)]; exact s3
                  · rw [w0 _ (by omega)]; exact s4
                  · rw [w0 _ (by omega)]; exact s5
                  · rw [w0 _ (by omega)]; exact s6
                  · rw [w0 _ (by omega)]; exact s7 k hk
                  · rw [w0 _ (by omega)]; exact s8
              · rw [hlow _ _ (by omega) (by omega) (by omega), w _ (by omega) (by omega)]; exact cC_o hc hj
              · rw [hlow _ _ (by omega) (by omega) (by omega), w _ (by omega) (by omega)]; exact cC_g hc hj
              · rw [p7 _ _ (by omega), up_eq, w68]
              · rw [hlow _ _ (by omega) (by omega) (by omega), w69]; exact cC_d hc
              · rw [hlow _ _ (by omega) (by omega) (by omega), w71]; exact cC_nsee hc
              · rw [hlow _ _ (by omega) (by omega) (by omega), w _ (by omega) (by omega)]; exact cC_see hc (by omega)
              · rw [hlow _ _ (by omega) (by omega) (by omega), w87]; exact cC_npla hc
              · rw [hlow _ _ (by omega) (by omega) (by omega), w _ (by omega) (by omega)]; exact cC_pla hc (by omega)
              · rw [hlow _ _ (by omega) (by omega) (by omega), w104]; exact cC_nboo hc
              · rw [hlow _ _ (by omega) (by omega) (by omega), w _ (by omega) (by omega)]; exact cC_boo hc (by omega)
            · by_cases k1 : k = 10 * a 68
              · rw [k1, n0]; exact p1
              · by_cases k2 : k = 10 * a 68 + 1
                · rw [k2, n1]; exact p2
                · by_cases k3 : k = 10 * a 68 + 2
                  · rw [k3, n2]; exact p3
                  · by_cases k4 : 10 * a 68 ≤ k ∧ k < 10 * a 68 + 10
                    · rw [wm k (by omega) (by omega)]; exact p4 k (by omega) (by omega)
                    · by_cases k5 : k = 68
                      · rw [k5, w68]; exact p5
                      · rw [p6 k k4 k5, b138 k]
                        by_cases k6 : k < 10 * a 68
                        · rw [w0 k k6]
                        · rw [w k (by omega) k5]
            · by_cases k1 : k = 10 * a 68
              · rw [k1, n0, show rng ru 9999 (10 * a 68) = 7 from rng_s (c := 0) hi (by decide)]; exact hx
              · by_cases k2 : k = 10 * a 68 + 1
                · rw [k2, n1, rng_s hi (by decide)]; exact hy
                · by_cases k3 : k = 10 * a 68 + 2
                  · rw [k3, n2, rng_s hi (by decide)]; exact hz
                  · by_cases k4 : 10 * a 68 ≤ k ∧ k < 10 * a 68 + 10
                    · rw [wm k (by omega) (by omega)]
                      exact Nat.lt_of_le_of_lt (Nat.zero_le _) (hG k hk)
                    · by_cases k5 : k = 68
                      · rw [k5, w68]
                        show a 68 + 1 < 7
                        omega
                      · by_cases k6 : k < 10 * a 68
                        · rw [w0 k k6]; exact hG k hk
                        · rw [w k (by omega) k5]; exact hG k hk
            · obtain ⟨⟨y1, y2, y3⟩, y4, y5, y6⟩ := hR
              unfold GR
              rw [w68, w71, w87, w104]
              refine ⟨⟨y1, y2, y3⟩, fun r hr => ?_, fun r hr => ?_, fun r hr => ?_⟩
              · rw [w _ (by omega) (by omega), w _ (by omega) (by omega), w _ (by omega) (by omega)]
                obtain ⟨q1, q2, q3⟩ := y4 r hr
                exact ⟨by omega, q2, q3⟩
              · rw [w _ (by omega) (by omega), w _ (by omega) (by omega)]
                obtain ⟨q1, q2, q3⟩ := y5 r hr
                exact ⟨q1, fun e => ⟨Nat.lt_succ_of_lt (q2 e).1, (q2 e).2⟩, fun e => Nat.lt_succ_of_lt (q3 e)⟩
              · rw [w _ (by omega) (by omega), w _ (by omega) (by omega)]
                exact y6 r hr
            · rw [p7 p j (by unfold vol at hp; omega)]
              unfold vol at hp
              rw [up_np (by omega), q2 _ _ (by omega)]
              simp (disch := omega) only [up_np]
      · have e3 := fun S : zS => c_set_out (S := S) hz
        have m3 := fun S : zS => m_set_out (S := S) hz
        refine op_same (r := -nI 2) h ?_ ?_
        · simp (disch := omega) only [wbr_T, wbr_F, wgd_T, wbq, wbv, wnm, zI_mk, zL_mk, uI_mk, uL_mk, kI_mk, kL_mk, nI_add, nI_mul, nI_sub, nI_div, nI_clamp, wgB, wgP, nI_leI, nI_ltI, nI_eq, nI_eqm, nI_eqm5, wdT, wdF, wd1, wd0, li_0, li_1, li_2, li_3, li_4, li_5, li_6, li_7, li_8, li_9, li_10, li_11, li_12, li_13, li_14, li_15, li_16, li_17, li_18, li_19, li_20, li_21, li_22, li_23, li_24, li_25, li_26, li_27, li_28, li_29, li_30, li_31, li_32, li_33, li_38, li_40, li_41, li_48, li_57, li_58, li_59, li_60, li_61, li_62, li_63, li_68, li_69, li_70, li_71, li_72, li_73, li_74, li_75, li_83, li_87, li_88, li_89, li_99, li_100, li_104, li_105, li_106, li_107, li_108, li_109, li_110, li_111, li_112, li_113, li_114, li_115, li_116, li_117, li_118, li_119, li_120, li_121, li_124, li_127, li_128, li_200, li_4095, li_4096, li_9999, c0, c1, c2, c3, c4, c5, c6, c7, c8, u0, u1, u2, u3, u4, u5, u6, u7, u8, u9, u10, u11, u12, u13, u14, u15, u16, u17, u18, u19, u20, u21, u22, u23, u24, u25, u26, u27, u28, u29, u30, fn_Ls_saint, e1, e3]
        · simp (disch := omega) only [wbr_T, wbr_F, wgd_T, wbq, wbv, wnm, zI_mk, zL_mk, uI_mk, uL_mk, kI_mk, kL_mk, nI_add, nI_mul, nI_sub, nI_div, nI_clamp, wgB, wgP, nI_leI, nI_ltI, nI_eq, nI_eqm, nI_eqm5, wdT, wdF, wd1, wd0, li_0, li_1, li_2, li_3, li_4, li_5, li_6, li_7, li_8, li_9, li_10, li_11, li_12, li_13, li_14, li_15, li_16, li_17, li_18, li_19, li_20, li_21, li_22, li_23, li_24, li_25, li_26, li_27, li_28, li_29, li_30, li_31, li_32, li_33, li_38, li_40, li_41, li_48, li_57, li_58, li_59, li_60, li_61, li_62, li_63, li_68, li_69, li_70, li_71, li_72, li_73, li_74, li_75, li_83, li_87, li_88, li_89, li_99, li_100, li_104, li_105, li_106, li_107, li_108, li_109, li_110, li_111, li_112, li_113, li_114, li_115, li_116, li_117, li_118, li_119, li_120, li_121, li_124, li_127, li_128, li_200, li_4095, li_4096, li_9999, gT_mk_137, zT_mk_137, zR_mk_137_0, zR_mk_137_1, zR_mk_137_2, zR_mk_137_4, zR_mk_137_6, zR_mk_137_7, zR_mk_137_9, zR_mk_137_16, zR_mk_137_17, zR_mk_137_18, zR_mk_137_19, zR_mk_137_20, zR_mk_137_22, zR_mk_137_24, zR_mk_137_25, zR_mk_137_26, zR_mk_137_28, zR_mk_137_29, zR_mk_137_30, zR_mk_137_31, gT_mk_138, zT_mk_138, gT_mk_139, zT_mk_139, gT_mk_140, zT_mk_140, gT_mk_141, zT_mk_141, gT_mk_142, zT_mk_142, gT_mk_143, zT_mk_143, gT_mk_144, zT_mk_144, gT_mk_145, zT_mk_145, gT_mk_146, zT_mk_146, gT_mk_147, zT_mk_147, gT_mk_148, zT_mk_148, gT_mk_149, zT_mk_149, gT_mk_150, zT_mk_150, gT_mk_151, zT_mk_151, gT_mk_152, zT_mk_152, gT_mk_153, zT_mk_153, gT_mk_154, zT_mk_154, gT_mk_155, zT_mk_155, gT_mk_156, zT_mk_156, gT_mk_157, zT_mk_157, fn_Mo_saint, m1, m2, m3]
    · have m2 := fun S : zS => m_out (S := S) (hi := 9) hy (by decide)
      refine op_same (r := -nI 2) h ?_ ?_
      · by_cases h0 : y < nI 0
        · simp (disch := omega) only [wbr_T, wbr_F, wgd_T, wbq, wbv, wnm, zI_mk, zL_mk, uI_mk, uL_mk, kI_mk, kL_mk, nI_add, nI_mul, nI_sub, nI_div, nI_clamp, wgB, wgP, nI_leI, nI_ltI, nI_eq, nI_eqm, nI_eqm5, wdT, wdF, wd1, wd0, li_0, li_1, li_2, li_3, li_4, li_5, li_6, li_7, li_8, li_9, li_10, li_11, li_12, li_13, li_14, li_15, li_16, li_17, li_18, li_19, li_20, li_21, li_22, li_23, li_24, li_25, li_26, li_27, li_28, li_29, li_30, li_31, li_32, li_33, li_38, li_40, li_41, li_48, li_57, li_58, li_59, li_60, li_61, li_62, li_63, li_68, li_69, li_70, li_71, li_72, li_73, li_74, li_75, li_83, li_87, li_88, li_89, li_99, li_100, li_104, li_105, li_106, li_107, li_108, li_109, li_110, li_111, li_112, li_113, li_114, li_115, li_116, li_117, li_118, li_119, li_120, li_121, li_124, li_127, li_128, li_200, li_4095, li_4096, li_9999, c0, c1, c2, c3, c4, c5, c6, c7, c8, u0, u1, u2, u3, u4, u5, u6, u7, u8, u9, u10, u11, u12, u13, u14, u15, u16, u17, u18, u19, u20, u21, u22, u23, u24, u25, u26, u27, u28, u29, u30, fn_Ls_saint, e1, h0]
        · have h1 := ox_ge hy h0
          simp (disch := omega) only [wbr_T, wbr_F, wgd_T, wbq, wbv, wnm, zI_mk, zL_mk, uI_mk, uL_mk, kI_mk, kL_mk, nI_add, nI_mul, nI_sub, nI_div, nI_clamp, wgB, wgP, nI_leI, nI_ltI, nI_eq, nI_eqm, nI_eqm5, wdT, wdF, wd1, wd0, li_0, li_1, li_2, li_3, li_4, li_5, li_6, li_7, li_8, li_9, li_10, li_11, li_12, li_13, li_14, li_15, li_16, li_17, li_18, li_19, li_20, li_21, li_22, li_23, li_24, li_25, li_26, li_27, li_28, li_29, li_30, li_31, li_32, li_33, li_38, li_40, li_41, li_48, li_57, li_58, li_59, li_60, li_61, li_62, li_63, li_68, li_69, li_70, li_71, li_72, li_73, li_74, li_75, li_83, li_87, li_88, li_89, li_99, li_100, li_104, li_105, li_106, li_107, li_108, li_109, li_110, li_111, li_112, li_113, li_114, li_115, li_116, li_117, li_118, li_119, li_120, li_121, li_124, li_127, li_128, li_200, li_4095, li_4096, li_9999, c0, c1, c2, c3, c4, c5, c6, c7, c8, u0, u1, u2, u3, u4, u5, u6, u7, u8, u9, u10, u11, u12, u13, u14, u15, u16, u17, u18, u19, u20, u21, u22, u23, u24, u25, u26, u27, u28, u29, u30, fn_Ls_saint, e1, h0, h1]
      · simp (disch := omega) only [wbr_T, wbr_F, wgd_T, wbq, wbv, wnm, zI_mk, zL_mk, uI_mk, uL_mk, kI_mk, kL_mk, nI_add, nI_mul, nI_sub, nI_div, nI_clamp, wgB, wgP, nI_leI, nI_ltI, nI_eq, nI_eqm, nI_eqm5, wdT, wdF, wd1, wd0, li_0, li_1, li_2, li_3, li_4, li_5, li_6, li_7, li_8, li_9, li_10, li_11, li_12, li_13, li_14, li_15, li_16, li_17, li_18, li_19, li_20, li_21, li_22, li_23, li_24, li_25, li_26, li_27, li_28, li_29, li_30, li_31, li_32, li_33, li_38, li_40, li_41, li_48, li_57, li_58, li_59, li_60, li_61, li_62, li_63, li_68, li_69, li_70, li_71, li_72, li_73, li_74, li_75, li_83, li_87, li_88, li_89, li_99, li_100, li_104, li_105, li_106, li_107, li_108, li_109, li_110, li_111, li_112, li_113, li_114, li_115, li_116, li_117, li_118, li_119, li_120, li_121, li_124, li_127, li_128, li_200, li_4095, li_4096, li_9999, gT_mk_137, zT_mk_137, zR_mk_137_0, zR_mk_137_1, zR_mk_137_2, zR_mk_137_4, zR_mk_137_6, zR_mk_137_7, zR_mk_137_9, zR_mk_137_16, zR_mk_137_17, zR_mk_137_18, zR_mk_137_19, zR_mk_137_20, zR_mk_137_22, zR_mk_137_24, zR_mk_137_25, zR_mk_137_26, zR_mk_137_28, zR_mk_137_29, zR_mk_137_30, zR_mk_137_31, gT_mk_138, zT_mk_138, gT_mk_139, zT_mk_139, gT_mk_140, zT_mk_140, gT_mk_141, zT_mk_141, gT_mk_142, zT_mk_142, gT_mk_143, zT_mk_143, gT_mk_144, zT_mk_144, gT_mk_145, zT_mk_145, gT_mk_146, zT_mk_146, gT_mk_147, zT_mk_147, gT_mk_148, zT_mk_148, gT_mk_149, zT_mk_149, gT_mk_150, zT_mk_150, gT_mk_151, zT_mk_151, gT_mk_152, zT_mk_152, gT_mk_153, zT_mk_153, gT_mk_154, zT_mk_154, gT_mk_155, zT_mk_155, gT_mk_156, zT_mk_156, gT_mk_157, zT_mk_157, fn_Mo_saint, m1, m2]
  · have e1 := fun S : zS => c_kind_out (S := S) hx
    have m1 := fun S : zS => m_out (S := S) (hi := 6) hx (by decide)
    refine op_same (r := -nI 1) h ?_ ?_
    · simp (disch := omega) only [wbr_T, wbr_F, wgd_T, wbq, wbv, wnm, zI_mk, zL_mk, uI_mk, uL_mk, kI_mk, kL_mk, nI_add, nI_mul, nI_sub, nI_div, nI_clamp, wgB, wgP, nI_leI, nI_ltI, nI_eq, nI_eqm, nI_eqm5, wdT, wdF, wd1, wd0, li_0, li_1, li_2, li_3, li_4, li_5, li_6, li_7, li_8, li_9, li_10, li_11, li_12, li_13, li_14, li_15, li_16, li_17, li_18, li_19, li_20, li_21, li_22, li_23, li_24, li_25, li_26, li_27, li_28, li_29, li_30, li_31, li_32, li_33, li_38, li_40, li_41, li_48, li_57, li_58, li_59, li_60, li_61, li_62, li_63, li_68, li_69, li_70, li_71, li_72, li_73, li_74, li_75, li_83, li_87, li_88, li_89, li_99, li_100, li_104, li_105, li_106, li_107, li_108, li_109, li_110, li_111, li_112, li_113, li_114, li_115, li_116, li_117, li_118, li_119, li_120, li_121, li_124, li_127, li_128, li_200, li_4095, li_4096, li_9999, c0, c1, c2, c3, c4, c5, c6, c7, c8, u0, u1, u2, u3, u4, u5, u6, u7, u8, u9, u10, u11, u12, u13, u14, u15, u16, u17, u18, u19, u20, u21, u22, u23, u24, u25, u26, u27, u28, u29, u30, fn_Ls_saint, e1]
    · simp (disch := omega) only [wbr_T, wbr_F, wgd_T, wbq, wbv, wnm, zI_mk, zL_mk, uI_mk, uL_mk, kI_mk, kL_mk, nI_add, nI_mul, nI_sub, nI_div, nI_clamp, wgB, wgP, nI_leI, nI_ltI, nI_eq, nI_eqm, nI_eqm5, wdT, wdF, wd1, wd0, li_0, li_1, li_2, li_3, li_4, li_5, li_6, li_7, li_8, li_9, li_10, li_11, li_12, li_13, li_14, li_15, li_16, li_17, li_18, li_19, li_20, li_21, li_22, li_23, li_24, li_25, li_26, li_27, li_28, li_29, li_30, li_31, li_32, li_33, li_38, li_40, li_41, li_48, li_57, li_58, li_59, li_60, li_61, li_62, li_63, li_68, li_69, li_70, li_71, li_72, li_73, li_74, li_75, li_83, li_87, li_88, li_89, li_99, li_100, li_104, li_105, li_106, li_107, li_108, li_109, li_110, li_111, li_112, li_113, li_114, li_115, li_116, li_117, li_118, li_119, li_120, li_121, li_124, li_127, li_128, li_200, li_4095, li_4096, li_9999, gT_mk_137, zT_mk_137, zR_mk_137_0, zR_mk_137_1, zR_mk_137_2, zR_mk_137_4, zR_mk_137_6, zR_mk_137_7, zR_mk_137_9, zR_mk_137_16, zR_mk_137_17, zR_mk_137_18, zR_mk_137_19, zR_mk_137_20, zR_mk_137_22, zR_mk_137_24, zR_mk_137_25, zR_mk_137_26, zR_mk_137_28, zR_mk_137_29, zR_mk_137_30, zR_mk_137_31, gT_mk_138, zT_mk_138, gT_mk_139, zT_mk_139, gT_mk_140, zT_mk_140, gT_mk_141, zT_mk_141, gT_mk_142, zT_mk_142, gT_mk_143, zT_mk_143, gT_mk_144, zT_mk_144, gT_mk_145, zT_mk_145, gT_mk_146, zT_mk_146, gT_mk_147, zT_mk_147, gT_mk_148, zT_mk_148, gT_mk_149, zT_mk_149, gT_mk_150, zT_mk_150, gT_mk_151, zT_mk_151, gT_mk_152, zT_mk_152, gT_mk_153, zT_mk_153, gT_mk_154, zT_mk_154, gT_mk_155, zT_mk_155, gT_mk_156, zT_mk_156, gT_mk_157, zT_mk_157, fn_Mo_saint, m1]
end
