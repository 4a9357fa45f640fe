/-! SHARED, the model -/
def cdM (x : Nat) : Int32 := if x = 9 then -nI 5 else nI x
theorem cdM_n {x : Nat} (h : ¬ x = 9) : cdM x = nI x := if_neg h
theorem cdM_9 : cdM 9 = -nI 5 := if_pos rfl
section
variable {f f' g : Nat → Nat → Int32} {l : Nat → Nat → Int64} {R : Nat → Nat} {a a' : Nat → Nat} {T : Nat → Nat → Nat} {N : Nat → Nat} {ru D i j k n w z s : Nat} {V : zV} {ok : Nat → Bool} {tk : Nat → Nat → Nat} {st : shS} {wo : Int32}
def MS (a : Nat → Nat) (tk : Nat → Nat → Nat) (f : Nat → Nat → Int32) : Prop := (∀ k, f 138 k = nI (a k)) ∧ ∀ s n, s < a 68 → n < 4 → ∃ x, f 150 (4 * s + n) = nI x ∧ pc x = tk s n
def MB (z : Nat) (f : Nat → Nat → Int32) (st : shS) : Prop := st.1 ≤ 100 ∧ f 137 21 = nI st.1 - nI 1 ∧ (0 < st.1 → ∀ k, k < z → f 149 k = cdM (st.2 k))
def MFr (s : Nat) (f f' : Nat → Nat → Int32) : Prop := ∀ p j, ¬ (p = 148 ∧ s ≤ j) → ¬ p = 149 → ¬ (p = 137 ∧ j = 21) → f' p j = f p j
theorem MFr_r : MFr s f f := fun _ _ _ _ _ => rfl
theorem MFr_t (h : MFr s f f') (h2 : MFr s f' g) : MFr s f g := fun p j a b c => (h2 p j a b c).trans (h p j a b c)
theorem MFr_s (h : MFr (s + 1) f f') : MFr s f f' := fun p j a b c => h p j (fun q => a ⟨q.1, by omega⟩) b c
theorem MFr_up {x : Int32} : MFr s f (up f 148 s x) := fun p j a _ _ => by
  by_cases e : p = 148
  · subst e
    exact up_nj (fun q => a ⟨rfl, by omega⟩)
  · exact up_np e
theorem MS_F (h : MS a tk f) (hs : MFr s f f') : MS a tk f' := ⟨fun k => (hs 138 k (by omega) (by omega) (by omega)).trans (h.1 k), fun s n h1 h2 => by
  obtain ⟨x, q1, q2⟩ := h.2 s n h1 h2
  exact ⟨x, (hs 150 _ (by omega) (by omega) (by omega)).trans q1, q2⟩⟩
theorem MB_up {x : Int32} (h : MB z f st) : MB z (up f 148 s x) st := ⟨h.1, (up_np (by decide)).trans h.2.1, fun q k hk => (up_np (by decide)).trans (h.2.2 q k hk)⟩
theorem mrow_up {row : Nat → Nat} {x : Nat} (hr : ∀ k, k < s → f 148 k = cdM (row k)) : ∀ k, k < s + 1 → up f 148 s (cdM x) 148 k = cdM (us row s x k) := fun k hk => by
  by_cases e : k = s
  · subst e
    rw [up_eq, us_eq]
  · rw [up_nj e, us_ne e]
    exact hr k (by omega)
theorem moshare_S (u p : Nat) (b c e v : Int32) (S : zS) : fn_Mo_share (u + 1) p b c e v S = fn_Mo_share_o (fun b0 b1 b2 b3 b4 S => fn_Mo_share u b0 b1 b2 b3 b4 S) p b c e v S := by
  unfold fn_Mo_share
  rw [lpS]
  rfl
theorem m_shcp {o0 : Nat → Int32 → Int32 → Int32 → Int32 → zS → Option zS} (hz : z ≤ 6) : ∀ (e k G : Nat) (f : Nat → Nat → Int32), k + e = z → e < G →
    ∃ f', lp (σ := Nat × Int32 × Int32 × zS) (fun k s => fn_Mo_share_L27 o0 s.1 s.2.1 s.2.2.1 s.2.2.2 (fun (a0 : Nat) (a1 : Int32) (a5 : Int32) (S : zS) => k (a0, a1, a5, S))) G (137, nI z, nI k, mk f l R) = some (mk f' l R) ∧ (∀ j, k ≤ j → j < z → f' 149 j = f 148 j) ∧ ∀ p j, ¬ (p = 149 ∧ k ≤ j) → f' p j = f p j
  | 0, k, G, f, he, hG => by
    obtain ⟨G, rfl⟩ : ∃ H, G = H + 1 := ⟨G - 1, by omega⟩
    refine ⟨f, ?_, fun j h1 h2 => by omega, fun _ _ _ => rfl⟩
    rw [lpS]
    show fn_Mo_share_L27 o0 137 (nI z) (nI k) (mk f l R) _ = _
    simp (disch := omega) only [wbr_T, wbr_F, wgd_T, wbq, wbv, wnm, zI_mk, zL_mk, uI_mk, uL_mk, kI_mk, kL_mk, nI_add, nI_mul, nI_sub, nI_div, nI_clamp, wgB, wgP, nI_leI, nI_ltI, nI_eq, nI_eqm, nI_eqm5, wdT, wdF, wd1, wd0, li_0, li_1, li_2, li_3, li_4, li_5, li_6, li_7, li_8, li_9, li_10, li_11, li_12, li_13, li_14, li_15, li_16, li_17, li_18, li_19, li_20, li_21, li_22, li_23, li_24, li_25, li_26, li_27, li_28, li_29, li_30, li_31, li_32, li_33, li_38, li_40, li_41, li_48, li_57, li_58, li_59, li_60, li_61, li_62, li_63, li_68, li_69, li_70, li_71, li_72, li_73, li_74, li_75, li_83, li_87, li_88, li_89, li_99, li_100, li_104, li_105, li_106, li_107, li_108, li_109, li_110, li_111, li_112, li_113, li_114, li_115, li_116, li_117, li_118, li_119, li_120, li_121, li_124, li_127, li_128, li_200, li_4095, li_4096, li_9999, gT_mk_137, zT_mk_137, zR_mk_137_0, zR_mk_137_1, zR_mk_137_2, zR_mk_137_4, zR_mk_137_6, zR_mk_137_7, zR_mk_137_9, zR_mk_137_16, zR_mk_137_17, zR_mk_137_18, zR_mk_137_19, zR_mk_137_20, zR_mk_137_22, zR_mk_137_24, zR_mk_137_25, zR_mk_137_26, zR_mk_137_28, zR_mk_137_29, zR_mk_137_30, zR_mk_137_31, gT_mk_138, zT_mk_138, gT_mk_139, zT_mk_139, gT_mk_140, zT_mk_140, gT_mk_141, zT_mk_141, gT_mk_142, zT_mk_142, gT_mk_143, zT_mk_143, gT_mk_144, zT_mk_144, gT_mk_145, zT_mk_145, gT_mk_146, zT_mk_146, gT_mk_147, zT_mk_147, gT_mk_148, zT_mk_148, gT_mk_149, zT_mk_149, gT_mk_150, zT_mk_150, gT_mk_151, zT_mk_151, gT_mk_152, zT_mk_152, gT_mk_153, zT_mk_153, gT_mk_154, zT_mk_154, gT_mk_155, zT_mk_155, gT_mk_156, zT_mk_156, gT_mk_157, zT_mk_157, fn_Mo_share_L27]
  | e + 1, k, G, f, he, hG => by
    obtain ⟨G, rfl⟩ : ∃ H, G = H + 1 := ⟨G - 1, by omega⟩
    obtain ⟨f1, e1, q1, fr1⟩ := m_shcp (o0 := o0) hz e (k + 1) G (up f 149 k (f 148 k)) (by omega) (by omega)
    refine ⟨f1, ?_, fun j h1 h2 => ?_, fun p j hp => ?_⟩
    · rw [lpS]
      show fn_Mo_share_L27 o0 137 (nI z) (nI k) (mk f l R) _ = _
      simp (disch := omega) only [wbr_T, wbr_F, wgd_T, wbq, wbv, wnm, zI_mk, zL_mk, uI_mk, uL_mk, kI_mk, kL_mk, nI_add, nI_mul, nI_sub, nI_div, nI_clamp, wgB, wgP, nI_leI, nI_ltI, nI_eq, nI_eqm, nI_eqm5, wdT, wdF, wd1, wd0, li_0, li_1, li_2, li_3, li_4, li_5, li_6, li_7, li_8, li_9, li_10, li_11, li_12, li_13, li_14, li_15, li_16, li_17, li_18, li_19, li_20, li_21, li_22, li_23, li_24, li_25, li_26, li_27, li_28, li_29, li_30, li_31, li_32, li_33, li_38, li_40, li_41, li_48, li_57, li_58, li_59, li_60, li_61, li_62, li_63, li_68, li_69, li_70, li_71, li_72, li_73, li_74, li_75, li_83, li_87, li_88, li_89, li_99, li_100, li_104, li_105, li_106, li_107, li_108, li_109, li_110, li_111, li_112, li_113, li_114, li_115, li_116, li_117, li_118, li_119, li_120, li_121, li_124, li_127, li_128, li_200, li_4095, li_4096, li_9999, gT_mk_137, zT_mk_137, zR_mk_137_0, zR_mk_137_1, zR_mk_137_2, zR_mk_137_4, zR_mk_137_6, zR_mk_137_7, zR_mk_137_9, zR_mk_137_16, zR_mk_137_17, zR_mk_137_18, zR_mk_137_19, zR_mk_137_20, zR_mk_137_22, zR_mk_137_24, zR_mk_137_25, zR_mk_137_26, zR_mk_137_28, zR_mk_137_29, zR_mk_137_30, zR_mk_137_31, gT_mk_138, zT_mk_138, gT_mk_139, zT_mk_139, gT_mk_140, zT_mk_140, gT_mk_141, zT_mk_141, gT_mk_142, zT_mk_142, gT_mk_143, zT_mk_143, gT_mk_144, zT_mk_144, gT_mk_145, zT_mk_145, gT_mk_146, zT_mk_146, gT_mk_147, zT_mk_147, gT_mk_148, zT_mk_148, gT_mk_149, zT_mk_149, gT_mk_150, zT_mk_150, gT_mk_151, zT_mk_151, gT_mk_152, zT_mk_152, gT_mk_153, zT_mk_153, gT_mk_154, zT_mk_154, gT_mk_155, zT_mk_155, gT_mk_156, zT_mk_156, gT_mk_157, zT_mk_157, fn_Mo_share_L27]
      exact e1
    · by_cases ej : j = k
      · subst ej
        rw [fr1 149 _ (by omega), up_eq]
      · rw [q1 j (by omega) h2, up_np (by decide)]
    · rw [fr1 p j (by omega)]
      by_cases ep : p = 149
      · subst ep
        exact up_nj (by omega)
      · exact up_np ep
theorem m_sk57 {d : Nat} {o0 : Nat → Int32 → Int32 → Int32 → Int32 → zS → Option zS} (hG6 : Gd a ru D) (htk : ∀ s n, tk s n ≤ 12) (hsz : s + 1 + d = a 68)
    (ih : ∀ (g sum : Nat) (row : Nat → Nat) (st : shS) (f : Nat → Nat → Int32), g < 16 → sum ≤ 12 * (s + 1) → MS a tk f → MB (a 68) f st → (∀ k, k < s + 1 → f 148 k = cdM (row k)) → ∃ f', o0 137 (nI (s + 1)) (nI (15 - g)) (nI sum) wo (mk f l R) = some (mk f' l R) ∧ MB (a 68) f' (shD (okS a wo) tk d (s + 1) g sum row st) ∧ MFr (s + 1) f f')
    {g sum : Nat} {row : Nat → Nat} (hg : g < 16) (hsum : sum ≤ 12 * s) : ∀ (e n G : Nat) (f : Nat → Nat → Int32) (st : shS), n + e = 4 → e < G → MS a tk f → MB (a 68) f st → (∀ k, k < s → f 148 k = cdM (row k)) →
    ∃ f', lp (σ := Nat × Int32 × Int32 × Int32 × Int32 × Int32 × zS) (fun k s => fn_Mo_share_L57 o0 s.1 s.2.1 s.2.2.1 s.2.2.2.1 s.2.2.2.2.1 s.2.2.2.2.2.1 s.2.2.2.2.2.2 (fun (a0 : Nat) (a1 : Int32) (a2 : Int32) (a3 : Int32) (a4 : Int32) (a5 : Int32) (S : zS) => k (a0, a1, a2, a3, a4, a5, S))) G (137, nI s, nI (15 - g), nI sum, wo, nI n, mk f l R) = some (mk f' l R)
      ∧ MB (a 68) f' (shD (okS a wo) tk d (s + 1) g sum (us row s 9) (if okS a wo s = true then shN (fun n st => shD (okS a wo) tk d (s + 1) (g + 2 ^ n) (sum + tk s n) (us row s n) st) g e n st else st)) ∧ MFr s f f' := by
  have z6 := (Gd_all hG6).1
  have g9 := (Gd_gs hG6 (show s < 6 by omega)).2.2.2.1
  -- none
  have last : ∀ (f : Nat → Nat → Int32) (st : shS), MS a tk f → MB (a 68) f st → (∀ k, k < s → f 148 k = cdM (row k)) → ∃ f', fn_Mo_share_L132 o0 137 (nI s) (nI (15 - g)) (nI sum) wo (mk f l R) = some (mk f' l R) ∧ MB (a 68) f' (shD (okS a wo) tk d (s + 1) g sum (us row s 9) st) ∧ MFr s f f' := by
    intro f st hC hB hr
    have hr1 := mrow_up (x := 9) hr
    rw [cdM_9] at hr1
    obtain ⟨f1, e1, b1, s1⟩ := ih g sum (us row s 9) st (up f 148 s (-nI 5)) hg (by omega) (MS_F hC MFr_up) (MB_up hB) hr1
    refine ⟨f1, ?_, b1, MFr_t MFr_up (MFr_s s1)⟩
    simp (disch := omega) only [wbr_T, wbr_F, wgd_T, wbq, wbv, wnm, zI_mk, zL_mk, uI_mk, uL_mk, kI_mk, kL_mk, nI_add, nI_mul, nI_sub, nI_div, nI_clamp, wgB, wgP, nI_leI, nI_ltI, nI_eq, nI_eqm, nI_eqm5, wdT, wdF, wd1, wd0, li_0, li_1, li_2, li_3, li_4, li_5, li_6, li_7, li_8, li_9, li_10, li_11, li_12, li_13, li_14, li_15, li_16, li_17, li_18, li_19, li_20, li_21, li_22, li_23, li_24, li_25, li_26, li_27, li_28, li_29, li_30, li_31, li_32, li_33, li_38, li_40, li_41, li_48, li_57, li_58, li_59, li_60, li_61, li_62, li_63, li_68, li_69, li_70, li_71, li_72, li_73, li_74, li_75, li_83, li_87, li_88, li_89, li_99, li_100, li_104, li_105, li_106, li_107, li_108, li_109, li_110, li_111, li_112, li_113, li_114, li_115, li_116, li_117, li_118, li_119, li_120, li_121, li_124, li_127, li_128, li_200, li_4095, li_4096, li_9999, gT_mk_137, zT_mk_137, zR_mk_137_0, zR_mk_137_1, zR_mk_137_2, zR_mk_137_4, zR_mk_137_6, zR_mk_137_7, zR_mk_137_9, zR_mk_137_16, zR_mk_137_17, zR_mk_137_18, zR_mk_137_19, zR_mk_137_20, zR_mk_137_22, zR_mk_137_24, zR_mk_137_25, zR_mk_137_26, zR_mk_137_28, zR_mk_137_29, zR_mk_137_30, zR_mk_137_31, gT_mk_138, zT_mk_138, gT_mk_139, zT_mk_139, gT_mk_140, zT_mk_140, gT_mk_141, zT_mk_141, gT_mk_142, zT_mk_142, gT_mk_143, zT_mk_143, gT_mk_144, zT_mk_144, gT_mk_145, zT_mk_145, gT_mk_146, zT_mk_146, gT_mk_147, zT_mk_147, gT_mk_148, zT_mk_148, gT_mk_149, zT_mk_149, gT_mk_150, zT_mk_150, gT_mk_151, zT_mk_151, gT_mk_152, zT_mk_152, gT_mk_153, zT_mk_153, gT_mk_154, zT_mk_154, gT_mk_155, zT_mk_155, gT_mk_156, zT_mk_156, gT_mk_157, zT_mk_157, fn_Mo_share_L132, e1]
  intro e
  induction e with
  | zero =>
    intro n G f st hn hG hC hB hr
    obtain ⟨G, rfl⟩ : ∃ H, G = H + 1 := ⟨G - 1, by omega⟩
    have en : n = 4 := by omega
    subst en
    obtain ⟨f1, e1, b1, s1⟩ := last f st hC hB hr
    rw [lpS]
    show ∃ f', fn_Mo_share_L57 o0 137 (nI s) (nI (15 - g)) (nI sum) wo (nI 4) (mk f l R) _ = _ ∧ MB (a 68) f' (shD (okS a wo) tk d (s + 1) g sum (us row s 9) (if okS a wo s = true then st else st)) ∧ _
    rw [ite_self]
    refine ⟨f1, ?_, b1, s1⟩
    simp (disch := omega) only [wbr_T, wbr_F, wgd_T, wbq, wbv, wnm, zI_mk, zL_mk, uI_mk, uL_mk, kI_mk, kL_mk, nI_add, nI_mul, nI_sub, nI_div, nI_clamp, wgB, wgP, nI_leI, nI_ltI, nI_eq, nI_eqm, nI_eqm5, wdT, wdF, wd1, wd0, li_0, li_1, li_2, li_3, li_4, li_5, li_6, li_7, li_8, li_9, li_10, li_11, li_12, li_13, li_14, li_15, li_16, li_17, li_18, li_19, li_20, li_21, li_22, li_23, li_24, li_25, li_26, li_27, li_28, li_29, li_30, li_31, li_32, li_33, li_38, li_40, li_41, li_48, li_57, li_58, li_59, li_60, li_61, li_62, li_63, li_68, li_69, li_70, li_71, li_72, li_73, li_74, li_75, li_83, li_87, li_88, li_89, li_99, li_100, li_104, li_105, li_106, li_107, li_108, li_109, li_110, li_111, li_112, li_113, li_114, li_115, li_116, li_117, li_118, li_119, li_120, li_121, li_124, li_127, li_128, li_200, li_4095, li_4096, li_9999, gT_mk_137, zT_mk_137, zR_mk_137_0, zR_mk_137_1, zR_mk_137_2, zR_mk_137_4, zR_mk_137_6, zR_mk_137_7, zR_mk_137_9, zR_mk_137_16, zR_mk_137_17, zR_mk_137_18, zR_mk_137_19, zR_mk_137_20, zR_mk_137_22, zR_mk_137_24, zR_mk_137_25, zR_mk_137_26, zR_mk_137_28, zR_mk_137_29, zR_mk_137_30, zR_mk_137_31, gT_mk_138, zT_mk_138, gT_mk_139, zT_mk_139, gT_mk_140, zT_mk_140, gT_mk_141, zT_mk_141, gT_mk_142, zT_mk_142, gT_mk_143, zT_mk_143, gT_mk_144, zT_mk_144, gT_mk_145, zT_mk_145, gT_mk_146, zT_mk_146, gT_mk_147, zT_mk_147, gT_mk_148, zT_mk_148, gT_mk_149, zT_mk_149, gT_mk_150, zT_mk_150, gT_mk_151, zT_mk_151, gT_mk_152, zT_mk_152, gT_mk_153, zT_mk_153, gT_mk_154, zT_mk_154, gT_mk_155, zT_mk_155, gT_mk_156, zT_mk_156, gT_mk_157, zT_mk_157, fn_Mo_share_L57, e1]
  | succ e ihe =>
    intro n G f st hn hG hC hB hr
    obtain ⟨G, rfl⟩ : ∃ H, G = H + 1 := ⟨G - 1, by omega⟩
    have hn4 : n < 4 := by omega
    have mt := m_thread (f := f) (l := l) (R := R) (show s < 6 by omega) (hC.1 _) g9
    rw [lpS]
    by_cases c1 : a (10 * s + 3) < 99
    · rw [if_neg (by omega)] at mt
      by_cases c2 : nI s = wo
      · have okn : ¬ okS a wo s = true := by
          unfold okS
          rw [decide_eq_true c2]
          intro q
          rw [Bool.not_true, Bool.and_false] at q
          cases q
        obtain ⟨f1, e1, b1, s1⟩ := last f st hC hB hr
        rw [if_neg okn]
        refine ⟨f1, ?_, b1, s1⟩
        show fn_Mo_share_L57 o0 137 (nI s) (nI (15 - g)) (nI sum) wo (nI n) (mk f l R) _ = _
        simp (disch := omega) only [wbr_T, wbr_F, wgd_T, wbq, wbv, wnm, zI_mk, zL_mk, uI_mk, uL_mk, kI_mk, kL_mk, nI_add, nI_mul, nI_sub, nI_div, nI_clamp, wgB, wgP, nI_leI, nI_ltI, nI_eq, nI_eqm, nI_eqm5, wdT, wdF, wd1, wd0, li_0, li_1, li_2, li_3, li_4, li_5, li_6, li_7, li_8, li_9, li_10, li_11, li_12, li_13, li_14, li_15, li_16, li_17, li_18, li_19, li_20, li_21, li_22, li_23, li_24, li_25, li_26, li_27, li_28, li_29, li_30, li_31, li_32, li_33, li_38, li_40, li_41, li_48, li_57, li_58, li_59, li_60, li_61, li_62, li_63, li_68, li_69, li_70, li_71, li_72, li_73, li_74, li_75, li_83, li_87, li_88, li_89, li_99, li_100, li_104, li_105, li_106, li_107, li_108, li_109, li_110, li_111, li_112, li_113, li_114, li_115, li_116, li_117, li_118, li_119, li_120, li_121, li_124, li_127, li_128, li_200, li_4095, li_4096, li_9999, gT_mk_137, zT_mk_137, zR_mk_137_0, zR_mk_137_1, zR_mk_137_2, zR_mk_137_4, zR_mk_137_6, zR_mk_137_7, zR_mk_137_9, zR_mk_137_16, zR_mk_137_17, zR_mk_137_18, zR_mk_137_19, zR_mk_137_20, zR_mk_137_22, zR_mk_137_24, zR_mk_137_25, zR_mk_137_26, zR_mk_137_28, zR_mk_137_29, zR_mk_137_30, zR_mk_137_31, gT_mk_138, zT_mk_138, gT_mk_139, zT_mk_139, gT_mk_140, zT_mk_140, gT_mk_141, zT_mk_141, gT_mk_142, zT_mk_142, gT_mk_143, zT_mk_143, gT_mk_144, zT_mk_144, gT_mk_145, zT_mk_145, gT_mk_146, zT_mk_146, gT_mk_147, zT_mk_147, gT_mk_148, zT_mk_148, gT_mk_149, zT_mk_149, gT_mk_150, zT_mk_150, gT_mk_151, zT_mk_151, gT_mk_152, zT_mk_152, gT_mk_153, zT_mk_153, gT_mk_154, zT_mk_154, gT_mk_155, zT_mk_155, gT_mk_156, zT_mk_156, gT_mk_157, zT_mk_157, fn_Mo_share_L57, mt, wdT c2, e1]
      · have oky : okS a wo s = true := by
          unfold okS
          rw [decide_eq_false c2, decide_eq_true c1]
          rfl
        have htk1 := htk s n
        rw [if_pos oky]
        show ∃ f', fn_Mo_share_L57 o0 137 (nI s) (nI (15 - g)) (nI sum) wo (nI n) (mk f l R) _ = _ ∧ MB (a 68) f' (shD (okS a wo) tk d (s + 1) g sum (us row s 9) (shN (fun n st => shD (okS a wo) tk d (s + 1) (g + 2 ^ n) (sum + tk s n) (us row s n) st) g e (n + 1) (if g / 2 ^ n % 2 = 0 then shD (okS a wo) tk d (s + 1) (g + 2 ^ n) (sum + tk s n) (us row s n) st else st))) ∧ _
        have bt : (nI (15 - g) >>> (nI n &&& nI 31)) &&& nI 1 = nI ((15 - g) / 2 ^ n % 2) := nI_bit (by omega) (by omega)
        by_cases c3 : g / 2 ^ n % 2 = 0
        · rw [if_pos c3]
          obtain ⟨q1, q2, q3, q4⟩ := (bits4 g hg n hn4).1 c3
          rw [q4] at bt
          have hr1 := mrow_up (x := n) hr
          rw [cdM_n (by omega)] at hr1
          obtain ⟨f1, e1, b1, s1⟩ := ih (g + 2 ^ n) (sum + tk s n) (us row s n) st (up f 148 s (nI n)) q2 (by omega) (MS_F hC MFr_up) (MB_up hB) hr1
          have s01 := MFr_t MFr_up (MFr_s s1)
          obtain ⟨f2, e2, b2, s2⟩ := ihe (n + 1) G f1 _ (by omega) (by omega) (MS_F hC s01) b1 (fun k hk => (s01 148 k (by omega) (by omega) (by omega)).trans (hr k hk))
          rw [if_pos oky] at b2
          refine ⟨f2, ?_, b2, MFr_t s01 s2⟩
          have sh : nI 1 <<< (nI n &&& nI 31) = nI (2 ^ n) := sh_k n (by omega)
          have hp := pow4 n hn4
          have sb : 15 - g - 2 ^ n = 15 - (g + 2 ^ n) := by omega
          obtain ⟨x, x1, x2⟩ := hC.2 s n (by omega) hn4
          rw [← x2] at e1
          simp (disch := omega) only [wbr_T, wbr_F, wgd_T, wbq, wbv, wnm, zI_mk, zL_mk, uI_mk, uL_mk, kI_mk, kL_mk, nI_add, nI_mul, nI_sub, nI_div, nI_clamp, wgB, wgP, nI_leI, nI_ltI, nI_eq, nI_eqm, nI_eqm5, wdT, wdF, wd1, wd0, li_0, li_1, li_2, li_3, li_4, li_5, li_6, li_7, li_8, li_9, li_10, li_11, li_12, li_13, li_14, li_15, li_16, li_17, li_18, li_19, li_20, li_21, li_22, li_23, li_24, li_25, li_26, li_27, li_28, li_29, li_30, li_31, li_32, li_33, li_38, li_40, li_41, li_48, li_57, li_58, li_59, li_60, li_61, li_62, li_63, li_68, li_69, li_70, li_71, li_72, li_73, li_74, li_75, li_83, li_87, li_88, li_89, li_99, li_100, li_104, li_105, li_106, li_107, li_108, li_109, li_110, li_111, li_112, li_113, li_114, li_115, li_116, li_117, li_118, li_119, li_120, li_121, li_124, li_127, li_128, li_200, li_4095, li_4096, li_9999, gT_mk_137, zT_mk_137, zR_mk_137_0, zR_mk_137_1, zR_mk_137_2, zR_mk_137_4, zR_mk_137_6, zR_mk_137_7, zR_mk_137_9, zR_mk_137_16, zR_mk_137_17, zR_mk_137_18, zR_mk_137_19, zR_mk_137_20, zR_mk_137_22, zR_mk_137_24, zR_mk_137_25, zR_mk_137_26, zR_mk_137_28, zR_mk_137_29, zR_mk_137_30, zR_mk_137_31, gT_mk_138, zT_mk_138, gT_mk_139, zT_mk_139, gT_mk_140, zT_mk_140, gT_mk_141, zT_mk_141, gT_mk_142, zT_mk_142, gT_mk_143, zT_mk_143, gT_mk_144, zT_mk_144, gT_mk_145, zT_mk_145, gT_mk_146, zT_mk_146, gT_mk_147, zT_mk_147, gT_mk_148, zT_mk_148, gT_mk_149, zT_mk_149, gT_mk_150, zT_mk_150, gT_mk_151, zT_mk_151, gT_mk_152, zT_mk_152, gT_mk_153, zT_mk_153, gT_mk_154, zT_mk_154, gT_mk_155, zT_mk_155, gT_mk_156, zT_mk_156, gT_mk_157, zT_mk_157, fn_Mo_share_L57, mt, wdF c2, bt, sh, sb, x1, m_pc, up_np, e1]
          exact e2
        · rw [if_neg c3]
          have q4 := (bits4 g hg n hn4).2 c3
          rw [q4] at bt
          obtain ⟨f2, e2, b2, s2⟩ := ihe (n + 1) G f st (by omega) (by omega) hC hB hr
          rw [if_pos oky] at b2
          refine ⟨f2, ?_, b2, s2⟩
          simp (disch := omega) only [wbr_T, wbr_F, wgd_T, wbq, wbv, wnm, zI_mk, zL_mk, uI_mk, uL_mk, kI_mk, kL_mk, nI_add, nI_mul, nI_sub, nI_div, nI_clamp, wgB, wgP, nI_leI, nI_ltI, nI_eq, nI_eqm, nI_eqm5, wdT, wdF, wd1, wd0, li_0, li_1, li_2, li_3, li_4, li_5, li_6, li_7, li_8, li_9, li_10, li_11, li_12, li_13, li_14, li_15, li_16, li_17, li_18, li_19, li_20, li_21, li_22, li_23, li_24, li_25, li_26, li_27, li_28, li_29, li_30, li_31, li_32, li_33, li_38, li_40, li_41, li_48, li_57, li_58, li_59, li_60, li_61, li_62, li_63, li_68, li_69, li_70, li_71, li_72, li_73, li_74, li_75, li_83, li_87, li_88, li_89, li_99, li_100, li_104, li_105, li_106, li_107, li_108, li_109, li_110, li_111, li_112, li_113, li_114, li_115, li_116, li_117, li_118, li_119, li_120, li_121, li_124, li_127, li_128, li_200, li_4095, li_4096, li_9999, gT_mk_137, zT_mk_137, zR_mk_137_0, zR_mk_137_1, zR_mk_137_2, zR_mk_137_4, zR_mk_137_6, zR_mk_137_7, zR_mk_137_9, zR_mk_137_16, zR_mk_137_17, zR_mk_137_18, zR_mk_137_19, zR_mk_137_20, zR_mk_137_22, zR_mk_137_24, zR_mk_137_25, zR_mk_137_26, zR_mk_137_28, zR_mk_137_29, zR_mk_137_30, zR_mk_137_31, gT_mk_138, zT_mk_138, gT_mk_139, zT_mk_139, gT_mk_140, zT_mk_140, gT_mk_141, zT_mk_141, gT_mk_142, zT_mk_142, gT_mk_143, zT_mk_143, gT_mk_144, zT_mk_144, gT_mk_145, zT_mk_145, gT_mk_146, zT_mk_146, gT_mk_147, zT_mk_147, gT_mk_148, zT_mk_148, gT_mk_149, zT_mk_149, gT_mk_150, zT_mk_150, gT_mk_151, zT_mk_151, gT_mk_152, zT_mk_152, gT_mk_153, zT_mk_153, gT_mk_154, zT_mk_154, gT_mk_155, zT_mk_155, gT_mk_156, zT_mk_156, gT_mk_157, zT_mk_157, fn_Mo_share_L57, mt, wdF c2, bt]
          exact e2
    · rw [if_pos (by omega)] at mt
      have okn : ¬ okS a wo s = true := by
        unfold okS
        rw [decide_eq_false c1]
        intro q
        rw [Bool.false_and] at q
        cases q
      obtain ⟨f1, e1, b1, s1⟩ := last f st hC hB hr
      rw [if_neg okn]
      refine ⟨f1, ?_, b1, s1⟩
      show fn_Mo_share_L57 o0 137 (nI s) (nI (15 - g)) (nI sum) wo (nI n) (mk f l R) _ = _
      simp (disch := omega) only [wbr_T, wbr_F, wgd_T, wbq, wbv, wnm, zI_mk, zL_mk, uI_mk, uL_mk, kI_mk, kL_mk, nI_add, nI_mul, nI_sub, nI_div, nI_clamp, wgB, wgP, nI_leI, nI_ltI, nI_eq, nI_eqm, nI_eqm5, wdT, wdF, wd1, wd0, li_0, li_1, li_2, li_3, li_4, li_5, li_6, li_7, li_8, li_9, li_10, li_11, li_12, li_13, li_14, li_15, li_16, li_17, li_18, li_19, li_20, li_21, li_22, li_23, li_24, li_25, li_26, li_27, li_28, li_29, li_30, li_31, li_32, li_33, li_38, li_40, li_41, li_48, li_57, li_58, li_59, li_60, li_61, li_62, li_63, li_68, li_69, li_70, li_71, li_72, li_73, li_74, li_75, li_83, li_87, li_88, li_89, li_99, li_100, li_104, li_105, li_106, li_107, li_108, li_109, li_110, li_111, li_112, li_113, li_114, li_115, li_116, li_117, li_118, li_119, li_120, li_121, li_124, li_127, li_128, li_200, li_4095, li_4096, li_9999, gT_mk_137, zT_mk_137, zR_mk_137_0, zR_mk_137_1, zR_mk_137_2, zR_mk_137_4, zR_mk_137_6, zR_mk_137_7, zR_mk_137_9, zR_mk_137_16, zR_mk_137_17, zR_mk_137_18, zR_mk_137_19, zR_mk_137_20, zR_mk_137_22, zR_mk_137_24, zR_mk_137_25, zR_mk_137_26, zR_mk_137_28, zR_mk_137_29, zR_mk_137_30, zR_mk_137_31, gT_mk_138, zT_mk_138, gT_mk_139, zT_mk_139, gT_mk_140, zT_mk_140, gT_mk_141, zT_mk_141, gT_mk_142, zT_mk_142, gT_mk_143, zT_mk_143, gT_mk_144, zT_mk_144, gT_mk_145, zT_mk_145, gT_mk_146, zT_mk_146, gT_mk_147, zT_mk_147, gT_mk_148, zT_mk_148, gT_mk_149, zT_mk_149, gT_mk_150, zT_mk_150, gT_mk_151, zT_mk_151, gT_mk_152, zT_mk_152, gT_mk_153, zT_mk_153, gT_mk_154, zT_mk_154, gT_mk_155, zT_mk_155, gT_mk_156, zT_mk_156, gT_mk_157, zT_mk_157, fn_Mo_share_L57, mt, e1]
theorem m_seek (hG6 : Gd a ru D) (htk : ∀ s n, tk s n ≤ 12) : ∀ (d s u g sum : Nat) (row : Nat → Nat) (st : shS) (f : Nat → Nat → Int32), s + d = a 68 → d < u → g < 16 → sum ≤ 12 * s → MS a tk f → MB (a 68) f st → (∀ k, k < s → f 148 k = cdM (row k)) →
    ∃ f', fn_Mo_share u 137 (nI s) (nI (15 - g)) (nI sum) wo (mk f l R) = some (mk f' l R) ∧ MB (a 68) f' (shD (okS a wo) tk d s g sum row st) ∧ MFr s f f'
  | 0, s, u, g, sum, row, st, f, hs, hu, hg, hsum, hC, hB, hr => by
    obtain ⟨u, rfl⟩ : ∃ v, u = v + 1 := ⟨u - 1, by omega⟩
    have z6 := (Gd_all hG6).1
    have es : s = a 68 := by omega
    subst es
    obtain ⟨h1, h2, h3⟩ := hB
    have hA := hC.1
    rw [moshare_S]
    show ∃ f', _ ∧ MB (a 68) f' (if st.1 < sum + 1 then (sum + 1, row) else st) ∧ _
    have le := le_sub (a := st.1) (b := 1) (c := sum) (by omega) (by decide) (by omega)
    by_cases c : st.1 < sum + 1
    · rw [if_pos c]
      have le1 : ¬ nI sum ≤ nI st.1 - nI 1 := fun q => by
        have := le.mp q
        omega
      obtain ⟨f1, e1, q1, fr1⟩ := m_shcp (l := l) (R := R) (o0 := fun b0 b1 b2 b3 b4 S => fn_Mo_share u b0 b1 b2 b3 b4 S) z6 (a 68) 0 FU (up f 137 21 (nI sum)) (Nat.zero_add _) (by show _ < 5000; omega)
      refine ⟨f1, ?_, ⟨by show sum + 1 ≤ 100; omega, ?_, fun _ k hk => ?_⟩, fun p j p1 p2 p3 => ?_⟩
      · simp (disch := omega) only [wbr_T, wbr_F, wgd_T, wbq, wbv, wnm, zI_mk, zL_mk, uI_mk, uL_mk, kI_mk, kL_mk, nI_add, nI_mul, nI_sub, nI_div, nI_clamp, wgB, wgP, nI_leI, nI_ltI, nI_eq, nI_eqm, nI_eqm5, wdT, wdF, wd1, wd0, li_0, li_1, li_2, li_3, li_4, li_5, li_6, li_7, li_8, li_9, li_10, li_11, li_12, li_13, li_14, li_15, li_16, li_17, li_18, li_19, li_20, li_21, li_22, li_23, li_24, li_25, li_26, li_27, li_28, li_29, li_30, li_31, li_32, li_33, li_38, li_40, li_41, li_48, li_57, li_58, li_59, li_60, li_61, li_62, li_63, li_68, li_69, li_70, li_71, li_72, li_73, li_74, li_75, li_83, li_87, li_88, li_89, li_99, li_100, li_104, li_105, li_106, li_107, li_108, li_109, li_110, li_111, li_112, li_113, li_114, li_115, li_116, li_117, li_118, li_119, li_120, li_121, li_124, li_127, li_128, li_200, li_4095, li_4096, li_9999, gT_mk_137, zT_mk_137, zR_mk_137_0, zR_mk_137_1, zR_mk_137_2, zR_mk_137_4, zR_mk_137_6, zR_mk_137_7, zR_mk_137_9, zR_mk_137_16, zR_mk_137_17, zR_mk_137_18, zR_mk_137_19, zR_mk_137_20, zR_mk_137_22, zR_mk_137_24, zR_mk_137_25, zR_mk_137_26, zR_mk_137_28, zR_mk_137_29, zR_mk_137_30, zR_mk_137_31, gT_mk_138, zT_mk_138, gT_mk_139, zT_mk_139, gT_mk_140, zT_mk_140, gT_mk_141, zT_mk_141, gT_mk_142, zT_mk_142, gT_mk_143, zT_mk_143, gT_mk_144, zT_mk_144, gT_mk_145, zT_mk_145, gT_mk_146, zT_mk_146, gT_mk_147, zT_mk_147, gT_mk_148, zT_mk_148, gT_mk_149, zT_mk_149, gT_mk_150, zT_mk_150, gT_mk_151, zT_mk_151, gT_mk_152, zT_mk_152, gT_mk_153, zT_mk_153, gT_mk_154, zT_mk_154, gT_mk_155, zT_mk_155, gT_mk_156, zT_mk_156, gT_mk_157, zT_mk_157, fn_Mo_share_o, hA, h2, wdF le1]
        exact e1
      · rw [fr1 137 21 (by omega), up_eq]
        show _ = nI (sum + 1) - nI 1
        rw [nI_sub (by omega), Nat.add_sub_cancel]
      · rw [q1 k (Nat.zero_le _) hk, up_np (by decide)]
        exact hr k hk
      · rw [fr1 p j (by omega)]
        by_cases e : p = 137
        · subst e
          exact up_nj (fun q => p3 ⟨rfl, q⟩)
        · exact up_np e
    · rw [if_neg c]
      have le1 : nI sum ≤ nI st.1 - nI 1 := le.mpr (by omega)
      refine ⟨f, ?_, ⟨h1, h2, h3⟩, MFr_r⟩
      simp (disch := omega) only [wbr_T, wbr_F, wgd_T, wbq, wbv, wnm, zI_mk, zL_mk, uI_mk, uL_mk, kI_mk, kL_mk, nI_add, nI_mul, nI_sub, nI_div, nI_clamp, wgB, wgP, nI_leI, nI_ltI, nI_eq, nI_eqm, nI_eqm5, wdT, wdF, wd1, wd0, li_0, li_1, li_2, li_3, li_4, li_5, li_6, li_7, li_8, li_9, li_10, li_11, li_12, li_13, li_14, li_15, li_16, li_17, li_18, li_19, li_20, li_21, li_22, li_23, li_24, li_25, li_26, li_27, li_28, li_29, li_30, li_31, li_32, li_33, li_38, li_40, li_41, li_48, li_57, li_58, li_59, li_60, li_61, li_62, li_63, li_68, li_69, li_70, li_71, li_72, li_73, li_74, li_75, li_83, li_87, li_88, li_89, li_99, li_100, li_104, li_105, li_106, li_107, li_108, li_109, li_110, li_111, li_112, li_113, li_114, li_115, li_116, li_117, li_118, li_119, li_120, li_121, li_124, li_127, li_128, li_200, li_4095, li_4096, li_9999, gT_mk_137, zT_mk_137, zR_mk_137_0, zR_mk_137_1, zR_mk_137_2, zR_mk_137_4, zR_mk_137_6, zR_mk_137_7, zR_mk_137_9, zR_mk_137_16, zR_mk_137_17, zR_mk_137_18, zR_mk_137_19, zR_mk_137_20, zR_mk_137_22, zR_mk_137_24, zR_mk_137_25, zR_mk_137_26, zR_mk_137_28, zR_mk_137_29, zR_mk_137_30, zR_mk_137_31, gT_mk_138, zT_mk_138, gT_mk_139, zT_mk_139, gT_mk_140, zT_mk_140, gT_mk_141, zT_mk_141, gT_mk_142, zT_mk_142, gT_mk_143, zT_mk_143, gT_mk_144, zT_mk_144, gT_mk_145, zT_mk_145, gT_mk_146, zT_mk_146, gT_mk_147, zT_mk_147, gT_mk_148, zT_mk_148, gT_mk_149, zT_mk_149, gT_mk_150, zT_mk_150, gT_mk_151, zT_mk_151, gT_mk_152, zT_mk_152, gT_mk_153, zT_mk_153, gT_mk_154, zT_mk_154, gT_mk_155, zT_mk_155, gT_mk_156, zT_mk_156, gT_mk_157, zT_mk_157, fn_Mo_share_o, hA, h2, wdT le1]
  | d + 1, s, u, g, sum, row, st, f, hs, hu, hg, hsum, hC, hB, hr => by
    obtain ⟨u, rfl⟩ : ∃ v, u = v + 1 := ⟨u - 1, by omega⟩
    have z6 := (Gd_all hG6).1
    have hA := hC.1
    rw [moshare_S]
    obtain ⟨f1, e1, b1, s1⟩ := m_sk57 (l := l) (R := R) (o0 := fun b0 b1 b2 b3 b4 S => fn_Mo_share u b0 b1 b2 b3 b4 S) hG6 htk (show s + 1 + d = a 68 by omega) (fun g sum row st f h1 h2 h3 h4 h5 => m_seek hG6 htk d (s + 1) u g sum row st f (by omega) (by omega) h1 h2 h3 h4 h5) hg hsum 4 0 FU f st rfl (by decide) hC hB hr
    refine ⟨f1, ?_, b1, s1⟩
    simp (disch := omega) only [wbr_T, wbr_F, wgd_T, wbq, wbv, wnm, zI_mk, zL_mk, uI_mk, uL_mk, kI_mk, kL_mk, nI_add, nI_mul, nI_sub, nI_div, nI_clamp, wgB, wgP, nI_leI, nI_ltI, nI_eq, nI_eqm, nI_eqm5, wdT, wdF, wd1, wd0, li_0, li_1, li_2, li_3, li_4, li_5, li_6, li_7, li_8, li_9, li_10, li_11, li_12, li_13, li_14, li_15, li_16, li_17, li_18, li_19, li_20, li_21, li_22, li_23, li_24, li_25, li_26, li_27, li_28, li_29, li_30, li_31, li_32, li_33, li_38, li_40, li_41, li_48, li_57, li_58, li_59, li_60, li_61, li_62, li_63, li_68, li_69, li_70, li_71, li_72, li_73, li_74, li_75, li_83, li_87, li_88, li_89, li_99, li_100, li_104, li_105, li_106, li_107, li_108, li_109, li_110, li_111, li_112, li_113, li_114, li_115, li_116, li_117, li_118, li_119, li_120, li_121, li_124, li_127, li_128, li_200, li_4095, li_4096, li_9999, gT_mk_137, zT_mk_137, zR_mk_137_0, zR_mk_137_1, zR_mk_137_2, zR_mk_137_4, zR_mk_137_6, zR_mk_137_7, zR_mk_137_9, zR_mk_137_16, zR_mk_137_17, zR_mk_137_18, zR_mk_137_19, zR_mk_137_20, zR_mk_137_22, zR_mk_137_24, zR_mk_137_25, zR_mk_137_26, zR_mk_137_28, zR_mk_137_29, zR_mk_137_30, zR_mk_137_31, gT_mk_138, zT_mk_138, gT_mk_139, zT_mk_139, gT_mk_140, zT_mk_140, gT_mk_141, zT_mk_141, gT_mk_142, zT_mk_142, gT_mk_143, zT_mk_143, gT_mk_144, zT_mk_144, gT_mk_145, zT_mk_145, gT_mk_146, zT_mk_146, gT_mk_147, zT_mk_147, gT_mk_148, zT_mk_148, gT_mk_149, zT_mk_149, gT_mk_150, zT_mk_150, gT_mk_151, zT_mk_151, gT_mk_152, zT_mk_152, gT_mk_153, zT_mk_153, gT_mk_154, zT_mk_154, gT_mk_155, zT_mk_155, gT_mk_156, zT_mk_156, gT_mk_157, zT_mk_157, fn_Mo_share_o, hA]
    exact e1
/-- what sharing and scrubbing change, of the model -/
def fm (f f' : Nat → Nat → Int32) : Prop := ∀ p j, (p = 137 → (j < 10 ∨ 15 < j) ∧ ¬ j = 21 ∧ ¬ j = 23) → ¬ p = 144 → ¬ p = 145 → ¬ p = 148 → ¬ p = 149 → ¬ p = 150 → f' p j = f p j
theorem fm_r : fm f f := fun _ _ _ _ _ _ _ _ => rfl
theorem fm_t (h : fm f f') (h2 : fm f' g) : fm f g := fun p j a b c d e i => (h2 p j a b c d e i).trans (h p j a b c d e i)
theorem fm_sc (h : sc f f') : fm f f' := fun p j a b c _ _ _ => h p j (fun q => (a q).1) b c
theorem fm_F (h : MFr s f f') : fm f f' := fun p j a _ _ b c _ => h p j (fun q => b q.1) c (fun q => (a q.1).2.1 q.2)
theorem fm_MX (h : MX T N ru D a f) (hs : fm f f') : MX T N ru D a f' := by
  obtain ⟨⟨h1, h2, h3⟩, h4, h5⟩ := h
  exact ⟨⟨h1, fun r hr => ⟨(hs _ _ (by omega) (by omega) (by omega) (by omega) (by omega) (by omega)).trans (h2 r hr).1, fun k hk => (hs _ _ (by omega) (by omega) (by omega) (by omega) (by omega) (by omega)).trans ((h2 r hr).2 k hk)⟩, fun j hj => (hs _ _ (by omega) (by omega) (by omega) (by omega) (by omega) (by omega)).trans (h3.1 j hj), fun j hj => (hs _ _ (by omega) (by omega) (by omega) (by omega) (by omega) (by omega)).trans (h3.2 j hj)⟩, fun k => (hs _ _ (by omega) (by omega) (by omega) (by omega) (by omega) (by omega)).trans (h4 k), h5⟩
theorem m_sh15 {K2 : Nat → Int32 → Int32 → zS → Option (Int32 × zS)} (hi : s < a 68) : ∀ (e n G : Nat) (f : Nat → Nat → Int32), n + e = 4 → e < G → MX T N ru D a f →
    ∃ f', lp (σ := Nat × Int32 × Int32 × Int32 × zS) (fun k s => fn_Mo_shareAll_L15 s.1 s.2.1 s.2.2.1 s.2.2.2.1 s.2.2.2.2 K2 (fun (a0 : Nat) (a1 : Int32) (a2 : Int32) (a3 : Int32) (S : zS) => k (a0, a1, a2, a3, S))) G (137, wo, nI s, nI n, mk f l R) = K2 137 wo (nI (s + 1)) (mk f' l R)
      ∧ (∀ j, n ≤ j → j < 4 → f' 150 (4 * s + j) = nI (takesN (rV T N) a s (a (60 + 2 * j)))) ∧ (∀ j, ¬ (4 * s + n ≤ j ∧ j < 4 * s + 4) → f' 150 j = f 150 j) ∧ fm f f'
  | 0, n, G, f, hn, hG, h => by
    obtain ⟨G, rfl⟩ : ∃ H, G = H + 1 := ⟨G - 1, by omega⟩
    have en : n = 4 := by omega
    subst en
    refine ⟨f, ?_, fun j h1 h2 => by omega, fun _ _ => rfl, fm_r⟩
    rw [lpS]
    show fn_Mo_shareAll_L15 137 wo (nI s) (nI 4) (mk f l R) K2 _ = _
    simp (disch := omega) only [wbr_T, wbr_F, wgd_T, wbq, wbv, wnm, zI_mk, zL_mk, uI_mk, uL_mk, kI_mk, kL_mk, nI_add, nI_mul, nI_sub, nI_div, nI_clamp, wgB, wgP, nI_leI, nI_ltI, nI_eq, nI_eqm, nI_eqm5, wdT, wdF, wd1, wd0, li_0, li_1, li_2, li_3, li_4, li_5, li_6, li_7, li_8, li_9, li_10, li_11, li_12, li_13, li_14, li_15, li_16, li_17, li_18, li_19, li_20, li_21, li_22, li_23, li_24, li_25, li_26, li_27, li_28, li_29, li_30, li_31, li_32, li_33, li_38, li_40, li_41, li_48, li_57, li_58, li_59, li_60, li_61, li_62, li_63, li_68, li_69, li_70, li_71, li_72, li_73, li_74, li_75, li_83, li_87, li_88, li_89, li_99, li_100, li_104, li_105, li_106, li_107, li_108, li_109, li_110, li_111, li_112, li_113, li_114, li_115, li_116, li_117, li_118, li_119, li_120, li_121, li_124, li_127, li_128, li_200, li_4095, li_4096, li_9999, gT_mk_137, zT_mk_137, zR_mk_137_0, zR_mk_137_1, zR_mk_137_2, zR_mk_137_4, zR_mk_137_6, zR_mk_137_7, zR_mk_137_9, zR_mk_137_16, zR_mk_137_17, zR_mk_137_18, zR_mk_137_19, zR_mk_137_20, zR_mk_137_22, zR_mk_137_24, zR_mk_137_25, zR_mk_137_26, zR_mk_137_28, zR_mk_137_29, zR_mk_137_30, zR_mk_137_31, gT_mk_138, zT_mk_138, gT_mk_139, zT_mk_139, gT_mk_140, zT_mk_140, gT_mk_141, zT_mk_141, gT_mk_142, zT_mk_142, gT_mk_143, zT_mk_143, gT_mk_144, zT_mk_144, gT_mk_145, zT_mk_145, gT_mk_146, zT_mk_146, gT_mk_147, zT_mk_147, gT_mk_148, zT_mk_148, gT_mk_149, zT_mk_149, gT_mk_150, zT_mk_150, gT_mk_151, zT_mk_151, gT_mk_152, zT_mk_152, gT_mk_153, zT_mk_153, gT_mk_154, zT_mk_154, gT_mk_155, zT_mk_155, gT_mk_156, zT_mk_156, gT_mk_157, zT_mk_157, fn_Mo_shareAll_L15]
  | e + 1, n, G, f, hn, hG, h => by
    obtain ⟨G, rfl⟩ : ∃ H, G = H + 1 := ⟨G - 1, by omega⟩
    have z6 := (Gd_all h.2.2.1).1
    have hn4 : n < 4 := by omega
    have go := ((Gd_all h.2.2.1).2.2.1 n hn4).1
    have mo := m_on (f := f) (l := l) (R := R) hn4
    rw [h.2.1] at mo
    obtain ⟨f1, e1, s1⟩ := m_comesOff (l := l) (R := R) h (show s < 6 by omega) go
    have u1 : fm f1 (up f1 150 (4 * s + n) (nI (takesN (rV T N) a s (a (60 + 2 * n))))) := fun p j _ _ _ _ _ q => up_np q
    have s01 := fm_t (fm_sc s1) u1
    obtain ⟨f2, e2, q2, fr2, s2⟩ := m_sh15 hi e (n + 1) G (up f1 150 (4 * s + n) (nI (takesN (rV T N) a s (a (60 + 2 * n))))) (by omega) (by omega) (fm_MX h s01)
    refine ⟨f2, ?_, fun j h1 h2 => ?_, fun j hj => ?_, fm_t s01 s2⟩
    · rw [lpS]
      show fn_Mo_shareAll_L15 137 wo (nI s) (nI n) (mk f l R) K2 _ = _
      simp (disch := omega) only [wbr_T, wbr_F, wgd_T, wbq, wbv, wnm, zI_mk, zL_mk, uI_mk, uL_mk, kI_mk, kL_mk, nI_add, nI_mul, nI_sub, nI_div, nI_clamp, wgB, wgP, nI_leI, nI_ltI, nI_eq, nI_eqm, nI_eqm5, wdT, wdF, wd1, wd0, li_0, li_1, li_2, li_3, li_4, li_5, li_6, li_7, li_8, li_9, li_10, li_11, li_12, li_13, li_14, li_15, li_16, li_17, li_18, li_19, li_20, li_21, li_22, li_23, li_24, li_25, li_26, li_27, li_28, li_29, li_30, li_31, li_32, li_33, li_38, li_40, li_41, li_48, li_57, li_58, li_59, li_60, li_61, li_62, li_63, li_68, li_69, li_70, li_71, li_72, li_73, li_74, li_75, li_83, li_87, li_88, li_89, li_99, li_100, li_104, li_105, li_106, li_107, li_108, li_109, li_110, li_111, li_112, li_113, li_114, li_115, li_116, li_117, li_118, li_119, li_120, li_121, li_124, li_127, li_128, li_200, li_4095, li_4096, li_9999, gT_mk_137, zT_mk_137, zR_mk_137_0, zR_mk_137_1, zR_mk_137_2, zR_mk_137_4, zR_mk_137_6, zR_mk_137_7, zR_mk_137_9, zR_mk_137_16, zR_mk_137_17, zR_mk_137_18, zR_mk_137_19, zR_mk_137_20, zR_mk_137_22, zR_mk_137_24, zR_mk_137_25, zR_mk_137_26, zR_mk_137_28, zR_mk_137_29, zR_mk_137_30, zR_mk_137_31, gT_mk_138, zT_mk_138, gT_mk_139, zT_mk_139, gT_mk_140, zT_mk_140, gT_mk_141, zT_mk_141, gT_mk_142, zT_mk_142, gT_mk_143, zT_mk_143, gT_mk_144, zT_mk_144, gT_mk_145, zT_mk_145, gT_mk_146, zT_mk_146, gT_mk_147, zT_mk_147, gT_mk_148, zT_mk_148, gT_mk_149, zT_mk_149, gT_mk_150, zT_mk_150, gT_mk_151, zT_mk_151, gT_mk_152, zT_mk_152, gT_mk_153, zT_mk_153, gT_mk_154, zT_mk_154, gT_mk_155, zT_mk_155, gT_mk_156, zT_mk_156, gT_mk_157, zT_mk_157, fn_Mo_shareAll_L15, mo, e1]
      exact e2
    · by_cases ej : j = n
      · subst ej
        rw [fr2 _ (by omega), up_eq]
      · exact q2 j (by omega) h2
    · rw [fr2 j (by omega), up_nj (by omega)]
      exact s1 150 j (by omega) (by omega) (by omega)
theorem m_sh2l : ∀ (d s G : Nat) (f : Nat → Nat → Int32), s + d = a 68 → d < G → MX T N ru D a f → (∀ i n, i < s → n < 4 → ∃ x, f 150 (4 * i + n) = nI x ∧ pc x = tkS (rV T N) a i n) →
    ∃ f', lp (σ := Nat × Int32 × Int32 × zS) (fun k s => fn_Mo_shareAll_L2 s.1 s.2.1 s.2.2.1 s.2.2.2 (fun (a0 : Nat) (a1 : Int32) (a2 : Int32) (S : zS) => k (a0, a1, a2, S))) G (137, wo, nI s, mk f l R) = some (nI (shR (rV T N) a wo).1 - nI 1, mk f' l R) ∧ fm f f' ∧ MB (a 68) f' (shR (rV T N) a wo)
  | 0, s, G, f, hs, hG, h, ht => by
    obtain ⟨G, rfl⟩ : ∃ H, G = H + 1 := ⟨G - 1, by omega⟩
    have es : s = a 68 := by omega
    subst es
    have z6 := (Gd_all h.2.2.1).1
    have hA := h.2.1
    obtain ⟨f1, e1, b1, s1⟩ := m_seek (l := l) (R := R) (wo := wo) (tk := tkS (rV T N) a) h.2.2.1 tkS_le (a 68) 0 FR 0 0 (fun _ => 0) (0, fun _ => 0) (up f 137 21 (-nI 1)) (Nat.zero_add _) (by show _ < 60; omega) (by decide) (Nat.zero_le _) ⟨fun k => (up_np (by decide)).trans (hA k), fun i n h1 h2 => by
      rw [up_np (by decide)]
      exact ht i n h1 h2⟩ ⟨Nat.zero_le _, up_eq, fun q => absurd q (by decide)⟩ (fun k hk => absurd hk (Nat.not_lt_zero _))
    have b1' : MB (a 68) f1 (shR (rV T N) a wo) := b1
    refine ⟨f1, ?_, fm_t (fun p j q _ _ _ _ _ => ?_) (fm_F s1), b1'⟩
    · rw [lpS]
      show fn_Mo_shareAll_L2 137 wo (nI (a 68)) (mk f l R) _ = _
      have m1 := b1'.2.1
      have e1' : fn_Mo_share FR 137 (nI 0) (nI 15) (nI 0) wo (mk (up f 137 21 (-nI 1)) l R) = some (mk f1 l R) := e1
      simp (disch := omega) only [wbr_T, wbr_F, wgd_T, wbq, wbv, wnm, zI_mk, zL_mk, uI_mk, uL_mk, kI_mk, kL_mk, nI_add, nI_mul, nI_sub, nI_div, nI_clamp, wgB, wgP, nI_leI, nI_ltI, nI_eq, nI_eqm, nI_eqm5, wdT, wdF, wd1, wd0, li_0, li_1, li_2, li_3, li_4, li_5, li_6, li_7, li_8, li_9, li_10, li_11, li_12, li_13, li_14, li_15, li_16, li_17, li_18, li_19, li_20, li_21, li_22, li_23, li_24, li_25, li_26, li_27, li_28, li_29, li_30, li_31, li_32, li_33, li_38, li_40, li_41, li_48, li_57, li_58, li_59, li_60, li_61, li_62, li_63, li_68, li_69, li_70, li_71, li_72, li_73, li_74, li_75, li_83, li_87, li_88, li_89, li_99, li_100, li_104, li_105, li_106, li_107, li_108, li_109, li_110, li_111, li_112, li_113, li_114, li_115, li_116, li_117, li_118, li_119, li_120, li_121, li_124, li_127, li_128, li_200, li_4095, li_4096, li_9999, gT_mk_137, zT_mk_137, zR_mk_137_0, zR_mk_137_1, zR_mk_137_2, zR_mk_137_4, zR_mk_137_6, zR_mk_137_7, zR_mk_137_9, zR_mk_137_16, zR_mk_137_17, zR_mk_137_18, zR_mk_137_19, zR_mk_137_20, zR_mk_137_22, zR_mk_137_24, zR_mk_137_25, zR_mk_137_26, zR_mk_137_28, zR_mk_137_29, zR_mk_137_30, zR_mk_137_31, gT_mk_138, zT_mk_138, gT_mk_139, zT_mk_139, gT_mk_140, zT_mk_140, gT_mk_141, zT_mk_141, gT_mk_142, zT_mk_142, gT_mk_143, zT_mk_143, gT_mk_144, zT_mk_144, gT_mk_145, zT_mk_145, gT_mk_146, zT_mk_146, gT_mk_147, zT_mk_147, gT_mk_148, zT_mk_148, gT_mk_149, zT_mk_149, gT_mk_150, zT_mk_150, gT_mk_151, zT_mk_151, gT_mk_152, zT_mk_152, gT_mk_153, zT_mk_153, gT_mk_154, zT_mk_154, gT_mk_155, zT_mk_155, gT_mk_156, zT_mk_156, gT_mk_157, zT_mk_157, fn_Mo_shareAll_L2, hA, e1', m1]
    · by_cases e : p = 137
      · subst e
        exact up_nj (q rfl).2.1
      · exact up_np e
  | d + 1, s, G, f, hs, hG, h, ht => by
    obtain ⟨G, rfl⟩ : ∃ H, G = H + 1 := ⟨G - 1, by omega⟩
    have z6 := (Gd_all h.2.2.1).1
    have hA := h.2.1
    obtain ⟨f1, e1, q1, fr1, s1⟩ := m_sh15 (l := l) (R := R) (wo := wo) (K2 := fun (a0 : Nat) (a1 : Int32) (a2 : Int32) (S : zS) => lp (σ := Nat × Int32 × Int32 × zS) (fun k s => fn_Mo_shareAll_L2 s.1 s.2.1 s.2.2.1 s.2.2.2 (fun (a0 : Nat) (a1 : Int32) (a2 : Int32) (S : zS) => k (a0, a1, a2, S))) G (a0, a1, a2, S)) (show s < a 68 by omega) 4 0 FU f rfl (by decide) h
    obtain ⟨f2, e2, s2, b2⟩ := m_sh2l d (s + 1) G f1 (by omega) (by omega) (fm_MX h s1) (fun i n h1 h2 => by
      by_cases ei : i = s
      · subst ei
        exact ⟨_, q1 n (Nat.zero_le _) h2, (tkS_in (show i < 6 by omega) h2).symm⟩
      · rw [fr1 _ (by omega)]
        exact ht i n (by omega) h2)
    refine ⟨f2, ?_, fm_t s1 s2, b2⟩
    rw [lpS]
    show fn_Mo_shareAll_L2 137 wo (nI s) (mk f l R) _ = _
    simp (disch := omega) only [wbr_T, wbr_F, wgd_T, wbq, wbv, wnm, zI_mk, zL_mk, uI_mk, uL_mk, kI_mk, kL_mk, nI_add, nI_mul, nI_sub, nI_div, nI_clamp, wgB, wgP, nI_leI, nI_ltI, nI_eq, nI_eqm, nI_eqm5, wdT, wdF, wd1, wd0, li_0, li_1, li_2, li_3, li_4, li_5, li_6, li_7, li_8, li_9, li_10, li_11, li_12, li_13, li_14, li_15, li_16, li_17, li_18, li_19, li_20, li_21, li_22, li_23, li_24, li_25, li_26, li_27, li_28, li_29, li_30, li_31, li_32, li_33, li_38, li_40, li_41, li_48, li_57, li_58, li_59, li_60, li_61, li_62, li_63, li_68, li_69, li_70, li_71, li_72, li_73, li_74, li_75, li_83, li_87, li_88, li_89, li_99, li_100, li_104, li_105, li_106, li_107, li_108, li_109, li_110, li_111, li_112, li_113, li_114, li_115, li_116, li_117, li_118, li_119, li_120, li_121, li_124, li_127, li_128, li_200, li_4095, li_4096, li_9999, gT_mk_137, zT_mk_137, zR_mk_137_0, zR_mk_137_1, zR_mk_137_2, zR_mk_137_4, zR_mk_137_6, zR_mk_137_7, zR_mk_137_9, zR_mk_137_16, zR_mk_137_17, zR_mk_137_18, zR_mk_137_19, zR_mk_137_20, zR_mk_137_22, zR_mk_137_24, zR_mk_137_25, zR_mk_137_26, zR_mk_137_28, zR_mk_137_29, zR_mk_137_30, zR_mk_137_31, gT_mk_138, zT_mk_138, gT_mk_139, zT_mk_139, gT_mk_140, zT_mk_140, gT_mk_141, zT_mk_141, gT_mk_142, zT_mk_142, gT_mk_143, zT_mk_143, gT_mk_144, zT_mk_144, gT_mk_145, zT_mk_145, gT_mk_146, zT_mk_146, gT_mk_147, zT_mk_147, gT_mk_148, zT_mk_148, gT_mk_149, zT_mk_149, gT_mk_150, zT_mk_150, gT_mk_151, zT_mk_151, gT_mk_152, zT_mk_152, gT_mk_153, zT_mk_153, gT_mk_154, zT_mk_154, gT_mk_155, zT_mk_155, gT_mk_156, zT_mk_156, gT_mk_157, zT_mk_157, fn_Mo_shareAll_L2, hA]
    exact e1.trans e2
theorem m_share (h : MX T N ru D a f) (wo : Int32) : ∃ f', fn_Mo_shareAll 137 wo (mk f l R) = some (nI (shR (rV T N) a wo).1 - nI 1, mk f' l R) ∧ fm f f' ∧ MB (a 68) f' (shR (rV T N) a wo) :=
  m_sh2l (l := l) (R := R) (wo := wo) (a 68) 0 FU f (Nat.zero_add _) (by have := (Gd_all h.2.2.1).1; show _ < 5000; omega) h (fun i n hi => absurd hi (Nat.not_lt_zero _))
end
