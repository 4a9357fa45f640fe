/-! CALLS: ACTS, the model -/
section
variable {f f' g : Nat → Nat → Int32} {l : Nat → Nat → Int64} {R R' : Nat → Nat} {a a' : Nat → Nat} {ru D i j k n w z act own nu vv q dp b : Nat} {s : trS} {x : Int32}
def TM (f : Nat → Nat → Int32) (s : trS) : Prop := f 137 27 = nI s.1 ∧ ∀ j, f 153 j = s.2 j
def aM (f f' : Nat → Nat → Int32) : Prop := ∀ p j, ¬ p = 153 → ¬ (p = 137 ∧ j = 27) → f' p j = f p j
theorem aM_t (h : aM f f') (h2 : aM f' g) : aM f g := fun p j a b => (h2 p j a b).trans (h p j a b)
def AM (own nu vv : Nat) (f : Nat → Nat → Int32) : Prop := (f 138 (10 * nu) = nI own ∧ f 138 (10 * nu + 1) = nI vv) ∧ KA (f 151) ∧ BO (f 152) ∧ own < 7 ∧ nu < 6
theorem AM_F (h : AM own nu vv f) (hs : aM f f') : AM own nu vv f' := by
  obtain ⟨⟨h1, h2⟩, h3, h4, h5⟩ := h
  exact ⟨⟨(hs _ _ (by omega) (by omega)).trans h1, (hs _ _ (by omega) (by omega)).trans h2⟩, fun j hj => (hs _ _ (by omega) (by omega)).trans (h3 j hj), fun j hj => (hs _ _ (by omega) (by omega)).trans (h4 j hj), h5⟩
theorem moall_S (u p : Nat) (b c e : Int32) (S : zS) : fn_Mo_all (u + 1) p b c e S = fn_Mo_all_o (fun b0 b1 b2 b3 S => fn_Mo_all u b0 b1 b2 b3 S) (fun b0 b1 b2 b3 b4 S => fn_Mo_from u b0 b1 b2 b3 b4 S) p b c e S := by
  unfold fn_Mo_all fn_Mo_from
  rw [lpS]
  rfl
theorem mofrom_S (u p : Nat) (b c e v : Int32) (S : zS) : fn_Mo_from (u + 1) p b c e v S = fn_Mo_from_o (fun b0 b1 b2 b3 S => fn_Mo_all u b0 b1 b2 b3 S) (fun b0 b1 b2 b3 b4 S => fn_Mo_from u b0 b1 b2 b3 b4 S) p b c e v S := by
  unfold fn_Mo_all fn_Mo_from
  rw [lpS]
  rfl
theorem m_push (hT : TM f s) (hs : s.1 < 1000) : ∃ f1, fn_Mo_body 137 (nI b) (mk f l R) = some (nI b, mk f1 l R) ∧ TM f1 (pushT s b) ∧ aM f f1 := by
  obtain ⟨t1, t2⟩ := hT
  by_cases c : s.1 < 20
  · refine ⟨up (up f 153 s.1 (nI b)) 137 27 (nI (s.1 + 1)), ?_, ⟨up_eq, fun j => ?_⟩, fun p j q1 q2 => ?_⟩
    · simp (disch := omega) only [wbr_T, wbr_F, wgd_T, wbq, wbv, wnm, zI_mk, zL_mk, uI_mk, uL_mk, kI_mk, kL_mk, nI_add, nI_mul, nI_sub, nI_div, nI_clamp, wgB, wgP, nI_leI, nI_ltI, nI_eq, nI_eqm, nI_eqm5, wdT, wdF, wd1, wd0, li_0, li_1, li_2, li_3, li_4, li_5, li_6, li_7, li_8, li_9, li_10, li_11, li_12, li_13, li_14, li_15, li_16, li_17, li_18, li_19, li_20, li_21, li_22, li_23, li_24, li_25, li_26, li_27, li_28, li_29, li_30, li_31, li_32, li_33, li_38, li_40, li_41, li_48, li_57, li_58, li_59, li_60, li_61, li_62, li_63, li_68, li_69, li_70, li_71, li_72, li_73, li_74, li_75, li_83, li_87, li_88, li_89, li_99, li_100, li_104, li_105, li_106, li_107, li_108, li_109, li_110, li_111, li_112, li_113, li_114, li_115, li_116, li_117, li_118, li_119, li_120, li_121, li_124, li_127, li_128, li_200, li_4095, li_4096, li_9999, gT_mk_137, zT_mk_137, zR_mk_137_0, zR_mk_137_1, zR_mk_137_2, zR_mk_137_4, zR_mk_137_6, zR_mk_137_7, zR_mk_137_9, zR_mk_137_16, zR_mk_137_17, zR_mk_137_18, zR_mk_137_19, zR_mk_137_20, zR_mk_137_22, zR_mk_137_24, zR_mk_137_25, zR_mk_137_26, zR_mk_137_28, zR_mk_137_29, zR_mk_137_30, zR_mk_137_31, gT_mk_138, zT_mk_138, gT_mk_139, zT_mk_139, gT_mk_140, zT_mk_140, gT_mk_141, zT_mk_141, gT_mk_142, zT_mk_142, gT_mk_143, zT_mk_143, gT_mk_144, zT_mk_144, gT_mk_145, zT_mk_145, gT_mk_146, zT_mk_146, gT_mk_147, zT_mk_147, gT_mk_148, zT_mk_148, gT_mk_149, zT_mk_149, gT_mk_150, zT_mk_150, gT_mk_151, zT_mk_151, gT_mk_152, zT_mk_152, gT_mk_153, zT_mk_153, gT_mk_154, zT_mk_154, gT_mk_155, zT_mk_155, gT_mk_156, zT_mk_156, gT_mk_157, zT_mk_157, fn_Mo_body, t1, up_np]
    · rw [up_np (by decide)]
      show _ = (if s.1 < 20 then fun j => if j = s.1 then nI b else s.2 j else s.2) j
      rw [if_pos c]
      show _ = if j = s.1 then nI b else s.2 j
      by_cases ej : j = s.1
      · rw [if_pos ej, ej, up_eq]
      · rw [if_neg ej, up_nj ej]
        exact t2 j
    · by_cases e1 : p = 137
      · subst e1
        rw [up_nj (by omega), up_np (by decide)]
      · rw [up_np e1, up_np q1]
  · refine ⟨up f 137 27 (nI (s.1 + 1)), ?_, ⟨up_eq, fun j => ?_⟩, fun p j q1 q2 => ?_⟩
    · simp (disch := omega) only [wbr_T, wbr_F, wgd_T, wbq, wbv, wnm, zI_mk, zL_mk, uI_mk, uL_mk, kI_mk, kL_mk, nI_add, nI_mul, nI_sub, nI_div, nI_clamp, wgB, wgP, nI_leI, nI_ltI, nI_eq, nI_eqm, nI_eqm5, wdT, wdF, wd1, wd0, li_0, li_1, li_2, li_3, li_4, li_5, li_6, li_7, li_8, li_9, li_10, li_11, li_12, li_13, li_14, li_15, li_16, li_17, li_18, li_19, li_20, li_21, li_22, li_23, li_24, li_25, li_26, li_27, li_28, li_29, li_30, li_31, li_32, li_33, li_38, li_40, li_41, li_48, li_57, li_58, li_59, li_60, li_61, li_62, li_63, li_68, li_69, li_70, li_71, li_72, li_73, li_74, li_75, li_83, li_87, li_88, li_89, li_99, li_100, li_104, li_105, li_106, li_107, li_108, li_109, li_110, li_111, li_112, li_113, li_114, li_115, li_116, li_117, li_118, li_119, li_120, li_121, li_124, li_127, li_128, li_200, li_4095, li_4096, li_9999, gT_mk_137, zT_mk_137, zR_mk_137_0, zR_mk_137_1, zR_mk_137_2, zR_mk_137_4, zR_mk_137_6, zR_mk_137_7, zR_mk_137_9, zR_mk_137_16, zR_mk_137_17, zR_mk_137_18, zR_mk_137_19, zR_mk_137_20, zR_mk_137_22, zR_mk_137_24, zR_mk_137_25, zR_mk_137_26, zR_mk_137_28, zR_mk_137_29, zR_mk_137_30, zR_mk_137_31, gT_mk_138, zT_mk_138, gT_mk_139, zT_mk_139, gT_mk_140, zT_mk_140, gT_mk_141, zT_mk_141, gT_mk_142, zT_mk_142, gT_mk_143, zT_mk_143, gT_mk_144, zT_mk_144, gT_mk_145, zT_mk_145, gT_mk_146, zT_mk_146, gT_mk_147, zT_mk_147, gT_mk_148, zT_mk_148, gT_mk_149, zT_mk_149, gT_mk_150, zT_mk_150, gT_mk_151, zT_mk_151, gT_mk_152, zT_mk_152, gT_mk_153, zT_mk_153, gT_mk_154, zT_mk_154, gT_mk_155, zT_mk_155, gT_mk_156, zT_mk_156, gT_mk_157, zT_mk_157, fn_Mo_body, t1]
    · rw [up_np (by decide)]
      show _ = (if s.1 < 20 then fun j => if j = s.1 then nI b else s.2 j else s.2) j
      rw [if_neg c]
      exact t2 j
    · by_cases e1 : p = 137
      · subst e1
        exact up_nj (by omega)
      · exact up_np e1
theorem m_bd (h : BO (f 152)) (ha : act < 3) (hk : k < 7) : f 152 (3 * k + act) = nI (bdN act k) := by
  rw [Nat.mul_comm 3 k]
  exact (h _ (by omega)).trans (bd_f act ha k hk).1
theorem m_ab (h : KA (f 151)) (hk : k < 7) (h1 : 1 ≤ k) : f 151 k = nI (abN k) := (h _ hk).trans ((ab_f k hk).2 h1)
theorem m_rs {o0 : Nat → Int32 → Int32 → Int32 → zS → Option (Int32 × zS)} {o1 : Nat → Int32 → Int32 → Int32 → Int32 → zS → Option (Int32 × zS)} (h1 : KA (f 151)) (h2 : BO (f 152)) (ha : act < 3) : ∀ (d k F : Nat), k < 7 → ¬ bdN act (rsN act d k) = 0 → d < F →
    ∃ K, lp (σ := Nat × Int32 × Int32 × Int32 × Int32 × zS) (fun k s => fn_Mo_from_L3 o0 o1 s.1 s.2.1 s.2.2.1 s.2.2.2.1 s.2.2.2.2.1 s.2.2.2.2.2 (fun (a0 : Nat) (a2 : Int32) (a3 : Int32) (a4 : Int32) (a5 : Int32) (S : zS) => k (a0, a2, a3, a4, a5, S))) F (137, nI nu, nI act, x, nI k, mk f l R) = fn_Mo_from_L3 o0 o1 137 (nI nu) (nI act) x (nI (rsN act d k)) (mk f l R) K
  | 0, k, F, hk, hb, hF => by
    obtain ⟨F, rfl⟩ : ∃ G, F = G + 1 := ⟨F - 1, by omega⟩
    exact ⟨fun (a0 : Nat) (a2 : Int32) (a3 : Int32) (a4 : Int32) (a5 : Int32) (S : zS) => lp (σ := Nat × Int32 × Int32 × Int32 × Int32 × zS) (fun k s => fn_Mo_from_L3 o0 o1 s.1 s.2.1 s.2.2.1 s.2.2.2.1 s.2.2.2.2.1 s.2.2.2.2.2 (fun (a0 : Nat) (a2 : Int32) (a3 : Int32) (a4 : Int32) (a5 : Int32) (S : zS) => k (a0, a2, a3, a4, a5, S))) F (a0, a2, a3, a4, a5, S), rfl⟩
  | d + 1, k, F, hk, hb, hF => by
    obtain ⟨F, rfl⟩ : ∃ G, F = G + 1 := ⟨F - 1, by omega⟩
    have eb := m_bd h2 ha hk
    by_cases c : bdN act k = 0
    · have hr : rsN act (d + 1) k = rsN act d (abN k) := if_pos c
      rw [hr] at hb ⊢
      have k1 := (bd_f act ha k hk).2.1 c
      have ea := m_ab h1 hk k1
      obtain ⟨K, ih⟩ := m_rs (o0 := o0) (o1 := o1) h1 h2 ha d (abN k) F (ab_f k hk).1 hb (by omega)
      rw [c] at eb
      have step : ∀ K : Nat → Int32 → Int32 → Int32 → Int32 → zS → Option (Int32 × zS), fn_Mo_from_L3 o0 o1 137 (nI nu) (nI act) x (nI k) (mk f l R) K = K 137 (nI nu) (nI act) x (nI (abN k)) (mk f l R) := fun K => by
        simp (disch := omega) only [wbr_T, wbr_F, wgd_T, wbq, wbv, wnm, zI_mk, zL_mk, uI_mk, uL_mk, kI_mk, kL_mk, nI_add, nI_mul, nI_sub, nI_div, nI_clamp, wgB, wgP, nI_leI, nI_ltI, nI_eq, nI_eqm, nI_eqm5, wdT, wdF, wd1, wd0, li_0, li_1, li_2, li_3, li_4, li_5, li_6, li_7, li_8, li_9, li_10, li_11, li_12, li_13, li_14, li_15, li_16, li_17, li_18, li_19, li_20, li_21, li_22, li_23, li_24, li_25, li_26, li_27, li_28, li_29, li_30, li_31, li_32, li_33, li_38, li_40, li_41, li_48, li_57, li_58, li_59, li_60, li_61, li_62, li_63, li_68, li_69, li_70, li_71, li_72, li_73, li_74, li_75, li_83, li_87, li_88, li_89, li_99, li_100, li_104, li_105, li_106, li_107, li_108, li_109, li_110, li_111, li_112, li_113, li_114, li_115, li_116, li_117, li_118, li_119, li_120, li_121, li_124, li_127, li_128, li_200, li_4095, li_4096, li_9999, gT_mk_137, zT_mk_137, zR_mk_137_0, zR_mk_137_1, zR_mk_137_2, zR_mk_137_4, zR_mk_137_6, zR_mk_137_7, zR_mk_137_9, zR_mk_137_16, zR_mk_137_17, zR_mk_137_18, zR_mk_137_19, zR_mk_137_20, zR_mk_137_22, zR_mk_137_24, zR_mk_137_25, zR_mk_137_26, zR_mk_137_28, zR_mk_137_29, zR_mk_137_30, zR_mk_137_31, gT_mk_138, zT_mk_138, gT_mk_139, zT_mk_139, gT_mk_140, zT_mk_140, gT_mk_141, zT_mk_141, gT_mk_142, zT_mk_142, gT_mk_143, zT_mk_143, gT_mk_144, zT_mk_144, gT_mk_145, zT_mk_145, gT_mk_146, zT_mk_146, gT_mk_147, zT_mk_147, gT_mk_148, zT_mk_148, gT_mk_149, zT_mk_149, gT_mk_150, zT_mk_150, gT_mk_151, zT_mk_151, gT_mk_152, zT_mk_152, gT_mk_153, zT_mk_153, gT_mk_154, zT_mk_154, gT_mk_155, zT_mk_155, gT_mk_156, zT_mk_156, gT_mk_157, zT_mk_157, fn_Mo_from_L3, eb, ea]
      refine ⟨K, ?_⟩
      rw [lpS]
      exact (step _).trans ih
    · have hr : rsN act (d + 1) k = k := if_neg c
      rw [hr]
      exact ⟨fun (a0 : Nat) (a2 : Int32) (a3 : Int32) (a4 : Int32) (a5 : Int32) (S : zS) => lp (σ := Nat × Int32 × Int32 × Int32 × Int32 × zS) (fun k s => fn_Mo_from_L3 o0 o1 s.1 s.2.1 s.2.2.1 s.2.2.2.1 s.2.2.2.2.1 s.2.2.2.2.2 (fun (a0 : Nat) (a2 : Int32) (a3 : Int32) (a4 : Int32) (a5 : Int32) (S : zS) => k (a0, a2, a3, a4, a5, S))) F (a0, a2, a3, a4, a5, S), rfl⟩
theorem m_own {u : Nat} {y r : Int32} (hA : AM own nu vv f) (h : fn_Mo_from u 137 (nI own) (nI nu) (nI act) y (mk f l R) = some (r, mk f' l R)) : fn_Mo_all (u + 1) 137 (nI nu) (nI act) y (mk f l R) = some (r, mk f' l R) := by
  obtain ⟨⟨h1, h2⟩, h3, h4, h5, h6⟩ := hA
  have ek := m_kind (f := f) (l := l) (R := R) h6
  rw [h1] at ek
  rw [moall_S]
  simp (disch := omega) only [wbr_T, wbr_F, wgd_T, wbq, wbv, wnm, zI_mk, zL_mk, uI_mk, uL_mk, kI_mk, kL_mk, nI_add, nI_mul, nI_sub, nI_div, nI_clamp, wgB, wgP, nI_leI, nI_ltI, nI_eq, nI_eqm, nI_eqm5, wdT, wdF, wd1, wd0, li_0, li_1, li_2, li_3, li_4, li_5, li_6, li_7, li_8, li_9, li_10, li_11, li_12, li_13, li_14, li_15, li_16, li_17, li_18, li_19, li_20, li_21, li_22, li_23, li_24, li_25, li_26, li_27, li_28, li_29, li_30, li_31, li_32, li_33, li_38, li_40, li_41, li_48, li_57, li_58, li_59, li_60, li_61, li_62, li_63, li_68, li_69, li_70, li_71, li_72, li_73, li_74, li_75, li_83, li_87, li_88, li_89, li_99, li_100, li_104, li_105, li_106, li_107, li_108, li_109, li_110, li_111, li_112, li_113, li_114, li_115, li_116, li_117, li_118, li_119, li_120, li_121, li_124, li_127, li_128, li_200, li_4095, li_4096, li_9999, gT_mk_137, zT_mk_137, zR_mk_137_0, zR_mk_137_1, zR_mk_137_2, zR_mk_137_4, zR_mk_137_6, zR_mk_137_7, zR_mk_137_9, zR_mk_137_16, zR_mk_137_17, zR_mk_137_18, zR_mk_137_19, zR_mk_137_20, zR_mk_137_22, zR_mk_137_24, zR_mk_137_25, zR_mk_137_26, zR_mk_137_28, zR_mk_137_29, zR_mk_137_30, zR_mk_137_31, gT_mk_138, zT_mk_138, gT_mk_139, zT_mk_139, gT_mk_140, zT_mk_140, gT_mk_141, zT_mk_141, gT_mk_142, zT_mk_142, gT_mk_143, zT_mk_143, gT_mk_144, zT_mk_144, gT_mk_145, zT_mk_145, gT_mk_146, zT_mk_146, gT_mk_147, zT_mk_147, gT_mk_148, zT_mk_148, gT_mk_149, zT_mk_149, gT_mk_150, zT_mk_150, gT_mk_151, zT_mk_151, gT_mk_152, zT_mk_152, gT_mk_153, zT_mk_153, gT_mk_154, zT_mk_154, gT_mk_155, zT_mk_155, gT_mk_156, zT_mk_156, gT_mk_157, zT_mk_157, fn_Mo_all_o, ek, h]
theorem m_call : ∀ (d act k u : Nat) (x r : Int32) (tr : List Nat) (f : Nat → Nat → Int32) (s : trS), acV own nu vv d act k x = some (r, tr) → act < 3 → k < 7 → 2 * d < u → s.1 + tr.length < 1000 → AM own nu vv f → TM f s →
    ∃ f', fn_Mo_from u 137 (nI k) (nI nu) (nI act) x (mk f l R) = some (r, mk f' l R) ∧ TM f' (tr.foldl pushT s) ∧ aM f f'
  | 0, act, k, u, x, r, tr, f, s, h, _, _, _, _, _, _ => by cases h
  | d + 1, act, k, u, x, r, tr, f, s, h, ha, hk, hu, hl, hA, hT => by
    obtain ⟨u, rfl⟩ : ∃ v, u = v + 2 := ⟨u - 2, by omega⟩
    obtain ⟨r1, r2, r3, r4⟩ := rs_f act ha k hk
    have h' : acS (fun act k x => acV own nu vv d act k x) own nu vv (bdN act (rsN act 7 k)) (abN (rsN act 7 k)) x = some (r, tr) := h
    obtain ⟨K, e0⟩ := m_rs (l := l) (R := R) (x := x) (nu := nu) (o0 := fun b0 b1 b2 b3 S => fn_Mo_all (u + 1) b0 b1 b2 b3 S) (o1 := fun b0 b1 b2 b3 b4 S => fn_Mo_from (u + 1) b0 b1 b2 b3 b4 S) hA.2.1 hA.2.2.1 ha 7 k FU hk r2 (by decide)
    have st : fn_Mo_from (u + 1 + 1) 137 (nI k) (nI nu) (nI act) x (mk f l R) = fn_Mo_from_L3 (fun b0 b1 b2 b3 S => fn_Mo_all (u + 1) b0 b1 b2 b3 S) (fun b0 b1 b2 b3 b4 S => fn_Mo_from (u + 1) b0 b1 b2 b3 b4 S) 137 (nI nu) (nI act) x (nI (rsN act 7 k)) (mk f l R) K := by
      rw [mofrom_S]
      exact e0
    rw [show u + 2 = u + 1 + 1 from rfl, st]
    have eb := m_bd (f := f) hA.2.2.1 ha r1
    have eab : 1 ≤ rsN act 7 k → f 151 (rsN act 7 k) = nI (abN (rsN act 7 k)) := fun q => m_ab hA.2.1 r1 q
    have hab := (ab_f _ r1).1
    have b72 := (bd_f act ha _ r1).2.2
    obtain ⟨f1, e1, hT1, s1⟩ := m_push (l := l) (R := R) (b := bdN act (rsN act 7 k)) hT (by omega)
    have hA1 := AM_F hA s1
    have ho := hA.2.2.2.1
    have hn := hA.2.2.2.2
    have ih := fun (v : Nat) (hv : 2 * d < v) (f : Nat → Nat → Int32) (s : trS) (act k : Nat) (x r : Int32) (tr : List Nat) (h : acV own nu vv d act k x = some (r, tr)) (ha : act < 3) (hk : k < 7) (hl : s.1 + tr.length < 1000) (hA : AM own nu vv f) (hT : TM f s) => m_call d act k v x r tr f s h ha hk hv hl hA hT
    clear e0 st h
    generalize bdN act (rsN act 7 k) = b at *
    generalize rsN act 7 k = m at *
    generalize abN m = ab at *
    have one : ∀ (v : Nat), 2 * d < v → ∀ (act k : Nat) (x r1 : Int32) (t1 : List Nat), acV own nu vv d act k x = some (r1, t1) → tr = b :: t1 → act < 3 → k < 7 → ∃ f2, fn_Mo_from v 137 (nI k) (nI nu) (nI act) x (mk f1 l R) = some (r1, mk f2 l R) ∧ TM f2 (tr.foldl pushT s) ∧ aM f f2 ∧ fn_Mo_v 137 (nI nu) (mk f2 l R) = some (nI vv, mk f2 l R) := by
      intro v hv act k x r1 t1 q1 q2 q3 q4
      subst q2
      have ll : (b :: t1).length = t1.length + 1 := rfl
      obtain ⟨f2, e2, hT2, s2⟩ := ih v hv f1 (pushT s b) act k x r1 t1 q1 q3 q4 (by show s.1 + 1 + t1.length < 1000; omega) hA1 hT1
      obtain ⟨⟨b4, b5⟩, -⟩ := AM_F hA1 s2
      have mv := m_v (f := f2) (l := l) (R := R) hn
      rw [b5] at mv
      exact ⟨f2, e2, hT2, aM_t s1 s2, mv⟩
    have two : ∀ (v v2 : Nat), 2 * d < v → 2 * d < v2 → ∀ (act k act2 k2 : Nat) (x x2 r1 r2 : Int32) (t1 t2 : List Nat), acV own nu vv d act k x = some (r1, t1) → acV own nu vv d act2 k2 x2 = some (r2, t2) → tr = b :: (t1 ++ t2) → act < 3 → k < 7 → act2 < 3 → k2 < 7 → ∃ f2 f3, fn_Mo_from v 137 (nI k) (nI nu) (nI act) x (mk f1 l R) = some (r1, mk f2 l R) ∧ fn_Mo_from v2 137 (nI k2) (nI nu) (nI act2) x2 (mk f2 l R) = some (r2, mk f3 l R) ∧ TM f3 (tr.foldl pushT s) ∧ aM f f3 ∧ AM own nu vv f2 := by
      intro v v2 hv hv2 act k act2 k2 x x2 r1 r2 t1 t2 p1 p2 q2 q3 q4 q5 q6
      subst q2
      have ll : (b :: (t1 ++ t2)).length = t1.length + t2.length + 1 := by rw [List.length_cons, List.length_append]
      obtain ⟨f2, e2, hT2, s2⟩ := ih v hv f1 (pushT s b) act k x r1 t1 p1 q3 q4 (by show s.1 + 1 + t1.length < 1000; omega) hA1 hT1
      have f1l := fold_1 t1 (pushT s b)
      obtain ⟨f3, e3, hT3, s3⟩ := ih v2 hv2 f2 (t1.foldl pushT (pushT s b)) act2 k2 x2 r2 t2 p2 q5 q6 (by rw [f1l]; show s.1 + 1 + t1.length + t2.length < 1000; omega) (AM_F hA1 s2) hT2
      rw [← List.foldl_append] at hT3
      exact ⟨f2, f3, e2, e3, hT3, aM_t s1 (aM_t s2 s3), AM_F hA1 s2⟩
    rcases r4 with rfl | rfl | rfl | rfl | rfl | rfl | rfl | rfl | rfl | rfl | rfl
    · have hh : some (x + nI nu, [10]) = some (r, tr) := h'
      have e2 := Option.some.inj hh
      have er : x + nI nu = r := congrArg (fun p : Int32 × List Nat => p.1) e2
      have et : [10] = tr := congrArg (fun p : Int32 × List Nat => p.2) e2
      rw [← er, ← et]
      refine ⟨f1, ?_, hT1, s1⟩
      simp (disch := omega) only [wbr_T, wbr_F, wgd_T, wbq, wbv, wnm, zI_mk, zL_mk, uI_mk, uL_mk, kI_mk, kL_mk, nI_add, nI_mul, nI_sub, nI_div, nI_clamp, wgB, wgP, nI_leI, nI_ltI, nI_eq, nI_eqm, nI_eqm5, wdT, wdF, wd1, wd0, li_0, li_1, li_2, li_3, li_4, li_5, li_6, li_7, li_8, li_9, li_10, li_11, li_12, li_13, li_14, li_15, li_16, li_17, li_18, li_19, li_20, li_21, li_22, li_23, li_24, li_25, li_26, li_27, li_28, li_29, li_30, li_31, li_32, li_33, li_38, li_40, li_41, li_48, li_57, li_58, li_59, li_60, li_61, li_62, li_63, li_68, li_69, li_70, li_71, li_72, li_73, li_74, li_75, li_83, li_87, li_88, li_89, li_99, li_100, li_104, li_105, li_106, li_107, li_108, li_109, li_110, li_111, li_112, li_113, li_114, li_115, li_116, li_117, li_118, li_119, li_120, li_121, li_124, li_127, li_128, li_200, li_4095, li_4096, li_9999, gT_mk_137, zT_mk_137, zR_mk_137_0, zR_mk_137_1, zR_mk_137_2, zR_mk_137_4, zR_mk_137_6, zR_mk_137_7, zR_mk_137_9, zR_mk_137_16, zR_mk_137_17, zR_mk_137_18, zR_mk_137_19, zR_mk_137_20, zR_mk_137_22, zR_mk_137_24, zR_mk_137_25, zR_mk_137_26, zR_mk_137_28, zR_mk_137_29, zR_mk_137_30, zR_mk_137_31, gT_mk_138, zT_mk_138, gT_mk_139, zT_mk_139, gT_mk_140, zT_mk_140, gT_mk_141, zT_mk_141, gT_mk_142, zT_mk_142, gT_mk_143, zT_mk_143, gT_mk_144, zT_mk_144, gT_mk_145, zT_mk_145, gT_mk_146, zT_mk_146, gT_mk_147, zT_mk_147, gT_mk_148, zT_mk_148, gT_mk_149, zT_mk_149, gT_mk_150, zT_mk_150, gT_mk_151, zT_mk_151, gT_mk_152, zT_mk_152, gT_mk_153, zT_mk_153, gT_mk_154, zT_mk_154, gT_mk_155, zT_mk_155, gT_mk_156, zT_mk_156, gT_mk_157, zT_mk_157, fn_Mo_from_L3, li_50, li_51, eb, e1]
    · have hh : ac1 (acV own nu vv d 0 own x) 11 (fun r => r - nI vv) = some (r, tr) := h'
      obtain ⟨p1, t1, p2, er, et⟩ := ac1_s hh
      obtain ⟨f2, e2, hT2, s2, mv⟩ := one u (by omega) 0 own x p1 t1 p2 et (by decide) ho
      have e3 := m_own hA1 e2
      refine ⟨f2, ?_, hT2, s2⟩
      simp (disch := omega) only [wbr_T, wbr_F, wgd_T, wbq, wbv, wnm, zI_mk, zL_mk, uI_mk, uL_mk, kI_mk, kL_mk, nI_add, nI_mul, nI_sub, nI_div, nI_clamp, wgB, wgP, nI_leI, nI_ltI, nI_eq, nI_eqm, nI_eqm5, wdT, wdF, wd1, wd0, li_0, li_1, li_2, li_3, li_4, li_5, li_6, li_7, li_8, li_9, li_10, li_11, li_12, li_13, li_14, li_15, li_16, li_17, li_18, li_19, li_20, li_21, li_22, li_23, li_24, li_25, li_26, li_27, li_28, li_29, li_30, li_31, li_32, li_33, li_38, li_40, li_41, li_48, li_57, li_58, li_59, li_60, li_61, li_62, li_63, li_68, li_69, li_70, li_71, li_72, li_73, li_74, li_75, li_83, li_87, li_88, li_89, li_99, li_100, li_104, li_105, li_106, li_107, li_108, li_109, li_110, li_111, li_112, li_113, li_114, li_115, li_116, li_117, li_118, li_119, li_120, li_121, li_124, li_127, li_128, li_200, li_4095, li_4096, li_9999, gT_mk_137, zT_mk_137, zR_mk_137_0, zR_mk_137_1, zR_mk_137_2, zR_mk_137_4, zR_mk_137_6, zR_mk_137_7, zR_mk_137_9, zR_mk_137_16, zR_mk_137_17, zR_mk_137_18, zR_mk_137_19, zR_mk_137_20, zR_mk_137_22, zR_mk_137_24, zR_mk_137_25, zR_mk_137_26, zR_mk_137_28, zR_mk_137_29, zR_mk_137_30, zR_mk_137_31, gT_mk_138, zT_mk_138, gT_mk_139, zT_mk_139, gT_mk_140, zT_mk_140, gT_mk_141, zT_mk_141, gT_mk_142, zT_mk_142, gT_mk_143, zT_mk_143, gT_mk_144, zT_mk_144, gT_mk_145, zT_mk_145, gT_mk_146, zT_mk_146, gT_mk_147, zT_mk_147, gT_mk_148, zT_mk_148, gT_mk_149, zT_mk_149, gT_mk_150, zT_mk_150, gT_mk_151, zT_mk_151, gT_mk_152, zT_mk_152, gT_mk_153, zT_mk_153, gT_mk_154, zT_mk_154, gT_mk_155, zT_mk_155, gT_mk_156, zT_mk_156, gT_mk_157, zT_mk_157, fn_Mo_from_L3, li_50, li_51, eb, e1, e3, mv, er]
    · have hh : ac1 (acV own nu vv d 1 own x) 12 (fun r => r * nI 2) = some (r, tr) := h'
      obtain ⟨p1, t1, p2, er, et⟩ := ac1_s hh
      obtain ⟨f2, e2, hT2, s2, mv⟩ := one u (by omega) 1 own x p1 t1 p2 et (by decide) ho
      have e3 := m_own hA1 e2
      refine ⟨f2, ?_, hT2, s2⟩
      simp (disch := omega) only [wbr_T, wbr_F, wgd_T, wbq, wbv, wnm, zI_mk, zL_mk, uI_mk, uL_mk, kI_mk, kL_mk, nI_add, nI_mul, nI_sub, nI_div, nI_clamp, wgB, wgP, nI_leI, nI_ltI, nI_eq, nI_eqm, nI_eqm5, wdT, wdF, wd1, wd0, li_0, li_1, li_2, li_3, li_4, li_5, li_6, li_7, li_8, li_9, li_10, li_11, li_12, li_13, li_14, li_15, li_16, li_17, li_18, li_19, li_20, li_21, li_22, li_23, li_24, li_25, li_26, li_27, li_28, li_29, li_30, li_31, li_32, li_33, li_38, li_40, li_41, li_48, li_57, li_58, li_59, li_60, li_61, li_62, li_63, li_68, li_69, li_70, li_71, li_72, li_73, li_74, li_75, li_83, li_87, li_88, li_89, li_99, li_100, li_104, li_105, li_106, li_107, li_108, li_109, li_110, li_111, li_112, li_113, li_114, li_115, li_116, li_117, li_118, li_119, li_120, li_121, li_124, li_127, li_128, li_200, li_4095, li_4096, li_9999, gT_mk_137, zT_mk_137, zR_mk_137_0, zR_mk_137_1, zR_mk_137_2, zR_mk_137_4, zR_mk_137_6, zR_mk_137_7, zR_mk_137_9, zR_mk_137_16, zR_mk_137_17, zR_mk_137_18, zR_mk_137_19, zR_mk_137_20, zR_mk_137_22, zR_mk_137_24, zR_mk_137_25, zR_mk_137_26, zR_mk_137_28, zR_mk_137_29, zR_mk_137_30, zR_mk_137_31, gT_mk_138, zT_mk_138, gT_mk_139, zT_mk_139, gT_mk_140, zT_mk_140, gT_mk_141, zT_mk_141, gT_mk_142, zT_mk_142, gT_mk_143, zT_mk_143, gT_mk_144, zT_mk_144, gT_mk_145, zT_mk_145, gT_mk_146, zT_mk_146, gT_mk_147, zT_mk_147, gT_mk_148, zT_mk_148, gT_mk_149, zT_mk_149, gT_mk_150, zT_mk_150, gT_mk_151, zT_mk_151, gT_mk_152, zT_mk_152, gT_mk_153, zT_mk_153, gT_mk_154, zT_mk_154, gT_mk_155, zT_mk_155, gT_mk_156, zT_mk_156, gT_mk_157, zT_mk_157, fn_Mo_from_L3, li_50, li_51, eb, e1, e3, er]
    · have hh : ac1 (acV own nu vv d 1 ab x) 20 (fun r => r ^^^ nI 6) = some (r, tr) := h'
      obtain ⟨p1, t1, p2, er, et⟩ := ac1_s hh
      obtain ⟨f2, e2, hT2, s2, mv⟩ := one (u + 1) (by omega) 1 ab x p1 t1 p2 et (by decide) hab
      have ea := eab (by omega)
      refine ⟨f2, ?_, hT2, s2⟩
      simp (disch := omega) only [wbr_T, wbr_F, wgd_T, wbq, wbv, wnm, zI_mk, zL_mk, uI_mk, uL_mk, kI_mk, kL_mk, nI_add, nI_mul, nI_sub, nI_div, nI_clamp, wgB, wgP, nI_leI, nI_ltI, nI_eq, nI_eqm, nI_eqm5, wdT, wdF, wd1, wd0, li_0, li_1, li_2, li_3, li_4, li_5, li_6, li_7, li_8, li_9, li_10, li_11, li_12, li_13, li_14, li_15, li_16, li_17, li_18, li_19, li_20, li_21, li_22, li_23, li_24, li_25, li_26, li_27, li_28, li_29, li_30, li_31, li_32, li_33, li_38, li_40, li_41, li_48, li_57, li_58, li_59, li_60, li_61, li_62, li_63, li_68, li_69, li_70, li_71, li_72, li_73, li_74, li_75, li_83, li_87, li_88, li_89, li_99, li_100, li_104, li_105, li_106, li_107, li_108, li_109, li_110, li_111, li_112, li_113, li_114, li_115, li_116, li_117, li_118, li_119, li_120, li_121, li_124, li_127, li_128, li_200, li_4095, li_4096, li_9999, gT_mk_137, zT_mk_137, zR_mk_137_0, zR_mk_137_1, zR_mk_137_2, zR_mk_137_4, zR_mk_137_6, zR_mk_137_7, zR_mk_137_9, zR_mk_137_16, zR_mk_137_17, zR_mk_137_18, zR_mk_137_19, zR_mk_137_20, zR_mk_137_22, zR_mk_137_24, zR_mk_137_25, zR_mk_137_26, zR_mk_137_28, zR_mk_137_29, zR_mk_137_30, zR_mk_137_31, gT_mk_138, zT_mk_138, gT_mk_139, zT_mk_139, gT_mk_140, zT_mk_140, gT_mk_141, zT_mk_141, gT_mk_142, zT_mk_142, gT_mk_143, zT_mk_143, gT_mk_144, zT_mk_144, gT_mk_145, zT_mk_145, gT_mk_146, zT_mk_146, gT_mk_147, zT_mk_147, gT_mk_148, zT_mk_148, gT_mk_149, zT_mk_149, gT_mk_150, zT_mk_150, gT_mk_151, zT_mk_151, gT_mk_152, zT_mk_152, gT_mk_153, zT_mk_153, gT_mk_154, zT_mk_154, gT_mk_155, zT_mk_155, gT_mk_156, zT_mk_156, gT_mk_157, zT_mk_157, fn_Mo_from_L3, li_50, li_51, eb, ea, e1, e2, er]
    · have hh : ac1 (acV own nu vv d 0 ab (x * nI 3)) 30 (fun r => r) = some (r, tr) := h'
      obtain ⟨p1, t1, p2, er, et⟩ := ac1_s hh
      obtain ⟨f2, e2, hT2, s2, mv⟩ := one (u + 1) (by omega) 0 ab (x * nI 3) p1 t1 p2 et (by decide) hab
      have ea := eab (by omega)
      refine ⟨f2, ?_, hT2, s2⟩
      simp (disch := omega) only [wbr_T, wbr_F, wgd_T, wbq, wbv, wnm, zI_mk, zL_mk, uI_mk, uL_mk, kI_mk, kL_mk, nI_add, nI_mul, nI_sub, nI_div, nI_clamp, wgB, wgP, nI_leI, nI_ltI, nI_eq, nI_eqm, nI_eqm5, wdT, wdF, wd1, wd0, li_0, li_1, li_2, li_3, li_4, li_5, li_6, li_7, li_8, li_9, li_10, li_11, li_12, li_13, li_14, li_15, li_16, li_17, li_18, li_19, li_20, li_21, li_22, li_23, li_24, li_25, li_26, li_27, li_28, li_29, li_30, li_31, li_32, li_33, li_38, li_40, li_41, li_48, li_57, li_58, li_59, li_60, li_61, li_62, li_63, li_68, li_69, li_70, li_71, li_72, li_73, li_74, li_75, li_83, li_87, li_88, li_89, li_99, li_100, li_104, li_105, li_106, li_107, li_108, li_109, li_110, li_111, li_112, li_113, li_114, li_115, li_116, li_117, li_118, li_119, li_120, li_121, li_124, li_127, li_128, li_200, li_4095, li_4096, li_9999, gT_mk_137, zT_mk_137, zR_mk_137_0, zR_mk_137_1, zR_mk_137_2, zR_mk_137_4, zR_mk_137_6, zR_mk_137_7, zR_mk_137_9, zR_mk_137_16, zR_mk_137_17, zR_mk_137_18, zR_mk_137_19, zR_mk_137_20, zR_mk_137_22, zR_mk_137_24, zR_mk_137_25, zR_mk_137_26, zR_mk_137_28, zR_mk_137_29, zR_mk_137_30, zR_mk_137_31, gT_mk_138, zT_mk_138, gT_mk_139, zT_mk_139, gT_mk_140, zT_mk_140, gT_mk_141, zT_mk_141, gT_mk_142, zT_mk_142, gT_mk_143, zT_mk_143, gT_mk_144, zT_mk_144, gT_mk_145, zT_mk_145, gT_mk_146, zT_mk_146, gT_mk_147, zT_mk_147, gT_mk_148, zT_mk_148, gT_mk_149, zT_mk_149, gT_mk_150, zT_mk_150, gT_mk_151, zT_mk_151, gT_mk_152, zT_mk_152, gT_mk_153, zT_mk_153, gT_mk_154, zT_mk_154, gT_mk_155, zT_mk_155, gT_mk_156, zT_mk_156, gT_mk_157, zT_mk_157, fn_Mo_from_L3, li_50, li_51, eb, ea, e1, e2, er]
    · have hh : ac2 (acV own nu vv d 2 ab x) (acV own nu vv d 1 own (nI 1)) 40 = some (r, tr) := h'
      obtain ⟨p1, t1, p3, t3, p2, p4, er, et⟩ := ac2_s hh
      obtain ⟨f2, f3, e2, e3, hT2, s2, hA2⟩ := two (u + 1) u (by omega) (by omega) 2 ab 1 own x (nI 1) p1 p3 t1 t3 p2 p4 et (by decide) hab (by decide) ho
      have e4 := m_own hA2 e3
      have ea := eab (by omega)
      refine ⟨f3, ?_, hT2, s2⟩
      simp (disch := omega) only [wbr_T, wbr_F, wgd_T, wbq, wbv, wnm, zI_mk, zL_mk, uI_mk, uL_mk, kI_mk, kL_mk, nI_add, nI_mul, nI_sub, nI_div, nI_clamp, wgB, wgP, nI_leI, nI_ltI, nI_eq, nI_eqm, nI_eqm5, wdT, wdF, wd1, wd0, li_0, li_1, li_2, li_3, li_4, li_5, li_6, li_7, li_8, li_9, li_10, li_11, li_12, li_13, li_14, li_15, li_16, li_17, li_18, li_19, li_20, li_21, li_22, li_23, li_24, li_25, li_26, li_27, li_28, li_29, li_30, li_31, li_32, li_33, li_38, li_40, li_41, li_48, li_57, li_58, li_59, li_60, li_61, li_62, li_63, li_68, li_69, li_70, li_71, li_72, li_73, li_74, li_75, li_83, li_87, li_88, li_89, li_99, li_100, li_104, li_105, li_106, li_107, li_108, li_109, li_110, li_111, li_112, li_113, li_114, li_115, li_116, li_117, li_118, li_119, li_120, li_121, li_124, li_127, li_128, li_200, li_4095, li_4096, li_9999, gT_mk_137, zT_mk_137, zR_mk_137_0, zR_mk_137_1, zR_mk_137_2, zR_mk_137_4, zR_mk_137_6, zR_mk_137_7, zR_mk_137_9, zR_mk_137_16, zR_mk_137_17, zR_mk_137_18, zR_mk_137_19, zR_mk_137_20, zR_mk_137_22, zR_mk_137_24, zR_mk_137_25, zR_mk_137_26, zR_mk_137_28, zR_mk_137_29, zR_mk_137_30, zR_mk_137_31, gT_mk_138, zT_mk_138, gT_mk_139, zT_mk_139, gT_mk_140, zT_mk_140, gT_mk_141, zT_mk_141, gT_mk_142, zT_mk_142, gT_mk_143, zT_mk_143, gT_mk_144, zT_mk_144, gT_mk_145, zT_mk_145, gT_mk_146, zT_mk_146, gT_mk_147, zT_mk_147, gT_mk_148, zT_mk_148, gT_mk_149, zT_mk_149, gT_mk_150, zT_mk_150, gT_mk_151, zT_mk_151, gT_mk_152, zT_mk_152, gT_mk_153, zT_mk_153, gT_mk_154, zT_mk_154, gT_mk_155, zT_mk_155, gT_mk_156, zT_mk_156, gT_mk_157, zT_mk_157, fn_Mo_from_L3, li_50, li_51, eb, ea, e1, e2, e4, er]
    · have hh : ac1 (acV own nu vv d 0 ab x) 50 (fun r => -r) = some (r, tr) := h'
      obtain ⟨p1, t1, p2, er, et⟩ := ac1_s hh
      obtain ⟨f2, e2, hT2, s2, mv⟩ := one (u + 1) (by omega) 0 ab x p1 t1 p2 et (by decide) hab
      have ea := eab (by omega)
      refine ⟨f2, ?_, hT2, s2⟩
      simp (disch := omega) only [wbr_T, wbr_F, wgd_T, wbq, wbv, wnm, zI_mk, zL_mk, uI_mk, uL_mk, kI_mk, kL_mk, nI_add, nI_mul, nI_sub, nI_div, nI_clamp, wgB, wgP, nI_leI, nI_ltI, nI_eq, nI_eqm, nI_eqm5, wdT, wdF, wd1, wd0, li_0, li_1, li_2, li_3, li_4, li_5, li_6, li_7, li_8, li_9, li_10, li_11, li_12, li_13, li_14, li_15, li_16, li_17, li_18, li_19, li_20, li_21, li_22, li_23, li_24, li_25, li_26, li_27, li_28, li_29, li_30, li_31, li_32, li_33, li_38, li_40, li_41, li_48, li_57, li_58, li_59, li_60, li_61, li_62, li_63, li_68, li_69, li_70, li_71, li_72, li_73, li_74, li_75, li_83, li_87, li_88, li_89, li_99, li_100, li_104, li_105, li_106, li_107, li_108, li_109, li_110, li_111, li_112, li_113, li_114, li_115, li_116, li_117, li_118, li_119, li_120, li_121, li_124, li_127, li_128, li_200, li_4095, li_4096, li_9999, gT_mk_137, zT_mk_137, zR_mk_137_0, zR_mk_137_1, zR_mk_137_2, zR_mk_137_4, zR_mk_137_6, zR_mk_137_7, zR_mk_137_9, zR_mk_137_16, zR_mk_137_17, zR_mk_137_18, zR_mk_137_19, zR_mk_137_20, zR_mk_137_22, zR_mk_137_24, zR_mk_137_25, zR_mk_137_26, zR_mk_137_28, zR_mk_137_29, zR_mk_137_30, zR_mk_137_31, gT_mk_138, zT_mk_138, gT_mk_139, zT_mk_139, gT_mk_140, zT_mk_140, gT_mk_141, zT_mk_141, gT_mk_142, zT_mk_142, gT_mk_143, zT_mk_143, gT_mk_144, zT_mk_144, gT_mk_145, zT_mk_145, gT_mk_146, zT_mk_146, gT_mk_147, zT_mk_147, gT_mk_148, zT_mk_148, gT_mk_149, zT_mk_149, gT_mk_150, zT_mk_150, gT_mk_151, zT_mk_151, gT_mk_152, zT_mk_152, gT_mk_153, zT_mk_153, gT_mk_154, zT_mk_154, gT_mk_155, zT_mk_155, gT_mk_156, zT_mk_156, gT_mk_157, zT_mk_157, fn_Mo_from_L3, li_50, li_51, eb, ea, e1, e2, er]
    · have hh : ac1 (acV own nu vv d 1 ab (x + nI 1)) 51 (fun r => r) = some (r, tr) := h'
      obtain ⟨p1, t1, p2, er, et⟩ := ac1_s hh
      obtain ⟨f2, e2, hT2, s2, mv⟩ := one (u + 1) (by omega) 1 ab (x + nI 1) p1 t1 p2 et (by decide) hab
      have ea := eab (by omega)
      refine ⟨f2, ?_, hT2, s2⟩
      simp (disch := omega) only [wbr_T, wbr_F, wgd_T, wbq, wbv, wnm, zI_mk, zL_mk, uI_mk, uL_mk, kI_mk, kL_mk, nI_add, nI_mul, nI_sub, nI_div, nI_clamp, wgB, wgP, nI_leI, nI_ltI, nI_eq, nI_eqm, nI_eqm5, wdT, wdF, wd1, wd0, li_0, li_1, li_2, li_3, li_4, li_5, li_6, li_7, li_8, li_9, li_10, li_11, li_12, li_13, li_14, li_15, li_16, li_17, li_18, li_19, li_20, li_21, li_22, li_23, li_24, li_25, li_26, li_27, li_28, li_29, li_30, li_31, li_32, li_33, li_38, li_40, li_41, li_48, li_57, li_58, li_59, li_60, li_61, li_62, li_63, li_68, li_69, li_70, li_71, li_72, li_73, li_74, li_75, li_83, li_87, li_88, li_89, li_99, li_100, li_104, li_105, li_106, li_107, li_108, li_109, li_110, li_111, li_112, li_113, li_114, li_115, li_116, li_117, li_118, li_119, li_120, li_121, li_124, li_127, li_128, li_200, li_4095, li_4096, li_9999, gT_mk_137, zT_mk_137, zR_mk_137_0, zR_mk_137_1, zR_mk_137_2, zR_mk_137_4, zR_mk_137_6, zR_mk_137_7, zR_mk_137_9, zR_mk_137_16, zR_mk_137_17, zR_mk_137_18, zR_mk_137_19, zR_mk_137_20, zR_mk_137_22, zR_mk_137_24, zR_mk_137_25, zR_mk_137_26, zR_mk_137_28, zR_mk_137_29, zR_mk_137_30, zR_mk_137_31, gT_mk_138, zT_mk_138, gT_mk_139, zT_mk_139, gT_mk_140, zT_mk_140, gT_mk_141, zT_mk_141, gT_mk_142, zT_mk_142, gT_mk_143, zT_mk_143, gT_mk_144, zT_mk_144, gT_mk_145, zT_mk_145, gT_mk_146, zT_mk_146, gT_mk_147, zT_mk_147, gT_mk_148, zT_mk_148, gT_mk_149, zT_mk_149, gT_mk_150, zT_mk_150, gT_mk_151, zT_mk_151, gT_mk_152, zT_mk_152, gT_mk_153, zT_mk_153, gT_mk_154, zT_mk_154, gT_mk_155, zT_mk_155, gT_mk_156, zT_mk_156, gT_mk_157, zT_mk_157, fn_Mo_from_L3, li_50, li_51, eb, ea, e1, e2, er]
    · have hh : ac1 (acV own nu vv d 2 ab (x - nI nu)) 60 (fun r => r) = some (r, tr) := h'
      obtain ⟨p1, t1, p2, er, et⟩ := ac1_s hh
      obtain ⟨f2, e2, hT2, s2, mv⟩ := one (u + 1) (by omega) 2 ab (x - nI nu) p1 t1 p2 et (by decide) hab
      have ea := eab (by omega)
      refine ⟨f2, ?_, hT2, s2⟩
      simp (disch := omega) only [wbr_T, wbr_F, wgd_T, wbq, wbv, wnm, zI_mk, zL_mk, uI_mk, uL_mk, kI_mk, kL_mk, nI_add, nI_mul, nI_sub, nI_div, nI_clamp, wgB, wgP, nI_leI, nI_ltI, nI_eq, nI_eqm, nI_eqm5, wdT, wdF, wd1, wd0, li_0, li_1, li_2, li_3, li_4, li_5, li_6, li_7, li_8, li_9, li_10, li_11, li_12, li_13, li_14, li_15, li_16, li_17, li_18, li_19, li_20, li_21, li_22, li_23, li_24, li_25, li_26, li_27, li_28, li_29, li_30, li_31, li_32, li_33, li_38, li_40, li_41, li_48, li_57, li_58, li_59, li_60, li_61, li_62, li_63, li_68, li_69, li_70, li_71, li_72, li_73, li_74, li_75, li_83, li_87, li_88, li_89, li_99, li_100, li_104, li_105, li_106, li_107, li_108, li_109, li_110, li_111, li_112, li_113, li_114, li_115, li_116, li_117, li_118, li_119, li_120, li_121, li_124, li_127, li_128, li_200, li_4095, li_4096, li_9999, gT_mk_137, zT_mk_137, zR_mk_137_0, zR_mk_137_1, zR_mk_137_2, zR_mk_137_4, zR_mk_137_6, zR_mk_137_7, zR_mk_137_9, zR_mk_137_16, zR_mk_137_17, zR_mk_137_18, zR_mk_137_19, zR_mk_137_20, zR_mk_137_22, zR_mk_137_24, zR_mk_137_25, zR_mk_137_26, zR_mk_137_28, zR_mk_137_29, zR_mk_137_30, zR_mk_137_31, gT_mk_138, zT_mk_138, gT_mk_139, zT_mk_139, gT_mk_140, zT_mk_140, gT_mk_141, zT_mk_141, gT_mk_142, zT_mk_142, gT_mk_143, zT_mk_143, gT_mk_144, zT_mk_144, gT_mk_145, zT_mk_145, gT_mk_146, zT_mk_146, gT_mk_147, zT_mk_147, gT_mk_148, zT_mk_148, gT_mk_149, zT_mk_149, gT_mk_150, zT_mk_150, gT_mk_151, zT_mk_151, gT_mk_152, zT_mk_152, gT_mk_153, zT_mk_153, gT_mk_154, zT_mk_154, gT_mk_155, zT_mk_155, gT_mk_156, zT_mk_156, gT_mk_157, zT_mk_157, fn_Mo_from_L3, li_50, li_51, eb, ea, e1, e2, er]
    · have hh : ac2 (acV own nu vv d 1 ab x) (acV own nu vv d 0 ab (nI 2)) 70 = some (r, tr) := h'
      obtain ⟨p1, t1, p3, t3, p2, p4, er, et⟩ := ac2_s hh
      obtain ⟨f2, f3, e2, e3, hT2, s2, hA2⟩ := two (u + 1) (u + 1) (by omega) (by omega) 1 ab 0 ab x (nI 2) p1 p3 t1 t3 p2 p4 et (by decide) hab (by decide) hab
      have ea := eab (by omega)
      refine ⟨f3, ?_, hT2, s2⟩
      simp (disch := omega) only [wbr_T, wbr_F, wgd_T, wbq, wbv, wnm, zI_mk, zL_mk, uI_mk, uL_mk, kI_mk, kL_mk, nI_add, nI_mul, nI_sub, nI_div, nI_clamp, wgB, wgP, nI_leI, nI_ltI, nI_eq, nI_eqm, nI_eqm5, wdT, wdF, wd1, wd0, li_0, li_1, li_2, li_3, li_4, li_5, li_6, li_7, li_8, li_9, li_10, li_11, li_12, li_13, li_14, li_15, li_16, li_17, li_18, li_19, li_20, li_21, li_22, li_23, li_24, li_25, li_26, li_27, li_28, li_29, li_30, li_31, li_32, li_33, li_38, li_40, li_41, li_48, li_57, li_58, li_59, li_60, li_61, li_62, li_63, li_68, li_69, li_70, li_71, li_72, li_73, li_74, li_75, li_83, li_87, li_88, li_89, li_99, li_100, li_104, li_105, li_106, li_107, li_108, li_109, li_110, li_111, li_112, li_113, li_114, li_115, li_116, li_117, li_118, li_119, li_120, li_121, li_124, li_127, li_128, li_200, li_4095, li_4096, li_9999, gT_mk_137, zT_mk_137, zR_mk_137_0, zR_mk_137_1, zR_mk_137_2, zR_mk_137_4, zR_mk_137_6, zR_mk_137_7, zR_mk_137_9, zR_mk_137_16, zR_mk_137_17, zR_mk_137_18, zR_mk_137_19, zR_mk_137_20, zR_mk_137_22, zR_mk_137_24, zR_mk_137_25, zR_mk_137_26, zR_mk_137_28, zR_mk_137_29, zR_mk_137_30, zR_mk_137_31, gT_mk_138, zT_mk_138, gT_mk_139, zT_mk_139, gT_mk_140, zT_mk_140, gT_mk_141, zT_mk_141, gT_mk_142, zT_mk_142, gT_mk_143, zT_mk_143, gT_mk_144, zT_mk_144, gT_mk_145, zT_mk_145, gT_mk_146, zT_mk_146, gT_mk_147, zT_mk_147, gT_mk_148, zT_mk_148, gT_mk_149, zT_mk_149, gT_mk_150, zT_mk_150, gT_mk_151, zT_mk_151, gT_mk_152, zT_mk_152, gT_mk_153, zT_mk_153, gT_mk_154, zT_mk_154, gT_mk_155, zT_mk_155, gT_mk_156, zT_mk_156, gT_mk_157, zT_mk_157, fn_Mo_from_L3, li_50, li_51, eb, ea, e1, e2, e3, er]
    · have hh : ac1 (acV own nu vv d 0 ab x) 71 (fun r => r ^^^ nI vv) = some (r, tr) := h'
      obtain ⟨p1, t1, p2, er, et⟩ := ac1_s hh
      obtain ⟨f2, e2, hT2, s2, mv⟩ := one (u + 1) (by omega) 0 ab x p1 t1 p2 et (by decide) hab
      have ea := eab (by omega)
      refine ⟨f2, ?_, hT2, s2⟩
      simp (disch := omega) only [wbr_T, wbr_F, wgd_T, wbq, wbv, wnm, zI_mk, zL_mk, uI_mk, uL_mk, kI_mk, kL_mk, nI_add, nI_mul, nI_sub, nI_div, nI_clamp, wgB, wgP, nI_leI, nI_ltI, nI_eq, nI_eqm, nI_eqm5, wdT, wdF, wd1, wd0, li_0, li_1, li_2, li_3, li_4, li_5, li_6, li_7, li_8, li_9, li_10, li_11, li_12, li_13, li_14, li_15, li_16, li_17, li_18, li_19, li_20, li_21, li_22, li_23, li_24, li_25, li_26, li_27, li_28, li_29, li_30, li_31, li_32, li_33, li_38, li_40, li_41, li_48, li_57, li_58, li_59, li_60, li_61, li_62, li_63, li_68, li_69, li_70, li_71, li_72, li_73, li_74, li_75, li_83, li_87, li_88, li_89, li_99, li_100, li_104, li_105, li_106, li_107, li_108, li_109, li_110, li_111, li_112, li_113, li_114, li_115, li_116, li_117, li_118, li_119, li_120, li_121, li_124, li_127, li_128, li_200, li_4095, li_4096, li_9999, gT_mk_137, zT_mk_137, zR_mk_137_0, zR_mk_137_1, zR_mk_137_2, zR_mk_137_4, zR_mk_137_6, zR_mk_137_7, zR_mk_137_9, zR_mk_137_16, zR_mk_137_17, zR_mk_137_18, zR_mk_137_19, zR_mk_137_20, zR_mk_137_22, zR_mk_137_24, zR_mk_137_25, zR_mk_137_26, zR_mk_137_28, zR_mk_137_29, zR_mk_137_30, zR_mk_137_31, gT_mk_138, zT_mk_138, gT_mk_139, zT_mk_139, gT_mk_140, zT_mk_140, gT_mk_141, zT_mk_141, gT_mk_142, zT_mk_142, gT_mk_143, zT_mk_143, gT_mk_144, zT_mk_144, gT_mk_145, zT_mk_145, gT_mk_146, zT_mk_146, gT_mk_147, zT_mk_147, gT_mk_148, zT_mk_148, gT_mk_149, zT_mk_149, gT_mk_150, zT_mk_150, gT_mk_151, zT_mk_151, gT_mk_152, zT_mk_152, gT_mk_153, zT_mk_153, gT_mk_154, zT_mk_154, gT_mk_155, zT_mk_155, gT_mk_156, zT_mk_156, gT_mk_157, zT_mk_157, fn_Mo_from_L3, li_50, li_51, eb, ea, e1, e2, mv, er]
theorem Iv_F (h : Iv f l R) (hF : JF g) (hf : ∀ p j, ¬ (p = 32 ∧ j = 1) → ¬ p = 33 → ¬ p = 153 → ¬ (p = 137 ∧ j = 27) → g p j = f p j) (hR1 : R' 41 = R 41) (hR2 : R' 85 = R 85) : Iv g l R' := by
  obtain ⟨ru, T, N, q1, q2, q3, q4, q5, q6, q7, q8⟩ := h
  exact ⟨ru, T, N, JA_fr q1 hR1 (fun p j q => hf p j (by omega) (by omega) (by omega) (by omega)), JB_fr q2 hR2 (fun p j q => hf p j (by omega) (by omega) (by omega) (by omega)), JC_fr q3 (fun p j q => hf p j (by omega) (by omega) (by omega) (by omega)), JD_fr q4 (fun p j q => hf p j (by omega) (by omega) (by omega) (by omega)), JE_fr q5 (fun p j q => hf p j (by omega) (by omega) (by omega) (by omega)), hF, JG_fr q7 (fun p j q => hf p j (by omega) (by omega) (by omega) (by omega)), cN_fr q8 (fun p j q1 q2 => hf p j (by omega) (by omega) (by omega) (by omega))⟩
end
theorem op_act (x y v : Int32) : OpI (fn_Ls_act 16 x y v) (fn_Mo_act 137 x y v) := by
  intro f l R h
  obtain ⟨ru, T, N, ⟨a, hc, hA, hG, hR⟩, hE⟩ := id h
  obtain ⟨c0, c1, c2, c3, c4, c5, c6, c7, c8⟩ := hbC
  obtain ⟨u0, u1, u2, u3, u4, u5, u6, u7, u8, u9, u10, u11, u12, u13, u14, u15, u16, u17, u18, u19, u20, u21, u22, u23, u24, u25, u26, u27, u28, u29, u30⟩ := hbB
  obtain ⟨z6, z7, z8, z9⟩ := id hc.1
  have gA := Gd_all hG
  obtain ⟨rn, n1, n2, n3, n4⟩ := hE.2.2.2.2.1
  have ez : up f 32 1 (nI 0) 41 6 = nI (a 68) := (up_np (by decide)).trans (cC_z hc)
  have eA : up (up f 32 1 (nI 0)) 137 27 (nI 0) 138 68 = nI (a 68) := by
    rw [up_np (by decide), up_np (by decide)]
    exact hA 68
  have fr0 : ∀ p j, ¬ (p = 32 ∧ j = 1) → ¬ p = 33 → ¬ p = 153 → ¬ (p = 137 ∧ j = 27) → up (up f 32 1 (nI 0)) 137 27 (nI 0) p j = f p j := fun p j q1 q2 q3 q4 => by
    by_cases e1 : p = 137
    · subst e1
      rw [up_nj (by omega), up_np (by decide)]
    · rw [up_np e1]
      by_cases e2 : p = 32
      · subst e2
        exact up_nj (by omega)
      · exact up_np e2
  have no : Iv (up (up f 32 1 (nI 0)) 137 27 (nI 0)) l R := Iv_F h ⟨0, by decide, (up_np (by decide)).trans up_eq, up_eq, fun j hj => by
    rw [up_np (by decide), up_np (by decide), up_np (by decide), up_np (by decide)]
    exact n4 j hj⟩ fr0 rfl rfl
  rcases ix_or x (N := a 68) (by omega) with ⟨i, hi, rfl⟩ | hx
  · have hi6 : i < 6 := by omega
    have e1 := c_has_in (l := l) (R := R) zb41 ez z6 hi
    have m1 := m_saint_in (l := l) (R := R) eA z6 hi
    rcases ix_or y (N := 3) (by decide) with ⟨act, hy, rfl⟩ | hy
    · have m2 := fun S : zS => m_in (S := S) (k := act) (lo := 0) (hi := 2) (by omega) (by omega) (by decide)
      obtain ⟨g1, g2, g3, g4, g5, g6, g7⟩ := gA.2.1 i hi6
      obtain ⟨r, tr, ev, tl⟩ := ac_ok (a (10 * i)) g1 act hy i (a (10 * i + 1)) v
      have hK := (Re_JG hE).1
      have hB := (Re_JG hE).2.1
      have hAC : AC (51 + 2 * i) (a (10 * i)) i (a (10 * i + 1)) (up f 32 1 (nI 0)) (ur R 32 (51 + 2 * i)) := by
        refine ⟨⟨if_pos rfl, by omega, fun f l => sp_T (sp_b zb41 hi6)⟩, ⟨?_, ?_, ?_⟩, fun j hj => ?_, fun j hj => ?_, g1⟩
        · rw [up_np (by omega)]
          exact hc.2.1.1 i hi6
        · rw [up_np (by omega)]
          exact cC_kd hc hi
        · rw [up_np (by omega)]
          exact cC_v hc hi
        · rw [up_np (by decide)]
          exact hK j hj
        · rw [up_np (by decide)]
          exact hB j hj
      obtain ⟨f1, e2, hT1, s1⟩ := c_call (l := l) (R := ur R 32 (51 + 2 * i)) 8 act (a (10 * i)) 0 FR v r tr (up f 32 1 (nI 0)) (0, f 33) ev hy g1 (by decide) (by decide) (by show 0 + tr.length < 1000; omega) hAC ⟨up_eq, fun j => up_np (by decide)⟩
      have ekd : up f 32 1 (nI 0) (51 + 2 * i) 2 = nI (a (10 * i)) := hAC.2.1.2.1
      have s1' : ∀ p j, ¬ p = 33 → ¬ (p = 32 ∧ j = 1) → f1 p j = f p j := fun p j q1 q2 => by
        rw [s1 p j q1 q2]
        by_cases e : p = 32
        · subst e
          exact up_nj (by omega)
        · exact up_np e
      have t0 : ∀ p j, ¬ (p = 137 ∧ j = 27) → up f1 137 27 (nI 0) p j = f1 p j := fun p j q => by
        by_cases e : p = 137
        · subst e
          exact up_nj (by omega)
        · exact up_np e
      have hAM : AM (a (10 * i)) i (a (10 * i + 1)) (up f1 137 27 (nI 0)) := by
        refine ⟨⟨?_, ?_⟩, fun j hj => ?_, fun j hj => ?_, g1, hi6⟩
        · rw [t0 _ _ (by omega), s1' _ _ (by decide) (by omega)]
          exact hA _
        · rw [t0 _ _ (by omega), s1' _ _ (by decide) (by omega)]
          exact hA _
        · rw [t0 _ _ (by omega), s1' _ _ (by decide) (by omega)]
          exact (Re_JG hE).2.2.2.2.1 j hj
        · rw [t0 _ _ (by omega), s1' _ _ (by decide) (by omega)]
          exact (Re_JG hE).2.2.2.2.2 j hj
      obtain ⟨g, e3, hT2, s2⟩ := m_call (l := l) (R := ur R 32 (51 + 2 * i)) 8 act (a (10 * i)) 59 v r tr (up f1 137 27 (nI 0)) (0, f 153) ev hy g1 (by decide) (by show 0 + tr.length < 1000; omega) hAM ⟨up_eq, fun j => by rw [t0 _ _ (by omega), s1' _ _ (by decide) (by omega)]⟩
      have e4 : fn_Mo_all FR 137 (nI i) (nI act) v (mk (up f1 137 27 (nI 0)) l (ur R 32 (51 + 2 * i))) = some (r, mk g l (ur R 32 (51 + 2 * i))) := m_own (u := 59) hAM e3
      have m1' : fn_Mo_isSaint 137 (nI i) (mk (up f1 137 27 (nI 0)) l (ur R 32 (51 + 2 * i))) = some (1, mk (up f1 137 27 (nI 0)) l (ur R 32 (51 + 2 * i))) := m_saint_in (by rw [t0 _ _ (by omega), s1' _ _ (by decide) (by omega)]; exact hA 68) z6 hi
      have w32 : ∀ (f : Nat → Nat → Int32) (x : Nat), uR (mk f l R) 32 2 x = mk f l (ur R 32 x) := fun f x => uR_mk_32 f l R x
      have f1l := fold_1 tr (0, f 33)
      have f2l := fold_1 tr (0, f 153)
      rw [show ((0 : Nat), f 33).1 + tr.length = tr.length from Nat.zero_add _] at f1l
      rw [show ((0 : Nat), f 153).1 + tr.length = tr.length from Nat.zero_add _] at f2l
      refine ⟨r, f1, l, ur R 32 (51 + 2 * i), g, l, ?_, ?_, Iv_F h ⟨tr.length, by omega, ?_, ?_, fun j hj => ?_⟩ (fun p j q1 q2 q3 q4 => ?_) rfl rfl⟩
      · simp (disch := omega) only [wbr_T, wbr_F, wgd_T, wbq, wbv, wnm, zI_mk, zL_mk, uI_mk, uL_mk, kI_mk, kL_mk, nI_add, nI_mul, nI_sub, nI_div, nI_clamp, wgB, wgP, nI_leI, nI_ltI, nI_eq, nI_eqm, nI_eqm5, wdT, wdF, wd1, wd0, li_0, li_1, li_2, li_3, li_4, li_5, li_6, li_7, li_8, li_9, li_10, li_11, li_12, li_13, li_14, li_15, li_16, li_17, li_18, li_19, li_20, li_21, li_22, li_23, li_24, li_25, li_26, li_27, li_28, li_29, li_30, li_31, li_32, li_33, li_38, li_40, li_41, li_48, li_57, li_58, li_59, li_60, li_61, li_62, li_63, li_68, li_69, li_70, li_71, li_72, li_73, li_74, li_75, li_83, li_87, li_88, li_89, li_99, li_100, li_104, li_105, li_106, li_107, li_108, li_109, li_110, li_111, li_112, li_113, li_114, li_115, li_116, li_117, li_118, li_119, li_120, li_121, li_124, li_127, li_128, li_200, li_4095, li_4096, li_9999, c0, c1, c2, c3, c4, c5, c6, c7, c8, u0, u1, u2, u3, u4, u5, u6, u7, u8, u9, u10, u11, u12, u13, u14, u15, u16, u17, u18, u19, u20, u21, u22, u23, u24, u25, u26, u27, u28, u29, u30, fn_Ls_act, fn_Ac_run, e1, w32, ekd, e2, gT_mk_32]
      · simp (disch := omega) only [wbr_T, wbr_F, wgd_T, wbq, wbv, wnm, zI_mk, zL_mk, uI_mk, uL_mk, kI_mk, kL_mk, nI_add, nI_mul, nI_sub, nI_div, nI_clamp, wgB, wgP, nI_leI, nI_ltI, nI_eq, nI_eqm, nI_eqm5, wdT, wdF, wd1, wd0, li_0, li_1, li_2, li_3, li_4, li_5, li_6, li_7, li_8, li_9, li_10, li_11, li_12, li_13, li_14, li_15, li_16, li_17, li_18, li_19, li_20, li_21, li_22, li_23, li_24, li_25, li_26, li_27, li_28, li_29, li_30, li_31, li_32, li_33, li_38, li_40, li_41, li_48, li_57, li_58, li_59, li_60, li_61, li_62, li_63, li_68, li_69, li_70, li_71, li_72, li_73, li_74, li_75, li_83, li_87, li_88, li_89, li_99, li_100, li_104, li_105, li_106, li_107, li_108, li_109, li_110, li_111, li_112, li_113, li_114, li_115, li_116, li_117, li_118, li_119, li_120, li_121, li_124, li_127, li_128, li_200, li_4095, li_4096, li_9999, gT_mk_137, zT_mk_137, zR_mk_137_0, zR_mk_137_1, zR_mk_137_2, zR_mk_137_4, zR_mk_137_6, zR_mk_137_7, zR_mk_137_9, zR_mk_137_16, zR_mk_137_17, zR_mk_137_18, zR_mk_137_19, zR_mk_137_20, zR_mk_137_22, zR_mk_137_24, zR_mk_137_25, zR_mk_137_26, zR_mk_137_28, zR_mk_137_29, zR_mk_137_30, zR_mk_137_31, gT_mk_138, zT_mk_138, gT_mk_139, zT_mk_139, gT_mk_140, zT_mk_140, gT_mk_141, zT_mk_141, gT_mk_142, zT_mk_142, gT_mk_143, zT_mk_143, gT_mk_144, zT_mk_144, gT_mk_145, zT_mk_145, gT_mk_146, zT_mk_146, gT_mk_147, zT_mk_147, gT_mk_148, zT_mk_148, gT_mk_149, zT_mk_149, gT_mk_150, zT_mk_150, gT_mk_151, zT_mk_151, gT_mk_152, zT_mk_152, gT_mk_153, zT_mk_153, gT_mk_154, zT_mk_154, gT_mk_155, zT_mk_155, gT_mk_156, zT_mk_156, gT_mk_157, zT_mk_157, fn_Mo_act, m1', m2, e4]
      · rw [s2 32 1 (by decide) (by decide), t0 32 1 (by omega), hT1.1, f1l]
      · rw [hT2.1, f2l]
      · rw [s2 33 j (by decide) (by omega), t0 33 j (by omega), hT1.2, hT2.2]
        exact fold_e tr (0, f 33) (0, f 153) rfl n4 j hj
      · rw [s2 p j q3 q4, t0 p j q4, s1' p j q2 q1]
    · have m2 := fun S : zS => m_out (S := S) (hi := 2) hy (by decide)
      refine ⟨nI 0, up f 32 1 (nI 0), l, R, up (up f 32 1 (nI 0)) 137 27 (nI 0), l, ?_, ?_, no⟩
      · by_cases h0 : y < nI 0
        · simp (disch := omega) only [wbr_T, wbr_F, wgd_T, wbq, wbv, wnm, zI_mk, zL_mk, uI_mk, uL_mk, kI_mk, kL_mk, nI_add, nI_mul, nI_sub, nI_div, nI_clamp, wgB, wgP, nI_leI, nI_ltI, nI_eq, nI_eqm, nI_eqm5, wdT, wdF, wd1, wd0, li_0, li_1, li_2, li_3, li_4, li_5, li_6, li_7, li_8, li_9, li_10, li_11, li_12, li_13, li_14, li_15, li_16, li_17, li_18, li_19, li_20, li_21, li_22, li_23, li_24, li_25, li_26, li_27, li_28, li_29, li_30, li_31, li_32, li_33, li_38, li_40, li_41, li_48, li_57, li_58, li_59, li_60, li_61, li_62, li_63, li_68, li_69, li_70, li_71, li_72, li_73, li_74, li_75, li_83, li_87, li_88, li_89, li_99, li_100, li_104, li_105, li_106, li_107, li_108, li_109, li_110, li_111, li_112, li_113, li_114, li_115, li_116, li_117, li_118, li_119, li_120, li_121, li_124, li_127, li_128, li_200, li_4095, li_4096, li_9999, c0, c1, c2, c3, c4, c5, c6, c7, c8, u0, u1, u2, u3, u4, u5, u6, u7, u8, u9, u10, u11, u12, u13, u14, u15, u16, u17, u18, u19, u20, u21, u22, u23, u24, u25, u26, u27, u28, u29, u30, fn_Ls_act, e1, h0, gT_mk_32]
        · have h1 := ox_le hy h0 (by decide)
          simp (disch := omega) only [wbr_T, wbr_F, wgd_T, wbq, wbv, wnm, zI_mk, zL_mk, uI_mk, uL_mk, kI_mk, kL_mk, nI_add, nI_mul, nI_sub, nI_div, nI_clamp, wgB, wgP, nI_leI, nI_ltI, nI_eq, nI_eqm, nI_eqm5, wdT, wdF, wd1, wd0, li_0, li_1, li_2, li_3, li_4, li_5, li_6, li_7, li_8, li_9, li_10, li_11, li_12, li_13, li_14, li_15, li_16, li_17, li_18, li_19, li_20, li_21, li_22, li_23, li_24, li_25, li_26, li_27, li_28, li_29, li_30, li_31, li_32, li_33, li_38, li_40, li_41, li_48, li_57, li_58, li_59, li_60, li_61, li_62, li_63, li_68, li_69, li_70, li_71, li_72, li_73, li_74, li_75, li_83, li_87, li_88, li_89, li_99, li_100, li_104, li_105, li_106, li_107, li_108, li_109, li_110, li_111, li_112, li_113, li_114, li_115, li_116, li_117, li_118, li_119, li_120, li_121, li_124, li_127, li_128, li_200, li_4095, li_4096, li_9999, c0, c1, c2, c3, c4, c5, c6, c7, c8, u0, u1, u2, u3, u4, u5, u6, u7, u8, u9, u10, u11, u12, u13, u14, u15, u16, u17, u18, u19, u20, u21, u22, u23, u24, u25, u26, u27, u28, u29, u30, fn_Ls_act, e1, h0, h1, gT_mk_32]
      · simp (disch := omega) only [wbr_T, wbr_F, wgd_T, wbq, wbv, wnm, zI_mk, zL_mk, uI_mk, uL_mk, kI_mk, kL_mk, nI_add, nI_mul, nI_sub, nI_div, nI_clamp, wgB, wgP, nI_leI, nI_ltI, nI_eq, nI_eqm, nI_eqm5, wdT, wdF, wd1, wd0, li_0, li_1, li_2, li_3, li_4, li_5, li_6, li_7, li_8, li_9, li_10, li_11, li_12, li_13, li_14, li_15, li_16, li_17, li_18, li_19, li_20, li_21, li_22, li_23, li_24, li_25, li_26, li_27, li_28, li_29, li_30, li_31, li_32, li_33, li_38, li_40, li_41, li_48, li_57, li_58, li_59, li_60, li_61, li_62, li_63, li_68, li_69, li_70, li_71, li_72, li_73, li_74, li_75, li_83, li_87, li_88, li_89, li_99, li_100, li_104, li_105, li_106, li_107, li_108, li_109, li_110, li_111, li_112, li_113, li_114, li_115, li_116, li_117, li_118, li_119, li_120, li_121, li_124, li_127, li_128, li_200, li_4095, li_4096, li_9999, gT_mk_137, zT_mk_137, zR_mk_137_0, zR_mk_137_1, zR_mk_137_2, zR_mk_137_4, zR_mk_137_6, zR_mk_137_7, zR_mk_137_9, zR_mk_137_16, zR_mk_137_17, zR_mk_137_18, zR_mk_137_19, zR_mk_137_20, zR_mk_137_22, zR_mk_137_24, zR_mk_137_25, zR_mk_137_26, zR_mk_137_28, zR_mk_137_29, zR_mk_137_30, zR_mk_137_31, gT_mk_138, zT_mk_138, gT_mk_139, zT_mk_139, gT_mk_140, zT_mk_140, gT_mk_141, zT_mk_141, gT_mk_142, zT_mk_142, gT_mk_143, zT_mk_143, gT_mk_144, zT_mk_144, gT_mk_145, zT_mk_145, gT_mk_146, zT_mk_146, gT_mk_147, zT_mk_147, gT_mk_148, zT_mk_148, gT_mk_149, zT_mk_149, gT_mk_150, zT_mk_150, gT_mk_151, zT_mk_151, gT_mk_152, zT_mk_152, gT_mk_153, zT_mk_153, gT_mk_154, zT_mk_154, gT_mk_155, zT_mk_155, gT_mk_156, zT_mk_156, gT_mk_157, zT_mk_157, fn_Mo_act, m1, m2]
  · have e1 := c_has_out (l := l) (R := R) zb41 ez z6 hx
    have m1 := m_saint_out (l := l) (R := R) eA z6 hx
    refine ⟨nI 0, up f 32 1 (nI 0), l, R, up (up f 32 1 (nI 0)) 137 27 (nI 0), l, ?_, ?_, no⟩
    · simp (disch := omega) only [wbr_T, wbr_F, wgd_T, wbq, wbv, wnm, zI_mk, zL_mk, uI_mk, uL_mk, kI_mk, kL_mk, nI_add, nI_mul, nI_sub, nI_div, nI_clamp, wgB, wgP, nI_leI, nI_ltI, nI_eq, nI_eqm, nI_eqm5, wdT, wdF, wd1, wd0, li_0, li_1, li_2, li_3, li_4, li_5, li_6, li_7, li_8, li_9, li_10, li_11, li_12, li_13, li_14, li_15, li_16, li_17, li_18, li_19, li_20, li_21, li_22, li_23, li_24, li_25, li_26, li_27, li_28, li_29, li_30, li_31, li_32, li_33, li_38, li_40, li_41, li_48, li_57, li_58, li_59, li_60, li_61, li_62, li_63, li_68, li_69, li_70, li_71, li_72, li_73, li_74, li_75, li_83, li_87, li_88, li_89, li_99, li_100, li_104, li_105, li_106, li_107, li_108, li_109, li_110, li_111, li_112, li_113, li_114, li_115, li_116, li_117, li_118, li_119, li_120, li_121, li_124, li_127, li_128, li_200, li_4095, li_4096, li_9999, c0, c1, c2, c3, c4, c5, c6, c7, c8, u0, u1, u2, u3, u4, u5, u6, u7, u8, u9, u10, u11, u12, u13, u14, u15, u16, u17, u18, u19, u20, u21, u22, u23, u24, u25, u26, u27, u28, u29, u30, fn_Ls_act, e1, gT_mk_32]
    · simp (disch := omega) only [wbr_T, wbr_F, wgd_T, wbq, wbv, wnm, zI_mk, zL_mk, uI_mk, uL_mk, kI_mk, kL_mk, nI_add, nI_mul, nI_sub, nI_div, nI_clamp, wgB, wgP, nI_leI, nI_ltI, nI_eq, nI_eqm, nI_eqm5, wdT, wdF, wd1, wd0, li_0, li_1, li_2, li_3, li_4, li_5, li_6, li_7, li_8, li_9, li_10, li_11, li_12, li_13, li_14, li_15, li_16, li_17, li_18, li_19, li_20, li_21, li_22, li_23, li_24, li_25, li_26, li_27, li_28, li_29, li_30, li_31, li_32, li_33, li_38, li_40, li_41, li_48, li_57, li_58, li_59, li_60, li_61, li_62, li_63, li_68, li_69, li_70, li_71, li_72, li_73, li_74, li_75, li_83, li_87, li_88, li_89, li_99, li_100, li_104, li_105, li_106, li_107, li_108, li_109, li_110, li_111, li_112, li_113, li_114, li_115, li_116, li_117, li_118, li_119, li_120, li_121, li_124, li_127, li_128, li_200, li_4095, li_4096, li_9999, gT_mk_137, zT_mk_137, zR_mk_137_0, zR_mk_137_1, zR_mk_137_2, zR_mk_137_4, zR_mk_137_6, zR_mk_137_7, zR_mk_137_9, zR_mk_137_16, zR_mk_137_17, zR_mk_137_18, zR_mk_137_19, zR_mk_137_20, zR_mk_137_22, zR_mk_137_24, zR_mk_137_25, zR_mk_137_26, zR_mk_137_28, zR_mk_137_29, zR_mk_137_30, zR_mk_137_31, gT_mk_138, zT_mk_138, gT_mk_139, zT_mk_139, gT_mk_140, zT_mk_140, gT_mk_141, zT_mk_141, gT_mk_142, zT_mk_142, gT_mk_143, zT_mk_143, gT_mk_144, zT_mk_144, gT_mk_145, zT_mk_145, gT_mk_146, zT_mk_146, gT_mk_147, zT_mk_147, gT_mk_148, zT_mk_148, gT_mk_149, zT_mk_149, gT_mk_150, zT_mk_150, gT_mk_151, zT_mk_151, gT_mk_152, zT_mk_152, gT_mk_153, zT_mk_153, gT_mk_154, zT_mk_154, gT_mk_155, zT_mk_155, gT_mk_156, zT_mk_156, gT_mk_157, zT_mk_157, fn_Mo_act, m1]
