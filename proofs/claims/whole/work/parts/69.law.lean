/-! THE LAW: one call of the two, by its number -/
theorem zc_self (x : Int64) : zcmp x x = nI 0 := by
  unfold zcmp
  rw [if_neg (show ¬ x > x from fun h => by
    have h2 : x < x := h
    rw [Int64.lt_iff_toInt_lt] at h2
    omega), if_pos rfl]
  rfl
section
variable {X : zXt} {f : Nat → Nat → Int32} {l : Nat → Nat → Int64} {R : Nat → Nat} {i j : Nat}
def LwS (X : zXt) (i : Nat) (f : Nat → Nat → Int32) (l : Nat → Nat → Int64) (R : Nat → Nat) : Prop := ∃ f' l' R', Iv f' l' R' ∧ ∀ K : Nat → Nat → Int32 → zS → Option (Int32 × zS), fn_Law_law_L18 X 16 137 (nI i) (mk f l R) K = K 16 137 (nI (i + 6)) (mk f' l' R')
theorem lw_0 (hX : X.1 ≤ 3072) (hi : i + 6 ≤ X.1) : decide (Int32.ofNat X.1 - (6 : Int32) < nI i) = false ∧ gB (nI i) X.1 = true ∧ (nI i).toNatClampNeg = i :=
  ⟨decide_eq_false (fun q => by
    have := (sub_lt' (a := X.1) (b := 6) (c := i) (by omega) (by decide) (by omega)).mp q
    omega), wgB (by omega) (by omega), nI_clamp (by omega)⟩
theorem lw_c0 (h : Iv f l R) (hX : X.1 ≤ 3072) (hi : i + 6 ≤ X.1) (hj : X.2 i &&& (63 : Int32) = nI 0) : LwS X i f l R := by
  obtain ⟨r, f1, l1, R1, f2, l2, q1, q2, q3⟩ := op_saint (X.2 (i + 1)) (X.2 (i + 2)) (X.2 (i + 3)) f l R h
  refine ⟨f2, l2, R1, q3, fun K => ?_⟩
  obtain ⟨d0, g0, c0⟩ := lw_0 hX hi
  unfold fn_Law_law_L18
  rw [d0, wbr_F, g0, wgd_T, c0, hj, wdT (show nI 0 = (0 : Int32) from rfl), wbr_T]
  simp (disch := omega) only [wgd_T, wbq, wbr_T, nI_add, wgB, nI_clamp, gT_mk_16, gT_mk_137, q1, q2, eq_self, wd1, zc_self, li_0, li_1, li_2, li_3, li_4, li_5, li_6]
theorem lw_c1 (h : Iv f l R) (hX : X.1 ≤ 3072) (hi : i + 6 ≤ X.1) (hj : X.2 i &&& (63 : Int32) = nI 1) : LwS X i f l R := by
  obtain ⟨r, f1, l1, R1, f2, l2, q1, q2, q3⟩ := op_of (X.2 (i + 1)) (X.2 (i + 2)) f l R h
  refine ⟨f2, l2, R1, q3, fun K => ?_⟩
  obtain ⟨d0, g0, c0⟩ := lw_0 hX hi
  unfold fn_Law_law_L18
  rw [d0, wbr_F, g0, wgd_T, c0, hj, wdF (show ¬ nI 1 = (0 : Int32) from by decide), wbr_F, wdT (show nI 1 = (1 : Int32) from rfl), wbr_T]
  simp (disch := omega) only [wgd_T, wbq, wbr_T, nI_add, wgB, nI_clamp, gT_mk_16, gT_mk_137, q1, q2, eq_self, wd1, zc_self, li_0, li_1, li_2, li_3, li_4, li_5, li_6]
theorem lw_c2 (h : Iv f l R) (hX : X.1 ≤ 3072) (hi : i + 6 ≤ X.1) (hj : X.2 i &&& (63 : Int32) = nI 2) : LwS X i f l R := by
  obtain ⟨r, f1, l1, R1, f2, l2, q1, q2, q3⟩ := op_set (X.2 (i + 1)) (X.2 (i + 2)) (X.2 (i + 3)) f l R h
  refine ⟨f2, l2, R1, q3, fun K => ?_⟩
  obtain ⟨d0, g0, c0⟩ := lw_0 hX hi
  unfold fn_Law_law_L18
  rw [d0, wbr_F, g0, wgd_T, c0, hj, wdF (show ¬ nI 2 = (0 : Int32) from by decide), wbr_F, wdF (show ¬ nI 2 = (1 : Int32) from by decide), wbr_F, wdT (show nI 2 = (2 : Int32) from rfl), wbr_T]
  simp (disch := omega) only [wgd_T, wbq, wbr_T, nI_add, wgB, nI_clamp, gT_mk_16, gT_mk_137, q1, q2, eq_self, wd1, zc_self, li_0, li_1, li_2, li_3, li_4, li_5, li_6]
theorem lw_c3 (h : Iv f l R) (hX : X.1 ≤ 3072) (hi : i + 6 ≤ X.1) (hj : X.2 i &&& (63 : Int32) = nI 3) : LwS X i f l R := by
  obtain ⟨r, f1, l1, R1, f2, l2, q1, q2, q3⟩ := op_peg (X.2 (i + 1)) (X.2 (i + 2)) f l R h
  refine ⟨f2, l2, R1, q3, fun K => ?_⟩
  obtain ⟨d0, g0, c0⟩ := lw_0 hX hi
  unfold fn_Law_law_L18
  rw [d0, wbr_F, g0, wgd_T, c0, hj, wdF (show ¬ nI 3 = (0 : Int32) from by decide), wbr_F, wdF (show ¬ nI 3 = (1 : Int32) from by decide), wbr_F, wdF (show ¬ nI 3 = (2 : Int32) from by decide), wbr_F, wdT (show nI 3 = (3 : Int32) from rfl), wbr_T]
  simp (disch := omega) only [wgd_T, wbq, wbr_T, nI_add, wgB, nI_clamp, gT_mk_16, gT_mk_137, q1, q2, eq_self, wd1, zc_self, li_0, li_1, li_2, li_3, li_4, li_5, li_6]
theorem lw_c4 (h : Iv f l R) (hX : X.1 ≤ 3072) (hi : i + 6 ≤ X.1) (hj : X.2 i &&& (63 : Int32) = nI 4) : LwS X i f l R := by
  obtain ⟨r, f1, l1, R1, f2, l2, q1, q2, q3⟩ := op_novice (X.2 (i + 1)) (X.2 (i + 2)) (X.2 (i + 3)) f l R h
  refine ⟨f2, l2, R1, q3, fun K => ?_⟩
  obtain ⟨d0, g0, c0⟩ := lw_0 hX hi
  unfold fn_Law_law_L18
  rw [d0, wbr_F, g0, wgd_T, c0, hj, wdF (show ¬ nI 4 = (0 : Int32) from by decide), wbr_F, wdF (show ¬ nI 4 = (1 : Int32) from by decide), wbr_F, wdF (show ¬ nI 4 = (2 : Int32) from by decide), wbr_F, wdF (show ¬ nI 4 = (3 : Int32) from by decide), wbr_F, wdT (show nI 4 = (4 : Int32) from rfl), wbr_T]
  simp (disch := omega) only [wgd_T, wbq, wbr_T, nI_add, wgB, nI_clamp, gT_mk_16, gT_mk_137, q1, q2, eq_self, wd1, zc_self, li_0, li_1, li_2, li_3, li_4, li_5, li_6]
theorem lw_c5 (h : Iv f l R) (hX : X.1 ≤ 3072) (hi : i + 6 ≤ X.1) (hj : X.2 i &&& (63 : Int32) = nI 5) : LwS X i f l R := by
  obtain ⟨r, f1, l1, R1, f2, l2, q1, q2, q3⟩ := op_use (X.2 (i + 1)) (X.2 (i + 2)) f l R h
  refine ⟨f2, l2, R1, q3, fun K => ?_⟩
  obtain ⟨d0, g0, c0⟩ := lw_0 hX hi
  unfold fn_Law_law_L18
  rw [d0, wbr_F, g0, wgd_T, c0, hj, wdF (show ¬ nI 5 = (0 : Int32) from by decide), wbr_F, wdF (show ¬ nI 5 = (1 : Int32) from by decide), wbr_F, wdF (show ¬ nI 5 = (2 : Int32) from by decide), wbr_F, wdF (show ¬ nI 5 = (3 : Int32) from by decide), wbr_F, wdF (show ¬ nI 5 = (4 : Int32) from by decide), wbr_F, wdT (show nI 5 = (5 : Int32) from rfl), wbr_T]
  simp (disch := omega) only [wgd_T, wbq, wbr_T, nI_add, wgB, nI_clamp, gT_mk_16, gT_mk_137, q1, q2, eq_self, wd1, zc_self, li_0, li_1, li_2, li_3, li_4, li_5, li_6]
theorem lw_c6 (h : Iv f l R) (hX : X.1 ≤ 3072) (hi : i + 6 ≤ X.1) (hj : X.2 i &&& (63 : Int32) = nI 6) : LwS X i f l R := by
  obtain ⟨r, f1, l1, R1, f2, l2, q1, q2, q3⟩ := op_row (X.2 (i + 1)) (X.2 (i + 2)) (X.2 (i + 3)) f l R h
  refine ⟨f2, l2, R1, q3, fun K => ?_⟩
  obtain ⟨d0, g0, c0⟩ := lw_0 hX hi
  unfold fn_Law_law_L18
  rw [d0, wbr_F, g0, wgd_T, c0, hj, wdF (show ¬ nI 6 = (0 : Int32) from by decide), wbr_F, wdF (show ¬ nI 6 = (1 : Int32) from by decide), wbr_F, wdF (show ¬ nI 6 = (2 : Int32) from by decide), wbr_F, wdF (show ¬ nI 6 = (3 : Int32) from by decide), wbr_F, wdF (show ¬ nI 6 = (4 : Int32) from by decide), wbr_F, wdF (show ¬ nI 6 = (5 : Int32) from by decide), wbr_F, wdT (show nI 6 = (6 : Int32) from rfl), wbr_T]
  simp (disch := omega) only [wgd_T, wbq, wbr_T, nI_add, wgB, nI_clamp, gT_mk_16, gT_mk_137, q1, q2, eq_self, wd1, zc_self, li_0, li_1, li_2, li_3, li_4, li_5, li_6]
theorem lw_c7 (h : Iv f l R) (hX : X.1 ≤ 3072) (hi : i + 6 ≤ X.1) (hj : X.2 i &&& (63 : Int32) = nI 7) : LwS X i f l R := by
  obtain ⟨r, f1, l1, R1, f2, l2, q1, q2, q3⟩ := op_feed (X.2 (i + 1)) f l R h
  refine ⟨f2, l2, R1, q3, fun K => ?_⟩
  obtain ⟨d0, g0, c0⟩ := lw_0 hX hi
  unfold fn_Law_law_L18
  rw [d0, wbr_F, g0, wgd_T, c0, hj, wdF (show ¬ nI 7 = (0 : Int32) from by decide), wbr_F, wdF (show ¬ nI 7 = (1 : Int32) from by decide), wbr_F, wdF (show ¬ nI 7 = (2 : Int32) from by decide), wbr_F, wdF (show ¬ nI 7 = (3 : Int32) from by decide), wbr_F, wdF (show ¬ nI 7 = (4 : Int32) from by decide), wbr_F, wdF (show ¬ nI 7 = (5 : Int32) from by decide), wbr_F, wdF (show ¬ nI 7 = (6 : Int32) from by decide), wbr_F, wdT (show nI 7 = (7 : Int32) from rfl), wbr_T]
  simp (disch := omega) only [wgd_T, wbq, wbr_T, nI_add, wgB, nI_clamp, gT_mk_16, gT_mk_137, q1, q2, eq_self, wd1, zc_self, li_0, li_1, li_2, li_3, li_4, li_5, li_6]
theorem lw_c8 (h : Iv f l R) (hX : X.1 ≤ 3072) (hi : i + 6 ≤ X.1) (hj : X.2 i &&& (63 : Int32) = nI 8) : LwS X i f l R := by
  obtain ⟨r, f1, l1, R1, f2, l2, q1, q2, q3⟩ := op_order f l R h
  refine ⟨f2, l2, R1, q3, fun K => ?_⟩
  obtain ⟨d0, g0, c0⟩ := lw_0 hX hi
  unfold fn_Law_law_L18
  rw [d0, wbr_F, g0, wgd_T, c0, hj, wdF (show ¬ nI 8 = (0 : Int32) from by decide), wbr_F, wdF (show ¬ nI 8 = (1 : Int32) from by decide), wbr_F, wdF (show ¬ nI 8 = (2 : Int32) from by decide), wbr_F, wdF (show ¬ nI 8 = (3 : Int32) from by decide), wbr_F, wdF (show ¬ nI 8 = (4 : Int32) from by decide), wbr_F, wdF (show ¬ nI 8 = (5 : Int32) from by decide), wbr_F, wdF (show ¬ nI 8 = (6 : Int32) from by decide), wbr_F, wdF (show ¬ nI 8 = (7 : Int32) from by decide), wbr_F, wdT (show nI 8 = (8 : Int32) from rfl), wbr_T]
  simp (disch := omega) only [wgd_T, wbq, wbr_T, nI_add, wgB, nI_clamp, gT_mk_16, gT_mk_137, q1, q2, eq_self, wd1, zc_self, li_0, li_1, li_2, li_3, li_4, li_5, li_6]
theorem lw_c9 (h : Iv f l R) (hX : X.1 ≤ 3072) (hi : i + 6 ≤ X.1) (hj : X.2 i &&& (63 : Int32) = nI 9) : LwS X i f l R := by
  obtain ⟨r, f1, l1, R1, f2, l2, q1, q2, q3⟩ := op_told (X.2 (i + 1)) f l R h
  refine ⟨f2, l2, R1, q3, fun K => ?_⟩
  obtain ⟨d0, g0, c0⟩ := lw_0 hX hi
  unfold fn_Law_law_L18
  rw [d0, wbr_F, g0, wgd_T, c0, hj, wdF (show ¬ nI 9 = (0 : Int32) from by decide), wbr_F, wdF (show ¬ nI 9 = (1 : Int32) from by decide), wbr_F, wdF (show ¬ nI 9 = (2 : Int32) from by decide), wbr_F, wdF (show ¬ nI 9 = (3 : Int32) from by decide), wbr_F, wdF (show ¬ nI 9 = (4 : Int32) from by decide), wbr_F, wdF (show ¬ nI 9 = (5 : Int32) from by decide), wbr_F, wdF (show ¬ nI 9 = (6 : Int32) from by decide), wbr_F, wdF (show ¬ nI 9 = (7 : Int32) from by decide), wbr_F, wdF (show ¬ nI 9 = (8 : Int32) from by decide), wbr_F, wdT (show nI 9 = (9 : Int32) from rfl), wbr_T]
  simp (disch := omega) only [wgd_T, wbq, wbr_T, nI_add, wgB, nI_clamp, gT_mk_16, gT_mk_137, q1, q2, eq_self, wd1, zc_self, li_0, li_1, li_2, li_3, li_4, li_5, li_6]
theorem lw_c10 (h : Iv f l R) (hX : X.1 ≤ 3072) (hi : i + 6 ≤ X.1) (hj : X.2 i &&& (63 : Int32) = nI 10) : LwS X i f l R := by
  obtain ⟨r, f1, l1, R1, f2, l2, q1, q2, q3⟩ := op_pass (X.2 (i + 1)) f l R h
  refine ⟨f2, l2, R1, q3, fun K => ?_⟩
  obtain ⟨d0, g0, c0⟩ := lw_0 hX hi
  unfold fn_Law_law_L18
  rw [d0, wbr_F, g0, wgd_T, c0, hj, wdF (show ¬ nI 10 = (0 : Int32) from by decide), wbr_F, wdF (show ¬ nI 10 = (1 : Int32) from by decide), wbr_F, wdF (show ¬ nI 10 = (2 : Int32) from by decide), wbr_F, wdF (show ¬ nI 10 = (3 : Int32) from by decide), wbr_F, wdF (show ¬ nI 10 = (4 : Int32) from by decide), wbr_F, wdF (show ¬ nI 10 = (5 : Int32) from by decide), wbr_F, wdF (show ¬ nI 10 = (6 : Int32) from by decide), wbr_F, wdF (show ¬ nI 10 = (7 : Int32) from by decide), wbr_F, wdF (show ¬ nI 10 = (8 : Int32) from by decide), wbr_F, wdF (show ¬ nI 10 = (9 : Int32) from by decide), wbr_F, wdT (show nI 10 = (10 : Int32) from rfl), wbr_T]
  simp (disch := omega) only [wgd_T, wbq, wbr_T, nI_add, wgB, nI_clamp, gT_mk_16, gT_mk_137, q1, q2, eq_self, wd1, zc_self, li_0, li_1, li_2, li_3, li_4, li_5, li_6]
theorem lw_c11 (h : Iv f l R) (hX : X.1 ≤ 3072) (hi : i + 6 ≤ X.1) (hj : X.2 i &&& (63 : Int32) = nI 11) : LwS X i f l R := by
  obtain ⟨r, f1, l1, R1, f2, l2, q1, q2, q3⟩ := op_on (X.2 (i + 1)) (X.2 (i + 2)) f l R h
  refine ⟨f2, l2, R1, q3, fun K => ?_⟩
  obtain ⟨d0, g0, c0⟩ := lw_0 hX hi
  unfold fn_Law_law_L18
  rw [d0, wbr_F, g0, wgd_T, c0, hj, wdF (show ¬ nI 11 = (0 : Int32) from by decide), wbr_F, wdF (show ¬ nI 11 = (1 : Int32) from by decide), wbr_F, wdF (show ¬ nI 11 = (2 : Int32) from by decide), wbr_F, wdF (show ¬ nI 11 = (3 : Int32) from by decide), wbr_F, wdF (show ¬ nI 11 = (4 : Int32) from by decide), wbr_F, wdF (show ¬ nI 11 = (5 : Int32) from by decide), wbr_F, wdF (show ¬ nI 11 = (6 : Int32) from by decide), wbr_F, wdF (show ¬ nI 11 = (7 : Int32) from by decide), wbr_F, wdF (show ¬ nI 11 = (8 : Int32) from by decide), wbr_F, wdF (show ¬ nI 11 = (9 : Int32) from by decide), wbr_F, wdF (show ¬ nI 11 = (10 : Int32) from by decide), wbr_F, wdT (show nI 11 = (11 : Int32) from rfl), wbr_T]
  simp (disch := omega) only [wgd_T, wbq, wbr_T, nI_add, wgB, nI_clamp, gT_mk_16, gT_mk_137, q1, q2, eq_self, wd1, zc_self, li_0, li_1, li_2, li_3, li_4, li_5, li_6]
theorem lw_c12 (h : Iv f l R) (hX : X.1 ≤ 3072) (hi : i + 6 ≤ X.1) (hj : X.2 i &&& (63 : Int32) = nI 12) : LwS X i f l R := by
  obtain ⟨r, f1, l1, R1, f2, l2, q1, q2, q3⟩ := op_shared (X.2 (i + 1)) f l R h
  refine ⟨f2, l2, R1, q3, fun K => ?_⟩
  obtain ⟨d0, g0, c0⟩ := lw_0 hX hi
  unfold fn_Law_law_L18
  rw [d0, wbr_F, g0, wgd_T, c0, hj, wdF (show ¬ nI 12 = (0 : Int32) from by decide), wbr_F, wdF (show ¬ nI 12 = (1 : Int32) from by decide), wbr_F, wdF (show ¬ nI 12 = (2 : Int32) from by decide), wbr_F, wdF (show ¬ nI 12 = (3 : Int32) from by decide), wbr_F, wdF (show ¬ nI 12 = (4 : Int32) from by decide), wbr_F, wdF (show ¬ nI 12 = (5 : Int32) from by decide), wbr_F, wdF (show ¬ nI 12 = (6 : Int32) from by decide), wbr_F, wdF (show ¬ nI 12 = (7 : Int32) from by decide), wbr_F, wdF (show ¬ nI 12 = (8 : Int32) from by decide), wbr_F, wdF (show ¬ nI 12 = (9 : Int32) from by decide), wbr_F, wdF (show ¬ nI 12 = (10 : Int32) from by decide), wbr_F, wdF (show ¬ nI 12 = (11 : Int32) from by decide), wbr_F, wdT (show nI 12 = (12 : Int32) from rfl), wbr_T]
  simp (disch := omega) only [wgd_T, wbq, wbr_T, nI_add, wgB, nI_clamp, gT_mk_16, gT_mk_137, q1, q2, eq_self, wd1, zc_self, li_0, li_1, li_2, li_3, li_4, li_5, li_6]
theorem lw_c13 (h : Iv f l R) (hX : X.1 ≤ 3072) (hi : i + 6 ≤ X.1) (hj : X.2 i &&& (63 : Int32) = nI 13) : LwS X i f l R := by
  obtain ⟨r, f1, l1, R1, f2, l2, q1, q2, q3⟩ := op_scrubbed (X.2 (i + 1)) (X.2 (i + 2)) (X.2 (i + 3)) f l R h
  refine ⟨f2, l2, R1, q3, fun K => ?_⟩
  obtain ⟨d0, g0, c0⟩ := lw_0 hX hi
  unfold fn_Law_law_L18
  rw [d0, wbr_F, g0, wgd_T, c0, hj, wdF (show ¬ nI 13 = (0 : Int32) from by decide), wbr_F, wdF (show ¬ nI 13 = (1 : Int32) from by decide), wbr_F, wdF (show ¬ nI 13 = (2 : Int32) from by decide), wbr_F, wdF (show ¬ nI 13 = (3 : Int32) from by decide), wbr_F, wdF (show ¬ nI 13 = (4 : Int32) from by decide), wbr_F, wdF (show ¬ nI 13 = (5 : Int32) from by decide), wbr_F, wdF (show ¬ nI 13 = (6 : Int32) from by decide), wbr_F, wdF (show ¬ nI 13 = (7 : Int32) from by decide), wbr_F, wdF (show ¬ nI 13 = (8 : Int32) from by decide), wbr_F, wdF (show ¬ nI 13 = (9 : Int32) from by decide), wbr_F, wdF (show ¬ nI 13 = (10 : Int32) from by decide), wbr_F, wdF (show ¬ nI 13 = (11 : Int32) from by decide), wbr_F, wdF (show ¬ nI 13 = (12 : Int32) from by decide), wbr_F, wdT (show nI 13 = (13 : Int32) from rfl), wbr_T]
  simp (disch := omega) only [wgd_T, wbq, wbr_T, nI_add, wgB, nI_clamp, gT_mk_16, gT_mk_137, q1, q2, eq_self, wd1, zc_self, li_0, li_1, li_2, li_3, li_4, li_5, li_6]
theorem lw_c14 (h : Iv f l R) (hX : X.1 ≤ 3072) (hi : i + 6 ≤ X.1) (hj : X.2 i &&& (63 : Int32) = nI 14) : LwS X i f l R := by
  obtain ⟨r, f1, l1, R1, f2, l2, q1, q2, q3⟩ := op_see (X.2 (i + 1)) (X.2 (i + 2)) (X.2 (i + 3)) f l R h
  refine ⟨f2, l2, R1, q3, fun K => ?_⟩
  obtain ⟨d0, g0, c0⟩ := lw_0 hX hi
  unfold fn_Law_law_L18
  rw [d0, wbr_F, g0, wgd_T, c0, hj, wdF (show ¬ nI 14 = (0 : Int32) from by decide), wbr_F, wdF (show ¬ nI 14 = (1 : Int32) from by decide), wbr_F, wdF (show ¬ nI 14 = (2 : Int32) from by decide), wbr_F, wdF (show ¬ nI 14 = (3 : Int32) from by decide), wbr_F, wdF (show ¬ nI 14 = (4 : Int32) from by decide), wbr_F, wdF (show ¬ nI 14 = (5 : Int32) from by decide), wbr_F, wdF (show ¬ nI 14 = (6 : Int32) from by decide), wbr_F, wdF (show ¬ nI 14 = (7 : Int32) from by decide), wbr_F, wdF (show ¬ nI 14 = (8 : Int32) from by decide), wbr_F, wdF (show ¬ nI 14 = (9 : Int32) from by decide), wbr_F, wdF (show ¬ nI 14 = (10 : Int32) from by decide), wbr_F, wdF (show ¬ nI 14 = (11 : Int32) from by decide), wbr_F, wdF (show ¬ nI 14 = (12 : Int32) from by decide), wbr_F, wdF (show ¬ nI 14 = (13 : Int32) from by decide), wbr_F, wdT (show nI 14 = (14 : Int32) from rfl), wbr_T]
  simp (disch := omega) only [wgd_T, wbq, wbr_T, nI_add, wgB, nI_clamp, gT_mk_16, gT_mk_137, q1, q2, eq_self, wd1, zc_self, li_0, li_1, li_2, li_3, li_4, li_5, li_6]
theorem lw_c15 (h : Iv f l R) (hX : X.1 ≤ 3072) (hi : i + 6 ≤ X.1) (hj : X.2 i &&& (63 : Int32) = nI 15) : LwS X i f l R := by
  obtain ⟨r, f1, l1, R1, f2, l2, q1, q2, q3⟩ := op_holed (X.2 (i + 1)) (X.2 (i + 2)) f l R h
  refine ⟨f2, l2, R1, q3, fun K => ?_⟩
  obtain ⟨d0, g0, c0⟩ := lw_0 hX hi
  unfold fn_Law_law_L18
  rw [d0, wbr_F, g0, wgd_T, c0, hj, wdF (show ¬ nI 15 = (0 : Int32) from by decide), wbr_F, wdF (show ¬ nI 15 = (1 : Int32) from by decide), wbr_F, wdF (show ¬ nI 15 = (2 : Int32) from by decide), wbr_F, wdF (show ¬ nI 15 = (3 : Int32) from by decide), wbr_F, wdF (show ¬ nI 15 = (4 : Int32) from by decide), wbr_F, wdF (show ¬ nI 15 = (5 : Int32) from by decide), wbr_F, wdF (show ¬ nI 15 = (6 : Int32) from by decide), wbr_F, wdF (show ¬ nI 15 = (7 : Int32) from by decide), wbr_F, wdF (show ¬ nI 15 = (8 : Int32) from by decide), wbr_F, wdF (show ¬ nI 15 = (9 : Int32) from by decide), wbr_F, wdF (show ¬ nI 15 = (10 : Int32) from by decide), wbr_F, wdF (show ¬ nI 15 = (11 : Int32) from by decide), wbr_F, wdF (show ¬ nI 15 = (12 : Int32) from by decide), wbr_F, wdF (show ¬ nI 15 = (13 : Int32) from by decide), wbr_F, wdF (show ¬ nI 15 = (14 : Int32) from by decide), wbr_F, wdT (show nI 15 = (15 : Int32) from rfl), wbr_T]
  simp (disch := omega) only [wgd_T, wbq, wbr_T, nI_add, wgB, nI_clamp, gT_mk_16, gT_mk_137, q1, q2, eq_self, wd1, zc_self, li_0, li_1, li_2, li_3, li_4, li_5, li_6]
theorem lw_c16 (h : Iv f l R) (hX : X.1 ≤ 3072) (hi : i + 6 ≤ X.1) (hj : X.2 i &&& (63 : Int32) = nI 16) : LwS X i f l R := by
  obtain ⟨r, f1, l1, R1, f2, l2, q1, q2, q3⟩ := op_can (X.2 (i + 1)) (X.2 (i + 2)) f l R h
  refine ⟨f2, l2, R1, q3, fun K => ?_⟩
  obtain ⟨d0, g0, c0⟩ := lw_0 hX hi
  unfold fn_Law_law_L18
  rw [d0, wbr_F, g0, wgd_T, c0, hj, wdF (show ¬ nI 16 = (0 : Int32) from by decide), wbr_F, wdF (show ¬ nI 16 = (1 : Int32) from by decide), wbr_F, wdF (show ¬ nI 16 = (2 : Int32) from by decide), wbr_F, wdF (show ¬ nI 16 = (3 : Int32) from by decide), wbr_F, wdF (show ¬ nI 16 = (4 : Int32) from by decide), wbr_F, wdF (show ¬ nI 16 = (5 : Int32) from by decide), wbr_F, wdF (show ¬ nI 16 = (6 : Int32) from by decide), wbr_F, wdF (show ¬ nI 16 = (7 : Int32) from by decide), wbr_F, wdF (show ¬ nI 16 = (8 : Int32) from by decide), wbr_F, wdF (show ¬ nI 16 = (9 : Int32) from by decide), wbr_F, wdF (show ¬ nI 16 = (10 : Int32) from by decide), wbr_F, wdF (show ¬ nI 16 = (11 : Int32) from by decide), wbr_F, wdF (show ¬ nI 16 = (12 : Int32) from by decide), wbr_F, wdF (show ¬ nI 16 = (13 : Int32) from by decide), wbr_F, wdF (show ¬ nI 16 = (14 : Int32) from by decide), wbr_F, wdF (show ¬ nI 16 = (15 : Int32) from by decide), wbr_F, wdT (show nI 16 = (16 : Int32) from rfl), wbr_T]
  simp (disch := omega) only [wgd_T, wbq, wbr_T, nI_add, wgB, nI_clamp, gT_mk_16, gT_mk_137, q1, q2, eq_self, wd1, zc_self, li_0, li_1, li_2, li_3, li_4, li_5, li_6]
theorem lw_c17 (h : Iv f l R) (hX : X.1 ≤ 3072) (hi : i + 6 ≤ X.1) (hj : X.2 i &&& (63 : Int32) = nI 17) : LwS X i f l R := by
  obtain ⟨r, f1, l1, R1, f2, l2, q1, q2, q3⟩ := op_odds (X.2 (i + 1)) (X.2 (i + 2)) (X.2 (i + 3)) f l R h
  refine ⟨f2, l2, R1, q3, fun K => ?_⟩
  obtain ⟨d0, g0, c0⟩ := lw_0 hX hi
  unfold fn_Law_law_L18
  rw [d0, wbr_F, g0, wgd_T, c0, hj, wdF (show ¬ nI 17 = (0 : Int32) from by decide), wbr_F, wdF (show ¬ nI 17 = (1 : Int32) from by decide), wbr_F, wdF (show ¬ nI 17 = (2 : Int32) from by decide), wbr_F, wdF (show ¬ nI 17 = (3 : Int32) from by decide), wbr_F, wdF (show ¬ nI 17 = (4 : Int32) from by decide), wbr_F, wdF (show ¬ nI 17 = (5 : Int32) from by decide), wbr_F, wdF (show ¬ nI 17 = (6 : Int32) from by decide), wbr_F, wdF (show ¬ nI 17 = (7 : Int32) from by decide), wbr_F, wdF (show ¬ nI 17 = (8 : Int32) from by decide), wbr_F, wdF (show ¬ nI 17 = (9 : Int32) from by decide), wbr_F, wdF (show ¬ nI 17 = (10 : Int32) from by decide), wbr_F, wdF (show ¬ nI 17 = (11 : Int32) from by decide), wbr_F, wdF (show ¬ nI 17 = (12 : Int32) from by decide), wbr_F, wdF (show ¬ nI 17 = (13 : Int32) from by decide), wbr_F, wdF (show ¬ nI 17 = (14 : Int32) from by decide), wbr_F, wdF (show ¬ nI 17 = (15 : Int32) from by decide), wbr_F, wdF (show ¬ nI 17 = (16 : Int32) from by decide), wbr_F, wdT (show nI 17 = (17 : Int32) from rfl), wbr_T]
  simp (disch := omega) only [wgd_T, wbq, wbr_T, nI_add, wgB, nI_clamp, gT_mk_16, gT_mk_137, q1, q2, eq_self, wd1, zc_self, li_0, li_1, li_2, li_3, li_4, li_5, li_6]
theorem lw_c18 (h : Iv f l R) (hX : X.1 ≤ 3072) (hi : i + 6 ≤ X.1) (hj : X.2 i &&& (63 : Int32) = nI 18) : LwS X i f l R := by
  obtain ⟨r, f1, l1, R1, f2, l2, q1, q2, q3⟩ := op_mean (X.2 (i + 1)) (X.2 (i + 2)) f l R h
  refine ⟨f2, l2, R1, q3, fun K => ?_⟩
  obtain ⟨d0, g0, c0⟩ := lw_0 hX hi
  unfold fn_Law_law_L18
  rw [d0, wbr_F, g0, wgd_T, c0, hj, wdF (show ¬ nI 18 = (0 : Int32) from by decide), wbr_F, wdF (show ¬ nI 18 = (1 : Int32) from by decide), wbr_F, wdF (show ¬ nI 18 = (2 : Int32) from by decide), wbr_F, wdF (show ¬ nI 18 = (3 : Int32) from by decide), wbr_F, wdF (show ¬ nI 18 = (4 : Int32) from by decide), wbr_F, wdF (show ¬ nI 18 = (5 : Int32) from by decide), wbr_F, wdF (show ¬ nI 18 = (6 : Int32) from by decide), wbr_F, wdF (show ¬ nI 18 = (7 : Int32) from by decide), wbr_F, wdF (show ¬ nI 18 = (8 : Int32) from by decide), wbr_F, wdF (show ¬ nI 18 = (9 : Int32) from by decide), wbr_F, wdF (show ¬ nI 18 = (10 : Int32) from by decide), wbr_F, wdF (show ¬ nI 18 = (11 : Int32) from by decide), wbr_F, wdF (show ¬ nI 18 = (12 : Int32) from by decide), wbr_F, wdF (show ¬ nI 18 = (13 : Int32) from by decide), wbr_F, wdF (show ¬ nI 18 = (14 : Int32) from by decide), wbr_F, wdF (show ¬ nI 18 = (15 : Int32) from by decide), wbr_F, wdF (show ¬ nI 18 = (16 : Int32) from by decide), wbr_F, wdF (show ¬ nI 18 = (17 : Int32) from by decide), wbr_F, wdT (show nI 18 = (18 : Int32) from rfl), wbr_T]
  simp (disch := omega) only [wgd_T, wbq, wbr_T, nI_add, wgB, nI_clamp, gT_mk_16, gT_mk_137, q1, q2, eq_self, wd1, zc_self, li_0, li_1, li_2, li_3, li_4, li_5, li_6]
theorem lw_c19 (h : Iv f l R) (hX : X.1 ≤ 3072) (hi : i + 6 ≤ X.1) (hj : X.2 i &&& (63 : Int32) = nI 19) : LwS X i f l R := by
  obtain ⟨r, f1, l1, R1, f2, l2, q1, q2, q3⟩ := op_plan (X.2 (i + 1)) (X.2 (i + 2)) f l R h
  refine ⟨f2, l2, R1, q3, fun K => ?_⟩
  obtain ⟨d0, g0, c0⟩ := lw_0 hX hi
  unfold fn_Law_law_L18
  rw [d0, wbr_F, g0, wgd_T, c0, hj, wdF (show ¬ nI 19 = (0 : Int32) from by decide), wbr_F, wdF (show ¬ nI 19 = (1 : Int32) from by decide), wbr_F, wdF (show ¬ nI 19 = (2 : Int32) from by decide), wbr_F, wdF (show ¬ nI 19 = (3 : Int32) from by decide), wbr_F, wdF (show ¬ nI 19 = (4 : Int32) from by decide), wbr_F, wdF (show ¬ nI 19 = (5 : Int32) from by decide), wbr_F, wdF (show ¬ nI 19 = (6 : Int32) from by decide), wbr_F, wdF (show ¬ nI 19 = (7 : Int32) from by decide), wbr_F, wdF (show ¬ nI 19 = (8 : Int32) from by decide), wbr_F, wdF (show ¬ nI 19 = (9 : Int32) from by decide), wbr_F, wdF (show ¬ nI 19 = (10 : Int32) from by decide), wbr_F, wdF (show ¬ nI 19 = (11 : Int32) from by decide), wbr_F, wdF (show ¬ nI 19 = (12 : Int32) from by decide), wbr_F, wdF (show ¬ nI 19 = (13 : Int32) from by decide), wbr_F, wdF (show ¬ nI 19 = (14 : Int32) from by decide), wbr_F, wdF (show ¬ nI 19 = (15 : Int32) from by decide), wbr_F, wdF (show ¬ nI 19 = (16 : Int32) from by decide), wbr_F, wdF (show ¬ nI 19 = (17 : Int32) from by decide), wbr_F, wdF (show ¬ nI 19 = (18 : Int32) from by decide), wbr_F, wdT (show nI 19 = (19 : Int32) from rfl), wbr_T]
  simp (disch := omega) only [wgd_T, wbq, wbr_T, nI_add, wgB, nI_clamp, gT_mk_16, gT_mk_137, q1, q2, eq_self, wd1, zc_self, li_0, li_1, li_2, li_3, li_4, li_5, li_6]
theorem lw_c20 (h : Iv f l R) (hX : X.1 ≤ 3072) (hi : i + 6 ≤ X.1) (hj : X.2 i &&& (63 : Int32) = nI 20) : LwS X i f l R := by
  obtain ⟨r, f1, l1, R1, f2, l2, q1, q2, q3⟩ := op_ends (X.2 (i + 1)) f l R h
  refine ⟨f2, l2, R1, q3, fun K => ?_⟩
  obtain ⟨d0, g0, c0⟩ := lw_0 hX hi
  unfold fn_Law_law_L18
  rw [d0, wbr_F, g0, wgd_T, c0, hj, wdF (show ¬ nI 20 = (0 : Int32) from by decide), wbr_F, wdF (show ¬ nI 20 = (1 : Int32) from by decide), wbr_F, wdF (show ¬ nI 20 = (2 : Int32) from by decide), wbr_F, wdF (show ¬ nI 20 = (3 : Int32) from by decide), wbr_F, wdF (show ¬ nI 20 = (4 : Int32) from by decide), wbr_F, wdF (show ¬ nI 20 = (5 : Int32) from by decide), wbr_F, wdF (show ¬ nI 20 = (6 : Int32) from by decide), wbr_F, wdF (show ¬ nI 20 = (7 : Int32) from by decide), wbr_F, wdF (show ¬ nI 20 = (8 : Int32) from by decide), wbr_F, wdF (show ¬ nI 20 = (9 : Int32) from by decide), wbr_F, wdF (show ¬ nI 20 = (10 : Int32) from by decide), wbr_F, wdF (show ¬ nI 20 = (11 : Int32) from by decide), wbr_F, wdF (show ¬ nI 20 = (12 : Int32) from by decide), wbr_F, wdF (show ¬ nI 20 = (13 : Int32) from by decide), wbr_F, wdF (show ¬ nI 20 = (14 : Int32) from by decide), wbr_F, wdF (show ¬ nI 20 = (15 : Int32) from by decide), wbr_F, wdF (show ¬ nI 20 = (16 : Int32) from by decide), wbr_F, wdF (show ¬ nI 20 = (17 : Int32) from by decide), wbr_F, wdF (show ¬ nI 20 = (18 : Int32) from by decide), wbr_F, wdF (show ¬ nI 20 = (19 : Int32) from by decide), wbr_F, wdT (show nI 20 = (20 : Int32) from rfl), wbr_T]
  simp (disch := omega) only [wgd_T, wbq, wbr_T, nI_add, wgB, nI_clamp, gT_mk_16, gT_mk_137, q1, q2, eq_self, wd1, zc_self, li_0, li_1, li_2, li_3, li_4, li_5, li_6]
theorem lw_c21 (h : Iv f l R) (hX : X.1 ≤ 3072) (hi : i + 6 ≤ X.1) (hj : X.2 i &&& (63 : Int32) = nI 21) : LwS X i f l R := by
  obtain ⟨r, f1, l1, R1, f2, l2, q1, q2, q3⟩ := op_book (X.2 (i + 1)) (X.2 (i + 2)) f l R h
  refine ⟨f2, l2, R1, q3, fun K => ?_⟩
  obtain ⟨d0, g0, c0⟩ := lw_0 hX hi
  unfold fn_Law_law_L18
  rw [d0, wbr_F, g0, wgd_T, c0, hj, wdF (show ¬ nI 21 = (0 : Int32) from by decide), wbr_F, wdF (show ¬ nI 21 = (1 : Int32) from by decide), wbr_F, wdF (show ¬ nI 21 = (2 : Int32) from by decide), wbr_F, wdF (show ¬ nI 21 = (3 : Int32) from by decide), wbr_F, wdF (show ¬ nI 21 = (4 : Int32) from by decide), wbr_F, wdF (show ¬ nI 21 = (5 : Int32) from by decide), wbr_F, wdF (show ¬ nI 21 = (6 : Int32) from by decide), wbr_F, wdF (show ¬ nI 21 = (7 : Int32) from by decide), wbr_F, wdF (show ¬ nI 21 = (8 : Int32) from by decide), wbr_F, wdF (show ¬ nI 21 = (9 : Int32) from by decide), wbr_F, wdF (show ¬ nI 21 = (10 : Int32) from by decide), wbr_F, wdF (show ¬ nI 21 = (11 : Int32) from by decide), wbr_F, wdF (show ¬ nI 21 = (12 : Int32) from by decide), wbr_F, wdF (show ¬ nI 21 = (13 : Int32) from by decide), wbr_F, wdF (show ¬ nI 21 = (14 : Int32) from by decide), wbr_F, wdF (show ¬ nI 21 = (15 : Int32) from by decide), wbr_F, wdF (show ¬ nI 21 = (16 : Int32) from by decide), wbr_F, wdF (show ¬ nI 21 = (17 : Int32) from by decide), wbr_F, wdF (show ¬ nI 21 = (18 : Int32) from by decide), wbr_F, wdF (show ¬ nI 21 = (19 : Int32) from by decide), wbr_F, wdF (show ¬ nI 21 = (20 : Int32) from by decide), wbr_F, wdT (show nI 21 = (21 : Int32) from rfl), wbr_T]
  simp (disch := omega) only [wgd_T, wbq, wbr_T, nI_add, wgB, nI_clamp, gT_mk_16, gT_mk_137, q1, q2, eq_self, wd1, zc_self, li_0, li_1, li_2, li_3, li_4, li_5, li_6]
theorem lw_c22 (h : Iv f l R) (hX : X.1 ≤ 3072) (hi : i + 6 ≤ X.1) (hj : X.2 i &&& (63 : Int32) = nI 22) : LwS X i f l R := by
  obtain ⟨r, f1, l1, R1, f2, l2, q1, q2, q3⟩ := op_looked f l R h
  refine ⟨f2, l2, R1, q3, fun K => ?_⟩
  obtain ⟨d0, g0, c0⟩ := lw_0 hX hi
  unfold fn_Law_law_L18
  rw [d0, wbr_F, g0, wgd_T, c0, hj, wdF (show ¬ nI 22 = (0 : Int32) from by decide), wbr_F, wdF (show ¬ nI 22 = (1 : Int32) from by decide), wbr_F, wdF (show ¬ nI 22 = (2 : Int32) from by decide), wbr_F, wdF (show ¬ nI 22 = (3 : Int32) from by decide), wbr_F, wdF (show ¬ nI 22 = (4 : Int32) from by decide), wbr_F, wdF (show ¬ nI 22 = (5 : Int32) from by decide), wbr_F, wdF (show ¬ nI 22 = (6 : Int32) from by decide), wbr_F, wdF (show ¬ nI 22 = (7 : Int32) from by decide), wbr_F, wdF (show ¬ nI 22 = (8 : Int32) from by decide), wbr_F, wdF (show ¬ nI 22 = (9 : Int32) from by decide), wbr_F, wdF (show ¬ nI 22 = (10 : Int32) from by decide), wbr_F, wdF (show ¬ nI 22 = (11 : Int32) from by decide), wbr_F, wdF (show ¬ nI 22 = (12 : Int32) from by decide), wbr_F, wdF (show ¬ nI 22 = (13 : Int32) from by decide), wbr_F, wdF (show ¬ nI 22 = (14 : Int32) from by decide), wbr_F, wdF (show ¬ nI 22 = (15 : Int32) from by decide), wbr_F, wdF (show ¬ nI 22 = (16 : Int32) from by decide), wbr_F, wdF (show ¬ nI 22 = (17 : Int32) from by decide), wbr_F, wdF (show ¬ nI 22 = (18 : Int32) from by decide), wbr_F, wdF (show ¬ nI 22 = (19 : Int32) from by decide), wbr_F, wdF (show ¬ nI 22 = (20 : Int32) from by decide), wbr_F, wdF (show ¬ nI 22 = (21 : Int32) from by decide), wbr_F, wdT (show nI 22 = (22 : Int32) from rfl), wbr_T]
  simp (disch := omega) only [wgd_T, wbq, wbr_T, nI_add, wgB, nI_clamp, gT_mk_16, gT_mk_137, q1, q2, eq_self, wd1, zc_self, li_0, li_1, li_2, li_3, li_4, li_5, li_6]
theorem lw_c23 (h : Iv f l R) (hX : X.1 ≤ 3072) (hi : i + 6 ≤ X.1) (hj : X.2 i &&& (63 : Int32) = nI 23) : LwS X i f l R := by
  obtain ⟨r, f1, l1, R1, f2, l2, q1, q2, q3⟩ := op_judge (X.2 (i + 1)) (X.2 (i + 2)) f l R h
  refine ⟨f2, l2, R1, q3, fun K => ?_⟩
  obtain ⟨d0, g0, c0⟩ := lw_0 hX hi
  unfold fn_Law_law_L18
  rw [d0, wbr_F, g0, wgd_T, c0, hj, wdF (show ¬ nI 23 = (0 : Int32) from by decide), wbr_F, wdF (show ¬ nI 23 = (1 : Int32) from by decide), wbr_F, wdF (show ¬ nI 23 = (2 : Int32) from by decide), wbr_F, wdF (show ¬ nI 23 = (3 : Int32) from by decide), wbr_F, wdF (show ¬ nI 23 = (4 : Int32) from by decide), wbr_F, wdF (show ¬ nI 23 = (5 : Int32) from by decide), wbr_F, wdF (show ¬ nI 23 = (6 : Int32) from by decide), wbr_F, wdF (show ¬ nI 23 = (7 : Int32) from by decide), wbr_F, wdF (show ¬ nI 23 = (8 : Int32) from by decide), wbr_F, wdF (show ¬ nI 23 = (9 : Int32) from by decide), wbr_F, wdF (show ¬ nI 23 = (10 : Int32) from by decide), wbr_F, wdF (show ¬ nI 23 = (11 : Int32) from by decide), wbr_F, wdF (show ¬ nI 23 = (12 : Int32) from by decide), wbr_F, wdF (show ¬ nI 23 = (13 : Int32) from by decide), wbr_F, wdF (show ¬ nI 23 = (14 : Int32) from by decide), wbr_F, wdF (show ¬ nI 23 = (15 : Int32) from by decide), wbr_F, wdF (show ¬ nI 23 = (16 : Int32) from by decide), wbr_F, wdF (show ¬ nI 23 = (17 : Int32) from by decide), wbr_F, wdF (show ¬ nI 23 = (18 : Int32) from by decide), wbr_F, wdF (show ¬ nI 23 = (19 : Int32) from by decide), wbr_F, wdF (show ¬ nI 23 = (20 : Int32) from by decide), wbr_F, wdF (show ¬ nI 23 = (21 : Int32) from by decide), wbr_F, wdF (show ¬ nI 23 = (22 : Int32) from by decide), wbr_F, wdT (show nI 23 = (23 : Int32) from rfl), wbr_T]
  simp (disch := omega) only [wgd_T, wbq, wbr_T, nI_add, wgB, nI_clamp, gT_mk_16, gT_mk_137, q1, q2, eq_self, wd1, zc_self, li_0, li_1, li_2, li_3, li_4, li_5, li_6]
theorem lw_c24 (h : Iv f l R) (hX : X.1 ≤ 3072) (hi : i + 6 ≤ X.1) (hj : X.2 i &&& (63 : Int32) = nI 24) : LwS X i f l R := by
  obtain ⟨r, f1, l1, R1, f2, l2, q1, q2, q3⟩ := op_image f l R h
  refine ⟨f2, l2, R1, q3, fun K => ?_⟩
  obtain ⟨d0, g0, c0⟩ := lw_0 hX hi
  unfold fn_Law_law_L18
  rw [d0, wbr_F, g0, wgd_T, c0, hj, wdF (show ¬ nI 24 = (0 : Int32) from by decide), wbr_F, wdF (show ¬ nI 24 = (1 : Int32) from by decide), wbr_F, wdF (show ¬ nI 24 = (2 : Int32) from by decide), wbr_F, wdF (show ¬ nI 24 = (3 : Int32) from by decide), wbr_F, wdF (show ¬ nI 24 = (4 : Int32) from by decide), wbr_F, wdF (show ¬ nI 24 = (5 : Int32) from by decide), wbr_F, wdF (show ¬ nI 24 = (6 : Int32) from by decide), wbr_F, wdF (show ¬ nI 24 = (7 : Int32) from by decide), wbr_F, wdF (show ¬ nI 24 = (8 : Int32) from by decide), wbr_F, wdF (show ¬ nI 24 = (9 : Int32) from by decide), wbr_F, wdF (show ¬ nI 24 = (10 : Int32) from by decide), wbr_F, wdF (show ¬ nI 24 = (11 : Int32) from by decide), wbr_F, wdF (show ¬ nI 24 = (12 : Int32) from by decide), wbr_F, wdF (show ¬ nI 24 = (13 : Int32) from by decide), wbr_F, wdF (show ¬ nI 24 = (14 : Int32) from by decide), wbr_F, wdF (show ¬ nI 24 = (15 : Int32) from by decide), wbr_F, wdF (show ¬ nI 24 = (16 : Int32) from by decide), wbr_F, wdF (show ¬ nI 24 = (17 : Int32) from by decide), wbr_F, wdF (show ¬ nI 24 = (18 : Int32) from by decide), wbr_F, wdF (show ¬ nI 24 = (19 : Int32) from by decide), wbr_F, wdF (show ¬ nI 24 = (20 : Int32) from by decide), wbr_F, wdF (show ¬ nI 24 = (21 : Int32) from by decide), wbr_F, wdF (show ¬ nI 24 = (22 : Int32) from by decide), wbr_F, wdF (show ¬ nI 24 = (23 : Int32) from by decide), wbr_F, wdT (show nI 24 = (24 : Int32) from rfl), wbr_T]
  simp (disch := omega) only [wgd_T, wbq, wbr_T, nI_add, wgB, nI_clamp, gT_mk_16, gT_mk_137, q1, q2, eq_self, wd1, zc_self, li_0, li_1, li_2, li_3, li_4, li_5, li_6]
theorem lw_c25 (h : Iv f l R) (hX : X.1 ≤ 3072) (hi : i + 6 ≤ X.1) (hj : X.2 i &&& (63 : Int32) = nI 25) : LwS X i f l R := by
  obtain ⟨r, f1, l1, R1, f2, l2, q1, q2, q3⟩ := op_undo f l R h
  refine ⟨f2, l2, R1, q3, fun K => ?_⟩
  obtain ⟨d0, g0, c0⟩ := lw_0 hX hi
  unfold fn_Law_law_L18
  rw [d0, wbr_F, g0, wgd_T, c0, hj, wdF (show ¬ nI 25 = (0 : Int32) from by decide), wbr_F, wdF (show ¬ nI 25 = (1 : Int32) from by decide), wbr_F, wdF (show ¬ nI 25 = (2 : Int32) from by decide), wbr_F, wdF (show ¬ nI 25 = (3 : Int32) from by decide), wbr_F, wdF (show ¬ nI 25 = (4 : Int32) from by decide), wbr_F, wdF (show ¬ nI 25 = (5 : Int32) from by decide), wbr_F, wdF (show ¬ nI 25 = (6 : Int32) from by decide), wbr_F, wdF (show ¬ nI 25 = (7 : Int32) from by decide), wbr_F, wdF (show ¬ nI 25 = (8 : Int32) from by decide), wbr_F, wdF (show ¬ nI 25 = (9 : Int32) from by decide), wbr_F, wdF (show ¬ nI 25 = (10 : Int32) from by decide), wbr_F, wdF (show ¬ nI 25 = (11 : Int32) from by decide), wbr_F, wdF (show ¬ nI 25 = (12 : Int32) from by decide), wbr_F, wdF (show ¬ nI 25 = (13 : Int32) from by decide), wbr_F, wdF (show ¬ nI 25 = (14 : Int32) from by decide), wbr_F, wdF (show ¬ nI 25 = (15 : Int32) from by decide), wbr_F, wdF (show ¬ nI 25 = (16 : Int32) from by decide), wbr_F, wdF (show ¬ nI 25 = (17 : Int32) from by decide), wbr_F, wdF (show ¬ nI 25 = (18 : Int32) from by decide), wbr_F, wdF (show ¬ nI 25 = (19 : Int32) from by decide), wbr_F, wdF (show ¬ nI 25 = (20 : Int32) from by decide), wbr_F, wdF (show ¬ nI 25 = (21 : Int32) from by decide), wbr_F, wdF (show ¬ nI 25 = (22 : Int32) from by decide), wbr_F, wdF (show ¬ nI 25 = (23 : Int32) from by decide), wbr_F, wdF (show ¬ nI 25 = (24 : Int32) from by decide), wbr_F, wdT (show nI 25 = (25 : Int32) from rfl), wbr_T]
  simp (disch := omega) only [wgd_T, wbq, wbr_T, nI_add, wgB, nI_clamp, gT_mk_16, gT_mk_137, q1, q2, eq_self, wd1, zc_self, li_0, li_1, li_2, li_3, li_4, li_5, li_6]
theorem lw_c26 (h : Iv f l R) (hX : X.1 ≤ 3072) (hi : i + 6 ≤ X.1) (hj : X.2 i &&& (63 : Int32) = nI 26) : LwS X i f l R := by
  obtain ⟨r, f1, l1, R1, f2, l2, q1, q2, q3⟩ := op_act (X.2 (i + 1)) (X.2 (i + 2)) (X.2 (i + 3)) f l R h
  refine ⟨f2, l2, R1, q3, fun K => ?_⟩
  obtain ⟨d0, g0, c0⟩ := lw_0 hX hi
  unfold fn_Law_law_L18
  rw [d0, wbr_F, g0, wgd_T, c0, hj, wdF (show ¬ nI 26 = (0 : Int32) from by decide), wbr_F, wdF (show ¬ nI 26 = (1 : Int32) from by decide), wbr_F, wdF (show ¬ nI 26 = (2 : Int32) from by decide), wbr_F, wdF (show ¬ nI 26 = (3 : Int32) from by decide), wbr_F, wdF (show ¬ nI 26 = (4 : Int32) from by decide), wbr_F, wdF (show ¬ nI 26 = (5 : Int32) from by decide), wbr_F, wdF (show ¬ nI 26 = (6 : Int32) from by decide), wbr_F, wdF (show ¬ nI 26 = (7 : Int32) from by decide), wbr_F, wdF (show ¬ nI 26 = (8 : Int32) from by decide), wbr_F, wdF (show ¬ nI 26 = (9 : Int32) from by decide), wbr_F, wdF (show ¬ nI 26 = (10 : Int32) from by decide), wbr_F, wdF (show ¬ nI 26 = (11 : Int32) from by decide), wbr_F, wdF (show ¬ nI 26 = (12 : Int32) from by decide), wbr_F, wdF (show ¬ nI 26 = (13 : Int32) from by decide), wbr_F, wdF (show ¬ nI 26 = (14 : Int32) from by decide), wbr_F, wdF (show ¬ nI 26 = (15 : Int32) from by decide), wbr_F, wdF (show ¬ nI 26 = (16 : Int32) from by decide), wbr_F, wdF (show ¬ nI 26 = (17 : Int32) from by decide), wbr_F, wdF (show ¬ nI 26 = (18 : Int32) from by decide), wbr_F, wdF (show ¬ nI 26 = (19 : Int32) from by decide), wbr_F, wdF (show ¬ nI 26 = (20 : Int32) from by decide), wbr_F, wdF (show ¬ nI 26 = (21 : Int32) from by decide), wbr_F, wdF (show ¬ nI 26 = (22 : Int32) from by decide), wbr_F, wdF (show ¬ nI 26 = (23 : Int32) from by decide), wbr_F, wdF (show ¬ nI 26 = (24 : Int32) from by decide), wbr_F, wdF (show ¬ nI 26 = (25 : Int32) from by decide), wbr_F, wdT (show nI 26 = (26 : Int32) from rfl), wbr_T]
  simp (disch := omega) only [wgd_T, wbq, wbr_T, nI_add, wgB, nI_clamp, gT_mk_16, gT_mk_137, q1, q2, eq_self, wd1, zc_self, li_0, li_1, li_2, li_3, li_4, li_5, li_6]
theorem lw_c27 (h : Iv f l R) (hX : X.1 ≤ 3072) (hi : i + 6 ≤ X.1) (hj : X.2 i &&& (63 : Int32) = nI 27) : LwS X i f l R := by
  obtain ⟨r, f1, l1, R1, f2, l2, q1, q2, q3⟩ := op_trace (X.2 (i + 1)) f l R h
  refine ⟨f2, l2, R1, q3, fun K => ?_⟩
  obtain ⟨d0, g0, c0⟩ := lw_0 hX hi
  unfold fn_Law_law_L18
  rw [d0, wbr_F, g0, wgd_T, c0, hj, wdF (show ¬ nI 27 = (0 : Int32) from by decide), wbr_F, wdF (show ¬ nI 27 = (1 : Int32) from by decide), wbr_F, wdF (show ¬ nI 27 = (2 : Int32) from by decide), wbr_F, wdF (show ¬ nI 27 = (3 : Int32) from by decide), wbr_F, wdF (show ¬ nI 27 = (4 : Int32) from by decide), wbr_F, wdF (show ¬ nI 27 = (5 : Int32) from by decide), wbr_F, wdF (show ¬ nI 27 = (6 : Int32) from by decide), wbr_F, wdF (show ¬ nI 27 = (7 : Int32) from by decide), wbr_F, wdF (show ¬ nI 27 = (8 : Int32) from by decide), wbr_F, wdF (show ¬ nI 27 = (9 : Int32) from by decide), wbr_F, wdF (show ¬ nI 27 = (10 : Int32) from by decide), wbr_F, wdF (show ¬ nI 27 = (11 : Int32) from by decide), wbr_F, wdF (show ¬ nI 27 = (12 : Int32) from by decide), wbr_F, wdF (show ¬ nI 27 = (13 : Int32) from by decide), wbr_F, wdF (show ¬ nI 27 = (14 : Int32) from by decide), wbr_F, wdF (show ¬ nI 27 = (15 : Int32) from by decide), wbr_F, wdF (show ¬ nI 27 = (16 : Int32) from by decide), wbr_F, wdF (show ¬ nI 27 = (17 : Int32) from by decide), wbr_F, wdF (show ¬ nI 27 = (18 : Int32) from by decide), wbr_F, wdF (show ¬ nI 27 = (19 : Int32) from by decide), wbr_F, wdF (show ¬ nI 27 = (20 : Int32) from by decide), wbr_F, wdF (show ¬ nI 27 = (21 : Int32) from by decide), wbr_F, wdF (show ¬ nI 27 = (22 : Int32) from by decide), wbr_F, wdF (show ¬ nI 27 = (23 : Int32) from by decide), wbr_F, wdF (show ¬ nI 27 = (24 : Int32) from by decide), wbr_F, wdF (show ¬ nI 27 = (25 : Int32) from by decide), wbr_F, wdF (show ¬ nI 27 = (26 : Int32) from by decide), wbr_F, wdT (show nI 27 = (27 : Int32) from rfl), wbr_T]
  simp (disch := omega) only [wgd_T, wbq, wbr_T, nI_add, wgB, nI_clamp, gT_mk_16, gT_mk_137, q1, q2, eq_self, wd1, zc_self, li_0, li_1, li_2, li_3, li_4, li_5, li_6]
theorem lw_c28 (h : Iv f l R) (hX : X.1 ≤ 3072) (hi : i + 6 ≤ X.1) (hj : X.2 i &&& (63 : Int32) = nI 28) : LwS X i f l R := by
  obtain ⟨r, f1, l1, R1, f2, l2, q1, q2, q3⟩ := op_taken (X.2 (i + 1)) (X.2 (i + 2)) f l R h
  refine ⟨f2, l2, R1, q3, fun K => ?_⟩
  obtain ⟨d0, g0, c0⟩ := lw_0 hX hi
  unfold fn_Law_law_L18
  rw [d0, wbr_F, g0, wgd_T, c0, hj, wdF (show ¬ nI 28 = (0 : Int32) from by decide), wbr_F, wdF (show ¬ nI 28 = (1 : Int32) from by decide), wbr_F, wdF (show ¬ nI 28 = (2 : Int32) from by decide), wbr_F, wdF (show ¬ nI 28 = (3 : Int32) from by decide), wbr_F, wdF (show ¬ nI 28 = (4 : Int32) from by decide), wbr_F, wdF (show ¬ nI 28 = (5 : Int32) from by decide), wbr_F, wdF (show ¬ nI 28 = (6 : Int32) from by decide), wbr_F, wdF (show ¬ nI 28 = (7 : Int32) from by decide), wbr_F, wdF (show ¬ nI 28 = (8 : Int32) from by decide), wbr_F, wdF (show ¬ nI 28 = (9 : Int32) from by decide), wbr_F, wdF (show ¬ nI 28 = (10 : Int32) from by decide), wbr_F, wdF (show ¬ nI 28 = (11 : Int32) from by decide), wbr_F, wdF (show ¬ nI 28 = (12 : Int32) from by decide), wbr_F, wdF (show ¬ nI 28 = (13 : Int32) from by decide), wbr_F, wdF (show ¬ nI 28 = (14 : Int32) from by decide), wbr_F, wdF (show ¬ nI 28 = (15 : Int32) from by decide), wbr_F, wdF (show ¬ nI 28 = (16 : Int32) from by decide), wbr_F, wdF (show ¬ nI 28 = (17 : Int32) from by decide), wbr_F, wdF (show ¬ nI 28 = (18 : Int32) from by decide), wbr_F, wdF (show ¬ nI 28 = (19 : Int32) from by decide), wbr_F, wdF (show ¬ nI 28 = (20 : Int32) from by decide), wbr_F, wdF (show ¬ nI 28 = (21 : Int32) from by decide), wbr_F, wdF (show ¬ nI 28 = (22 : Int32) from by decide), wbr_F, wdF (show ¬ nI 28 = (23 : Int32) from by decide), wbr_F, wdF (show ¬ nI 28 = (24 : Int32) from by decide), wbr_F, wdF (show ¬ nI 28 = (25 : Int32) from by decide), wbr_F, wdF (show ¬ nI 28 = (26 : Int32) from by decide), wbr_F, wdF (show ¬ nI 28 = (27 : Int32) from by decide), wbr_F, wdT (show nI 28 = (28 : Int32) from rfl), wbr_T]
  simp (disch := omega) only [wgd_T, wbq, wbr_T, nI_add, wgB, nI_clamp, gT_mk_16, gT_mk_137, q1, q2, eq_self, wd1, zc_self, li_0, li_1, li_2, li_3, li_4, li_5, li_6]
theorem lw_c29 (h : Iv f l R) (hX : X.1 ≤ 3072) (hi : i + 6 ≤ X.1) (hj : X.2 i &&& (63 : Int32) = nI 29) : LwS X i f l R := by
  obtain ⟨r, f1, l1, R1, f2, l2, q1, q2, q3⟩ := op_count (X.2 (i + 1)) f l R h
  refine ⟨f2, l2, R1, q3, fun K => ?_⟩
  obtain ⟨d0, g0, c0⟩ := lw_0 hX hi
  unfold fn_Law_law_L18
  rw [d0, wbr_F, g0, wgd_T, c0, hj, wdF (show ¬ nI 29 = (0 : Int32) from by decide), wbr_F, wdF (show ¬ nI 29 = (1 : Int32) from by decide), wbr_F, wdF (show ¬ nI 29 = (2 : Int32) from by decide), wbr_F, wdF (show ¬ nI 29 = (3 : Int32) from by decide), wbr_F, wdF (show ¬ nI 29 = (4 : Int32) from by decide), wbr_F, wdF (show ¬ nI 29 = (5 : Int32) from by decide), wbr_F, wdF (show ¬ nI 29 = (6 : Int32) from by decide), wbr_F, wdF (show ¬ nI 29 = (7 : Int32) from by decide), wbr_F, wdF (show ¬ nI 29 = (8 : Int32) from by decide), wbr_F, wdF (show ¬ nI 29 = (9 : Int32) from by decide), wbr_F, wdF (show ¬ nI 29 = (10 : Int32) from by decide), wbr_F, wdF (show ¬ nI 29 = (11 : Int32) from by decide), wbr_F, wdF (show ¬ nI 29 = (12 : Int32) from by decide), wbr_F, wdF (show ¬ nI 29 = (13 : Int32) from by decide), wbr_F, wdF (show ¬ nI 29 = (14 : Int32) from by decide), wbr_F, wdF (show ¬ nI 29 = (15 : Int32) from by decide), wbr_F, wdF (show ¬ nI 29 = (16 : Int32) from by decide), wbr_F, wdF (show ¬ nI 29 = (17 : Int32) from by decide), wbr_F, wdF (show ¬ nI 29 = (18 : Int32) from by decide), wbr_F, wdF (show ¬ nI 29 = (19 : Int32) from by decide), wbr_F, wdF (show ¬ nI 29 = (20 : Int32) from by decide), wbr_F, wdF (show ¬ nI 29 = (21 : Int32) from by decide), wbr_F, wdF (show ¬ nI 29 = (22 : Int32) from by decide), wbr_F, wdF (show ¬ nI 29 = (23 : Int32) from by decide), wbr_F, wdF (show ¬ nI 29 = (24 : Int32) from by decide), wbr_F, wdF (show ¬ nI 29 = (25 : Int32) from by decide), wbr_F, wdF (show ¬ nI 29 = (26 : Int32) from by decide), wbr_F, wdF (show ¬ nI 29 = (27 : Int32) from by decide), wbr_F, wdF (show ¬ nI 29 = (28 : Int32) from by decide), wbr_F, wdT (show nI 29 = (29 : Int32) from rfl), wbr_T]
  simp (disch := omega) only [wgd_T, wbq, wbr_T, nI_add, wgB, nI_clamp, gT_mk_16, gT_mk_137, q1, q2, eq_self, wd1, zc_self, li_0, li_1, li_2, li_3, li_4, li_5, li_6]
theorem lw_c30 (h : Iv f l R) (hX : X.1 ≤ 3072) (hi : i + 6 ≤ X.1) (hj : X.2 i &&& (63 : Int32) = nI 30) : LwS X i f l R := by
  obtain ⟨r, f1, l1, R1, f2, l2, q1, q2, q3⟩ := op_tape (X.2 (i + 1)) (X.2 (i + 2)) (X.2 (i + 3)) f l R h
  refine ⟨f2, l2, R1, q3, fun K => ?_⟩
  obtain ⟨d0, g0, c0⟩ := lw_0 hX hi
  unfold fn_Law_law_L18
  rw [d0, wbr_F, g0, wgd_T, c0, hj, wdF (show ¬ nI 30 = (0 : Int32) from by decide), wbr_F, wdF (show ¬ nI 30 = (1 : Int32) from by decide), wbr_F, wdF (show ¬ nI 30 = (2 : Int32) from by decide), wbr_F, wdF (show ¬ nI 30 = (3 : Int32) from by decide), wbr_F, wdF (show ¬ nI 30 = (4 : Int32) from by decide), wbr_F, wdF (show ¬ nI 30 = (5 : Int32) from by decide), wbr_F, wdF (show ¬ nI 30 = (6 : Int32) from by decide), wbr_F, wdF (show ¬ nI 30 = (7 : Int32) from by decide), wbr_F, wdF (show ¬ nI 30 = (8 : Int32) from by decide), wbr_F, wdF (show ¬ nI 30 = (9 : Int32) from by decide), wbr_F, wdF (show ¬ nI 30 = (10 : Int32) from by decide), wbr_F, wdF (show ¬ nI 30 = (11 : Int32) from by decide), wbr_F, wdF (show ¬ nI 30 = (12 : Int32) from by decide), wbr_F, wdF (show ¬ nI 30 = (13 : Int32) from by decide), wbr_F, wdF (show ¬ nI 30 = (14 : Int32) from by decide), wbr_F, wdF (show ¬ nI 30 = (15 : Int32) from by decide), wbr_F, wdF (show ¬ nI 30 = (16 : Int32) from by decide), wbr_F, wdF (show ¬ nI 30 = (17 : Int32) from by decide), wbr_F, wdF (show ¬ nI 30 = (18 : Int32) from by decide), wbr_F, wdF (show ¬ nI 30 = (19 : Int32) from by decide), wbr_F, wdF (show ¬ nI 30 = (20 : Int32) from by decide), wbr_F, wdF (show ¬ nI 30 = (21 : Int32) from by decide), wbr_F, wdF (show ¬ nI 30 = (22 : Int32) from by decide), wbr_F, wdF (show ¬ nI 30 = (23 : Int32) from by decide), wbr_F, wdF (show ¬ nI 30 = (24 : Int32) from by decide), wbr_F, wdF (show ¬ nI 30 = (25 : Int32) from by decide), wbr_F, wdF (show ¬ nI 30 = (26 : Int32) from by decide), wbr_F, wdF (show ¬ nI 30 = (27 : Int32) from by decide), wbr_F, wdF (show ¬ nI 30 = (28 : Int32) from by decide), wbr_F, wdF (show ¬ nI 30 = (29 : Int32) from by decide), wbr_F, wdT (show nI 30 = (30 : Int32) from rfl), wbr_T]
  simp (disch := omega) only [wgd_T, wbq, wbr_T, nI_add, wgB, nI_clamp, gT_mk_16, gT_mk_137, q1, q2, eq_self, wd1, zc_self, li_0, li_1, li_2, li_3, li_4, li_5, li_6]
theorem lw_c31 (h : Iv f l R) (hX : X.1 ≤ 3072) (hi : i + 6 ≤ X.1) (hj : X.2 i &&& (63 : Int32) = nI 31) : LwS X i f l R := by
  obtain ⟨r, f1, l1, R1, f2, l2, q1, q2, q3⟩ := op_item (X.2 (i + 1)) (X.2 (i + 2)) (((X.2 (i + 3)).toInt64 <<< ((32 : Int32).toInt64 &&& 63)) ||| ((X.2 (i + 4)).toInt64 &&& (4294967295 : Int64))) f l R h
  refine ⟨f2, l2, R1, q3, fun K => ?_⟩
  obtain ⟨d0, g0, c0⟩ := lw_0 hX hi
  unfold fn_Law_law_L18
  rw [d0, wbr_F, g0, wgd_T, c0, hj, wdF (show ¬ nI 31 = (0 : Int32) from by decide), wbr_F, wdF (show ¬ nI 31 = (1 : Int32) from by decide), wbr_F, wdF (show ¬ nI 31 = (2 : Int32) from by decide), wbr_F, wdF (show ¬ nI 31 = (3 : Int32) from by decide), wbr_F, wdF (show ¬ nI 31 = (4 : Int32) from by decide), wbr_F, wdF (show ¬ nI 31 = (5 : Int32) from by decide), wbr_F, wdF (show ¬ nI 31 = (6 : Int32) from by decide), wbr_F, wdF (show ¬ nI 31 = (7 : Int32) from by decide), wbr_F, wdF (show ¬ nI 31 = (8 : Int32) from by decide), wbr_F, wdF (show ¬ nI 31 = (9 : Int32) from by decide), wbr_F, wdF (show ¬ nI 31 = (10 : Int32) from by decide), wbr_F, wdF (show ¬ nI 31 = (11 : Int32) from by decide), wbr_F, wdF (show ¬ nI 31 = (12 : Int32) from by decide), wbr_F, wdF (show ¬ nI 31 = (13 : Int32) from by decide), wbr_F, wdF (show ¬ nI 31 = (14 : Int32) from by decide), wbr_F, wdF (show ¬ nI 31 = (15 : Int32) from by decide), wbr_F, wdF (show ¬ nI 31 = (16 : Int32) from by decide), wbr_F, wdF (show ¬ nI 31 = (17 : Int32) from by decide), wbr_F, wdF (show ¬ nI 31 = (18 : Int32) from by decide), wbr_F, wdF (show ¬ nI 31 = (19 : Int32) from by decide), wbr_F, wdF (show ¬ nI 31 = (20 : Int32) from by decide), wbr_F, wdF (show ¬ nI 31 = (21 : Int32) from by decide), wbr_F, wdF (show ¬ nI 31 = (22 : Int32) from by decide), wbr_F, wdF (show ¬ nI 31 = (23 : Int32) from by decide), wbr_F, wdF (show ¬ nI 31 = (24 : Int32) from by decide), wbr_F, wdF (show ¬ nI 31 = (25 : Int32) from by decide), wbr_F, wdF (show ¬ nI 31 = (26 : Int32) from by decide), wbr_F, wdF (show ¬ nI 31 = (27 : Int32) from by decide), wbr_F, wdF (show ¬ nI 31 = (28 : Int32) from by decide), wbr_F, wdF (show ¬ nI 31 = (29 : Int32) from by decide), wbr_F, wdF (show ¬ nI 31 = (30 : Int32) from by decide), wbr_F, wdT (show nI 31 = (31 : Int32) from rfl), wbr_T]
  simp (disch := omega) only [wgd_T, wbq, wbr_T, nI_add, wgB, nI_clamp, gT_mk_16, gT_mk_137, q1, q2, eq_self, wd1, zc_self, li_0, li_1, li_2, li_3, li_4, li_5, li_6]
theorem lw_c32 (h : Iv f l R) (hX : X.1 ≤ 3072) (hi : i + 6 ≤ X.1) (hj : X.2 i &&& (63 : Int32) = nI 32) : LwS X i f l R := by
  obtain ⟨r, f1, l1, R1, f2, l2, q1, q2, q3⟩ := op_read (X.2 (i + 1)) (X.2 (i + 2)) f l R h
  refine ⟨f2, l2, R1, q3, fun K => ?_⟩
  obtain ⟨d0, g0, c0⟩ := lw_0 hX hi
  unfold fn_Law_law_L18
  rw [d0, wbr_F, g0, wgd_T, c0, hj, wdF (show ¬ nI 32 = (0 : Int32) from by decide), wbr_F, wdF (show ¬ nI 32 = (1 : Int32) from by decide), wbr_F, wdF (show ¬ nI 32 = (2 : Int32) from by decide), wbr_F, wdF (show ¬ nI 32 = (3 : Int32) from by decide), wbr_F, wdF (show ¬ nI 32 = (4 : Int32) from by decide), wbr_F, wdF (show ¬ nI 32 = (5 : Int32) from by decide), wbr_F, wdF (show ¬ nI 32 = (6 : Int32) from by decide), wbr_F, wdF (show ¬ nI 32 = (7 : Int32) from by decide), wbr_F, wdF (show ¬ nI 32 = (8 : Int32) from by decide), wbr_F, wdF (show ¬ nI 32 = (9 : Int32) from by decide), wbr_F, wdF (show ¬ nI 32 = (10 : Int32) from by decide), wbr_F, wdF (show ¬ nI 32 = (11 : Int32) from by decide), wbr_F, wdF (show ¬ nI 32 = (12 : Int32) from by decide), wbr_F, wdF (show ¬ nI 32 = (13 : Int32) from by decide), wbr_F, wdF (show ¬ nI 32 = (14 : Int32) from by decide), wbr_F, wdF (show ¬ nI 32 = (15 : Int32) from by decide), wbr_F, wdF (show ¬ nI 32 = (16 : Int32) from by decide), wbr_F, wdF (show ¬ nI 32 = (17 : Int32) from by decide), wbr_F, wdF (show ¬ nI 32 = (18 : Int32) from by decide), wbr_F, wdF (show ¬ nI 32 = (19 : Int32) from by decide), wbr_F, wdF (show ¬ nI 32 = (20 : Int32) from by decide), wbr_F, wdF (show ¬ nI 32 = (21 : Int32) from by decide), wbr_F, wdF (show ¬ nI 32 = (22 : Int32) from by decide), wbr_F, wdF (show ¬ nI 32 = (23 : Int32) from by decide), wbr_F, wdF (show ¬ nI 32 = (24 : Int32) from by decide), wbr_F, wdF (show ¬ nI 32 = (25 : Int32) from by decide), wbr_F, wdF (show ¬ nI 32 = (26 : Int32) from by decide), wbr_F, wdF (show ¬ nI 32 = (27 : Int32) from by decide), wbr_F, wdF (show ¬ nI 32 = (28 : Int32) from by decide), wbr_F, wdF (show ¬ nI 32 = (29 : Int32) from by decide), wbr_F, wdF (show ¬ nI 32 = (30 : Int32) from by decide), wbr_F, wdF (show ¬ nI 32 = (31 : Int32) from by decide), wbr_F, wdT (show nI 32 = (32 : Int32) from rfl), wbr_T]
  simp (disch := omega) only [wgd_T, wbq, wbr_T, nI_add, wgB, nI_clamp, gT_mk_16, gT_mk_137, q1, q2, eq_self, wd1, zc_self, li_0, li_1, li_2, li_3, li_4, li_5, li_6]
theorem lw_c33 (h : Iv f l R) (hX : X.1 ≤ 3072) (hi : i + 6 ≤ X.1) (hj : X.2 i &&& (63 : Int32) = nI 33) : LwS X i f l R := by
  obtain ⟨r, f1, l1, R1, f2, l2, q1, q2, q3⟩ := op_shift (X.2 (i + 1)) (X.2 (i + 2)) (X.2 (i + 3)) (X.2 (i + 4)) (X.2 (i + 5)) f l R h
  refine ⟨f2, l2, R1, q3, fun K => ?_⟩
  obtain ⟨d0, g0, c0⟩ := lw_0 hX hi
  unfold fn_Law_law_L18
  rw [d0, wbr_F, g0, wgd_T, c0, hj, wdF (show ¬ nI 33 = (0 : Int32) from by decide), wbr_F, wdF (show ¬ nI 33 = (1 : Int32) from by decide), wbr_F, wdF (show ¬ nI 33 = (2 : Int32) from by decide), wbr_F, wdF (show ¬ nI 33 = (3 : Int32) from by decide), wbr_F, wdF (show ¬ nI 33 = (4 : Int32) from by decide), wbr_F, wdF (show ¬ nI 33 = (5 : Int32) from by decide), wbr_F, wdF (show ¬ nI 33 = (6 : Int32) from by decide), wbr_F, wdF (show ¬ nI 33 = (7 : Int32) from by decide), wbr_F, wdF (show ¬ nI 33 = (8 : Int32) from by decide), wbr_F, wdF (show ¬ nI 33 = (9 : Int32) from by decide), wbr_F, wdF (show ¬ nI 33 = (10 : Int32) from by decide), wbr_F, wdF (show ¬ nI 33 = (11 : Int32) from by decide), wbr_F, wdF (show ¬ nI 33 = (12 : Int32) from by decide), wbr_F, wdF (show ¬ nI 33 = (13 : Int32) from by decide), wbr_F, wdF (show ¬ nI 33 = (14 : Int32) from by decide), wbr_F, wdF (show ¬ nI 33 = (15 : Int32) from by decide), wbr_F, wdF (show ¬ nI 33 = (16 : Int32) from by decide), wbr_F, wdF (show ¬ nI 33 = (17 : Int32) from by decide), wbr_F, wdF (show ¬ nI 33 = (18 : Int32) from by decide), wbr_F, wdF (show ¬ nI 33 = (19 : Int32) from by decide), wbr_F, wdF (show ¬ nI 33 = (20 : Int32) from by decide), wbr_F, wdF (show ¬ nI 33 = (21 : Int32) from by decide), wbr_F, wdF (show ¬ nI 33 = (22 : Int32) from by decide), wbr_F, wdF (show ¬ nI 33 = (23 : Int32) from by decide), wbr_F, wdF (show ¬ nI 33 = (24 : Int32) from by decide), wbr_F, wdF (show ¬ nI 33 = (25 : Int32) from by decide), wbr_F, wdF (show ¬ nI 33 = (26 : Int32) from by decide), wbr_F, wdF (show ¬ nI 33 = (27 : Int32) from by decide), wbr_F, wdF (show ¬ nI 33 = (28 : Int32) from by decide), wbr_F, wdF (show ¬ nI 33 = (29 : Int32) from by decide), wbr_F, wdF (show ¬ nI 33 = (30 : Int32) from by decide), wbr_F, wdF (show ¬ nI 33 = (31 : Int32) from by decide), wbr_F, wdF (show ¬ nI 33 = (32 : Int32) from by decide), wbr_F, wdT (show nI 33 = (33 : Int32) from rfl), wbr_T]
  simp (disch := omega) only [wgd_T, wbq, wbr_T, nI_add, wgB, nI_clamp, gT_mk_16, gT_mk_137, q1, q2, eq_self, wd1, zc_self, li_0, li_1, li_2, li_3, li_4, li_5, li_6]
theorem lw_no (h : Iv f l R) (hX : X.1 ≤ 3072) (hi : i + 6 ≤ X.1) (hj : X.2 i &&& (63 : Int32) = nI j) (h34 : 34 ≤ j) (h64 : j < 64) : LwS X i f l R := by
  refine ⟨f, l, R, h, fun K => ?_⟩
  obtain ⟨d0, g0, c0⟩ := lw_0 hX hi
  have ne : ∀ m, m < 34 → ¬ nI j = nI m := fun m hm q => by
    have := (nI_eq (show j < 2 ^ 31 by omega) (show m < 2 ^ 31 by omega)).mp q
    omega
  unfold fn_Law_law_L18
  rw [d0, wbr_F, g0, wgd_T, c0, hj, wdF (show ¬ nI j = (0 : Int32) from ne 0 (by decide)), wbr_F, wdF (show ¬ nI j = (1 : Int32) from ne 1 (by decide)), wbr_F, wdF (show ¬ nI j = (2 : Int32) from ne 2 (by decide)), wbr_F, wdF (show ¬ nI j = (3 : Int32) from ne 3 (by decide)), wbr_F, wdF (show ¬ nI j = (4 : Int32) from ne 4 (by decide)), wbr_F, wdF (show ¬ nI j = (5 : Int32) from ne 5 (by decide)), wbr_F, wdF (show ¬ nI j = (6 : Int32) from ne 6 (by decide)), wbr_F, wdF (show ¬ nI j = (7 : Int32) from ne 7 (by decide)), wbr_F, wdF (show ¬ nI j = (8 : Int32) from ne 8 (by decide)), wbr_F, wdF (show ¬ nI j = (9 : Int32) from ne 9 (by decide)), wbr_F, wdF (show ¬ nI j = (10 : Int32) from ne 10 (by decide)), wbr_F, wdF (show ¬ nI j = (11 : Int32) from ne 11 (by decide)), wbr_F, wdF (show ¬ nI j = (12 : Int32) from ne 12 (by decide)), wbr_F, wdF (show ¬ nI j = (13 : Int32) from ne 13 (by decide)), wbr_F, wdF (show ¬ nI j = (14 : Int32) from ne 14 (by decide)), wbr_F, wdF (show ¬ nI j = (15 : Int32) from ne 15 (by decide)), wbr_F, wdF (show ¬ nI j = (16 : Int32) from ne 16 (by decide)), wbr_F, wdF (show ¬ nI j = (17 : Int32) from ne 17 (by decide)), wbr_F, wdF (show ¬ nI j = (18 : Int32) from ne 18 (by decide)), wbr_F, wdF (show ¬ nI j = (19 : Int32) from ne 19 (by decide)), wbr_F, wdF (show ¬ nI j = (20 : Int32) from ne 20 (by decide)), wbr_F, wdF (show ¬ nI j = (21 : Int32) from ne 21 (by decide)), wbr_F, wdF (show ¬ nI j = (22 : Int32) from ne 22 (by decide)), wbr_F, wdF (show ¬ nI j = (23 : Int32) from ne 23 (by decide)), wbr_F, wdF (show ¬ nI j = (24 : Int32) from ne 24 (by decide)), wbr_F, wdF (show ¬ nI j = (25 : Int32) from ne 25 (by decide)), wbr_F, wdF (show ¬ nI j = (26 : Int32) from ne 26 (by decide)), wbr_F, wdF (show ¬ nI j = (27 : Int32) from ne 27 (by decide)), wbr_F, wdF (show ¬ nI j = (28 : Int32) from ne 28 (by decide)), wbr_F, wdF (show ¬ nI j = (29 : Int32) from ne 29 (by decide)), wbr_F, wdF (show ¬ nI j = (30 : Int32) from ne 30 (by decide)), wbr_F, wdF (show ¬ nI j = (31 : Int32) from ne 31 (by decide)), wbr_F, wdF (show ¬ nI j = (32 : Int32) from ne 32 (by decide)), wbr_F, wdF (show ¬ nI j = (33 : Int32) from ne 33 (by decide)), wbr_F, show nI i + (6 : Int32) = nI (i + 6) from nI_add i 6]
theorem lw_step (h : Iv f l R) (hX : X.1 ≤ 3072) (hi : i + 6 ≤ X.1) : LwS X i f l R := by
  obtain ⟨j, hj, e⟩ := pk_andE (X.2 i) (m := (63 : Int32)) 6 (by decide)
  by_cases h34 : 34 ≤ j
  · exact lw_no h hX hi e h34 hj
  · match j, h34, e with
    | 0, _, e => exact lw_c0 h hX hi e
    | 1, _, e => exact lw_c1 h hX hi e
    | 2, _, e => exact lw_c2 h hX hi e
    | 3, _, e => exact lw_c3 h hX hi e
    | 4, _, e => exact lw_c4 h hX hi e
    | 5, _, e => exact lw_c5 h hX hi e
    | 6, _, e => exact lw_c6 h hX hi e
    | 7, _, e => exact lw_c7 h hX hi e
    | 8, _, e => exact lw_c8 h hX hi e
    | 9, _, e => exact lw_c9 h hX hi e
    | 10, _, e => exact lw_c10 h hX hi e
    | 11, _, e => exact lw_c11 h hX hi e
    | 12, _, e => exact lw_c12 h hX hi e
    | 13, _, e => exact lw_c13 h hX hi e
    | 14, _, e => exact lw_c14 h hX hi e
    | 15, _, e => exact lw_c15 h hX hi e
    | 16, _, e => exact lw_c16 h hX hi e
    | 17, _, e => exact lw_c17 h hX hi e
    | 18, _, e => exact lw_c18 h hX hi e
    | 19, _, e => exact lw_c19 h hX hi e
    | 20, _, e => exact lw_c20 h hX hi e
    | 21, _, e => exact lw_c21 h hX hi e
    | 22, _, e => exact lw_c22 h hX hi e
    | 23, _, e => exact lw_c23 h hX hi e
    | 24, _, e => exact lw_c24 h hX hi e
    | 25, _, e => exact lw_c25 h hX hi e
    | 26, _, e => exact lw_c26 h hX hi e
    | 27, _, e => exact lw_c27 h hX hi e
    | 28, _, e => exact lw_c28 h hX hi e
    | 29, _, e => exact lw_c29 h hX hi e
    | 30, _, e => exact lw_c30 h hX hi e
    | 31, _, e => exact lw_c31 h hX hi e
    | 32, _, e => exact lw_c32 h hX hi e
    | 33, _, e => exact lw_c33 h hX hi e
    | n + 34, h34, _ => exact absurd (Nat.le_add_left 34 n) h34
end
