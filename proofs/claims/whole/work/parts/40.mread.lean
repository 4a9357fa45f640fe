/-! THE READER of the model -/
section
variable {f f' : Nat → Nat → Int32} {l : Nat → Nat → Int64} {R : Nat → Nat} {T : Nat → Nat} {n k : Nat} {nm : Nat → Nat} {w : Bool}
def MP (T : Nat → Nat) (n k : Nat) (w : Bool) (f : Nat → Nat → Int32) : Prop := f 137 10 = nI n ∧ f 137 11 = nI k ∧ f 137 12 = nI (vb w) ∧ ∀ j, j < n → f 144 j = nI (T j)
/-- the letters, the words, the names -/
def mK (nm : Nat → Nat) (f : Nat → Nat → Int32) : Prop := (∀ j, j < 6 → f 146 j = nI ([112, 107, 118, 119, 116, 100].getD j 0)) ∧ (∀ j, j < 15 → f 147 j = nI ([115, 99, 114, 117, 98, 115, 111, 102, 116, 0, 119, 101, 97, 114, 0].getD j 0)) ∧ ∀ j, j < 6 → f 145 j = nI (nm j) ∧ nm j < 2 ^ 32
def frM (f f' : Nat → Nat → Int32) : Prop := ∀ p j, (p = 137 → ¬ j = 11 ∧ ¬ j = 12) → f' p j = f p j
theorem frM_r : frM f f := fun _ _ _ => rfl
theorem frM_t {g : Nat → Nat → Int32} (h : frM f f') (h2 : frM f' g) : frM f g := fun p j q => (h2 p j q).trans (h p j q)
theorem frM_up {j : Nat} {x : Int32} (hj : j = 11 ∨ j = 12) : frM f (up f 137 j x) := fun p i h => by
  by_cases e : p = 137
  · have := h e
    exact up_nj (by omega)
  · exact up_np e
theorem MP_at (h : MP T n k w f) {k' : Nat} : MP T n k' w (up f 137 11 (nI k')) := ⟨(up_nj (by decide)).trans h.1, up_eq, (up_nj (by decide)).trans h.2.2.1, fun j hj => (up_np (by decide)).trans (h.2.2.2 j hj)⟩
theorem MP_no (h : MP T n k w f) : MP T n k false (up f 137 12 (nI 0)) := ⟨(up_nj (by decide)).trans h.1, (up_nj (by decide)).trans h.2.1, up_eq, fun j hj => (up_np (by decide)).trans (h.2.2.2 j hj)⟩
theorem mK_fr (h : mK nm f) (hf : frM f f') : mK nm f' :=
  ⟨fun j hj => (hf 146 j (fun q => absurd q (by decide))).trans (h.1 j hj), fun j hj => (hf 147 j (fun q => absurd q (by decide))).trans (h.2.1 j hj), fun j hj => ⟨(hf 145 j (fun q => absurd q (by decide))).trans (h.2.2 j hj).1, (h.2.2 j hj).2⟩⟩
theorem m_isAt (hT : tOk T n) (h : MP T n k w f) (hk : k ≤ n) {c : Nat} (hc : c < 128) : fn_Mo_isAt 137 (nI c) (mk f l R) = some (nI (vb (w && decide (sg T n k = c))), mk f l R) := by
  have hn := hT.1
  cases w
  · simp (disch := omega) only [fn_Mo_isAt, h.2.2.1, vb_F, gT_mk_137, Bool.false_and, wbr_T, wbr_F, wgd_T, wbq, wbv, wnm, zI_mk, zL_mk, uI_mk, uL_mk, kI_mk, kL_mk, nI_add, nI_mul, nI_sub, nI_div, nI_clamp, wgB, wgP, nI_leI, nI_ltI, nI_eq, nI_eqm, nI_eqm5, wdT, wdF, wd1, wd0, li_0]
  · by_cases e : k < n
    · have g := h.2.2.2 k e
      have s := sg_in hT e
      rw [show T k = sg T n k from (if_pos e).symm] at g
      by_cases e2 : sg T n k = c
      · simp (disch := omega) only [fn_Mo_isAt, h.1, h.2.1, h.2.2.1, g, e2, vb_T, gT_mk_137, zR_mk_137_9, gT_mk_144, zT_mk_144, Bool.true_and, wbr_T, wbr_F, wgd_T, wbq, wbv, wnm, zI_mk, zL_mk, uI_mk, uL_mk, kI_mk, kL_mk, nI_add, nI_mul, nI_sub, nI_div, nI_clamp, wgB, wgP, nI_leI, nI_ltI, nI_eq, nI_eqm, nI_eqm5, wdT, wdF, wd1, wd0, li_0, li_1]
      · simp (disch := omega) only [fn_Mo_isAt, h.1, h.2.1, h.2.2.1, g, e2, vb_T, vb_F, gT_mk_137, zR_mk_137_9, gT_mk_144, zT_mk_144, Bool.true_and, wbr_T, wbr_F, wgd_T, wbq, wbv, wnm, zI_mk, zL_mk, uI_mk, uL_mk, kI_mk, kL_mk, nI_add, nI_mul, nI_sub, nI_div, nI_clamp, wgB, wgP, nI_leI, nI_ltI, nI_eq, nI_eqm, nI_eqm5, wdT, wdF, wd1, wd0, li_0, li_1]
    · have e2 : ¬ sg T n k = c := by rw [sg_out e]; omega
      simp (disch := omega) only [fn_Mo_isAt, h.1, h.2.1, h.2.2.1, e2, vb_T, vb_F, gT_mk_137, Bool.true_and, wbr_T, wbr_F, wgd_T, wbq, wbv, wnm, zI_mk, zL_mk, uI_mk, uL_mk, kI_mk, kL_mk, nI_add, nI_mul, nI_sub, nI_div, nI_clamp, wgB, wgP, nI_leI, nI_ltI, nI_eq, nI_eqm, nI_eqm5, wdT, wdF, wd1, wd0, li_0, li_1]
theorem m_isDigit (hT : tOk T n) (h : MP T n k w f) (hk : k ≤ n) : fn_Mo_isDigit 137 (mk f l R) = some (nI (vb (w && isDg (sg T n k))), mk f l R) := by
  have hn := hT.1
  cases w
  · simp (disch := omega) only [fn_Mo_isDigit, h.2.2.1, vb_F, gT_mk_137, Bool.false_and, wbr_T, wbr_F, wgd_T, wbq, wbv, wnm, zI_mk, zL_mk, uI_mk, uL_mk, kI_mk, kL_mk, nI_add, nI_mul, nI_sub, nI_div, nI_clamp, wgB, wgP, nI_leI, nI_ltI, nI_eq, nI_eqm, nI_eqm5, wdT, wdF, wd1, wd0, li_0]
  · unfold isDg
    by_cases e : k < n
    · have g := h.2.2.2 k e
      have s := sg_in hT e
      rw [show T k = sg T n k from (if_pos e).symm] at g
      by_cases h1 : sg T n k < 48
      · simp (disch := omega) only [fn_Mo_isDigit, h.1, h.2.1, h.2.2.1, g, vb_T, vb_F, gT_mk_137, zR_mk_137_9, gT_mk_144, zT_mk_144, Bool.true_and, Bool.false_and, wbr_T, wbr_F, wgd_T, wbq, wbv, wnm, zI_mk, zL_mk, uI_mk, uL_mk, kI_mk, kL_mk, nI_add, nI_mul, nI_sub, nI_div, nI_clamp, wgB, wgP, nI_leI, nI_ltI, nI_eq, nI_eqm, nI_eqm5, wdT, wdF, wd1, wd0, li_0, li_1, li_48, li_57]
      · by_cases h2 : 57 < sg T n k
        · simp (disch := omega) only [fn_Mo_isDigit, h.1, h.2.1, h.2.2.1, g, vb_T, vb_F, gT_mk_137, zR_mk_137_9, gT_mk_144, zT_mk_144, Bool.true_and, Bool.and_false, wbr_T, wbr_F, wgd_T, wbq, wbv, wnm, zI_mk, zL_mk, uI_mk, uL_mk, kI_mk, kL_mk, nI_add, nI_mul, nI_sub, nI_div, nI_clamp, wgB, wgP, nI_leI, nI_ltI, nI_eq, nI_eqm, nI_eqm5, wdT, wdF, wd1, wd0, li_0, li_1, li_48, li_57]
        · simp (disch := omega) only [fn_Mo_isDigit, h.1, h.2.1, h.2.2.1, g, vb_T, vb_F, gT_mk_137, zR_mk_137_9, gT_mk_144, zT_mk_144, Bool.true_and, wbr_T, wbr_F, wgd_T, wbq, wbv, wnm, zI_mk, zL_mk, uI_mk, uL_mk, kI_mk, kL_mk, nI_add, nI_mul, nI_sub, nI_div, nI_clamp, wgB, wgP, nI_leI, nI_ltI, nI_eq, nI_eqm, nI_eqm5, wdT, wdF, wd1, wd0, li_0, li_1, li_48, li_57]
    · rw [sg_out e]
      simp (disch := omega) only [fn_Mo_isDigit, h.1, h.2.1, h.2.2.1, vb_T, vb_F, gT_mk_137, Bool.true_and, wbr_T, wbr_F, wgd_T, wbq, wbv, wnm, zI_mk, zL_mk, uI_mk, uL_mk, kI_mk, kL_mk, nI_add, nI_mul, nI_sub, nI_div, nI_clamp, wgB, wgP, nI_leI, nI_ltI, nI_eq, nI_eqm, nI_eqm5, wdT, wdF, wd1, wd0, li_0, li_1]
      all_goals rfl
theorem m_takes (hT : tOk T n) (h : MP T n k w f) (hk : k ≤ n) {c : Nat} (hc : c < 128) : ∃ f', fn_Mo_takes 137 (nI c) (mk f l R) = some (mk f' l R) ∧ MP T n (if (w && decide (sg T n k = c)) = true then k + 1 else k) (w && decide (sg T n k = c)) f' ∧ frM f f' := by
  have hn := hT.1
  have e1 := m_isAt (l := l) (R := R) hT h hk hc
  by_cases e : (w && decide (sg T n k = c)) = true
  · rw [if_pos e]
    have hw : w = true := by cases w <;> first | rfl | cases e
    rw [e, vb_T] at e1
    refine ⟨up f 137 11 (nI (k + 1)), ?_, ?_, frM_up (Or.inl rfl)⟩
    · simp (disch := omega) only [fn_Mo_takes, e1, h.2.1, gT_mk_137, wbr_T, wbr_F, wgd_T, wbq, wbv, wnm, zI_mk, zL_mk, uI_mk, uL_mk, kI_mk, kL_mk, nI_add, nI_mul, nI_sub, nI_div, nI_clamp, wgB, wgP, nI_leI, nI_ltI, nI_eq, nI_eqm, nI_eqm5, wdT, wdF, wd1, wd0, li_0, li_1]
    · rw [e]
      exact hw ▸ MP_at h
  · rw [if_neg e]
    rw [Bool.eq_false_iff.mpr e] at e1 ⊢
    rw [vb_F] at e1
    refine ⟨up f 137 12 (nI 0), ?_, MP_no h, frM_up (Or.inr rfl)⟩
    simp (disch := omega) only [fn_Mo_takes, e1, gT_mk_137, wbr_T, wbr_F, wgd_T, wbq, wbv, wnm, zI_mk, zL_mk, uI_mk, uL_mk, kI_mk, kL_mk, nI_add, nI_mul, nI_sub, nI_div, nI_clamp, wgB, wgP, nI_leI, nI_ltI, nI_eq, nI_eqm, nI_eqm5, wdT, wdF, wd1, wd0, li_0]
theorem m_number (hT : tOk T n) (h : MP T n k w f) (hk : k ≤ n) : ∃ f' v, fn_Mo_number 137 (mk f l R) = some (v, mk f' l R) ∧ MP T n (if w = true then (pNum T n k).2.1 else k) (w && (pNum T n k).1) f' ∧ ((w && (pNum T n k).1) = true → v = nI (pNum T n k).2.2) ∧ frM f f' := by
  have hn := hT.1
  have d0 := m_isDigit (l := l) (R := R) hT h hk
  cases w
  · rw [Bool.false_and, vb_F] at d0
    refine ⟨up f 137 12 (nI 0), nI 0, ?_, MP_no h, (fun q => by cases q), frM_up (Or.inr rfl)⟩
    simp (disch := omega) only [fn_Mo_number, d0, gT_mk_137, wbr_T, wbr_F, wgd_T, wbq, wbv, wnm, zI_mk, zL_mk, uI_mk, uL_mk, kI_mk, kL_mk, nI_add, nI_mul, nI_sub, nI_div, nI_clamp, wgB, wgP, nI_leI, nI_ltI, nI_eq, nI_eqm, nI_eqm5, wdT, wdF, wd1, wd0, li_0]
  · rw [Bool.true_and] at d0 ⊢
    rw [if_pos rfl]
    unfold pNum
    by_cases h1 : isDg (sg T n k) = true
    · rw [if_pos h1]
      rw [h1, vb_T] at d0
      have l1 := isDg_lt h1
      have b1 := h1
      unfold isDg at b1
      simp only [Bool.and_eq_true, decide_eq_true_eq] at b1
      have g := h.2.2.2 k l1
      rw [show T k = sg T n k from (if_pos l1).symm] at g
      have q1 : MP T n (k + 1) true (up f 137 11 (nI (k + 1))) := MP_at h
      have d1 := m_isDigit (l := l) (R := R) hT q1 (by omega)
      rw [Bool.true_and] at d1
      by_cases h2 : isDg (sg T n (k + 1)) = true
      · rw [if_pos h2]
        rw [h2, vb_T] at d1
        have l2 := isDg_lt h2
        have b2 := h2
        unfold isDg at b2
        simp only [Bool.and_eq_true, decide_eq_true_eq] at b2
        have g2 := q1.2.2.2 (k + 1) l2
        rw [show T (k + 1) = sg T n (k + 1) from (if_pos l2).symm] at g2
        refine ⟨up (up f 137 11 (nI (k + 1))) 137 11 (nI (k + 2)), nI ((sg T n k - 48) * 10 + (sg T n (k + 1) - 48)), ?_, MP_at q1, fun _ => rfl, frM_t (frM_up (Or.inl rfl)) (frM_up (Or.inl rfl))⟩
        simp (disch := omega) only [fn_Mo_number, d0, d1, h.2.1, q1.2.1, g, g2, gT_mk_137, zR_mk_137_9, gT_mk_144, zT_mk_144, wbr_T, wbr_F, wgd_T, wbq, wbv, wnm, zI_mk, zL_mk, uI_mk, uL_mk, kI_mk, kL_mk, nI_add, nI_mul, nI_sub, nI_div, nI_clamp, wgB, wgP, nI_leI, nI_ltI, nI_eq, nI_eqm, nI_eqm5, wdT, wdF, wd1, wd0, li_0, li_1, li_10, li_48]
        rw [show 10 * (sg T n k - 48) + sg T n (k + 1) - 48 = (sg T n k - 48) * 10 + (sg T n (k + 1) - 48) by omega]
      · rw [if_neg h2]
        rw [Bool.eq_false_iff.mpr h2, vb_F] at d1
        refine ⟨up f 137 11 (nI (k + 1)), nI (sg T n k - 48), ?_, q1, fun _ => rfl, frM_up (Or.inl rfl)⟩
        simp (disch := omega) only [fn_Mo_number, d0, d1, h.2.1, g, gT_mk_137, zR_mk_137_9, gT_mk_144, zT_mk_144, wbr_T, wbr_F, wgd_T, wbq, wbv, wnm, zI_mk, zL_mk, uI_mk, uL_mk, kI_mk, kL_mk, nI_add, nI_mul, nI_sub, nI_div, nI_clamp, wgB, wgP, nI_leI, nI_ltI, nI_eq, nI_eqm, nI_eqm5, wdT, wdF, wd1, wd0, li_0, li_1, li_48]
    · rw [if_neg h1]
      rw [Bool.eq_false_iff.mpr h1, vb_F] at d0
      refine ⟨up f 137 12 (nI 0), nI 0, ?_, MP_no h, (fun q => by cases q), frM_up (Or.inr rfl)⟩
      simp (disch := omega) only [fn_Mo_number, d0, gT_mk_137, wbr_T, wbr_F, wgd_T, wbq, wbv, wnm, zI_mk, zL_mk, uI_mk, uL_mk, kI_mk, kL_mk, nI_add, nI_mul, nI_sub, nI_div, nI_clamp, wgB, wgP, nI_leI, nI_ltI, nI_eq, nI_eqm, nI_eqm5, wdT, wdF, wd1, wd0, li_0]
/-- a run of the model's reader is as the pure reader says, if it was well -/
def MR (T : Nat → Nat) (n : Nat) (nm : Nat → Nat) (f : Nat → Nat → Int32) (l : Nat → Nat → Int64) (R : Nat → Nat) (X : Option (Int32 × zS)) (w : Bool) (k : Nat) (r : pR) : Prop :=
  ∃ f' v, X = some (nI (vb v), mk f' l R) ∧ MP T n (if w = true then r.2.1 else k) (w && r.1) f' ∧ (w = true → r.1 = true → v = r.2.2.2 nm) ∧ frM f f'
theorem m_test_step (hT : tOk T n) (h : MP T n k w f) (hk : k ≤ n) (hm : mK nm f) {j G : Nat} {a : Int32} (hj : j < 6) :
    lp (σ := Nat × Int32 × Int32 × zS) (fun k s => fn_Mo_test_L4 s.1 s.2.1 s.2.2.1 s.2.2.2 (fun (a0 : Nat) (a1 : Int32) (a2 : Int32) (S : zS) => k (a0, a1, a2, S))) (G + 1) (137, a, nI j, mk f l R) =
    lp (σ := Nat × Int32 × Int32 × zS) (fun k s => fn_Mo_test_L4 s.1 s.2.1 s.2.2.1 s.2.2.2 (fun (a0 : Nat) (a1 : Int32) (a2 : Int32) (S : zS) => k (a0, a1, a2, S))) G (137, if (w && decide (sg T n k = [112, 107, 118, 119, 116, 100].getD j 0)) = true then nI j else a, nI (j + 1), mk f l R) := by
  have hL : ∀ j, j < 6 → [112, 107, 118, 119, 116, 100].getD j 0 < 128 := by decide
  have e1 := m_isAt (l := l) (R := R) hT h hk (hL j hj)
  have e2 := hm.1 j hj
  rw [lpS]
  show fn_Mo_test_L4 137 a (nI j) (mk f l R) _ = _
  by_cases e : (w && decide (sg T n k = [112, 107, 118, 119, 116, 100].getD j 0)) = true
  · rw [if_pos e]
    rw [e, vb_T] at e1
    simp (disch := omega) only [fn_Mo_test_L4, e1, e2, gT_mk_137, zR_mk_137_17, gT_mk_146, zT_mk_146, wbr_T, wbr_F, wgd_T, wbq, wbv, wnm, zI_mk, zL_mk, uI_mk, uL_mk, kI_mk, kL_mk, nI_add, nI_mul, nI_sub, nI_div, nI_clamp, wgB, wgP, nI_leI, nI_ltI, nI_eq, nI_eqm, nI_eqm5, wdT, wdF, wd1, wd0, li_0, li_1, li_6]
  · rw [if_neg e]
    rw [Bool.eq_false_iff.mpr e, vb_F] at e1
    simp (disch := omega) only [fn_Mo_test_L4, e1, e2, gT_mk_137, zR_mk_137_17, gT_mk_146, zT_mk_146, wbr_T, wbr_F, wgd_T, wbq, wbv, wnm, zI_mk, zL_mk, uI_mk, uL_mk, kI_mk, kL_mk, nI_add, nI_mul, nI_sub, nI_div, nI_clamp, wgB, wgP, nI_leI, nI_ltI, nI_eq, nI_eqm, nI_eqm5, wdT, wdF, wd1, wd0, li_0, li_1, li_6]
/-- how a test compares: a is -1, 0 or 1 -/
def cmpI (a x y : Int32) : Bool := if 0 ≤ a then (if a ≤ 0 then decide (x = y) else !decide (x ≤ y)) else !decide (y ≤ x)
theorem m_test106 (hT : tOk T n) (h : MP T n k w f) (hk : k ≤ n) (hm : mK nm f) {j : Nat} (hj : j < 6) {a : Int32} {c : Nat} (hc : c < 128) :
    ∃ f' v, fn_Mo_test_L106 137 (nI j) a 137 (nI c) (mk f l R) = some (nI (vb (cmpI a (nI (nm j)) v)), mk f' l R) ∧
      MP T n (if (w && decide (sg T n k = c)) = true then (pNum T n (k + 1)).2.1 else k) ((w && decide (sg T n k = c)) && (pNum T n (k + 1)).1) f' ∧ (((w && decide (sg T n k = c)) && (pNum T n (k + 1)).1) = true → v = nI (pNum T n (k + 1)).2.2) ∧ frM f f' := by
  have hn := hT.1
  obtain ⟨f1, e1, r1, fr1⟩ := m_takes (l := l) (R := R) hT h hk hc
  have hk1 : (if (w && decide (sg T n k = c)) = true then k + 1 else k) ≤ n := by
    split
    · rename_i q
      rw [Bool.and_eq_true, decide_eq_true_eq] at q
      have := sg_lt q.2 (by omega)
      omega
    · exact hk
  obtain ⟨f2, v, e2, r2, v2, fr2⟩ := m_number (l := l) (R := R) hT r1 hk1
  have hm2 := mK_fr hm (frM_t fr1 fr2)
  have g := (hm2.2.2 j hj).1
  refine ⟨f2, v, ?_, ?_, ?_, frM_t fr1 fr2⟩
  · unfold cmpI
    by_cases h1 : (0 : Int32) ≤ a
    · rw [if_pos h1]
      by_cases h2 : a ≤ 0
      · rw [if_pos h2]
        by_cases h3 : nI (nm j) = v
        · simp (disch := omega) only [fn_Mo_test_L106, e1, e2, g, h1, h2, h3, gT_mk_137, zR_mk_137_16, gT_mk_145, zT_mk_145, wbr_T, wbr_F, wgd_T, wbq, wbv, wnm, zI_mk, zL_mk, uI_mk, uL_mk, kI_mk, kL_mk, nI_clamp, wgB, wgP, wdT, wdF, wd1, wd0]
          rfl
        · simp (disch := omega) only [fn_Mo_test_L106, e1, e2, g, h1, h2, h3, gT_mk_137, zR_mk_137_16, gT_mk_145, zT_mk_145, wbr_T, wbr_F, wgd_T, wbq, wbv, wnm, zI_mk, zL_mk, uI_mk, uL_mk, kI_mk, kL_mk, nI_clamp, wgB, wgP, wdT, wdF, wd1, wd0]
          rfl
      · rw [if_neg h2]
        by_cases h3 : nI (nm j) ≤ v
        · simp (disch := omega) only [fn_Mo_test_L106, e1, e2, g, h1, h2, h3, gT_mk_137, zR_mk_137_16, gT_mk_145, zT_mk_145, wbr_T, wbr_F, wgd_T, wbq, wbv, wnm, zI_mk, zL_mk, uI_mk, uL_mk, kI_mk, kL_mk, nI_clamp, wgB, wgP, wdT, wdF, wd1, wd0]
          rfl
        · simp (disch := omega) only [fn_Mo_test_L106, e1, e2, g, h1, h2, h3, gT_mk_137, zR_mk_137_16, gT_mk_145, zT_mk_145, wbr_T, wbr_F, wgd_T, wbq, wbv, wnm, zI_mk, zL_mk, uI_mk, uL_mk, kI_mk, kL_mk, nI_clamp, wgB, wgP, wdT, wdF, wd1, wd0]
          rfl
    · rw [if_neg h1]
      by_cases h3 : v ≤ nI (nm j)
      · simp (disch := omega) only [fn_Mo_test_L106, e1, e2, g, h1, h3, gT_mk_137, zR_mk_137_16, gT_mk_145, zT_mk_145, wbr_T, wbr_F, wgd_T, wbq, wbv, wnm, zI_mk, zL_mk, uI_mk, uL_mk, kI_mk, kL_mk, nI_clamp, wgB, wgP, wdT, wdF, wd1, wd0]
        rfl
      · simp (disch := omega) only [fn_Mo_test_L106, e1, e2, g, h1, h3, gT_mk_137, zR_mk_137_16, gT_mk_145, zT_mk_145, wbr_T, wbr_F, wgd_T, wbq, wbv, wnm, zI_mk, zL_mk, uI_mk, uL_mk, kI_mk, kL_mk, nI_clamp, wgB, wgP, wdT, wdF, wd1, wd0]
        rfl
  · by_cases q : (w && decide (sg T n k = c)) = true
    · rw [q] at r2 ⊢
      rw [if_pos rfl, if_pos rfl] at r2
      rw [if_pos rfl]
      exact r2
    · rw [Bool.eq_false_iff.mpr q] at r2 ⊢
      rw [if_neg (fun q => by cases q), if_neg (fun q => by cases q), Bool.false_and] at r2
      rw [if_neg (fun q => by cases q), Bool.false_and]
      exact r2
  · intro q
    have q1 : (w && decide (sg T n k = c)) = true := by
      rw [Bool.and_eq_true] at q
      exact q.1
    rw [if_pos q1] at v2
    exact v2 q
theorem cmpI_v {x y : Nat} : cmpI (-nI 1) (nI x) (nI y) = cmpv 60 x y ∧ cmpI (nI 0) (nI x) (nI y) = cmpv 61 x y ∧ cmpI (nI 1) (nI x) (nI y) = cmpv 62 x y := by
  unfold cmpI cmpv
  refine ⟨?_, ?_, ?_⟩
  · rw [if_neg (show ¬ (0 : Int32) ≤ -nI 1 by decide), if_pos rfl]
    by_cases h : nI x < nI y
    · rw [wdT h, wdF (show ¬ nI y ≤ nI x by
        rw [Int32.lt_iff_toInt_lt] at h
        rw [Int32.le_iff_toInt_le]
        omega)]; rfl
    · rw [wdF h, wdT (show nI y ≤ nI x by
        rw [Int32.lt_iff_toInt_lt] at h
        rw [Int32.le_iff_toInt_le]
        omega)]; rfl
  · rw [if_pos (show (0 : Int32) ≤ nI 0 by decide), if_pos (show nI 0 ≤ (0 : Int32) by decide), if_neg (by decide), if_pos rfl]
  · rw [if_pos (show (0 : Int32) ≤ nI 1 by decide), if_neg (show ¬ nI 1 ≤ (0 : Int32) by decide), if_neg (by decide), if_neg (by decide)]
    by_cases h : nI y < nI x
    · rw [wdT h, wdF (show ¬ nI x ≤ nI y by
        rw [Int32.lt_iff_toInt_lt] at h
        rw [Int32.le_iff_toInt_le]
        omega)]; rfl
    · rw [wdF h, wdT (show nI x ≤ nI y by
        rw [Int32.lt_iff_toInt_lt] at h
        rw [Int32.le_iff_toInt_le]
        omega)]; rfl
theorem m_test (hT : tOk T n) (h : MP T n k w f) (hk : k ≤ n) (hm : mK nm f) : MR T n nm f l R (fn_Mo_test 137 (mk f l R)) w k (pTest T n k) := by
  have hn := hT.1
  have key : ∀ a : Int32, a = (if (w && decide (lix (sg T n k) < 6)) = true then nI (lix (sg T n k)) else -nI 1) → fn_Mo_test 137 (mk f l R) = lp (σ := Nat × Int32 × Int32 × zS) (fun k s => fn_Mo_test_L4 s.1 s.2.1 s.2.2.1 s.2.2.2 (fun (a0 : Nat) (a1 : Int32) (a2 : Int32) (S : zS) => k (a0, a1, a2, S))) 4994 (137, a, nI 6, mk f l R) := by
    intro a ha
    unfold fn_Mo_test
    rw [show FU = 4999 + 1 from rfl, show (0 : Int32) = nI 0 from rfl, m_test_step hT h hk hm (by decide), m_test_step hT h hk hm (by decide), m_test_step hT h hk hm (by decide), m_test_step hT h hk hm (by decide), m_test_step hT h hk hm (by decide), m_test_step hT h hk hm (by decide)]
    congr 3
    rw [ha]
    cases w
    · rfl
    · simp only [Bool.true_and, decide_eq_true_eq]
      show (if sg T n k = 100 then nI 5 else if sg T n k = 116 then nI 4 else if sg T n k = 119 then nI 3 else if sg T n k = 118 then nI 2 else if sg T n k = 107 then nI 1 else if sg T n k = 112 then nI 0 else -1) = _
      by_cases hl : lix (sg T n k) < 6
      · rw [if_pos hl]
        rcases lix_lt hl with e | e | e | e | e | e <;> rw [e] <;> rfl
      · rw [if_neg hl]
        unfold lix at hl
        rw [if_neg (fun e => by rw [e] at hl; exact hl (by decide)), if_neg (fun e => by rw [e] at hl; exact hl (by decide)), if_neg (fun e => by rw [e] at hl; exact hl (by decide)), if_neg (fun e => by rw [e] at hl; exact hl (by decide)), if_neg (fun e => by rw [e] at hl; exact hl (by decide)), if_neg (fun e => by rw [e] at hl; exact hl (by decide))]
        rfl
  by_cases hw : (w && decide (lix (sg T n k) < 6)) = true
  · rw [key (nI (lix (sg T n k))) (if_pos hw).symm, lpS]
    rw [Bool.and_eq_true, decide_eq_true_eq] at hw
    obtain ⟨rfl, hl⟩ := hw
    show MR T n nm f l R (fn_Mo_test_L4 137 (nI (lix (sg T n k))) (nI 6) (mk f l R) _) true k _
    have hkn : k < n := by
      have := lix_lt hl
      exact sg_lt (c := sg T n k) rfl (by omega)
    have q1 : MP T n (k + 1) true (up f 137 11 (nI (k + 1))) := MP_at h
    have fr0 : frM f (up f 137 11 (nI (k + 1))) := frM_up (Or.inl rfl)
    have hm1 := mK_fr hm fr0
    have e60 := m_isAt (l := l) (R := R) hT q1 (by omega) (c := 60) (by decide)
    have e62 := m_isAt (l := l) (R := R) hT q1 (by omega) (c := 62) (by decide)
    have t106 := fun a c hc => m_test106 (l := l) (R := R) (a := a) (c := c) hT q1 (by omega) hm1 hl hc
    have hx := (hm.2.2 _ hl).2
    have hpt : pTest T n k = if 60 ≤ sg T n (k + 1) ∧ sg T n (k + 1) ≤ 62 then (if (pNum T n (k + 2)).1 = true then (true, (pNum T n (k + 2)).2.1, [(sg T n k, sg T n (k + 1) * 100 + (pNum T n (k + 2)).2.2)], fun nm => cmpv (sg T n (k + 1)) (nm (lix (sg T n k))) (pNum T n (k + 2)).2.2) else pNo (k + 2)) else pNo (k + 1) := by
      unfold pTest
      rw [if_pos hl]
    rw [hpt]
    generalize lix (sg T n k) = j at *
    have wrap : ∀ (a : Int32) (c : Nat), c < 128 → (∀ K, fn_Mo_test_L4 137 (nI j) (nI 6) (mk f l R) K = fn_Mo_test_L106 137 (nI j) a 137 (nI c) (mk (up f 137 11 (nI (k + 1))) l R)) → sg T n (k + 1) = c → 60 ≤ c ∧ c ≤ 62 → (∀ y, y < 2 ^ 31 → cmpI a (nI (nm j)) (nI y) = cmpv c (nm j) y) → ∀ K, MR T n nm f l R (fn_Mo_test_L4 137 (nI j) (nI 6) (mk f l R) K) true k (if 60 ≤ sg T n (k + 1) ∧ sg T n (k + 1) ≤ 62 then (if (pNum T n (k + 2)).1 = true then (true, (pNum T n (k + 2)).2.1, [(sg T n k, sg T n (k + 1) * 100 + (pNum T n (k + 2)).2.2)], fun nm => cmpv (sg T n (k + 1)) (nm j) (pNum T n (k + 2)).2.2) else pNo (k + 2)) else pNo (k + 1)) := by
      intro a c hc hK hs hc2 hcm K
      obtain ⟨f2, v, e2, r2, v2, fr2⟩ := t106 a c hc
      rw [hK, e2, hs, if_pos hc2]
      rw [hs] at r2 v2
      rw [wdT (show c = c from rfl), Bool.true_and] at r2 v2
      rw [if_pos rfl] at r2
      rw [Bool.true_and] at r2 v2
      have fr3 := frM_t fr0 fr2
      by_cases h3 : (pNum T n (k + 2)).1 = true
      · rw [if_pos h3]
        refine ⟨f2, _, rfl, ?_, fun _ _ => ?_, fr3⟩
        · rw [if_pos rfl]
          have r2' : MP T n (pNum T n (k + 2)).2.1 (pNum T n (k + 2)).1 f2 := r2
          rw [h3] at r2'
          exact r2'
        · rw [v2 h3]
          have := (pNum_ok h3).2.2
          exact hcm _ (show (pNum T n (k + 2)).2.2 < 2 ^ 31 by omega)
      · rw [if_neg h3]
        refine ⟨f2, _, rfl, ?_, (fun _ q => by cases q), fr3⟩
        rw [if_pos rfl]
        have r2' : MP T n (pNum T n (k + 2)).2.1 (pNum T n (k + 2)).1 f2 := r2
        rw [Bool.eq_false_iff.mpr h3] at r2'
        rw [pNum_no h3] at r2'
        exact r2'
    have hn7 : ¬ nI j = -nI 1 := nI_eqm (by omega)
    have hng : ¬ nI 0 ≤ -nI 1 := by decide
    have h66 : decide ((6 : Int32) ≤ nI 6) = true := rfl
    by_cases s60 : sg T n (k + 1) = 60
    · refine wrap (-nI 1) 60 (by decide) (fun K => ?_) s60 (by decide) (fun y hy => (cmpI_v (x := nm j) (y := y)).1) _
      rw [s60] at e60
      have e60' : fn_Mo_isAt 137 (nI 60) (mk (up f 137 11 (nI (k + 1))) l R) = some (nI 1, mk (up f 137 11 (nI (k + 1))) l R) := e60
      simp (disch := omega) only [fn_Mo_test_L4, fn_Mo_test_L84, h.2.1, hn7, hng, h66, e60', gT_mk_137, wbr_T, wbr_F, wgd_T, wbq, wbv, wnm, zI_mk, zL_mk, uI_mk, uL_mk, kI_mk, kL_mk, nI_eq, nI_add, wdT, wdF, wd1, wd0, li_0, li_1, li_60]
      all_goals rfl
    by_cases s62 : sg T n (k + 1) = 62
    · refine wrap (nI 1) 62 (by decide) (fun K => ?_) s62 (by decide) (fun y hy => (cmpI_v (x := nm j) (y := y)).2.2) _
      rw [s62] at e60 e62
      have e60' : fn_Mo_isAt 137 (nI 60) (mk (up f 137 11 (nI (k + 1))) l R) = some (nI 0, mk (up f 137 11 (nI (k + 1))) l R) := e60
      have e62' : fn_Mo_isAt 137 (nI 62) (mk (up f 137 11 (nI (k + 1))) l R) = some (nI 1, mk (up f 137 11 (nI (k + 1))) l R) := e62
      simp (disch := omega) only [fn_Mo_test_L4, fn_Mo_test_L84, h.2.1, hn7, hng, h66, e60', e62', gT_mk_137, wbr_T, wbr_F, wgd_T, wbq, wbv, wnm, zI_mk, zL_mk, uI_mk, uL_mk, kI_mk, kL_mk, nI_eq, nI_add, nI_leI, wdT, wdF, wd1, wd0, li_0, li_1, li_60, li_62]
    have hK : ∀ K, fn_Mo_test_L4 137 (nI j) (nI 6) (mk f l R) K = fn_Mo_test_L106 137 (nI j) (nI 0) 137 (nI 61) (mk (up f 137 11 (nI (k + 1))) l R) := by
      intro K
      rw [wdF s60] at e60
      rw [wdF s62] at e62
      have e60' : fn_Mo_isAt 137 (nI 60) (mk (up f 137 11 (nI (k + 1))) l R) = some (nI 0, mk (up f 137 11 (nI (k + 1))) l R) := e60
      have e62' : fn_Mo_isAt 137 (nI 62) (mk (up f 137 11 (nI (k + 1))) l R) = some (nI 0, mk (up f 137 11 (nI (k + 1))) l R) := e62
      simp (disch := omega) only [fn_Mo_test_L4, fn_Mo_test_L84, h.2.1, hn7, hng, h66, e60', e62', gT_mk_137, wbr_T, wbr_F, wgd_T, wbq, wbv, wnm, zI_mk, zL_mk, uI_mk, uL_mk, kI_mk, kL_mk, nI_eq, nI_add, nI_leI, wdT, wdF, wd1, wd0, li_0, li_1, li_60, li_62]
      rfl
    by_cases s61 : sg T n (k + 1) = 61
    · exact wrap (nI 0) 61 (by decide) hK s61 (by decide) (fun y hy => (cmpI_v (x := nm j) (y := y)).2.1) _
    · rw [if_neg (show ¬ (60 ≤ sg T n (k + 1) ∧ sg T n (k + 1) ≤ 62) by omega), hK]
      obtain ⟨f2, v, e2, r2, v2, fr2⟩ := t106 (nI 0) 61 (by decide)
      rw [wdF s61, Bool.and_false, Bool.false_and] at r2
      rw [if_neg (fun q => by cases q)] at r2
      exact ⟨f2, _, e2, r2, (fun _ q => by cases q), frM_t fr0 fr2⟩
  · rw [key (-nI 1) (if_neg hw).symm, lpS]
    show MR T n nm f l R (fn_Mo_test_L4 137 (-nI 1) (nI 6) (mk f l R) _) w k _
    refine ⟨up f 137 12 (nI 0), false, ?_, ?_, ?_, frM_up (Or.inr rfl)⟩
    · have h66 : decide ((6 : Int32) ≤ nI 6) = true := rfl
      have hm1 : decide ((-nI 1 : Int32) = (-1 : Int32)) = true := rfl
      simp only [fn_Mo_test_L4, h66, hm1, gT_mk_137, wbr_T, wbr_F, wgd_T, wbq, wbv, wnm, zI_mk, zL_mk, uI_mk, uL_mk, kI_mk, kL_mk]
      rfl
    · cases w
      · exact MP_no h
      · have hl : ¬ lix (sg T n k) < 6 := fun q => hw (by rw [Bool.true_and, decide_eq_true_eq]; exact q)
        unfold pTest
        rw [if_neg hl]
        exact MP_no h
    · intro q1 q2
      subst q1
      have hl : ¬ lix (sg T n k) < 6 := fun q => hw (by rw [Bool.true_and, decide_eq_true_eq]; exact q)
      unfold pTest at q2
      rw [if_neg hl] at q2
      cases q2
end
