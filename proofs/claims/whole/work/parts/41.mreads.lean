/-! THE READER of the model: E, F -/
section
variable {f f' : Nat → Nat → Int32} {l : Nat → Nat → Int64} {R : Nat → Nat} {T : Nat → Nat} {n k : Nat} {nm : Nat → Nat} {w : Bool}
def frW (f f' : Nat → Nat → Int32) : Prop := ∀ p j, (p = 137 → ¬ j = 11 ∧ ¬ j = 12 ∧ ¬ j = 13) → f' p j = f p j
theorem MP_13 (h : MP T n k w f) {x : Int32} : MP T n k w (up f 137 13 x) := ⟨(up_nj (by decide)).trans h.1, (up_nj (by decide)).trans h.2.1, (up_nj (by decide)).trans h.2.2.1, fun j hj => (up_np (by decide)).trans (h.2.2.2 j hj)⟩
theorem mK_up {j : Nat} {x : Int32} (h : mK nm f) : mK nm (up f 137 j x) :=
  ⟨fun j hj => (up_np (by decide)).trans (h.1 j hj), fun j hj => (up_np (by decide)).trans (h.2.1 j hj), fun j hj => ⟨(up_np (by decide)).trans (h.2.2 j hj).1, (h.2.2 j hj).2⟩⟩
theorem MP_w (h : MP T n k w f) {w' : Bool} (e : w = w') : MP T n k w' f := e ▸ h
/-- what a reader of F's is asked to do, by the model: dep stands in 'within' -/
def MF (T : Nat → Nat) (n : Nat) (nm : Nat → Nat) (l : Nat → Nat → Int64) (R : Nat → Nat) (o : Nat → zS → Option (Int32 × zS)) (dep : Nat) (F : Nat → pR) : Prop :=
  ∀ (f : Nat → Nat → Int32) (k : Nat) (w : Bool), MP T n k w f → k ≤ n → f 137 13 = nI dep → mK nm f → MR T n nm f l R (o 137 (mk f l R)) w k (F k)
theorem frM_13 (h : frM f f') : f' 137 13 = f 137 13 := h 137 13 (fun _ => ⟨by decide, by decide⟩)
section
variable {o0 o1 o2 : Nat → zS → Option (Int32 × zS)} {dep : Nat} {F : Nat → pR}
theorem gZo_vb (b : Bool) : gZo (nI (vb b)) = true := by cases b <;> rfl
theorem m_bothl (hT : tOk T n) (hF : MF T n nm l R o2 dep F) (hG : pGo n F) : ∀ (u k G : Nat) (f : Nat → Nat → Int32) (w a : Bool) (c : List (Nat × Nat)) (v : (Nat → Nat) → Bool), MP T n k w f → k ≤ n → f 137 13 = nI dep → mK nm f → (w = true → n < k + u ∧ a = v nm) → u < G →
    MR T n nm f l R (lp (σ := Nat × Int32 × zS) (fun k s => fn_Mo_both_L5 o0 o1 o2 s.1 s.2.1 s.2.2 (fun (a0 : Nat) (a1 : Int32) (S : zS) => k (a0, a1, S))) G (137, nI (vb a), mk f l R)) w k (pTl T n F u k c v) := by
  intro u
  induction u with
  | zero =>
    intro k G f w a c v hP hk hd hm hw hu
    obtain ⟨G, rfl⟩ : ∃ H, G = H + 1 := ⟨G - 1, by omega⟩
    cases w
    · have e0 := m_isAt (l := l) (R := R) hT hP hk (c := 38) (by decide)
      rw [Bool.false_and, vb_F] at e0
      rw [lpS]
      show MR T n nm f l R (fn_Mo_both_L5 o0 o1 o2 137 (nI (vb a)) (mk f l R) _) false k _
      refine ⟨f, a, ?_, hP, (fun q => by cases q), frM_r⟩
      simp (disch := omega) only [fn_Mo_both_L5, e0, gZo_vb, gT_mk_137, wbr_T, wbr_F, wgd_T, wbq, wbv, wnm, zI_mk, zL_mk, uI_mk, uL_mk, kI_mk, kL_mk, nI_eq, wdT, wdF, wd1, wd0, li_0, li_38]
    · have := (hw rfl).1
      omega
  | succ u ih =>
    intro k G f w a c v hP hk hd hm hw hu
    obtain ⟨G, rfl⟩ : ∃ H, G = H + 1 := ⟨G - 1, by omega⟩
    have e0 := m_isAt (l := l) (R := R) hT hP hk (c := 38) (by decide)
    rw [lpS]
    show MR T n nm f l R (fn_Mo_both_L5 o0 o1 o2 137 (nI (vb a)) (mk f l R) _) w k _
    by_cases h1 : (w && decide (sg T n k = 38)) = true
    · rw [h1, vb_T] at e0
      rw [Bool.and_eq_true, decide_eq_true_eq] at h1
      obtain ⟨rfl, h1⟩ := h1
      have hkn := sg_lt h1 (by decide)
      obtain ⟨hw1, hw2⟩ := hw rfl
      unfold pTl
      rw [if_pos h1]
      obtain ⟨f1, b, e1, r1, v1, fr1⟩ := hF (up f 137 11 (nI (k + 1))) (k + 1) true (MP_at hP) (by omega) ((up_nj (by decide)).trans hd) (mK_up hm)
      rw [if_pos rfl, Bool.true_and] at r1
      have fr2 : frM f f1 := frM_t (frM_up (Or.inl rfl)) fr1
      have hS : ∀ K : Nat → Int32 → zS → Option (Int32 × zS), fn_Mo_both_L5 o0 o1 o2 137 (nI (vb a)) (mk f l R) K = K 137 (nI (vb (a && b))) (mk f1 l R) := by
        intro K
        cases a <;> cases b <;> simp (disch := omega) only [fn_Mo_both_L5, e0, hP.2.1, e1, vb_T, vb_F, Bool.true_and, Bool.false_and, Bool.and_true, Bool.and_false, gT_mk_137, wbr_T, wbr_F, wgd_T, wbq, wbv, wnm, zI_mk, zL_mk, uI_mk, uL_mk, kI_mk, kL_mk, nI_eq, nI_add, wdT, wdF, wd1, wd0, li_0, li_1, li_38]
      rw [hS]
      have hg := hG (k + 1)
      by_cases h2 : (F (k + 1)).1 = true
      · rw [if_pos h2]
        have g := hg h2
        rw [h2] at r1
        obtain ⟨f3, b3, e3, r3, v3, fr3⟩ := ih (F (k + 1)).2.1 G f1 true (a && b) (c ++ ((F (k + 1)).2.2.1 ++ [(38, 0)])) (fun nm => v nm && (F (k + 1)).2.2.2 nm) r1 g.2.1 ((frM_13 fr2).trans hd) (mK_fr hm fr2) (fun _ => ⟨by omega, by rw [hw2, v1 rfl h2]⟩) (by omega)
        exact ⟨f3, b3, e3, r3, v3, frM_t fr2 fr3⟩
      · rw [if_neg h2]
        rw [Bool.eq_false_iff.mpr h2] at r1
        have hle : (F (k + 1)).2.1 ≤ n ∨ True := Or.inr trivial
        -- not well: the place stays
        have hstop : ∀ (G' : Nat), 0 < G' → lp (σ := Nat × Int32 × zS) (fun k s => fn_Mo_both_L5 o0 o1 o2 s.1 s.2.1 s.2.2 (fun (a0 : Nat) (a1 : Int32) (S : zS) => k (a0, a1, S))) G' (137, nI (vb (a && b)), mk f1 l R) = some (nI (vb (a && b)), mk f1 l R) := by
          intro G' hG'
          obtain ⟨G', rfl⟩ : ∃ H, G' = H + 1 := ⟨G' - 1, by omega⟩
          rw [lpS]
          show fn_Mo_both_L5 o0 o1 o2 137 (nI (vb (a && b))) (mk f1 l R) _ = _
          have q := r1.2.2.1
          rw [vb_F] at q
          simp (disch := omega) only [fn_Mo_both_L5, fn_Mo_isAt, q, gZo_vb, gT_mk_137, wbr_T, wbr_F, wgd_T, wbq, wbv, wnm, zI_mk, zL_mk, uI_mk, uL_mk, kI_mk, kL_mk, nI_eq, wdT, wdF, wd1, wd0, li_0]
        refine ⟨f1, a && b, hstop G (by omega), ?_, (fun _ q => by cases q), fr2⟩
        exact r1
    · rw [Bool.eq_false_iff.mpr h1, vb_F] at e0
      have hS : ∀ K : Nat → Int32 → zS → Option (Int32 × zS), fn_Mo_both_L5 o0 o1 o2 137 (nI (vb a)) (mk f l R) K = some (nI (vb a), mk f l R) := by
        intro K
        simp (disch := omega) only [fn_Mo_both_L5, e0, gZo_vb, gT_mk_137, wbr_T, wbr_F, wgd_T, wbq, wbv, wnm, zI_mk, zL_mk, uI_mk, uL_mk, kI_mk, kL_mk, nI_eq, wdT, wdF, wd1, wd0, li_0, li_38]
      rw [hS]
      cases w
      · exact ⟨f, a, rfl, hP, (fun q => by cases q), frM_r⟩
      · have h3 : ¬ sg T n k = 38 := fun q => h1 (by rw [Bool.true_and, decide_eq_true_eq]; exact q)
        unfold pTl
        rw [if_neg h3]
        exact ⟨f, a, rfl, hP, (fun _ _ => (hw rfl).2), frM_r⟩
theorem m_both_o (hT : tOk T n) (hF : MF T n nm l R o2 dep F) (hG : pGo n F) : MF T n nm l R (fun a S => fn_Mo_both_o o0 o1 o2 a S) dep (pT T n F) := by
  intro f k w hP hk hd hm
  have hn := hT.1
  obtain ⟨f1, a, e1, r1, v1, fr1⟩ := hF f k w hP hk hd hm
  show MR T n nm f l R (fn_Mo_both_o o0 o1 o2 137 (mk f l R)) w k _
  have hS : fn_Mo_both_o o0 o1 o2 137 (mk f l R) = lp (σ := Nat × Int32 × zS) (fun k s => fn_Mo_both_L5 o0 o1 o2 s.1 s.2.1 s.2.2 (fun (a0 : Nat) (a1 : Int32) (S : zS) => k (a0, a1, S))) FU (137, nI (vb a), mk f1 l R) := by
    simp only [fn_Mo_both_o, e1, gT_mk_137, wbr_T, wbr_F, wgd_T, wbq, wbv, wnm, zI_mk, zL_mk, uI_mk, uL_mk, kI_mk, kL_mk]
  rw [hS]
  have hg := hG k
  by_cases h2 : (w && (F k).1) = true
  · rw [Bool.and_eq_true] at h2
    obtain ⟨rfl, h2⟩ := h2
    have g := hg h2
    rw [if_pos rfl, h2, Bool.true_and] at r1
    unfold pT
    rw [if_pos h2]
    obtain ⟨f3, b3, e3, r3, v3, fr3⟩ := m_bothl (o0 := o0) (o1 := o1) hT hF hG 101 (F k).2.1 FU f1 true a (F k).2.2.1 (F k).2.2.2 r1 g.2.1 ((frM_13 fr1).trans hd) (mK_fr hm fr1) (fun _ => ⟨by omega, v1 rfl h2⟩) (by decide)
    exact ⟨f3, b3, e3, r3, v3, frM_t fr1 fr3⟩
  · rw [Bool.eq_false_iff.mpr h2] at r1
    have q := r1.2.2.1
    rw [vb_F] at q
    have hstop : lp (σ := Nat × Int32 × zS) (fun k s => fn_Mo_both_L5 o0 o1 o2 s.1 s.2.1 s.2.2 (fun (a0 : Nat) (a1 : Int32) (S : zS) => k (a0, a1, S))) FU (137, nI (vb a), mk f1 l R) = some (nI (vb a), mk f1 l R) := by
      rw [lpFU]
      show fn_Mo_both_L5 o0 o1 o2 137 (nI (vb a)) (mk f1 l R) _ = _
      simp (disch := omega) only [fn_Mo_both_L5, fn_Mo_isAt, q, gZo_vb, gT_mk_137, wbr_T, wbr_F, wgd_T, wbq, wbv, wnm, zI_mk, zL_mk, uI_mk, uL_mk, kI_mk, kL_mk, nI_eq, wdT, wdF, wd1, wd0, li_0]
    refine ⟨f1, a, hstop, ?_, ?_, fr1⟩
    · cases w
      · exact r1
      · have h3 : ¬ (F k).1 = true := fun q => h2 (by rw [q]; rfl)
        unfold pT
        rw [if_neg h3]
        exact r1
    · intro q1 q2
      subst q1
      have h3 : ¬ (F k).1 = true := fun q => h2 (by rw [q]; rfl)
      unfold pT at q2
      rw [if_neg h3] at q2
      cases q2
theorem m_anyl (hT : tOk T n) (hF : MF T n nm l R o1 dep (pT T n F)) (hG : pGo n F) : ∀ (u k G : Nat) (f : Nat → Nat → Int32) (a : Bool) (c : List (Nat × Nat)) (v : (Nat → Nat) → Bool), MP T n k true f → k ≤ n → f 137 13 = nI dep → mK nm f → n < k + u → a = v nm → u < G →
    MR T n nm f l R (lp (σ := Nat × Int32 × zS) (fun k s => fn_Mo_any_L5 o0 o1 o2 s.1 s.2.1 s.2.2 (fun (a0 : Nat) (a1 : Int32) (S : zS) => k (a0, a1, S))) G (137, nI (vb a), mk f l R)) true k (pEl T n F u k c v) := by
  intro u
  induction u with
  | zero =>
    intro k G f a c v hP hk hd hm hw1 hw2 hu
    omega
  | succ u ih =>
    intro k G f a c v hP hk hd hm hw1 hw2 hu
    obtain ⟨G, rfl⟩ : ∃ H, G = H + 1 := ⟨G - 1, by omega⟩
    have e0 := m_isAt (l := l) (R := R) hT hP hk (c := 124) (by decide)
    rw [Bool.true_and] at e0
    rw [lpS]
    show MR T n nm f l R (fn_Mo_any_L5 o0 o1 o2 137 (nI (vb a)) (mk f l R) _) true k _
    unfold pEl
    by_cases h1 : sg T n k = 124
    · rw [wdT h1, vb_T] at e0
      have hkn := sg_lt h1 (by decide)
      rw [if_pos h1]
      obtain ⟨f1, b, e1, r1, v1, fr1⟩ := hF (up f 137 11 (nI (k + 1))) (k + 1) true (MP_at hP) (by omega) ((up_nj (by decide)).trans hd) (mK_up hm)
      rw [if_pos rfl, Bool.true_and] at r1
      have fr2 : frM f f1 := frM_t (frM_up (Or.inl rfl)) fr1
      have hS : ∀ K : Nat → Int32 → zS → Option (Int32 × zS), fn_Mo_any_L5 o0 o1 o2 137 (nI (vb a)) (mk f l R) K = K 137 (nI (vb (a || b))) (mk f1 l R) := by
        intro K
        cases a <;> cases b <;> simp (disch := omega) only [fn_Mo_any_L5, e0, hP.2.1, e1, vb_T, vb_F, Bool.true_or, Bool.false_or, Bool.or_true, Bool.or_false, gT_mk_137, wbr_T, wbr_F, wgd_T, wbq, wbv, wnm, zI_mk, zL_mk, uI_mk, uL_mk, kI_mk, kL_mk, nI_eq, nI_add, wdT, wdF, wd1, wd0, li_0, li_1, li_124]
      rw [hS]
      have hg := pT_go (T := T) hG (k + 1)
      by_cases h2 : (pT T n F (k + 1)).1 = true
      · rw [if_pos h2]
        have g := hg h2
        rw [h2] at r1
        obtain ⟨f3, b3, e3, r3, v3, fr3⟩ := ih (pT T n F (k + 1)).2.1 G f1 (a || b) (c ++ ((pT T n F (k + 1)).2.2.1 ++ [(124, 0)])) (fun nm => v nm || (pT T n F (k + 1)).2.2.2 nm) r1 g.2.1 ((frM_13 fr2).trans hd) (mK_fr hm fr2) (by omega) (by rw [hw2, v1 rfl h2]) (by omega)
        exact ⟨f3, b3, e3, r3, v3, frM_t fr2 fr3⟩
      · rw [if_neg h2]
        rw [Bool.eq_false_iff.mpr h2] at r1
        have q := r1.2.2.1
        rw [vb_F] at q
        obtain ⟨G, rfl⟩ : ∃ H, G = H + 1 := ⟨G - 1, by omega⟩
        have hstop : lp (σ := Nat × Int32 × zS) (fun k s => fn_Mo_any_L5 o0 o1 o2 s.1 s.2.1 s.2.2 (fun (a0 : Nat) (a1 : Int32) (S : zS) => k (a0, a1, S))) (G + 1) (137, nI (vb (a || b)), mk f1 l R) = some (nI (vb (a || b)), mk f1 l R) := by
          rw [lpS]
          show fn_Mo_any_L5 o0 o1 o2 137 (nI (vb (a || b))) (mk f1 l R) _ = _
          simp (disch := omega) only [fn_Mo_any_L5, fn_Mo_isAt, q, gZo_vb, gT_mk_137, wbr_T, wbr_F, wgd_T, wbq, wbv, wnm, zI_mk, zL_mk, uI_mk, uL_mk, kI_mk, kL_mk, nI_eq, wdT, wdF, wd1, wd0, li_0]
        exact ⟨f1, a || b, hstop, r1, (fun _ q => by cases q), fr2⟩
    · rw [wdF h1, vb_F] at e0
      rw [if_neg h1]
      refine ⟨f, a, ?_, hP, (fun _ _ => hw2), frM_r⟩
      simp (disch := omega) only [fn_Mo_any_L5, e0, gZo_vb, gT_mk_137, wbr_T, wbr_F, wgd_T, wbq, wbv, wnm, zI_mk, zL_mk, uI_mk, uL_mk, kI_mk, kL_mk, nI_eq, wdT, wdF, wd1, wd0, li_0, li_124]
theorem m_any_o (hT : tOk T n) (hF : MF T n nm l R o1 dep (pT T n F)) (hG : pGo n F) : MF T n nm l R (fun a S => fn_Mo_any_o o0 o1 o2 a S) dep (pE T n F) := by
  intro f k w hP hk hd hm
  have hn := hT.1
  obtain ⟨f1, a, e1, r1, v1, fr1⟩ := hF f k w hP hk hd hm
  show MR T n nm f l R (fn_Mo_any_o o0 o1 o2 137 (mk f l R)) w k _
  have hS : fn_Mo_any_o o0 o1 o2 137 (mk f l R) = lp (σ := Nat × Int32 × zS) (fun k s => fn_Mo_any_L5 o0 o1 o2 s.1 s.2.1 s.2.2 (fun (a0 : Nat) (a1 : Int32) (S : zS) => k (a0, a1, S))) FU (137, nI (vb a), mk f1 l R) := by
    simp only [fn_Mo_any_o, e1, gT_mk_137, wbr_T, wbr_F, wgd_T, wbq, wbv, wnm, zI_mk, zL_mk, uI_mk, uL_mk, kI_mk, kL_mk]
  rw [hS]
  have hg := pT_go (T := T) hG k
  by_cases h2 : (w && (pT T n F k).1) = true
  · rw [Bool.and_eq_true] at h2
    obtain ⟨rfl, h2⟩ := h2
    have g := hg h2
    rw [if_pos rfl, h2, Bool.true_and] at r1
    unfold pE
    rw [if_pos h2]
    obtain ⟨f3, b3, e3, r3, v3, fr3⟩ := m_anyl (o0 := o0) (o2 := o2) hT hF hG 101 (pT T n F k).2.1 FU f1 a (pT T n F k).2.2.1 (pT T n F k).2.2.2 r1 g.2.1 ((frM_13 fr1).trans hd) (mK_fr hm fr1) (by omega) (v1 rfl h2) (by decide)
    exact ⟨f3, b3, e3, r3, v3, frM_t fr1 fr3⟩
  · rw [Bool.eq_false_iff.mpr h2] at r1
    have q := r1.2.2.1
    rw [vb_F] at q
    have hstop : lp (σ := Nat × Int32 × zS) (fun k s => fn_Mo_any_L5 o0 o1 o2 s.1 s.2.1 s.2.2 (fun (a0 : Nat) (a1 : Int32) (S : zS) => k (a0, a1, S))) FU (137, nI (vb a), mk f1 l R) = some (nI (vb a), mk f1 l R) := by
      rw [lpFU]
      show fn_Mo_any_L5 o0 o1 o2 137 (nI (vb a)) (mk f1 l R) _ = _
      simp (disch := omega) only [fn_Mo_any_L5, fn_Mo_isAt, q, gZo_vb, gT_mk_137, wbr_T, wbr_F, wgd_T, wbq, wbv, wnm, zI_mk, zL_mk, uI_mk, uL_mk, kI_mk, kL_mk, nI_eq, wdT, wdF, wd1, wd0, li_0]
    refine ⟨f1, a, hstop, ?_, ?_, fr1⟩
    · cases w
      · exact r1
      · have h3 : ¬ (pT T n F k).1 = true := fun q => h2 (by rw [q]; rfl)
        unfold pE
        rw [if_neg h3]
        exact r1
    · intro q1 q2
      subst q1
      have h3 : ¬ (pT T n F k).1 = true := fun q => h2 (by rw [q]; rfl)
      unfold pE at q2
      rw [if_neg h3] at q2
      cases q2
end
theorem any_S (u a : Nat) (S : zS) : fn_Mo_any (u + 1) a S = fn_Mo_any_o (fun b0 S => fn_Mo_any u b0 S) (fun b0 S => fn_Mo_both u b0 S) (fun b0 S => fn_Mo_factor u b0 S) a S := by
  unfold fn_Mo_any fn_Mo_both fn_Mo_factor
  rw [lpS]
  rfl
theorem both_S (u a : Nat) (S : zS) : fn_Mo_both (u + 1) a S = fn_Mo_both_o (fun b0 S => fn_Mo_any u b0 S) (fun b0 S => fn_Mo_both u b0 S) (fun b0 S => fn_Mo_factor u b0 S) a S := by
  unfold fn_Mo_any fn_Mo_both fn_Mo_factor
  rw [lpS]
  rfl
theorem mfactor_S (u a : Nat) (S : zS) : fn_Mo_factor (u + 1) a S = fn_Mo_factor_o (fun b0 S => fn_Mo_any u b0 S) (fun b0 S => fn_Mo_both u b0 S) (fun b0 S => fn_Mo_factor u b0 S) a S := by
  unfold fn_Mo_any fn_Mo_both fn_Mo_factor
  rw [lpS]
  rfl
theorem m_factor (hT : tOk T n) : ∀ (d u : Nat), d ≤ 4 → 3 * d < u → MF T n nm l R (fun a S => fn_Mo_factor u a S) (4 - d) (pF T n d)
  | 0, u, hd, hu => by
    intro f k w hP hk hdp hm
    obtain ⟨u, rfl⟩ : ∃ w, u = w + 1 := ⟨u - 1, by omega⟩
    show MR T n nm f l R (fn_Mo_factor (u + 1) 137 (mk f l R)) w k (pTest T n k)
    rw [mfactor_S]
    obtain ⟨f1, a, e1, r1, v1, fr1⟩ := m_test (l := l) (R := R) hT hP hk hm
    refine ⟨f1, a, ?_, r1, v1, fr1⟩
    simp (disch := omega) only [fn_Mo_factor_o, fn_Mo_factor_L63, e1, hdp, Nat.sub_zero, gZo_vb, gT_mk_137, wbr_T, wbr_F, wgd_T, wbq, wbv, wnm, zI_mk, zL_mk, uI_mk, uL_mk, kI_mk, kL_mk, nI_leI, wdT, wdF, wd1, wd0, li_4]
  | d + 1, u, hd, hu => by
    intro f k w hP hk hdp hm
    obtain ⟨u, rfl⟩ : ∃ w, u = w + 1 := ⟨u - 1, by omega⟩
    have hn := hT.1
    have ihF := m_factor hT d u (by omega) (by omega)
    show MR T n nm f l R (fn_Mo_factor (u + 1) 137 (mk f l R)) w k (pF T n (d + 1) k)
    rw [mfactor_S]
    have hdd : 4 - (d + 1) < 4 := by omega
    have hdd2 : 4 - (d + 1) + 1 = 4 - d := by omega
    generalize 4 - (d + 1) = dd at *
    have e33 := m_isAt (l := l) (R := R) hT hP hk (c := 33) (by decide)
    have e40 := m_isAt (l := l) (R := R) hT hP hk (c := 40) (by decide)
    have hback : nI (dd + 1) - nI 1 = nI dd := by rw [nI_sub (by omega)]; rfl
    -- a test, where neither ( nor ! stands
    have tst : (w && decide (sg T n k = 33)) = false → (w && decide (sg T n k = 40)) = false → MR T n nm f l R (fn_Mo_factor_o (fun b0 S => fn_Mo_any u b0 S) (fun b0 S => fn_Mo_both u b0 S) (fun b0 S => fn_Mo_factor u b0 S) 137 (mk f l R)) w k (pTest T n k) := by
      intro q1 q2
      rw [q1, vb_F] at e33
      rw [q2, vb_F] at e40
      obtain ⟨f1, a, e1, r1, v1, fr1⟩ := m_test (l := l) (R := R) hT hP hk hm
      refine ⟨f1, a, ?_, r1, v1, fr1⟩
      simp (disch := omega) only [fn_Mo_factor_o, fn_Mo_factor_L63, e1, hdp, e33, e40, gZo_vb, gT_mk_137, wbr_T, wbr_F, wgd_T, wbq, wbv, wnm, zI_mk, zL_mk, uI_mk, uL_mk, kI_mk, kL_mk, nI_leI, nI_eq, wdT, wdF, wd1, wd0, li_0, li_4, li_33, li_40]
    cases w
    · obtain ⟨f1, a, e1, r1, v1, fr1⟩ := tst rfl rfl
      exact ⟨f1, a, e1, r1, (fun q => by cases q), fr1⟩
    rw [Bool.true_and] at e33 e40 tst
    rw [Bool.true_and] at tst
    -- what stands within one more
    have q1 : MP T n (k + 1) true (up (up f 137 11 (nI (k + 1))) 137 13 (nI (dd + 1))) := MP_13 (MP_at hP)
    have hm1 : mK nm (up (up f 137 11 (nI (k + 1))) 137 13 (nI (dd + 1))) := mK_up (mK_up hm)
    have frb : ∀ {f1 : Nat → Nat → Int32}, frM (up (up f 137 11 (nI (k + 1))) 137 13 (nI (dd + 1))) f1 → frM f (up f1 137 13 (nI dd)) := fun {f1} h p j q => by
      by_cases e : p = 137
      · have := q e
        by_cases e2 : j = 13
        · subst e e2
          rw [up_eq]
          exact hdp.symm
        · rw [up_nj e2, h p j q, up_nj e2, up_nj this.1]
      · rw [up_np e, h p j q, up_np e, up_np e]
    unfold pF
    by_cases h1 : sg T n k = 33
    · have hkn := sg_lt h1 (by decide)
      rw [if_pos h1]
      rw [wdT h1, vb_T] at e33
      obtain ⟨f1, a, e1, r1, v1, fr1⟩ := ihF _ (k + 1) true q1 (by omega) (by rw [up_eq, hdd2]) hm1
      rw [if_pos rfl, Bool.true_and] at r1
      have g13 : f1 137 13 = nI (dd + 1) := (frM_13 fr1).trans up_eq
      have hS : fn_Mo_factor_o (fun b0 S => fn_Mo_any u b0 S) (fun b0 S => fn_Mo_both u b0 S) (fun b0 S => fn_Mo_factor u b0 S) 137 (mk f l R) = some (nI (vb (!a)), mk (up f1 137 13 (nI dd)) l R) := by
        cases a <;> simp (disch := omega) only [fn_Mo_factor_o, e33, hP.2.1, hdp, up_nj, e1, g13, hback, vb_T, vb_F, Bool.not_true, Bool.not_false, gT_mk_137, wbr_T, wbr_F, wgd_T, wbq, wbv, wnm, zI_mk, zL_mk, uI_mk, uL_mk, kI_mk, kL_mk, nI_leI, nI_eq, nI_add, wdT, wdF, wd1, wd0, li_0, li_1, li_4, li_33]
      rw [hS]
      by_cases h2 : (pF T n d (k + 1)).1 = true
      · rw [if_pos h2]
        rw [h2] at r1
        exact ⟨_, _, rfl, MP_13 r1, (fun _ _ => by rw [v1 rfl h2]), frb fr1⟩
      · rw [if_neg h2]
        rw [Bool.eq_false_iff.mpr h2] at r1
        exact ⟨_, _, rfl, MP_13 r1, (fun _ q => by cases q), frb fr1⟩
    · rw [if_neg h1]
      rw [wdF h1, vb_F] at e33
      by_cases h3 : sg T n k = 40
      · have hkn := sg_lt h3 (by decide)
        rw [if_pos h3]
        rw [wdT h3, vb_T] at e40
        obtain ⟨u, rfl⟩ : ∃ w, u = w + 2 := ⟨u - 2, by omega⟩
        have ihF2 := m_factor hT d u (by omega) (by omega)
        have hB : MF T n nm l R (fun b0 S => fn_Mo_both (u + 1) b0 S) (4 - d) (pT T n (pF T n d)) := by
          have := m_both_o (o0 := fun b0 S => fn_Mo_any u b0 S) (o1 := fun b0 S => fn_Mo_both u b0 S) hT ihF2 (pF_go d)
          intro f k w a b c e
          show MR T n nm f l R (fn_Mo_both (u + 1) 137 (mk f l R)) w k _
          rw [both_S]
          exact this f k w a b c e
        have hE : MF T n nm l R (fun b0 S => fn_Mo_any (u + 2) b0 S) (4 - d) (pE T n (pF T n d)) := by
          have := m_any_o (o0 := fun b0 S => fn_Mo_any (u + 1) b0 S) (o2 := fun b0 S => fn_Mo_factor (u + 1) b0 S) hT hB (pF_go d)
          intro f k w a b c e
          show MR T n nm f l R (fn_Mo_any (u + 2) 137 (mk f l R)) w k _
          rw [any_S]
          exact this f k w a b c e
        obtain ⟨f1, a, e1, r1, v1, fr1⟩ := hE _ (k + 1) true q1 (by omega) (by rw [up_eq, hdd2]) hm1
        dsimp only at e1
        rw [if_pos rfl, Bool.true_and] at r1
        have g13 : f1 137 13 = nI (dd + 1) := (frM_13 fr1).trans up_eq
        have hle : (pE T n (pF T n d) (k + 1)).2.1 ≤ n ∨ (pE T n (pF T n d) (k + 1)).1 = false := by
          by_cases h2 : (pE T n (pF T n d) (k + 1)).1 = true
          · exact Or.inl (pE_go (pF_go d) (k + 1) h2).2.1
          · exact Or.inr (Bool.eq_false_iff.mpr h2)
        by_cases h2 : (pE T n (pF T n d) (k + 1)).1 = true
        · rw [if_pos h2]
          have g := pE_go (pF_go d) (k + 1) h2
          rw [h2] at r1
          obtain ⟨f2, e2, r2, fr2⟩ := m_takes (l := l) (R := R) hT (MP_13 (x := nI dd) r1) g.2.1 (c := 41) (by decide)
          have hS : fn_Mo_factor_o (fun b0 S => fn_Mo_any (u + 2) b0 S) (fun b0 S => fn_Mo_both (u + 2) b0 S) (fun b0 S => fn_Mo_factor (u + 2) b0 S) 137 (mk f l R) = some (nI (vb a), mk f2 l R) := by
            simp (disch := omega) only [fn_Mo_factor_o, fn_Mo_factor_L63, e33, e40, hP.2.1, hdp, up_nj, e1, e2, g13, hback, gZo_vb, gT_mk_137, wbr_T, wbr_F, wgd_T, wbq, wbv, wnm, zI_mk, zL_mk, uI_mk, uL_mk, kI_mk, kL_mk, nI_leI, nI_eq, nI_add, wdT, wdF, wd1, wd0, li_0, li_1, li_4, li_33, li_40, li_41]
          rw [hS]
          rw [Bool.true_and] at r2
          by_cases h4 : sg T n (pE T n (pF T n d) (k + 1)).2.1 = 41
          · rw [if_pos h4]
            rw [wdT h4, if_pos rfl] at r2
            exact ⟨_, _, rfl, r2, (fun _ _ => v1 rfl h2), frM_t (frb fr1) fr2⟩
          · rw [if_neg h4]
            rw [wdF h4, if_neg (fun q => by cases q)] at r2
            exact ⟨_, _, rfl, r2, (fun _ q => by cases q), frM_t (frb fr1) fr2⟩
        · rw [if_neg h2]
          rw [Bool.eq_false_iff.mpr h2] at r1
          have r3 : MP T n (pE T n (pF T n d) (k + 1)).2.1 false (up f1 137 13 (nI dd)) := MP_13 r1
          have q3 := r3.2.2.1
          rw [vb_F] at q3
          have e2 : fn_Mo_takes 137 (nI 41) (mk (up f1 137 13 (nI dd)) l R) = some (mk (up (up f1 137 13 (nI dd)) 137 12 (nI 0)) l R) := by
            simp (disch := omega) only [fn_Mo_takes, fn_Mo_isAt, q3, gT_mk_137, wbr_T, wbr_F, wgd_T, wbq, wbv, wnm, zI_mk, zL_mk, uI_mk, uL_mk, kI_mk, kL_mk, nI_eq, wdT, wdF, wd1, wd0, li_0]
          have hS : fn_Mo_factor_o (fun b0 S => fn_Mo_any (u + 2) b0 S) (fun b0 S => fn_Mo_both (u + 2) b0 S) (fun b0 S => fn_Mo_factor (u + 2) b0 S) 137 (mk f l R) = some (nI (vb a), mk (up (up f1 137 13 (nI dd)) 137 12 (nI 0)) l R) := by
            simp (disch := omega) only [fn_Mo_factor_o, fn_Mo_factor_L63, e2, e33, e40, hP.2.1, hdp, up_nj, e1, g13, hback, gZo_vb, gT_mk_137, wbr_T, wbr_F, wgd_T, wbq, wbv, wnm, zI_mk, zL_mk, uI_mk, uL_mk, kI_mk, kL_mk, nI_leI, nI_eq, nI_add, wdT, wdF, wd1, wd0, li_0, li_1, li_4, li_33, li_40, li_41]
          rw [hS]
          exact ⟨_, _, rfl, MP_no r3, (fun _ q => by cases q), frM_t (frb fr1) (frM_up (Or.inr rfl))⟩
      · rw [if_neg h3]
        exact tst (wdF h1) (wdF h3)
theorem m_any (hT : tOk T n) : MF T n nm l R (fun a S => fn_Mo_any FR a S) 0 (pE T n (pF T n 4)) := by
  have hF := m_factor (nm := nm) (l := l) (R := R) hT 4 58 (by decide) (by decide)
  have hB : MF T n nm l R (fun b0 S => fn_Mo_both 59 b0 S) 0 (pT T n (pF T n 4)) := by
    have := m_both_o (o0 := fun b0 S => fn_Mo_any 58 b0 S) (o1 := fun b0 S => fn_Mo_both 58 b0 S) hT hF (pF_go 4)
    intro f k w a b c e
    show MR T n nm f l R (fn_Mo_both (58 + 1) 137 (mk f l R)) w k _
    rw [both_S]
    exact this f k w a b c e
  have := m_any_o (o0 := fun b0 S => fn_Mo_any 59 b0 S) (o2 := fun b0 S => fn_Mo_factor 59 b0 S) hT hB (pF_go 4)
  intro f k w a b c e
  show MR T n nm f l R (fn_Mo_any (59 + 1) 137 (mk f l R)) w k _
  rw [any_S]
  exact this f k w a b c e
end
