/-! THE LAW ANSWERS 1 on every script -/
theorem lw_lp {X : zXt} (hX : X.1 ≤ 3072) : ∀ (e i G : Nat) (f : Nat → Nat → Int32) (l : Nat → Nat → Int64) (R : Nat → Nat), Iv f l R → i ≤ 3072 + 6 → X.1 < i + 6 * e + 6 → e < G →
    ∃ f' l' R', lp (σ := Nat × Nat × Int32 × zS) (fun k s => fn_Law_law_L18 X s.1 s.2.1 s.2.2.1 s.2.2.2 (fun (a1 : Nat) (a2 : Nat) (a3 : Int32) (S : zS) => k (a1, a2, a3, S))) G (16, 137, nI i, mk f l R) = some (1, mk f' l' R') := by
  have done : ∀ (i : Nat) (f : Nat → Nat → Int32) (l : Nat → Nat → Int64) (R : Nat → Nat) (K : Nat → Nat → Int32 → zS → Option (Int32 × zS)), i ≤ 3072 + 6 → X.1 < i + 6 → fn_Law_law_L18 X 16 137 (nI i) (mk f l R) K = some (1, mk f l R) := by
    intro i f l R K h1 h2
    unfold fn_Law_law_L18
    rw [wdT (show Int32.ofNat X.1 - (6 : Int32) < nI i from (sub_lt' (a := X.1) (b := 6) (c := i) (by omega) (by decide) (by omega)).mpr h2), wbr_T]
  intro e
  induction e with
  | zero =>
    intro i G f l R h h1 h2 hG
    obtain ⟨G, rfl⟩ : ∃ H, G = H + 1 := ⟨G - 1, by omega⟩
    rw [lpS]
    exact ⟨f, l, R, done i f l R _ h1 (by omega)⟩
  | succ e ih =>
    intro i G f l R h h1 h2 hG
    obtain ⟨G, rfl⟩ : ∃ H, G = H + 1 := ⟨G - 1, by omega⟩
    rw [lpS]
    by_cases c : X.1 < i + 6
    · exact ⟨f, l, R, done i f l R _ h1 c⟩
    · obtain ⟨f1, l1, R1, q1, q2⟩ := lw_step (X := X) (i := i) h hX (by omega)
      obtain ⟨f2, l2, R2, q3⟩ := ih (i + 6) G f1 l1 R1 q1 (by omega) (by omega) (by omega)
      exact ⟨f2, l2, R2, (q2 _).trans q3⟩
set_option maxRecDepth 100000 in
theorem zN_3 : (fn_Ls_init 16 (uN zs0 (109, 12))).map zN = some 137 := by decide +kernel
theorem gT_uN (S : zS) (t n : Nat) : gT (uN S (t, n)) (zN S) t = true := by
  unfold gT zT uN
  show Nat.beq (if zN S = zN S then (t, n) else _).1 t = true
  rw [if_pos rfl]
  exact Nat.beq_refl t
theorem law_pure (X : zXt) (hX : X.1 ≤ 3072) : ∃ S' : zS, fn_Law_law X zs0 = some (1, S') ∧ zN S' ≤ 600016 ∧ zC S' ≤ 7302249 := by
  have hz := zctor
  have h3 := zN_3
  cases hb : fn_Ls_init 16 (uN zs0 (109, 12)) with
  | none =>
    rw [hb] at h3
    cases h3
  | some S3 =>
    rw [hb] at h3 hz
    rw [wbv] at hz
    have e3 : zN S3 = 137 := Option.some.inj h3
    obtain ⟨f', l', R', q⟩ := lw_lp (X := X) hX 512 0 FU zf1 zl1 zR1 Iv_0 (Nat.zero_le _) (by omega) (by decide)
    refine ⟨mk f' l' R', ?_, by rw [zN_mk]; decide, by rw [zC_mk]; decide⟩
    have g1 : gT (uN zs0 (109, 12)) 16 109 = true := gT_uN zs0 109 12
    have g2 : gT (uN S3 (110, 32)) 137 110 = true := by
      have := gT_uN S3 110 32
      rw [e3] at this
      exact this
    have e16 : zN zs0 = 16 := rfl
    unfold fn_Law_law
    rw [wnm, e16, show 100 + 9 = 109 from rfl, g1, wgd_T, hb, wbv, wnm, e3, show 100 + 10 = 110 from rfl, g2, wgd_T, hz, wbv, zS1_mk]
    exact q
