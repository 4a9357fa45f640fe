/-! A NEW OBJECT, of the two -/
theorem zrun_I (p : Nat) : ∀ (r : List (Nat × Nat × Nat × Nat)) (S : zS), (r.all fun w => !(Nat.beq w.1 1) || !(Nat.beq w.2.1 p)) = true → ∀ j, (zrun r S).1 p j = S.1 p j
  | [], _, _, _ => rfl
  | w :: r, S, h, j => by
    rw [List.all_cons, Bool.and_eq_true] at h
    refine (zrun_I p r (zop S w) h.2 j).trans ?_
    obtain ⟨k, a, c, x⟩ := w
    have h1 := h.1
    match k, h1 with
    | 0, _ => rfl
    | 1, h1 =>
      show (if p = a ∧ j = c then Int32.ofNat x else S.1 p j) = S.1 p j
      refine if_neg (fun q => ?_)
      have e : Nat.beq a p = true := by
        rw [q.1]
        exact Nat.beq_refl a
      have h2 : (!(Nat.beq 1 1) || !(Nat.beq a p)) = true := h1
      rw [e] at h2
      exact absurd h2 (by decide)
    | k + 2, _ => rfl
set_option maxRecDepth 100000 in
theorem zi_138 (k : Nat) : zf1 138 k = nI 0 := (zrun_I 138 zops zs0 (by decide +kernel) k).trans rfl
set_option maxRecDepth 100000 in
theorem zi_41 : (∀ i, i < 6 → zf1 (41 + 10 + 2 * i) 1 = nI i) ∧ zf1 (41 + 4) 1 = nI 5 ∧ zf1 (41 + 6) 1 = nI 8 ∧ zf1 (41 + 8) 1 = nI 8 := by decide +kernel
set_option maxRecDepth 100000 in
theorem zi_63 : (∀ i, i < 6 → zf1 (63 + 10 + 2 * i) 1 = nI i) ∧ zf1 (63 + 4) 1 = nI 5 ∧ zf1 (63 + 6) 1 = nI 8 ∧ zf1 (63 + 8) 1 = nI 8 := by decide +kernel
set_option maxRecDepth 100000 in
theorem zi_85 : (∀ i, i < 6 → zf1 (85 + 10 + 2 * i) 1 = nI i) ∧ zf1 (85 + 4) 1 = nI 5 ∧ zf1 (85 + 6) 1 = nI 8 ∧ zf1 (85 + 8) 1 = nI 8 := by decide +kernel
set_option maxRecDepth 100000 in
theorem zi_v : ∀ k, k < 110 → 60 ≤ k → (k ≤ 69 ∨ k = 71 ∨ k = 87 ∨ k = 104) → zf1 (41 + (lc k).1) (lc k).2 = nI 0 := by decide +kernel
set_option maxRecDepth 100000 in
theorem zi_r : ∀ k, k < 71 → 0 < rng 0 9999 k := by decide +kernel
set_option maxRecDepth 100000 in
theorem zi_s : (zf1 16 11 = nI 0 ∧ zf1 137 3 = nI 0) ∧ ((zf1 38 2 = nI 0 ∧ zf1 38 3 = nI 6) ∧ zf1 16 10 = nI 0 ∧ zf1 137 8 = nI 0) ∧ (zf1 19 1 = nI 0 ∧ zf1 137 5 = nI 0) ∧ zf1 32 1 = nI 0 ∧ zf1 137 27 = nI 0 := by decide +kernel
set_option maxRecDepth 100000 in
theorem zi_t : ∀ t, t < 6 → zf1 (125 + 2 * t) 1 = -nI 1 ∧ zf1 154 t = -nI 1 ∧ zf1 (125 + 2 * t) 2 = nI 0 ∧ zf1 155 t = nI 0 := by decide +kernel
set_option maxRecDepth 100000 in
theorem zi_f : ∀ j, j < 20 → zf1 33 j = zf1 153 j := by decide +kernel
set_option maxRecDepth 100000 in
theorem zi_k : (∀ j, j < 7 → zf1 1 j = zb1.getD j 0) ∧ (∀ j, j < 7 → zf1 151 j = zb1.getD j 0) := by decide +kernel
set_option maxRecDepth 100000 in
theorem zi_b : (∀ j, j < 21 → zf1 2 j = zb2.getD j 0) ∧ (∀ j, j < 21 → zf1 152 j = zb2.getD j 0) := by decide +kernel
set_option maxRecDepth 100000 in
theorem zi_w : (∀ j, j < 4 → zf1 7 j = nI ([119, 101, 97, 114].getD j 0)) ∧ (∀ j, j < 5 → zf1 8 j = nI ([115, 99, 114, 117, 98].getD j 0)) ∧ ∀ j, j < 4 → zf1 9 j = nI ([115, 111, 102, 116].getD j 0) := by decide +kernel
set_option maxRecDepth 100000 in
theorem zi_m : (∀ j, j < 6 → zf1 146 j = nI ([112, 107, 118, 119, 116, 100].getD j 0)) ∧ (∀ j, j < 15 → zf1 147 j = nI ([115, 99, 114, 117, 98, 115, 111, 102, 116, 0, 119, 101, 97, 114, 0].getD j 0)) := by decide +kernel
theorem zi_A : JA 0 zf1 zR1 := by
  refine ⟨fun _ => 0, ⟨⟨by decide, by decide, by decide, by decide⟩, zi_41, rfl, fun k hk => ?_⟩, fun k => zi_138 k, fun k hk => zi_r k hk, ⟨⟨by decide, by decide, by decide⟩, fun r hr => absurd hr (Nat.not_lt_zero _), fun r hr => absurd hr (Nat.not_lt_zero _), fun r hr => absurd hr (Nat.not_lt_zero _)⟩⟩
  have hk' : k < 10 * 0 ∨ (60 ≤ k ∧ k ≤ 69) ∨ (71 ≤ k ∧ k < 72 + 3 * 0) ∨ (87 ≤ k ∧ k < 88 + 2 * 0) ∨ (104 ≤ k ∧ k < 105 + 2 * 0) := hk
  have e := zi_v k (by omega) (by omega) (by omega)
  show zf1 (41 + (lc k).1) (lc k).2 = vl k 0
  rw [vl_60 (by omega)]
  exact e
theorem Iv_0 : Iv zf1 zl1 zR1 := by
  obtain ⟨s1, ⟨s2, s3, s4⟩, ⟨s5, s6⟩, s7, s8⟩ := zi_s
  exact ⟨0, fun _ _ => 0, fun _ => 0, zi_A, ⟨zi_85, Or.inl s1⟩, ⟨⟨by decide, fun r hr => absurd hr (Nat.not_lt_zero _)⟩, fun r hr => absurd hr (Nat.not_lt_zero _), ⟨s2, fun r hr => absurd hr (Nat.not_lt_zero _)⟩, s3, s4⟩,
    ⟨fun _ => 0, 0, ⟨Nat.zero_le _, fun j hj => absurd hj (Nat.not_lt_zero _)⟩, s5, fun j hj => absurd hj (Nat.not_lt_zero _), s6, fun j hj => absurd hj (Nat.not_lt_zero _)⟩, fun t ht => Or.inl (zi_t t ht), ⟨0, by decide, s7, s8, zi_f⟩, ⟨zi_k.1, zi_b.1, zi_w, zi_m, zi_k.2, zi_b.2⟩, zi_63⟩
