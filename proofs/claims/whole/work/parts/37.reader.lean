/-! THE READER of the class -/
section
variable {f f' : Nat → Nat → Int32} {l : Nat → Nat → Int64} {R : Nat → Nat} {T : Nat → Nat} {n k : Nat}
def tOk (T : Nat → Nat) (n : Nat) : Prop := n ≤ 100 ∧ ∀ j, j < n → T j < 128
def sI (T : Nat → Nat) (n k : Nat) : Int32 := if k < n then nI (T k) else -1
theorem sI_in (h : k < n) : sI T n k = nI (sg T n k) := by
  unfold sI sg
  rw [if_pos h, if_pos h]
theorem sI_out (h : ¬ k < n) : sI T n k = -nI 1 := by
  unfold sI
  rw [if_neg h]
  rfl
theorem sg_in (hT : tOk T n) (h : k < n) : sg T n k < 128 := by
  unfold sg
  rw [if_pos h]
  exact hT.2 k h
theorem sg_out (h : ¬ k < n) : sg T n k = 999 := by
  unfold sg
  rw [if_neg h]
theorem sI_eq (hT : tOk T n) {c : Nat} (hc : c < 128) : sI T n k = nI c ↔ sg T n k = c := by
  by_cases h : k < n
  · have := sg_in hT h
    rw [sI_in h]
    exact nI_eq (by omega) (by omega)
  · rw [sI_out h, sg_out h]
    exact ⟨fun e => absurd e.symm (nI_eqm (by omega)), fun e => by omega⟩
theorem sI_lt (hT : tOk T n) {c : Nat} (hc : c < 128) : sI T n k < nI c ↔ (¬ k < n) ∨ sg T n k < c := by
  by_cases h : k < n
  · have := sg_in hT h
    rw [sI_in h, nI_ltI (by omega) (by omega)]
    exact ⟨Or.inr, fun e => by omega⟩
  · rw [sI_out h]
    refine ⟨fun _ => Or.inl h, fun _ => ?_⟩
    rw [Int32.lt_iff_toInt_lt, nI_toInt (by omega), show (-nI 1).toInt = -1 from by decide]
    omega
theorem sI_gt (hT : tOk T n) {c : Nat} (hc : c < 128) : nI c < sI T n k ↔ k < n ∧ c < sg T n k := by
  by_cases h : k < n
  · have := sg_in hT h
    rw [sI_in h, nI_ltI (by omega) (by omega)]
    exact ⟨fun e => ⟨h, e⟩, fun e => e.2⟩
  · rw [sI_out h]
    refine ⟨fun e => ?_, fun e => absurd e.1 h⟩
    rw [Int32.lt_iff_toInt_lt, nI_toInt (by omega), show (-nI 1).toInt = -1 from by decide] at e
    omega
theorem c_digit (hT : tOk T n) {S : zS} : fn_Re_isDigit (sI T n k) S = some (nI (vb (isDg (sg T n k))), S) := by
  unfold fn_Re_isDigit isDg
  by_cases h : k < n
  · have := sg_in hT h
    rw [sI_in h]
    by_cases h1 : sg T n k < 48
    · simp (disch := omega) only [wbr_T, wbr_F, wgd_T, wbq, wbv, wnm, zI_mk, zL_mk, uI_mk, uL_mk, kI_mk, kL_mk, nI_add, nI_mul, nI_sub, nI_div, nI_clamp, wgB, wgP, nI_leI, nI_ltI, nI_eq, nI_eqm, nI_eqm5, wdT, wdF, wd1, wd0, show (48 : Int32) = nI 48 from rfl, show (57 : Int32) = nI 57 from rfl, Bool.false_and, Bool.and_false, vb_F, li_0]
    · by_cases h2 : 57 < sg T n k
      · simp (disch := omega) only [wbr_T, wbr_F, wgd_T, wbq, wbv, wnm, zI_mk, zL_mk, uI_mk, uL_mk, kI_mk, kL_mk, nI_add, nI_mul, nI_sub, nI_div, nI_clamp, wgB, wgP, nI_leI, nI_ltI, nI_eq, nI_eqm, nI_eqm5, wdT, wdF, wd1, wd0, show (48 : Int32) = nI 48 from rfl, show (57 : Int32) = nI 57 from rfl, Bool.false_and, Bool.and_false, vb_F, li_0]
      · simp (disch := omega) only [wbr_T, wbr_F, wgd_T, wbq, wbv, wnm, zI_mk, zL_mk, uI_mk, uL_mk, kI_mk, kL_mk, nI_add, nI_mul, nI_sub, nI_div, nI_clamp, wgB, wgP, nI_leI, nI_ltI, nI_eq, nI_eqm, nI_eqm5, wdT, wdF, wd1, wd0, show (48 : Int32) = nI 48 from rfl, show (57 : Int32) = nI 57 from rfl, Bool.true_and, vb_T, li_1]
  · rw [sI_out h, sg_out h]
    rfl
/-- the reader stands at place k of the text -/
def RP (T : Nat → Nat) (n k : Nat) (f : Nat → Nat → Int32) : Prop := f 19 1 = nI n ∧ f 19 2 = nI k ∧ ∀ j, j < n → f 20 j = nI (T j)
/-- only the reader's place and number change -/
def fr9 (f f' : Nat → Nat → Int32) : Prop := ∀ p j, (p = 19 → ¬ j = 2 ∧ ¬ j = 3) → f' p j = f p j
/-- and the order at o, but its HARD -/
def frO (o : Nat) (f f' : Nat → Nat → Int32) : Prop := ∀ p j, ¬ p = o + 1 → ¬ p = o + 2 → (p = 19 → ¬ j = 2 ∧ ¬ j = 3) → (p = o → ¬ j = 2) → f' p j = f p j
theorem fr9_r : fr9 f f := fun _ _ _ => rfl
theorem frO_r {o : Nat} : frO o f f := fun _ _ _ _ _ _ => rfl
theorem fr9_O {o : Nat} (h : fr9 f f') : frO o f f' := fun p j _ _ h3 _ => h p j h3
theorem fr9_t {g : Nat → Nat → Int32} (h : fr9 f f') (h2 : fr9 f' g) : fr9 f g := fun p j q => (h2 p j q).trans (h p j q)
theorem frO_t {o : Nat} {g : Nat → Nat → Int32} (h : frO o f f') (h2 : frO o f' g) : frO o f g := fun p j a b c d => (h2 p j a b c d).trans (h p j a b c d)
theorem RP_fr (h : RP T n k f) (h9 : fr9 f f') {k' : Nat} (e : f' 19 2 = nI k') : RP T n k' f' :=
  ⟨(h9 19 1 (fun _ => ⟨by decide, by decide⟩)).trans h.1, e, fun j hj => (h9 20 j (fun q => absurd q (by decide))).trans (h.2.2 j hj)⟩
theorem OP_fr {o : Nat} {c : List (Nat × Nat)} (ho : 107 ≤ o) (h : OP f o c) (h9 : fr9 f f') : OP f' o c :=
  ⟨(h9 o 2 (fun q => by omega)).trans h.1, fun j hj => ⟨(h9 (o + 1) j (fun q => by omega)).trans (h.2 j hj).1, (h9 (o + 2) j (fun q => by omega)).trans (h.2 j hj).2⟩⟩
theorem up9 {j : Nat} {x : Int32} (hj : j = 2 ∨ j = 3) : fr9 f (up f 19 j x) := fun p i h => by
  by_cases e : p = 19
  · have := h e
    exact up_nj (by omega)
  · exact up_np e
theorem c_sign (hT : tOk T n) (h : RP T n k f) (hk : k ≤ n) {d : Nat} (hd : d ≤ 1) : fn_Re_sign 19 (nI d) (mk f l R) = some (sI T n (k + d), mk f l R) := by
  have hn := hT.1
  unfold sI
  by_cases e : k + d < n
  · have e2 := h.2.2 (k + d) e
    rw [if_pos e]
    simp (disch := omega) only [fn_Re_sign, h.1, h.2.1, e2, gT_mk_19, zR_mk_19_0, gT_mk_20, zT_mk_20, wbr_T, wbr_F, wgd_T, wbq, wbv, wnm, zI_mk, zL_mk, uI_mk, uL_mk, kI_mk, kL_mk, nI_add, nI_mul, nI_sub, nI_div, nI_clamp, wgB, wgP, nI_leI, nI_ltI, nI_eq, nI_eqm, nI_eqm5, wdT, wdF, wd1, wd0, li_0, li_100]
  · rw [if_neg e]
    simp (disch := omega) only [fn_Re_sign, h.1, h.2.1, gT_mk_19, wbr_T, wbr_F, wgd_T, wbq, wbv, wnm, zI_mk, zL_mk, uI_mk, uL_mk, kI_mk, kL_mk, nI_add, nI_mul, nI_sub, nI_div, nI_clamp, wgB, wgP, nI_leI, nI_ltI, nI_eq, nI_eqm, nI_eqm5, wdT, wdF, wd1, wd0, li_0, li_100]
theorem c_eat (hT : tOk T n) (h : RP T n k f) (hk : k ≤ n) {c : Nat} (hc : c < 128) : fn_Re_eat 19 (nI c) (mk f l R) = if sg T n k = c then some (nI 1, mk (up f 19 2 (nI (k + 1))) l R) else some (nI 0, mk f l R) := by
  have hn := hT.1
  have e0 := c_sign (l := l) (R := R) hT h hk (d := 0) (by decide)
  have e1 := sI_eq (k := k) hT hc
  by_cases e : sg T n k = c
  · rw [if_pos e]
    simp (disch := omega) only [fn_Re_eat, e0, Nat.add_zero, wdT (e1.mpr e), h.2.1, gT_mk_19, wbr_T, wbr_F, wgd_T, wbq, wbv, wnm, zI_mk, zL_mk, uI_mk, uL_mk, kI_mk, kL_mk, nI_add, li_0, li_1]
  · rw [if_neg e]
    simp (disch := omega) only [fn_Re_eat, e0, Nat.add_zero, wdF (fun q => e (e1.mp q)), gT_mk_19, wbr_T, wbr_F, wgd_T, wbq, wbv, wnm, zI_mk, zL_mk, uI_mk, uL_mk, kI_mk, kL_mk, li_0]
theorem RP_up (h : RP T n k f) {k' : Nat} : RP T n k' (up f 19 2 (nI k')) := RP_fr h (up9 (Or.inl rfl)) up_eq
theorem RP_up3 (h : RP T n k f) {x : Int32} : RP T n k (up f 19 3 x) := RP_fr h (up9 (Or.inr rfl)) ((up_nj (by decide)).trans h.2.1)
theorem c_numeral (hT : tOk T n) (h : RP T n k f) (hk : k ≤ n) : ∃ f', fn_Re_numeral 19 (mk f l R) = some (nI (vb (pNum T n k).1), mk f' l R) ∧ RP T n (pNum T n k).2.1 f' ∧ ((pNum T n k).1 = true → f' 19 3 = nI (pNum T n k).2.2) ∧ fr9 f f' := by
  have hn := hT.1
  have e0 : fn_Re_sign 19 (nI 0) (mk f l R) = some (sI T n k, mk f l R) := c_sign (l := l) (R := R) hT h hk (d := 0) (by decide)
  have d0 := c_digit (k := k) hT (S := mk f l R)
  unfold pNum
  by_cases h1 : isDg (sg T n k) = true
  · rw [if_pos h1]
    rw [h1, vb_T] at d0
    have l1 := isDg_lt h1
    have b1 := h1
    unfold isDg at b1
    simp only [Bool.and_eq_true, decide_eq_true_eq] at b1
    have e3 := sI_in (T := T) l1
    have q1 : RP T n k (up f 19 3 (nI (sg T n k - 48))) := RP_up3 h
    have q2 : RP T n (k + 1) (up (up f 19 3 (nI (sg T n k - 48))) 19 2 (nI (k + 1))) := RP_up q1
    have e4 : fn_Re_sign 19 (nI 0) (mk (up (up f 19 3 (nI (sg T n k - 48))) 19 2 (nI (k + 1))) l R) = some (sI T n (k + 1), _) := c_sign (l := l) (R := R) hT q2 (by omega) (d := 0) (by decide)
    have d4 := c_digit (k := k + 1) hT (S := mk (up (up f 19 3 (nI (sg T n k - 48))) 19 2 (nI (k + 1))) l R)
    have s1 : sI T n k - (48 : Int32) = nI (sg T n k - 48) := by rw [e3]; exact nI_sub (b := 48) b1.1
    have g2 := q1.2.1
    by_cases h2 : isDg (sg T n (k + 1)) = true
    · rw [if_pos h2]
      rw [h2, vb_T] at d4
      have l2 := isDg_lt h2
      have b2 := h2
      unfold isDg at b2
      simp only [Bool.and_eq_true, decide_eq_true_eq] at b2
      have s2 : nI ((sg T n k - 48) * 10) + sI T n (k + 1) - (48 : Int32) = nI ((sg T n k - 48) * 10 + (sg T n (k + 1) - 48)) := by
        rw [sI_in l2, nI_add, show (48 : Int32) = nI 48 from rfl, nI_sub (by omega)]
        congr 1
        omega
      refine ⟨up (up (up (up f 19 3 (nI (sg T n k - 48))) 19 2 (nI (k + 1))) 19 3 (nI ((sg T n k - 48) * 10 + (sg T n (k + 1) - 48)))) 19 2 (nI (k + 2)), ?_, RP_up (RP_up3 q2), fun _ => (up_nj (by decide)).trans up_eq, ?_⟩
      · have g3 : up (up f 19 3 (nI (sg T n k - 48))) 19 2 (nI (k + 1)) 19 3 = nI (sg T n k - 48) := (up_nj (by decide)).trans up_eq
        have g4 : up (up (up f 19 3 (nI (sg T n k - 48))) 19 2 (nI (k + 1))) 19 3 (nI ((sg T n k - 48) * 10 + (sg T n (k + 1) - 48))) 19 2 = nI (k + 1) := (RP_up3 q2).2.1
        simp (disch := omega) only [fn_Re_numeral, e0, d0, s1, g2, e4, d4, g3, nI_mul, s2, g4, gT_mk_19, vb_T, wbr_T, wbr_F, wgd_T, wbq, wbv, wnm, zI_mk, zL_mk, uI_mk, uL_mk, kI_mk, kL_mk, nI_eq, wdT, wdF, wd1, wd0, nI_add, li_0, li_1, li_10]
      · exact fr9_t (up9 (Or.inr rfl)) (fr9_t (up9 (Or.inl rfl)) (fr9_t (up9 (Or.inr rfl)) (up9 (Or.inl rfl))))
    · rw [if_neg h2]
      rw [Bool.eq_false_iff.mpr h2, vb_F] at d4
      refine ⟨up (up f 19 3 (nI (sg T n k - 48))) 19 2 (nI (k + 1)), ?_, q2, fun _ => (up_nj (by decide)).trans up_eq, fr9_t (up9 (Or.inr rfl)) (up9 (Or.inl rfl))⟩
      simp (disch := omega) only [fn_Re_numeral, e0, d0, s1, g2, e4, d4, gT_mk_19, vb_T, wbr_T, wbr_F, wgd_T, wbq, wbv, wnm, zI_mk, zL_mk, uI_mk, uL_mk, kI_mk, kL_mk, nI_eq, wdT, wdF, wd1, wd0, nI_add, li_0, li_1]
  · rw [if_neg h1]
    rw [Bool.eq_false_iff.mpr h1, vb_F] at d0
    refine ⟨f, ?_, h, (fun q => by cases q), fr9_r⟩
    simp (disch := omega) only [fn_Re_numeral, e0, d0, gT_mk_19, vb_F, wbr_T, wbr_F, wgd_T, wbq, wbv, wnm, zI_mk, zL_mk, uI_mk, uL_mk, kI_mk, kL_mk, nI_eq, wdT, wdF, wd1, wd0, li_0]
/-! steps are put -/
theorem hp_ge {r : Nat} (h0 : 0 < r) (h : r ≤ 6) : 107 ≤ hp r ∧ hp r ≤ 122 := by
  unfold hp
  rw [if_neg (by omega)]
  omega
theorem OP_put {o : Nat} {c : List (Nat × Nat)} {a b : Nat} (h : OP f o c) : OP (up (up (up f (o + 1) c.length (nI a)) (o + 2) c.length (nI b)) o 2 (nI (c.length + 1))) o (c ++ [(a, b)]) := by
  refine ⟨?_, fun j hj => ?_⟩
  · rw [up_eq, List.length_append]
    rfl
  · rw [List.length_append] at hj
    have hj' : j < c.length + 1 := hj
    by_cases e : j = c.length
    · subst e
      simp (disch := omega) only [up_np, up_eq]
      rw [List.getD_eq_getElem?_getD, List.getElem?_append_right (Nat.le_refl _), Nat.sub_self]
      exact ⟨rfl, rfl⟩
    · simp (disch := omega) only [up_np, up_nj]
      rw [List.getD_eq_getElem?_getD, List.getElem?_append_left (by omega), ← List.getD_eq_getElem?_getD]
      exact h.2 j (by omega)
theorem c_put {r : Nat} {c : List (Nat × Nat)} {a b : Nat} (h0 : 0 < r) (hr : r ≤ 6) (h : OP f (hp r) c) (hc : c.length < 100) : fn_Or_put (hp r) (nI a) (nI b) (mk f l R) = some (mk (up (up (up f (hp r + 1) c.length (nI a)) (hp r + 2) c.length (nI b)) (hp r) 2 (nI (c.length + 1))) l R) := by
  have t1 := fun f => hp_T (f := f) (l := l) (R := R) hr
  have t2 := fun f => hp_R0 (f := f) (l := l) (R := R) hr
  have t3 := fun f => hp_R1 (f := f) (l := l) (R := R) hr
  have t4 := fun f => hp_T1 (f := f) (l := l) (R := R) hr
  have t5 := fun f => hp_T2 (f := f) (l := l) (R := R) hr
  have t6 := fun f => hp_n1 (f := f) (l := l) (R := R) hr h0
  have t7 := fun f => hp_n2 (f := f) (l := l) (R := R) hr h0
  have := hp_ge h0 hr
  simp (disch := omega) only [fn_Or_put, t1, t2, t3, t4, t5, t6, t7, h.1, up_np, show ∀ m, Int32.ofNat m = nI m from fun _ => rfl, wbr_T, wbr_F, wgd_T, wbq, wbv, wnm, zI_mk, zL_mk, uI_mk, uL_mk, kI_mk, kL_mk, nI_ltI, nI_clamp, wgB, wgP, wdT, wdF, wd1, wd0, nI_add, li_1]
theorem fr_put {o : Nat} {m : Nat} {x y z : Int32} : frO o f (up (up (up f (o + 1) m x) (o + 2) m y) o 2 z) := fun p j h1 h2 _ h4 => by
  by_cases e : p = o
  · rw [up_nj (h4 e), up_np h2, up_np h1]
  · rw [up_np e, up_np h2, up_np h1]
theorem RP_frO {o : Nat} (ho : 107 ≤ o) (h : RP T n k f) (hf : frO o f f') {k' : Nat} (e : f' 19 2 = nI k') : RP T n k' f' :=
  ⟨(hf 19 1 (by omega) (by omega) (fun _ => ⟨by decide, by decide⟩) (fun q => by omega)).trans h.1, e, fun j hj => (hf 20 j (by omega) (by omega) (fun q => absurd q (by decide)) (fun q => by omega)).trans (h.2.2 j hj)⟩
theorem RP_put {o : Nat} (ho : 107 ≤ o) {m : Nat} {x y z : Int32} (h : RP T n k f) : RP T n k (up (up (up f (o + 1) m x) (o + 2) m y) o 2 z) :=
  RP_frO ho h fr_put (by rw [up_np (by omega), up_np (by omega), up_np (by omega)]; exact h.2.1)
/-- a run of the reader's is as the pure reader says -/
def RO (T : Nat → Nat) (n : Nat) (f : Nat → Nat → Int32) (l : Nat → Nat → Int64) (R : Nat → Nat) (o : Nat) (c : List (Nat × Nat)) (X : Option (Int32 × zS)) (r : pR) : Prop :=
  ∃ f', X = some (nI (vb r.1), mk f' l R) ∧ RP T n r.2.1 f' ∧ (r.1 = true → OP f' o (c ++ r.2.2.1)) ∧ frO o f f'
theorem c_letterQ (hT : tOk T n) {S : zS} : fn_Re_isLetter (sI T n k) S = some (nI (if lix (sg T n k) < 6 then 1 else 0), S) := by
  have hs : ∀ c, c < 128 → (sI T n k = nI c ↔ sg T n k = c) := fun c hc => sI_eq hT hc
  unfold fn_Re_isLetter
  simp only [li_112, li_107, li_118, li_119, li_116, li_100, hs 112 (by decide), hs 107 (by decide), hs 118 (by decide), hs 119 (by decide), hs 116 (by decide), hs 100 (by decide)]
  unfold lix
  by_cases h1 : sg T n k = 112
  · simp only [h1, wbr_T, wbr_F, wgd_T, wbq, wbv, wnm, zI_mk, zL_mk, uI_mk, uL_mk, kI_mk, kL_mk, wdT, wdF, wd1, wd0]; rfl
  by_cases h2 : sg T n k = 107
  · simp (disch := omega) only [h2, wbr_T, wbr_F, wgd_T, wbq, wbv, wnm, zI_mk, zL_mk, uI_mk, uL_mk, kI_mk, kL_mk, wdT, wdF, wd1, wd0]; rfl
  by_cases h3 : sg T n k = 118
  · simp (disch := omega) only [h3, wbr_T, wbr_F, wgd_T, wbq, wbv, wnm, zI_mk, zL_mk, uI_mk, uL_mk, kI_mk, kL_mk, wdT, wdF, wd1, wd0]; rfl
  by_cases h4 : sg T n k = 119
  · simp (disch := omega) only [h4, wbr_T, wbr_F, wgd_T, wbq, wbv, wnm, zI_mk, zL_mk, uI_mk, uL_mk, kI_mk, kL_mk, wdT, wdF, wd1, wd0]; rfl
  by_cases h5 : sg T n k = 116
  · simp (disch := omega) only [h5, wbr_T, wbr_F, wgd_T, wbq, wbv, wnm, zI_mk, zL_mk, uI_mk, uL_mk, kI_mk, kL_mk, wdT, wdF, wd1, wd0]; rfl
  by_cases h6 : sg T n k = 100
  · simp (disch := omega) only [h6, wbr_T, wbr_F, wgd_T, wbq, wbv, wnm, zI_mk, zL_mk, uI_mk, uL_mk, kI_mk, kL_mk, wdT, wdF, wd1, wd0]; rfl
  rw [if_neg h1, if_neg h2, if_neg h3, if_neg h4, if_neg h5, if_neg h6]
  simp (disch := omega) only [h1, h2, h3, h4, h5, h6, wbr_T, wbr_F, wgd_T, wbq, wbv, wnm, zI_mk, zL_mk, uI_mk, uL_mk, kI_mk, kL_mk, wdT, wdF, wd1, wd0]; rfl
theorem c_test51 {r : Nat} {c : List (Nat × Nat)} {a b : Nat} (hT : tOk T n) (h0 : 0 < r) (hr : r ≤ 6) (hR : R 19 = hp r) (h : RP T n k f) (hk : k + 1 ≤ n) (hO : OP f (hp r) c) (hc : c.length ≤ k) :
    ∃ f', fn_Re_test_L51 19 (nI a) (nI b) (mk f l R) = some (nI (vb (pNum T n (k + 1)).1), mk f' l R) ∧ RP T n (pNum T n (k + 1)).2.1 f' ∧ ((pNum T n (k + 1)).1 = true → OP f' (hp r) (c ++ [(a, b * 100 + (pNum T n (k + 1)).2.2)])) ∧ frO (hp r) f f' := by
  have hn := hT.1
  have hge := hp_ge h0 hr
  have q1 : RP T n (k + 1) (up f 19 2 (nI (k + 1))) := RP_up h
  obtain ⟨f1, e1, r1, n1, fr1⟩ := c_numeral (l := l) (R := R) hT q1 hk
  have g2 := h.2.1
  by_cases hv : (pNum T n (k + 1)).1 = true
  · have n2 := n1 hv
    have ok := pNum_ok hv
    rw [hv, vb_T] at e1 ⊢
    have hO1 : OP f1 (hp r) c := OP_fr hge.1 hO (fr9_t (up9 (Or.inl rfl)) fr1)
    have e2 := c_put (l := l) (R := R) (a := a) (b := b * 100 + (pNum T n (k + 1)).2.2) h0 hr hO1 (by omega)
    have t1 := hp_T (f := f1) (l := l) (R := R) hr
    refine ⟨_, ?_, RP_put hge.1 r1, fun _ => OP_put hO1, frO_t (fr9_O (fr9_t (up9 (Or.inl rfl)) fr1)) fr_put⟩
    simp (disch := omega) only [fn_Re_test_L51, g2, e1, n2, hR, t1, e2, gT_mk_19, zR_mk_19_4, wbr_T, wbr_F, wgd_T, wbq, wbv, wnm, zI_mk, zL_mk, uI_mk, uL_mk, kI_mk, kL_mk, nI_eq, nI_mul, wdT, wdF, wd1, wd0, nI_add, li_0, li_1, li_100]
  · rw [Bool.eq_false_iff.mpr hv, vb_F] at e1 ⊢
    refine ⟨f1, ?_, r1, (fun q => by cases q), fr9_O (fr9_t (up9 (Or.inl rfl)) fr1)⟩
    simp (disch := omega) only [fn_Re_test_L51, g2, e1, gT_mk_19, wbr_T, wbr_F, wgd_T, wbq, wbv, wnm, zI_mk, zL_mk, uI_mk, uL_mk, kI_mk, kL_mk, nI_eq, wdT, wdF, wd1, wd0, nI_add, li_0, li_1]
theorem c_test {r : Nat} {c : List (Nat × Nat)} (hT : tOk T n) (h0 : 0 < r) (hr : r ≤ 6) (hR : R 19 = hp r) (h : RP T n k f) (hk : k ≤ n) (hO : OP f (hp r) c) (hc : c.length ≤ k) : RO T n f l R (hp r) c (fn_Re_test 19 (mk f l R)) (pTest T n k) := by
  have hn := hT.1
  have e0 : fn_Re_sign 19 (nI 0) (mk f l R) = some (sI T n k, mk f l R) := c_sign (l := l) (R := R) hT h hk (d := 0) (by decide)
  have e1 := c_letterQ (k := k) hT (S := mk f l R)
  have g2 := h.2.1
  unfold pTest
  by_cases h1 : lix (sg T n k) < 6
  · rw [if_pos h1] at e1 ⊢
    have hl : k < n := by
      have := lix_lt h1
      exact sg_lt (c := sg T n k) rfl (by omega)
    have q1 : RP T n (k + 1) (up f 19 2 (nI (k + 1))) := RP_up h
    have hO1 : OP (up f 19 2 (nI (k + 1))) (hp r) c := OP_fr (hp_ge h0 hr).1 hO (up9 (Or.inl rfl))
    have e2 : fn_Re_sign 19 (nI 0) (mk (up f 19 2 (nI (k + 1))) l R) = some (sI T n (k + 1), _) := c_sign (l := l) (R := R) hT q1 (by omega) (d := 0) (by decide)
    by_cases h2 : 60 ≤ sg T n (k + 1) ∧ sg T n (k + 1) ≤ 62
    · have hl1 : k + 1 < n := sg_lt (c := sg T n (k + 1)) rfl (by omega)
      rw [if_pos h2]
      obtain ⟨f2, e3, r3, o3, fr3⟩ := c_test51 (l := l) (a := sg T n k) (b := sg T n (k + 1)) hT h0 hr hR q1 (by omega) hO1 (by omega)
      have key : fn_Re_test 19 (mk f l R) = some (nI (vb (pNum T n (k + 2)).1), mk f2 l R) := by
        rw [sI_in (T := T) hl] at e0 e1
        rw [sI_in (T := T) hl1] at e2
        rcases (by omega : sg T n (k + 1) = 60 ∨ sg T n (k + 1) = 61 ∨ sg T n (k + 1) = 62) with e | e | e <;>
        · rw [e] at e2 e3
          simp (disch := omega) only [fn_Re_test, e0, e1, g2, e2, gT_mk_19, wbr_T, wbr_F, wgd_T, wbq, wbv, wnm, zI_mk, zL_mk, uI_mk, uL_mk, kI_mk, kL_mk, nI_eq, wdT, wdF, wd1, wd0, nI_add, li_0, li_1, li_60, li_61, li_62]
          exact e3
      by_cases h3 : (pNum T n (k + 2)).1 = true
      · rw [if_pos h3]
        rw [h3] at key
        exact ⟨f2, key, r3, fun _ => o3 h3, frO_t (fr9_O (up9 (Or.inl rfl))) fr3⟩
      · rw [if_neg h3]
        rw [Bool.eq_false_iff.mpr h3] at key
        have r3' := r3
        rw [show k + 1 + 1 = k + 2 from rfl, pNum_no h3] at r3'
        exact ⟨f2, key, r3', (fun q => by cases q), frO_t (fr9_O (up9 (Or.inl rfl))) fr3⟩
    · rw [if_neg h2]
      refine ⟨up f 19 2 (nI (k + 1)), ?_, q1, (fun q => by cases q), fr9_O (up9 (Or.inl rfl))⟩
      have hs : ∀ c, c < 128 → (sI T n (k + 1) = nI c ↔ sg T n (k + 1) = c) := fun c hc => sI_eq hT hc
      have n60 : ¬ sI T n (k + 1) = nI 60 := fun q => h2 (by have := (hs 60 (by decide)).mp q; omega)
      have n61 : ¬ sI T n (k + 1) = nI 61 := fun q => h2 (by have := (hs 61 (by decide)).mp q; omega)
      have n62 : ¬ sI T n (k + 1) = nI 62 := fun q => h2 (by have := (hs 62 (by decide)).mp q; omega)
      simp (disch := omega) only [fn_Re_test, e0, e1, g2, e2, n60, n61, n62, gT_mk_19, wbr_T, wbr_F, wgd_T, wbq, wbv, wnm, zI_mk, zL_mk, uI_mk, uL_mk, kI_mk, kL_mk, nI_eq, wdT, wdF, wd1, wd0, nI_add, li_0, li_1, li_60, li_61, li_62]
      rfl
  · rw [if_neg h1] at e1 ⊢
    refine ⟨f, ?_, h, (fun q => by cases q), frO_r⟩
    simp (disch := omega) only [fn_Re_test, e0, e1, gT_mk_19, wbr_T, wbr_F, wgd_T, wbq, wbv, wnm, zI_mk, zL_mk, uI_mk, uL_mk, kI_mk, kL_mk, nI_eq, wdT, wdF, wd1, wd0, li_0]
    rfl
end
