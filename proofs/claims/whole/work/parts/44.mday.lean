/-! THE MODEL: what comes off, one use, one day -/
def usedS (V : zV) (a : Nat → Nat) (i j : Nat) : Nat → Nat := us (us (us a (60 + 2 * j) (offN (a (60 + 2 * j)) (takesN V a i (a (60 + 2 * j))))) (10 * i + 3) (wornN (a (10 * i + 3)) (a (10 * i + 4)) (V (a 70)).1)) (10 * i + 4) 1
def dSt (V : zV) (a : Nat → Nat) (i : Nat) : Nat → Nat := if 0 < a (10 * i + 5) ∧ a (10 * i + 3) < 99 then usedS V a i (a (10 * i + 5) - 1) else us a (10 * i + 4) 0
def dS (V : zV) (a : Nat → Nat) : Nat → Nat → Nat
  | 0 => a
  | k + 1 => dSt V (dS V a k) k
def gS (a : Nat → Nat) : Nat → Nat → Nat
  | 0 => a
  | k + 1 => us (gS a k) (60 + 2 * k) ((gS a k) (60 + 2 * k) ||| (gS a k) (61 + 2 * k))
def dayS (V : zV) (a : Nat → Nat) : Nat → Nat := us (gS (dS V a (a 68)) 4) 69 (gS (dS V a (a 68)) 4 69 + 1)
def daysS (V : zV) (a : Nat → Nat) : Nat → Nat → Nat
  | 0 => a
  | n + 1 => dayS V (daysS V a n)
section
variable {V : zV} {a : Nat → Nat} {ru D i j k x : Nat}
theorem Gd_used (h : Gd a ru D) (hi : i < 6) (hj : j < 4) : Gd (usedS V a i j) ru D := by
  have g := Gd_all h
  refine Gd_us (Gd_us (Gd_us h ?_) ?_) ?_
  · rw [rng_n (by omega) (by omega)]
    exact offN_lt (g.2.2.1 j hj).1
  · rw [rng_s hi (by decide)]
    have : wornN (a (10 * i + 3)) (a (10 * i + 4)) (V (a 70)).1 ≤ 99 := wornN_le
    exact Nat.lt_succ_of_le this
  · rw [rng_s hi (by decide)]
    decide
theorem used_fix (hi : i < 6) (hj : j < 4) (hk : 68 ≤ k) : usedS V a i j k = a k := by
  unfold usedS
  rw [us_ne (by omega), us_ne (by omega), us_ne (by omega)]
theorem Gd_dSt (h : Gd a ru D) (hi : i < 6) : Gd (dSt V a i) ru D := by
  have g := (Gd_all h).2.1 i hi
  unfold dSt
  split
  · have := g.2.2.2.2.2.1
    exact Gd_used h hi (by omega)
  · refine Gd_us h ?_
    rw [rng_s hi (by decide)]
    decide
theorem dSt_fix (h : Gd a ru D) (hi : i < 6) (hk : 68 ≤ k) : dSt V a i k = a k := by
  have g := (Gd_all h).2.1 i hi
  have := g.2.2.2.2.2.1
  unfold dSt
  split
  · exact used_fix hi (by omega) hk
  · exact us_ne (by omega)
theorem dS_g (h : Gd a ru D) : ∀ k, k ≤ 6 → Gd (dS V a k) ru D ∧ ∀ q, 68 ≤ q → dS V a k q = a q
  | 0, _ => ⟨h, fun _ _ => rfl⟩
  | k + 1, hk => by
    obtain ⟨g1, g2⟩ := dS_g h k (by omega)
    exact ⟨Gd_dSt g1 (by omega), fun q hq => (dSt_fix g1 (by omega) hq).trans (g2 q hq)⟩
theorem gS_g (h : Gd a ru D) : ∀ k, k ≤ 4 → Gd (gS a k) ru D ∧ ∀ q, 68 ≤ q → gS a k q = a q
  | 0, _ => ⟨h, fun _ _ => rfl⟩
  | k + 1, hk => by
    obtain ⟨g1, g2⟩ := gS_g h k (by omega)
    have g := (Gd_all g1).2.2.1 k (by omega)
    refine ⟨Gd_us g1 ?_, fun q hq => (us_ne (by omega)).trans (g2 q hq)⟩
    rw [rng_n (by omega) (by omega)]
    exact Nat.or_lt_two_pow (n := 12) g.1 g.2
theorem Gd_day (h : Gd a ru D) : Gd (dayS V a) ru (D + 1) ∧ (∀ q, 68 ≤ q → ¬ q = 69 → dayS V a q = a q) ∧ dayS V a 69 = a 69 + 1 := by
  have g := Gd_all h
  obtain ⟨g1, g2⟩ := dS_g (V := V) h (a 68) g.1
  obtain ⟨g3, g4⟩ := gS_g g1 4 (Nat.le_refl _)
  have g5 := Gd_all g3
  refine ⟨Gd_us (Gd_mono g3 (Nat.le_refl _) (Nat.le_succ _)) ?_, fun q h1 h2 => (us_ne h2).trans ((g4 q h1).trans (g2 q h1)), ?_⟩
  · rw [rng_69]
    omega
  · show us _ 69 _ 69 = _
    rw [us_eq, g4 69 (by decide), g2 69 (by decide)]
theorem Gd_days (h : Gd a ru D) : ∀ n, Gd (daysS V a n) ru (D + n) ∧ (∀ q, 68 ≤ q → ¬ q = 69 → daysS V a n q = a q) ∧ daysS V a n 69 = a 69 + n
  | 0 => ⟨h, fun _ _ _ => rfl, rfl⟩
  | n + 1 => by
    obtain ⟨g1, g2, g3⟩ := Gd_days h n
    obtain ⟨q1, q2, q3⟩ := Gd_day (V := V) g1
    exact ⟨q1, fun q h1 h2 => (q2 q h1 h2).trans (g2 q h1 h2), q3.trans (by rw [g3]; rfl)⟩
end
section
variable {f f' : Nat → Nat → Int32} {l : Nat → Nat → Int64} {R : Nat → Nat} {a : Nat → Nat} {T : Nat → Nat → Nat} {N : Nat → Nat} {ru D i j : Nat}
/-- the model's side -/
def MX (T : Nat → Nat → Nat) (N : Nat → Nat) (ru D : Nat) (a : Nat → Nat) (f : Nat → Nat → Int32) : Prop := (tRu T N ru ∧ MRu T N ru f ∧ mKc f) ∧ (∀ k, f 138 k = nI (a k)) ∧ Gd a ru D ∧ D < 2 ^ 20
theorem MX_sc (h : MX T N ru D a f) (hs : sc f f') : MX T N ru D a f' := ⟨⟨h.1.1, sc_MRu hs h.1.2.1, sc_mKc hs h.1.2.2⟩, sc_138 hs h.2.1, h.2.2⟩
theorem MX_up {k x : Nat} {a' : Nat → Nat} (h : MX T N ru D a f) (e : a' = us a k x) (hx : k < 71 → x < rng ru D k) : MX T N ru D a' (up f 138 k (nI x)) := by
  subst e
  refine ⟨⟨h.1.1, fun r hr => ⟨(up_np (by decide)).trans (h.1.2.1 r hr).1, fun q hq => (up_np (by decide)).trans ((h.1.2.1 r hr).2 q hq)⟩, fun j hj => (up_np (by decide)).trans (h.1.2.2.1 j hj), fun j hj => (up_np (by decide)).trans (h.1.2.2.2 j hj)⟩, fun q => ?_, fun q hq => ?_, h.2.2.2⟩
  · by_cases e : q = k
    · subst e
      rw [up_eq, us_eq]
    · rw [up_nj e, us_ne e]
      exact h.2.1 q
  · by_cases e : q = k
    · subst e
      rw [us_eq]
      exact hx hq
    · rw [us_ne e]
      exact h.2.2.1 q hq
theorem m_grit (h : MX T N ru D a f) (hi : i < 6) : ∃ f', fn_Mo_grit 137 (nI i) (mk f l R) = some (gritS (rV T N) a i, mk f' l R) ∧ sc f f' := by
  obtain ⟨f1, e1, s1, -, fr1⟩ := m_readFor (l := l) (R := R) h.1.1 h.1.2.1 h.1.2.2 h.2.1 h.2.2.1 (Nat.lt_of_lt_of_le h.2.2.2 (by decide)) hi
  have h1 := MX_sc h fr1
  obtain ⟨z1, z2, z3, z4, z5⟩ := Gd_all h.2.2.1
  obtain ⟨g1, g2, g3, g4, g5, g6, g7⟩ := z2 i hi
  have hD := h.2.2.2
  have hA := h1.2.1
  refine ⟨f1, ?_, fr1⟩
  have b2 : a 69 / 2 * 2 ≤ a 69 := by omega
  have b4 : a 69 / 4 * 4 ≤ a 69 := by omega
  have e2 : a 69 - a 69 / 2 * 2 = a 69 % 2 := by omega
  have e4 : a 69 - a 69 / 4 * 4 = a 69 % 4 := by omega
  have ek := m_kind (f := f1) (l := l) (R := R) hi
  have ev := m_v (f := f1) (l := l) (R := R) hi
  rw [hA] at ek ev
  have ew := m_wet (f := f1) (l := l) (R := R) hi (hA _) g5
  unfold gritS
  have base : fn_Mo_grit 137 (nI i) (mk f l R) = (br (decide (nI (a (10 * i)) = nI 1)) (some ((rV T N (a 70)).2 (nmS a i) + nI (a (10 * i + 1)), mk f1 l R)) (
    br (decide (nI (a (10 * i)) = nI 2)) (some ((rV T N (a 70)).2 (nmS a i) / nI 2, mk f1 l R)) (
    br (decide (nI (a (10 * i)) = nI 3)) (some ((rV T N (a 70)).2 (nmS a i), mk f1 l R)) (
    br (decide (nI (a (10 * i)) = nI 4)) (br (decide (nI (a (10 * i + 4)) = nI 0)) (some (nI 0, mk f1 l R)) (some ((rV T N (a 70)).2 (nmS a i) + nI (a (10 * i + 1)), mk f1 l R))) (
    br (decide (nI (a (10 * i)) = nI 5)) (some ((rV T N (a 70)).2 (nmS a i) / nI 2 + nI (a 69 % 2), mk f1 l R)) (
    br (decide (nI (a (10 * i)) = nI 6)) (some ((rV T N (a 70)).2 (nmS a i) + nI (a (10 * i + 6 + a 69 % 4)), mk f1 l R)) (
    some ((rV T N (a 70)).2 (nmS a i), mk f1 l R)))))))) := by
    simp (disch := omega) only [fn_Mo_grit, e1, s1, ek, ev, ew, hA, gT_mk_137, zR_mk_137_0, gT_mk_138, zT_mk_138, wbr_T, wbr_F, wgd_T, wbq, wbv, wnm, zI_mk, zL_mk, uI_mk, uL_mk, kI_mk, kL_mk, nI_add, nI_mul, nI_div, nI_sub, nI_clamp, wgB, wgP, e2, e4, li_0, li_1, li_2, li_3, li_4, li_5, li_6, li_10, li_69]
    rfl
  rw [base]
  rcases (by omega : a (10 * i) = 0 ∨ a (10 * i) = 1 ∨ a (10 * i) = 2 ∨ a (10 * i) = 3 ∨ a (10 * i) = 4 ∨ a (10 * i) = 5 ∨ a (10 * i) = 6) with e | e | e | e | e | e | e <;> rw [e]
  · rfl
  · rfl
  · rfl
  · rfl
  · rcases (by omega : a (10 * i + 4) = 0 ∨ a (10 * i + 4) = 1) with e | e <;> rw [e] <;> rfl
  · rfl
  · rfl
theorem m_comesOff {o : Nat} (h : MX T N ru D a f) (hi : i < 6) (ho : o < 4096) : ∃ f', fn_Mo_comesOff 137 (nI i) (nI o) (mk f l R) = some (nI (takesN (rV T N) a i o), mk f' l R) ∧ sc f f' := by
  obtain ⟨z1, z2, z3, z4, z5⟩ := Gd_all h.2.2.1
  obtain ⟨g1, g2, g3, g4, g5, g6, g7⟩ := z2 i hi
  have hA := h.2.1
  have ek := m_kind (f := f) (l := l) (R := R) hi
  have eh := m_holes (f := f) (l := l) (R := R) hi
  rw [hA] at ek eh
  have et := m_thread (f := f) (l := l) (R := R) hi (hA _) g4
  rw [nI_takesN]
  -- behind the holes
  have tail : ∀ t1 : Int32, t1 = (if herP (nI (a (10 * i))) = true then nI (a (10 * i + 2)) ^^^ (-1 : Int32) else nI (a (10 * i + 2))) → ∃ f', fn_Mo_comesOff_L45 137 (nI i) (nI o) t1 (mk f l R) = some (takesP (nI o) (nI (a (10 * i + 2))) (nI (a (10 * i))) (nI (a (10 * i + 3))) (gritS (rV T N) a i), mk f' l R) ∧ sc f f' := by
    intro t1 ht
    unfold takesP
    rw [← ht]
    by_cases e : 99 ≤ a (10 * i + 3)
    · rw [if_pos (show (99 : Int32) ≤ nI (a (10 * i + 3)) from nI_le e (by omega))]
      refine ⟨f, ?_, sc_r⟩
      rw [if_pos e] at et
      have es := m_scan (a := nI o &&& t1) (S := mk f l R) 12 0 FU (nI 0) (nI 0) rfl (by decide)
      rw [show scP (nI o &&& t1) 12 0 (nI 0) (nI 0) = 0 from rfl] at es
      simp (disch := omega) only [fn_Mo_comesOff_L45, et, gT_mk_137, wbr_T, wbr_F, wgd_T, wbq, wbv, wnm, zI_mk, zL_mk, uI_mk, uL_mk, kI_mk, kL_mk, nI_eq, wdT, wdF, wd1, wd0, li_0]
      exact es
    · rw [if_neg (show ¬ (99 : Int32) ≤ nI (a (10 * i + 3)) from nI_ge (b := 99) (by omega) (by decide))]
      rw [if_neg e] at et
      obtain ⟨f1, e1, fr1⟩ := m_grit (l := l) (R := R) h hi
      refine ⟨f1, ?_, fr1⟩
      have es := m_scan (a := nI o &&& t1) (S := mk f1 l R) 12 0 FU (gritS (rV T N) a i) (nI 0) rfl (by decide)
      simp (disch := omega) only [fn_Mo_comesOff_L45, et, e1, gT_mk_137, wbr_T, wbr_F, wgd_T, wbq, wbv, wnm, zI_mk, zL_mk, uI_mk, uL_mk, kI_mk, kL_mk, nI_eq, wdT, wdF, wd1, wd0, li_0]
      exact es
  by_cases hk : herP (nI (a (10 * i))) = true
  · rw [if_pos hk] at tail
    obtain ⟨f1, e1, fr1⟩ := tail _ rfl
    refine ⟨f1, ?_, fr1⟩
    have h36 : a (10 * i) = 3 ∨ a (10 * i) = 6 := by
      have : ∀ k, k < 7 → herP (nI k) = true → k = 3 ∨ k = 6 := by decide +kernel
      exact this _ g1 hk
    rcases h36 with e | e
    · rw [e] at ek
      simp (disch := omega) only [fn_Mo_comesOff, fn_Mo_comesOff_L24, ek, eh, e1, gT_mk_137, wbr_T, wbr_F, wgd_T, wbq, wbv, wnm, zI_mk, zL_mk, uI_mk, uL_mk, kI_mk, kL_mk, nI_eq, wdT, wdF, wd1, wd0, li_0, li_3, show ¬ ((1 : Int32) = nI 0) from by decide]
    · rw [e] at ek
      simp (disch := omega) only [fn_Mo_comesOff, fn_Mo_comesOff_L24, ek, eh, e1, gT_mk_137, wbr_T, wbr_F, wgd_T, wbq, wbv, wnm, zI_mk, zL_mk, uI_mk, uL_mk, kI_mk, kL_mk, nI_eq, wdT, wdF, wd1, wd0, li_0, li_3, li_6, show ¬ ((1 : Int32) = nI 0) from by decide]
  · rw [if_neg hk] at tail
    obtain ⟨f1, e1, fr1⟩ := tail _ rfl
    refine ⟨f1, ?_, fr1⟩
    have h3 : ¬ a (10 * i) = 3 := fun e => hk (by rw [e]; rfl)
    have h6 : ¬ a (10 * i) = 6 := fun e => hk (by rw [e]; rfl)
    simp (disch := omega) only [fn_Mo_comesOff, fn_Mo_comesOff_L24, ek, eh, e1, gT_mk_137, wbr_T, wbr_F, wgd_T, wbq, wbv, wnm, zI_mk, zL_mk, uI_mk, uL_mk, kI_mk, kL_mk, nI_eq, wdT, wdF, wd1, wd0, li_0, li_3, li_6]
theorem m_hard (h : MX T N ru D a f) : ∃ f', fn_Mo_hardNow 137 (mk f l R) = some (nI (rV T N (a 70)).1, mk f' l R) ∧ sc f f' := by
  obtain ⟨f1, e1, -, h1, fr1⟩ := m_readFor (l := l) (R := R) (i := 0) h.1.1 h.1.2.1 h.1.2.2 h.2.1 h.2.2.1 (Nat.lt_of_lt_of_le h.2.2.2 (by decide)) (by decide)
  refine ⟨f1, ?_, fr1⟩
  simp only [fn_Mo_hardNow, li_0, e1, h1, gT_mk_137, wbr_T, wbr_F, wgd_T, wbq, wbv, wnm, zI_mk, zL_mk, uI_mk, uL_mk, kI_mk, kL_mk]
theorem m_worn {w t h : Nat} {S : zS} (hw : w ≤ 99) (ht : t ≤ 1) (hh : h ≤ 99) : fn_Mo_worn (nI w) (nI h) (nI t) S = some (nI (wornN w t h), S) := by
  unfold wornN
  rcases (by omega : t = 0 ∨ t = 1) with rfl | rfl
  · rw [if_pos rfl]
    by_cases e : w + h < 99
    · rw [Nat.min_eq_right (by omega)]
      simp (disch := omega) only [fn_Mo_worn, fn_Jd_min, wbr_T, wbr_F, wgd_T, wbq, wbv, wnm, zI_mk, zL_mk, uI_mk, uL_mk, kI_mk, kL_mk, nI_eq, nI_add, nI_ltI, wdT, wdF, wd1, wd0, li_0, li_99]
    · rw [Nat.min_eq_left (by omega)]
      simp (disch := omega) only [fn_Mo_worn, fn_Jd_min, wbr_T, wbr_F, wgd_T, wbq, wbv, wnm, zI_mk, zL_mk, uI_mk, uL_mk, kI_mk, kL_mk, nI_eq, nI_add, nI_ltI, wdT, wdF, wd1, wd0, li_0, li_99]
  · rw [if_neg (by decide)]
    by_cases e : w + h / 2 < 99
    · rw [Nat.min_eq_right (by omega)]
      simp (disch := omega) only [fn_Mo_worn, fn_Jd_min, wbr_T, wbr_F, wgd_T, wbq, wbv, wnm, zI_mk, zL_mk, uI_mk, uL_mk, kI_mk, kL_mk, nI_eq, nI_add, nI_div, nI_ltI, wdT, wdF, wd1, wd0, li_0, li_2, li_99]
    · rw [Nat.min_eq_left (by omega)]
      simp (disch := omega) only [fn_Mo_worn, fn_Jd_min, wbr_T, wbr_F, wgd_T, wbq, wbv, wnm, zI_mk, zL_mk, uI_mk, uL_mk, kI_mk, kL_mk, nI_eq, nI_add, nI_div, nI_ltI, wdT, wdF, wd1, wd0, li_0, li_2, li_99]
/-- what days change, by the model -/
def sd (f f' : Nat → Nat → Int32) : Prop := ∀ p j, (p = 137 → j < 10 ∨ 15 < j) → ¬ p = 144 → ¬ p = 145 → ¬ p = 138 → f' p j = f p j
theorem sd_r : sd f f := fun _ _ _ _ _ _ => rfl
theorem sd_t {g : Nat → Nat → Int32} (h : sd f f') (h2 : sd f' g) : sd f g := fun p j a b c d => (h2 p j a b c d).trans (h p j a b c d)
theorem sc_sd (h : sc f f') : sd f f' := fun p j a b c _ => h p j a b c
theorem sd_up {k : Nat} {x : Int32} : sd f (up f 138 k x) := fun p j _ _ _ d => up_np d
theorem m_used (h : MX T N ru D a f) (hi : i < 6) (hj : j < 4) : ∃ f', fn_Mo_used 137 (nI i) (nI j) (mk f l R) = some (nI (takesN (rV T N) a i (a (60 + 2 * j))), mk f' l R) ∧ MX T N ru D (usedS (rV T N) a i j) f' ∧ sd f f' := by
  obtain ⟨z1, z2, z3, z4, z5⟩ := Gd_all h.2.2.1
  obtain ⟨g1, g2, g3, g4, g5, g6, g7⟩ := z2 i hi
  have hV := rV_g T N
  have hA := h.2.1
  have eo := m_on (f := f) (l := l) (R := R) hj
  rw [hA] at eo
  obtain ⟨f1, e1, fr1⟩ := m_comesOff (l := l) (R := R) h hi (z3 j hj).1
  have h1 := MX_sc h fr1
  have hA1 := h1.2.1
  have h2 : MX T N ru D (us a (60 + 2 * j) (offN (a (60 + 2 * j)) (takesN (rV T N) a i (a (60 + 2 * j))))) (up f1 138 (60 + 2 * j) (nI (offN (a (60 + 2 * j)) (takesN (rV T N) a i (a (60 + 2 * j)))))) := MX_up h1 rfl (fun _ => by rw [rng_n (by omega) (by omega)]; exact offN_lt (z3 j hj).1)
  have hof := nI_offN (o := a (60 + 2 * j)) (m := takesN (rV T N) a i (a (60 + 2 * j)))
  have hA2 := h2.2.1
  obtain ⟨f3, e3, fr3⟩ := m_hard (l := l) (R := R) h2
  have h3 := MX_sc h2 fr3
  have hA3 := h3.2.1
  rw [us_ne (show ¬ 70 = 60 + 2 * j by omega)] at e3
  have ew := m_wear (f := up f1 138 (60 + 2 * j) (nI (offN (a (60 + 2 * j)) (takesN (rV T N) a i (a (60 + 2 * j)))))) (l := l) (R := R) hi
  rw [hA2, us_ne (by omega)] at ew
  have et := m_wet (f := f3) (l := l) (R := R) (w := a (10 * i + 4)) hi (by rw [hA3, us_ne (by omega)]) g5
  have eo2 := m_worn (S := mk f3 l R) g4 g5 (hV (a 70))
  generalize hX : offN (a (60 + 2 * j)) (takesN (rV T N) a i (a (60 + 2 * j))) = X at *
  have h4 : MX T N ru D (us (us a (60 + 2 * j) X) (10 * i + 3) (wornN (a (10 * i + 3)) (a (10 * i + 4)) (rV T N (a 70)).1)) (up f3 138 (10 * i + 3) (nI (wornN (a (10 * i + 3)) (a (10 * i + 4)) (rV T N (a 70)).1))) := MX_up h3 rfl (fun _ => by rw [rng_s hi (by decide)]; exact Nat.lt_succ_of_le wornN_le)
  have h5 : MX T N ru D (us (us (us a (60 + 2 * j) X) (10 * i + 3) (wornN (a (10 * i + 3)) (a (10 * i + 4)) (rV T N (a 70)).1)) (10 * i + 4) 1) (up (up f3 138 (10 * i + 3) (nI (wornN (a (10 * i + 3)) (a (10 * i + 4)) (rV T N (a 70)).1))) 138 (10 * i + 4) (nI 1)) := MX_up h4 rfl (fun _ => by rw [rng_s hi (by decide)]; decide)
  have hof' : nI (a (60 + 2 * j)) &&& (nI (takesN (rV T N) a i (a (60 + 2 * j))) ^^^ -nI 1) = nI X := hof.symm
  refine ⟨_, ?_, by unfold usedS; rw [hX]; exact h5, sd_t (sd_t (sd_t (sd_t (sc_sd fr1) sd_up) (sc_sd fr3)) sd_up) sd_up⟩
  simp (disch := omega) only [fn_Mo_used, eo, e1, hA1, hof', ew, e3, et, eo2, gT_mk_137, zR_mk_137_0, gT_mk_138, zT_mk_138, wbr_T, wbr_F, wgd_T, wbq, wbv, wnm, zI_mk, zL_mk, uI_mk, uL_mk, kI_mk, kL_mk, nI_add, nI_mul, nI_clamp, wgB, wgP, li_1, li_2, li_3, li_4, li_10, li_60]
theorem m_dayg : ∀ (e k G : Nat) (f : Nat → Nat → Int32) (b : Nat → Nat), k + e = 4 → e < G → MX T N ru D b f → (∀ q, q < k → True) →
    ∃ f', lp (σ := Nat × Int32 × zS) (fun k s => fn_Mo_day_L69 s.1 s.2.1 s.2.2 (fun (a0 : Nat) (a1 : Int32) (S : zS) => k (a0, a1, S))) G (137, nI k, mk f l R) = some (mk f' l R) ∧ sd f f' ∧ (∀ a, b = gS a k → MX T N ru (D + 1) (us (gS a 4) 69 (gS a 4 69 + 1)) f' ∨ 2 ^ 20 ≤ D + 1)
  | 0, k, G, f, b, he, hG, h, _ => by
    obtain ⟨G, rfl⟩ : ∃ H, G = H + 1 := ⟨G - 1, by omega⟩
    have hk : k = 4 := by omega
    subst hk
    rw [lpS]
    show ∃ f', fn_Mo_day_L69 137 (nI 4) (mk f l R) _ = _ ∧ _
    have hA := h.2.1
    refine ⟨up f 138 69 (nI (b 69 + 1)), ?_, sd_up, fun a ha => ?_⟩
    · simp (disch := omega) only [fn_Mo_day_L69, hA, gT_mk_137, zR_mk_137_0, gT_mk_138, zT_mk_138, wbr_T, wbr_F, wgd_T, wbq, wbv, wnm, zI_mk, zL_mk, uI_mk, uL_mk, kI_mk, kL_mk, nI_add, nI_mul, nI_sub, nI_div, nI_clamp, wgB, wgP, nI_leI, nI_ltI, nI_eq, nI_eqm, nI_eqm5, wdT, wdF, wd1, wd0, li_1, li_4, li_69]
    · by_cases hD : D + 1 < 2 ^ 20
      · left
        have h' : MX T N ru (D + 1) b f := ⟨h.1, h.2.1, Gd_mono h.2.2.1 (Nat.le_refl _) (Nat.le_succ _), hD⟩
        rw [ha] at h'
        have := (Gd_all h.2.2.1).2.2.2.1
        rw [ha] at this ⊢
        exact MX_up h' rfl (fun _ => by rw [rng_69]; omega)
      · exact Or.inr (by omega)
  | e + 1, k, G, f, b, he, hG, h, _ => by
    obtain ⟨G, rfl⟩ : ∃ H, G = H + 1 := ⟨G - 1, by omega⟩
    rw [lpS]
    show ∃ f', fn_Mo_day_L69 137 (nI k) (mk f l R) _ = _ ∧ _
    have hA := h.2.1
    have g := (Gd_all h.2.2.1).2.2.1 k (by omega)
    have hor : nI (b (60 + 2 * k)) ||| nI (b (60 + 2 * k + 1)) = nI (b (60 + 2 * k) ||| b (61 + 2 * k)) := by
      rw [show 60 + 2 * k + 1 = 61 + 2 * k by omega]
      exact nI_or (by omega) (by omega)
    obtain ⟨f1, e1, fr1, r1⟩ := m_dayg e (k + 1) G (up f 138 (60 + 2 * k) (nI (b (60 + 2 * k) ||| b (61 + 2 * k)))) (us b (60 + 2 * k) (b (60 + 2 * k) ||| b (61 + 2 * k))) (by omega) (by omega) (MX_up h rfl (fun _ => by rw [rng_n (by omega) (by omega)]; exact Nat.or_lt_two_pow (n := 12) g.1 g.2)) (fun _ _ => trivial)
    refine ⟨f1, ?_, sd_t sd_up fr1, fun a ha => r1 a (by rw [ha]; rfl)⟩
    simp (disch := omega) only [fn_Mo_day_L69, hA, hor, gT_mk_137, zR_mk_137_0, gT_mk_138, zT_mk_138, wbr_T, wbr_F, wgd_T, wbq, wbv, wnm, zI_mk, zL_mk, uI_mk, uL_mk, kI_mk, kL_mk, nI_add, nI_mul, nI_sub, nI_div, nI_clamp, wgB, wgP, nI_leI, nI_ltI, nI_eq, nI_eqm, nI_eqm5, wdT, wdF, wd1, wd0, li_1, li_2, li_4, li_60]
    exact e1
theorem m_dayl {a : Nat → Nat} : ∀ (e k G : Nat) (f : Nat → Nat → Int32), k + e = a 68 → a 68 ≤ 6 → e < G → MX T N ru D (dS (rV T N) a k) f → dS (rV T N) a k 68 = a 68 → D + 1 < 2 ^ 20 →
    ∃ f', lp (σ := Nat × Int32 × zS) (fun k s => fn_Mo_day_L2 s.1 s.2.1 s.2.2 (fun (a0 : Nat) (a1 : Int32) (S : zS) => k (a0, a1, S))) G (137, nI k, mk f l R) = some (mk f' l R) ∧ sd f f' ∧ MX T N ru (D + 1) (dayS (rV T N) a) f'
  | 0, k, G, f, he, h6, hG, h, h68, hD => by
    obtain ⟨G, rfl⟩ : ∃ H, G = H + 1 := ⟨G - 1, by omega⟩
    rw [lpS]
    show ∃ f', fn_Mo_day_L2 137 (nI k) (mk f l R) _ = _ ∧ _
    have hA := h.2.1
    have hk : k = a 68 := by omega
    obtain ⟨f1, e1, fr1, r1⟩ := m_dayg (l := l) (R := R) 4 0 FU f _ rfl (by decide) h (fun _ _ => trivial)
    refine ⟨f1, ?_, fr1, ?_⟩
    · have e1' : lp (σ := Nat × Int32 × zS) (fun k s => fn_Mo_day_L69 s.1 s.2.1 s.2.2 (fun (a0 : Nat) (a1 : Int32) (S : zS) => k (a0, a1, S))) FU (137, (0 : Int32), mk f l R) = some (mk f1 l R) := e1
      simp (disch := omega) only [fn_Mo_day_L2, hA, h68, e1', gT_mk_137, zR_mk_137_0, gT_mk_138, zT_mk_138, wbr_T, wbr_F, wgd_T, wbq, wbv, wnm, zI_mk, zL_mk, uI_mk, uL_mk, kI_mk, kL_mk, nI_leI, nI_clamp, wgB, wdT, wdF, wd1, wd0, li_68]
    · rcases r1 (dS (rV T N) a k) rfl with q | q
      · rw [hk] at q
        exact q
      · omega
  | e + 1, k, G, f, he, h6, hG, h, h68, hD => by
    obtain ⟨G, rfl⟩ : ∃ H, G = H + 1 := ⟨G - 1, by omega⟩
    rw [lpS]
    show ∃ f', fn_Mo_day_L2 137 (nI k) (mk f l R) _ = _ ∧ _
    have hA := h.2.1
    have g := (Gd_all h.2.2.1).2.1 k (by omega)
    obtain ⟨g1, g2, g3, g4, g5, g6, g7⟩ := g
    have et := m_thread (f := f) (l := l) (R := R) (show k < 6 by omega) (hA _) g4
    have fix := fun q (hq : 68 ≤ q) => dSt_fix (V := rV T N) h.2.2.1 (show k < 6 by omega) hq
    have cont : ∀ f1, MX T N ru D (dSt (rV T N) (dS (rV T N) a k) k) f1 → sd f f1 → (∀ K : Nat → Int32 → zS → Option zS, fn_Mo_day_L2 137 (nI k) (mk f l R) K = K 137 (nI (k + 1)) (mk f1 l R)) → ∃ f', fn_Mo_day_L2 137 (nI k) (mk f l R) (fun (a0 : Nat) (a1 : Int32) (S : zS) => lp (σ := Nat × Int32 × zS) (fun k s => fn_Mo_day_L2 s.1 s.2.1 s.2.2 (fun (a0 : Nat) (a1 : Int32) (S : zS) => k (a0, a1, S))) G (a0, a1, S)) = some (mk f' l R) ∧ sd f f' ∧ MX T N ru (D + 1) (dayS (rV T N) a) f' := by
      intro f1 h1 fr1 hK
      obtain ⟨f2, e2, fr2, r2⟩ := m_dayl (a := a) e (k + 1) G f1 (by omega) h6 (by omega) h1 ((fix 68 (by decide)).trans h68) hD
      rw [hK]
      exact ⟨f2, e2, sd_t fr1 fr2, r2⟩
    have hcond := @dSt (rV T N) (dS (rV T N) a k) k
    by_cases c1 : 0 < dS (rV T N) a k (10 * k + 5)
    · by_cases c2 : dS (rV T N) a k (10 * k + 3) < 99
      · rw [if_neg (by omega)] at et
        obtain ⟨f1, e1, h1, fr1⟩ := m_used (l := l) (R := R) (j := dS (rV T N) a k (10 * k + 5) - 1) h (show k < 6 by omega) (by omega)
        refine cont f1 (by unfold dSt; rw [if_pos ⟨c1, c2⟩]; exact h1) fr1 (fun K => ?_)
        simp (disch := omega) only [fn_Mo_day_L2, hA, h68, et, e1, gT_mk_137, zR_mk_137_0, gT_mk_138, zT_mk_138, wbr_T, wbr_F, wgd_T, wbq, wbv, wnm, zI_mk, zL_mk, uI_mk, uL_mk, kI_mk, kL_mk, nI_add, nI_mul, nI_sub, nI_div, nI_clamp, wgB, wgP, nI_leI, nI_ltI, nI_eq, nI_eqm, nI_eqm5, wdT, wdF, wd1, wd0, li_0, li_1, li_5, li_10, li_68]
      · rw [if_pos (by omega)] at et
        refine cont (up f 138 (10 * k + 4) (nI 0)) (by unfold dSt; rw [if_neg (fun q => c2 q.2)]; exact MX_up h rfl (fun _ => by rw [rng_s (by omega) (by decide)]; decide)) sd_up (fun K => ?_)
        simp (disch := omega) only [fn_Mo_day_L2, hA, h68, et, gT_mk_137, zR_mk_137_0, gT_mk_138, zT_mk_138, wbr_T, wbr_F, wgd_T, wbq, wbv, wnm, zI_mk, zL_mk, uI_mk, uL_mk, kI_mk, kL_mk, nI_add, nI_mul, nI_sub, nI_div, nI_clamp, wgB, wgP, nI_leI, nI_ltI, nI_eq, nI_eqm, nI_eqm5, wdT, wdF, wd1, wd0, li_0, li_1, li_4, li_5, li_10, li_68]
    · refine cont (up f 138 (10 * k + 4) (nI 0)) (by unfold dSt; rw [if_neg (fun q => c1 q.1)]; exact MX_up h rfl (fun _ => by rw [rng_s (by omega) (by decide)]; decide)) sd_up (fun K => ?_)
      simp (disch := omega) only [fn_Mo_day_L2, hA, h68, gT_mk_137, zR_mk_137_0, gT_mk_138, zT_mk_138, wbr_T, wbr_F, wgd_T, wbq, wbv, wnm, zI_mk, zL_mk, uI_mk, uL_mk, kI_mk, kL_mk, nI_add, nI_mul, nI_sub, nI_div, nI_clamp, wgB, wgP, nI_leI, nI_ltI, nI_eq, nI_eqm, nI_eqm5, wdT, wdF, wd1, wd0, li_0, li_1, li_4, li_5, li_10, li_68]
theorem m_day (h : MX T N ru D a f) (hD : D + 1 < 2 ^ 20) : ∃ f', fn_Mo_day 137 (mk f l R) = some (mk f' l R) ∧ sd f f' ∧ MX T N ru (D + 1) (dayS (rV T N) a) f' := by
  have h6 := (Gd_all h.2.2.1).1
  exact m_dayl (a := a) (a 68) 0 FU f (Nat.zero_add _) h6 (by show _ < 5000; omega) h rfl hD
end
