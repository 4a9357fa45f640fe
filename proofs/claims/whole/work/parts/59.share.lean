/-! SHARED, the class: all ways, the first as a row of numbers -/
abbrev shS : Type := Nat × (Nat → Nat)
def shN (F : Nat → shS → shS) (g : Nat) : Nat → Nat → shS → shS
  | 0, _, st => st
  | e + 1, n, st => shN F g e (n + 1) (if g / 2 ^ n % 2 = 0 then F n st else st)
/-- the first number is one more than what most is -/
def shD (ok : Nat → Bool) (tk : Nat → Nat → Nat) : Nat → Nat → Nat → Nat → (Nat → Nat) → shS → shS
  | 0, _, _, sum, row, st => if st.1 < sum + 1 then (sum + 1, row) else st
  | d + 1, s, g, sum, row, st => shD ok tk d (s + 1) g sum (us row s 9) (if ok s = true then shN (fun n st => shD ok tk d (s + 1) (g + 2 ^ n) (sum + tk s n) (us row s n) st) g 4 0 st else st)
theorem shN_P {P : shS → Prop} {F : Nat → shS → shS} {g : Nat} (hF : ∀ n st, n < 4 → P st → P (F n st)) : ∀ e n st, n + e = 4 → P st → P (shN F g e n st)
  | 0, _, _, _, h => h
  | e + 1, n, st, hn, h => by
    show P (shN F g e (n + 1) (if g / 2 ^ n % 2 = 0 then F n st else st))
    refine shN_P hF e (n + 1) _ (by omega) ?_
    by_cases c : g / 2 ^ n % 2 = 0
    · rw [if_pos c]
      exact hF n st (by omega) h
    · rw [if_neg c]
      exact h
theorem us_le {row : Nat → Nat} {s x : Nat} (h : ∀ k, row k ≤ 9) (hx : x ≤ 9) : ∀ k, us row s x k ≤ 9 := fun k => by
  unfold us
  by_cases e : k = s
  · rw [if_pos e]
    exact hx
  · rw [if_neg e]
    exact h k
theorem shD_le {ok : Nat → Bool} {tk : Nat → Nat → Nat} : ∀ (d s g sum : Nat) (row : Nat → Nat) (st : shS), (∀ k, row k ≤ 9) → (∀ k, st.2 k ≤ 9) → ∀ k, (shD ok tk d s g sum row st).2 k ≤ 9
  | 0, s, g, sum, row, st, hr, hs => fun k => by
    show (if st.1 < sum + 1 then (sum + 1, row) else st).2 k ≤ 9
    by_cases c : st.1 < sum + 1
    · rw [if_pos c]
      exact hr k
    · rw [if_neg c]
      exact hs k
  | d + 1, s, g, sum, row, st, hr, hs => by
    show ∀ k, (shD ok tk d (s + 1) g sum (us row s 9) (if ok s = true then shN (fun n st => shD ok tk d (s + 1) (g + 2 ^ n) (sum + tk s n) (us row s n) st) g 4 0 st else st)).2 k ≤ 9
    refine shD_le d (s + 1) g sum _ _ (us_le hr (Nat.le_refl _)) ?_
    by_cases c : ok s = true
    · rw [if_pos c]
      exact shN_P (P := fun st => ∀ k, st.2 k ≤ 9) (fun n st hn h => shD_le d (s + 1) (g + 2 ^ n) (sum + tk s n) _ st (us_le hr (by omega)) h) 4 0 st rfl hs
    · rw [if_neg c]
      exact hs
theorem shD_pos {ok : Nat → Bool} {tk : Nat → Nat → Nat} : ∀ (d s g sum : Nat) (row : Nat → Nat) (st : shS), 0 < (shD ok tk d s g sum row st).1
  | 0, s, g, sum, row, st => by
    show 0 < (if st.1 < sum + 1 then (sum + 1, row) else st).1
    by_cases c : st.1 < sum + 1
    · rw [if_pos c]
      exact Nat.succ_pos sum
    · rw [if_neg c]
      omega
  | d + 1, s, g, sum, row, st => shD_pos d (s + 1) g sum _ _
theorem bits4 : ∀ g, g < 16 → ∀ n, n < 4 → (g / 2 ^ n % 2 = 0 → g ||| 2 ^ n = g + 2 ^ n ∧ g + 2 ^ n < 16 ∧ 2 ^ n ≤ 15 - g ∧ (15 - g) / 2 ^ n % 2 = 1) ∧ (¬ g / 2 ^ n % 2 = 0 → (15 - g) / 2 ^ n % 2 = 0) := by decide +kernel
theorem pow4 : ∀ n, n < 4 → 2 ^ n ≤ 8 := by decide
section
variable {f f' g : Nat → Nat → Int32} {l : Nat → Nat → Int64} {R : Nat → Nat} {a a' : Nat → Nat} {T : Nat → Nat → Nat} {N : Nat → Nat} {ru D i j k n w z s : Nat} {V : zV} {ok : Nat → Bool} {tk : Nat → Nat → Nat} {st : shS}
def SC (z : Nat) (ok : Nat → Bool) (tk : Nat → Nat → Nat) (f : Nat → Nat → Int32) : Prop := f 24 3 = nI z ∧ ∀ s n, s < z → n < 4 → f 25 (s * 4 + n) = if ok s = true then nI (tk s n) else -nI 1
def SB (z : Nat) (f : Nat → Nat → Int32) (st : shS) : Prop := st.1 ≤ 100 ∧ f 24 4 = nI st.1 - nI 1 ∧ (0 < st.1 → ∀ k, k < z → f 27 k = nI (st.2 k))
def SF (s : Nat) (f f' : Nat → Nat → Int32) : Prop := ∀ p j, ¬ (p = 26 ∧ s ≤ j) → ¬ p = 27 → ¬ (p = 24 ∧ j = 4) → f' p j = f p j
theorem SF_r : SF s f f := fun _ _ _ _ _ => rfl
theorem SF_t (h : SF s f f') (h2 : SF s f' g) : SF s f g := fun p j a b c => (h2 p j a b c).trans (h p j a b c)
theorem SF_s (h : SF (s + 1) f f') : SF s f f' := fun p j a b c => h p j (fun q => a ⟨q.1, by omega⟩) b c
theorem SF_up {x : Int32} : SF s f (up f 26 s x) := fun p j a _ _ => by
  by_cases e : p = 26
  · subst e
    exact up_nj (fun q => a ⟨rfl, by omega⟩)
  · exact up_np e
theorem SC_F (h : SC z ok tk f) (hs : SF s f f') : SC z ok tk f' := ⟨(hs 24 3 (by omega) (by omega) (by omega)).trans h.1, fun s n h1 h2 => (hs 25 _ (by omega) (by omega) (by omega)).trans (h.2 s n h1 h2)⟩
theorem SB_up {x : Int32} (h : SB z f st) : SB z (up f 26 s x) st := ⟨h.1, (up_np (by decide)).trans h.2.1, fun q k hk => (up_np (by decide)).trans (h.2.2 q k hk)⟩
theorem row_up {row : Nat → Nat} {x : Nat} (hr : ∀ k, k < s → f 26 k = nI (row k)) : ∀ k, k < s + 1 → up f 26 s (nI x) 26 k = nI (us row s x k) := fun k hk => by
  by_cases e : k = s
  · subst e
    rw [up_eq, us_eq]
  · rw [up_nj e, us_ne e]
    exact hr k (by omega)
theorem shseek_S (u p : Nat) (b c e : Int32) (S : zS) : fn_Sh_seek (u + 1) p b c e S = fn_Sh_seek_o (fun b0 b1 b2 b3 S => fn_Sh_seek u b0 b1 b2 b3 S) p b c e S := by
  unfold fn_Sh_seek
  rw [lpS]
  rfl
theorem c_sk47 {d : Nat} {o0 : Nat → Int32 → Int32 → Int32 → zS → Option zS} (hz : z ≤ 6) (htk : ∀ s n, tk s n ≤ 12) (hsz : s + 1 + d = z)
    (ih : ∀ (g sum : Nat) (row : Nat → Nat) (st : shS) (f : Nat → Nat → Int32), g < 16 → sum ≤ 12 * (s + 1) → SC z ok tk f → SB z f st → (∀ k, k < s + 1 → f 26 k = nI (row k)) → ∃ f', o0 24 (nI (s + 1)) (nI g) (nI sum) (mk f l R) = some (mk f' l R) ∧ SB z f' (shD ok tk d (s + 1) g sum row st) ∧ SF (s + 1) f f')
    {g sum : Nat} {row : Nat → Nat} (hg : g < 16) (hsum : sum ≤ 12 * s) : ∀ (e n G : Nat) (f : Nat → Nat → Int32) (st : shS), n + e = 4 → e < G → SC z ok tk f → SB z f st → (∀ k, k < s → f 26 k = nI (row k)) →
    ∃ f', lp (σ := Nat × Int32 × Int32 × Int32 × Int32 × zS) (fun k s => fn_Sh_seek_L47 o0 s.1 s.2.1 s.2.2.1 s.2.2.2.1 s.2.2.2.2.1 s.2.2.2.2.2 (fun (a0 : Nat) (a1 : Int32) (a2 : Int32) (a3 : Int32) (a4 : Int32) (S : zS) => k (a0, a1, a2, a3, a4, S))) G (24, nI s, nI g, nI sum, nI n, mk f l R) = some (mk f' l R)
      ∧ SB z f' (shD ok tk d (s + 1) g sum (us row s 9) (if ok s = true then shN (fun n st => shD ok tk d (s + 1) (g + 2 ^ n) (sum + tk s n) (us row s n) st) g e n st else st)) ∧ SF s f f'
  | 0, n, G, f, st, hn, hG, hC, hB, hr => by
    obtain ⟨G, rfl⟩ : ∃ H, G = H + 1 := ⟨G - 1, by omega⟩
    have en : n = 4 := by omega
    subst en
    obtain ⟨f1, e1, b1, s1⟩ := ih g sum (us row s 9) st (up f 26 s (nI 9)) hg (by omega) (SC_F hC SF_up) (SB_up hB) (row_up hr)
    rw [lpS]
    show ∃ f', fn_Sh_seek_L47 o0 24 (nI s) (nI g) (nI sum) (nI 4) (mk f l R) _ = _ ∧ SB z f' (shD ok tk d (s + 1) g sum (us row s 9) (if ok s = true then st else st)) ∧ _
    rw [ite_self]
    refine ⟨f1, ?_, b1, SF_t SF_up (SF_s s1)⟩
    simp (disch := omega) only [wbr_T, wbr_F, wgd_T, wbq, wbv, wnm, zI_mk, zL_mk, uI_mk, uL_mk, kI_mk, kL_mk, nI_add, nI_mul, nI_sub, nI_div, nI_clamp, wgB, wgP, nI_leI, nI_ltI, nI_eq, nI_eqm, nI_eqm5, wdT, wdF, wd1, wd0, li_0, li_1, li_2, li_3, li_4, li_5, li_6, li_7, li_8, li_9, li_10, li_11, li_12, li_13, li_14, li_15, li_16, li_17, li_18, li_19, li_20, li_21, li_22, li_23, li_24, li_25, li_26, li_27, li_28, li_29, li_30, li_31, li_32, li_33, li_38, li_40, li_41, li_48, li_57, li_58, li_59, li_60, li_61, li_62, li_63, li_68, li_69, li_70, li_71, li_72, li_73, li_74, li_75, li_83, li_87, li_88, li_89, li_99, li_100, li_104, li_105, li_106, li_107, li_108, li_109, li_110, li_111, li_112, li_113, li_114, li_115, li_116, li_117, li_118, li_119, li_120, li_121, li_124, li_127, li_128, li_200, li_4095, li_4096, li_9999, fn_Sh_seek_L47, e1, gT_mk_24, zT_mk_24, zR_mk_24_0, zR_mk_24_1, zR_mk_24_2, gT_mk_25, zT_mk_25, gT_mk_26, zT_mk_26, gT_mk_27, zT_mk_27, gT_mk_28, zT_mk_28, zR_mk_28_0, zR_mk_28_1, zR_mk_28_2, gT_mk_29, zT_mk_29, gT_mk_30, zT_mk_30, gT_mk_31, zT_mk_31, gT_mk_32, zT_mk_32, zR_mk_32_0, gT_mk_33, zT_mk_33]
  | e + 1, n, G, f, st, hn, hG, hC, hB, hr => by
    obtain ⟨G, rfl⟩ : ∃ H, G = H + 1 := ⟨G - 1, by omega⟩
    have hn4 : n < 4 := by omega
    have et := hC.2 s n (by omega) hn4
    have bt : (nI g >>> (nI n &&& nI 31)) &&& nI 1 = nI (g / 2 ^ n % 2) := nI_bit (by omega) (by omega)
    have b2 : g / 2 ^ n % 2 < 2 := Nat.mod_lt _ (by decide)
    rw [lpS]
    by_cases c : ok s = true
    · rw [if_pos c] at et
      have htk1 := htk s n
      show ∃ f', fn_Sh_seek_L47 o0 24 (nI s) (nI g) (nI sum) (nI n) (mk f l R) _ = _ ∧ SB z f' (shD ok tk d (s + 1) g sum (us row s 9) (if ok s = true then shN (fun n st => shD ok tk d (s + 1) (g + 2 ^ n) (sum + tk s n) (us row s n) st) g e (n + 1) (if g / 2 ^ n % 2 = 0 then shD ok tk d (s + 1) (g + 2 ^ n) (sum + tk s n) (us row s n) st else st) else st)) ∧ _
      by_cases c2 : g / 2 ^ n % 2 = 0
      · rw [if_pos c2]
        obtain ⟨q1, q2, q3, q4⟩ := (bits4 g hg n hn4).1 c2
        obtain ⟨f1, e1, b1, s1⟩ := ih (g + 2 ^ n) (sum + tk s n) (us row s n) st (up f 26 s (nI n)) q2 (by omega) (SC_F hC SF_up) (SB_up hB) (row_up hr)
        have s01 := SF_t SF_up (SF_s s1)
        obtain ⟨f2, e2, b2, s2⟩ := c_sk47 hz htk hsz ih hg hsum e (n + 1) G f1 _ (by omega) (by omega) (SC_F hC s01) b1 (fun k hk => (s01 26 k (by omega) (by omega) (by omega)).trans (hr k hk))
        rw [if_pos c] at b2 ⊢
        refine ⟨f2, ?_, b2, SF_t s01 s2⟩
        have sh : nI 1 <<< (nI n &&& nI 31) = nI (2 ^ n) := sh_k n (by omega)
        have hp := pow4 n hn4
        have o := nI_or (a := g) (b := 2 ^ n) (by omega) (by omega)
        rw [q1] at o
        simp (disch := omega) only [wbr_T, wbr_F, wgd_T, wbq, wbv, wnm, zI_mk, zL_mk, uI_mk, uL_mk, kI_mk, kL_mk, nI_add, nI_mul, nI_sub, nI_div, nI_clamp, wgB, wgP, nI_leI, nI_ltI, nI_eq, nI_eqm, nI_eqm5, wdT, wdF, wd1, wd0, li_0, li_1, li_2, li_3, li_4, li_5, li_6, li_7, li_8, li_9, li_10, li_11, li_12, li_13, li_14, li_15, li_16, li_17, li_18, li_19, li_20, li_21, li_22, li_23, li_24, li_25, li_26, li_27, li_28, li_29, li_30, li_31, li_32, li_33, li_38, li_40, li_41, li_48, li_57, li_58, li_59, li_60, li_61, li_62, li_63, li_68, li_69, li_70, li_71, li_72, li_73, li_74, li_75, li_83, li_87, li_88, li_89, li_99, li_100, li_104, li_105, li_106, li_107, li_108, li_109, li_110, li_111, li_112, li_113, li_114, li_115, li_116, li_117, li_118, li_119, li_120, li_121, li_124, li_127, li_128, li_200, li_4095, li_4096, li_9999, fn_Sh_seek_L47, et, bt, c2, sh, o, e1, gT_mk_24, zT_mk_24, zR_mk_24_0, zR_mk_24_1, zR_mk_24_2, gT_mk_25, zT_mk_25, gT_mk_26, zT_mk_26, gT_mk_27, zT_mk_27, gT_mk_28, zT_mk_28, zR_mk_28_0, zR_mk_28_1, zR_mk_28_2, gT_mk_29, zT_mk_29, gT_mk_30, zT_mk_30, gT_mk_31, zT_mk_31, gT_mk_32, zT_mk_32, zR_mk_32_0, gT_mk_33, zT_mk_33]
        exact e2
      · rw [if_neg c2]
        obtain ⟨f2, e2, b2, s2⟩ := c_sk47 hz htk hsz ih hg hsum e (n + 1) G f st (by omega) (by omega) hC hB hr
        refine ⟨f2, ?_, b2, s2⟩
        simp (disch := omega) only [wbr_T, wbr_F, wgd_T, wbq, wbv, wnm, zI_mk, zL_mk, uI_mk, uL_mk, kI_mk, kL_mk, nI_add, nI_mul, nI_sub, nI_div, nI_clamp, wgB, wgP, nI_leI, nI_ltI, nI_eq, nI_eqm, nI_eqm5, wdT, wdF, wd1, wd0, li_0, li_1, li_2, li_3, li_4, li_5, li_6, li_7, li_8, li_9, li_10, li_11, li_12, li_13, li_14, li_15, li_16, li_17, li_18, li_19, li_20, li_21, li_22, li_23, li_24, li_25, li_26, li_27, li_28, li_29, li_30, li_31, li_32, li_33, li_38, li_40, li_41, li_48, li_57, li_58, li_59, li_60, li_61, li_62, li_63, li_68, li_69, li_70, li_71, li_72, li_73, li_74, li_75, li_83, li_87, li_88, li_89, li_99, li_100, li_104, li_105, li_106, li_107, li_108, li_109, li_110, li_111, li_112, li_113, li_114, li_115, li_116, li_117, li_118, li_119, li_120, li_121, li_124, li_127, li_128, li_200, li_4095, li_4096, li_9999, fn_Sh_seek_L47, et, bt, gT_mk_24, zT_mk_24, zR_mk_24_0, zR_mk_24_1, zR_mk_24_2, gT_mk_25, zT_mk_25, gT_mk_26, zT_mk_26, gT_mk_27, zT_mk_27, gT_mk_28, zT_mk_28, zR_mk_28_0, zR_mk_28_1, zR_mk_28_2, gT_mk_29, zT_mk_29, gT_mk_30, zT_mk_30, gT_mk_31, zT_mk_31, gT_mk_32, zT_mk_32, zR_mk_32_0, gT_mk_33, zT_mk_33]
        exact e2
    · rw [if_neg c] at et ⊢
      obtain ⟨f2, e2, b2, s2⟩ := c_sk47 hz htk hsz ih hg hsum e (n + 1) G f st (by omega) (by omega) hC hB hr
      rw [if_neg c] at b2
      refine ⟨f2, ?_, b2, s2⟩
      show fn_Sh_seek_L47 o0 24 (nI s) (nI g) (nI sum) (nI n) (mk f l R) _ = _
      simp (disch := omega) only [wbr_T, wbr_F, wgd_T, wbq, wbv, wnm, zI_mk, zL_mk, uI_mk, uL_mk, kI_mk, kL_mk, nI_add, nI_mul, nI_sub, nI_div, nI_clamp, wgB, wgP, nI_leI, nI_ltI, nI_eq, nI_eqm, nI_eqm5, wdT, wdF, wd1, wd0, li_0, li_1, li_2, li_3, li_4, li_5, li_6, li_7, li_8, li_9, li_10, li_11, li_12, li_13, li_14, li_15, li_16, li_17, li_18, li_19, li_20, li_21, li_22, li_23, li_24, li_25, li_26, li_27, li_28, li_29, li_30, li_31, li_32, li_33, li_38, li_40, li_41, li_48, li_57, li_58, li_59, li_60, li_61, li_62, li_63, li_68, li_69, li_70, li_71, li_72, li_73, li_74, li_75, li_83, li_87, li_88, li_89, li_99, li_100, li_104, li_105, li_106, li_107, li_108, li_109, li_110, li_111, li_112, li_113, li_114, li_115, li_116, li_117, li_118, li_119, li_120, li_121, li_124, li_127, li_128, li_200, li_4095, li_4096, li_9999, fn_Sh_seek_L47, et, gT_mk_24, zT_mk_24, zR_mk_24_0, zR_mk_24_1, zR_mk_24_2, gT_mk_25, zT_mk_25, gT_mk_26, zT_mk_26, gT_mk_27, zT_mk_27, gT_mk_28, zT_mk_28, zR_mk_28_0, zR_mk_28_1, zR_mk_28_2, gT_mk_29, zT_mk_29, gT_mk_30, zT_mk_30, gT_mk_31, zT_mk_31, gT_mk_32, zT_mk_32, zR_mk_32_0, gT_mk_33, zT_mk_33]
      exact e2
theorem c_seek (hz : z ≤ 6) (htk : ∀ s n, tk s n ≤ 12) : ∀ (d s u g sum : Nat) (row : Nat → Nat) (st : shS) (f : Nat → Nat → Int32), s + d = z → d < u → g < 16 → sum ≤ 12 * s → SC z ok tk f → SB z f st → (∀ k, k < s → f 26 k = nI (row k)) →
    ∃ f', fn_Sh_seek u 24 (nI s) (nI g) (nI sum) (mk f l R) = some (mk f' l R) ∧ SB z f' (shD ok tk d s g sum row st) ∧ SF s f f'
  | 0, s, u, g, sum, row, st, f, hs, hu, hg, hsum, hC, hB, hr => by
    obtain ⟨u, rfl⟩ : ∃ v, u = v + 1 := ⟨u - 1, by omega⟩
    have es : s = z := by omega
    subst es
    obtain ⟨h1, h2, h3⟩ := hB
    have hC1 := hC.1
    rw [shseek_S]
    show ∃ f', _ ∧ SB s f' (if st.1 < sum + 1 then (sum + 1, row) else st) ∧ _
    have lt := sub_lt' (a := st.1) (b := 1) (c := sum) (by omega) (by decide) (by omega)
    by_cases c : st.1 < sum + 1
    · rw [if_pos c]
      have lt1 := lt.mpr c
      have k1 : ∀ f, gK (mk f l R) 1 26 27 (nI 0) (nI 0) (nI 6) = true := fun f => wgK (P := 6) (Q := 6) rfl rfl (by decide) (by decide) rfl rfl (by decide) (by decide) (by decide) (by decide)
      refine ⟨kp (up f 24 4 (nI sum)) 26 0 27 0 6, ?_, ⟨by show sum + 1 ≤ 100; omega, ?_, fun _ k hk => ?_⟩, fun p j q1 q2 q3 => ?_⟩
      · simp (disch := omega) only [wbr_T, wbr_F, wgd_T, wbq, wbv, wnm, zI_mk, zL_mk, uI_mk, uL_mk, kI_mk, kL_mk, nI_add, nI_mul, nI_sub, nI_div, nI_clamp, wgB, wgP, nI_leI, nI_ltI, nI_eq, nI_eqm, nI_eqm5, wdT, wdF, wd1, wd0, li_0, li_1, li_2, li_3, li_4, li_5, li_6, li_7, li_8, li_9, li_10, li_11, li_12, li_13, li_14, li_15, li_16, li_17, li_18, li_19, li_20, li_21, li_22, li_23, li_24, li_25, li_26, li_27, li_28, li_29, li_30, li_31, li_32, li_33, li_38, li_40, li_41, li_48, li_57, li_58, li_59, li_60, li_61, li_62, li_63, li_68, li_69, li_70, li_71, li_72, li_73, li_74, li_75, li_83, li_87, li_88, li_89, li_99, li_100, li_104, li_105, li_106, li_107, li_108, li_109, li_110, li_111, li_112, li_113, li_114, li_115, li_116, li_117, li_118, li_119, li_120, li_121, li_124, li_127, li_128, li_200, li_4095, li_4096, li_9999, fn_Sh_seek_o, fn_Sh_seek_L14, hC1, h2, lt1, k1, gT_mk_24, zT_mk_24, zR_mk_24_0, zR_mk_24_1, zR_mk_24_2, gT_mk_25, zT_mk_25, gT_mk_26, zT_mk_26, gT_mk_27, zT_mk_27, gT_mk_28, zT_mk_28, zR_mk_28_0, zR_mk_28_1, zR_mk_28_2, gT_mk_29, zT_mk_29, gT_mk_30, zT_mk_30, gT_mk_31, zT_mk_31, gT_mk_32, zT_mk_32, zR_mk_32_0, gT_mk_33, zT_mk_33]
      · rw [kp_np (by decide), up_eq]
        show _ = nI (sum + 1) - nI 1
        rw [nI_sub (by omega), Nat.add_sub_cancel]
      · rw [kp_in (by omega), up_np (by decide)]
        exact hr k hk
      · rw [kp_np q2]
        by_cases e : p = 24
        · subst e
          exact up_nj (fun q => q3 ⟨rfl, q⟩)
        · exact up_np e
    · rw [if_neg c]
      have lt1 : ¬ nI st.1 - nI 1 < nI sum := fun q => c (lt.mp q)
      refine ⟨f, ?_, ⟨h1, h2, h3⟩, SF_r⟩
      simp (disch := omega) only [wbr_T, wbr_F, wgd_T, wbq, wbv, wnm, zI_mk, zL_mk, uI_mk, uL_mk, kI_mk, kL_mk, nI_add, nI_mul, nI_sub, nI_div, nI_clamp, wgB, wgP, nI_leI, nI_ltI, nI_eq, nI_eqm, nI_eqm5, wdT, wdF, wd1, wd0, li_0, li_1, li_2, li_3, li_4, li_5, li_6, li_7, li_8, li_9, li_10, li_11, li_12, li_13, li_14, li_15, li_16, li_17, li_18, li_19, li_20, li_21, li_22, li_23, li_24, li_25, li_26, li_27, li_28, li_29, li_30, li_31, li_32, li_33, li_38, li_40, li_41, li_48, li_57, li_58, li_59, li_60, li_61, li_62, li_63, li_68, li_69, li_70, li_71, li_72, li_73, li_74, li_75, li_83, li_87, li_88, li_89, li_99, li_100, li_104, li_105, li_106, li_107, li_108, li_109, li_110, li_111, li_112, li_113, li_114, li_115, li_116, li_117, li_118, li_119, li_120, li_121, li_124, li_127, li_128, li_200, li_4095, li_4096, li_9999, fn_Sh_seek_o, fn_Sh_seek_L14, hC1, h2, lt1, gT_mk_24, zT_mk_24, zR_mk_24_0, zR_mk_24_1, zR_mk_24_2, gT_mk_25, zT_mk_25, gT_mk_26, zT_mk_26, gT_mk_27, zT_mk_27, gT_mk_28, zT_mk_28, zR_mk_28_0, zR_mk_28_1, zR_mk_28_2, gT_mk_29, zT_mk_29, gT_mk_30, zT_mk_30, gT_mk_31, zT_mk_31, gT_mk_32, zT_mk_32, zR_mk_32_0, gT_mk_33, zT_mk_33]
  | d + 1, s, u, g, sum, row, st, f, hs, hu, hg, hsum, hC, hB, hr => by
    obtain ⟨u, rfl⟩ : ∃ v, u = v + 1 := ⟨u - 1, by omega⟩
    have hC1 := hC.1
    rw [shseek_S]
    obtain ⟨f1, e1, b1, s1⟩ := c_sk47 (l := l) (R := R) (o0 := fun b0 b1 b2 b3 S => fn_Sh_seek u b0 b1 b2 b3 S) hz htk (show s + 1 + d = z by omega) (fun g sum row st f h1 h2 h3 h4 h5 => c_seek hz htk d (s + 1) u g sum row st f (by omega) (by omega) h1 h2 h3 h4 h5) hg hsum 4 0 FU f st rfl (by decide) hC hB hr
    refine ⟨f1, ?_, b1, s1⟩
    simp (disch := omega) only [wbr_T, wbr_F, wgd_T, wbq, wbv, wnm, zI_mk, zL_mk, uI_mk, uL_mk, kI_mk, kL_mk, nI_add, nI_mul, nI_sub, nI_div, nI_clamp, wgB, wgP, nI_leI, nI_ltI, nI_eq, nI_eqm, nI_eqm5, wdT, wdF, wd1, wd0, li_0, li_1, li_2, li_3, li_4, li_5, li_6, li_7, li_8, li_9, li_10, li_11, li_12, li_13, li_14, li_15, li_16, li_17, li_18, li_19, li_20, li_21, li_22, li_23, li_24, li_25, li_26, li_27, li_28, li_29, li_30, li_31, li_32, li_33, li_38, li_40, li_41, li_48, li_57, li_58, li_59, li_60, li_61, li_62, li_63, li_68, li_69, li_70, li_71, li_72, li_73, li_74, li_75, li_83, li_87, li_88, li_89, li_99, li_100, li_104, li_105, li_106, li_107, li_108, li_109, li_110, li_111, li_112, li_113, li_114, li_115, li_116, li_117, li_118, li_119, li_120, li_121, li_124, li_127, li_128, li_200, li_4095, li_4096, li_9999, fn_Sh_seek_o, hC1, gT_mk_24, zT_mk_24, zR_mk_24_0, zR_mk_24_1, zR_mk_24_2, gT_mk_25, zT_mk_25, gT_mk_26, zT_mk_26, gT_mk_27, zT_mk_27, gT_mk_28, zT_mk_28, zR_mk_28_0, zR_mk_28_1, zR_mk_28_2, gT_mk_29, zT_mk_29, gT_mk_30, zT_mk_30, gT_mk_31, zT_mk_31, gT_mk_32, zT_mk_32, zR_mk_32_0, gT_mk_33, zT_mk_33]
    exact e1
/-! what each takes -/
def tkS (V : zV) (a : Nat → Nat) (s n : Nat) : Nat := if s < 6 ∧ n < 4 then pc (takesN V a s (a (60 + 2 * n))) else 0
theorem tkS_le (s n : Nat) : tkS V a s n ≤ 12 := by
  unfold tkS
  split
  · exact pc_le _ takesN_lt
  · exact Nat.zero_le _
theorem tkS_in (hs : s < 6) (hn : n < 4) : tkS V a s n = pc (takesN V a s (a (60 + 2 * n))) := if_pos ⟨hs, hn⟩
def okS (a : Nat → Nat) (wo : Int32) (s : Nat) : Bool := decide (a (10 * s + 3) < 99) && !decide (nI s = wo)
def shR (V : zV) (a : Nat → Nat) (wo : Int32) : shS := shD (okS a wo) (tkS V a) (a 68) 0 0 0 (fun _ => 0) (0, fun _ => 0)
theorem shR_le {wo : Int32} : ∀ k, (shR V a wo).2 k ≤ 9 := shD_le _ _ _ _ _ _ (fun _ => Nat.zero_le _) (fun _ => Nat.zero_le _)
theorem shR_pos {wo : Int32} : 0 < (shR V a wo).1 := shD_pos _ _ _ _ _ _
/-- what sharing changes, of the class -/
def sj (f f' : Nat → Nat → Int32) : Prop := ∀ p j, ¬ (24 ≤ p ∧ p ≤ 27) → f' p j = f p j
theorem sj_r : sj f f := fun _ _ _ => rfl
theorem sj_t (h : sj f f') (h2 : sj f' g) : sj f g := fun p j q => (h2 p j q).trans (h p j q)
theorem sj_F (h : SF s f f') : sj f f' := fun p j q => h p j (by omega) (by omega) (by omega)
theorem sj_CX (h : CX T N ru D 41 a f R) (hs : sj f f') : CX T N ru D 41 a f' R := ⟨CK_fr h.1 (fun p j q => hs p j (by omega)), cC_fr h.2.1 (fun p j q1 q2 => hs p j (by omega)) rfl, h.2.2⟩
theorem c_sh64 {K10 : Nat → Nat → Int32 → Int32 → zS → Option zS} {wo : Int32} {y : Nat} (hi : s < a 68) (hy : y < 2) : ∀ (e n G : Nat) (f : Nat → Nat → Int32), n + e = 4 → e < G → CX T N ru D 41 a f R →
    ∃ f', lp (σ := Nat × Nat × Int32 × Int32 × Nat × Int32 × Int32 × Int32 × zS) (fun k s => fn_Sh_share_L64 s.1 s.2.1 s.2.2.1 s.2.2.2.1 s.2.2.2.2.1 s.2.2.2.2.2.1 s.2.2.2.2.2.2.1 s.2.2.2.2.2.2.2.1 s.2.2.2.2.2.2.2.2 K10 (fun (a0 : Nat) (a1 : Nat) (a2 : Int32) (a3 : Int32) (a4 : Nat) (a5 : Int32) (a6 : Int32) (a7 : Int32) (S : zS) => k (a0, a1, a2, a3, a4, a5, a6, a7, S))) G (24, 41, wo, nI s, 51 + 2 * s, gritS (rV T N) a s, nI y, nI n, mk f l R) = K10 24 41 wo (nI (s + 1)) (mk f' l R)
      ∧ (∀ j, n ≤ j → j < 4 → f' 25 (s * 4 + j) = if y = 1 then nI (tkS (rV T N) a s j) else -nI 1) ∧ ∀ p j, ¬ (p = 25 ∧ s * 4 + n ≤ j ∧ j < s * 4 + 4) → f' p j = f p j
  | 0, n, G, f, hn, hG, h => by
    obtain ⟨G, rfl⟩ : ∃ H, G = H + 1 := ⟨G - 1, by omega⟩
    have en : n = 4 := by omega
    subst en
    refine ⟨f, ?_, fun j h1 h2 => by omega, fun _ _ _ => rfl⟩
    rw [lpS]
    show fn_Sh_share_L64 24 41 wo (nI s) (51 + 2 * s) _ (nI y) (nI 4) (mk f l R) K10 _ = _
    simp (disch := omega) only [wbr_T, wbr_F, wgd_T, wbq, wbv, wnm, zI_mk, zL_mk, uI_mk, uL_mk, kI_mk, kL_mk, nI_add, nI_mul, nI_sub, nI_div, nI_clamp, wgB, wgP, nI_leI, nI_ltI, nI_eq, nI_eqm, nI_eqm5, wdT, wdF, wd1, wd0, li_0, li_1, li_2, li_3, li_4, li_5, li_6, li_7, li_8, li_9, li_10, li_11, li_12, li_13, li_14, li_15, li_16, li_17, li_18, li_19, li_20, li_21, li_22, li_23, li_24, li_25, li_26, li_27, li_28, li_29, li_30, li_31, li_32, li_33, li_38, li_40, li_41, li_48, li_57, li_58, li_59, li_60, li_61, li_62, li_63, li_68, li_69, li_70, li_71, li_72, li_73, li_74, li_75, li_83, li_87, li_88, li_89, li_99, li_100, li_104, li_105, li_106, li_107, li_108, li_109, li_110, li_111, li_112, li_113, li_114, li_115, li_116, li_117, li_118, li_119, li_120, li_121, li_124, li_127, li_128, li_200, li_4095, li_4096, li_9999, fn_Sh_share_L64]
  | e + 1, n, G, f, hn, hG, h => by
    obtain ⟨G, rfl⟩ : ∃ H, G = H + 1 := ⟨G - 1, by omega⟩
    obtain ⟨u0, u1, u2, u3, u4, u5, u6, u7, u8, u9, u10, u11, u12, u13, u14, u15, u16, u17, u18, u19, u20, u21, u22, u23, u24, u25, u26, u27, u28, u29, u30⟩ := hbB
    have z6 := h.2.1.1.1
    have hn4 : n < 4 := by omega
    have key : ∀ v : Int32, v = (if y = 1 then nI (tkS (rV T N) a s n) else -nI 1) → (∀ K : Nat → Nat → Int32 → Int32 → Nat → Int32 → Int32 → Int32 → zS → Option zS, fn_Sh_share_L64 24 41 wo (nI s) (51 + 2 * s) (gritS (rV T N) a s) (nI y) (nI n) (mk f l R) K10 K = K 24 41 wo (nI s) (51 + 2 * s) (gritS (rV T N) a s) (nI y) (nI (n + 1)) (mk (up f 25 (s * 4 + n) v) l R)) → ∃ f', lp (σ := Nat × Nat × Int32 × Int32 × Nat × Int32 × Int32 × Int32 × zS) (fun k s => fn_Sh_share_L64 s.1 s.2.1 s.2.2.1 s.2.2.2.1 s.2.2.2.2.1 s.2.2.2.2.2.1 s.2.2.2.2.2.2.1 s.2.2.2.2.2.2.2.1 s.2.2.2.2.2.2.2.2 K10 (fun (a0 : Nat) (a1 : Nat) (a2 : Int32) (a3 : Int32) (a4 : Nat) (a5 : Int32) (a6 : Int32) (a7 : Int32) (S : zS) => k (a0, a1, a2, a3, a4, a5, a6, a7, S))) (G + 1) (24, 41, wo, nI s, 51 + 2 * s, gritS (rV T N) a s, nI y, nI n, mk f l R) = K10 24 41 wo (nI (s + 1)) (mk f' l R)
      ∧ (∀ j, n ≤ j → j < 4 → f' 25 (s * 4 + j) = if y = 1 then nI (tkS (rV T N) a s j) else -nI 1) ∧ ∀ p j, ¬ (p = 25 ∧ s * 4 + n ≤ j ∧ j < s * 4 + 4) → f' p j = f p j := by
      intro v hv hK
      obtain ⟨f2, e2, q2, fr2⟩ := c_sh64 hi hy e (n + 1) G (up f 25 (s * 4 + n) v) (by omega) (by omega) (sj_CX h (fun p j q => up_np (by omega)))
      refine ⟨f2, ?_, fun j h1 h2 => ?_, fun p j hp => ?_⟩
      · rw [lpS]
        exact (hK _).trans e2
      · by_cases ej : j = n
        · subst ej
          rw [fr2 25 _ (by omega), up_eq, hv]
        · exact q2 j (by omega) h2
      · rw [fr2 p j (by omega)]
        by_cases ep : p = 25
        · subst ep
          exact up_nj (by omega)
        · exact up_np ep
    rcases (by omega : y = 0 ∨ y = 1) with rfl | rfl
    · refine key (-nI 1) (if_neg (by decide)).symm (fun K => ?_)
      simp (disch := omega) only [wbr_T, wbr_F, wgd_T, wbq, wbv, wnm, zI_mk, zL_mk, uI_mk, uL_mk, kI_mk, kL_mk, nI_add, nI_mul, nI_sub, nI_div, nI_clamp, wgB, wgP, nI_leI, nI_ltI, nI_eq, nI_eqm, nI_eqm5, wdT, wdF, wd1, wd0, li_0, li_1, li_2, li_3, li_4, li_5, li_6, li_7, li_8, li_9, li_10, li_11, li_12, li_13, li_14, li_15, li_16, li_17, li_18, li_19, li_20, li_21, li_22, li_23, li_24, li_25, li_26, li_27, li_28, li_29, li_30, li_31, li_32, li_33, li_38, li_40, li_41, li_48, li_57, li_58, li_59, li_60, li_61, li_62, li_63, li_68, li_69, li_70, li_71, li_72, li_73, li_74, li_75, li_83, li_87, li_88, li_89, li_99, li_100, li_104, li_105, li_106, li_107, li_108, li_109, li_110, li_111, li_112, li_113, li_114, li_115, li_116, li_117, li_118, li_119, li_120, li_121, li_124, li_127, li_128, li_200, li_4095, li_4096, li_9999, fn_Sh_share_L64, gT_mk_24, zT_mk_24, zR_mk_24_0, zR_mk_24_1, zR_mk_24_2, gT_mk_25, zT_mk_25, gT_mk_26, zT_mk_26, gT_mk_27, zT_mk_27, gT_mk_28, zT_mk_28, zR_mk_28_0, zR_mk_28_1, zR_mk_28_2, gT_mk_29, zT_mk_29, gT_mk_30, zT_mk_30, gT_mk_31, zT_mk_31, gT_mk_32, zT_mk_32, zR_mk_32_0, gT_mk_33, zT_mk_33]
    · have go := ((Gd_all h.2.2.1).2.2.1 n hn4).1
      have et : fn_Sa_takes (51 + 2 * s) (nI (a (60 + 2 * n))) (gritS (rV T N) a s) (mk f l R) = _ := c_takesS (l := l) (R := R) h.1 (sp_b zb41 (show s < 6 by omega)) (cC_sP h.2.1 hi) h.2.2.1 (by omega) go
      have eo : f 43 n = nI (a (60 + 2 * n)) := cC_o h.2.1 hn4
      have bc := bc_pc (S := mk f l R) (takesN_lt (V := rV T N) (a := a) (i := s) (o := a (60 + 2 * n)))
      rw [← tkS_in (V := rV T N) (a := a) (show s < 6 by omega) hn4] at bc
      refine key (nI (tkS (rV T N) a s n)) (if_pos rfl).symm (fun K => ?_)
      simp (disch := omega) only [wbr_T, wbr_F, wgd_T, wbq, wbv, wnm, zI_mk, zL_mk, uI_mk, uL_mk, kI_mk, kL_mk, nI_add, nI_mul, nI_sub, nI_div, nI_clamp, wgB, wgP, nI_leI, nI_ltI, nI_eq, nI_eqm, nI_eqm5, wdT, wdF, wd1, wd0, li_0, li_1, li_2, li_3, li_4, li_5, li_6, li_7, li_8, li_9, li_10, li_11, li_12, li_13, li_14, li_15, li_16, li_17, li_18, li_19, li_20, li_21, li_22, li_23, li_24, li_25, li_26, li_27, li_28, li_29, li_30, li_31, li_32, li_33, li_38, li_40, li_41, li_48, li_57, li_58, li_59, li_60, li_61, li_62, li_63, li_68, li_69, li_70, li_71, li_72, li_73, li_74, li_75, li_83, li_87, li_88, li_89, li_99, li_100, li_104, li_105, li_106, li_107, li_108, li_109, li_110, li_111, li_112, li_113, li_114, li_115, li_116, li_117, li_118, li_119, li_120, li_121, li_124, li_127, li_128, li_200, li_4095, li_4096, li_9999, fn_Sh_share_L64, et, eo, bc, gT_mk_24, zT_mk_24, zR_mk_24_0, zR_mk_24_1, zR_mk_24_2, gT_mk_25, zT_mk_25, gT_mk_26, zT_mk_26, gT_mk_27, zT_mk_27, gT_mk_28, zT_mk_28, zR_mk_28_0, zR_mk_28_1, zR_mk_28_2, gT_mk_29, zT_mk_29, gT_mk_30, zT_mk_30, gT_mk_31, zT_mk_31, gT_mk_32, zT_mk_32, zR_mk_32_0, gT_mk_33, zT_mk_33, u0, u1, u2, u3, u4, u5, u6, u7, u8, u9, u10, u11, u12, u13, u14, u15, u16, u17, u18, u19, u20, u21, u22, u23, u24, u25, u26, u27, u28, u29, u30]
theorem c_sh10 {wo : Int32} : ∀ (d s G : Nat) (f : Nat → Nat → Int32), s + d = a 68 → d < G → CX T N ru D 41 a f R → f 24 3 = nI (a 68) → (∀ i n, i < s → n < 4 → f 25 (i * 4 + n) = if okS a wo i = true then nI (tkS (rV T N) a i n) else -nI 1) →
    ∃ f', lp (σ := Nat × Nat × Int32 × Int32 × zS) (fun k s => fn_Sh_share_L10 s.1 s.2.1 s.2.2.1 s.2.2.2.1 s.2.2.2.2 (fun (a0 : Nat) (a1 : Nat) (a2 : Int32) (a3 : Int32) (S : zS) => k (a0, a1, a2, a3, S))) G (24, 41, wo, nI s, mk f l R) = some (mk f' l R) ∧ sj f f' ∧ f' 24 3 = nI (a 68) ∧ SB (a 68) f' (shR (rV T N) a wo)
  | 0, s, G, f, hs, hG, h, h3, ht => by
    obtain ⟨G, rfl⟩ : ∃ H, G = H + 1 := ⟨G - 1, by omega⟩
    have es : s = a 68 := by omega
    subst es
    have z6 := h.2.1.1.1
    obtain ⟨f1, e1, b1, s1⟩ := c_seek (l := l) (R := R) (ok := okS a wo) (tk := tkS (rV T N) a) z6 tkS_le (a 68) 0 FR 0 0 (fun _ => 0) (0, fun _ => 0) (up f 24 4 (-nI 1)) (Nat.zero_add _) (by show _ < 60; omega) (by decide) (Nat.zero_le _) ⟨(up_nj (by decide)).trans h3, fun i n h1 h2 => (up_np (by decide)).trans (ht i n h1 h2)⟩ ⟨Nat.zero_le _, up_eq, fun q => absurd q (by decide)⟩ (fun k hk => absurd hk (Nat.not_lt_zero _))
    refine ⟨f1, ?_, fun p j q => (s1 p j (by omega) (by omega) (by omega)).trans (up_np (by omega)), (s1 24 3 (by omega) (by omega) (by omega)).trans ((up_nj (by decide)).trans h3), b1⟩
    rw [lpS]
    show fn_Sh_share_L10 24 41 wo (nI (a 68)) (mk f l R) _ = _
    simp (disch := omega) only [wbr_T, wbr_F, wgd_T, wbq, wbv, wnm, zI_mk, zL_mk, uI_mk, uL_mk, kI_mk, kL_mk, nI_add, nI_mul, nI_sub, nI_div, nI_clamp, wgB, wgP, nI_leI, nI_ltI, nI_eq, nI_eqm, nI_eqm5, wdT, wdF, wd1, wd0, li_0, li_1, li_2, li_3, li_4, li_5, li_6, li_7, li_8, li_9, li_10, li_11, li_12, li_13, li_14, li_15, li_16, li_17, li_18, li_19, li_20, li_21, li_22, li_23, li_24, li_25, li_26, li_27, li_28, li_29, li_30, li_31, li_32, li_33, li_38, li_40, li_41, li_48, li_57, li_58, li_59, li_60, li_61, li_62, li_63, li_68, li_69, li_70, li_71, li_72, li_73, li_74, li_75, li_83, li_87, li_88, li_89, li_99, li_100, li_104, li_105, li_106, li_107, li_108, li_109, li_110, li_111, li_112, li_113, li_114, li_115, li_116, li_117, li_118, li_119, li_120, li_121, li_124, li_127, li_128, li_200, li_4095, li_4096, li_9999, fn_Sh_share_L10, h3, e1, gT_mk_24, zT_mk_24, zR_mk_24_0, zR_mk_24_1, zR_mk_24_2, gT_mk_25, zT_mk_25, gT_mk_26, zT_mk_26, gT_mk_27, zT_mk_27, gT_mk_28, zT_mk_28, zR_mk_28_0, zR_mk_28_1, zR_mk_28_2, gT_mk_29, zT_mk_29, gT_mk_30, zT_mk_30, gT_mk_31, zT_mk_31, gT_mk_32, zT_mk_32, zR_mk_32_0, gT_mk_33, zT_mk_33]
  | d + 1, s, G, f, hs, hG, h, h3, ht => by
    obtain ⟨G, rfl⟩ : ∃ H, G = H + 1 := ⟨G - 1, by omega⟩
    obtain ⟨u0, u1, u2, u3, u4, u5, u6, u7, u8, u9, u10, u11, u12, u13, u14, u15, u16, u17, u18, u19, u20, u21, u22, u23, u24, u25, u26, u27, u28, u29, u30⟩ := hbB
    have z6 := h.2.1.1.1
    have hi : s < a 68 := by omega
    have hsp := sp_b zb41 (show s < 6 by omega)
    have eg : fn_Sa_grit (51 + 2 * s) (hp (a 70)) (nI (a 69)) (mk f l R) = _ := c_grit (l := l) (R := R) h.1 hsp (cC_sP h.2.1 hi) h.2.2.1 h.2.2.2 (by omega)
    have ed : f 41 7 = nI (a 69) := cC_d h.2.1
    have hRh := h.2.1.2.2.1
    have g9 := (Gd_gs h.2.2.1 (show s < 6 by omega)).2.2.2.1
    have et : fn_Sa_isThread (51 + 2 * s) (mk f l R) = _ := c_thread (l := l) (R := R) hsp (cC_w h.2.1 hi) g9
    have cont : ∀ y, y < 2 → okS a wo s = decide (y = 1) → (∀ K : Nat → Nat → Int32 → Int32 → zS → Option zS, fn_Sh_share_L10 24 41 wo (nI s) (mk f l R) K = lp (σ := Nat × Nat × Int32 × Int32 × Nat × Int32 × Int32 × Int32 × zS) (fun k s => fn_Sh_share_L64 s.1 s.2.1 s.2.2.1 s.2.2.2.1 s.2.2.2.2.1 s.2.2.2.2.2.1 s.2.2.2.2.2.2.1 s.2.2.2.2.2.2.2.1 s.2.2.2.2.2.2.2.2 K (fun (a0 : Nat) (a1 : Nat) (a2 : Int32) (a3 : Int32) (a4 : Nat) (a5 : Int32) (a6 : Int32) (a7 : Int32) (S : zS) => k (a0, a1, a2, a3, a4, a5, a6, a7, S))) FU (24, 41, wo, nI s, 51 + 2 * s, gritS (rV T N) a s, nI y, nI 0, mk f l R)) →
        ∃ f', lp (σ := Nat × Nat × Int32 × Int32 × zS) (fun k s => fn_Sh_share_L10 s.1 s.2.1 s.2.2.1 s.2.2.2.1 s.2.2.2.2 (fun (a0 : Nat) (a1 : Nat) (a2 : Int32) (a3 : Int32) (S : zS) => k (a0, a1, a2, a3, S))) (G + 1) (24, 41, wo, nI s, mk f l R) = some (mk f' l R) ∧ sj f f' ∧ f' 24 3 = nI (a 68) ∧ SB (a 68) f' (shR (rV T N) a wo) := by
      intro y hy hok hK
      obtain ⟨f1, e1, q1, fr1⟩ := c_sh64 (l := l) (K10 := fun (a0 : Nat) (a1 : Nat) (a2 : Int32) (a3 : Int32) (S : zS) => lp (σ := Nat × Nat × Int32 × Int32 × zS) (fun k s => fn_Sh_share_L10 s.1 s.2.1 s.2.2.1 s.2.2.2.1 s.2.2.2.2 (fun (a0 : Nat) (a1 : Nat) (a2 : Int32) (a3 : Int32) (S : zS) => k (a0, a1, a2, a3, S))) G (a0, a1, a2, a3, S)) (wo := wo) (y := y) hi hy 4 0 FU f rfl (by decide) h
      have s1 : sj f f1 := fun p j q => fr1 p j (by omega)
      obtain ⟨f2, e2, s2, r2, b2⟩ := c_sh10 d (s + 1) G f1 (by omega) (by omega) (sj_CX h s1) ((fr1 24 3 (by omega)).trans h3) (fun i n h1 h2 => by
        by_cases ei : i = s
        · subst ei
          rw [q1 n (Nat.zero_le _) h2, hok]
          by_cases ey : y = 1
          · rw [if_pos ey, if_pos (decide_eq_true ey)]
          · rw [if_neg ey, if_neg (fun q => ey (of_decide_eq_true q))]
        · rw [fr1 25 _ (by omega)]
          exact ht i n (by omega) h2)
      refine ⟨f2, ?_, sj_t s1 s2, r2, b2⟩
      rw [lpS]
      exact ((hK _).trans e1).trans e2
    by_cases c1 : nI s = wo
    · refine cont 0 (by decide) ?_ (fun K => ?_)
      · unfold okS
        rw [decide_eq_true c1]
        exact Bool.and_false _
      · simp (disch := omega) only [wbr_T, wbr_F, wgd_T, wbq, wbv, wnm, zI_mk, zL_mk, uI_mk, uL_mk, kI_mk, kL_mk, nI_add, nI_mul, nI_sub, nI_div, nI_clamp, wgB, wgP, nI_leI, nI_ltI, nI_eq, nI_eqm, nI_eqm5, wdT, wdF, wd1, wd0, li_0, li_1, li_2, li_3, li_4, li_5, li_6, li_7, li_8, li_9, li_10, li_11, li_12, li_13, li_14, li_15, li_16, li_17, li_18, li_19, li_20, li_21, li_22, li_23, li_24, li_25, li_26, li_27, li_28, li_29, li_30, li_31, li_32, li_33, li_38, li_40, li_41, li_48, li_57, li_58, li_59, li_60, li_61, li_62, li_63, li_68, li_69, li_70, li_71, li_72, li_73, li_74, li_75, li_83, li_87, li_88, li_89, li_99, li_100, li_104, li_105, li_106, li_107, li_108, li_109, li_110, li_111, li_112, li_113, li_114, li_115, li_116, li_117, li_118, li_119, li_120, li_121, li_124, li_127, li_128, li_200, li_4095, li_4096, li_9999, fn_Sh_share_L10, h3, eg, ed, hRh, wdT c1, gT_mk_24, zT_mk_24, zR_mk_24_0, zR_mk_24_1, zR_mk_24_2, gT_mk_25, zT_mk_25, gT_mk_26, zT_mk_26, gT_mk_27, zT_mk_27, gT_mk_28, zT_mk_28, zR_mk_28_0, zR_mk_28_1, zR_mk_28_2, gT_mk_29, zT_mk_29, gT_mk_30, zT_mk_30, gT_mk_31, zT_mk_31, gT_mk_32, zT_mk_32, zR_mk_32_0, gT_mk_33, zT_mk_33, u0, u1, u2, u3, u4, u5, u6, u7, u8, u9, u10, u11, u12, u13, u14, u15, u16, u17, u18, u19, u20, u21, u22, u23, u24, u25, u26, u27, u28, u29, u30]
    · by_cases c2 : a (10 * s + 3) < 99
      · rw [if_neg (by omega)] at et
        refine cont 1 (by decide) ?_ (fun K => ?_)
        · unfold okS
          rw [decide_eq_false c1, decide_eq_true c2]
          rfl
        · simp (disch := omega) only [wbr_T, wbr_F, wgd_T, wbq, wbv, wnm, zI_mk, zL_mk, uI_mk, uL_mk, kI_mk, kL_mk, nI_add, nI_mul, nI_sub, nI_div, nI_clamp, wgB, wgP, nI_leI, nI_ltI, nI_eq, nI_eqm, nI_eqm5, wdT, wdF, wd1, wd0, li_0, li_1, li_2, li_3, li_4, li_5, li_6, li_7, li_8, li_9, li_10, li_11, li_12, li_13, li_14, li_15, li_16, li_17, li_18, li_19, li_20, li_21, li_22, li_23, li_24, li_25, li_26, li_27, li_28, li_29, li_30, li_31, li_32, li_33, li_38, li_40, li_41, li_48, li_57, li_58, li_59, li_60, li_61, li_62, li_63, li_68, li_69, li_70, li_71, li_72, li_73, li_74, li_75, li_83, li_87, li_88, li_89, li_99, li_100, li_104, li_105, li_106, li_107, li_108, li_109, li_110, li_111, li_112, li_113, li_114, li_115, li_116, li_117, li_118, li_119, li_120, li_121, li_124, li_127, li_128, li_200, li_4095, li_4096, li_9999, fn_Sh_share_L10, h3, eg, ed, hRh, c1, et, gT_mk_24, zT_mk_24, zR_mk_24_0, zR_mk_24_1, zR_mk_24_2, gT_mk_25, zT_mk_25, gT_mk_26, zT_mk_26, gT_mk_27, zT_mk_27, gT_mk_28, zT_mk_28, zR_mk_28_0, zR_mk_28_1, zR_mk_28_2, gT_mk_29, zT_mk_29, gT_mk_30, zT_mk_30, gT_mk_31, zT_mk_31, gT_mk_32, zT_mk_32, zR_mk_32_0, gT_mk_33, zT_mk_33, u0, u1, u2, u3, u4, u5, u6, u7, u8, u9, u10, u11, u12, u13, u14, u15, u16, u17, u18, u19, u20, u21, u22, u23, u24, u25, u26, u27, u28, u29, u30]
      · rw [if_pos (by omega)] at et
        refine cont 0 (by decide) ?_ (fun K => ?_)
        · unfold okS
          rw [decide_eq_false c2]
          rfl
        · simp (disch := omega) only [wbr_T, wbr_F, wgd_T, wbq, wbv, wnm, zI_mk, zL_mk, uI_mk, uL_mk, kI_mk, kL_mk, nI_add, nI_mul, nI_sub, nI_div, nI_clamp, wgB, wgP, nI_leI, nI_ltI, nI_eq, nI_eqm, nI_eqm5, wdT, wdF, wd1, wd0, li_0, li_1, li_2, li_3, li_4, li_5, li_6, li_7, li_8, li_9, li_10, li_11, li_12, li_13, li_14, li_15, li_16, li_17, li_18, li_19, li_20, li_21, li_22, li_23, li_24, li_25, li_26, li_27, li_28, li_29, li_30, li_31, li_32, li_33, li_38, li_40, li_41, li_48, li_57, li_58, li_59, li_60, li_61, li_62, li_63, li_68, li_69, li_70, li_71, li_72, li_73, li_74, li_75, li_83, li_87, li_88, li_89, li_99, li_100, li_104, li_105, li_106, li_107, li_108, li_109, li_110, li_111, li_112, li_113, li_114, li_115, li_116, li_117, li_118, li_119, li_120, li_121, li_124, li_127, li_128, li_200, li_4095, li_4096, li_9999, fn_Sh_share_L10, h3, eg, ed, hRh, c1, et, gT_mk_24, zT_mk_24, zR_mk_24_0, zR_mk_24_1, zR_mk_24_2, gT_mk_25, zT_mk_25, gT_mk_26, zT_mk_26, gT_mk_27, zT_mk_27, gT_mk_28, zT_mk_28, zR_mk_28_0, zR_mk_28_1, zR_mk_28_2, gT_mk_29, zT_mk_29, gT_mk_30, zT_mk_30, gT_mk_31, zT_mk_31, gT_mk_32, zT_mk_32, zR_mk_32_0, gT_mk_33, zT_mk_33, u0, u1, u2, u3, u4, u5, u6, u7, u8, u9, u10, u11, u12, u13, u14, u15, u16, u17, u18, u19, u20, u21, u22, u23, u24, u25, u26, u27, u28, u29, u30]
theorem c_share (h : CX T N ru D 41 a f R) (wo : Int32) : ∃ f', fn_Sh_share 24 41 wo (mk f l R) = some (mk f' l R) ∧ sj f f' ∧ f' 24 3 = nI (a 68) ∧ SB (a 68) f' (shR (rV T N) a wo) := by
  obtain ⟨u0, u1, u2, u3, u4, u5, u6, u7, u8, u9, u10, u11, u12, u13, u14, u15, u16, u17, u18, u19, u20, u21, u22, u23, u24, u25, u26, u27, u28, u29, u30⟩ := hbB
  have z6 := h.2.1.1.1
  have ez : f 41 6 = nI (a 68) := cC_z h.2.1
  have s0 : sj f (up f 24 3 (nI (a 68))) := fun p j q => up_np (by omega)
  obtain ⟨f1, e1, s1, r1, b1⟩ := c_sh10 (l := l) (wo := wo) (a 68) 0 FU (up f 24 3 (nI (a 68))) (Nat.zero_add _) (by show _ < 5000; omega) (sj_CX h s0) up_eq (fun i n hi => absurd hi (Nat.not_lt_zero _))
  refine ⟨f1, ?_, sj_t s0 s1, r1, b1⟩
  simp (disch := omega) only [wbr_T, wbr_F, wgd_T, wbq, wbv, wnm, zI_mk, zL_mk, uI_mk, uL_mk, kI_mk, kL_mk, nI_add, nI_mul, nI_sub, nI_div, nI_clamp, wgB, wgP, nI_leI, nI_ltI, nI_eq, nI_eqm, nI_eqm5, wdT, wdF, wd1, wd0, li_0, li_1, li_2, li_3, li_4, li_5, li_6, li_7, li_8, li_9, li_10, li_11, li_12, li_13, li_14, li_15, li_16, li_17, li_18, li_19, li_20, li_21, li_22, li_23, li_24, li_25, li_26, li_27, li_28, li_29, li_30, li_31, li_32, li_33, li_38, li_40, li_41, li_48, li_57, li_58, li_59, li_60, li_61, li_62, li_63, li_68, li_69, li_70, li_71, li_72, li_73, li_74, li_75, li_83, li_87, li_88, li_89, li_99, li_100, li_104, li_105, li_106, li_107, li_108, li_109, li_110, li_111, li_112, li_113, li_114, li_115, li_116, li_117, li_118, li_119, li_120, li_121, li_124, li_127, li_128, li_200, li_4095, li_4096, li_9999, fn_Sh_share, ez, gT_mk_24, zT_mk_24, zR_mk_24_0, zR_mk_24_1, zR_mk_24_2, gT_mk_25, zT_mk_25, gT_mk_26, zT_mk_26, gT_mk_27, zT_mk_27, gT_mk_28, zT_mk_28, zR_mk_28_0, zR_mk_28_1, zR_mk_28_2, gT_mk_29, zT_mk_29, gT_mk_30, zT_mk_30, gT_mk_31, zT_mk_31, gT_mk_32, zT_mk_32, zR_mk_32_0, gT_mk_33, zT_mk_33, u0, u1, u2, u3, u4, u5, u6, u7, u8, u9, u10, u11, u12, u13, u14, u15, u16, u17, u18, u19, u20, u21, u22, u23, u24, u25, u26, u27, u28, u29, u30]
  exact e1
end
