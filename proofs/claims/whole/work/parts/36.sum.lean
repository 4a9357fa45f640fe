/-! BITS of small ints; THE SUM of an order, by the class -/
theorem nI_tn {n : Nat} (h : n < 2 ^ 32) : (nI n).toBitVec.toNat = n := Nat.mod_eq_of_lt h
theorem nI_bv {x : Int32} {n : Nat} (hn : n < 2 ^ 32) (h : x.toBitVec.toNat = n) : x = nI n := by
  apply Int32.toBitVec_inj.mp
  apply BitVec.eq_of_toNat_eq
  rw [h, nI_tn hn]
theorem nI_xor {a b : Nat} (ha : a < 2 ^ 32) (hb : b < 2 ^ 32) : nI a ^^^ nI b = nI (a ^^^ b) := by
  refine nI_bv (Nat.xor_lt_two_pow ha hb) ?_
  rw [Int32.toBitVec_xor, BitVec.toNat_xor, nI_tn ha, nI_tn hb]
theorem nI_and {a b : Nat} (ha : a < 2 ^ 32) (hb : b < 2 ^ 32) : nI a &&& nI b = nI (a &&& b) := by
  refine nI_bv (Nat.lt_of_le_of_lt Nat.and_le_left ha) ?_
  rw [Int32.toBitVec_and, BitVec.toNat_and, nI_tn ha, nI_tn hb]
theorem nI_or {a b : Nat} (ha : a < 2 ^ 32) (hb : b < 2 ^ 32) : nI a ||| nI b = nI (a ||| b) := by
  refine nI_bv (Nat.or_lt_two_pow ha hb) ?_
  rw [Int32.toBitVec_or, BitVec.toNat_or, nI_tn ha, nI_tn hb]
theorem d2 {x y : Nat} (h1 : x / 2 = y / 2) (h2 : x % 2 = y % 2) : x = y := by omega
theorem xor_1 (m : Nat) : m ^^^ 1 = if m % 2 = 0 then m + 1 else m - 1 := by
  refine d2 ?_ ?_
  · rw [Nat.xor_div_two, show 1 / 2 = 0 from rfl, Nat.xor_zero]
    split <;> omega
  · have h1 := Nat.xor_mod_two_eq_one (a := m) (b := 1)
    by_cases e : m % 2 = 0
    · have : (m ^^^ 1) % 2 = 1 := h1.mpr (by omega)
      rw [if_pos e]
      omega
    · have : ¬ (m ^^^ 1) % 2 = 1 := fun q => (h1.mp q) (by omega)
      rw [if_neg e]
      omega
theorem or_1 (m : Nat) : m ||| 1 = m + (1 - m % 2) := by
  refine d2 ?_ ?_
  · rw [Nat.or_div_two, show 1 / 2 = 0 from rfl, Nat.or_zero]
    omega
  · have := (Nat.or_mod_two_eq_one (a := m) (b := 1)).mpr (Or.inr rfl)
    omega
theorem and_m2 {m : Nat} (h : m < 2 ^ 31) : nI m &&& (-2 : Int32) = nI (m - m % 2) := by
  rw [show (-2 : Int32) = nI 4294967294 from by decide, nI_and (by omega) (by decide)]
  congr 1
  refine d2 ?_ ?_
  · rw [Nat.and_div_two, show 4294967294 / 2 = 2 ^ 31 - 1 from rfl, Nat.and_two_pow_sub_one_eq_mod, Nat.mod_eq_of_lt (by omega)]
    omega
  · have h1 := Nat.and_mod_two_eq_one (a := m) (b := 4294967294)
    have h2 : ¬ (m &&& 4294967294) % 2 = 1 := fun q => by
      have := (h1.mp q).2
      omega
    omega
theorem sh_1 {m : Nat} (h : m < 2 ^ 31) : nI m >>> ((1 : Int32) &&& 31) = nI (m / 2) := by
  rw [show ((1 : Int32) &&& 31) = 1 from by decide]
  exact pk_shrN h 1 1 (by decide)
theorem sl_1 {m : Nat} (h : m < 2 ^ 31) : nI m <<< ((1 : Int32) &&& 31) = nI (m * 2) := by
  rw [show ((1 : Int32) &&& 31) = 1 from by decide]
  exact pk_shlN 1 1 (by decide) (by omega)
theorem an_1 {m : Nat} (h : m < 2 ^ 31) : nI m &&& (1 : Int32) = nI (m % 2) := pk_andN (k := 1) (by omega) (by decide)
theorem st_not {m : Nat} (h : m < 2 ^ 31) : nI m ^^^ (1 : Int32) = nI (if m % 2 = 0 then m + 1 else m - 1) := by
  rw [show (1 : Int32) = nI 1 from rfl, nI_xor (by omega) (by decide), xor_1]
theorem st_and {m : Nat} (h : m < 2 ^ 31) : (nI m >>> ((1 : Int32) &&& 31)) &&& ((-2 : Int32) ||| (nI m &&& (1 : Int32))) = nI (if m % 2 = 1 then m / 2 else m / 2 - m / 2 % 2) := by
  rw [sh_1 h, an_1 h]
  rcases Nat.mod_two_eq_zero_or_one m with e | e
  · rw [e, if_neg (by decide), show ((-2 : Int32) ||| nI 0) = -2 from by decide]
    exact and_m2 (by omega)
  · rw [e, if_pos rfl, show ((-2 : Int32) ||| nI 1) = -1 from by decide]
    exact Int32.and_neg_one
theorem st_or {m : Nat} (h : m < 2 ^ 31) : (nI m >>> ((1 : Int32) &&& 31)) ||| (nI m &&& (1 : Int32)) = nI (if m % 2 = 1 then m / 2 + (1 - m / 2 % 2) else m / 2) := by
  rw [sh_1 h, an_1 h]
  rcases Nat.mod_two_eq_zero_or_one m with e | e
  · rw [e, if_neg (by decide), nI_or (by omega) (by decide), Nat.or_zero]
  · rw [e, if_pos rfl, nI_or (by omega) (by decide), or_1]
theorem st_0 {m : Nat} (h : m < 2 ^ 30) : (nI m <<< ((1 : Int32) &&& 31)) ||| (0 : Int32) = nI (2 * m + 0) := by
  rw [sl_1 (by omega), show (0 : Int32) = nI 0 from rfl, nI_or (by omega) (by decide), Nat.or_zero, Nat.mul_comm]
  rfl
theorem st_1 {m : Nat} (h : m < 2 ^ 30) : (nI m <<< ((1 : Int32) &&& 31)) ||| (1 : Int32) = nI (2 * m + 1) := by
  rw [sl_1 (by omega), show (1 : Int32) = nI 1 from rfl, nI_or (by omega) (by decide), or_1]
  congr 1
  omega
/-- a step as readers put it -/
def qOk (q : Nat × Nat) : Prop := q.1 < 128 ∧ q.2 < 10000 ∧ (q.1 = 33 ∨ q.1 = 38 ∨ q.1 = 83 ∨ q.1 = 115 ∨ q.1 = 124 ∨ (lix q.1 < 6 ∧ 60 ≤ q.2 / 100 ∧ q.2 / 100 ≤ 62))
def cOk (c : List (Nat × Nat)) : Prop := ∀ q, q ∈ c → qOk q
theorem cOk_nil : cOk [] := fun _ h => by cases h
theorem cOk_app {a b : List (Nat × Nat)} (ha : cOk a) (hb : cOk b) : cOk (a ++ b) := fun q h => by
  rcases List.mem_append.mp h with h | h
  · exact ha q h
  · exact hb q h
theorem cOk_1 {q : Nat × Nat} (h : qOk q) : cOk [q] := fun x hx => by
  rw [List.mem_singleton] at hx
  exact hx ▸ h
def pOk (F : Nat → pR) : Prop := ∀ k, cOk (F k).2.2.1
theorem pTest_ok {T : Nat → Nat} {n : Nat} : pOk (pTest T n) := by
  intro k
  unfold pTest
  by_cases h1 : lix (sg T n k) < 6
  · rw [if_pos h1]
    by_cases h2 : 60 ≤ sg T n (k + 1) ∧ sg T n (k + 1) ≤ 62
    · rw [if_pos h2]
      by_cases h3 : (pNum T n (k + 2)).1 = true
      · rw [if_pos h3]
        have b := (pNum_ok h3).2.2
        have hl := lix_lt h1
        refine cOk_1 ⟨?_, ?_, Or.inr (Or.inr (Or.inr (Or.inr (Or.inr ⟨h1, ?_, ?_⟩))))⟩ <;> dsimp only <;> omega
      · rw [if_neg h3]
        exact cOk_nil
    · rw [if_neg h2]
      exact cOk_nil
  · rw [if_neg h1]
    exact cOk_nil
theorem pTl_ok {T : Nat → Nat} {n : Nat} {F : Nat → pR} (hF : pOk F) : ∀ (u k : Nat) (c : List (Nat × Nat)) (v : (Nat → Nat) → Bool), cOk c → cOk (pTl T n F u k c v).2.2.1
  | 0, k, c, v, _ => cOk_nil
  | u + 1, k, c, v, h => by
    unfold pTl
    by_cases h1 : sg T n k = 38
    · rw [if_pos h1]
      by_cases h2 : (F (k + 1)).1 = true
      · rw [if_pos h2]
        exact pTl_ok hF u _ _ _ (cOk_app h (cOk_app (hF _) (cOk_1 ⟨by decide, by decide, Or.inr (Or.inl rfl)⟩)))
      · rw [if_neg h2]
        exact cOk_nil
    · rw [if_neg h1]
      exact h
theorem pT_ok {T : Nat → Nat} {n : Nat} {F : Nat → pR} (hF : pOk F) : pOk (pT T n F) := by
  intro k
  unfold pT
  by_cases h2 : (F k).1 = true
  · rw [if_pos h2]
    exact pTl_ok hF _ _ _ _ (hF k)
  · rw [if_neg h2]
    exact cOk_nil
theorem pEl_ok {T : Nat → Nat} {n : Nat} {F : Nat → pR} (hF : pOk F) : ∀ (u k : Nat) (c : List (Nat × Nat)) (v : (Nat → Nat) → Bool), cOk c → cOk (pEl T n F u k c v).2.2.1
  | 0, k, c, v, _ => cOk_nil
  | u + 1, k, c, v, h => by
    unfold pEl
    by_cases h1 : sg T n k = 124
    · rw [if_pos h1]
      by_cases h2 : (pT T n F (k + 1)).1 = true
      · rw [if_pos h2]
        exact pEl_ok hF u _ _ _ (cOk_app h (cOk_app (pT_ok hF _) (cOk_1 ⟨by decide, by decide, Or.inr (Or.inr (Or.inr (Or.inr (Or.inl rfl))))⟩)))
      · rw [if_neg h2]
        exact cOk_nil
    · rw [if_neg h1]
      exact h
theorem pE_ok {T : Nat → Nat} {n : Nat} {F : Nat → pR} (hF : pOk F) : pOk (pE T n F) := by
  intro k
  unfold pE
  by_cases h2 : (pT T n F k).1 = true
  · rw [if_pos h2]
    exact pEl_ok hF _ _ _ _ (pT_ok hF k)
  · rw [if_neg h2]
    exact cOk_nil
theorem pF_ok {T : Nat → Nat} {n : Nat} : ∀ d, pOk (pF T n d)
  | 0 => pTest_ok
  | d + 1 => by
    intro k
    unfold pF
    by_cases h1 : sg T n k = 33
    · rw [if_pos h1]
      by_cases h2 : (pF T n d (k + 1)).1 = true
      · rw [if_pos h2]
        exact cOk_app (pF_ok d _) (cOk_1 ⟨by decide, by decide, Or.inl rfl⟩)
      · rw [if_neg h2]
        exact cOk_nil
    · rw [if_neg h1]
      by_cases h3 : sg T n k = 40
      · rw [if_pos h3]
        by_cases h2 : (pE T n (pF T n d) (k + 1)).1 = true
        · rw [if_pos h2]
          by_cases h4 : sg T n (pE T n (pF T n d) (k + 1)).2.1 = 41
          · rw [if_pos h4]
            exact pE_ok (pF_ok d) _
          · rw [if_neg h4]
            exact cOk_nil
        · rw [if_neg h2]
          exact cOk_nil
      · rw [if_neg h3]
        exact pTest_ok k
theorem pSc_ok {T : Nat → Nat} {n : Nat} {b : Bool} {w : List Nat} {k h : Nat} {s : (Nat → Nat) → Int32} : cOk (pSc T n b w k h s).2.2.1 := by
  unfold pSc
  by_cases h1 : (pW T n w k).1 = true
  · rw [if_pos h1]
    by_cases h2 : (pNum T n (pW T n w k).2).1 = true
    · rw [if_pos h2]
      by_cases h3 : sg T n (pNum T n (pW T n w k).2).2.1 = 32
      · rw [if_pos h3]
        by_cases h4 : (pE T n (pF T n 4) ((pNum T n (pW T n w k).2).2.1 + 1)).1 = true
        · rw [if_pos h4]
          have b := (pNum_ok h2).2.2
          refine cOk_app (pE_ok (pF_ok 4) _) (cOk_1 ⟨?_, ?_, ?_⟩)
          · dsimp only
            split <;> decide
          · dsimp only
            omega
          · dsimp only
            split
            · exact Or.inr (Or.inr (Or.inl rfl))
            · exact Or.inr (Or.inr (Or.inr (Or.inl rfl)))
        · rw [if_neg h4]
          exact cOk_nil
      · rw [if_neg h3]
        exact cOk_nil
    · rw [if_neg h2]
      exact cOk_nil
  · rw [if_neg h1]
    exact cOk_nil
theorem pCl_ok {T : Nat → Nat} {n k h : Nat} {s : (Nat → Nat) → Int32} : cOk (pCl T n k h s).2.2.1 := by
  unfold pCl
  by_cases h1 : sg T n k = 115
  · rw [if_pos h1]
    by_cases h2 : sg T n (k + 1) = 99
    · rw [if_pos h2]
      exact pSc_ok
    · rw [if_neg h2]
      exact pSc_ok
  · rw [if_neg h1]
    by_cases h2 : (pW T n wdW k).1 = true
    · rw [if_pos h2]
      by_cases h3 : (pNum T n (pW T n wdW k).2).1 = true
      · rw [if_pos h3]
        exact cOk_nil
      · rw [if_neg h3]
        exact cOk_nil
    · rw [if_neg h2]
      exact cOk_nil
theorem pAl_ok {T : Nat → Nat} {n : Nat} : ∀ (u k : Nat) (c : List (Nat × Nat)) (h : Nat) (s : (Nat → Nat) → Int32), cOk c → cOk (pAl T n u k c h s).2.2.1
  | 0, k, c, h, s, hc => hc
  | u + 1, k, c, h, s, hc => by
    unfold pAl
    by_cases h1 : (pCl T n k h s).1 = true
    · rw [if_pos h1]
      by_cases h2 : (pCl T n k h s).2.1 = n
      · rw [if_pos h2]
        exact cOk_app hc pCl_ok
      · rw [if_neg h2]
        by_cases h3 : u = 0
        · rw [if_pos h3]
          exact cOk_nil
        · rw [if_neg h3]
          by_cases h4 : sg T n (pCl T n k h s).2.1 = 59
          · rw [if_pos h4]
            exact pAl_ok u _ _ _ _ (cOk_app hc pCl_ok)
          · rw [if_neg h4]
            exact cOk_nil
    · rw [if_neg h1]
      exact cOk_nil
/-! the class's sum -/
section
variable {f : Nat → Nat → Int32} {l : Nat → Nat → Int64} {R : Nat → Nat}
/-- the numbers that tests ask, of the SAINT at p on DAY d -/
def nmA (f : Nat → Nat → Int32) (p d : Nat) (nm : Nat → Nat) : Prop := f p 1 = nI (nm 0) ∧ f p 2 = nI (nm 1) ∧ f p 3 = nI (nm 2) ∧ (∃ w, f p 5 = nI w ∧ w < 2 ^ 31 ∧ nm 3 = w / 10) ∧ f p 7 = nI (nm 4) ∧ nm 4 ≤ 1 ∧ nm 5 = d % 10 ∧ (nm 0 < 2 ^ 31 ∧ nm 1 < 2 ^ 31 ∧ nm 2 < 2 ^ 31)
theorem nmA_lt {p d : Nat} {nm : Nat → Nat} (h : nmA f p d nm) (k : Nat) (hk : k < 6) : nm k < 2 ^ 31 := by
  obtain ⟨-, -, -, ⟨w, -, h3, h4⟩, -, h5, h6, h7, h8, h9⟩ := h
  rcases (by omega : k = 0 ∨ k = 1 ∨ k = 2 ∨ k = 3 ∨ k = 4 ∨ k = 5) with rfl | rfl | rfl | rfl | rfl | rfl <;> omega
theorem c_letter {p d c : Nat} {nm : Nat → Nat} (hp : sp p) (hn : nmA f p d nm) (hd : d < 2 ^ 31) (hc : lix c < 6) : fn_Or_letter (nI c) p (nI d) (mk f l R) = some (nI (nm (lix c)), mk f l R) := by
  obtain ⟨n1, n2, n3, ⟨w, w1, w2, w3⟩, n4, n5, n6, n7, n8, n9⟩ := hn
  have h1 := sp_T (f := f) (l := l) (R := R) hp
  unfold fn_Or_letter
  rcases lix_lt hc with rfl | rfl | rfl | rfl | rfl | rfl
  · simp (disch := omega) only [h1, n1, show lix 112 = 0 from rfl, wbr_T, wbr_F, wgd_T, wbq, wbv, wnm, zI_mk, zL_mk, uI_mk, uL_mk, kI_mk, kL_mk, nI_add, nI_mul, nI_sub, nI_div, nI_clamp, wgB, wgP, nI_leI, nI_ltI, nI_eq, nI_eqm, nI_eqm5, wdT, wdF, wd1, wd0, li_0, li_1, li_2, li_3, li_4, li_5, li_6, li_7, li_8, li_9, li_10, li_11, li_12, li_13, li_14, li_15, li_16, li_17, li_18, li_19, li_20, li_21, li_22, li_23, li_24, li_25, li_26, li_27, li_28, li_29, li_30, li_31, li_32, li_33, li_38, li_40, li_41, li_48, li_57, li_58, li_59, li_60, li_61, li_62, li_63, li_68, li_69, li_70, li_71, li_72, li_73, li_74, li_75, li_83, li_87, li_88, li_89, li_99, li_100, li_104, li_105, li_106, li_107, li_108, li_109, li_110, li_111, li_112, li_113, li_114, li_115, li_116, li_117, li_118, li_119, li_120, li_121, li_124, li_127, li_128, li_200, li_4095, li_4096, li_9999]
  · simp (disch := omega) only [h1, n2, show lix 107 = 1 from rfl, wbr_T, wbr_F, wgd_T, wbq, wbv, wnm, zI_mk, zL_mk, uI_mk, uL_mk, kI_mk, kL_mk, nI_add, nI_mul, nI_sub, nI_div, nI_clamp, wgB, wgP, nI_leI, nI_ltI, nI_eq, nI_eqm, nI_eqm5, wdT, wdF, wd1, wd0, li_0, li_1, li_2, li_3, li_4, li_5, li_6, li_7, li_8, li_9, li_10, li_11, li_12, li_13, li_14, li_15, li_16, li_17, li_18, li_19, li_20, li_21, li_22, li_23, li_24, li_25, li_26, li_27, li_28, li_29, li_30, li_31, li_32, li_33, li_38, li_40, li_41, li_48, li_57, li_58, li_59, li_60, li_61, li_62, li_63, li_68, li_69, li_70, li_71, li_72, li_73, li_74, li_75, li_83, li_87, li_88, li_89, li_99, li_100, li_104, li_105, li_106, li_107, li_108, li_109, li_110, li_111, li_112, li_113, li_114, li_115, li_116, li_117, li_118, li_119, li_120, li_121, li_124, li_127, li_128, li_200, li_4095, li_4096, li_9999]
  · simp (disch := omega) only [h1, n3, show lix 118 = 2 from rfl, wbr_T, wbr_F, wgd_T, wbq, wbv, wnm, zI_mk, zL_mk, uI_mk, uL_mk, kI_mk, kL_mk, nI_add, nI_mul, nI_sub, nI_div, nI_clamp, wgB, wgP, nI_leI, nI_ltI, nI_eq, nI_eqm, nI_eqm5, wdT, wdF, wd1, wd0, li_0, li_1, li_2, li_3, li_4, li_5, li_6, li_7, li_8, li_9, li_10, li_11, li_12, li_13, li_14, li_15, li_16, li_17, li_18, li_19, li_20, li_21, li_22, li_23, li_24, li_25, li_26, li_27, li_28, li_29, li_30, li_31, li_32, li_33, li_38, li_40, li_41, li_48, li_57, li_58, li_59, li_60, li_61, li_62, li_63, li_68, li_69, li_70, li_71, li_72, li_73, li_74, li_75, li_83, li_87, li_88, li_89, li_99, li_100, li_104, li_105, li_106, li_107, li_108, li_109, li_110, li_111, li_112, li_113, li_114, li_115, li_116, li_117, li_118, li_119, li_120, li_121, li_124, li_127, li_128, li_200, li_4095, li_4096, li_9999]
  · simp (disch := omega) only [h1, w1, w3, show lix 119 = 3 from rfl, wbr_T, wbr_F, wgd_T, wbq, wbv, wnm, zI_mk, zL_mk, uI_mk, uL_mk, kI_mk, kL_mk, nI_add, nI_mul, nI_sub, nI_div, nI_clamp, wgB, wgP, nI_leI, nI_ltI, nI_eq, nI_eqm, nI_eqm5, wdT, wdF, wd1, wd0, li_0, li_1, li_2, li_3, li_4, li_5, li_6, li_7, li_8, li_9, li_10, li_11, li_12, li_13, li_14, li_15, li_16, li_17, li_18, li_19, li_20, li_21, li_22, li_23, li_24, li_25, li_26, li_27, li_28, li_29, li_30, li_31, li_32, li_33, li_38, li_40, li_41, li_48, li_57, li_58, li_59, li_60, li_61, li_62, li_63, li_68, li_69, li_70, li_71, li_72, li_73, li_74, li_75, li_83, li_87, li_88, li_89, li_99, li_100, li_104, li_105, li_106, li_107, li_108, li_109, li_110, li_111, li_112, li_113, li_114, li_115, li_116, li_117, li_118, li_119, li_120, li_121, li_124, li_127, li_128, li_200, li_4095, li_4096, li_9999]
  · simp (disch := omega) only [h1, n4, show lix 116 = 4 from rfl, wbr_T, wbr_F, wgd_T, wbq, wbv, wnm, zI_mk, zL_mk, uI_mk, uL_mk, kI_mk, kL_mk, nI_add, nI_mul, nI_sub, nI_div, nI_clamp, wgB, wgP, nI_leI, nI_ltI, nI_eq, nI_eqm, nI_eqm5, wdT, wdF, wd1, wd0, li_0, li_1, li_2, li_3, li_4, li_5, li_6, li_7, li_8, li_9, li_10, li_11, li_12, li_13, li_14, li_15, li_16, li_17, li_18, li_19, li_20, li_21, li_22, li_23, li_24, li_25, li_26, li_27, li_28, li_29, li_30, li_31, li_32, li_33, li_38, li_40, li_41, li_48, li_57, li_58, li_59, li_60, li_61, li_62, li_63, li_68, li_69, li_70, li_71, li_72, li_73, li_74, li_75, li_83, li_87, li_88, li_89, li_99, li_100, li_104, li_105, li_106, li_107, li_108, li_109, li_110, li_111, li_112, li_113, li_114, li_115, li_116, li_117, li_118, li_119, li_120, li_121, li_124, li_127, li_128, li_200, li_4095, li_4096, li_9999]
    rcases (by omega : nm 4 = 0 ∨ nm 4 = 1) with e | e <;> rw [e] <;> rfl
  · rw [show lix 100 = 5 from rfl, n6]
    simp (disch := omega) only [wbr_T, wbr_F, wgd_T, wbq, wbv, wnm, zI_mk, zL_mk, uI_mk, uL_mk, kI_mk, kL_mk, nI_eq, wdT, wdF, wd1, wd0, li_0, li_1, li_2, li_3, li_4, li_5, li_6, li_7, li_8, li_9, li_10, li_11, li_12, li_13, li_14, li_15, li_16, li_17, li_18, li_19, li_20, li_21, li_22, li_23, li_24, li_25, li_26, li_27, li_28, li_29, li_30, li_31, li_32, li_33, li_38, li_40, li_41, li_48, li_57, li_58, li_59, li_60, li_61, li_62, li_63, li_68, li_69, li_70, li_71, li_72, li_73, li_74, li_75, li_83, li_87, li_88, li_89, li_99, li_100, li_104, li_105, li_106, li_107, li_108, li_109, li_110, li_111, li_112, li_113, li_114, li_115, li_116, li_117, li_118, li_119, li_120, li_121, li_124, li_127, li_128, li_200, li_4095, li_4096, li_9999, pk_rem]
theorem c_holds {x a : Nat} {S : zS} (hx : x < 2 ^ 31) (ha : a < 10000) (h1 : 60 ≤ a / 100) (h2 : a / 100 ≤ 62) : fn_Or_holds (nI x) (nI a) S = some (nI (vb (cmpv (a / 100) x (a % 100))), S) := by
  unfold fn_Or_holds
  rw [show (100 : Int32) = nI 100 from rfl, pk_rem (by omega) (by decide) (by decide), pk_div (by omega) (by decide) (by decide)]
  rw [cmpv_n hx (by omega)]
  rcases (by omega : a / 100 = 60 ∨ a / 100 = 61 ∨ a / 100 = 62) with e | e | e <;> rw [e]
  · by_cases h : x < a % 100
    · simp (disch := omega) only [h, wbr_T, wbr_F, wgd_T, wbq, wbv, wnm, zI_mk, zL_mk, uI_mk, uL_mk, kI_mk, kL_mk, nI_add, nI_mul, nI_sub, nI_div, nI_clamp, wgB, wgP, nI_leI, nI_ltI, nI_eq, nI_eqm, nI_eqm5, wdT, wdF, wd1, wd0, li_0, li_1, li_2, li_3, li_4, li_5, li_6, li_7, li_8, li_9, li_10, li_11, li_12, li_13, li_14, li_15, li_16, li_17, li_18, li_19, li_20, li_21, li_22, li_23, li_24, li_25, li_26, li_27, li_28, li_29, li_30, li_31, li_32, li_33, li_38, li_40, li_41, li_48, li_57, li_58, li_59, li_60, li_61, li_62, li_63, li_68, li_69, li_70, li_71, li_72, li_73, li_74, li_75, li_83, li_87, li_88, li_89, li_99, li_100, li_104, li_105, li_106, li_107, li_108, li_109, li_110, li_111, li_112, li_113, li_114, li_115, li_116, li_117, li_118, li_119, li_120, li_121, li_124, li_127, li_128, li_200, li_4095, li_4096, li_9999]; rfl
    · simp (disch := omega) only [h, wbr_T, wbr_F, wgd_T, wbq, wbv, wnm, zI_mk, zL_mk, uI_mk, uL_mk, kI_mk, kL_mk, nI_add, nI_mul, nI_sub, nI_div, nI_clamp, wgB, wgP, nI_leI, nI_ltI, nI_eq, nI_eqm, nI_eqm5, wdT, wdF, wd1, wd0, li_0, li_1, li_2, li_3, li_4, li_5, li_6, li_7, li_8, li_9, li_10, li_11, li_12, li_13, li_14, li_15, li_16, li_17, li_18, li_19, li_20, li_21, li_22, li_23, li_24, li_25, li_26, li_27, li_28, li_29, li_30, li_31, li_32, li_33, li_38, li_40, li_41, li_48, li_57, li_58, li_59, li_60, li_61, li_62, li_63, li_68, li_69, li_70, li_71, li_72, li_73, li_74, li_75, li_83, li_87, li_88, li_89, li_99, li_100, li_104, li_105, li_106, li_107, li_108, li_109, li_110, li_111, li_112, li_113, li_114, li_115, li_116, li_117, li_118, li_119, li_120, li_121, li_124, li_127, li_128, li_200, li_4095, li_4096, li_9999]; rfl
  · by_cases h : x = a % 100
    · simp (disch := omega) only [h, wbr_T, wbr_F, wgd_T, wbq, wbv, wnm, zI_mk, zL_mk, uI_mk, uL_mk, kI_mk, kL_mk, nI_add, nI_mul, nI_sub, nI_div, nI_clamp, wgB, wgP, nI_leI, nI_ltI, nI_eq, nI_eqm, nI_eqm5, wdT, wdF, wd1, wd0, li_0, li_1, li_2, li_3, li_4, li_5, li_6, li_7, li_8, li_9, li_10, li_11, li_12, li_13, li_14, li_15, li_16, li_17, li_18, li_19, li_20, li_21, li_22, li_23, li_24, li_25, li_26, li_27, li_28, li_29, li_30, li_31, li_32, li_33, li_38, li_40, li_41, li_48, li_57, li_58, li_59, li_60, li_61, li_62, li_63, li_68, li_69, li_70, li_71, li_72, li_73, li_74, li_75, li_83, li_87, li_88, li_89, li_99, li_100, li_104, li_105, li_106, li_107, li_108, li_109, li_110, li_111, li_112, li_113, li_114, li_115, li_116, li_117, li_118, li_119, li_120, li_121, li_124, li_127, li_128, li_200, li_4095, li_4096, li_9999]; rfl
    · simp (disch := omega) only [h, wbr_T, wbr_F, wgd_T, wbq, wbv, wnm, zI_mk, zL_mk, uI_mk, uL_mk, kI_mk, kL_mk, nI_add, nI_mul, nI_sub, nI_div, nI_clamp, wgB, wgP, nI_leI, nI_ltI, nI_eq, nI_eqm, nI_eqm5, wdT, wdF, wd1, wd0, li_0, li_1, li_2, li_3, li_4, li_5, li_6, li_7, li_8, li_9, li_10, li_11, li_12, li_13, li_14, li_15, li_16, li_17, li_18, li_19, li_20, li_21, li_22, li_23, li_24, li_25, li_26, li_27, li_28, li_29, li_30, li_31, li_32, li_33, li_38, li_40, li_41, li_48, li_57, li_58, li_59, li_60, li_61, li_62, li_63, li_68, li_69, li_70, li_71, li_72, li_73, li_74, li_75, li_83, li_87, li_88, li_89, li_99, li_100, li_104, li_105, li_106, li_107, li_108, li_109, li_110, li_111, li_112, li_113, li_114, li_115, li_116, li_117, li_118, li_119, li_120, li_121, li_124, li_127, li_128, li_200, li_4095, li_4096, li_9999]; rfl
  · by_cases h : a % 100 < x
    · simp (disch := omega) only [h, wbr_T, wbr_F, wgd_T, wbq, wbv, wnm, zI_mk, zL_mk, uI_mk, uL_mk, kI_mk, kL_mk, nI_add, nI_mul, nI_sub, nI_div, nI_clamp, wgB, wgP, nI_leI, nI_ltI, nI_eq, nI_eqm, nI_eqm5, wdT, wdF, wd1, wd0, li_0, li_1, li_2, li_3, li_4, li_5, li_6, li_7, li_8, li_9, li_10, li_11, li_12, li_13, li_14, li_15, li_16, li_17, li_18, li_19, li_20, li_21, li_22, li_23, li_24, li_25, li_26, li_27, li_28, li_29, li_30, li_31, li_32, li_33, li_38, li_40, li_41, li_48, li_57, li_58, li_59, li_60, li_61, li_62, li_63, li_68, li_69, li_70, li_71, li_72, li_73, li_74, li_75, li_83, li_87, li_88, li_89, li_99, li_100, li_104, li_105, li_106, li_107, li_108, li_109, li_110, li_111, li_112, li_113, li_114, li_115, li_116, li_117, li_118, li_119, li_120, li_121, li_124, li_127, li_128, li_200, li_4095, li_4096, li_9999]; rfl
    · simp (disch := omega) only [h, wbr_T, wbr_F, wgd_T, wbq, wbv, wnm, zI_mk, zL_mk, uI_mk, uL_mk, kI_mk, kL_mk, nI_add, nI_mul, nI_sub, nI_div, nI_clamp, wgB, wgP, nI_leI, nI_ltI, nI_eq, nI_eqm, nI_eqm5, wdT, wdF, wd1, wd0, li_0, li_1, li_2, li_3, li_4, li_5, li_6, li_7, li_8, li_9, li_10, li_11, li_12, li_13, li_14, li_15, li_16, li_17, li_18, li_19, li_20, li_21, li_22, li_23, li_24, li_25, li_26, li_27, li_28, li_29, li_30, li_31, li_32, li_33, li_38, li_40, li_41, li_48, li_57, li_58, li_59, li_60, li_61, li_62, li_63, li_68, li_69, li_70, li_71, li_72, li_73, li_74, li_75, li_83, li_87, li_88, li_89, li_99, li_100, li_104, li_105, li_106, li_107, li_108, li_109, li_110, li_111, li_112, li_113, li_114, li_115, li_116, li_117, li_118, li_119, li_120, li_121, li_124, li_127, li_128, li_200, li_4095, li_4096, li_9999]; rfl
/-- steps c lie in the order at o -/
def OP (f : Nat → Nat → Int32) (o : Nat) (c : List (Nat × Nat)) : Prop := f o 2 = nI c.length ∧ ∀ k, k < c.length → f (o + 1) k = nI (c.getD k (0, 0)).1 ∧ f (o + 2) k = nI (c.getD k (0, 0)).2
theorem c_sum_lp {r p d : Nat} {nm : Nat → Nat} {c : List (Nat × Nat)} (hr : r ≤ 6) (h0 : r = 0 → c = []) (hl : c.length ≤ 100) (hs : sp p) (hn : nmA f p d nm) (hd : d < 2 ^ 31) (hc : cOk c) (hO : OP f (hp r) c) : ∀ (e i F : Nat) (s : Int32) (m : Nat) (s' : Int32) (m' : Nat), i + e = c.length → e < F → m < 2 ^ 22 → rc nm (c.drop i) s m = some (s', m') →
    lp (σ := Nat × Nat × Int32 × Int32 × Int32 × Int32 × zS) (fun k s => fn_Or_sum_L8 s.1 s.2.1 s.2.2.1 s.2.2.2.1 s.2.2.2.2.1 s.2.2.2.2.2.1 s.2.2.2.2.2.2 (fun (a0 : Nat) (a1 : Nat) (a2 : Int32) (a3 : Int32) (a4 : Int32) (a5 : Int32) (S : zS) => k (a0, a1, a2, a3, a4, a5, S))) F (hp r, p, nI d, s, nI m, nI i, mk f l R) = some (s', mk f l R)
  | 0, i, F, s, m, s', m', he, hF, hm, hrc => by
    obtain ⟨F, rfl⟩ : ∃ G, F = G + 1 := ⟨F - 1, by omega⟩
    rw [List.drop_of_length_le (by omega)] at hrc
    have e1 : s = s' := by
      injection hrc with h
      injection h
    have t1 := hp_T (f := f) (l := l) (R := R) hr
    rw [lpS]
    show fn_Or_sum_L8 (hp r) p (nI d) s (nI m) (nI i) (mk f l R) _ = _
    unfold fn_Or_sum_L8
    simp (disch := omega) only [t1, hO.1, e1, wbr_T, wbr_F, wgd_T, wbq, wbv, wnm, zI_mk, zL_mk, uI_mk, uL_mk, kI_mk, kL_mk, nI_add, nI_mul, nI_sub, nI_div, nI_clamp, wgB, wgP, nI_leI, nI_ltI, nI_eq, nI_eqm, nI_eqm5, wdT, wdF, wd1, wd0]
  | e + 1, i, F, s, m, s', m', he, hF, hm, hrc => by
    obtain ⟨F, rfl⟩ : ∃ G, F = G + 1 := ⟨F - 1, by omega⟩
    have hi : i < c.length := by omega
    have hr0 : 0 < r := by
      rcases Nat.eq_zero_or_pos r with q | q
      · rw [h0 q] at hi
        exact absurd hi (Nat.not_lt_zero _)
      · exact q
    have t1 := hp_T (f := f) (l := l) (R := R) hr
    have t2 := hp_R0 (f := f) (l := l) (R := R) hr
    have t3 := hp_R1 (f := f) (l := l) (R := R) hr
    have t4 := hp_T1 (f := f) (l := l) (R := R) hr
    have t5 := hp_T2 (f := f) (l := l) (R := R) hr
    have t6 := hp_n1 (f := f) (l := l) (R := R) hr hr0
    have t7 := hp_n2 (f := f) (l := l) (R := R) hr hr0
    have ih := fun s m hm => c_sum_lp hr h0 hl hs hn hd hc hO e (i + 1) F s m s' m' (by omega) (by omega) hm
    obtain ⟨g1, g2⟩ := hO.2 i hi
    have hq : qOk (c.getD i (0, 0)) := by
      rw [List.getD_eq_getElem?_getD, List.getElem?_eq_getElem hi]
      exact hc _ (List.getElem_mem hi)
    have hdr : c.drop i = c.getD i (0, 0) :: c.drop (i + 1) := by
      rw [List.getD_eq_getElem?_getD, List.getElem?_eq_getElem hi]
      exact List.drop_eq_getElem_cons hi
    rw [hdr] at hrc
    generalize c.getD i (0, 0) = q at g1 g2 hq hrc
    obtain ⟨q1, q2⟩ := q
    obtain ⟨b1, b2, b3⟩ := hq
    dsimp only at g1 g2 b1 b2 b3
    rw [lpS]
    show fn_Or_sum_L8 (hp r) p (nI d) s (nI m) (nI i) (mk f l R) _ = _
    unfold fn_Or_sum_L8
    have hmm : (if m % 2 = 0 then m + 1 else m - 1) < 2 ^ 22 := by split <;> omega
    have hma : (if m % 2 = 1 then m / 2 else m / 2 - m / 2 % 2) < 2 ^ 22 := by split <;> omega
    have hmo : (if m % 2 = 1 then m / 2 + (1 - m / 2 % 2) else m / 2) < 2 ^ 22 := by split <;> omega
    rcases b3 with rfl | rfl | rfl | rfl | rfl | ⟨b4, b5, b6⟩
    · have := ih _ _ hmm hrc
      simp (disch := omega) only [t1, t2, t3, t4, t5, t6, t7, hO.1, g1, g2, st_not, wbr_T, wbr_F, wgd_T, wbq, wbv, wnm, zI_mk, zL_mk, uI_mk, uL_mk, kI_mk, kL_mk, nI_leI, nI_eq, nI_clamp, wgB, wgP, wdT, wdF, wd1, wd0, show (33 : Int32) = nI 33 from rfl, nI_1]
      exact this
    · have := ih _ _ hma hrc
      simp (disch := omega) only [t1, t2, t3, t4, t5, t6, t7, hO.1, g1, g2, st_and, wbr_T, wbr_F, wgd_T, wbq, wbv, wnm, zI_mk, zL_mk, uI_mk, uL_mk, kI_mk, kL_mk, nI_leI, nI_eq, nI_clamp, wgB, wgP, wdT, wdF, wd1, wd0, show (33 : Int32) = nI 33 from rfl, show (38 : Int32) = nI 38 from rfl, nI_1]
      exact this
    · have := ih _ (m / 2) (by omega) hrc
      simp (disch := omega) only [t1, t2, t3, t4, t5, t6, t7, hO.1, g1, g2, an_1, sh_1, nI_mul, wbr_T, wbr_F, wgd_T, wbq, wbv, wnm, zI_mk, zL_mk, uI_mk, uL_mk, kI_mk, kL_mk, nI_leI, nI_eq, nI_clamp, wgB, wgP, wdT, wdF, wd1, wd0, show (33 : Int32) = nI 33 from rfl, show (38 : Int32) = nI 38 from rfl, show (83 : Int32) = nI 83 from rfl, nI_1]
      exact this
    · have := ih _ (m / 2) (by omega) hrc
      simp (disch := omega) only [t1, t2, t3, t4, t5, t6, t7, hO.1, g1, g2, an_1, sh_1, nI_mul, wbr_T, wbr_F, wgd_T, wbq, wbv, wnm, zI_mk, zL_mk, uI_mk, uL_mk, kI_mk, kL_mk, nI_leI, nI_eq, nI_clamp, wgB, wgP, wdT, wdF, wd1, wd0, show (33 : Int32) = nI 33 from rfl, show (38 : Int32) = nI 38 from rfl, show (83 : Int32) = nI 83 from rfl, show (115 : Int32) = nI 115 from rfl, nI_1]
      exact this
    · have := ih _ _ hmo hrc
      simp (disch := omega) only [t1, t2, t3, t4, t5, t6, t7, hO.1, g1, g2, st_or, wbr_T, wbr_F, wgd_T, wbq, wbv, wnm, zI_mk, zL_mk, uI_mk, uL_mk, kI_mk, kL_mk, nI_leI, nI_eq, nI_clamp, wgB, wgP, wdT, wdF, wd1, wd0, show (33 : Int32) = nI 33 from rfl, show (38 : Int32) = nI 38 from rfl, show (83 : Int32) = nI 83 from rfl, show (115 : Int32) = nI 115 from rfl, show (124 : Int32) = nI 124 from rfl, nI_1]
      exact this
    · have hx := nmA_lt hn _ b4
      have hl6 := lix_lt b4
      have hrs : m < 4 ^ 10 ∧ rc nm (c.drop (i + 1)) s (2 * m + vb (cmpv (q2 / 100) (nm (lix q1)) (q2 % 100))) = some (s', m') := by
        unfold rc at hrc
        unfold rcS at hrc
        dsimp only at hrc
        rw [if_neg (by omega), if_neg (by omega), if_neg (by omega), if_neg (by omega), if_neg (by omega)] at hrc
        by_cases hm4 : m < 4 ^ 10
        · rw [if_pos hm4] at hrc
          exact ⟨hm4, hrc⟩
        · rw [if_neg hm4] at hrc
          cases hrc
      have hm4 : m < 1048576 := hrs.1
      have hv : vb (cmpv (q2 / 100) (nm (lix q1)) (q2 % 100)) ≤ 1 := by cases cmpv (q2 / 100) (nm (lix q1)) (q2 % 100) <;> decide
      have := ih s _ (by omega) hrs.2
      simp (disch := omega) only [t1, t2, t3, t4, t5, t6, t7, hO.1, g1, g2, c_letter hs hn hd b4, c_holds hx b2 b5 b6, wbr_T, wbr_F, wgd_T, wbq, wbv, wnm, zI_mk, zL_mk, uI_mk, uL_mk, kI_mk, kL_mk, nI_leI, nI_eq, nI_clamp, wgB, wgP, wdT, wdF, wd1, wd0, show (33 : Int32) = nI 33 from rfl, show (38 : Int32) = nI 38 from rfl, show (83 : Int32) = nI 83 from rfl, show (115 : Int32) = nI 115 from rfl, show (124 : Int32) = nI 124 from rfl, nI_1]
      revert this
      cases cmpv (q2 / 100) (nm (lix q1)) (q2 % 100)
      · rw [vb_F, wdT (show nI 0 = 0 from rfl), wbr_T, st_0 (by omega)]
        exact id
      · rw [vb_T, wdF (show ¬ nI 1 = 0 from by decide), wbr_F, st_1 (by omega)]
        exact id
theorem c_sum {r p d : Nat} {nm : Nat → Nat} {c : List (Nat × Nat)} {s : Int32} (hr : r ≤ 6) (h0 : r = 0 → c = []) (hl : c.length ≤ 100) (hs : sp p) (hn : nmA f p d nm) (hd : d < 2 ^ 31) (hc : cOk c) (hO : OP f (hp r) c) (hrc : rc nm c 3 0 = some (s, 0)) : fn_Or_sum (hp r) p (nI d) (mk f l R) = some (s, mk f l R) :=
  c_sum_lp (l := l) (R := R) hr h0 hl hs hn hd hc hO c.length 0 FU 3 0 s 0 (by omega) (by show c.length < 5000; omega) (by decide) hrc
end
