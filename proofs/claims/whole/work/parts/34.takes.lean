/-! WHAT A SAINT TAKES -/
theorem and_small {o : Nat} (h : o < 4096) (X : Int32) : ∃ m, m < 4096 ∧ nI o &&& X = nI m := by
  refine ⟨o &&& X.toBitVec.toNat, Nat.lt_of_le_of_lt Nat.and_le_left h, ?_⟩
  have hm : o &&& X.toBitVec.toNat < 4096 := Nat.lt_of_le_of_lt Nat.and_le_left h
  apply Int32.toBitVec_inj.mp
  apply BitVec.eq_of_toNat_eq
  show (BitVec.ofNat 32 o &&& X.toBitVec).toNat = (BitVec.ofNat 32 (o &&& X.toBitVec.toNat)).toNat
  rw [BitVec.toNat_and, BitVec.toNat_ofNat, BitVec.toNat_ofNat, Nat.mod_eq_of_lt (by omega), Nat.mod_eq_of_lt (by omega)]
theorem nI_bit {m k : Nat} (hm : m < 4096) (hk : k < 12) : ((nI m >>> (nI k &&& 31)) &&& (1 : Int32)) = nI (m / 2 ^ k % 2) := by
  have h1 : ∀ k, k < 12 → nI k &&& 31 = nI k ∧ ((nI k).toBitVec.smod 32).toNat = k := by decide +kernel
  rw [(h1 k hk).1, pk_shrN (by omega) (nI k) k (h1 k hk).2, pk_andN (k := 1) (by have := Nat.div_le_self m (2 ^ k); omega) (by decide)]
theorem c_takes_loop {a : Nat} {S : zS} (ha : a < 4096) : ∀ (d k F i m : Nat) (g off : Int32), k + d = 12 → d < F → i ≤ k → (i = 0 ∨ 0 < g) → m < 4096 → m % 2 ^ k = 0 → m / 2 ^ k = a / 2 ^ k →
    lp (σ := Int32 × Int32 × Int32 × Int32 × zS) (fun k s => fn_Sa_takes_L41 s.1 s.2.1 s.2.2.1 s.2.2.2.1 s.2.2.2.2 (fun (a2 : Int32) (a3 : Int32) (a4 : Int32) (a5 : Int32) (S : zS) => k (a2, a3, a4, a5, S))) F (g, nI m, off, nI i, S) = some (scP (nI a) d k (g - nI i) off, S)
  | 0, k, F, i, m, g, off, hk, hF, hi, hg, hm, h0, hq => by
    obtain ⟨F, rfl⟩ : ∃ G, F = G + 1 := ⟨F - 1, by omega⟩
    have e : k = 12 := by omega
    subst e
    have e0 : m = 0 := by omega
    subst e0
    rw [lpS]
    show fn_Sa_takes_L41 g (nI 0) off (nI i) S _ = _
    unfold fn_Sa_takes_L41
    by_cases h : g ≤ nI i
    · rw [wdT h]; rfl
    · rw [wdF h]; rfl
  | d + 1, k, F, i, m, g, off, hk, hF, hi, hg, hm, h0, hq => by
    have hgi : g ≤ nI i ↔ g - nI i ≤ 0 := by
      rw [Int32.le_iff_toInt_le, Int32.le_iff_toInt_le, Int32.toInt_sub, nI_toInt (by omega)]
      rcases hg with rfl | hg
      · have := g.toInt_lt
        have := g.le_toInt
        rw [Int.bmod_eq_of_le (by omega) (by omega)]
        show _ ↔ _ ≤ (0 : Int)
        omega
      · rw [Int32.lt_iff_toInt_lt] at hg
        have hg' : (0 : Int) < g.toInt := hg
        have := g.toInt_lt
        rw [Int.bmod_eq_of_le (by omega) (by omega)]
        show _ ↔ _ ≤ (0 : Int)
        omega
    have hbit : ((nI a >>> (nI k &&& 31)) &&& (1 : Int32)) = nI (m / 2 ^ k % 2) := by rw [nI_bit ha (by omega), hq]
    unfold scP
    by_cases hle : g ≤ nI i
    · obtain ⟨F, rfl⟩ : ∃ G, F = G + 1 := ⟨F - 1, by omega⟩
      rw [lpS, if_pos (hgi.mp hle)]
      show fn_Sa_takes_L41 g (nI m) off (nI i) S _ = _
      unfold fn_Sa_takes_L41
      rw [wdT hle]
      rfl
    · rw [if_neg (fun e => hle (hgi.mpr e)), hbit]
      have hd : m / 2 ^ (k + 1) = a / 2 ^ (k + 1) := by
        rw [Nat.pow_succ, ← Nat.div_div_eq_div_mul, ← Nat.div_div_eq_div_mul, hq]
      have hmd : m = 2 ^ k * (m / 2 ^ k) := by
        have := Nat.div_add_mod m (2 ^ k)
        omega
      have h2 : m / 2 ^ (k + 1) = m / 2 ^ k / 2 := by rw [Nat.pow_succ, ← Nat.div_div_eq_div_mul]
      rcases Nat.mod_two_eq_zero_or_one (m / 2 ^ k) with hb | hb
      · rw [hb, if_neg (by decide)]
        refine c_takes_loop ha d (k + 1) F i m g off (by omega) (by omega) (by omega) hg hm ?_ hd
        have : m / 2 ^ k = 2 * (m / 2 ^ k / 2) := by omega
        have h3 : m = 2 ^ (k + 1) * (m / 2 ^ k / 2) := by
          rw [Nat.pow_succ, Nat.mul_assoc, ← this]
          exact hmd
        rw [h3]
        exact Nat.mul_mod_right _ _
      · obtain ⟨F, rfl⟩ : ∃ G, F = G + 1 := ⟨F - 1, by omega⟩
        rw [hb, if_pos (show nI 1 = 1 from rfl), lpS]
        show fn_Sa_takes_L41 g (nI m) off (nI i) S _ = _
        unfold fn_Sa_takes_L41
        have hq2 : m / 2 ^ k = 2 * (m / 2 ^ k / 2) + 1 := by omega
        have hm2 : m = 2 ^ k * (2 * (m / 2 ^ k / 2) + 1) := by
          rw [← hq2]
          exact hmd
        have hj : m / 2 ^ k / 2 < 2 ^ (11 - k) := by
          have e1 : m / 2 ^ (k + 1) < 2 ^ (11 - k) := by
            apply Nat.div_lt_of_lt_mul
            rw [← Nat.pow_add, show k + 1 + (11 - k) = 12 by omega]
            exact hm
          rw [h2] at e1
          exact e1
        obtain ⟨l1, l2, l3⟩ := low_bit k (by omega) (m / 2 ^ k / 2) hj
        rw [← hm2] at l1 l2
        have hmp : 0 < m := by
          rcases Nat.eq_zero_or_pos m with e | e
          · rw [e, Nat.zero_div] at hb
            omega
          · exact e
        have hm0 : ¬ nI m = 0 := nI_ne0 hmp (by omega)
        rw [wdF hle, wdF hm0, wbr_F, wbr_F, l1, l2, nI_1, l3]
        have hg0 : 0 < g := by
          rw [Int32.le_iff_toInt_le, nI_toInt (by omega)] at hle
          rw [Int32.lt_iff_toInt_lt]
          show (0 : Int) < g.toInt
          omega
        have hmm : 2 ^ k * (2 * (m / 2 ^ k / 2)) = 2 ^ (k + 1) * (m / 2 ^ k / 2) := by rw [Nat.pow_succ, Nat.mul_assoc]
        have hle2 : 2 ^ k * (2 * (m / 2 ^ k / 2)) ≤ m := by
          conv => rhs; rw [hm2]
          exact Nat.mul_le_mul_left _ (by omega)
        have e := c_takes_loop (S := S) ha d (k + 1) F (i + 1) (2 ^ k * (2 * (m / 2 ^ k / 2))) g (off ||| nI (2 ^ k)) (by omega) (by omega) (by omega) (Or.inr hg0) (by omega) (by rw [hmm]; exact Nat.mul_mod_right _ _) (by rw [hmm, Nat.mul_div_cancel_left _ (Nat.two_pow_pos _), ← h2, hd])
        rw [show g - nI i + (-1 : Int32) = g - nI (i + 1) by
          rw [← nI_1]
          rw [Int32.sub_eq_add_neg, Int32.sub_eq_add_neg, Int32.neg_add, Int32.add_assoc, Int32.sub_eq_add_neg (-nI i)]]
        exact e
/-- whether a saint of that kind is, by its kinds above, a HERETIC -/
def herP (kd : Int32) : Bool := decide (kd = 3) || decide (kd = 6)
def takesP (on holes kd wear g : Int32) : Int32 := if 99 ≤ wear then 0 else scP (on &&& (if herP kd = true then holes ^^^ (-1 : Int32) else holes)) 12 0 g 0
theorem c_takes_in {o : Nat} {X g : Int32} {S : zS} (ho : o < 4096) : lp (σ := Int32 × Int32 × Int32 × Int32 × zS) (fun k s => fn_Sa_takes_L41 s.1 s.2.1 s.2.2.1 s.2.2.2.1 s.2.2.2.2 (fun (a2 : Int32) (a3 : Int32) (a4 : Int32) (a5 : Int32) (S : zS) => k (a2, a3, a4, a5, S))) FU (g, nI o &&& X, nI 0, nI 0, S) = some (scP (nI o &&& X) 12 0 g (nI 0), S) := by
  obtain ⟨m, hm, e⟩ := and_small ho X
  rw [e]
  have h := c_takes_loop (S := S) hm 12 0 FU 0 m g (nI 0) rfl (by decide) (Nat.le_refl _) (Or.inl rfl) hm (Nat.mod_one m) rfl
  rw [show g - nI 0 = g from Int32.sub_zero g] at h
  exact h
section
variable {f : Nat → Nat → Int32} {l : Nat → Nat → Int64} {R : Nat → Nat}
/-- the kinds above, as the class and the model hold them -/
def KA (g : Nat → Int32) : Prop := ∀ j, j < 7 → g j = zb1.getD j 0
def ofk (kd k : Nat) : Bool := Nat.beq kd k || (Nat.beq k 0) || (Nat.beq kd 4 && Nat.beq k 1) || (Nat.beq kd 5 && Nat.beq k 2) || (Nat.beq kd 6 && Nat.beq k 3)
theorem ka_v {g : Nat → Int32} (h : KA g) : g 0 = -nI 1 ∧ g 1 = nI 0 ∧ g 2 = nI 0 ∧ g 3 = nI 0 ∧ g 4 = nI 1 ∧ g 5 = nI 2 ∧ g 6 = nI 3 := ⟨h 0 (by decide), h 1 (by decide), h 2 (by decide), h 3 (by decide), h 4 (by decide), h 5 (by decide), h 6 (by decide)⟩
theorem of_step {a2 : Int32} {k kd i F : Nat} (hk : k < 7) (hkd : kd < 7) (hi : i < 7) (h : a2 = f 1 kd) :
    lp (σ := Int32 × Int32 × Int32 × zS) (fun k s => fn_Sa_isOf_L7 s.1 s.2.1 s.2.2.1 s.2.2.2 (fun (a1 : Int32) (a2 : Int32) (a3 : Int32) (S : zS) => k (a1, a2, a3, S))) (F + 1) (nI k, nI kd, nI i, mk f l R) =
    if kd = k then some (nI 1, mk f l R) else lp (σ := Int32 × Int32 × Int32 × zS) (fun k s => fn_Sa_isOf_L7 s.1 s.2.1 s.2.2.1 s.2.2.2 (fun (a1 : Int32) (a2 : Int32) (a3 : Int32) (S : zS) => k (a1, a2, a3, S))) F (nI k, a2, nI (i + 1), mk f l R) := by
  rw [lpS]
  show fn_Sa_isOf_L7 (nI k) (nI kd) (nI i) (mk f l R) _ = _
  by_cases e : kd = k
  · simp (disch := omega) only [fn_Sa_isOf_L7, if_pos e, wbr_T, wbr_F, wgd_T, wbq, wbv, wnm, zI_mk, zL_mk, uI_mk, uL_mk, kI_mk, kL_mk, nI_add, nI_mul, nI_sub, nI_div, nI_clamp, wgB, wgP, nI_leI, nI_ltI, nI_eq, nI_eqm, nI_eqm5, wdT, wdF, wd1, wd0, li_0, li_1, li_2, li_3, li_4, li_5, li_6, li_7, li_8, li_9, li_10, li_11, li_12, li_13, li_14, li_15, li_16, li_17, li_18, li_19, li_20, li_21, li_22, li_23, li_24, li_25, li_26, li_27, li_28, li_29, li_30, li_31, li_32, li_33, li_38, li_40, li_41, li_48, li_57, li_58, li_59, li_60, li_61, li_62, li_63, li_68, li_69, li_70, li_71, li_72, li_73, li_74, li_75, li_83, li_87, li_88, li_89, li_99, li_100, li_104, li_105, li_106, li_107, li_108, li_109, li_110, li_111, li_112, li_113, li_114, li_115, li_116, li_117, li_118, li_119, li_120, li_121, li_124, li_127, li_128, li_200, li_4095, li_4096, li_9999]
  · have h7 : (zT (mk f l R) 1).2 = 7 := rfl
    have h8 : gT (mk f l R) 1 1 = true := rfl
    simp (disch := omega) only [fn_Sa_isOf_L7, if_neg e, h7, h8, ← h, wbr_T, wbr_F, wgd_T, wbq, wbv, wnm, zI_mk, zL_mk, uI_mk, uL_mk, kI_mk, kL_mk, nI_add, nI_mul, nI_sub, nI_div, nI_clamp, wgB, wgP, nI_leI, nI_ltI, nI_eq, nI_eqm, nI_eqm5, wdT, wdF, wd1, wd0, li_0, li_1, li_2, li_3, li_4, li_5, li_6, li_7, li_8, li_9, li_10, li_11, li_12, li_13, li_14, li_15, li_16, li_17, li_18, li_19, li_20, li_21, li_22, li_23, li_24, li_25, li_26, li_27, li_28, li_29, li_30, li_31, li_32, li_33, li_38, li_40, li_41, li_48, li_57, li_58, li_59, li_60, li_61, li_62, li_63, li_68, li_69, li_70, li_71, li_72, li_73, li_74, li_75, li_83, li_87, li_88, li_89, li_99, li_100, li_104, li_105, li_106, li_107, li_108, li_109, li_110, li_111, li_112, li_113, li_114, li_115, li_116, li_117, li_118, li_119, li_120, li_121, li_124, li_127, li_128, li_200, li_4095, li_4096, li_9999]
theorem of_end {k i F : Nat} (hk : k < 7) (hi : i < 7) :
    lp (σ := Int32 × Int32 × Int32 × zS) (fun k s => fn_Sa_isOf_L7 s.1 s.2.1 s.2.2.1 s.2.2.2 (fun (a1 : Int32) (a2 : Int32) (a3 : Int32) (S : zS) => k (a1, a2, a3, S))) (F + 1) (nI k, -nI 1, nI i, mk f l R) = some (nI 0, mk f l R) := by
  rw [lpS]
  show fn_Sa_isOf_L7 (nI k) (-nI 1) (nI i) (mk f l R) _ = _
  have e2 : ¬ (-nI 1 : Int32) = nI k := fun e => nI_eqm (a := k) (by omega) e.symm
  unfold fn_Sa_isOf_L7
  rw [wdF (show ¬ (7 : Int32) ≤ nI i from nI_ge (b := 7) hi (by decide)), wbr_F, wdT (show (-nI 1 : Int32) < 0 by decide), wbr_T, wdF e2]
  rfl
theorem c_isOf {p kd k : Nat} (h : sp p) (hf : f p 2 = nI kd) (hkd : kd < 7) (hk : k < 7) (hA : KA (f 1)) : fn_Sa_isOf p (nI k) (mk f l R) = some (if ofk kd k = true then nI 1 else nI 0, mk f l R) := by
  have h1 := sp_T (f := f) (l := l) (R := R) h
  obtain ⟨a0, a1, a2, a3, a4, a5, a6⟩ := ka_v hA
  simp only [fn_Sa_isOf, h1, hf, wbr_T, wbr_F, wgd_T, wbq, wbv, wnm, zI_mk, zL_mk, uI_mk, uL_mk, kI_mk, kL_mk, li_0]
  have r0 : ∀ i F, i < 5 → lp (σ := Int32 × Int32 × Int32 × zS) (fun k s => fn_Sa_isOf_L7 s.1 s.2.1 s.2.2.1 s.2.2.2 (fun (a1 : Int32) (a2 : Int32) (a3 : Int32) (S : zS) => k (a1, a2, a3, S))) (F + 2) (nI k, nI 0, nI i, mk f l R) = some (if k = 0 then nI 1 else nI 0, mk f l R) := by
    intro i F hi
    rw [of_step hk (by decide) (by omega) a0.symm]
    by_cases e : k = 0
    · rw [if_pos e.symm, if_pos e]
    · rw [if_neg (fun q => e q.symm), if_neg e]
      exact of_end hk (by omega)
  have r1 : ∀ c i F, 1 ≤ c → c ≤ 3 → i < 4 → lp (σ := Int32 × Int32 × Int32 × zS) (fun k s => fn_Sa_isOf_L7 s.1 s.2.1 s.2.2.1 s.2.2.2 (fun (a1 : Int32) (a2 : Int32) (a3 : Int32) (S : zS) => k (a1, a2, a3, S))) (F + 3) (nI k, nI c, nI i, mk f l R) = some (if c = k ∨ k = 0 then nI 1 else nI 0, mk f l R) := by
    intro c i F h1 h3 hi
    have ec : nI 0 = f 1 c := by
      rcases (by omega : c = 1 ∨ c = 2 ∨ c = 3) with rfl | rfl | rfl
      · exact a1.symm
      · exact a2.symm
      · exact a3.symm
    rw [of_step hk (by omega) (by omega) ec]
    by_cases e : c = k
    · rw [if_pos e, if_pos (Or.inl e)]
    · rw [if_neg e, r0 (i + 1) F (by omega)]
      by_cases e0 : k = 0
      · rw [if_pos e0, if_pos (Or.inr e0)]
      · rw [if_neg e0, if_neg (by omega)]
  have r2 : ∀ c i F, 4 ≤ c → c ≤ 6 → i < 3 → lp (σ := Int32 × Int32 × Int32 × zS) (fun k s => fn_Sa_isOf_L7 s.1 s.2.1 s.2.2.1 s.2.2.2 (fun (a1 : Int32) (a2 : Int32) (a3 : Int32) (S : zS) => k (a1, a2, a3, S))) (F + 4) (nI k, nI c, nI i, mk f l R) = some (if c = k ∨ c - 3 = k ∨ k = 0 then nI 1 else nI 0, mk f l R) := by
    intro c i F h1 h3 hi
    have ec : nI (c - 3) = f 1 c := by
      rcases (by omega : c = 4 ∨ c = 5 ∨ c = 6) with rfl | rfl | rfl
      · exact a4.symm
      · exact a5.symm
      · exact a6.symm
    rw [of_step hk (by omega) (by omega) ec]
    by_cases e : c = k
    · rw [if_pos e, if_pos (Or.inl e)]
    · rw [if_neg e, r1 (c - 3) (i + 1) F (by omega) (by omega) (by omega)]
      by_cases e0 : c - 3 = k ∨ k = 0
      · rw [if_pos e0, if_pos (Or.inr e0)]
      · rw [if_neg e0, if_neg (by omega)]
  have ek : ∀ kd, kd < 7 → ∀ k, k < 7 → (ofk kd k = true ↔ (kd = k ∨ k = 0 ∨ (4 ≤ kd ∧ kd - 3 = k))) := by decide
  have hL : ∀ F, lp (σ := Int32 × Int32 × Int32 × zS) (fun k s => fn_Sa_isOf_L7 s.1 s.2.1 s.2.2.1 s.2.2.2 (fun (a1 : Int32) (a2 : Int32) (a3 : Int32) (S : zS) => k (a1, a2, a3, S))) (F + 4) (nI k, nI kd, nI 0, mk f l R) = some (if ofk kd k = true then nI 1 else nI 0, mk f l R) := by
    intro F
    have q := ek kd hkd k hk
    rcases (by omega : kd = 0 ∨ (1 ≤ kd ∧ kd ≤ 3) ∨ 4 ≤ kd) with h | h | h
    · subst h
      rw [r0 0 (F + 2) (by decide)]
      by_cases e : k = 0
      · rw [if_pos e, if_pos (q.mpr (by omega))]
      · rw [if_neg e, if_neg (fun w => by have := q.mp w; omega)]
    · rw [r1 kd 0 (F + 1) h.1 h.2 (by decide)]
      by_cases e : kd = k ∨ k = 0
      · rw [if_pos e, if_pos (q.mpr (by omega))]
      · rw [if_neg e, if_neg (fun w => by have := q.mp w; omega)]
    · rw [r2 kd 0 F h (by omega) (by decide)]
      by_cases e : kd = k ∨ kd - 3 = k ∨ k = 0
      · rw [if_pos e, if_pos (q.mpr (by omega))]
      · rw [if_neg e, if_neg (fun w => by have := q.mp w; omega)]
  exact hL 4996
theorem c_takes {p o kd w : Nat} {g : Int32} (h : sp p) (ho : o < 4096) (hf : f p 2 = nI kd) (hkd : kd < 7) (hw : f p 5 = nI w) (hw9 : w ≤ 99) (hA : KA (f 1)) :
    fn_Sa_takes p (nI o) g (mk f l R) = some (takesP (nI o) (f p 4) (nI kd) (nI w) g, mk f l R) := by
  have h1 := sp_T (f := f) (l := l) (R := R) h
  have e3 := c_isOf (l := l) (R := R) (k := 3) h hf hkd (by decide) hA
  unfold takesP
  by_cases e : 99 ≤ w
  · rw [if_pos (show (99 : Int32) ≤ nI w from nI_le e (by omega))]
    simp (disch := omega) only [fn_Sa_takes, h1, c_thread h hw hw9, if_pos e, wbr_T, wbr_F, wgd_T, wbq, wbv, wnm, zI_mk, zL_mk, uI_mk, uL_mk, kI_mk, kL_mk, nI_add, nI_mul, nI_sub, nI_div, nI_clamp, wgB, wgP, nI_leI, nI_ltI, nI_eq, nI_eqm, nI_eqm5, wdT, wdF, wd1, wd0, li_0, li_1, li_2, li_3, li_4, li_5, li_6, li_7, li_8, li_9, li_10, li_11, li_12, li_13, li_14, li_15, li_16, li_17, li_18, li_19, li_20, li_21, li_22, li_23, li_24, li_25, li_26, li_27, li_28, li_29, li_30, li_31, li_32, li_33, li_38, li_40, li_41, li_48, li_57, li_58, li_59, li_60, li_61, li_62, li_63, li_68, li_69, li_70, li_71, li_72, li_73, li_74, li_75, li_83, li_87, li_88, li_89, li_99, li_100, li_104, li_105, li_106, li_107, li_108, li_109, li_110, li_111, li_112, li_113, li_114, li_115, li_116, li_117, li_118, li_119, li_120, li_121, li_124, li_127, li_128, li_200, li_4095, li_4096, li_9999]
  · rw [if_neg (show ¬ (99 : Int32) ≤ nI w from nI_ge (b := 99) (by omega) (by decide))]
    have e4 : (ofk kd 3 = true) ↔ (herP (nI kd) = true) := by
      have : ∀ kd, kd < 7 → ((ofk kd 3 = true) ↔ (herP (nI kd) = true)) := by decide +kernel
      exact this kd hkd
    by_cases e5 : ofk kd 3 = true
    · rw [if_pos (e4.mp e5)]
      simp (disch := omega) only [fn_Sa_takes, h1, c_thread h hw hw9, if_neg e, if_pos e5, show fn_Sa_isOf p (nI 3) (mk f l R) = _ from e3, wbr_T, wbr_F, wgd_T, wbq, wbv, wnm, zI_mk, zL_mk, uI_mk, uL_mk, kI_mk, kL_mk, nI_eq, wdT, wdF, wd1, wd0, li_0, li_1, li_2, li_3, li_4, li_5, li_6, li_7, li_8, li_9, li_10, li_11, li_12, li_13, li_14, li_15, li_16, li_17, li_18, li_19, li_20, li_21, li_22, li_23, li_24, li_25, li_26, li_27, li_28, li_29, li_30, li_31, li_32, li_33, li_38, li_40, li_41, li_48, li_57, li_58, li_59, li_60, li_61, li_62, li_63, li_68, li_69, li_70, li_71, li_72, li_73, li_74, li_75, li_83, li_87, li_88, li_89, li_99, li_100, li_104, li_105, li_106, li_107, li_108, li_109, li_110, li_111, li_112, li_113, li_114, li_115, li_116, li_117, li_118, li_119, li_120, li_121, li_124, li_127, li_128, li_200, li_4095, li_4096, li_9999]
      exact c_takes_in ho
    · rw [if_neg (fun q => e5 (e4.mpr q))]
      simp (disch := omega) only [fn_Sa_takes, h1, c_thread h hw hw9, if_neg e, if_neg e5, show fn_Sa_isOf p (nI 3) (mk f l R) = _ from e3, wbr_T, wbr_F, wgd_T, wbq, wbv, wnm, zI_mk, zL_mk, uI_mk, uL_mk, kI_mk, kL_mk, nI_eq, wdT, wdF, wd1, wd0, li_0, li_1, li_2, li_3, li_4, li_5, li_6, li_7, li_8, li_9, li_10, li_11, li_12, li_13, li_14, li_15, li_16, li_17, li_18, li_19, li_20, li_21, li_22, li_23, li_24, li_25, li_26, li_27, li_28, li_29, li_30, li_31, li_32, li_33, li_38, li_40, li_41, li_48, li_57, li_58, li_59, li_60, li_61, li_62, li_63, li_68, li_69, li_70, li_71, li_72, li_73, li_74, li_75, li_83, li_87, li_88, li_89, li_99, li_100, li_104, li_105, li_106, li_107, li_108, li_109, li_110, li_111, li_112, li_113, li_114, li_115, li_116, li_117, li_118, li_119, li_120, li_121, li_124, li_127, li_128, li_200, li_4095, li_4096, li_9999]
      exact c_takes_in ho
end
