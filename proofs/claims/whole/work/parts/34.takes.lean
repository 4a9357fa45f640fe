/-! WHAT A SAINT TAKES -/
theorem and_small {o : Nat} (h : o < 4096) (X : Int32) : ∃ m, m < 4096 ∧ nI o &&& X = nI m := by
  refine ⟨o &&& X.toBitVec.toNat, Nat.lt_of_le_of_lt Nat.and_le_left h, ?_⟩
  have hm : o &&& X.toBitVec.toNat < 4096 := Nat.lt_of_le_of_lt Nat.and_le_left h
  apply Int32.toBitVec_inj.mp
  apply BitVec.eq_of_toNat_eq
  show (BitVec.ofNat 32 o &&& X.toBitVec).toNat = (BitVec.ofNat 32 (o &&& X.toBitVec.toNat)).toNat
  rw [BitVec.toNat_and, BitVec.toNat_ofNat, BitVec.toNat_ofNat, Nat.mod_eq_of_lt (by omega), Nat.mod_eq_of_lt (by omega)]
theorem nI_bit {m k : Nat} (hm : m < 4096) (hk : k < 12) : ((nI m >>> (nI k &&& 31)) &&& (1 : Int32)) = nI (m / 2 ^ k % 2) := by
  have h1 : ∀ k, k < 12 → nI k &&& 31 = nI k ∧ ((nI k).toBitVec.smod 32).toNat = k := by decide +kernel
  rw [(h1 k hk).1, pk_shrN (by omega) (nI k) k (h1 k hk).2, pk_andN (k := 1) (by have := Nat.div_le_self m (2 ^ k); omega) (by decide)]
theorem c_takes_loop {a : Nat} {S : zS} (ha : a < 4096) : ∀ (d k F i m : Nat) (g off : Int32), k + d = 12 → d < F → i ≤ k → (i = 0 ∨ 0 < g) → m < 4096 → m % 2 ^ k = 0 → m / 2 ^ k = a / 2 ^ k →
    lp (σ := Int32 × Int32 × Int32 × Int32 × zS) (fun k s => fn_Sa_takes_L41 s.1 s.2.1 s.2.2.1 s.2.2.2.1 s.2.2.2.2 (fun (a2 : Int32) (a3 : Int32) (a4 : Int32) (a5 : Int32) (S : zS) => k (a2, a3, a4, a5, S))) F (g, nI m, off, nI i, S) = some (scP (nI a) d k (g - nI i) off, S)
  | 0, k, F, i, m, g, off, hk, hF, hi, hg, hm, h0, hq => by
    obtain ⟨F, rfl⟩ : ∃ G, F = G + 1 := ⟨F - 1, by omega⟩
    have e : k = 12 := by omega
    subst e
    have e0 : m = 0 := by omega
    subst e0
    rw [lpS]
    show fn_Sa_takes_L41 g (nI 0) off (nI i) S _ = _
    unfold fn_Sa_takes_L41
    by_cases h : g ≤ nI i
    · rw [wdT h]; rfl
    · rw [wdF h]; rfl
  | d + 1, k, F, i, m, g, off, hk, hF, hi, hg, hm, h0, hq => by
    have hgi : g ≤ nI i ↔ g - nI i ≤ 0 := by
      rw [Int32.le_iff_toInt_le, Int32.le_iff_toInt_le, Int32.toInt_sub, nI_toInt (by omega)]
      rcases hg with rfl | hg
      · have := g.toInt_lt
        have := g.le_toInt
        rw [Int.bmod_eq_of_le (by omega) (by omega)]
        show _ ↔ _ ≤ (0 : Int)
        omega
      · rw [Int32.lt_iff_toInt_lt] at hg
        have hg' : (0 : Int) < g.toInt := hg
        have := g.toInt_lt
        rw [Int.bmod_eq_of_le (by omega) (by omega)]
        show _ ↔ _ ≤ (0 : Int)
        omega
    have hbit : ((nI a >>> (nI k &&& 31)) &&& (1 : Int32)) = nI (m / 2 ^ k % 2) := by rw [nI_bit ha (by omega), hq]
    unfold scP
    by_cases hle : g ≤ nI i
    · obtain ⟨F, rfl⟩ : ∃ G, F = G + 1 := ⟨F - 1, by omega⟩
      rw [lpS, if_pos (hgi.mp hle)]
      show fn_Sa_takes_L41 g (nI m) off (nI i) S _ = _
      unfold fn_Sa_takes_L41
      rw [wdT hle]
      rfl
    · rw [if_neg (fun e => hle (hgi.mpr e)), hbit]
      have hd : m / 2 ^ (k + 1) = a / 2 ^ (k + 1) := by
        rw [Nat.pow_succ, ← Nat.div_div_eq_div_mul, ← Nat.div_div_eq_div_mul, hq]
      have hmd : m = 2 ^ k * (m / 2 ^ k) := by
        have := Nat.div_add_mod m (2 ^ k)
        omega
      have h2 : m / 2 ^ (k + 1) = m / 2 ^ k / 2 := by rw [Nat.pow_succ, ← Nat.div_div_eq_div_mul]
      rcases Nat.mod_two_eq_zero_or_one (m / 2 ^ k) with hb | hb
      · rw [hb, if_neg (by decide)]
        refine c_takes_loop ha d (k + 1) F i m g off (by omega) (by omega) (by omega) hg hm ?_ hd
        have : m / 2 ^ k = 2 * (m / 2 ^ k / 2) := by omega
        have h3 : m = 2 ^ (k + 1) * (m / 2 ^ k / 2) := by
          rw [Nat.pow_succ, Nat.mul_assoc, ← this]
          exact hmd
        rw [h3]
        exact Nat.mul_mod_right _ _
      · obtain ⟨F, rfl⟩ : ∃ G, F = G + 1 := ⟨F - 1, by omega⟩
        rw [hb, if_pos (show nI 1 = 1 from rfl), lpS]
        show fn_Sa_takes_L41 g (nI m) off (nI i) S _ = _
        unfold fn_Sa_takes_L41
        have hq2 : m / 2 ^ k = 2 * (m / 2 ^ k / 2) + 1 := by omega
        have hm2 : m = 2 ^ k * (2 * (m / 2 ^ k / 2) + 1) := by
          rw [← hq2]
          exact hmd
        have hj : m / 2 ^ k / 2 < 2 ^ (11 - k) := by
          have e1 : m / 2 ^ (k + 1) < 2 ^ (11 - k) := by
            apply Nat.div_lt_of_lt_mul
            rw [← Nat.pow_add, show k + 1 + (11 - k) = 12 by omega]
            exact hm
          rw [h2] at e1
          exact e1
        obtain ⟨l1, l2, l3⟩ := low_bit k (by omega) (m / 2 ^ k / 2) hj
        rw [← hm2] at l1 l2
        have hm0 : ¬ nI m = 0 := nI_ne0 (by have := Nat.two_pow_pos k; omega) (by omega)
        rw [wdF hle, wdF hm0, wbr_F, wbr_F, l1, l2, nI_1, l3]
        have hg0 : 0 < g := by
          rw [Int32.le_iff_toInt_le, nI_toInt (by omega)] at hle
          rw [Int32.lt_iff_toInt_lt]
          show (0 : Int) < g.toInt
          omega
        have hmm : 2 ^ k * (2 * (m / 2 ^ k / 2)) = 2 ^ (k + 1) * (m / 2 ^ k / 2) := by rw [Nat.pow_succ, Nat.mul_assoc]
        have hle2 : 2 ^ k * (2 * (m / 2 ^ k / 2)) ≤ m := by
          conv => rhs; rw [hm2]
          exact Nat.mul_le_mul_left _ (by omega)
        have e := c_takes_loop ha d (k + 1) F (i + 1) (2 ^ k * (2 * (m / 2 ^ k / 2))) g (off ||| nI (2 ^ k)) (by omega) (by omega) (by omega) (Or.inr hg0) (by omega) (by rw [hmm]; exact Nat.mul_mod_right _ _) (by rw [hmm, Nat.mul_div_cancel_left _ (Nat.two_pow_pos _), ← h2, hd])
        rw [show g - nI i + (-1 : Int32) = g - nI (i + 1) by
          rw [← nI_1]
          apply Int32.toBitVec_inj.mp
          show g.toBitVec - (nI i).toBitVec + (-1 : Int32).toBitVec = g.toBitVec - ((nI i).toBitVec + (1 : Int32).toBitVec)
          rw [BitVec.sub_add_eq g.toBitVec, BitVec.sub_eq_add_neg (g.toBitVec - _) (1 : Int32).toBitVec]
          rfl]
        exact e
/-- whether a saint of that kind is, by its kinds above, a HERETIC -/
def herP (kd : Int32) : Bool := decide (kd = 3) || decide (kd = 6)
def takesP (on holes kd wear g : Int32) : Int32 := if 99 ≤ wear then 0 else scP (on &&& (if herP kd = true then holes ^^^ (-1 : Int32) else holes)) 12 0 g 0
theorem c_takes_in {o : Nat} {X g : Int32} {S : zS} (ho : o < 4096) : lp (σ := Int32 × Int32 × Int32 × Int32 × zS) (fun k s => fn_Sa_takes_L41 s.1 s.2.1 s.2.2.1 s.2.2.2.1 s.2.2.2.2 (fun (a2 : Int32) (a3 : Int32) (a4 : Int32) (a5 : Int32) (S : zS) => k (a2, a3, a4, a5, S))) FU (g, nI o &&& X, (0 : Int32), (0 : Int32), S) = some (scP (nI o &&& X) 12 0 g 0, S) := by
  obtain ⟨m, hm, e⟩ := and_small ho X
  rw [e]
  have h := c_takes_loop (S := S) hm 12 0 FU 0 m g 0 rfl (by decide) (Nat.le_refl _) (Or.inl rfl) hm (Nat.mod_one m) rfl
  rw [show g - nI 0 = g from Int32.sub_zero g] at h
  exact h
