/-! CALLS, seventh part: what is asked of days to come -/
theorem hbD : (∀ f l R, gT (mk f l R) 63 101 = true) ∧ (∀ f l R, gT (mk f l R) 64 6 = true) ∧ (∀ f l R, gT (mk f l R) 65 1 = true) ∧ (∀ f l R, gT (mk f l R) 66 1 = true) ∧ (∀ f l R, gT (mk f l R) 67 104 = true) ∧ (∀ f l R, gT (mk f l R) 68 1 = true) ∧ (∀ f l R, gT (mk f l R) 69 104 = true) ∧ (∀ f l R, gT (mk f l R) 70 1 = true) ∧ (∀ f l R, gT (mk f l R) 71 104 = true) ∧ (∀ f l R, gT (mk f l R) 72 1 = true)
    ∧ (∀ f l R, (zT (mk f l R) 64).2 = 6) ∧ (∀ f l R, (zT (mk f l R) 65).2 = 4) ∧ (∀ f l R, (zT (mk f l R) 66).2 = 4) ∧ (∀ f l R, (zT (mk f l R) 68).2 = 15) ∧ (∀ f l R, (zT (mk f l R) 70).2 = 24) ∧ (∀ f l R, (zT (mk f l R) 72).2 = 24)
    ∧ (∀ f l R, zR (mk f l R) 63 0 = 64) ∧ (∀ f l R, zR (mk f l R) 63 1 = 65) ∧ (∀ f l R, zR (mk f l R) 63 2 = 66) ∧ (∀ f l R, zR (mk f l R) 63 3 = 67) ∧ (∀ f l R, zR (mk f l R) 63 4 = 69) ∧ (∀ f l R, zR (mk f l R) 63 5 = 71) ∧ (∀ f l R, zR (mk f l R) 63 8 = R 63) ∧ (∀ f l R, zR (mk f l R) 67 0 = 68) ∧ (∀ f l R, zR (mk f l R) 69 0 = 70) ∧ (∀ f l R, zR (mk f l R) 71 0 = 72) ∧ (∀ f l R i, i < 6 → zR (mk f l R) 64 i = 73 + 2 * i)
    ∧ (∀ f l R i, i < 6 → gT (mk f l R) (73 + 2 * i) 105 = true) ∧ (∀ f l R i, i < 6 → gT (mk f l R) (74 + 2 * i) 1 = true) ∧ (∀ f l R i, i < 6 → (zT (mk f l R) (74 + 2 * i)).2 = 4) ∧ (∀ f l R i, i < 6 → zR (mk f l R) (73 + 2 * i) 0 = 74 + 2 * i) := hbA zb63
/-! fractions -/
def lwN (a b : Nat) : Nat → Nat
  | 0 => 0
  | c + 1 => if c = 0 then 1 else if a % (c + 1) = 0 ∧ b % (c + 1) = 0 then c + 1 else lwN a b c
set_option maxRecDepth 100000 in
theorem lw_gcd : ∀ b, b < 7 → ∀ a, a < 600 → 0 < b → lwN a b b = Nat.gcd a b := by decide +kernel
section
variable {S : zS} {a b p c : Nat}
theorem gZ_n {n : Nat} (h0 : 0 < n) (h : n < 2 ^ 31) : gZ (nI n) = true := by
  unfold gZ
  rw [decide_eq_false (nI_ne0 h0 h)]
  rfl
theorem n_rem {m d : Nat} (hm : m < 2 ^ 31) (hd : d < 2 ^ 31) : nI m - nI m / nI d * nI d = nI (m % d) := by
  have hb : m / d * d ≤ m := Nat.div_mul_le_self m d
  have hq := Nat.div_add_mod m d
  rw [nI_div hm hd, nI_mul, nI_sub hb, show m - m / d * d = m % d by rw [Nat.mul_comm] at hq; omega]
theorem c_lowl {w : Nat} (hw : (if p = 0 then a else b) = w) (ha : a < 600) (hb : b < 7) (hp : p < 2) : ∀ (c F : Nat), 0 < c → c < 7 → c ≤ F → lp (σ := Int32 × Int32 × Int32 × Int32 × zS) (fun k s => fn_Ls_lowest_L2 s.1 s.2.1 s.2.2.1 s.2.2.2.1 s.2.2.2.2 (fun (a0 : Int32) (a1 : Int32) (a2 : Int32) (a3 : Int32) (S : zS) => k (a0, a1, a2, a3, S))) F (nI a, nI b, nI p, nI c, S) = some (lN (w / lwN a b c), S)
  | 0, F, h0, _, _ => absurd h0 (by decide)
  | c + 1, F, h0, h7, hF => by
    obtain ⟨F, rfl⟩ : ∃ G, F = G + 1 := ⟨F - 1, by omega⟩
    rw [lpS]
    show fn_Ls_lowest_L2 (nI a) (nI b) (nI p) (nI (c + 1)) S _ = some (lN (w / (if c = 0 then 1 else if a % (c + 1) = 0 ∧ b % (c + 1) = 0 then c + 1 else lwN a b c)), S)
    have ih := fun q : 0 < c => c_lowl hw ha hb hp c F q (by omega) (by omega)
    generalize (lp (σ := Int32 × Int32 × Int32 × Int32 × zS) (fun k s => fn_Ls_lowest_L2 s.1 s.2.1 s.2.2.1 s.2.2.2.1 s.2.2.2.2 (fun (a0 : Int32) (a1 : Int32) (a2 : Int32) (a3 : Int32) (S : zS) => k (a0, a1, a2, a3, S))) F) = K at ih ⊢
    have gz := gZ_n (n := c + 1) (by omega) (by omega)
    have r1 := n_rem (m := a) (d := c + 1) (by omega) (by omega)
    have r2 := n_rem (m := b) (d := c + 1) (by omega) (by omega)
    have da := nI_div (a := a) (b := c + 1) (by omega) (by omega)
    have db := nI_div (a := b) (b := c + 1) (by omega) (by omega)
    have la := nI_l (n := a / (c + 1)) (Nat.lt_of_le_of_lt (Nat.div_le_self _ _) (by omega))
    have lb := nI_l (n := b / (c + 1)) (Nat.lt_of_le_of_lt (Nat.div_le_self _ _) (by omega))
    have pred : nI (c + 1) + -nI 1 = nI c := by
      rw [← Int32.sub_eq_add_neg, nI_sub (by omega)]
      rfl
    have m1 : a % (c + 1) < c + 1 := Nat.mod_lt _ (by omega)
    have m2 : b % (c + 1) < c + 1 := Nat.mod_lt _ (by omega)
    have L25 : fn_Ls_lowest_L25 (nI a) (nI b) (nI p) (nI (c + 1)) S = some (lN (w / (c + 1)), S) := by
      rw [← hw]
      rcases (by omega : p = 0 ∨ p = 1) with rfl | rfl
      · rw [if_pos rfl]
        simp (disch := omega) only [fn_Ls_lowest_L25, gz, da, la, wbr_T, wbr_F, wgd_T, wbq, wbv, wnm, zI_mk, zL_mk, uI_mk, uL_mk, kI_mk, kL_mk, nI_leI, nI_eq, wdT, wdF, wd1, wd0, li_0, li_1]
      · rw [if_neg (by decide)]
        simp (disch := omega) only [fn_Ls_lowest_L25, gz, db, lb, wbr_T, wbr_F, wgd_T, wbq, wbv, wnm, zI_mk, zL_mk, uI_mk, uL_mk, kI_mk, kL_mk, nI_leI, nI_eq, wdT, wdF, wd1, wd0, li_0, li_1]
    by_cases e0 : c = 0
    · rw [if_pos e0]
      subst e0
      simp (disch := omega) only [fn_Ls_lowest_L2, wbr_T, wbr_F, wgd_T, wbq, wbv, wnm, zI_mk, zL_mk, uI_mk, uL_mk, kI_mk, kL_mk, nI_leI, wdT, wdF, wd1, wd0, li_1, Nat.zero_add]
      exact L25
    · rw [if_neg e0]
      by_cases e1 : a % (c + 1) = 0
      · by_cases e2 : b % (c + 1) = 0
        · rw [if_pos ⟨e1, e2⟩]
          simp (disch := omega) only [fn_Ls_lowest_L2, L25, gz, r1, r2, e1, e2, wbr_T, wbr_F, wgd_T, wbq, wbv, wnm, zI_mk, zL_mk, uI_mk, uL_mk, kI_mk, kL_mk, nI_leI, nI_eq, wdT, wdF, wd1, wd0, li_0, li_1]
        · rw [if_neg (fun q => e2 q.2)]
          simp (disch := omega) only [fn_Ls_lowest_L2, gz, r1, r2, e1, pred, wbr_T, wbr_F, wgd_T, wbq, wbv, wnm, zI_mk, zL_mk, uI_mk, uL_mk, kI_mk, kL_mk, nI_leI, nI_eq, wdT, wdF, wd1, wd0, li_0, li_1]
          exact ih (by omega)
      · rw [if_neg (fun q => e1 q.1)]
        simp (disch := omega) only [fn_Ls_lowest_L2, gz, r1, r2, pred, wbr_T, wbr_F, wgd_T, wbq, wbv, wnm, zI_mk, zL_mk, uI_mk, uL_mk, kI_mk, kL_mk, nI_leI, nI_eq, wdT, wdF, wd1, wd0, li_0, li_1]
        exact ih (by omega)
theorem c_low (ha : a < 600) (hb : b < 7) (h0 : 0 < b) (hp : p < 2) : fn_Ls_lowest (nI a) (nI b) (nI p) S = some (lN ((if p = 0 then a else b) / Nat.gcd a b), S) := by
  rw [← lw_gcd b hb a ha h0]
  exact c_lowl rfl ha hb hp b FU h0 hb (by show b ≤ 5000; omega)
theorem zc_0 {n : Nat} (h : n < 2 ^ 31) : zcmp (lN n) 0 = 0 ↔ n = 0 := by
  unfold zcmp
  have e0 : (0 : Int64) = lN 0 := rfl
  rw [e0]
  have h1 : (lN n > lN 0) ↔ 0 < n := lN_lt (by decide) h
  have h2 := lN_eq h (show 0 < 2 ^ 31 by decide)
  by_cases c1 : 0 < n
  · rw [if_pos (h1.mpr c1)]
    constructor
    · intro q
      exact absurd q (by decide)
    · intro q
      omega
  · have : n = 0 := by omega
    rw [if_neg (fun q => c1 (h1.mp q)), if_pos (h2.mpr this)]
    exact ⟨fun _ => this, fun _ => rfl⟩
theorem gZl_n {n : Nat} (h0 : 0 < n) (h : n < 2 ^ 31) : gZl (lN n) = true := by
  unfold gZl
  rw [decide_eq_false (fun q : lN n = 0 => by
    have := (lN_eq h (show 0 < 2 ^ 31 by decide)).mp q
    omega)]
  rfl
theorem m_frl (ha : a < 600) (hb : b < 7) (hp : p < 2) : ∀ (F x y : Nat), x < 600 → y < 600 → y < F → (0 < x ∨ 0 < y) → lp (σ := Int64 × Int64 × Int32 × Int64 × Int64 × zS) (fun k s => fn_Mo_fraction_L6 s.1 s.2.1 s.2.2.1 s.2.2.2.1 s.2.2.2.2.1 s.2.2.2.2.2 (fun (a0 : Int64) (a2 : Int64) (a4 : Int32) (a5 : Int64) (a7 : Int64) (S : zS) => k (a0, a2, a4, a5, a7, S))) F (lN a, lN b, nI p, lN x, lN y, S) = some (lN ((if p = 0 then a else b) / Nat.gcd x y), S)
  | 0, x, y, _, _, hF, _ => absurd hF (Nat.not_lt_zero _)
  | F + 1, x, y, hx, hy, hF, hxy => by
    rw [lpS]
    show fn_Mo_fraction_L6 (lN a) (lN b) (nI p) (lN x) (lN y) S _ = _
    have zc := zc_0 (n := y) (by omega)
    by_cases e : y = 0
    · have hx0 : 0 < x := by omega
      have gz := gZl_n hx0 (by omega)
      have da := pk_lDiv (a := a) (b := x) (by omega) hx0 (by omega)
      have db := pk_lDiv (a := b) (b := x) (by omega) hx0 (by omega)
      have zc' : zcmp (lN y) 0 = 0 := zc.mpr e
      rw [e, Nat.gcd_zero_right]
      rw [e] at zc'
      rcases (by omega : p = 0 ∨ p = 1) with rfl | rfl
      · rw [if_pos rfl]
        unfold fn_Mo_fraction_L6
        rw [wdT zc', wbr_T, wdT (show nI 0 = 0 from rfl), wbr_T, gz, wgd_T, da]
      · rw [if_neg (by decide)]
        unfold fn_Mo_fraction_L6
        rw [wdT zc', wbr_T, wdF (show ¬ nI 1 = 0 from by decide), wbr_F, gz, wgd_T, db]
    · have gz := gZl_n (n := y) (by omega) (by omega)
      have rm := pk_lRem (a := x) (b := y) (by omega) (by omega) (by omega)
      have hml : x % y < y := Nat.mod_lt _ (by omega)
      unfold fn_Mo_fraction_L6
      rw [wdF (fun q => e (zc.mp q)), wbr_F, gz, wgd_T, rm]
      refine (m_frl ha hb hp F y (x % y) hy (by omega) (by omega) (Or.inl (by omega))).trans ?_
      rw [show Nat.gcd y (x % y) = Nat.gcd x y by rw [Nat.gcd_comm x y, Nat.gcd_rec y x, Nat.gcd_comm]]
theorem m_fr (ha : a < 600) (hb : b < 7) (h0 : 0 < b) (hp : p < 2) : fn_Mo_fraction (lN a) (lN b) (nI p) S = some (lN ((if p = 0 then a else b) / Nat.gcd a b), S) :=
  m_frl ha hb hp FU a b ha (by omega) (by show b < 5000; omega) (Or.inr h0)
end
