/-! CALLS: ORDER -/
section
variable {f f' g : Nat → Nat → Int32} {l : Nat → Nat → Int64} {R R' : Nat → Nat} {a a' : Nat → Nat} {T T' : Nat → Nat → Nat} {N N' : Nat → Nat} {ru ru' D i j k n w z : Nat} {t tx : Nat → Nat} {tn : Nat}
theorem m_oc1 (h100 : n ≤ 100) : ∀ (e k G : Nat) (f : Nat → Nat → Int32), k + e = n → e < G → f 137 10 = nI n → (∀ j, j < n → f 141 j = nI (t j)) → (∀ j, j < k → f 144 j = nI (t j)) →
    ∃ f' K, lp (σ := Nat × Int32 × zS) (fun k s => fn_Mo_order_L22 s.1 s.2.1 s.2.2 (fun (a0 : Nat) (a1 : Int32) (S : zS) => k (a0, a1, S))) G (137, nI k, mk f l R) = fn_Mo_order_L22 137 (nI n) (mk f' l R) K ∧ (∀ j, j < n → f' 144 j = nI (t j)) ∧ ∀ p j, ¬ p = 144 → f' p j = f p j
  | 0, k, G, f, he, hG, hz, ht, h4 => by
    obtain ⟨G, rfl⟩ : ∃ H, G = H + 1 := ⟨G - 1, by omega⟩
    have ek : k = n := by omega
    subst ek
    exact ⟨f, fun (a0 : Nat) (a1 : Int32) (S : zS) => lp (σ := Nat × Int32 × zS) (fun k s => fn_Mo_order_L22 s.1 s.2.1 s.2.2 (fun (a0 : Nat) (a1 : Int32) (S : zS) => k (a0, a1, S))) G (a0, a1, S), rfl, h4, fun _ _ _ => rfl⟩
  | e + 1, k, G, f, he, hG, hz, ht, h4 => by
    obtain ⟨G, rfl⟩ : ∃ H, G = H + 1 := ⟨G - 1, by omega⟩
    obtain ⟨f1, K, e1, g1, fr1⟩ := m_oc1 h100 e (k + 1) G (up f 144 k (nI (t k))) (by omega) (by omega) ((up_np (by decide)).trans hz) (fun j hj => (up_np (by decide)).trans (ht j hj)) (fun j hj => by
      by_cases ej : j = k
      · subst ej
        exact up_eq
      · rw [up_nj ej]
        exact h4 j (by omega))
    refine ⟨f1, K, ?_, g1, fun p j hp => (fr1 p j hp).trans (up_np hp)⟩
    have step : ∀ K : Nat → Int32 → zS → Option (Int32 × zS), fn_Mo_order_L22 137 (nI k) (mk f l R) K = K 137 (nI (k + 1)) (mk (up f 144 k (nI (t k))) l R) := fun K => by
      have g := ht k (by omega)
      simp (disch := omega) only [wbr_T, wbr_F, wgd_T, wbq, wbv, wnm, zI_mk, zL_mk, uI_mk, uL_mk, kI_mk, kL_mk, nI_add, nI_mul, nI_sub, nI_div, nI_clamp, wgB, wgP, nI_leI, nI_ltI, nI_eq, nI_eqm, nI_eqm5, wdT, wdF, wd1, wd0, li_0, li_1, li_2, li_3, li_4, li_5, li_6, li_7, li_8, li_9, li_10, li_11, li_12, li_13, li_14, li_15, li_16, li_17, li_18, li_19, li_20, li_21, li_22, li_23, li_24, li_25, li_26, li_27, li_28, li_29, li_30, li_31, li_32, li_33, li_38, li_40, li_41, li_48, li_57, li_58, li_59, li_60, li_61, li_62, li_63, li_68, li_69, li_70, li_71, li_72, li_73, li_74, li_75, li_83, li_87, li_88, li_89, li_99, li_100, li_104, li_105, li_106, li_107, li_108, li_109, li_110, li_111, li_112, li_113, li_114, li_115, li_116, li_117, li_118, li_119, li_120, li_121, li_124, li_127, li_128, li_200, li_4095, li_4096, li_9999, gT_mk_137, zT_mk_137, zR_mk_137_0, zR_mk_137_1, zR_mk_137_2, zR_mk_137_4, zR_mk_137_6, zR_mk_137_7, zR_mk_137_9, zR_mk_137_16, zR_mk_137_17, zR_mk_137_18, zR_mk_137_19, zR_mk_137_20, zR_mk_137_22, zR_mk_137_24, zR_mk_137_25, zR_mk_137_26, zR_mk_137_28, zR_mk_137_29, zR_mk_137_30, zR_mk_137_31, gT_mk_138, zT_mk_138, gT_mk_139, zT_mk_139, gT_mk_140, zT_mk_140, gT_mk_141, zT_mk_141, gT_mk_142, zT_mk_142, gT_mk_143, zT_mk_143, gT_mk_144, zT_mk_144, gT_mk_145, zT_mk_145, gT_mk_146, zT_mk_146, gT_mk_147, zT_mk_147, gT_mk_148, zT_mk_148, gT_mk_149, zT_mk_149, gT_mk_150, zT_mk_150, gT_mk_151, zT_mk_151, gT_mk_152, zT_mk_152, gT_mk_153, zT_mk_153, gT_mk_154, zT_mk_154, gT_mk_155, zT_mk_155, gT_mk_156, zT_mk_156, gT_mk_157, zT_mk_157, fn_Mo_order_L22, hz, g]
    rw [lpS]
    exact (step _).trans e1
theorem m_oc2 (h100 : n ≤ 100) (hr : ru < 6) : ∀ (e k G : Nat) (f : Nat → Nat → Int32), k + e = n → e < G → f 137 10 = nI n → f 137 8 = nI ru → (∀ j, j < n → f 144 j = nI (t j)) → (∀ j, j < k → f 142 (100 * ru + j) = nI (t j)) →
    ∃ f' K, lp (σ := Nat × Int32 × zS) (fun k s => fn_Mo_order_L70 s.1 s.2.1 s.2.2 (fun (a0 : Nat) (a1 : Int32) (S : zS) => k (a0, a1, S))) G (137, nI k, mk f l R) = fn_Mo_order_L70 137 (nI n) (mk f' l R) K ∧ (∀ j, j < n → f' 142 (100 * ru + j) = nI (t j)) ∧ ∀ p j, ¬ (p = 142 ∧ 100 * ru ≤ j) → f' p j = f p j
  | 0, k, G, f, he, hG, hz, h8, ht, h4 => by
    obtain ⟨G, rfl⟩ : ∃ H, G = H + 1 := ⟨G - 1, by omega⟩
    have ek : k = n := by omega
    subst ek
    exact ⟨f, fun (a0 : Nat) (a1 : Int32) (S : zS) => lp (σ := Nat × Int32 × zS) (fun k s => fn_Mo_order_L70 s.1 s.2.1 s.2.2 (fun (a0 : Nat) (a1 : Int32) (S : zS) => k (a0, a1, S))) G (a0, a1, S), rfl, h4, fun _ _ _ => rfl⟩
  | e + 1, k, G, f, he, hG, hz, h8, ht, h4 => by
    obtain ⟨G, rfl⟩ : ∃ H, G = H + 1 := ⟨G - 1, by omega⟩
    obtain ⟨f1, K, e1, g1, fr1⟩ := m_oc2 h100 hr e (k + 1) G (up f 142 (100 * ru + k) (nI (t k))) (by omega) (by omega) ((up_np (by decide)).trans hz) ((up_np (by decide)).trans h8) (fun j hj => (up_np (by decide)).trans (ht j hj)) (fun j hj => by
      by_cases ej : j = k
      · subst ej
        exact up_eq
      · rw [up_nj (by omega)]
        exact h4 j (by omega))
    refine ⟨f1, K, ?_, g1, fun p j hp => (fr1 p j hp).trans ?_⟩
    · have step : ∀ K : Nat → Int32 → zS → Option (Int32 × zS), fn_Mo_order_L70 137 (nI k) (mk f l R) K = K 137 (nI (k + 1)) (mk (up f 142 (100 * ru + k) (nI (t k))) l R) := fun K => by
        have g := ht k (by omega)
        simp (disch := omega) only [wbr_T, wbr_F, wgd_T, wbq, wbv, wnm, zI_mk, zL_mk, uI_mk, uL_mk, kI_mk, kL_mk, nI_add, nI_mul, nI_sub, nI_div, nI_clamp, wgB, wgP, nI_leI, nI_ltI, nI_eq, nI_eqm, nI_eqm5, wdT, wdF, wd1, wd0, li_0, li_1, li_2, li_3, li_4, li_5, li_6, li_7, li_8, li_9, li_10, li_11, li_12, li_13, li_14, li_15, li_16, li_17, li_18, li_19, li_20, li_21, li_22, li_23, li_24, li_25, li_26, li_27, li_28, li_29, li_30, li_31, li_32, li_33, li_38, li_40, li_41, li_48, li_57, li_58, li_59, li_60, li_61, li_62, li_63, li_68, li_69, li_70, li_71, li_72, li_73, li_74, li_75, li_83, li_87, li_88, li_89, li_99, li_100, li_104, li_105, li_106, li_107, li_108, li_109, li_110, li_111, li_112, li_113, li_114, li_115, li_116, li_117, li_118, li_119, li_120, li_121, li_124, li_127, li_128, li_200, li_4095, li_4096, li_9999, gT_mk_137, zT_mk_137, zR_mk_137_0, zR_mk_137_1, zR_mk_137_2, zR_mk_137_4, zR_mk_137_6, zR_mk_137_7, zR_mk_137_9, zR_mk_137_16, zR_mk_137_17, zR_mk_137_18, zR_mk_137_19, zR_mk_137_20, zR_mk_137_22, zR_mk_137_24, zR_mk_137_25, zR_mk_137_26, zR_mk_137_28, zR_mk_137_29, zR_mk_137_30, zR_mk_137_31, gT_mk_138, zT_mk_138, gT_mk_139, zT_mk_139, gT_mk_140, zT_mk_140, gT_mk_141, zT_mk_141, gT_mk_142, zT_mk_142, gT_mk_143, zT_mk_143, gT_mk_144, zT_mk_144, gT_mk_145, zT_mk_145, gT_mk_146, zT_mk_146, gT_mk_147, zT_mk_147, gT_mk_148, zT_mk_148, gT_mk_149, zT_mk_149, gT_mk_150, zT_mk_150, gT_mk_151, zT_mk_151, gT_mk_152, zT_mk_152, gT_mk_153, zT_mk_153, gT_mk_154, zT_mk_154, gT_mk_155, zT_mk_155, gT_mk_156, zT_mk_156, gT_mk_157, zT_mk_157, fn_Mo_order_L70, hz, h8, g]
      rw [lpS]
      exact (step _).trans e1
    · by_cases e : p = 142
      · subst e
        exact up_nj (by omega)
      · exact up_np e
/-- all but what an order changes -/
def oF (ru : Nat) (f g : Nat → Nat → Int32) : Prop := ∀ p j, ¬ (107 + 3 * ru ≤ p ∧ p ≤ 109 + 3 * ru) → ¬ (p = 19 ∧ 1 ≤ j ∧ j ≤ 3) → ¬ (p = 16 ∧ j = 10) → ¬ (p = 137 ∧ (j = 5 ∨ j = 8 ∨ 10 ≤ j ∧ j ≤ 15)) → ¬ p = 144 → ¬ (p = 142 ∧ 100 * ru ≤ j) → ¬ (p = 143 ∧ j = ru) → ¬ p = 138 → g p j = f p j
theorem Iv_oX (hE : Re ru T N f l R) (r6 : ru < 6) (hF : oF ru f g) (hA : JA ru' g R') (hC : JC T' N' ru' g) (hr : ru ≤ ru') (h19 : g 19 1 = nI 0) (h5 : g 137 5 = nI 0) (hR : R' 85 = R 85) : Iv g l R' := by
  obtain ⟨⟨b0, b1⟩, -, -, hJE, hJF, hJG, hN⟩ := hE
  have q : ∀ p j, ¬ (107 + 3 * ru ≤ p ∧ p ≤ 109 + 3 * ru) → ¬ (p = 19 ∧ 1 ≤ j ∧ j ≤ 3) → ¬ (p = 16 ∧ j = 10) → ¬ (p = 137 ∧ (j = 5 ∨ j = 8 ∨ 10 ≤ j ∧ j ≤ 15)) → ¬ p = 144 → ¬ (p = 142 ∧ 100 * ru ≤ j) → ¬ (p = 143 ∧ j = ru) → ¬ p = 138 → g p j = f p j := hF
  refine ⟨ru', T', N', hA, ⟨cN_fr b0 (fun p j q1 q2 => q p j (by omega) (by omega) (by omega) (by omega) (by omega) (by omega) (by omega) (by omega)), ?_⟩, hC, ⟨fun _ => 0, 0, ⟨Nat.zero_le _, fun j hj => absurd hj (Nat.not_lt_zero _)⟩, h19, fun j hj => absurd hj (Nat.not_lt_zero _), h5, fun j hj => absurd hj (Nat.not_lt_zero _)⟩, JE_fr hJE (fun p j q1 => q p j (by omega) (by omega) (by omega) (by omega) (by omega) (by omega) (by omega) (by omega)), JF_fr hJF (fun p j q1 => q p j (by omega) (by omega) (by omega) (by omega) (by omega) (by omega) (by omega) (by omega)), JG_fr hJG (fun p j q1 => q p j (by omega) (by omega) (by omega) (by omega) (by omega) (by omega) (by omega) (by omega)), cN_fr hN (fun p j q1 q2 => q p j (by omega) (by omega) (by omega) (by omega) (by omega) (by omega) (by omega) (by omega))⟩
  rcases b1 with ⟨h1, h2⟩ | ⟨h1, h2, b, h3, h4, h6, h7⟩
  · exact Or.inl ⟨(q _ _ (by omega) (by omega) (by omega) (by omega) (by omega) (by omega) (by omega) (by omega)).trans h1, (q _ _ (by omega) (by omega) (by omega) (by omega) (by omega) (by omega) (by omega) (by omega)).trans h2⟩
  · exact Or.inr ⟨(q _ _ (by omega) (by omega) (by omega) (by omega) (by omega) (by omega) (by omega) (by omega)).trans h1, (q _ _ (by omega) (by omega) (by omega) (by omega) (by omega) (by omega) (by omega) (by omega)).trans h2, b, cC_fr h3 (fun p j q1 q2 => q p j (by omega) (by omega) (by omega) (by omega) (by omega) (by omega) (by omega) (by omega)) hR, fun k hk => (q _ _ (by omega) (by omega) (by omega) (by omega) (by omega) (by omega) (by omega) (by omega)).trans (h4 k hk), Gd_mono h6 hr (Nat.le_refl _), h7⟩
/-- the orders that there were -/
theorem oF_M (h : MRu T N ru f) (r6 : ru < 6) (hn : ∀ r, r < ru → N r ≤ 100) (hF : oF ru f g) : MRu T N ru g := fun r hr => by
  have n1 := hn r hr
  refine ⟨(hF _ _ (by omega) (by omega) (by omega) (by omega) (by omega) (by omega) (by omega) (by omega)).trans (h r hr).1, fun k hk => (hF _ _ (by omega) (by omega) (by omega) (by omega) (by omega) (by omega) (by omega) (by omega)).trans ((h r hr).2 k hk)⟩
theorem oF_C (h : CRu T N ru f) (r6 : ru < 6) (hF : oF ru f g) : CRu T N ru g := by
  refine ⟨⟨(hF _ _ (by omega) (by omega) (by omega) (by omega) (by omega) (by omega) (by omega) (by omega)).trans h.1.1, (hF _ _ (by omega) (by omega) (by omega) (by omega) (by omega) (by omega) (by omega) (by omega)).trans h.1.2⟩, fun r hr => ?_⟩
  obtain ⟨q1, q2⟩ := h.2 r hr
  have e := hp_s r
  exact ⟨⟨(hF _ _ (by omega) (by omega) (by omega) (by omega) (by omega) (by omega) (by omega) (by omega)).trans q1.1, fun k hk => ⟨(hF _ _ (by omega) (by omega) (by omega) (by omega) (by omega) (by omega) (by omega) (by omega)).trans (q1.2 k hk).1, (hF _ _ (by omega) (by omega) (by omega) (by omega) (by omega) (by omega) (by omega) (by omega)).trans (q1.2 k hk).2⟩⟩, (hF _ _ (by omega) (by omega) (by omega) (by omega) (by omega) (by omega) (by omega) (by omega)).trans q2⟩
theorem Iv_oN (hE : Re ru T N f l R) (r6 : ru < 6) (hc : cC 41 a f R) (hG : Gd a ru 9999) (hR : GR a) (hF : oF ru f g) (h138 : ∀ k, g 138 k = nI (a k)) (h10 : g 16 10 = nI ru) (h8 : g 137 8 = nI ru) (h19 : g 19 1 = nI 0) (h5 : g 137 5 = nI 0) (hR1 : R' 41 = R 41) (hR2 : R' 85 = R 85) : Iv g l R' := by
  obtain ⟨c1, c2, c3, c4, c5⟩ := id hE.2.1
  exact Iv_oX hE r6 hF ⟨a, cC_fr hc (fun p j q1 q2 => hF p j (by omega) (by omega) (by omega) (by omega) (by omega) (by omega) (by omega) (by omega)) hR1, h138, hG, hR⟩ ⟨c1, oF_M c2 r6 (fun r hr => (c1.2 r hr).1.1) hF, oF_C c3 r6 hF, h10, h8⟩ (Nat.le_refl _) h19 h5 hR2
theorem cC_70 {x : Nat} (h : cC 41 a f R) (hR1 : R' 41 = hp x) : cC 41 (us a 70 x) f R' := by
  obtain ⟨h1, h2, h3, h4⟩ := h
  have e : ∀ q, ¬ q = 70 → us a 70 x q = a q := fun q hq => us_ne hq
  refine ⟨?_, h2, by rw [hR1, us_eq], fun k hk => ?_⟩
  · unfold hz
    rw [e 68 (by decide), e 71 (by decide), e 87 (by decide), e 104 (by decide)]
    exact h1
  · have hk7 : ¬ k = 70 := by
      obtain ⟨z1, -⟩ := h1
      intro q
      subst q
      unfold vd at hk
      rw [e 68 (by decide), e 71 (by decide), e 87 (by decide), e 104 (by decide)] at hk
      omega
    have hv : vd a k := by
      unfold vd at hk ⊢
      rw [e 68 (by decide), e 71 (by decide), e 87 (by decide), e 104 (by decide)] at hk
      exact hk
    rw [e k hk7]
    exact h4 k hv
theorem Iv_oY (hE : Re ru T N f l R) (r6 : ru < 6) (hc : cC 41 a f R) (hG : Gd a ru 9999) (hR : GR a) (hF : oF ru f g) (h138 : ∀ k, g 138 k = nI (us a 70 (ru + 1) k)) (h10 : g 16 10 = nI (ru + 1)) (h8 : g 137 8 = nI (ru + 1)) (h19 : g 19 1 = nI 0) (h5 : g 137 5 = nI 0) (hR1 : R' 41 = hp (ru + 1)) (hR2 : R' 85 = R 85)
    (ht : tOk tx tn) (hok : (pA tx tn).1 = true) (hO : OP g (hp (ru + 1)) (pA tx tn).2.2.1) (hH : g (hp (ru + 1)) 3 = nI (pA tx tn).2.2.2.1) (hz : g 143 ru = nI tn) (h142 : ∀ k, k < tn → g 142 (100 * ru + k) = nI (tx k)) : Iv g l R' := by
  obtain ⟨c1, c2, c3, c4, c5⟩ := id hE.2.1
  have m2 := oF_M c2 r6 (fun r hr => (c1.2 r hr).1.1) hF
  have m3 := oF_C c3 r6 hF
  have eT : ∀ r, r < ru → (if r = ru then tx else T r) = T r := fun r hr => if_neg (by omega)
  have eN : ∀ r, r < ru → (if r = ru then tn else N r) = N r := fun r hr => if_neg (by omega)
  have eTu : (if ru = ru then tx else T ru) = tx := if_pos rfl
  have eNu : (if ru = ru then tn else N ru) = tn := if_pos rfl
  refine Iv_oX (T' := fun r => if r = ru then tx else T r) (N' := fun r => if r = ru then tn else N r) (ru' := ru + 1) hE r6 hF ⟨us a 70 (ru + 1), cC_70 (cC_fr (R' := R) hc (fun p j q1 q2 => hF p j (by omega) (by omega) (by omega) (by omega) (by omega) (by omega) (by omega) (by omega)) rfl) hR1, h138, Gd_us (Gd_mono hG (Nat.le_succ _) (Nat.le_refl _)) (by show ru + 1 < ru + 1 + 1; omega), GR_us hR (Or.inr (Or.inr rfl))⟩ ⟨⟨by omega, fun r hr => ?_⟩, fun r hr => ?_, ⟨m3.1, fun r hr => ?_⟩, h10, h8⟩ (Nat.le_succ _) h19 h5 hR2
  · by_cases e : r = ru
    · subst e
      show tOk (if r = r then tx else T r) (if r = r then tn else N r) ∧ (pA (if r = r then tx else T r) (if r = r then tn else N r)).1 = true
      rw [eTu, eNu]
      exact ⟨ht, hok⟩
    · show tOk (if r = ru then tx else T r) (if r = ru then tn else N r) ∧ (pA (if r = ru then tx else T r) (if r = ru then tn else N r)).1 = true
      rw [eT r (by omega), eN r (by omega)]
      exact c1.2 r (by omega)
  · by_cases e : r = ru
    · subst e
      show g 143 r = nI (if r = r then tn else N r) ∧ ∀ k, k < (if r = r then tn else N r) → g 142 (100 * r + k) = nI ((if r = r then tx else T r) k)
      rw [eTu, eNu]
      exact ⟨hz, h142⟩
    · show g 143 r = nI (if r = ru then tn else N r) ∧ ∀ k, k < (if r = ru then tn else N r) → g 142 (100 * r + k) = nI ((if r = ru then tx else T r) k)
      rw [eT r (by omega), eN r (by omega)]
      exact m2 r (by omega)
  · by_cases e : r = ru
    · subst e
      show OP g (hp (r + 1)) (pA (if r = r then tx else T r) (if r = r then tn else N r)).2.2.1 ∧ g (hp (r + 1)) 3 = nI (pA (if r = r then tx else T r) (if r = r then tn else N r)).2.2.2.1
      rw [eTu, eNu]
      exact ⟨hO, hH⟩
    · show OP g (hp (r + 1)) (pA (if r = ru then tx else T r) (if r = ru then tn else N r)).2.2.1 ∧ g (hp (r + 1)) 3 = nI (pA (if r = ru then tx else T r) (if r = ru then tn else N r)).2.2.2.1
      rw [eT r (by omega), eN r (by omega)]
      exact m3.2 r (by omega)
end
theorem op_order : OpI (fn_Ls_order 16) (fn_Mo_order 137) := by
  intro f l R h
  obtain ⟨ru, T, N, ⟨a, hc, hA, hG, hR⟩, hE⟩ := id h
  obtain ⟨c0, c1, c2, c3, c4, c5, c6, c7, c8⟩ := hbC
  obtain ⟨u0, u1, u2, u3, u4, u5, u6, u7, u8, u9, u10, u11, u12, u13, u14, u15, u16, u17, u18, u19, u20, u21, u22, u23, u24, u25, u26, u27, u28, u29, u30⟩ := hbB
  obtain ⟨z6, z7, z8, z9⟩ := id hc.1
  have gA := Gd_all hG
  obtain ⟨tx, tn, t1, t3, t4, t5, t6⟩ := hE.2.2.1
  obtain ⟨hT, hMR, hCR, h10, h8⟩ := id hE.2.1
  have r6 := hT.1
  have tn100 := t1.1
  by_cases hf : ru = 6
  · rw [hf] at h10 h8
    refine op_same (r := -nI 4) h ?_ ?_
    · simp (disch := omega) only [wbr_T, wbr_F, wgd_T, wbq, wbv, wnm, zI_mk, zL_mk, uI_mk, uL_mk, kI_mk, kL_mk, nI_add, nI_mul, nI_sub, nI_div, nI_clamp, wgB, wgP, nI_leI, nI_ltI, nI_eq, nI_eqm, nI_eqm5, wdT, wdF, wd1, wd0, li_0, li_1, li_2, li_3, li_4, li_5, li_6, li_7, li_8, li_9, li_10, li_11, li_12, li_13, li_14, li_15, li_16, li_17, li_18, li_19, li_20, li_21, li_22, li_23, li_24, li_25, li_26, li_27, li_28, li_29, li_30, li_31, li_32, li_33, li_38, li_40, li_41, li_48, li_57, li_58, li_59, li_60, li_61, li_62, li_63, li_68, li_69, li_70, li_71, li_72, li_73, li_74, li_75, li_83, li_87, li_88, li_89, li_99, li_100, li_104, li_105, li_106, li_107, li_108, li_109, li_110, li_111, li_112, li_113, li_114, li_115, li_116, li_117, li_118, li_119, li_120, li_121, li_124, li_127, li_128, li_200, li_4095, li_4096, li_9999, c0, c1, c2, c3, c4, c5, c6, c7, c8, u0, u1, u2, u3, u4, u5, u6, u7, u8, u9, u10, u11, u12, u13, u14, u15, u16, u17, u18, u19, u20, u21, u22, u23, u24, u25, u26, u27, u28, u29, u30, fn_Ls_order, h10]
    · simp (disch := omega) only [wbr_T, wbr_F, wgd_T, wbq, wbv, wnm, zI_mk, zL_mk, uI_mk, uL_mk, kI_mk, kL_mk, nI_add, nI_mul, nI_sub, nI_div, nI_clamp, wgB, wgP, nI_leI, nI_ltI, nI_eq, nI_eqm, nI_eqm5, wdT, wdF, wd1, wd0, li_0, li_1, li_2, li_3, li_4, li_5, li_6, li_7, li_8, li_9, li_10, li_11, li_12, li_13, li_14, li_15, li_16, li_17, li_18, li_19, li_20, li_21, li_22, li_23, li_24, li_25, li_26, li_27, li_28, li_29, li_30, li_31, li_32, li_33, li_38, li_40, li_41, li_48, li_57, li_58, li_59, li_60, li_61, li_62, li_63, li_68, li_69, li_70, li_71, li_72, li_73, li_74, li_75, li_83, li_87, li_88, li_89, li_99, li_100, li_104, li_105, li_106, li_107, li_108, li_109, li_110, li_111, li_112, li_113, li_114, li_115, li_116, li_117, li_118, li_119, li_120, li_121, li_124, li_127, li_128, li_200, li_4095, li_4096, li_9999, gT_mk_137, zT_mk_137, zR_mk_137_0, zR_mk_137_1, zR_mk_137_2, zR_mk_137_4, zR_mk_137_6, zR_mk_137_7, zR_mk_137_9, zR_mk_137_16, zR_mk_137_17, zR_mk_137_18, zR_mk_137_19, zR_mk_137_20, zR_mk_137_22, zR_mk_137_24, zR_mk_137_25, zR_mk_137_26, zR_mk_137_28, zR_mk_137_29, zR_mk_137_30, zR_mk_137_31, gT_mk_138, zT_mk_138, gT_mk_139, zT_mk_139, gT_mk_140, zT_mk_140, gT_mk_141, zT_mk_141, gT_mk_142, zT_mk_142, gT_mk_143, zT_mk_143, gT_mk_144, zT_mk_144, gT_mk_145, zT_mk_145, gT_mk_146, zT_mk_146, gT_mk_147, zT_mk_147, gT_mk_148, zT_mk_148, gT_mk_149, zT_mk_149, gT_mk_150, zT_mk_150, gT_mk_151, zT_mk_151, gT_mk_152, zT_mk_152, gT_mk_153, zT_mk_153, gT_mk_154, zT_mk_154, gT_mk_155, zT_mk_155, gT_mk_156, zT_mk_156, gT_mk_157, zT_mk_157, fn_Mo_order, h8]
  · have r5 : ru < 6 := by omega
    have hS := hp_s ru
    have hw : wKs f l (ur R 19 (hp (ru + 1))) := JG_w (Re_JG hE)
    obtain ⟨f1, e1, p1, o1, fr1⟩ := c_reads (l := l) (R := R) (r := ru + 1) t1 (Nat.succ_pos _) (by omega) hw t3 t4
    have z17 : zR (mk f l R) 17 ru = hp (ru + 1) := i6 (P := fun i => zR (mk f l R) 17 i = hp (i + 1)) r5 rfl rfl rfl rfl rfl rfl
    have fr1' : ∀ p j, ¬ (107 + 3 * ru ≤ p ∧ p ≤ 109 + 3 * ru) → ¬ (p = 19 ∧ 2 ≤ j ∧ j ≤ 3) → f1 p j = f p j := fun p j q1 q2 => fr1 p j (by omega) (by omega) (by omega) (fun e => by omega)
    have at1 := p1.2.1
    -- the model reads what the class left
    have mod : ∀ (f2 : Nat → Nat → Int32) (R2 : Nat → Nat), (∀ p j, ¬ (107 + 3 * ru ≤ p ∧ p ≤ 109 + 3 * ru) → ¬ (p = 19 ∧ 1 ≤ j ∧ j ≤ 3) → ¬ (p = 16 ∧ j = 10) → f2 p j = f p j) →
        ∃ g3, (∀ j, j < tn → g3 144 j = nI (tx j)) ∧ g3 137 10 = nI tn ∧ g3 137 5 = nI 0 ∧ g3 137 11 = nI (pA tx tn).2.1 ∧ (∀ p j, ¬ (p = 137 ∧ (j = 5 ∨ 10 ≤ j ∧ j ≤ 15)) → ¬ p = 144 → g3 p j = f2 p j)
          ∧ fn_Mo_order 137 (mk f2 l R2) = br (decide (nI (vb (pA tx tn).1) = nI 0)) (some (-nI 10 - nI (pA tx tn).2.1, mk g3 l R2)) (lp (σ := Nat × Int32 × zS) (fun k s => fn_Mo_order_L70 s.1 s.2.1 s.2.2 (fun (a0 : Nat) (a1 : Int32) (S : zS) => k (a0, a1, S))) FU (137, nI 0, mk g3 l R2)) := by
      intro f2 R2 fr2
      have q8 : f2 137 8 = nI ru := (fr2 137 8 (by omega) (by omega) (by omega)).trans h8
      have q5 : f2 137 5 = nI tn := (fr2 137 5 (by omega) (by omega) (by omega)).trans t5
      obtain ⟨g1, K, e2, y1, x1⟩ := m_oc1 (l := l) (R := R2) (t := tx) tn100 tn 0 FU (up f2 137 10 (nI tn)) (Nat.zero_add _) (by show _ < 5000; omega) up_eq (fun j hj => by
        rw [up_np (by decide), fr2 141 j (by omega) (by omega) (by omega)]
        exact t6 j hj) (fun j hj => absurd hj (Nat.not_lt_zero _))
      have z1 : g1 137 10 = nI tn := (x1 137 10 (by decide)).trans up_eq
      have hJG := (Re_JG hE).2.2.2.1
      have k1 : mK (fun j => dn (up g1 137 5 (nI 0) 145 j)) (up g1 137 5 (nI 0)) := by
        refine ⟨fun j hj => ?_, fun j hj => ?_, fun j hj => ⟨(nI_dn _).symm, dn_lt _⟩⟩
        · rw [up_np (by decide), x1 146 j (by decide), up_np (by decide), fr2 146 j (by omega) (by omega) (by omega)]
          exact hJG.1 j hj
        · rw [up_np (by decide), x1 147 j (by decide), up_np (by decide), fr2 147 j (by omega) (by omega) (by omega)]
          exact hJG.2 j hj
      obtain ⟨g2, e3, s3, a3, -⟩ := m_readAll (l := l) (R := R2) t1 k1 ((up_nj (by decide)).trans z1) (fun j hj => (up_np (by decide)).trans (y1 j hj))
      have x3 : ∀ p j, ¬ (p = 137 ∧ (j = 5 ∨ 11 ≤ j ∧ j ≤ 15)) → g2 p j = g1 p j := fun p j q => by
        rw [s3 p j (by omega)]
        by_cases e : p = 137
        · subst e
          exact up_nj (by omega)
        · exact up_np e
      refine ⟨g2, fun j hj => (x3 144 j (by omega)).trans (y1 j hj), (x3 137 10 (by omega)).trans z1, (s3 137 5 (by omega)).trans up_eq, a3, fun p j q1 q2 => ?_, ?_⟩
      · rw [x3 p j (by omega), x1 p j q2]
        by_cases e : p = 137
        · subst e
          exact up_nj (by omega)
        · exact up_np e
      · have st : fn_Mo_order 137 (mk f2 l R2) = lp (σ := Nat × Int32 × zS) (fun k s => fn_Mo_order_L22 s.1 s.2.1 s.2.2 (fun (a0 : Nat) (a1 : Int32) (S : zS) => k (a0, a1, S))) FU (137, nI 0, mk (up f2 137 10 (nI tn)) l R2) := by
          simp (disch := omega) only [wbr_T, wbr_F, wgd_T, wbq, wbv, wnm, zI_mk, zL_mk, uI_mk, uL_mk, kI_mk, kL_mk, nI_add, nI_mul, nI_sub, nI_div, nI_clamp, wgB, wgP, nI_leI, nI_ltI, nI_eq, nI_eqm, nI_eqm5, wdT, wdF, wd1, wd0, li_0, li_1, li_2, li_3, li_4, li_5, li_6, li_7, li_8, li_9, li_10, li_11, li_12, li_13, li_14, li_15, li_16, li_17, li_18, li_19, li_20, li_21, li_22, li_23, li_24, li_25, li_26, li_27, li_28, li_29, li_30, li_31, li_32, li_33, li_38, li_40, li_41, li_48, li_57, li_58, li_59, li_60, li_61, li_62, li_63, li_68, li_69, li_70, li_71, li_72, li_73, li_74, li_75, li_83, li_87, li_88, li_89, li_99, li_100, li_104, li_105, li_106, li_107, li_108, li_109, li_110, li_111, li_112, li_113, li_114, li_115, li_116, li_117, li_118, li_119, li_120, li_121, li_124, li_127, li_128, li_200, li_4095, li_4096, li_9999, gT_mk_137, zT_mk_137, zR_mk_137_0, zR_mk_137_1, zR_mk_137_2, zR_mk_137_4, zR_mk_137_6, zR_mk_137_7, zR_mk_137_9, zR_mk_137_16, zR_mk_137_17, zR_mk_137_18, zR_mk_137_19, zR_mk_137_20, zR_mk_137_22, zR_mk_137_24, zR_mk_137_25, zR_mk_137_26, zR_mk_137_28, zR_mk_137_29, zR_mk_137_30, zR_mk_137_31, gT_mk_138, zT_mk_138, gT_mk_139, zT_mk_139, gT_mk_140, zT_mk_140, gT_mk_141, zT_mk_141, gT_mk_142, zT_mk_142, gT_mk_143, zT_mk_143, gT_mk_144, zT_mk_144, gT_mk_145, zT_mk_145, gT_mk_146, zT_mk_146, gT_mk_147, zT_mk_147, gT_mk_148, zT_mk_148, gT_mk_149, zT_mk_149, gT_mk_150, zT_mk_150, gT_mk_151, zT_mk_151, gT_mk_152, zT_mk_152, gT_mk_153, zT_mk_153, gT_mk_154, zT_mk_154, gT_mk_155, zT_mk_155, gT_mk_156, zT_mk_156, gT_mk_157, zT_mk_157, fn_Mo_order, q8, q5]
        rw [st, e2]
        cases hb : (pA tx tn).1 with
        | false =>
          rw [hb, vb_F] at e3
          rw [vb_F]
          simp (disch := omega) only [wbr_T, wbr_F, wgd_T, wbq, wbv, wnm, zI_mk, zL_mk, uI_mk, uL_mk, kI_mk, kL_mk, nI_add, nI_mul, nI_sub, nI_div, nI_clamp, wgB, wgP, nI_leI, nI_ltI, nI_eq, nI_eqm, nI_eqm5, wdT, wdF, wd1, wd0, li_0, li_1, li_2, li_3, li_4, li_5, li_6, li_7, li_8, li_9, li_10, li_11, li_12, li_13, li_14, li_15, li_16, li_17, li_18, li_19, li_20, li_21, li_22, li_23, li_24, li_25, li_26, li_27, li_28, li_29, li_30, li_31, li_32, li_33, li_38, li_40, li_41, li_48, li_57, li_58, li_59, li_60, li_61, li_62, li_63, li_68, li_69, li_70, li_71, li_72, li_73, li_74, li_75, li_83, li_87, li_88, li_89, li_99, li_100, li_104, li_105, li_106, li_107, li_108, li_109, li_110, li_111, li_112, li_113, li_114, li_115, li_116, li_117, li_118, li_119, li_120, li_121, li_124, li_127, li_128, li_200, li_4095, li_4096, li_9999, gT_mk_137, zT_mk_137, zR_mk_137_0, zR_mk_137_1, zR_mk_137_2, zR_mk_137_4, zR_mk_137_6, zR_mk_137_7, zR_mk_137_9, zR_mk_137_16, zR_mk_137_17, zR_mk_137_18, zR_mk_137_19, zR_mk_137_20, zR_mk_137_22, zR_mk_137_24, zR_mk_137_25, zR_mk_137_26, zR_mk_137_28, zR_mk_137_29, zR_mk_137_30, zR_mk_137_31, gT_mk_138, zT_mk_138, gT_mk_139, zT_mk_139, gT_mk_140, zT_mk_140, gT_mk_141, zT_mk_141, gT_mk_142, zT_mk_142, gT_mk_143, zT_mk_143, gT_mk_144, zT_mk_144, gT_mk_145, zT_mk_145, gT_mk_146, zT_mk_146, gT_mk_147, zT_mk_147, gT_mk_148, zT_mk_148, gT_mk_149, zT_mk_149, gT_mk_150, zT_mk_150, gT_mk_151, zT_mk_151, gT_mk_152, zT_mk_152, gT_mk_153, zT_mk_153, gT_mk_154, zT_mk_154, gT_mk_155, zT_mk_155, gT_mk_156, zT_mk_156, gT_mk_157, zT_mk_157, fn_Mo_order_L22, z1, e3, a3]
        | true =>
          rw [hb, vb_T] at e3
          rw [vb_T]
          have st2 : ∀ K : Nat → Int32 → zS → Option (Int32 × zS), fn_Mo_order_L22 137 (nI tn) (mk g1 l R2) K = lp (σ := Nat × Int32 × zS) (fun k s => fn_Mo_order_L70 s.1 s.2.1 s.2.2 (fun (a0 : Nat) (a1 : Int32) (S : zS) => k (a0, a1, S))) FU (137, nI 0, mk g2 l R2) := fun K => by
            simp (disch := omega) only [wbr_T, wbr_F, wgd_T, wbq, wbv, wnm, zI_mk, zL_mk, uI_mk, uL_mk, kI_mk, kL_mk, nI_add, nI_mul, nI_sub, nI_div, nI_clamp, wgB, wgP, nI_leI, nI_ltI, nI_eq, nI_eqm, nI_eqm5, wdT, wdF, wd1, wd0, li_0, li_1, li_2, li_3, li_4, li_5, li_6, li_7, li_8, li_9, li_10, li_11, li_12, li_13, li_14, li_15, li_16, li_17, li_18, li_19, li_20, li_21, li_22, li_23, li_24, li_25, li_26, li_27, li_28, li_29, li_30, li_31, li_32, li_33, li_38, li_40, li_41, li_48, li_57, li_58, li_59, li_60, li_61, li_62, li_63, li_68, li_69, li_70, li_71, li_72, li_73, li_74, li_75, li_83, li_87, li_88, li_89, li_99, li_100, li_104, li_105, li_106, li_107, li_108, li_109, li_110, li_111, li_112, li_113, li_114, li_115, li_116, li_117, li_118, li_119, li_120, li_121, li_124, li_127, li_128, li_200, li_4095, li_4096, li_9999, gT_mk_137, zT_mk_137, zR_mk_137_0, zR_mk_137_1, zR_mk_137_2, zR_mk_137_4, zR_mk_137_6, zR_mk_137_7, zR_mk_137_9, zR_mk_137_16, zR_mk_137_17, zR_mk_137_18, zR_mk_137_19, zR_mk_137_20, zR_mk_137_22, zR_mk_137_24, zR_mk_137_25, zR_mk_137_26, zR_mk_137_28, zR_mk_137_29, zR_mk_137_30, zR_mk_137_31, gT_mk_138, zT_mk_138, gT_mk_139, zT_mk_139, gT_mk_140, zT_mk_140, gT_mk_141, zT_mk_141, gT_mk_142, zT_mk_142, gT_mk_143, zT_mk_143, gT_mk_144, zT_mk_144, gT_mk_145, zT_mk_145, gT_mk_146, zT_mk_146, gT_mk_147, zT_mk_147, gT_mk_148, zT_mk_148, gT_mk_149, zT_mk_149, gT_mk_150, zT_mk_150, gT_mk_151, zT_mk_151, gT_mk_152, zT_mk_152, gT_mk_153, zT_mk_153, gT_mk_154, zT_mk_154, gT_mk_155, zT_mk_155, gT_mk_156, zT_mk_156, gT_mk_157, zT_mk_157, fn_Mo_order_L22, z1, e3]
          rw [st2]
          rfl
    cases hb : (pA tx tn).1 with
    | false =>
      rw [hb, vb_F] at e1
      have fr2 : ∀ p j, ¬ (107 + 3 * ru ≤ p ∧ p ≤ 109 + 3 * ru) → ¬ (p = 19 ∧ 1 ≤ j ∧ j ≤ 3) → ¬ (p = 16 ∧ j = 10) → up f1 19 1 (nI 0) p j = f p j := fun p j q1 q2 q3 => by
        rw [← fr1' p j q1 (by omega)]
        by_cases e : p = 19
        · subst e
          exact up_nj (by omega)
        · exact up_np e
      obtain ⟨g3, y1, y2, y3, y4, y5, y6⟩ := mod (up f1 19 1 (nI 0)) (ur R 19 (hp (ru + 1))) fr2
      rw [hb, vb_F] at y6
      refine ⟨-nI 10 - nI (pA tx tn).2.1, up f1 19 1 (nI 0), l, ur R 19 (hp (ru + 1)), g3, l, ?_, y6, Iv_oN hE r5 hc hG hR (fun p j q1 q2 q3 q4 q5 q6 q7 q8 => ?_) (fun k => ?_) ?_ ?_ ?_ y3 rfl rfl⟩
      · simp (disch := omega) only [wbr_T, wbr_F, wgd_T, wbq, wbv, wnm, zI_mk, zL_mk, uI_mk, uL_mk, kI_mk, kL_mk, nI_add, nI_mul, nI_sub, nI_div, nI_clamp, wgB, wgP, nI_leI, nI_ltI, nI_eq, nI_eqm, nI_eqm5, wdT, wdF, wd1, wd0, li_0, li_1, li_2, li_3, li_4, li_5, li_6, li_7, li_8, li_9, li_10, li_11, li_12, li_13, li_14, li_15, li_16, li_17, li_18, li_19, li_20, li_21, li_22, li_23, li_24, li_25, li_26, li_27, li_28, li_29, li_30, li_31, li_32, li_33, li_38, li_40, li_41, li_48, li_57, li_58, li_59, li_60, li_61, li_62, li_63, li_68, li_69, li_70, li_71, li_72, li_73, li_74, li_75, li_83, li_87, li_88, li_89, li_99, li_100, li_104, li_105, li_106, li_107, li_108, li_109, li_110, li_111, li_112, li_113, li_114, li_115, li_116, li_117, li_118, li_119, li_120, li_121, li_124, li_127, li_128, li_200, li_4095, li_4096, li_9999, c0, c1, c2, c3, c4, c5, c6, c7, c8, u0, u1, u2, u3, u4, u5, u6, u7, u8, u9, u10, u11, u12, u13, u14, u15, u16, u17, u18, u19, u20, u21, u22, u23, u24, u25, u26, u27, u28, u29, u30, fn_Ls_order, h10, z17, e1, at1, up_nj, zR_mk_16_0, gT_mk_17, zT_mk_17, gT_mk_19]
      · rw [y5 p j (by omega) q5]
        exact fr2 p j q1 q2 q3
      · rw [y5 138 k (by omega) (by decide), fr2 138 k (by omega) (by omega) (by omega)]
        exact hA k
      · rw [y5 16 10 (by omega) (by decide), up_np (by decide), fr1' 16 10 (by omega) (by omega)]
        exact h10
      · rw [y5 137 8 (by omega) (by decide), fr2 137 8 (by omega) (by omega) (by omega)]
        exact h8
      · rw [y5 19 1 (by omega) (by decide)]
        exact up_eq
    | true =>
      rw [hb, vb_T] at e1
      obtain ⟨o2, o3⟩ := o1 hb
      have fr2 : ∀ p j, ¬ (107 + 3 * ru ≤ p ∧ p ≤ 109 + 3 * ru) → ¬ (p = 19 ∧ 1 ≤ j ∧ j ≤ 3) → ¬ (p = 16 ∧ j = 10) → up (up f1 19 1 (nI 0)) 16 10 (nI (ru + 1)) p j = f p j := fun p j q1 q2 q3 => by
        rw [← fr1' p j q1 (by omega)]
        by_cases e : p = 19
        · subst e
          rw [up_np (by decide)]
          exact up_nj (by omega)
        · by_cases e2 : p = 16
          · subst e2
            rw [up_nj (by omega)]
            exact up_np (by decide)
          · rw [up_np e2, up_np e]
      obtain ⟨g3, y1, y2, y3, y4, y5, y6⟩ := mod (up (up f1 19 1 (nI 0)) 16 10 (nI (ru + 1))) (ur (ur R 19 (hp (ru + 1))) 41 (hp (ru + 1))) fr2
      rw [hb, vb_T] at y6
      have z8 : g3 137 8 = nI ru := by
        rw [y5 137 8 (by omega) (by decide), fr2 137 8 (by omega) (by omega) (by omega)]
        exact h8
      obtain ⟨g4, K, e4, y7, x4⟩ := m_oc2 (l := l) (R := ur (ur R 19 (hp (ru + 1))) 41 (hp (ru + 1))) (t := tx) tn100 r5 tn 0 FU g3 (Nat.zero_add _) (by show _ < 5000; omega) y2 z8 y1 (fun j hj => absurd hj (Nat.not_lt_zero _))
      have w10 : g4 137 10 = nI tn := (x4 137 10 (by omega)).trans y2
      have w8 : g4 137 8 = nI ru := (x4 137 8 (by omega)).trans z8
      have w41 : ∀ (f : Nat → Nat → Int32) (R : Nat → Nat) (x : Nat), uR (mk f l R) 41 8 x = mk f l (ur R 41 x) := fun f R x => uR_mk_41 f l R x
      have b10 : f1 16 10 = nI ru := (fr1' 16 10 (by omega) (by omega)).trans h10
      -- what there is of the class's in the end
      have fin : ∀ p j, ¬ (p = 143 ∧ j = ru) → ¬ (p = 137 ∧ (j = 5 ∨ j = 8 ∨ 10 ≤ j ∧ j ≤ 15)) → ¬ (p = 138 ∧ j = 70) → ¬ p = 144 → ¬ (p = 142 ∧ 100 * ru ≤ j) → up (up (up g4 143 ru (nI tn)) 137 8 (nI (ru + 1))) 138 70 (nI (ru + 1)) p j = up (up f1 19 1 (nI 0)) 16 10 (nI (ru + 1)) p j := fun p j q1 q2 q3 q4 q5 => by
        rw [← y5 p j (by omega) q4, ← x4 p j q5]
        by_cases e1 : p = 138
        · subst e1
          rw [up_nj (by omega), up_np (by decide), up_np (by decide)]
        · rw [up_np e1]
          by_cases e2 : p = 137
          · subst e2
            rw [up_nj (by omega), up_np (by decide)]
          · rw [up_np e2]
            by_cases e3 : p = 143
            · subst e3
              exact up_nj (by omega)
            · exact up_np e3
      refine ⟨nI ru, up (up f1 19 1 (nI 0)) 16 10 (nI (ru + 1)), l, ur (ur R 19 (hp (ru + 1))) 41 (hp (ru + 1)), up (up (up g4 143 ru (nI tn)) 137 8 (nI (ru + 1))) 138 70 (nI (ru + 1)), l, ?_, ?_, Iv_oY (tx := tx) (tn := tn) hE r5 hc hG hR (fun p j q1 q2 q3 q4 q5 q6 q7 q8 => ?_) (fun k => ?_) ?_ ?_ ?_ ?_ rfl rfl t1 hb ⟨?_, fun k hk => ⟨?_, ?_⟩⟩ ?_ ?_ (fun k hk => ?_)⟩
      · simp (disch := omega) only [wbr_T, wbr_F, wgd_T, wbq, wbv, wnm, zI_mk, zL_mk, uI_mk, uL_mk, kI_mk, kL_mk, nI_add, nI_mul, nI_sub, nI_div, nI_clamp, wgB, wgP, nI_leI, nI_ltI, nI_eq, nI_eqm, nI_eqm5, wdT, wdF, wd1, wd0, li_0, li_1, li_2, li_3, li_4, li_5, li_6, li_7, li_8, li_9, li_10, li_11, li_12, li_13, li_14, li_15, li_16, li_17, li_18, li_19, li_20, li_21, li_22, li_23, li_24, li_25, li_26, li_27, li_28, li_29, li_30, li_31, li_32, li_33, li_38, li_40, li_41, li_48, li_57, li_58, li_59, li_60, li_61, li_62, li_63, li_68, li_69, li_70, li_71, li_72, li_73, li_74, li_75, li_83, li_87, li_88, li_89, li_99, li_100, li_104, li_105, li_106, li_107, li_108, li_109, li_110, li_111, li_112, li_113, li_114, li_115, li_116, li_117, li_118, li_119, li_120, li_121, li_124, li_127, li_128, li_200, li_4095, li_4096, li_9999, c0, c1, c2, c3, c4, c5, c6, c7, c8, u0, u1, u2, u3, u4, u5, u6, u7, u8, u9, u10, u11, u12, u13, u14, u15, u16, u17, u18, u19, u20, u21, u22, u23, u24, u25, u26, u27, u28, u29, u30, fn_Ls_order, h10, z17, e1, b10, w41, up_np, up_nj, up_eq, zR_mk_16_0, gT_mk_17, zT_mk_17, gT_mk_19]
      · rw [y6]
        have st3 : ∀ K : Nat → Int32 → zS → Option (Int32 × zS), fn_Mo_order_L70 137 (nI tn) (mk g4 l (ur (ur R 19 (hp (ru + 1))) 41 (hp (ru + 1)))) K = some (nI ru, mk (up (up (up g4 143 ru (nI tn)) 137 8 (nI (ru + 1))) 138 70 (nI (ru + 1))) l (ur (ur R 19 (hp (ru + 1))) 41 (hp (ru + 1)))) := fun K => by
          simp (disch := omega) only [wbr_T, wbr_F, wgd_T, wbq, wbv, wnm, zI_mk, zL_mk, uI_mk, uL_mk, kI_mk, kL_mk, nI_add, nI_mul, nI_sub, nI_div, nI_clamp, wgB, wgP, nI_leI, nI_ltI, nI_eq, nI_eqm, nI_eqm5, wdT, wdF, wd1, wd0, li_0, li_1, li_2, li_3, li_4, li_5, li_6, li_7, li_8, li_9, li_10, li_11, li_12, li_13, li_14, li_15, li_16, li_17, li_18, li_19, li_20, li_21, li_22, li_23, li_24, li_25, li_26, li_27, li_28, li_29, li_30, li_31, li_32, li_33, li_38, li_40, li_41, li_48, li_57, li_58, li_59, li_60, li_61, li_62, li_63, li_68, li_69, li_70, li_71, li_72, li_73, li_74, li_75, li_83, li_87, li_88, li_89, li_99, li_100, li_104, li_105, li_106, li_107, li_108, li_109, li_110, li_111, li_112, li_113, li_114, li_115, li_116, li_117, li_118, li_119, li_120, li_121, li_124, li_127, li_128, li_200, li_4095, li_4096, li_9999, gT_mk_137, zT_mk_137, zR_mk_137_0, zR_mk_137_1, zR_mk_137_2, zR_mk_137_4, zR_mk_137_6, zR_mk_137_7, zR_mk_137_9, zR_mk_137_16, zR_mk_137_17, zR_mk_137_18, zR_mk_137_19, zR_mk_137_20, zR_mk_137_22, zR_mk_137_24, zR_mk_137_25, zR_mk_137_26, zR_mk_137_28, zR_mk_137_29, zR_mk_137_30, zR_mk_137_31, gT_mk_138, zT_mk_138, gT_mk_139, zT_mk_139, gT_mk_140, zT_mk_140, gT_mk_141, zT_mk_141, gT_mk_142, zT_mk_142, gT_mk_143, zT_mk_143, gT_mk_144, zT_mk_144, gT_mk_145, zT_mk_145, gT_mk_146, zT_mk_146, gT_mk_147, zT_mk_147, gT_mk_148, zT_mk_148, gT_mk_149, zT_mk_149, gT_mk_150, zT_mk_150, gT_mk_151, zT_mk_151, gT_mk_152, zT_mk_152, gT_mk_153, zT_mk_153, gT_mk_154, zT_mk_154, gT_mk_155, zT_mk_155, gT_mk_156, zT_mk_156, gT_mk_157, zT_mk_157, fn_Mo_order_L70, w10, w8, up_np, up_eq, Nat.add_sub_cancel]
        exact e4.trans (st3 K)
      · rw [fin p j q7 q4 (by omega) q5 q6]
        exact fr2 p j q1 q2 q3
      · by_cases e : k = 70
        · subst e
          rw [up_eq, us_eq]
        · rw [fin 138 k (by omega) (by omega) (by omega) (by decide) (by omega), fr2 138 k (by omega) (by omega) (by omega), us_ne e]
          exact hA k
      · rw [fin 16 10 (by omega) (by omega) (by omega) (by decide) (by omega)]
        exact up_eq
      · rw [up_np (by decide)]
        exact up_eq
      · rw [fin 19 1 (by omega) (by omega) (by omega) (by decide) (by omega), up_np (by decide)]
        exact up_eq
      · rw [up_np (by decide), up_nj (by decide), up_np (by decide), x4 137 5 (by omega)]
        exact y3
      · rw [fin _ _ (by omega) (by omega) (by omega) (by omega) (by omega), up_np (by omega), up_np (by omega)]
        exact o2.1
      · rw [fin _ _ (by omega) (by omega) (by omega) (by omega) (by omega), up_np (by omega), up_np (by omega)]
        exact (o2.2 k hk).1
      · rw [fin _ _ (by omega) (by omega) (by omega) (by omega) (by omega), up_np (by omega), up_np (by omega)]
        exact (o2.2 k hk).2
      · rw [fin _ _ (by omega) (by omega) (by omega) (by omega) (by omega), up_np (by omega), up_np (by omega)]
        exact o3
      · rw [up_np (by decide), up_np (by decide)]
        exact up_eq
      · rw [up_np (by decide), up_np (by decide), up_np (by decide)]
        exact y7 k hk
