/-! COPIES: of a saint, of rows, of a house; of the model's row -/
theorem wgK {f : Nat → Nat → Int32} {l : Nat → Nat → Int64} {R : Nat → Nat} {t p q x y n P Q : Nat} (h1 : gT (mk f l R) p t = true) (h2 : gT (mk f l R) q t = true) (hp : 16 ≤ p) (hq : 16 ≤ q) (e1 : (zT (mk f l R) p).2 = P) (e2 : (zT (mk f l R) q).2 = Q) (hx : x + n ≤ P) (hy : y + n ≤ Q) (hP : P < 2 ^ 31) (hQ : Q < 2 ^ 31) : gK (mk f l R) t p q (nI x) (nI y) (nI n) = true := by
  unfold gK
  rw [h1, h2, wgP hp, wgP hq, e1, e2, decide_eq_false (nI_pos (show x < 2 ^ 31 by omega)), decide_eq_false (nI_pos (show y < 2 ^ 31 by omega)), decide_eq_false (nI_pos (show n < 2 ^ 31 by omega)), nI_clamp (show x < 2 ^ 31 by omega), nI_clamp (show y < 2 ^ 31 by omega), nI_clamp (show n < 2 ^ 31 by omega), Nat.ble_eq_true_of_le hx, Nat.ble_eq_true_of_le hy]
  rfl
theorem lc_see' : ∀ m, m < 15 → lc (72 + m) = (5, m) := by decide +kernel
theorem lc_pla' : ∀ m, m < 16 → lc (88 + m) = (7, 3 * (m / 2) + m % 2) := by decide +kernel
theorem lc_boo' : ∀ m, m < 16 → lc (105 + m) = (9, 3 * (m / 2) + m % 2) := by decide +kernel
section
variable {f f' : Nat → Nat → Int32} {l : Nat → Nat → Int64} {R : Nat → Nat} {a a' : Nat → Nat} {b b1 i j k x m : Nat}
theorem cC_see (h : cC b a f R) (hm : m < 3 * a 71) : f (b + 5) m = nI (a (72 + m)) := by
  have := h.1.2.1
  have e := h.2.2.2 (72 + m) (Or.inr (Or.inr (Or.inl (by omega))))
  rw [lc_see' m (by omega), vl_60 (by omega)] at e
  exact e
theorem cC_pla (h : cC b a f R) (hm : m < 2 * a 87) : f (b + 7) (3 * (m / 2) + m % 2) = nI (a (88 + m)) := by
  have := h.1.2.2.1
  have e := h.2.2.2 (88 + m) (Or.inr (Or.inr (Or.inr (Or.inl (by omega)))))
  rw [lc_pla' m (by omega), vl_60 (by omega)] at e
  exact e
theorem cC_boo (h : cC b a f R) (hm : m < 2 * a 104) : f (b + 9) (3 * (m / 2) + m % 2) = nI (a (105 + m)) := by
  have := h.1.2.2.2
  have e := h.2.2.2 (105 + m) (Or.inr (Or.inr (Or.inr (Or.inr (by omega)))))
  rw [lc_boo' m (by omega), vl_60 (by omega)] at e
  exact e
theorem cC_nsee (h : cC b a f R) : f (b + 4) 2 = nI (a 71) := h.2.2.2 71 (Or.inr (Or.inr (Or.inl (by omega))))
theorem cC_npla (h : cC b a f R) : f (b + 6) 2 = nI (a 87) := h.2.2.2 87 (Or.inr (Or.inr (Or.inr (Or.inl (by omega)))))
theorem cC_nboo (h : cC b a f R) : f (b + 8) 2 = nI (a 104) := h.2.2.2 104 (Or.inr (Or.inr (Or.inr (Or.inr (by omega)))))
/-- a house, by all that it holds -/
theorem cC_mk (h1 : hz a) (h2 : cN b f) (h3 : R b = hp (a 70)) (h4 : ∀ i, i < a 68 → sP (b + 10 + 2 * i) a i f ∧ f (b + 10 + 2 * i) 6 = nI (a (10 * i + 5)) - nI 1)
    (h5 : ∀ j, j < 4 → f (b + 2) j = nI (a (60 + 2 * j)) ∧ f (b + 3) j = nI (a (61 + 2 * j))) (h6 : f b 6 = nI (a 68)) (h7 : f b 7 = nI (a 69))
    (h8 : f (b + 4) 2 = nI (a 71)) (h9 : ∀ m, m < 3 * a 71 → f (b + 5) m = nI (a (72 + m)))
    (h10 : f (b + 6) 2 = nI (a 87)) (h11 : ∀ m, m < 2 * a 87 → f (b + 7) (3 * (m / 2) + m % 2) = nI (a (88 + m)))
    (h12 : f (b + 8) 2 = nI (a 104)) (h13 : ∀ m, m < 2 * a 104 → f (b + 9) (3 * (m / 2) + m % 2) = nI (a (105 + m))) : cC b a f R := by
  refine ⟨h1, h2, h3, fun k hk => ?_⟩
  obtain ⟨z1, z2, z3, z4⟩ := h1
  rcases hk with hk | hk | hk | hk | hk
  · obtain ⟨i, c, hi, hc, rfl⟩ : ∃ i c, i < a 68 ∧ c < 10 ∧ k = 10 * i + c := ⟨k / 10, k % 10, by omega, by omega, by omega⟩
    obtain ⟨⟨p1, p2, p3, p4, p5, p6, p7⟩, p8⟩ := h4 i hi
    rw [lc_s i (by omega) c hc]
    by_cases c6 : c < 6
    · rw [if_pos c6]
      show f (b + (10 + 2 * i)) _ = _
      rw [← Nat.add_assoc]
      rcases (by omega : c = 0 ∨ c = 1 ∨ c = 2 ∨ c = 3 ∨ c = 4 ∨ c = 5) with rfl | rfl | rfl | rfl | rfl | rfl
      · rw [vl_n (by decide) (by decide)]; exact p2
      · rw [vl_n (by decide) (by decide)]; exact p3
      · rw [vl_n (by decide) (by decide)]; exact p4
      · rw [vl_n (by decide) (by decide)]; exact p5
      · rw [vl_n (by decide) (by decide)]; exact p6
      · rw [vl_5 (by omega)]; exact p8
    · rw [if_neg c6, vl_n hc (by omega)]
      have q := p7 (c - 6) (by omega)
      rw [show 10 * i + 6 + (c - 6) = 10 * i + c by omega, show b + 10 + 2 * i + 1 = b + (11 + 2 * i) by omega] at q
      exact q
  · rcases (by omega : k = 68 ∨ k = 69 ∨ k < 68) with rfl | rfl | h68
    · exact h6
    · exact h7
    · rcases (by omega : k % 2 = 0 ∨ k % 2 = 1) with e | e
      · obtain ⟨j, hj, rfl⟩ : ∃ j, j < 4 ∧ k = 60 + 2 * j := ⟨(k - 60) / 2, by omega, by omega⟩
        rw [(lc_o j hj).1, vl_60 (by omega)]
        exact (h5 j hj).1
      · obtain ⟨j, hj, rfl⟩ : ∃ j, j < 4 ∧ k = 61 + 2 * j := ⟨(k - 60) / 2, by omega, by omega⟩
        rw [(lc_o j hj).2, vl_60 (by omega)]
        exact (h5 j hj).2
  · rcases (by omega : k = 71 ∨ 72 ≤ k) with rfl | h
    · exact h8
    · obtain ⟨m, rfl⟩ : ∃ m, k = 72 + m := ⟨k - 72, by omega⟩
      rw [lc_see' m (by omega), vl_60 (by omega)]
      exact h9 m (by omega)
  · rcases (by omega : k = 87 ∨ 88 ≤ k) with rfl | h
    · exact h10
    · obtain ⟨m, rfl⟩ : ∃ m, k = 88 + m := ⟨k - 88, by omega⟩
      rw [lc_pla' m (by omega), vl_60 (by omega)]
      exact h11 m (by omega)
  · rcases (by omega : k = 104 ∨ 105 ≤ k) with rfl | h
    · exact h12
    · obtain ⟨m, rfl⟩ : ∃ m, k = 105 + m := ⟨k - 105, by omega⟩
      rw [lc_boo' m (by omega), vl_60 (by omega)]
      exact h13 m (by omega)
theorem cC_ext (h : cC b a f R) (e : ∀ k, k < 121 → a' k = a k) : cC b a' f R := by
  have e1 := e 68 (by decide)
  have e2 := e 70 (by decide)
  have e3 := e 71 (by decide)
  have e4 := e 87 (by decide)
  have e5 := e 104 (by decide)
  refine ⟨?_, h.2.1, by rw [e2]; exact h.2.2.1, fun k hk => ?_⟩
  · unfold hz
    rw [e1, e3, e4, e5]
    exact h.1
  · have hv : vd a k := by
      unfold vd at hk ⊢
      rw [e1, e3, e4, e5] at hk
      exact hk
    rw [e k (vd_lt h.1 hv)]
    exact h.2.2.2 k hv
/-! a saint's copy -/
theorem c_saCopy {p q t : Nat} (hp : sp p) (hq : sp q) (h1 : ¬ q = p) (h2 : ¬ q = p + 1) (h3 : ¬ q + 1 = p) (ht : f q 7 = nI t) (ht1 : t ≤ 1) :
    ∃ f', fn_Sa_copy p q (mk f l R) = some (mk f' l R) ∧ (∀ j, 1 ≤ j → j ≤ 7 → f' p j = f q j) ∧ (∀ k, k < 4 → f' (p + 1) k = f (q + 1) k) ∧ ∀ r j, ¬ r = p → ¬ r = p + 1 → f' r j = f r j := by
  have t1 : ∀ f, gT (mk f l R) p 105 = true := fun f => sp_T hp
  have t2 : ∀ f, gT (mk f l R) q 105 = true := fun f => sp_T hq
  have r1 : ∀ f, zR (mk f l R) p 0 = p + 1 := fun f => sp_R0 hp
  have r2 : ∀ f, zR (mk f l R) q 0 = q + 1 := fun f => sp_R0 hq
  have k1 : ∀ f, gK (mk f l R) 1 (q + 1) (p + 1) (nI 0) (nI 0) (nI 4) = true := fun f => wgK (sp_T1 hq) (sp_T1 hp) (by have := (sp_ge hq).1; omega) (by have := (sp_ge hp).1; omega) (sp_n1 hq) (sp_n1 hp) (by decide) (by decide) (by decide) (by decide)
  have zo : gZo (f q 7) = true := by
    rw [ht]
    rcases (by omega : t = 0 ∨ t = 1) with rfl | rfl <;> rfl
  refine ⟨kp (up (up (up (up (up (up (up f p 1 (f q 1)) p 2 (f q 2)) p 3 (f q 3)) p 4 (f q 4)) p 5 (f q 5)) p 6 (f q 6)) p 7 (f q 7)) (q + 1) 0 (p + 1) 0 4, ?_, fun j hj1 hj7 => ?_, fun k hk => ?_, fun r j hr1 hr2 => ?_⟩
  · simp (disch := omega) only [fn_Sa_copy, t1, t2, r1, r2, k1, zo, up_np, wbr_T, wbr_F, wgd_T, wbq, wbv, wnm, zI_mk, zL_mk, uI_mk, uL_mk, kI_mk, kL_mk, nI_clamp, li_0, li_4]
  · rw [kp_np (by omega)]
    rcases (by omega : j = 1 ∨ j = 2 ∨ j = 3 ∨ j = 4 ∨ j = 5 ∨ j = 6 ∨ j = 7) with rfl | rfl | rfl | rfl | rfl | rfl | rfl <;> simp (disch := omega) only [up_nj, up_eq]
  · rw [kp_in hk]
    simp (disch := omega) only [up_np]
  · rw [kp_np hr2]
    simp (disch := omega) only [up_np]
/-- rows: at p, q, their cells behind -/
theorem c_rwCopy {p q n lim C : Nat} (t1 : gT (mk f l R) p 104 = true) (t2 : gT (mk f l R) q 104 = true) (u1 : ∀ f, gT (mk f l R) p 104 = true) (u2 : ∀ f, gT (mk f l R) q 104 = true) (r1 : ∀ f, zR (mk f l R) p 0 = p + 1) (r2 : ∀ f, zR (mk f l R) q 0 = q + 1) (c1 : ∀ f, gT (mk f l R) (p + 1) 1 = true) (c2 : ∀ f, gT (mk f l R) (q + 1) 1 = true) (n1 : ∀ f, (zT (mk f l R) (p + 1)).2 = C) (n2 : ∀ f, (zT (mk f l R) (q + 1)).2 = C)
    (hp : 16 ≤ p) (hq : 16 ≤ q) (hC : lim * 3 = C) (hl : lim < 100) (hn : f q 2 = nI n) (hnl : n ≤ lim) (hlim : f p 1 = nI lim) :
    fn_Rw_copy p q (mk f l R) = some (mk (kp (up f p 2 (nI n)) (q + 1) 0 (p + 1) 0 (n * 3)) l R) := by
  have k1 : ∀ f, gK (mk f l R) 1 (q + 1) (p + 1) (nI 0) (nI 0) (nI (n * 3)) = true := fun f => wgK (c2 f) (c1 f) (by omega) (by omega) (n2 f) (n1 f) (by omega) (by omega) (by omega) (by omega)
  have mn : fn_Jd_min (nI n) (nI lim) (mk f l R) = some (nI n, mk f l R) := by
    by_cases e : lim < n
    · omega
    · simp (disch := omega) only [fn_Jd_min, nI_ltI, wbr_T, wbr_F, wgd_T, wbq, wbv, wnm, zI_mk, zL_mk, uI_mk, uL_mk, kI_mk, kL_mk, wdT, wdF, wd1, wd0]
  have e3 : up f p 2 (nI n) p 2 = nI n := up_eq
  simp (disch := omega) only [fn_Rw_copy, u1, u2, r1, r2, hn, hlim, mn, e3, nI_mul, k1, wbr_T, wbr_F, wgd_T, wbq, wbv, wnm, zI_mk, zL_mk, uI_mk, uL_mk, kI_mk, kL_mk, nI_clamp, li_0, li_3]
/-- the loop of a house's copy: the first k saints are there -/
theorem c_copyl (hb : zb b) (hb1 : zb b1) (hbb : ¬ b = b1) {ru D : Nat} (hG : Gd a ru D) (h : cC b1 a f R) : ∀ (e k G : Nat) (g : Nat → Nat → Int32), k + e = a 68 → e < G → cN b g → cd b f g → (∀ i, i < k → sP (b + 10 + 2 * i) a i g ∧ g (b + 10 + 2 * i) 6 = nI (a (10 * i + 5)) - nI 1) →
    ∃ f', lp (σ := Nat × Nat × Int32 × zS) (fun k s => fn_Ho_copy_L2 s.1 s.2.1 s.2.2.1 s.2.2.2 (fun (a0 : Nat) (a1 : Nat) (a2 : Int32) (S : zS) => k (a0, a1, a2, S))) G (b, b1, nI k, mk g l R) = some (mk f' l (ur R b (R b1))) ∧ cd b f f' ∧ cC b a f' (ur R b (R b1))
  | 0, k, G, g, he, hG', hN, hd, hs => by
    obtain ⟨G, rfl⟩ : ∃ H, G = H + 1 := ⟨G - 1, by omega⟩
    have hk : k = a 68 := by omega
    subst hk
    obtain ⟨u0, u1, u2, u3, u4, u5, u6, u7, u8, u9, u10, u11, u12, u13, u14, u15, u16, u17, u18, u19, u20, u21, u22, u23, u24, u25, u26, u27, u28, u29, u30⟩ := hbA hb
    obtain ⟨v0, v1, v2, v3, v4, v5, v6, v7, v8, v9, v10, v11, v12, v13, v14, v15, v16, v17, v18, v19, v20, v21, v22, v23, v24, v25, v26, v27, v28, v29, v30⟩ := hbA hb1
    have hge := zb_ge hb
    have hge1 := zb_ge hb1
    obtain ⟨z1, z2, z3, z4⟩ := h.1
    have hdis : b + 22 ≤ b1 ∨ b1 + 22 ≤ b := by
      rcases hb with rfl | rfl | rfl <;> rcases hb1 with rfl | rfl | rfl <;> omega
    have hg : ∀ p j, b1 ≤ p → p ≤ b1 + 21 → g p j = f p j := fun p j q1 q2 => hd p j (by omega)
    rw [lpS]
    show ∃ f', fn_Ho_copy_L2 b b1 (nI (a 68)) (mk g l R) _ = _ ∧ _
    have h1 := cC_fr (R' := R) h hg rfl
    have ez := cC_z h1
    have ed := cC_d h1
    have n1 := cC_nsee h1
    have n2 := cC_npla h1
    have n3 := cC_nboo h1
    have k2 : ∀ f, gK (mk f l R) 1 (b1 + 2) (b + 2) (nI 0) (nI 0) (nI 4) = true := fun f => wgK (v2 f l R) (u2 f l R) (by omega) (by omega) (v11 f l R) (u11 f l R) (by decide) (by decide) (by decide) (by decide)
    have k3 : ∀ f, gK (mk f l R) 1 (b1 + 3) (b + 3) (nI 0) (nI 0) (nI 4) = true := fun f => wgK (v3 f l R) (u3 f l R) (by omega) (by omega) (v12 f l R) (u12 f l R) (by decide) (by decide) (by decide) (by decide)
    have e1 := c_rwCopy (f := kp (kp g (b1 + 2) 0 (b + 2) 0 4) (b1 + 3) 0 (b + 3) 0 4) (l := l) (R := R) (p := b + 4) (q := b1 + 4) (n := a 71) (lim := 5) (C := 15) (u4 _ _ _) (v4 _ _ _) (fun f => u4 _ _ _) (fun f => v4 _ _ _) (fun f => u23 _ _ _) (fun f => v23 _ _ _) (fun f => u5 _ _ _) (fun f => v5 _ _ _) (fun f => u13 _ _ _) (fun f => v13 _ _ _) (by omega) (by omega) (by decide) (by decide) (by rw [kp_np (by omega), kp_np (by omega)]; exact n1) z2 (by rw [kp_np (by omega), kp_np (by omega)]; exact hN.2.1)
    rw [show b + 4 + 1 = b + 5 by omega, show b1 + 4 + 1 = b1 + 5 by omega] at e1
    have e2 := c_rwCopy (f := (kp (up (kp (kp g (b1 + 2) 0 (b + 2) 0 4) (b1 + 3) 0 (b + 3) 0 4) (b + 4) 2 (nI (a 71))) (b1 + 5) 0 (b + 5) 0 (a 71 * 3))) (l := l) (R := R) (p := b + 6) (q := b1 + 6) (n := a 87) (lim := 8) (C := 24) (u6 _ _ _) (v6 _ _ _) (fun f => u6 _ _ _) (fun f => v6 _ _ _) (fun f => u24 _ _ _) (fun f => v24 _ _ _) (fun f => u7 _ _ _) (fun f => v7 _ _ _) (fun f => u14 _ _ _) (fun f => v14 _ _ _) (by omega) (by omega) (by decide) (by decide) (by simp (disch := omega) only [kp_np, up_np]; exact n2) z3 (by simp (disch := omega) only [kp_np, up_np]; exact hN.2.2.1)
    rw [show b + 6 + 1 = b + 7 by omega, show b1 + 6 + 1 = b1 + 7 by omega] at e2
    have e3 := c_rwCopy (f := (kp (up (kp (up (kp (kp g (b1 + 2) 0 (b + 2) 0 4) (b1 + 3) 0 (b + 3) 0 4) (b + 4) 2 (nI (a 71))) (b1 + 5) 0 (b + 5) 0 (a 71 * 3)) (b + 6) 2 (nI (a 87))) (b1 + 7) 0 (b + 7) 0 (a 87 * 3))) (l := l) (R := R) (p := b + 8) (q := b1 + 8) (n := a 104) (lim := 8) (C := 24) (u8 _ _ _) (v8 _ _ _) (fun f => u8 _ _ _) (fun f => v8 _ _ _) (fun f => u25 _ _ _) (fun f => v25 _ _ _) (fun f => u9 _ _ _) (fun f => v9 _ _ _) (fun f => u15 _ _ _) (fun f => v15 _ _ _) (by omega) (by omega) (by decide) (by decide) (by simp (disch := omega) only [kp_np, up_np]; exact n3) z4 (by simp (disch := omega) only [kp_np, up_np]; exact hN.2.2.2)
    rw [show b + 8 + 1 = b + 9 by omega, show b1 + 8 + 1 = b1 + 9 by omega] at e3
    refine ⟨up (up (kp (up (kp (up (kp (up (kp (kp g (b1 + 2) 0 (b + 2) 0 4) (b1 + 3) 0 (b + 3) 0 4) (b + 4) 2 (nI (a 71))) (b1 + 5) 0 (b + 5) 0 (a 71 * 3)) (b + 6) 2 (nI (a 87))) (b1 + 7) 0 (b + 7) 0 (a 87 * 3)) (b + 8) 2 (nI (a 104))) (b1 + 9) 0 (b + 9) 0 (a 104 * 3)) b 6 (nI (a 68))) b 7 (nI (a 69)), ?_, fun p j hp => ?_, ?_⟩
    · have w8 : ∀ f x, uR (mk f l R) b 8 x = mk f l (ur R b x) := fun f x => hb_u8 hb
      simp (disch := omega) only [fn_Ho_copy_L2, v0, u0, v1, v2, v3, u1, u2, u3, u4, u6, u8, u17, u18, u19, u20, u21, v17, v18, v19, v20, v21, v22, ez, k2, k3, e1, e2, e3, up_np, kp_np, ed, w8, wbr_T, wbr_F, wgd_T, wbq, wbv, wnm, zI_mk, zL_mk, uI_mk, uL_mk, kI_mk, kL_mk, nI_clamp, nI_leI, wdT, wdF, wd1, wd0, li_0, li_4]
    · rw [← hd p j hp]
      simp (disch := omega) only [kp_np, up_np]
    · refine cC_mk h.1 ⟨fun i hi => ?_, ?_, ?_, ?_⟩ ?_ (fun i hi => ?_) (fun j hj => ⟨?_, ?_⟩) ?_ ?_ ?_ (fun m hm => ?_) ?_ (fun m hm => ?_) ?_ (fun m hm => ?_)
      · simp (disch := omega) only [kp_np, up_np]
        exact hN.1 i hi
      · simp (disch := omega) only [kp_np, up_np, up_nj]
        exact hN.2.1
      · simp (disch := omega) only [kp_np, up_np, up_nj]
        exact hN.2.2.1
      · simp (disch := omega) only [kp_np, up_np, up_nj]
        exact hN.2.2.2
      · show (if b = b then R b1 else R b) = _
        rw [if_pos rfl]
        exact h.2.2.1
      · obtain ⟨⟨p1, p2, p3, p4, p5, p6, p7⟩, p8⟩ := hs i hi
        refine ⟨⟨?_, ?_, ?_, ?_, ?_, ?_, fun k hk => ?_⟩, ?_⟩ <;> simp (disch := omega) only [kp_np, up_np]
        · exact p1
        · exact p2
        · exact p3
        · exact p4
        · exact p5
        · exact p6
        · exact p7 k hk
        · exact p8
      · simp (disch := omega) only [kp_np, up_np]
        rw [kp_in hj]
        exact cC_o h1 hj
      · simp (disch := omega) only [kp_np, up_np]
        rw [kp_in hj, kp_np (by omega)]
        exact cC_g h1 hj
      · simp (disch := omega) only [up_nj, up_eq]
      · exact up_eq
      · simp (disch := omega) only [kp_np, up_np, up_eq]
      · simp (disch := omega) only [kp_np, up_np]
        rw [kp_in (by omega)]
        simp (disch := omega) only [kp_np, up_np]
        exact cC_see h1 hm
      · simp (disch := omega) only [kp_np, up_np, up_eq]
      · simp (disch := omega) only [kp_np, up_np]
        rw [kp_in (by omega)]
        simp (disch := omega) only [kp_np, up_np]
        exact cC_pla h1 hm
      · simp (disch := omega) only [kp_np, up_np, up_eq]
      · simp (disch := omega) only [kp_np, up_np]
        rw [kp_in (by omega)]
        simp (disch := omega) only [kp_np, up_np]
        exact cC_boo h1 hm
  | e + 1, k, G, g, he, hG', hN, hd, hs => by
    obtain ⟨G, rfl⟩ : ∃ H, G = H + 1 := ⟨G - 1, by omega⟩
    obtain ⟨u0, u1, u2, u3, u4, u5, u6, u7, u8, u9, u10, u11, u12, u13, u14, u15, u16, u17, u18, u19, u20, u21, u22, u23, u24, u25, u26, u27, u28, u29, u30⟩ := hbA hb
    obtain ⟨v0, v1, v2, v3, v4, v5, v6, v7, v8, v9, v10, v11, v12, v13, v14, v15, v16, v17, v18, v19, v20, v21, v22, v23, v24, v25, v26, v27, v28, v29, v30⟩ := hbA hb1
    have hge := zb_ge hb
    have hge1 := zb_ge hb1
    have h6 := h.1.1
    have hdis : b + 22 ≤ b1 ∨ b1 + 22 ≤ b := by
      rcases hb with rfl | rfl | rfl <;> rcases hb1 with rfl | rfl | rfl <;> omega
    have hg : ∀ p j, b1 ≤ p → p ≤ b1 + 21 → g p j = f p j := fun p j q1 q2 => hd p j (by omega)
    rw [lpS]
    show ∃ f', fn_Ho_copy_L2 b b1 (nI k) (mk g l R) _ = _ ∧ _
    have h1 := cC_fr (R' := R) h hg rfl
    have ez := cC_z h1
    have hk : k < a 68 := by omega
    obtain ⟨g1, e1, q1, q2, q3⟩ := c_saCopy (l := l) (R := R) (f := g) (sp_b hb (show k < 6 by omega)) (sp_b hb1 (show k < 6 by omega)) (by omega) (by omega) (by omega) (cC_t h1 hk) (Gd_gs hG (show k < 6 by omega)).2.2.2.2.1
    obtain ⟨p1, p2, p3, p4, p5, p6, p7⟩ := cC_sP h1 hk
    have hN1 : cN b g1 := by
      refine ⟨fun i hi => ?_, (q3 _ _ (by omega) (by omega)).trans hN.2.1, (q3 _ _ (by omega) (by omega)).trans hN.2.2.1, (q3 _ _ (by omega) (by omega)).trans hN.2.2.2⟩
      by_cases ei : i = k
      · subst ei
        exact (q1 1 (by decide) (by decide)).trans p1
      · exact (q3 _ _ (by omega) (by omega)).trans (hN.1 i hi)
    obtain ⟨f2, e2, fr2, r2⟩ := c_copyl hb hb1 hbb hG h e (k + 1) G g1 (by omega) (by omega) hN1 (fun p j hp => (q3 p j (by omega) (by omega)).trans (hd p j hp)) (fun i hi => by
      by_cases ei : i = k
      · subst ei
        refine ⟨⟨(q1 1 (by decide) (by decide)).trans p1, (q1 2 (by decide) (by decide)).trans p2, (q1 3 (by decide) (by decide)).trans p3, (q1 4 (by decide) (by decide)).trans p4, (q1 5 (by decide) (by decide)).trans p5, (q1 7 (by decide) (by decide)).trans p6, fun k hk => (q2 k hk).trans (p7 k hk)⟩, (q1 6 (by decide) (by decide)).trans (cC_p h1 hk)⟩
      · obtain ⟨⟨s1, s2, s3, s4, s5, s6, s7⟩, s8⟩ := hs i (by omega)
        exact ⟨⟨(q3 _ _ (by omega) (by omega)).trans s1, (q3 _ _ (by omega) (by omega)).trans s2, (q3 _ _ (by omega) (by omega)).trans s3, (q3 _ _ (by omega) (by omega)).trans s4, (q3 _ _ (by omega) (by omega)).trans s5, (q3 _ _ (by omega) (by omega)).trans s6, fun k hk => (q3 _ _ (by omega) (by omega)).trans (s7 k hk)⟩, (q3 _ _ (by omega) (by omega)).trans s8⟩)
    refine ⟨f2, ?_, fr2, r2⟩
    simp (disch := omega) only [fn_Ho_copy_L2, v0, v1, u0, u1, u10, v10, u16, v16, u26, v26, u27, ez, e1, wbr_T, wbr_F, wgd_T, wbq, wbv, wnm, zI_mk, zL_mk, uI_mk, uL_mk, kI_mk, kL_mk, nI_clamp, nI_leI, nI_add, wgB, wdT, wdF, wd1, wd0, li_1]
    exact e2
theorem c_copy (hb : zb b) (hb1 : zb b1) (hbb : ¬ b = b1) {ru D : Nat} (hG : Gd a ru D) (h : cC b1 a f R) (hN : cN b f) : ∃ f', fn_Ho_copy b b1 (mk f l R) = some (mk f' l (ur R b (R b1))) ∧ cd b f f' ∧ cC b a f' (ur R b (R b1)) :=
  c_copyl (l := l) hb hb1 hbb hG h (a 68) 0 FU f (Nat.zero_add _) (by show _ < 5000; have := h.1.1; omega) hN cd_r (fun i hi => absurd hi (Nat.not_lt_zero _))
/-! the model's rows -/
theorem m_movel {p q : Nat} (t1 : ∀ f, gT (mk f l R) p 1 = true) (t2 : ∀ f, gT (mk f l R) q 1 = true) (n1 : ∀ f, (zT (mk f l R) p).2 = 121) (n2 : ∀ f, (zT (mk f l R) q).2 = 121) (hq : 16 ≤ q) (hpq : ¬ p = q) : ∀ (e k G : Nat) (f : Nat → Nat → Int32), k + e = 121 → e < G →
    ∃ f', lp (σ := Nat × Nat × Int32 × zS) (fun k s => fn_Mo_move_L2 s.1 s.2.1 s.2.2.1 s.2.2.2 (fun (a0 : Nat) (a1 : Nat) (a2 : Int32) (S : zS) => k (a0, a1, a2, S))) G (p, q, nI k, mk f l R) = some (mk f' l R) ∧ (∀ j, k ≤ j → j < 121 → f' q j = f p j) ∧ ∀ r j, ¬ (r = q ∧ k ≤ j ∧ j < 121) → f' r j = f r j
  | 0, k, G, f, he, hG => by
    obtain ⟨G, rfl⟩ : ∃ H, G = H + 1 := ⟨G - 1, by omega⟩
    have hk : k = 121 := by omega
    subst hk
    exact ⟨f, rfl, fun j h1 h2 => by omega, fun _ _ _ => rfl⟩
  | e + 1, k, G, f, he, hG => by
    obtain ⟨G, rfl⟩ : ∃ H, G = H + 1 := ⟨G - 1, by omega⟩
    rw [lpS]
    show ∃ f', fn_Mo_move_L2 p q (nI k) (mk f l R) _ = _ ∧ _
    obtain ⟨f1, e1, q1, q2⟩ := m_movel t1 t2 n1 n2 hq hpq e (k + 1) G (up f q k (f p k)) (by omega) (by omega)
    refine ⟨f1, ?_, fun j h1 h2 => ?_, fun r j hr => ?_⟩
    · simp (disch := omega) only [fn_Mo_move_L2, t1, t2, n1, n2, wbr_T, wbr_F, wgd_T, wbq, wbv, wnm, zI_mk, zL_mk, uI_mk, uL_mk, kI_mk, kL_mk, nI_add, nI_mul, nI_sub, nI_div, nI_clamp, wgB, wgP, nI_leI, nI_ltI, nI_eq, nI_eqm, nI_eqm5, wdT, wdF, wd1, wd0, li_1, li_121]
      exact e1
    · by_cases ej : j = k
      · subst ej
        rw [q2 q j (by omega), up_eq]
      · rw [q1 j (by omega) h2, up_np hpq]
    · rw [q2 r j (by omega)]
      by_cases er : r = q
      · exact up_nj (by omega)
      · exact up_np er
theorem m_move {p q : Nat} (t1 : ∀ f, gT (mk f l R) p 1 = true) (t2 : ∀ f, gT (mk f l R) q 1 = true) (n1 : ∀ f, (zT (mk f l R) p).2 = 121) (n2 : ∀ f, (zT (mk f l R) q).2 = 121) (hq : 16 ≤ q) (hpq : ¬ p = q) : ∃ f', fn_Mo_move p q (mk f l R) = some (mk f' l R) ∧ (∀ j, j < 121 → f' q j = f p j) ∧ ∀ r j, ¬ (r = q ∧ j < 121) → f' r j = f r j := by
  obtain ⟨f1, e1, q1, q2⟩ := m_movel (l := l) (R := R) t1 t2 n1 n2 hq hpq 121 0 FU f (by decide) (by decide)
  exact ⟨f1, e1, fun j hj => q1 j (Nat.zero_le _) hj, fun r j h => q2 r j (fun q => h ⟨q.1, q.2.2⟩)⟩
theorem m_mv1 : ∃ f', fn_Mo_move 138 139 (mk f l R) = some (mk f' l R) ∧ (∀ j, j < 121 → f' 139 j = f 138 j) ∧ ∀ r j, ¬ (r = 139 ∧ j < 121) → f' r j = f r j := m_move (fun _ => rfl) (fun _ => rfl) (fun _ => rfl) (fun _ => rfl) (by decide) (by decide)
theorem m_mv2 : ∃ f', fn_Mo_move 139 138 (mk f l R) = some (mk f' l R) ∧ (∀ j, j < 121 → f' 138 j = f 139 j) ∧ ∀ r j, ¬ (r = 138 ∧ j < 121) → f' r j = f r j := m_move (fun _ => rfl) (fun _ => rfl) (fun _ => rfl) (fun _ => rfl) (by decide) (by decide)
theorem m_mv3 : ∃ f', fn_Mo_move 138 140 (mk f l R) = some (mk f' l R) ∧ (∀ j, j < 121 → f' 140 j = f 138 j) ∧ ∀ r j, ¬ (r = 140 ∧ j < 121) → f' r j = f r j := m_move (fun _ => rfl) (fun _ => rfl) (fun _ => rfl) (fun _ => rfl) (by decide) (by decide)
theorem m_mv4 : ∃ f', fn_Mo_move 140 138 (mk f l R) = some (mk f' l R) ∧ (∀ j, j < 121 → f' 138 j = f 140 j) ∧ ∀ r j, ¬ (r = 138 ∧ j < 121) → f' r j = f r j := m_move (fun _ => rfl) (fun _ => rfl) (fun _ => rfl) (fun _ => rfl) (by decide) (by decide)
end
