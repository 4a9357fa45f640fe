/-! THE CLASS'S HOUSES: where a number of the row lies -/
def lc (k : Nat) : Nat × Nat :=
  if k < 60 then (if k % 10 < 6 then (10 + 2 * (k / 10), [2, 3, 4, 5, 7, 6].getD (k % 10) 0) else (11 + 2 * (k / 10), k % 10 - 6))
  else if k < 68 then (2 + k % 2, (k - 60) / 2)
  else if k = 68 then (0, 6) else if k = 69 then (0, 7) else if k = 70 then (0, 50)
  else if k = 71 then (4, 2) else if k < 87 then (5, k - 72)
  else if k = 87 then (6, 2) else if k < 104 then (7, 3 * ((k - 88) / 2) + (k - 88) % 2)
  else if k = 104 then (8, 2) else (9, 3 * ((k - 105) / 2) + (k - 105) % 2)
set_option maxRecDepth 100000 in
theorem lc_inj : ∀ k, k < 121 → ∀ j, j < 121 → lc k = lc j → k = j := by decide +kernel
set_option maxRecDepth 100000 in
theorem lc_pl : ∀ k, k < 121 → (lc k).1 ≤ 21 ∧ ((lc k).2 = 1 → ¬ (lc k).1 = 4 ∧ ¬ (lc k).1 = 6 ∧ ¬ (lc k).1 = 8 ∧ ∀ i, i < 6 → ¬ (lc k).1 = 10 + 2 * i) := by decide +kernel
theorem lc_s : ∀ i, i < 6 → ∀ c, c < 10 → lc (10 * i + c) = if c < 6 then (10 + 2 * i, [2, 3, 4, 5, 7, 6].getD c 0) else (11 + 2 * i, c - 6) := by decide +kernel
theorem lc_o : ∀ j, j < 4 → lc (60 + 2 * j) = (2, j) ∧ lc (61 + 2 * j) = (3, j) := by decide +kernel
theorem lc_see : ∀ r, r < 5 → ∀ c, c < 3 → lc (72 + 3 * r + c) = (5, 3 * r + c) := by decide +kernel
theorem lc_pla : ∀ r, r < 8 → ∀ c, c < 2 → lc (88 + 2 * r + c) = (7, 3 * r + c) := by decide +kernel
theorem lc_boo : ∀ r, r < 8 → ∀ c, c < 2 → lc (105 + 2 * r + c) = (9, 3 * r + c) := by decide +kernel
def vl (k x : Nat) : Int32 := if k < 60 ∧ k % 10 = 5 then nI x - nI 1 else nI x
theorem vl_60 {k x : Nat} (h : 60 ≤ k) : vl k x = nI x := if_neg (fun e => by omega)
theorem vl_5 {i x : Nat} (h : i < 6) : vl (10 * i + 5) x = nI x - nI 1 := if_pos ⟨by omega, by omega⟩
theorem vl_n {i c x : Nat} (hc : c < 10) (h : ¬ c = 5) : vl (10 * i + c) x = nI x := if_neg (fun e => by omega)
/-- the numbers of the row that count -/
def vd (a : Nat → Nat) (k : Nat) : Prop := k < 10 * a 68 ∨ (60 ≤ k ∧ k ≤ 69) ∨ (71 ≤ k ∧ k < 72 + 3 * a 71) ∨ (87 ≤ k ∧ k < 88 + 2 * a 87) ∨ (104 ≤ k ∧ k < 105 + 2 * a 104)
def hz (a : Nat → Nat) : Prop := a 68 ≤ 6 ∧ a 71 ≤ 5 ∧ a 87 ≤ 8 ∧ a 104 ≤ 8
theorem vd_lt {a : Nat → Nat} {k : Nat} (h : hz a) (hk : vd a k) : k < 121 := by
  obtain ⟨h1, h2, h3, h4⟩ := h
  unfold vd at hk
  omega
def cN (b : Nat) (f : Nat → Nat → Int32) : Prop := (∀ i, i < 6 → f (b + 10 + 2 * i) 1 = nI i) ∧ f (b + 4) 1 = nI 5 ∧ f (b + 6) 1 = nI 8 ∧ f (b + 8) 1 = nI 8
def cC (b : Nat) (a : Nat → Nat) (f : Nat → Nat → Int32) (R : Nat → Nat) : Prop := hz a ∧ cN b f ∧ R b = hp (a 70) ∧ ∀ k, vd a k → f (b + (lc k).1) (lc k).2 = vl k (a k)
/-- outside of the house at b nothing changes -/
def cd (b : Nat) (f f' : Nat → Nat → Int32) : Prop := ∀ p j, ¬ (b ≤ p ∧ p ≤ b + 21) → f' p j = f p j
section
variable {f f' : Nat → Nat → Int32} {l : Nat → Nat → Int64} {R : Nat → Nat} {a : Nat → Nat} {b i j k x : Nat} {T : Nat → Nat → Nat} {N : Nat → Nat} {ru D : Nat}
theorem cd_r : cd b f f := fun _ _ _ => rfl
theorem cd_t {g : Nat → Nat → Int32} (h : cd b f f') (h2 : cd b f' g) : cd b f g := fun p j q => (h2 p j q).trans (h p j q)
theorem cd_up {p : Nat} {y : Int32} (h1 : b ≤ p) (h2 : p ≤ b + 21) : cd b f (up f p j y) := fun q i h => up_np (fun e => by omega)
theorem cN_up (h : cN b f) (hk : k < 121) {y : Int32} : cN b (up f (b + (lc k).1) (lc k).2 y) := by
  obtain ⟨h1, h2⟩ := lc_pl k hk
  have key : ∀ p v, f p 1 = v → (¬ (lc k).2 = 1 ∨ ¬ p = b + (lc k).1) → up f (b + (lc k).1) (lc k).2 y p 1 = v := fun p v e hd => by
    rcases hd with q | q
    · exact (up_nj (fun e => q e.symm)).trans e
    · exact (up_np q).trans e
  by_cases e : (lc k).2 = 1
  · obtain ⟨q1, q2, q3, q4⟩ := h2 e
    exact ⟨fun i hi => key _ _ (h.1 i hi) (Or.inr (fun e => by have := q4 i hi; omega)), key _ _ h.2.1 (Or.inr (by omega)), key _ _ h.2.2.1 (Or.inr (by omega)), key _ _ h.2.2.2 (Or.inr (by omega))⟩
  · exact ⟨fun i hi => key _ _ (h.1 i hi) (Or.inl e), key _ _ h.2.1 (Or.inl e), key _ _ h.2.2.1 (Or.inl e), key _ _ h.2.2.2 (Or.inl e)⟩
theorem up_lc {y : Int32} {q : Nat} (hq : q < 121) (hk : k < 121) (h : ¬ q = k) : up f (b + (lc k).1) (lc k).2 y (b + (lc q).1) (lc q).2 = f (b + (lc q).1) (lc q).2 := by
  by_cases e1 : (lc q).1 = (lc k).1
  · by_cases e2 : (lc q).2 = (lc k).2
    · exact absurd (lc_inj q hq k hk (Prod.ext e1 e2)) h
    · exact up_nj e2
  · exact up_np (by omega)
/-- one number becomes another; what counts then is as it was -/
theorem cC_upG (h : cC b a f R) (hk : k < 121) (h7 : ¬ k = 70) (hs : hz (us a k x)) (hv : ∀ q, vd (us a k x) q → ¬ q = k → f (b + (lc q).1) (lc q).2 = vl q (a q)) : cC b (us a k x) (up f (b + (lc k).1) (lc k).2 (vl k x)) R := by
  refine ⟨hs, cN_up h.2.1 hk, by rw [us_ne (Ne.symm h7)]; exact h.2.2.1, fun q hq => ?_⟩
  by_cases e : q = k
  · subst e
    rw [up_eq, us_eq]
  · rw [up_lc (vd_lt hs hq) hk e, us_ne e]
    exact hv q hq e
theorem cC_up (h : cC b a f R) (hk : k < 121) (h1 : ¬ k = 68) (h2 : ¬ k = 70) (h3 : ¬ k = 71) (h4 : ¬ k = 87) (h5 : ¬ k = 104) : cC b (us a k x) (up f (b + (lc k).1) (lc k).2 (vl k x)) R := by
  have e1 : us a k x 68 = a 68 := us_ne (Ne.symm h1)
  have e2 : us a k x 71 = a 71 := us_ne (Ne.symm h3)
  have e3 : us a k x 87 = a 87 := us_ne (Ne.symm h4)
  have e4 : us a k x 104 = a 104 := us_ne (Ne.symm h5)
  refine cC_upG h hk h2 ?_ (fun q hq _ => h.2.2.2 q ?_)
  · unfold hz
    rw [e1, e2, e3, e4]
    exact h.1
  · unfold vd at hq ⊢
    rw [e1, e2, e3, e4] at hq
    exact hq
theorem cC_s (h : cC b a f R) (hi : i < a 68) {c : Nat} (hc : c < 6) (h5 : ¬ c = 5) : f (b + 10 + 2 * i) ([2, 3, 4, 5, 7, 6].getD c 0) = nI (a (10 * i + c)) := by
  have := h.1.1
  have e := h.2.2.2 (10 * i + c) (Or.inl (by omega))
  rw [lc_s i (by omega) c (by omega), if_pos hc, vl_n (by omega) h5] at e
  rw [Nat.add_assoc]
  exact e
theorem cC_kd (h : cC b a f R) (hi : i < a 68) : f (b + 10 + 2 * i) 2 = nI (a (10 * i)) := cC_s (c := 0) h hi (by decide) (by decide)
theorem cC_v (h : cC b a f R) (hi : i < a 68) : f (b + 10 + 2 * i) 3 = nI (a (10 * i + 1)) := cC_s (c := 1) h hi (by decide) (by decide)
theorem cC_h (h : cC b a f R) (hi : i < a 68) : f (b + 10 + 2 * i) 4 = nI (a (10 * i + 2)) := cC_s (c := 2) h hi (by decide) (by decide)
theorem cC_w (h : cC b a f R) (hi : i < a 68) : f (b + 10 + 2 * i) 5 = nI (a (10 * i + 3)) := cC_s (c := 3) h hi (by decide) (by decide)
theorem cC_t (h : cC b a f R) (hi : i < a 68) : f (b + 10 + 2 * i) 7 = nI (a (10 * i + 4)) := cC_s (c := 4) h hi (by decide) (by decide)
theorem cC_p (h : cC b a f R) (hi : i < a 68) : f (b + 10 + 2 * i) 6 = nI (a (10 * i + 5)) - nI 1 := by
  have := h.1.1
  have e := h.2.2.2 (10 * i + 5) (Or.inl (by omega))
  rw [lc_s i (by omega) 5 (by omega), if_pos (by decide), vl_5 (by omega)] at e
  rw [Nat.add_assoc]
  exact e
theorem cC_r (h : cC b a f R) (hi : i < a 68) (hk : k < 4) : f (b + 11 + 2 * i) k = nI (a (10 * i + 6 + k)) := by
  have := h.1.1
  have e := h.2.2.2 (10 * i + (6 + k)) (Or.inl (by omega))
  rw [lc_s i (by omega) (6 + k) (by omega), if_neg (by omega), vl_n (by omega) (by omega)] at e
  rw [show 6 + k - 6 = k by omega] at e
  rw [Nat.add_assoc, Nat.add_assoc]
  exact e
theorem cC_o (h : cC b a f R) (hj : j < 4) : f (b + 2) j = nI (a (60 + 2 * j)) := by
  have e := h.2.2.2 (60 + 2 * j) (Or.inr (Or.inl (by omega)))
  rw [(lc_o j hj).1, vl_60 (by omega)] at e
  exact e
theorem cC_g (h : cC b a f R) (hj : j < 4) : f (b + 3) j = nI (a (61 + 2 * j)) := by
  have e := h.2.2.2 (61 + 2 * j) (Or.inr (Or.inl (by omega)))
  rw [(lc_o j hj).2, vl_60 (by omega)] at e
  exact e
theorem cC_z (h : cC b a f R) : f b 6 = nI (a 68) := h.2.2.2 68 (Or.inr (Or.inl (by decide)))
theorem cC_d (h : cC b a f R) : f b 7 = nI (a 69) := h.2.2.2 69 (Or.inr (Or.inl (by decide)))
/-! what changes -/
theorem cC_us (h : cC b a f R) (hi : i < 6) {c : Nat} (hc : c < 6) (h5 : ¬ c = 5) : cC b (us a (10 * i + c) x) (up f (b + 10 + 2 * i) ([2, 3, 4, 5, 7, 6].getD c 0) (nI x)) R := by
  have e := cC_up (x := x) h (show 10 * i + c < 121 by omega) (by omega) (by omega) (by omega) (by omega) (by omega)
  rw [lc_s i (by omega) c (by omega), if_pos hc, vl_n (by omega) h5] at e
  rw [Nat.add_assoc]
  exact e
theorem cC_uh (h : cC b a f R) (hi : i < 6) : cC b (us a (10 * i + 2) x) (up f (b + 10 + 2 * i) 4 (nI x)) R := cC_us (c := 2) h hi (by decide) (by decide)
theorem cC_uw (h : cC b a f R) (hi : i < 6) : cC b (us a (10 * i + 3) x) (up f (b + 10 + 2 * i) 5 (nI x)) R := cC_us (c := 3) h hi (by decide) (by decide)
theorem cC_ut (h : cC b a f R) (hi : i < 6) : cC b (us a (10 * i + 4) x) (up f (b + 10 + 2 * i) 7 (nI x)) R := cC_us (c := 4) h hi (by decide) (by decide)
theorem cC_up5 (h : cC b a f R) (hi : i < 6) : cC b (us a (10 * i + 5) x) (up f (b + 10 + 2 * i) 6 (nI x - nI 1)) R := by
  have e := cC_up (x := x) h (show 10 * i + 5 < 121 by omega) (by omega) (by omega) (by omega) (by omega) (by omega)
  rw [lc_s i (by omega) 5 (by omega), if_pos (by decide), vl_5 (by omega)] at e
  rw [Nat.add_assoc]
  exact e
theorem cC_ur (h : cC b a f R) (hi : i < 6) (hk : k < 4) : cC b (us a (10 * i + 6 + k) x) (up f (b + 11 + 2 * i) k (nI x)) R := by
  have e := cC_up (x := x) h (show 10 * i + (6 + k) < 121 by omega) (by omega) (by omega) (by omega) (by omega) (by omega)
  rw [lc_s i (by omega) (6 + k) (by omega), if_neg (by omega), vl_n (by omega) (by omega), show 6 + k - 6 = k by omega] at e
  rw [Nat.add_assoc, Nat.add_assoc]
  exact e
theorem cC_uo (h : cC b a f R) (hj : j < 4) : cC b (us a (60 + 2 * j) x) (up f (b + 2) j (nI x)) R := by
  have e := cC_up (x := x) h (show 60 + 2 * j < 121 by omega) (by omega) (by omega) (by omega) (by omega) (by omega)
  rw [(lc_o j hj).1, vl_60 (by omega)] at e
  exact e
theorem cC_ug (h : cC b a f R) (hj : j < 4) : cC b (us a (61 + 2 * j) x) (up f (b + 3) j (nI x)) R := by
  have e := cC_up (x := x) h (show 61 + 2 * j < 121 by omega) (by omega) (by omega) (by omega) (by omega) (by omega)
  rw [(lc_o j hj).2, vl_60 (by omega)] at e
  exact e
theorem cC_ud (h : cC b a f R) : cC b (us a 69 x) (up f b 7 (nI x)) R := cC_up (k := 69) (x := x) h (by decide) (by decide) (by decide) (by decide) (by decide) (by decide)
theorem cC_fr (h : cC b a f R) (hf : ∀ p j, b ≤ p → p ≤ b + 21 → f' p j = f p j) {R' : Nat → Nat} (hR : R' b = R b) : cC b a f' R' :=
  ⟨h.1, ⟨fun i hi => (hf _ _ (by omega) (by omega)).trans (h.2.1.1 i hi), (hf _ _ (by omega) (by omega)).trans h.2.1.2.1, (hf _ _ (by omega) (by omega)).trans h.2.1.2.2.1, (hf _ _ (by omega) (by omega)).trans h.2.1.2.2.2⟩, hR.trans h.2.2.1, fun k hk => by
    have := (lc_pl k (vd_lt h.1 hk)).1
    exact (hf _ _ (by omega) (by omega)).trans (h.2.2.2 k hk)⟩
/-! what a saint is, of the SAINT at p -/
def sP (p : Nat) (a : Nat → Nat) (i : Nat) (f : Nat → Nat → Int32) : Prop := f p 1 = nI i ∧ f p 2 = nI (a (10 * i)) ∧ f p 3 = nI (a (10 * i + 1)) ∧ f p 4 = nI (a (10 * i + 2)) ∧ f p 5 = nI (a (10 * i + 3)) ∧ f p 7 = nI (a (10 * i + 4)) ∧ ∀ k, k < 4 → f (p + 1) k = nI (a (10 * i + 6 + k))
theorem cC_sP (h : cC b a f R) (hi : i < a 68) : sP (b + 10 + 2 * i) a i f := by
  have h6 := h.1.1
  refine ⟨h.2.1.1 i (by omega), cC_kd h hi, cC_v h hi, cC_h h hi, cC_w h hi, cC_t h hi, fun k hk => ?_⟩
  rw [show b + 10 + 2 * i + 1 = b + 11 + 2 * i by omega]
  exact cC_r h hi hk
/-- the rules and the class's constants -/
def CK (T : Nat → Nat → Nat) (N : Nat → Nat) (ru : Nat) (f : Nat → Nat → Int32) : Prop := tRu T N ru ∧ CRu T N ru f ∧ KA (f 1)
theorem CK_fr (h : CK T N ru f) (hf : ∀ p j, (p = 1 ∨ p = 38 ∨ (107 ≤ p ∧ p ≤ 124)) → f' p j = f p j) : CK T N ru f' := by
  obtain ⟨h1, ⟨⟨h2, h3⟩, h4⟩, h5⟩ := h
  have h6 := h1.1
  refine ⟨h1, ⟨⟨(hf _ _ (by omega)).trans h2, (hf _ _ (by omega)).trans h3⟩, fun r hr => ?_⟩, fun j hj => (hf _ _ (by omega)).trans (h5 j hj)⟩
  have := hp_ge (r := r + 1) (by omega) (by omega)
  obtain ⟨q1, q2⟩ := h4 r hr
  exact ⟨⟨(hf _ _ (by omega)).trans q1.1, fun k hk => ⟨(hf _ _ (by omega)).trans (q1.2 k hk).1, (hf _ _ (by omega)).trans (q1.2 k hk).2⟩⟩, (hf _ _ (by omega)).trans q2⟩
theorem c_hard (h : CK T N ru f) {r : Nat} (hr : r ≤ ru) : f (hp r) 3 = nI (rV T N r).1 := by
  unfold rV
  by_cases e : r = 0
  · rw [if_pos e, e]
    exact h.2.1.1.2
  · rw [if_neg e]
    have := (h.2.1.2 (r - 1) (by omega)).2
    rw [show r - 1 + 1 = r by omega] at this
    exact this
theorem c_sumS {p : Nat} (h : CK T N ru f) (hs : sp p) (hP : sP p a i f) (hG : Gd a ru D) (hD : D < 2 ^ 20) (hi : i < 6) : fn_Or_sum (hp (a 70)) p (nI (a 69)) (mk f l R) = some ((rV T N (a 70)).2 (nmS a i), mk f l R) := by
  obtain ⟨z1, z2, z3, z4, z5⟩ := Gd_all hG
  obtain ⟨g1, g2, g3, g4, g5, g6, g7⟩ := z2 i hi
  obtain ⟨p1, p2, p3, p4, p5, p6, p7⟩ := hP
  have h6 := h.1.1
  have hn : nmA f p (a 69) (nmS a i) := ⟨p1, p2, p3, ⟨_, p5, by omega, rfl⟩, p6, g5, rfl, by rw [nmS_0]; omega, by rw [nmS_1]; omega, by rw [nmS_2]; omega⟩
  by_cases e : a 70 = 0
  · refine c_sum (c := []) (by omega) (fun _ => rfl) (by simp) hs hn (by omega) cOk_nil ⟨?_, fun k hk => absurd hk (Nat.not_lt_zero _)⟩ ?_
    · rw [e]
      exact h.2.1.1.1
    · rw [e]
      rfl
  · obtain ⟨hT, hk⟩ := h.1.2 (a 70 - 1) (by omega)
    have hO := (h.2.1.2 (a 70 - 1) (by omega)).1
    rw [show a 70 - 1 + 1 = a 70 by omega] at hO
    have hl := pA_len hk
    refine c_sum (c := (pA (T (a 70 - 1)) (N (a 70 - 1))).2.2.1) (by omega) (fun q => absurd q e) (by have := hT.1; omega) hs hn (by omega) (pAl_ok 10 0 [] 6 _ cOk_nil) hO ?_
    rw [pA_va _ hk]
    unfold rV
    rw [if_neg e]
theorem fm_n {d m : Nat} {S : zS} (hd : d < 2 ^ 31) (hm : m < 2 ^ 31) (h0 : 0 < m) : fn_Jd_floorMod (nI d) (nI m) S = some (nI (d % m), S) := by
  have hx : nI d ^^^ nI m = nI (d ^^^ m) := nI_xor (by omega) (by omega)
  have hlt : d ^^^ m < 2 ^ 31 := Nat.xor_lt_two_pow hd hm
  have hz : gZ (nI m) = true := by
    unfold gZ
    rw [decide_eq_false (fun e => by have := (nI_eq hm (show 0 < 2 ^ 31 by decide)).mp e; omega)]
    rfl
  have hmul : d / m * m ≤ d := Nat.div_mul_le_self d m
  have he : d - d / m * m = d % m := by
    have := Nat.div_add_mod d m
    rw [Nat.mul_comm] at this
    omega
  have h0' : (0 : Int32) ≤ nI (d ^^^ m) := by
    rw [Int32.le_iff_toInt_le, nI_toInt hlt]
    exact Int.natCast_nonneg _
  unfold fn_Jd_floorMod
  rw [hz, wgd_T, hx, decide_eq_true h0', wbr_T, nI_div hd hm, nI_mul, nI_sub hmul, he]
theorem c_grit {p : Nat} (h : CK T N ru f) (hs : sp p) (hP : sP p a i f) (hG : Gd a ru D) (hD : D < 2 ^ 20) (hi : i < 6) : fn_Sa_grit p (hp (a 70)) (nI (a 69)) (mk f l R) = some (gritS (rV T N) a i, mk f l R) := by
  have es := c_sumS (l := l) (R := R) h hs hP hG hD hi
  obtain ⟨z1, z2, z3, z4, z5⟩ := Gd_all hG
  obtain ⟨g1, g2, g3, g4, g5, g6, g7⟩ := z2 i hi
  obtain ⟨p1, p2, p3, p4, p5, p6, p7⟩ := hP
  have h6 := h.1.1
  have t1 := sp_T (f := f) (l := l) (R := R) hs
  have t2 := sp_T1 (f := f) (l := l) (R := R) hs
  have t3 := sp_n1 (f := f) (l := l) (R := R) hs
  have t4 := sp_R0 (f := f) (l := l) (R := R) hs
  have t5 := hp_T (f := f) (l := l) (R := R) (show a 70 ≤ 6 by omega)
  have m2 := fm_n (d := a 69) (m := 2) (S := mk f l R) (by omega) (by decide) (by decide)
  have m4 := fm_n (d := a 69) (m := 4) (S := mk f l R) (by omega) (by decide) (by decide)
  have p7' := p7 (a 69 % 4) (by omega)
  have b4 : a 69 % 4 < 4 := by omega
  unfold gritS
  rcases (by omega : a (10 * i) = 0 ∨ a (10 * i) = 1 ∨ a (10 * i) = 2 ∨ a (10 * i) = 3 ∨ a (10 * i) = 4 ∨ a (10 * i) = 5 ∨ a (10 * i) = 6) with e | e | e | e | e | e | e <;> rw [e] at p2 ⊢
  · simp (disch := omega) only [fn_Sa_grit, es, p2, t1, t5, wbr_T, wbr_F, wgd_T, wbq, wbv, wnm, zI_mk, zL_mk, uI_mk, uL_mk, kI_mk, kL_mk, nI_eq, wdT, wdF, wd1, wd0, li_1, li_2, li_3, li_4, li_5, li_6]
    rfl
  · simp (disch := omega) only [fn_Sa_grit, es, p2, p3, t1, t5, wbr_T, wbr_F, wgd_T, wbq, wbv, wnm, zI_mk, zL_mk, uI_mk, uL_mk, kI_mk, kL_mk, nI_eq, wdT, wdF, wd1, wd0, li_1, li_2, li_3, li_4, li_5, li_6]
    rfl
  · simp (disch := omega) only [fn_Sa_grit, es, p2, t1, t5, wbr_T, wbr_F, wgd_T, wbq, wbv, wnm, zI_mk, zL_mk, uI_mk, uL_mk, kI_mk, kL_mk, nI_eq, wdT, wdF, wd1, wd0, li_1, li_2, li_3, li_4, li_5, li_6]
    rfl
  · simp (disch := omega) only [fn_Sa_grit, es, p2, t1, t5, wbr_T, wbr_F, wgd_T, wbq, wbv, wnm, zI_mk, zL_mk, uI_mk, uL_mk, kI_mk, kL_mk, nI_eq, wdT, wdF, wd1, wd0, li_1, li_2, li_3, li_4, li_5, li_6]
    rfl
  · rcases (by omega : a (10 * i + 4) = 0 ∨ a (10 * i + 4) = 1) with e | e <;> rw [e] at p6 ⊢
    · simp (disch := omega) only [fn_Sa_grit, es, p2, p6, t1, t5, wbr_T, wbr_F, wgd_T, wbq, wbv, wnm, zI_mk, zL_mk, uI_mk, uL_mk, kI_mk, kL_mk, nI_eq, wdT, wdF, wd1, wd0, li_0, li_1, li_2, li_3, li_4, li_5, li_6]
      rfl
    · simp (disch := omega) only [fn_Sa_grit, es, p2, p3, p6, t1, t5, wbr_T, wbr_F, wgd_T, wbq, wbv, wnm, zI_mk, zL_mk, uI_mk, uL_mk, kI_mk, kL_mk, nI_eq, wdT, wdF, wd1, wd0, li_0, li_1, li_2, li_3, li_4, li_5, li_6]
      rfl
  · simp (disch := omega) only [fn_Sa_grit, es, p2, m2, t1, t5, wbr_T, wbr_F, wgd_T, wbq, wbv, wnm, zI_mk, zL_mk, uI_mk, uL_mk, kI_mk, kL_mk, nI_eq, wdT, wdF, wd1, wd0, li_1, li_2, li_3, li_4, li_5, li_6]
    rfl
  · simp (disch := omega) only [fn_Sa_grit, es, p2, m4, p7', t1, t2, t3, t4, t5, wbr_T, wbr_F, wgd_T, wbq, wbv, wnm, zI_mk, zL_mk, uI_mk, uL_mk, kI_mk, kL_mk, nI_eq, nI_clamp, wgB, wdT, wdF, wd1, wd0, li_1, li_2, li_3, li_4, li_5, li_6]
    rfl
theorem c_takesS {p o : Nat} (h : CK T N ru f) (hs : sp p) (hP : sP p a i f) (hG : Gd a ru D) (hi : i < 6) (ho : o < 4096) : fn_Sa_takes p (nI o) (gritS (rV T N) a i) (mk f l R) = some (nI (takesN (rV T N) a i o), mk f l R) := by
  obtain ⟨g1, g2, g3, g4, g5, g6, g7⟩ := Gd_gs hG hi
  obtain ⟨p1, p2, p3, p4, p5, p6, p7⟩ := hP
  rw [c_takes hs ho p2 g1 p5 g4 h.2.2, p4, nI_takesN]
theorem c_worn {w t h : Nat} {S : zS} (hw : w ≤ 99) (ht : t ≤ 1) (hh : h ≤ 99) : fn_Sa_worn (nI w) (nI t) (nI h) S = some (nI (wornN w t h), S) := by
  unfold wornN
  rcases (by omega : t = 0 ∨ t = 1) with rfl | rfl
  · rw [if_pos rfl]
    by_cases e : w + h < 99
    · rw [Nat.min_eq_right (by omega)]
      by_cases e2 : 99 ≤ w + h <;> simp (disch := omega) only [fn_Sa_worn, fn_Jd_min, wbr_T, wbr_F, wgd_T, wbq, wbv, wnm, zI_mk, zL_mk, uI_mk, uL_mk, kI_mk, kL_mk, nI_eq, nI_add, nI_ltI, nI_leI, wdT, wdF, wd1, wd0, li_0, li_99]
    · rw [Nat.min_eq_left (by omega)]
      simp (disch := omega) only [fn_Sa_worn, fn_Jd_min, wbr_T, wbr_F, wgd_T, wbq, wbv, wnm, zI_mk, zL_mk, uI_mk, uL_mk, kI_mk, kL_mk, nI_eq, nI_add, nI_ltI, nI_leI, wdT, wdF, wd1, wd0, li_0, li_99]
  · rw [if_neg (by decide)]
    by_cases e : w + h / 2 < 99
    · rw [Nat.min_eq_right (by omega)]
      simp (disch := omega) only [fn_Sa_worn, fn_Jd_min, wbr_T, wbr_F, wgd_T, wbq, wbv, wnm, zI_mk, zL_mk, uI_mk, uL_mk, kI_mk, kL_mk, nI_eq, nI_add, nI_div, nI_ltI, nI_leI, wdT, wdF, wd1, wd0, li_0, li_2, li_99]
    · rw [Nat.min_eq_left (by omega)]
      simp (disch := omega) only [fn_Sa_worn, fn_Jd_min, wbr_T, wbr_F, wgd_T, wbq, wbv, wnm, zI_mk, zL_mk, uI_mk, uL_mk, kI_mk, kL_mk, nI_eq, nI_add, nI_div, nI_ltI, nI_leI, wdT, wdF, wd1, wd0, li_0, li_2, li_99]
end
