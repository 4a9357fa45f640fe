/-! WHAT HOLDS BETWEEN CALLS, of the class and the model together -/
theorem hbB : (∀ f l R, gT (mk f l R) 41 101 = true) ∧ (∀ f l R, gT (mk f l R) 42 6 = true) ∧ (∀ f l R, gT (mk f l R) 43 1 = true) ∧ (∀ f l R, gT (mk f l R) 44 1 = true) ∧ (∀ f l R, gT (mk f l R) 45 104 = true) ∧ (∀ f l R, gT (mk f l R) 46 1 = true) ∧ (∀ f l R, gT (mk f l R) 47 104 = true) ∧ (∀ f l R, gT (mk f l R) 48 1 = true) ∧ (∀ f l R, gT (mk f l R) 49 104 = true) ∧ (∀ f l R, gT (mk f l R) 50 1 = true)
    ∧ (∀ f l R, (zT (mk f l R) 42).2 = 6) ∧ (∀ f l R, (zT (mk f l R) 43).2 = 4) ∧ (∀ f l R, (zT (mk f l R) 44).2 = 4) ∧ (∀ f l R, (zT (mk f l R) 46).2 = 15) ∧ (∀ f l R, (zT (mk f l R) 48).2 = 24) ∧ (∀ f l R, (zT (mk f l R) 50).2 = 24)
    ∧ (∀ f l R, zR (mk f l R) 41 0 = 42) ∧ (∀ f l R, zR (mk f l R) 41 1 = 43) ∧ (∀ f l R, zR (mk f l R) 41 2 = 44) ∧ (∀ f l R, zR (mk f l R) 41 3 = 45) ∧ (∀ f l R, zR (mk f l R) 41 4 = 47) ∧ (∀ f l R, zR (mk f l R) 41 5 = 49) ∧ (∀ f l R, zR (mk f l R) 41 8 = R 41) ∧ (∀ f l R, zR (mk f l R) 45 0 = 46) ∧ (∀ f l R, zR (mk f l R) 47 0 = 48) ∧ (∀ f l R, zR (mk f l R) 49 0 = 50) ∧ (∀ f l R i, i < 6 → zR (mk f l R) 42 i = 51 + 2 * i)
    ∧ (∀ f l R i, i < 6 → gT (mk f l R) (51 + 2 * i) 105 = true) ∧ (∀ f l R i, i < 6 → gT (mk f l R) (52 + 2 * i) 1 = true) ∧ (∀ f l R i, i < 6 → (zT (mk f l R) (52 + 2 * i)).2 = 4) ∧ (∀ f l R i, i < 6 → zR (mk f l R) (51 + 2 * i) 0 = 52 + 2 * i) := hbA zb41
theorem hbC : (∀ f l R, gT (mk f l R) 16 109 = true) ∧ (∀ f l R, zR (mk f l R) 16 2 = 19) ∧ (∀ f l R, zR (mk f l R) 16 3 = 24) ∧ (∀ f l R, zR (mk f l R) 16 4 = 28) ∧ (∀ f l R, zR (mk f l R) 16 5 = 32) ∧ (∀ f l R, zR (mk f l R) 16 6 = 36) ∧ (∀ f l R, zR (mk f l R) 16 7 = 41) ∧ (∀ f l R, zR (mk f l R) 16 8 = 63) ∧ (∀ f l R, zR (mk f l R) 16 9 = 85) := ⟨fun _ _ _ => rfl, fun _ _ _ => rfl, fun _ _ _ => rfl, fun _ _ _ => rfl, fun _ _ _ => rfl, fun _ _ _ => rfl, fun _ _ _ => rfl, fun _ _ _ => rfl, fun _ _ _ => rfl⟩
/-- ranges of the rows told by hand -/
def GR (a : Nat → Nat) : Prop := (a 71 ≤ 5 ∧ a 87 ≤ 8 ∧ a 104 ≤ 8) ∧ (∀ r, r < a 71 → a (72 + 3 * r) < a 68 ∧ a (73 + 3 * r) < 4 ∧ a (74 + 3 * r) < 4096)
    ∧ (∀ r, r < a 87 → a (88 + 2 * r) ≤ 3 ∧ (a (88 + 2 * r) = 1 → a (89 + 2 * r) / 10 < a 68 ∧ a (89 + 2 * r) % 10 < 4) ∧ (2 ≤ a (88 + 2 * r) → a (89 + 2 * r) < a 68))
    ∧ ∀ r, r < a 104 → a (105 + 2 * r) < 4 ∧ a (106 + 2 * r) < 4096
def JA (ru : Nat) (f : Nat → Nat → Int32) (R : Nat → Nat) : Prop := ∃ a, cC 41 a f R ∧ (∀ k, f 138 k = nI (a k)) ∧ Gd a ru 9999 ∧ GR a
def JB (ru : Nat) (f : Nat → Nat → Int32) (R : Nat → Nat) : Prop := cN 85 f ∧ ((f 16 11 = nI 0 ∧ f 137 3 = nI 0) ∨ (f 16 11 = nI 1 ∧ f 137 3 = nI 1 ∧ ∃ b, cC 85 b f R ∧ (∀ k, k < 121 → f 140 k = nI (b k)) ∧ Gd b ru 9999 ∧ GR b))
def JC (T : Nat → Nat → Nat) (N : Nat → Nat) (ru : Nat) (f : Nat → Nat → Int32) : Prop := tRu T N ru ∧ MRu T N ru f ∧ CRu T N ru f ∧ f 16 10 = nI ru ∧ f 137 8 = nI ru
def JD (f : Nat → Nat → Int32) : Prop := ∃ (tx : Nat → Nat) (tn : Nat), tOk tx tn ∧ f 19 1 = nI tn ∧ (∀ j, j < tn → f 20 j = nI (tx j)) ∧ f 137 5 = nI tn ∧ ∀ j, j < tn → f 141 j = nI (tx j)
def tpR (t : Nat) (f : Nat → Nat → Int32) (l : Nat → Nat → Int64) : Prop := (f (125 + 2 * t) 1 = -nI 1 ∧ f 154 t = -nI 1 ∧ f (125 + 2 * t) 2 = nI 0 ∧ f 155 t = nI 0) ∨ ∃ s n, s ≤ 4 ∧ n ≤ 60 ∧ f (125 + 2 * t) 1 = nI s ∧ f 154 t = nI s ∧ f (125 + 2 * t) 2 = nI n ∧ f 155 t = nI n ∧ ∀ j, j < n → l (126 + 2 * t) j = l 156 (60 * t + j)
def JE (f : Nat → Nat → Int32) (l : Nat → Nat → Int64) : Prop := ∀ t, t < 6 → tpR t f l
def JF (f : Nat → Nat → Int32) : Prop := ∃ rn, rn < 1000 ∧ f 32 1 = nI rn ∧ f 137 27 = nI rn ∧ ∀ j, j < 20 → f 33 j = f 153 j
def BO (g : Nat → Int32) : Prop := ∀ j, j < 21 → g j = zb2.getD j 0
def JG (f : Nat → Nat → Int32) : Prop := KA (f 1) ∧ BO (f 2) ∧ ((∀ j, j < 4 → f 7 j = nI ([119, 101, 97, 114].getD j 0)) ∧ (∀ j, j < 5 → f 8 j = nI ([115, 99, 114, 117, 98].getD j 0)) ∧ ∀ j, j < 4 → f 9 j = nI ([115, 111, 102, 116].getD j 0)) ∧ mKc f ∧ KA (f 151) ∧ BO (f 152)
def Iv (f : Nat → Nat → Int32) (l : Nat → Nat → Int64) (R : Nat → Nat) : Prop := ∃ ru T N, JA ru f R ∧ JB ru f R ∧ JC T N ru f ∧ JD f ∧ JE f l ∧ JF f ∧ JG f ∧ cN 63 f
section
variable {f f' g : Nat → Nat → Int32} {l l' : Nat → Nat → Int64} {R R' : Nat → Nat} {a a' : Nat → Nat} {T : Nat → Nat → Nat} {N : Nat → Nat} {ru D b i j k x : Nat}
theorem cN_fr (h : cN b f) (hf : ∀ p j, b ≤ p → p ≤ b + 21 → f' p j = f p j) : cN b f' := ⟨fun i hi => (hf _ _ (by omega) (by omega)).trans (h.1 i hi), (hf _ _ (by omega) (by omega)).trans h.2.1, (hf _ _ (by omega) (by omega)).trans h.2.2.1, (hf _ _ (by omega) (by omega)).trans h.2.2.2⟩
theorem JA_fr (h : JA ru f R) (hR : R' 41 = R 41) (hf : ∀ p j, (41 ≤ p ∧ p ≤ 62) ∨ p = 138 → f' p j = f p j) : JA ru f' R' := by
  obtain ⟨a, h1, h2, h3, h4⟩ := h
  exact ⟨a, cC_fr h1 (fun p j q1 q2 => hf p j (Or.inl ⟨q1, q2⟩)) hR, fun k => (hf 138 k (Or.inr rfl)).trans (h2 k), h3, h4⟩
theorem JB_fr (h : JB ru f R) (hR : R' 85 = R 85) (hf : ∀ p j, (85 ≤ p ∧ p ≤ 106) ∨ p = 140 ∨ (p = 16 ∧ j = 11) ∨ (p = 137 ∧ j = 3) → f' p j = f p j) : JB ru f' R' := by
  obtain ⟨h0, h⟩ := h
  refine ⟨cN_fr h0 (fun p j q1 q2 => hf p j (Or.inl ⟨q1, q2⟩)), ?_⟩
  rcases h with ⟨h1, h2⟩ | ⟨h1, h2, b, h3, h4, h5, h6⟩
  · exact Or.inl ⟨(hf _ _ (by omega)).trans h1, (hf _ _ (by omega)).trans h2⟩
  · exact Or.inr ⟨(hf _ _ (by omega)).trans h1, (hf _ _ (by omega)).trans h2, b, cC_fr h3 (fun p j q1 q2 => hf p j (Or.inl ⟨q1, q2⟩)) hR, fun k hk => (hf _ _ (by omega)).trans (h4 k hk), h5, h6⟩
theorem JC_fr (h : JC T N ru f) (hf : ∀ p j, p = 38 ∨ (107 ≤ p ∧ p ≤ 124) ∨ p = 142 ∨ p = 143 ∨ (p = 16 ∧ j = 10) ∨ (p = 137 ∧ j = 8) → f' p j = f p j) : JC T N ru f' := by
  obtain ⟨h1, h2, ⟨⟨h3, h4⟩, h5⟩, h6, h7⟩ := h
  have hr := h1.1
  refine ⟨h1, fun r hr => ⟨(hf _ _ (by omega)).trans (h2 r hr).1, fun k hk => (hf _ _ (by omega)).trans ((h2 r hr).2 k hk)⟩, ⟨⟨(hf _ _ (by omega)).trans h3, (hf _ _ (by omega)).trans h4⟩, fun r hr => ?_⟩, (hf _ _ (by omega)).trans h6, (hf _ _ (by omega)).trans h7⟩
  have := hp_ge (r := r + 1) (by omega) (by omega)
  obtain ⟨q1, q2⟩ := h5 r hr
  exact ⟨⟨(hf _ _ (by omega)).trans q1.1, fun k hk => ⟨(hf _ _ (by omega)).trans (q1.2 k hk).1, (hf _ _ (by omega)).trans (q1.2 k hk).2⟩⟩, (hf _ _ (by omega)).trans q2⟩
theorem JD_fr (h : JD f) (hf : ∀ p j, (p = 19 ∧ j = 1) ∨ p = 20 ∨ p = 141 ∨ (p = 137 ∧ j = 5) → f' p j = f p j) : JD f' := by
  obtain ⟨tx, tn, h1, h2, h3, h4, h5⟩ := h
  exact ⟨tx, tn, h1, (hf _ _ (by omega)).trans h2, fun j hj => (hf _ _ (by omega)).trans (h3 j hj), (hf _ _ (by omega)).trans h4, fun j hj => (hf _ _ (by omega)).trans (h5 j hj)⟩
theorem tpR_fr {t : Nat} (h : tpR t f l) (hf1 : ∀ j, f' (125 + 2 * t) j = f (125 + 2 * t) j) (hf2 : f' 154 t = f 154 t) (hf3 : f' 155 t = f 155 t) (hl1 : ∀ j, l' (126 + 2 * t) j = l (126 + 2 * t) j) (hl2 : ∀ j, j < 60 → l' 156 (60 * t + j) = l 156 (60 * t + j)) : tpR t f' l' := by
  rcases h with ⟨h1, h2, h3, h4⟩ | ⟨s, n, h1, h2, h3, h4, h5, h6, h7⟩
  · exact Or.inl ⟨(hf1 _).trans h1, hf2.trans h2, (hf1 _).trans h3, hf3.trans h4⟩
  · exact Or.inr ⟨s, n, h1, h2, (hf1 _).trans h3, hf2.trans h4, (hf1 _).trans h5, hf3.trans h6, fun j hj => ((hl1 j).trans (h7 j hj)).trans (hl2 j (by omega)).symm⟩
theorem JE_fr (h : JE f l) (hf : ∀ p j, (125 ≤ p ∧ p ≤ 136) ∨ p = 154 ∨ p = 155 → f' p j = f p j) : JE f' l := fun t ht => tpR_fr (h t ht) (fun j => hf _ _ (by omega)) (hf _ _ (by omega)) (hf _ _ (by omega)) (fun _ => rfl) (fun _ _ => rfl)
theorem JF_fr (h : JF f) (hf : ∀ p j, (p = 32 ∧ j = 1) ∨ p = 33 ∨ p = 153 ∨ (p = 137 ∧ j = 27) → f' p j = f p j) : JF f' := by
  obtain ⟨rn, h1, h2, h3, h4⟩ := h
  exact ⟨rn, h1, (hf _ _ (by omega)).trans h2, (hf _ _ (by omega)).trans h3, fun j hj => by rw [hf _ _ (by omega), hf _ _ (by omega)]; exact h4 j hj⟩
theorem JG_fr (h : JG f) (hf : ∀ p j, p < 16 ∨ p = 146 ∨ p = 147 ∨ p = 151 ∨ p = 152 → f' p j = f p j) : JG f' := by
  obtain ⟨h1, h2, ⟨h3, h4, h5⟩, ⟨h6, h7⟩, h8, h9⟩ := h
  exact ⟨fun j hj => (hf _ _ (by omega)).trans (h1 j hj), fun j hj => (hf _ _ (by omega)).trans (h2 j hj), ⟨fun j hj => (hf _ _ (by omega)).trans (h3 j hj), fun j hj => (hf _ _ (by omega)).trans (h4 j hj), fun j hj => (hf _ _ (by omega)).trans (h5 j hj)⟩, ⟨fun j hj => (hf _ _ (by omega)).trans (h6 j hj), fun j hj => (hf _ _ (by omega)).trans (h7 j hj)⟩, fun j hj => (hf _ _ (by omega)).trans (h8 j hj), fun j hj => (hf _ _ (by omega)).trans (h9 j hj)⟩
theorem JG_w (h : JG f) : wKs f l R := ⟨wK_4 h.2.2.1.1, wK_5 h.2.2.1.2.1, wK_6 h.2.2.1.2.2⟩
/-- what no other group rests on: the houses 'now' and 'ahead', scratch -/
def vol (p j : Nat) : Prop := (24 ≤ p ∧ p ≤ 31) ∨ (34 ≤ p ∧ p ≤ 37) ∨ (41 ≤ p ∧ p ≤ 84) ∨ p = 138 ∨ p = 139 ∨ p = 144 ∨ p = 145 ∨ p = 148 ∨ p = 149 ∨ p = 150 ∨ (p = 137 ∧ ((10 ≤ j ∧ j ≤ 15) ∨ j = 21 ∨ j = 23)) ∨ (p = 19 ∧ (j = 2 ∨ j = 3))
def fv (f f' : Nat → Nat → Int32) : Prop := ∀ p j, ¬ vol p j → f' p j = f p j
theorem fv_r : fv f f := fun _ _ _ => rfl
theorem fv_t (h : fv f f') (h2 : fv f' g) : fv f g := fun p j q => (h2 p j q).trans (h p j q)
theorem fv_up {p j : Nat} {y : Int32} (h : vol p j) : fv f (up f p j y) := fun q i hq => by
  by_cases e : q = p
  · subst e
    exact up_nj (fun e => hq (e ▸ h))
  · exact up_np e
theorem fv_sd (h : sd f f') : fv f f' := fun p j hq => by
  unfold vol at hq
  exact h p j (by omega) (by omega) (by omega) (by omega)
theorem fv_sc (h : sc f f') : fv f f' := fv_sd (sc_sd h)
theorem fv_cd (h : cd b f f') (hb : b = 41 ∨ b = 63) : fv f f' := fun p j hq => by
  unfold vol at hq
  exact h p j (by omega)
theorem fv_of (h : ∀ p j, ¬ vol p j → f' p j = f p j) : fv f f' := h
theorem Iv_A (h : ∃ T N, JA ru f' R' ∧ JB ru f R ∧ JC T N ru f ∧ JD f ∧ JE f l ∧ JF f ∧ JG f) (hf : fv f f') (hR : R' 85 = R 85) (hN : cN 63 f') : Iv f' l R' := by
  obtain ⟨T, N, h1, h2, h3, h4, h5, h6, h7⟩ := h
  exact ⟨ru, T, N, h1, JB_fr h2 hR (fun p j q => hf p j (by unfold vol; omega)), JC_fr h3 (fun p j q => hf p j (by unfold vol; omega)), JD_fr h4 (fun p j q => hf p j (by unfold vol; omega)), JE_fr h5 (fun p j q => hf p j (by unfold vol; omega)), JF_fr h6 (fun p j q => hf p j (by unfold vol; omega)), JG_fr h7 (fun p j q => hf p j (by unfold vol; omega)), hN⟩
/-- what is asked: all is as it was -/
theorem Iv_q (h : Iv f l R) (hf : fv f f') (h1 : ∀ p j, 41 ≤ p → p ≤ 62 → f' p j = f p j) (h2 : ∀ k, f' 138 k = f 138 k) (hN : cN 63 f') (hR : R' 41 = R 41) (hR2 : R' 85 = R 85) : Iv f' l R' := by
  obtain ⟨ru, T, N, q1, q2, q3, q4, q5, q6, q7, q8⟩ := h
  exact Iv_A ⟨T, N, JA_fr q1 hR (fun p j q => by
    rcases q with q | q
    · exact h1 p j q.1 q.2
    · subst q
      exact h2 j), q2, q3, q4, q5, q6, q7⟩ hf hR2 hN
/-- the model's and the class's sides, out of what holds -/
theorem JC_MX (hC : JC T N ru f) (hG : JG f) (hA : ∀ k, f 138 k = nI (a k)) (hg : Gd a ru D) (hD : D < 2 ^ 20) : MX T N ru D a f := ⟨⟨hC.1, hC.2.1, hG.2.2.2.1⟩, hA, hg, hD⟩
theorem JC_CX (hC : JC T N ru f) (hG : JG f) (hc : cC b a f R) (hg : Gd a ru D) (hD : D < 2 ^ 20) : CX T N ru D b a f R := ⟨⟨hC.1, hC.2.2.1, hG.1⟩, hc, hg, hD⟩
theorem MX_fr (h : MX T N ru D a f) (hf : ∀ p j, 137 ≤ p → f' p j = f p j) : MX T N ru D a f' := by
  obtain ⟨⟨h1, h2, h3⟩, h4, h5⟩ := h
  exact ⟨⟨h1, fun r hr => ⟨(hf _ _ (by omega)).trans (h2 r hr).1, fun k hk => (hf _ _ (by omega)).trans ((h2 r hr).2 k hk)⟩, fun j hj => (hf _ _ (by omega)).trans (h3.1 j hj), fun j hj => (hf _ _ (by omega)).trans (h3.2 j hj)⟩, fun k => (hf _ _ (by omega)).trans (h4 k), h5⟩
/-- all but the house 'now' -/
def Re (ru : Nat) (T : Nat → Nat → Nat) (N : Nat → Nat) (f : Nat → Nat → Int32) (l : Nat → Nat → Int64) (R : Nat → Nat) : Prop := JB ru f R ∧ JC T N ru f ∧ JD f ∧ JE f l ∧ JF f ∧ JG f ∧ cN 63 f
theorem Re_JC (h : Re ru T N f l R) : JC T N ru f := h.2.1
theorem Re_JG (h : Re ru T N f l R) : JG f := h.2.2.2.2.2.1
theorem Iv_R (hA : JA ru f' R') (h : Re ru T N f l R) (hf : fv f f') (hR : R' 85 = R 85) (hN : cN 63 f') : Iv f' l R' := Iv_A ⟨T, N, hA, h.1, h.2.1, h.2.2.1, h.2.2.2.1, h.2.2.2.2.1, h.2.2.2.2.2.1⟩ hf hR hN
/-- a call, of the two: they answer alike, and all holds again -/
def OpI (C M : zS → Option (Int32 × zS)) : Prop := ∀ f l R, Iv f l R → ∃ r f1 l1 R1 f2 l2, C (mk f l R) = some (r, mk f1 l1 R1) ∧ M (mk f1 l1 R1) = some (r, mk f2 l2 R1) ∧ Iv f2 l2 R1
def OpL (C M : zS → Option (Int64 × zS)) : Prop := ∀ f l R, Iv f l R → ∃ r f1 l1 R1 f2 l2, C (mk f l R) = some (r, mk f1 l1 R1) ∧ M (mk f1 l1 R1) = some (r, mk f2 l2 R1) ∧ Iv f2 l2 R1
theorem op_same {C M : zS → Option (Int32 × zS)} {r : Int32} (h : Iv f l R) (h1 : C (mk f l R) = some (r, mk f l R)) (h2 : M (mk f l R) = some (r, mk f l R)) : ∃ r f1 l1 R1 f2 l2, C (mk f l R) = some (r, mk f1 l1 R1) ∧ M (mk f1 l1 R1) = some (r, mk f2 l2 R1) ∧ Iv f2 l2 R1 := ⟨r, f, l, R, f, l, h1, h2, h⟩
/-- a number of the row becomes another, in both -/
theorem JA_us {k x : Nat} {p q : Nat} {y : Int32} (hc : cC 41 (us a k x) (up f p q y) R) (hp : p < 137) (hA : ∀ k, f 138 k = nI (a k)) (hG : Gd a ru 9999) (hR : GR (us a k x)) (hx : k < 71 → x < rng ru 9999 k) : JA ru (up (up f p q y) 138 k (nI x)) R := by
  refine ⟨us a k x, cC_fr hc (fun p j q1 q2 => up_np (by omega)) rfl, fun j => ?_, fun j hj => ?_, hR⟩
  · by_cases e : j = k
    · subst e
      rw [up_eq, us_eq]
    · rw [up_nj e, us_ne e, up_np (by omega)]
      exact hA j
  · by_cases e : j = k
    · subst e
      rw [us_eq]
      exact hx hj
    · rw [us_ne e]
      exact hG j hj
theorem Iv_us {k x : Nat} {p q : Nat} {y : Int32} (hE : Re ru T N f l R) (hc : cC 41 (us a k x) (up f p q y) R) (h1 : 41 ≤ p) (h2 : p ≤ 62) (hA : ∀ k, f 138 k = nI (a k)) (hG : Gd a ru 9999) (hR : GR (us a k x)) (hx : k < 71 → x < rng ru 9999 k) : Iv (up (up f p q y) 138 k (nI x)) l R :=
  Iv_R (JA_us hc (by omega) hA hG hR hx) hE (fv_t (fv_up (by unfold vol; omega)) (fv_up (by unfold vol; omega))) rfl (cN_fr hE.2.2.2.2.2.2 (fun r j q1 q2 => by rw [up_np (by omega), up_np (by omega)]))
theorem GR_us (h : GR a) (hk : k < 68 ∨ k = 69 ∨ k = 70) : GR (us a k x) := by
  have e : ∀ j, j = 68 ∨ 71 ≤ j → us a k x j = a j := fun j hj => us_ne (by omega)
  unfold GR
  rw [e 68 (by omega), e 71 (by omega), e 87 (by omega), e 104 (by omega)]
  refine ⟨h.1, fun r hr => ?_, fun r hr => ?_, fun r hr => ?_⟩
  · rw [e _ (by omega), e _ (by omega), e _ (by omega)]
    exact h.2.1 r hr
  · rw [e _ (by omega), e _ (by omega)]
    exact h.2.2.1 r hr
  · rw [e _ (by omega), e _ (by omega)]
    exact h.2.2.2 r hr
theorem GR_ext (h : GR a) (e : ∀ j, (j = 68 ∨ 71 ≤ j) → j < 121 → a' j = a j) : GR a' := by
  obtain ⟨⟨z1, z2, z3⟩, h1, h2, h3⟩ := h
  unfold GR
  rw [e 68 (by omega) (by omega), e 71 (by omega) (by omega), e 87 (by omega) (by omega), e 104 (by omega) (by omega)]
  refine ⟨⟨z1, z2, z3⟩, fun r hr => ?_, fun r hr => ?_, fun r hr => ?_⟩
  · rw [e _ (by omega) (by omega), e _ (by omega) (by omega), e _ (by omega) (by omega)]
    exact h1 r hr
  · rw [e _ (by omega) (by omega), e _ (by omega) (by omega)]
    exact h2 r hr
  · rw [e _ (by omega) (by omega), e _ (by omega) (by omega)]
    exact h3 r hr
theorem Gd_ext (h : Gd a ru D) (e : ∀ j, j < 71 → a' j = a j) : Gd a' ru D := fun k hk => by
  rw [e k hk]
  exact h k hk
end
/-! ints that are given: out of a range -/
section
variable {x : Int32} {n lo hi : Nat} {S : zS}
theorem ox_le (h : ox x (n + 1)) (h0 : ¬ x < 0) (hn : n + 1 < 2 ^ 31) : ¬ x ≤ nI n := by
  intro h2
  rcases h with h | h
  · exact h0 h
  · have h1 := nI_toInt hn
    have h3 := nI_toInt (show n < 2 ^ 31 by omega)
    have e1 := Int32.le_iff_toInt_le.mp h
    have e2 := Int32.le_iff_toInt_le.mp h2
    omega
theorem ox_ge (h : ox x n) (h0 : ¬ x < 0) : nI n ≤ x := by
  rcases h with h | h
  · exact absurd h h0
  · exact h
theorem ox_nlt (h : ox x n) (h0 : ¬ x < 0) : ¬ x < nI n := by
  have h2 := ox_ge h h0
  intro h3
  have e1 := Int32.le_iff_toInt_le.mp h2
  have e2 := Int32.lt_iff_toInt_lt.mp h3
  omega
theorem ox_gt (h : ox x (n + 1)) (h0 : ¬ x < 0) (hn : n + 1 < 2 ^ 31) : nI n < x := by
  have h2 := ox_ge h h0
  have e1 := Int32.le_iff_toInt_le.mp h2
  have h1 := nI_toInt hn
  have h3 := nI_toInt (show n < 2 ^ 31 by omega)
  rw [Int32.lt_iff_toInt_lt]
  omega
/-- an int in no range -/
theorem isIn_no (hh : hi < 2 ^ 31) (hl : lo ≤ hi) (h : ∀ k, lo ≤ k → k ≤ hi → ¬ x = nI k) : fn_Mo_isIn x (nI lo) (nI hi) S = some (0, S) := by
  unfold fn_Mo_isIn
  by_cases h1 : x < nI lo
  · rw [wdT h1]; rfl
  · by_cases h2 : nI hi < x
    · rw [wdF h1, wdT h2]; rfl
    · exfalso
      have t1 := nI_toInt (show lo < 2 ^ 31 by omega)
      have t2 := nI_toInt hh
      have e1 : ¬ x.toInt < (nI lo).toInt := fun q => h1 (Int32.lt_iff_toInt_lt.mpr q)
      have e2 : ¬ (nI hi).toInt < x.toInt := fun q => h2 (Int32.lt_iff_toInt_lt.mpr q)
      have h0 : ¬ x < 0 := by
        rw [Int32.lt_iff_toInt_lt]
        have : (0 : Int32).toInt = 0 := rfl
        omega
      obtain ⟨j, hj, rfl⟩ := nI_of h0
      have t3 := nI_toInt hj
      exact h j (by omega) (by omega) rfl
/-- an int less c is one of 0 .. n - 1, or not -/
theorem ix_less (x : Int32) (c : Nat) {n : Nat} (hn : n < 2 ^ 31) : (∃ k, k < n ∧ x = nI (c + k)) ∨ (ox (x - nI c) n ∧ ∀ k, c ≤ k → k < c + n → ¬ x = nI k) := by
  rcases ix_or (x - nI c) hn with ⟨k, hk, e⟩ | h
  · left
    refine ⟨k, hk, ?_⟩
    have : x = (x - nI c) + nI c := (Int32.sub_add_cancel x (nI c)).symm
    rw [this, e, nI_add, Nat.add_comm]
  · refine Or.inr ⟨h, fun k h1 h2 e => ?_⟩
    rw [e, nI_sub h1] at h
    rcases h with h | h
    · exact absurd h (nI_pos (by omega))
    · exact absurd h (nI_ge (by omega) hn)
end
