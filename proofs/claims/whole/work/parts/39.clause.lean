/-! THE READER of the class: words, clauses, the whole -/
section
variable {f f' : Nat → Nat → Int32} {l : Nat → Nat → Int64} {R : Nat → Nat} {T : Nat → Nat} {n k : Nat}
theorem pW_go : ∀ (w : List Nat) (k : Nat), (∀ c, c ∈ w → c < 128) → k ≤ n → k ≤ (pW T n w k).2 ∧ (pW T n w k).2 ≤ n
  | [], k, _, hk => ⟨Nat.le_refl _, hk⟩
  | c :: w, k, h, hk => by
    unfold pW
    by_cases e : sg T n k = c
    · have hc := h c List.mem_cons_self
      have l1 := sg_lt e (by omega)
      rw [if_pos e]
      have := pW_go w (k + 1) (fun x hx => h x (List.mem_cons_of_mem _ hx)) (by omega)
      exact ⟨by omega, this.2⟩
    · rw [if_neg e]
      exact ⟨Nat.le_refl _, hk⟩
theorem pW_app : ∀ (a b : List Nat) (k : Nat), pW T n (a ++ b) k = if (pW T n a k).1 = true then pW T n b (pW T n a k).2 else (false, (pW T n a k).2)
  | [], b, k => by
    show pW T n b k = if (true = true) then pW T n b k else _
    rw [if_pos rfl]
  | c :: a, b, k => by
    show (if sg T n k = c then pW T n (a ++ b) (k + 1) else (false, k)) = if (if sg T n k = c then pW T n a (k + 1) else (false, k)).1 = true then pW T n b (if sg T n k = c then pW T n a (k + 1) else (false, k)).2 else (false, (if sg T n k = c then pW T n a (k + 1) else (false, k)).2)
    by_cases e : sg T n k = c
    · rw [if_pos e, if_pos e]
      exact pW_app a b (k + 1)
    · rw [if_neg e, if_neg e, if_neg (fun q => by cases q)]
/-- a text at place w, its bytes ws three places on -/
def wK (f : Nat → Nat → Int32) (l : Nat → Nat → Int64) (R : Nat → Nat) (w : Nat) (ws : List Nat) : Prop :=
  (∀ f : Nat → Nat → Int32, gT (mk f l R) w 7 = true ∧ zR (mk f l R) w 0 = w + 3 ∧ gT (mk f l R) (w + 3) 8 = true ∧ (zT (mk f l R) (w + 3)).2 = ws.length) ∧ w < 10 ∧ ws.length < 10 ∧ (∀ c, c ∈ ws → c < 128) ∧ ∀ j, j < ws.length → f (w + 3) j = nI (ws.getD j 0)
theorem wK_4 (h : ∀ j, j < 4 → f 7 j = nI ([119, 101, 97, 114].getD j 0)) : wK f l R 4 [119, 101, 97, 114] := ⟨fun _ => ⟨rfl, rfl, rfl, rfl⟩, by decide, by decide, by decide, h⟩
theorem wK_5 (h : ∀ j, j < 5 → f 8 j = nI ([115, 99, 114, 117, 98].getD j 0)) : wK f l R 5 [115, 99, 114, 117, 98] := ⟨fun _ => ⟨rfl, rfl, rfl, rfl⟩, by decide, by decide, by decide, h⟩
theorem wK_6 (h : ∀ j, j < 4 → f 9 j = nI ([115, 111, 102, 116].getD j 0)) : wK f l R 6 [115, 111, 102, 116] := ⟨fun _ => ⟨rfl, rfl, rfl, rfl⟩, by decide, by decide, by decide, h⟩
theorem wK_fr {w : Nat} {ws : List Nat} (h : wK f l R w ws) (h9 : fr9 f f') : wK f' l R w ws := ⟨h.1, h.2.1, h.2.2.1, h.2.2.2.1, fun j hj => (h9 (w + 3) j (fun q => by have := h.2.1; omega)).trans (h.2.2.2.2 j hj)⟩
theorem gC_n {c : Nat} (hc : c < 128) : gC (nI c) = true ∧ ((nI c &&& (255 : Int32)).toUInt32 % 65536).toInt32 = nI c := by
  have : ∀ c, c < 128 → gC (nI c) = true ∧ ((nI c &&& (255 : Int32)).toUInt32 % 65536).toInt32 = nI c := by decide +kernel
  exact this c hc
theorem c_length {w : Nat} {ws : List Nat} (h : wK f l R w ws) : fn_Js_length w (mk f l R) = some (nI ws.length, mk f l R) := by
  obtain ⟨g1, g2, g3, g4⟩ := h.1 f
  have e : Int32.ofNat ws.length >>> ((0 : Int32) &&& 31) = nI ws.length := by
    have : ∀ m, m < 10 → Int32.ofNat m >>> ((0 : Int32) &&& 31) = nI m := by decide
    exact this _ h.2.2.1
  simp only [fn_Js_length, fn_Js_coder, g1, g2, g3, g4, e, wbr_T, wbr_F, wgd_T, wbq, wbv, wnm, zI_mk, zL_mk, uI_mk, uL_mk, kI_mk, kL_mk, show decide ((1 : Int32) = 0) = false from rfl]
theorem c_charAt {w j : Nat} {ws : List Nat} (h : wK f l R w ws) (hj : j < ws.length) : fn_Js_charAt w (nI j) (mk f l R) = some (nI (ws.getD j 0), mk f l R) := by
  obtain ⟨g1, g2, g3, g4⟩ := h.1 f
  have hl := h.2.2.1
  have hc : ws.getD j 0 < 128 := by
    rw [List.getD_eq_getElem?_getD, List.getElem?_eq_getElem hj]
    exact h.2.2.2.1 _ (List.getElem_mem hj)
  have g5 := h.2.2.2.2 j hj
  obtain ⟨c1, c2⟩ := gC_n hc
  simp (disch := omega) only [fn_Js_charAt, fn_Js_isLatin1, fn_Jl_charAt, fn_Js_checkIndex, fn_Jp_checkIndex, g1, g2, g3, g4, g5, c1, c2, wbr_T, wbr_F, wgd_T, wbq, wbv, wnm, zI_mk, zL_mk, uI_mk, uL_mk, kI_mk, kL_mk, nI_ltI, nI_clamp, wgB, wdT, wdF, wd1, wd0, show decide ((1 : Int32) = 0) = false from rfl, show decide ((0 : Int32) = 0) = true from rfl, show ∀ m, Int32.ofNat m = nI m from fun _ => rfl, show ∀ m, m < 2 ^ 31 → decide (nI m < 0) = false from fun m hm => wdF (nI_pos hm)]
theorem c_word_lp (hT : tOk T n) {w : Nat} {ws : List Nat} : ∀ (e j k G : Nat) (f : Nat → Nat → Int32), j + e = ws.length → e < G → wK f l R w ws → RP T n k f → k ≤ n →
    ∃ f', lp (σ := Nat × Nat × Int32 × zS) (fun k s => fn_Re_word_L2 s.1 s.2.1 s.2.2.1 s.2.2.2 (fun (a0 : Nat) (a1 : Nat) (a2 : Int32) (S : zS) => k (a0, a1, a2, S))) G (19, w, nI j, mk f l R) = some (nI (vb (pW T n (ws.drop j) k).1), mk f' l R) ∧ RP T n (pW T n (ws.drop j) k).2 f' ∧ fr9 f f'
  | 0, j, k, G, f, he, hG, hw, hP, hk => by
    obtain ⟨G, rfl⟩ : ∃ H, G = H + 1 := ⟨G - 1, by omega⟩
    have hn := hT.1
    obtain ⟨g1, g2, g3, g4⟩ := hw.1 f
    have hl := hw.2.2.1
    rw [lpS, List.drop_of_length_le (by omega)]
    show ∃ f', fn_Re_word_L2 19 w (nI j) (mk f l R) _ = _ ∧ _
    refine ⟨f, ?_, hP, fr9_r⟩
    simp (disch := omega) only [fn_Re_word_L2, c_length hw, g1, wbr_T, wbr_F, wgd_T, wbq, wbv, wnm, zI_mk, zL_mk, uI_mk, uL_mk, kI_mk, kL_mk, nI_leI, wdT, wdF, wd1, wd0]
    rfl
  | e + 1, j, k, G, f, he, hG, hw, hP, hk => by
    obtain ⟨G, rfl⟩ : ∃ H, G = H + 1 := ⟨G - 1, by omega⟩
    have hn := hT.1
    have hj : j < ws.length := by omega
    obtain ⟨g1, g2, g3, g4⟩ := hw.1 f
    have hl := hw.2.2.1
    have hc : ws.getD j 0 < 128 := by
      rw [List.getD_eq_getElem?_getD, List.getElem?_eq_getElem hj]
      exact hw.2.2.2.1 _ (List.getElem_mem hj)
    have hdr : ws.drop j = ws.getD j 0 :: ws.drop (j + 1) := by
      rw [List.getD_eq_getElem?_getD, List.getElem?_eq_getElem hj]
      exact List.drop_eq_getElem_cons hj
    have e1 := c_eat (l := l) (R := R) hT hP hk hc
    rw [lpS, hdr]
    show ∃ f', fn_Re_word_L2 19 w (nI j) (mk f l R) _ = _ ∧ _
    unfold pW
    by_cases h1 : sg T n k = ws.getD j 0
    · have hkn := sg_lt h1 (by omega)
      rw [if_pos h1] at e1 ⊢
      obtain ⟨f1, e2, r2, fr2⟩ := c_word_lp hT e (j + 1) (k + 1) G (up f 19 2 (nI (k + 1))) (by omega) (by omega) (wK_fr hw (up9 (Or.inl rfl))) (RP_up hP) (by omega)
      refine ⟨f1, ?_, r2, fr9_t (up9 (Or.inl rfl)) fr2⟩
      simp (disch := omega) only [fn_Re_word_L2, c_length hw, c_charAt hw hj, e1, g1, gT_mk_19, wbr_T, wbr_F, wgd_T, wbq, wbv, wnm, zI_mk, zL_mk, uI_mk, uL_mk, kI_mk, kL_mk, nI_leI, nI_eq, wdT, wdF, wd1, wd0, nI_add, li_0, li_1]
      exact e2
    · rw [if_neg h1] at e1 ⊢
      refine ⟨f, ?_, hP, fr9_r⟩
      simp (disch := omega) only [fn_Re_word_L2, c_length hw, c_charAt hw hj, e1, g1, gT_mk_19, wbr_T, wbr_F, wgd_T, wbq, wbv, wnm, zI_mk, zL_mk, uI_mk, uL_mk, kI_mk, kL_mk, nI_leI, nI_eq, wdT, wdF, wd1, wd0, nI_add, li_0, li_1]
      rfl
theorem c_word (hT : tOk T n) {w : Nat} {ws : List Nat} (hw : wK f l R w ws) (hP : RP T n k f) (hk : k ≤ n) : ∃ f', fn_Re_word 19 w (mk f l R) = some (nI (vb (pW T n ws k).1), mk f' l R) ∧ RP T n (pW T n ws k).2 f' ∧ fr9 f f' := by
  have hl := hw.2.2.1
  exact c_word_lp hT ws.length 0 k FU f (by omega) (by show ws.length < 5000; omega) hw hP hk
/-- the word and its blank -/
theorem pW_sp {ws : List Nat} (h : (pW T n ws k).1 = true) (h2 : sg T n (pW T n ws k).2 = 32) : pW T n (ws ++ [32]) k = (true, (pW T n ws k).2 + 1) := by
  rw [pW_app, if_pos h]
  show (if sg T n (pW T n ws k).2 = 32 then (true, (pW T n ws k).2 + 1) else (false, (pW T n ws k).2)) = _
  rw [if_pos h2]
theorem pW_sp0 {ws : List Nat} (h : (pW T n ws k).1 = true) (h2 : ¬ sg T n (pW T n ws k).2 = 32) : pW T n (ws ++ [32]) k = (false, (pW T n ws k).2) := by
  rw [pW_app, if_pos h]
  show (if sg T n (pW T n ws k).2 = 32 then (true, (pW T n ws k).2 + 1) else (false, (pW T n ws k).2)) = _
  rw [if_neg h2]
theorem pW_no {ws : List Nat} (h : ¬ (pW T n ws k).1 = true) : pW T n (ws ++ [32]) k = (false, (pW T n ws k).2) := by
  rw [pW_app, if_neg h]
/-- a clause's run is as the pure reader says -/
def frC (o : Nat) (f f' : Nat → Nat → Int32) : Prop := ∀ p j, ¬ p = o → ¬ p = o + 1 → ¬ p = o + 2 → (p = 19 → ¬ j = 2 ∧ ¬ j = 3) → f' p j = f p j
theorem frC_r {o : Nat} : frC o f f := fun _ _ _ _ _ _ => rfl
theorem frO_C {o : Nat} (h : frO o f f') : frC o f f' := fun p j a b c d => h p j b c d (fun q => absurd q a)
theorem frC_t {o : Nat} {g : Nat → Nat → Int32} (h : frC o f f') (h2 : frC o f' g) : frC o f g := fun p j a b c d => (h2 p j a b c d).trans (h p j a b c d)
def RC (T : Nat → Nat) (n : Nat) (f : Nat → Nat → Int32) (l : Nat → Nat → Int64) (R : Nat → Nat) (o : Nat) (c : List (Nat × Nat)) (X : Option (Int32 × zS)) (r : pC) : Prop :=
  ∃ f', X = some (nI (vb r.1), mk f' l R) ∧ RP T n r.2.1 f' ∧ (r.1 = true → OP f' o (c ++ r.2.2.1) ∧ f' o 3 = nI r.2.2.2.1) ∧ frC o f f'
theorem frO_3 {o : Nat} (ho : 107 ≤ o) (h : frO o f f') : f' o 3 = f o 3 := h o 3 (by omega) (by omega) (fun q => by omega) (fun _ => by decide)
theorem c_sc {r w : Nat} {ws : List Nat} {c : List (Nat × Nat)} {b : Bool} {h : Nat} {s : (Nat → Nat) → Int32} (hT : tOk T n) (h0 : 0 < r) (hr : r ≤ 6) (hR : R 19 = hp r) (hw : wK f l R w ws) (hP : RP T n k f) (hk : k ≤ n) (hO : OP f (hp r) c) (hc : c.length ≤ k) (hh : f (hp r) 3 = nI h) :
    RC T n f l R (hp r) c (fn_Re_clause_L78 19 (nI (vb b)) 19 w (mk f l R)) (pSc T n b (ws ++ [32]) k h s) := by
  have hn := hT.1
  have hge := hp_ge h0 hr
  obtain ⟨f1, e1, r1, fr1⟩ := c_word hT hw hP hk
  have wg := pW_go (T := T) (n := n) ws k hw.2.2.2.1 hk
  have e2 := c_eat (l := l) (R := R) hT r1 wg.2 (c := 32) (by decide)
  unfold pSc
  by_cases h1 : (pW T n ws k).1 = true
  · rw [h1, vb_T] at e1
    by_cases h2 : sg T n (pW T n ws k).2 = 32
    · have hkn := sg_lt h2 (by decide)
      rw [pW_sp h1 h2, if_pos rfl]
      rw [if_pos h2] at e2
      dsimp only
      generalize (pW T n ws k).2 = k1 at *
      have q2 : RP T n (k1 + 1) (up f1 19 2 (nI (k1 + 1))) := RP_up r1
      obtain ⟨f3, e3, r3, n3, fr3⟩ := c_numeral (l := l) (R := R) hT q2 (by omega)
      have fr13 := fr9_t fr1 (fr9_t (up9 (Or.inl rfl)) fr3)
      by_cases h3 : (pNum T n (k1 + 1)).1 = true
      · rw [if_pos h3]
        rw [h3, vb_T] at e3
        have nn := n3 h3
        have ng := pNum_ok h3
        generalize pNum T n (k1 + 1) = q at *
        obtain ⟨qa, k3, qn⟩ := q
        dsimp only at *
        have e4 := c_eat (l := l) (R := R) hT r3 ng.2.1 (c := 32) (by decide)
        by_cases h4 : sg T n k3 = 32
        · have hkn4 := sg_lt h4 (by decide)
          rw [if_pos h4] at e4 ⊢
          have q4 : RP T n (k3 + 1) (up f3 19 2 (nI (k3 + 1))) := RP_up r3
          have fr14 := fr9_t fr13 (up9 (x := nI (k3 + 1)) (Or.inl rfl))
          have hO4 := OP_fr hge.1 hO fr14
          obtain ⟨f5, e5, r5, p5, fr5⟩ := c_either (l := l) hT h0 hr hR q4 (by omega) hO4 (by omega)
          have fr15 := frO_t (fr9_O fr14) fr5
          by_cases h5 : (pE T n (pF T n 4) (k3 + 1)).1 = true
          · rw [if_pos h5]
            rw [h5, vb_T] at e5
            have g5 := pE_go (pF_go (T := T) 4) (k3 + 1) h5
            have hO5 := p5 h5
            have e6 := fun a => c_put (l := l) (R := R) (a := a) (b := qn) h0 hr hO5 (by rw [List.length_append]; omega)
            have t1 := hp_T (f := f5) (l := l) (R := R) hr
            refine ⟨up (up (up f5 (hp r + 1) (c ++ (pE T n (pF T n 4) (k3 + 1)).2.2.1).length (nI (if b = true then 83 else 115))) (hp r + 2) (c ++ (pE T n (pF T n 4) (k3 + 1)).2.2.1).length (nI qn)) (hp r) 2 (nI ((c ++ (pE T n (pF T n 4) (k3 + 1)).2.2.1).length + 1)), ?_, RP_put hge.1 r5, fun _ => ⟨?_, ?_⟩, frO_C (frO_t fr15 fr_put)⟩
            · cases b
              · simp (disch := omega) only [fn_Re_clause_L78, e1, e2, e3, e4, e5, nn, t1, hR, vb_F, gT_mk_19, zR_mk_19_4, wbr_T, wbr_F, wgd_T, wbq, wbv, wnm, zI_mk, zL_mk, uI_mk, uL_mk, kI_mk, kL_mk, nI_eq, wdT, wdF, wd1, wd0, li_0, li_1, li_32, li_115]
                rw [e6 115]
                rfl
              · simp (disch := omega) only [fn_Re_clause_L78, e1, e2, e3, e4, e5, nn, t1, hR, vb_T, gT_mk_19, zR_mk_19_4, wbr_T, wbr_F, wgd_T, wbq, wbv, wnm, zI_mk, zL_mk, uI_mk, uL_mk, kI_mk, kL_mk, nI_eq, wdT, wdF, wd1, wd0, li_0, li_1, li_32, li_83]
                rw [e6 83]
                rfl
            · have := OP_put (a := if b = true then 83 else 115) (b := qn) hO5
              rw [List.append_assoc] at this
              exact this
            · rw [frO_3 hge.1 fr_put, frO_3 hge.1 fr15]
              exact hh
          · rw [if_neg h5]
            rw [Bool.eq_false_iff.mpr h5, vb_F] at e5
            refine ⟨f5, ?_, r5, (fun q => by cases q), frO_C fr15⟩
            simp (disch := omega) only [fn_Re_clause_L78, e1, e2, e3, e4, e5, nn, gT_mk_19, wbr_T, wbr_F, wgd_T, wbq, wbv, wnm, zI_mk, zL_mk, uI_mk, uL_mk, kI_mk, kL_mk, nI_eq, wdT, wdF, wd1, wd0, li_0, li_1, li_32]
            rfl
        · rw [if_neg h4] at e4 ⊢
          refine ⟨f3, ?_, r3, (fun q => by cases q), frO_C (fr9_O fr13)⟩
          simp (disch := omega) only [fn_Re_clause_L78, e1, e2, e3, e4, nn, gT_mk_19, wbr_T, wbr_F, wgd_T, wbq, wbv, wnm, zI_mk, zL_mk, uI_mk, uL_mk, kI_mk, kL_mk, nI_eq, wdT, wdF, wd1, wd0, li_0, li_1, li_32]
          rfl
      · rw [if_neg h3]
        rw [Bool.eq_false_iff.mpr h3, vb_F] at e3
        refine ⟨f3, ?_, r3, (fun q => by cases q), frO_C (fr9_O fr13)⟩
        simp (disch := omega) only [fn_Re_clause_L78, e1, e2, e3, gT_mk_19, wbr_T, wbr_F, wgd_T, wbq, wbv, wnm, zI_mk, zL_mk, uI_mk, uL_mk, kI_mk, kL_mk, nI_eq, wdT, wdF, wd1, wd0, li_0, li_1, li_32]
        rfl
    · rw [pW_sp0 h1 h2, if_neg (fun q => by cases q)]
      rw [if_neg h2] at e2
      refine ⟨f1, ?_, r1, (fun q => by cases q), frO_C (fr9_O fr1)⟩
      simp (disch := omega) only [fn_Re_clause_L78, e1, e2, gT_mk_19, wbr_T, wbr_F, wgd_T, wbq, wbv, wnm, zI_mk, zL_mk, uI_mk, uL_mk, kI_mk, kL_mk, nI_eq, wdT, wdF, wd1, wd0, li_0, li_1, li_32]
      rfl
  · rw [Bool.eq_false_iff.mpr h1, vb_F] at e1
    rw [pW_no h1, if_neg (fun q => by cases q)]
    refine ⟨f1, ?_, r1, (fun q => by cases q), frO_C (fr9_O fr1)⟩
    simp (disch := omega) only [fn_Re_clause_L78, e1, gT_mk_19, wbr_T, wbr_F, wgd_T, wbq, wbv, wnm, zI_mk, zL_mk, uI_mk, uL_mk, kI_mk, kL_mk, nI_eq, wdT, wdF, wd1, wd0, li_0, li_1, li_32]
    rfl
/-- the three words -/
def wKs (f : Nat → Nat → Int32) (l : Nat → Nat → Int64) (R : Nat → Nat) : Prop := wK f l R 4 [119, 101, 97, 114] ∧ wK f l R 5 [115, 99, 114, 117, 98] ∧ wK f l R 6 [115, 111, 102, 116]
theorem c_clause {r : Nat} {c : List (Nat × Nat)} {h : Nat} {s : (Nat → Nat) → Int32} (hT : tOk T n) (h0 : 0 < r) (hr : r ≤ 6) (hR : R 19 = hp r) (hw : wKs f l R) (hP : RP T n k f) (hk : k ≤ n) (hO : OP f (hp r) c) (hc : c.length ≤ k) (hh : f (hp r) 3 = nI h) :
    RC T n f l R (hp r) c (fn_Re_clause 19 (mk f l R)) (pCl T n k h s) := by
  have hn := hT.1
  have hge := hp_ge h0 hr
  have e0 : fn_Re_sign 19 (nI 0) (mk f l R) = some (sI T n k, mk f l R) := c_sign (l := l) (R := R) hT hP hk (d := 0) (by decide)
  have e1 := c_sign (l := l) (R := R) hT hP hk (d := 1) (by decide)
  have s0 := sI_eq (k := k) hT (c := 115) (by decide)
  have s1 := sI_eq (k := k + 1) hT (c := 99) (by decide)
  unfold pCl
  by_cases h1 : sg T n k = 115
  · rw [if_pos h1]
    have s0' := s0.mpr h1
    by_cases h2 : sg T n (k + 1) = 99
    · rw [if_pos h2]
      have s1' := s1.mpr h2
      obtain ⟨f2, e2, r2⟩ := c_sc (b := true) (h := h) (s := s) hT h0 hr hR hw.2.1 hP hk hO hc hh
      refine ⟨f2, ?_, r2⟩
      simp (disch := omega) only [fn_Re_clause, e0, e1, s0', s1', gT_mk_19, wbr_T, wbr_F, wgd_T, wbq, wbv, wnm, zI_mk, zL_mk, uI_mk, uL_mk, kI_mk, kL_mk, nI_eq, wdT, wdF, wd1, wd0, li_0, li_1, li_115, li_99]
      exact e2
    · rw [if_neg h2]
      have s1' : ¬ sI T n (k + 1) = nI 99 := fun q => h2 (s1.mp q)
      obtain ⟨f2, e2, r2⟩ := c_sc (b := false) (h := h) (s := s) hT h0 hr hR hw.2.2 hP hk hO hc hh
      refine ⟨f2, ?_, r2⟩
      simp (disch := omega) only [fn_Re_clause, e0, e1, s0', s1', gT_mk_19, wbr_T, wbr_F, wgd_T, wbq, wbv, wnm, zI_mk, zL_mk, uI_mk, uL_mk, kI_mk, kL_mk, nI_eq, wdT, wdF, wd1, wd0, li_0, li_1, li_115, li_99]
      exact e2
  · rw [if_neg h1]
    have s0' : ¬ sI T n k = nI 115 := fun q => h1 (s0.mp q)
    obtain ⟨f1, e2, r1, fr1⟩ := c_word hT hw.1 hP hk
    have wg := pW_go (T := T) (n := n) [119, 101, 97, 114] k (by decide) hk
    have e3 := c_eat (l := l) (R := R) hT r1 wg.2 (c := 32) (by decide)
    rw [show wdW = [119, 101, 97, 114] ++ [32] from rfl]
    by_cases h3 : (pW T n [119, 101, 97, 114] k).1 = true
    · rw [h3, vb_T] at e2
      by_cases h4 : sg T n (pW T n [119, 101, 97, 114] k).2 = 32
      · have hkn := sg_lt h4 (by decide)
        rw [pW_sp h3 h4, if_pos rfl]
        rw [if_pos h4] at e3
        dsimp only
        generalize (pW T n [119, 101, 97, 114] k).2 = k1 at *
        have q2 : RP T n (k1 + 1) (up f1 19 2 (nI (k1 + 1))) := RP_up r1
        obtain ⟨f3, e4, r3, n3, fr3⟩ := c_numeral (l := l) (R := R) hT q2 (by omega)
        have fr13 := fr9_t fr1 (fr9_t (up9 (Or.inl rfl)) fr3)
        by_cases h5 : (pNum T n (k1 + 1)).1 = true
        · rw [if_pos h5]
          rw [h5, vb_T] at e4
          have nn := n3 h5
          have hO3 := OP_fr hge.1 hO fr13
          have t1 := hp_T (f := f3) (l := l) (R := R) hr
          refine ⟨up f3 (hp r) 3 (nI (pNum T n (k1 + 1)).2.2), ?_, ⟨?_, ?_, fun j hj => ?_⟩, fun _ => ⟨⟨?_, fun j hj => ?_⟩, up_eq⟩, ?_⟩
          · simp (disch := omega) only [fn_Re_clause, e0, s0', e2, e3, e4, nn, t1, hR, gT_mk_19, zR_mk_19_4, wbr_T, wbr_F, wgd_T, wbq, wbv, wnm, zI_mk, zL_mk, uI_mk, uL_mk, kI_mk, kL_mk, nI_eq, wdT, wdF, wd1, wd0, li_0, li_1, li_115, li_32]
            rfl
          · rw [up_np (by omega)]
            exact r3.1
          · rw [up_np (by omega)]
            exact r3.2.1
          · rw [up_np (by omega)]
            exact r3.2.2 j hj
          · rw [up_nj (by decide), List.append_nil]
            exact hO3.1
          · rw [List.append_nil] at hj ⊢
            rw [up_np (by omega), up_np (by omega)]
            exact hO3.2 j hj
          · exact frC_t (frO_C (fr9_O fr13)) (fun p j a b c d => up_np a)
        · rw [if_neg h5]
          rw [Bool.eq_false_iff.mpr h5, vb_F] at e4
          refine ⟨f3, ?_, r3, (fun q => by cases q), frO_C (fr9_O fr13)⟩
          simp (disch := omega) only [fn_Re_clause, e0, s0', e2, e3, e4, gT_mk_19, wbr_T, wbr_F, wgd_T, wbq, wbv, wnm, zI_mk, zL_mk, uI_mk, uL_mk, kI_mk, kL_mk, nI_eq, wdT, wdF, wd1, wd0, li_0, li_1, li_115, li_32]
          rfl
      · rw [pW_sp0 h3 h4, if_neg (fun q => by cases q)]
        rw [if_neg h4] at e3
        refine ⟨f1, ?_, r1, (fun q => by cases q), frO_C (fr9_O fr1)⟩
        simp (disch := omega) only [fn_Re_clause, e0, s0', e2, e3, gT_mk_19, wbr_T, wbr_F, wgd_T, wbq, wbv, wnm, zI_mk, zL_mk, uI_mk, uL_mk, kI_mk, kL_mk, nI_eq, wdT, wdF, wd1, wd0, li_0, li_1, li_115, li_32]
        rfl
    · rw [Bool.eq_false_iff.mpr h3, vb_F] at e2
      rw [pW_no h3, if_neg (fun q => by cases q)]
      refine ⟨f1, ?_, r1, (fun q => by cases q), frO_C (fr9_O fr1)⟩
      simp (disch := omega) only [fn_Re_clause, e0, s0', e2, gT_mk_19, wbr_T, wbr_F, wgd_T, wbq, wbv, wnm, zI_mk, zL_mk, uI_mk, uL_mk, kI_mk, kL_mk, nI_eq, wdT, wdF, wd1, wd0, li_0, li_1, li_115, li_32]
      rfl
theorem pSc_go {b : Bool} {w : List Nat} {h : Nat} {s : (Nat → Nat) → Int32} (hw : ∀ c, c ∈ w → c < 128) (hk : k ≤ n) (g : (pSc T n b w k h s).1 = true) : k ≤ (pSc T n b w k h s).2.1 ∧ (pSc T n b w k h s).2.1 ≤ n ∧ (pSc T n b w k h s).2.2.1.length + k ≤ (pSc T n b w k h s).2.1 := by
  have wg := pW_go (T := T) (n := n) w k hw hk
  unfold pSc at g ⊢
  by_cases h1 : (pW T n w k).1 = true
  · rw [if_pos h1] at g ⊢
    by_cases h2 : (pNum T n (pW T n w k).2).1 = true
    · rw [if_pos h2] at g ⊢
      have n2 := pNum_ok h2
      by_cases h3 : sg T n (pNum T n (pW T n w k).2).2.1 = 32
      · rw [if_pos h3] at g ⊢
        by_cases h4 : (pE T n (pF T n 4) ((pNum T n (pW T n w k).2).2.1 + 1)).1 = true
        · rw [if_pos h4]
          have g4 := pE_go (pF_go (T := T) 4) _ h4
          dsimp only
          rw [List.length_append]
          have : ([(if b = true then 83 else 115, (pNum T n (pW T n w k).2).2.2)] : List (Nat × Nat)).length = 1 := rfl
          omega
        · rw [if_neg h4] at g
          cases g
      · rw [if_neg h3] at g
        cases g
    · rw [if_neg h2] at g
      cases g
  · rw [if_neg h1] at g
    cases g
theorem pCl_go {h : Nat} {s : (Nat → Nat) → Int32} (hk : k ≤ n) (g : (pCl T n k h s).1 = true) : k ≤ (pCl T n k h s).2.1 ∧ (pCl T n k h s).2.1 ≤ n ∧ (pCl T n k h s).2.2.1.length + k ≤ (pCl T n k h s).2.1 := by
  unfold pCl at g ⊢
  by_cases h1 : sg T n k = 115
  · rw [if_pos h1] at g ⊢
    by_cases h2 : sg T n (k + 1) = 99
    · rw [if_pos h2] at g ⊢
      exact pSc_go (by decide) hk g
    · rw [if_neg h2] at g ⊢
      exact pSc_go (by decide) hk g
  · rw [if_neg h1] at g ⊢
    have wg := pW_go (T := T) (n := n) wdW k (by decide) hk
    by_cases h2 : (pW T n wdW k).1 = true
    · rw [if_pos h2] at g ⊢
      by_cases h3 : (pNum T n (pW T n wdW k).2).1 = true
      · rw [if_pos h3]
        have n3 := pNum_ok h3
        dsimp only
        rw [show ([] : List (Nat × Nat)).length = 0 from rfl]
        omega
      · rw [if_neg h3] at g
        cases g
    · rw [if_neg h2] at g
      cases g
theorem wKs_C {o : Nat} (ho : 107 ≤ o) (h : wKs f l R) (hf : frC o f f') : wKs f' l R := by
  have key : ∀ w ws, wK f l R w ws → wK f' l R w ws := fun w ws h => ⟨h.1, h.2.1, h.2.2.1, h.2.2.2.1, fun j hj => (hf (w + 3) j (by have := h.2.1; omega) (by have := h.2.1; omega) (by have := h.2.1; omega) (fun q => by have := h.2.1; omega)).trans (h.2.2.2.2 j hj)⟩
  exact ⟨key _ _ h.1, key _ _ h.2.1, key _ _ h.2.2⟩
theorem c_reads_lp {r : Nat} (hT : tOk T n) (h0 : 0 < r) (hr : r ≤ 6) (hR : R 19 = hp r) : ∀ (u k G : Nat) (f : Nat → Nat → Int32) (c : List (Nat × Nat)) (h : Nat) (s : (Nat → Nat) → Int32), u ≤ 10 → u < G → wKs f l R → RP T n k f → k ≤ n → OP f (hp r) c → c.length ≤ k → f (hp r) 3 = nI h →
    ∃ f', lp (σ := Nat × Int32 × zS) (fun k s => fn_Re_reads_L19 s.1 s.2.1 s.2.2 (fun (a0 : Nat) (a2 : Int32) (S : zS) => k (a0, a2, S))) G (19, nI (10 - u), mk f l R) = some (nI (vb (pAl T n u k c h s).1), mk f' l R) ∧ RP T n (pAl T n u k c h s).2.1 f' ∧ ((pAl T n u k c h s).1 = true → OP f' (hp r) (pAl T n u k c h s).2.2.1 ∧ f' (hp r) 3 = nI (pAl T n u k c h s).2.2.2.1) ∧ frC (hp r) f f'
  | 0, k, G, f, c, h, s, hu, hG, hw, hP, hk, hO, hc, hh => by
    obtain ⟨G, rfl⟩ : ∃ H, G = H + 1 := ⟨G - 1, by omega⟩
    rw [lpS]
    show ∃ f', fn_Re_reads_L19 19 (nI 10) (mk f l R) _ = _ ∧ _
    refine ⟨f, ?_, hP, (fun q => by cases q), frC_r⟩
    simp (disch := omega) only [fn_Re_reads_L19, wbr_T, wbr_F, wgd_T, wbq, wbv, wnm, zI_mk, zL_mk, uI_mk, uL_mk, kI_mk, kL_mk, nI_leI, wdT, wdF, wd1, wd0, li_10]
    rfl
  | u + 1, k, G, f, c, h, s, hu, hG, hw, hP, hk, hO, hc, hh => by
    obtain ⟨G, rfl⟩ : ∃ H, G = H + 1 := ⟨G - 1, by omega⟩
    have hn := hT.1
    have hge := hp_ge h0 hr
    rw [lpS]
    show ∃ f', fn_Re_reads_L19 19 (nI (10 - (u + 1))) (mk f l R) _ = _ ∧ _
    obtain ⟨f1, e1, r1, p1, fr1⟩ := c_clause (s := s) hT h0 hr hR hw hP hk hO hc hh
    have hcg := pCl_go (T := T) (h := h) (s := s) hk
    unfold pAl
    by_cases h1 : (pCl T n k h s).1 = true
    · rw [if_pos h1]
      rw [h1, vb_T] at e1
      have g := hcg h1
      have p1' := p1 h1
      generalize pCl T n k h s = q at *
      obtain ⟨qa, k1, c1, hd1, s1⟩ := q
      dsimp only at *
      by_cases h2 : k1 = n
      · rw [if_pos h2]
        refine ⟨f1, ?_, h2 ▸ r1, fun _ => p1', fr1⟩
        simp (disch := omega) only [fn_Re_reads_L19, e1, r1.1, r1.2.1, gT_mk_19, wbr_T, wbr_F, wgd_T, wbq, wbv, wnm, zI_mk, zL_mk, uI_mk, uL_mk, kI_mk, kL_mk, nI_leI, nI_eq, wdT, wdF, wd1, wd0, li_0, li_1, li_10]
        rfl
      · rw [if_neg h2]
        by_cases h3 : u = 0
        · rw [if_pos h3]
          refine ⟨f1, ?_, r1, (fun q => by cases q), fr1⟩
          simp (disch := omega) only [fn_Re_reads_L19, e1, r1.1, r1.2.1, gT_mk_19, wbr_T, wbr_F, wgd_T, wbq, wbv, wnm, zI_mk, zL_mk, uI_mk, uL_mk, kI_mk, kL_mk, nI_leI, nI_eq, nI_add, wdT, wdF, wd1, wd0, li_0, li_1, li_10]
          rfl
        · rw [if_neg h3]
          have e4 := c_eat (l := l) (R := R) hT r1 g.2.1 (c := 59) (by decide)
          by_cases h4 : sg T n k1 = 59
          · have hkn := sg_lt h4 (by decide)
            rw [if_pos h4] at e4 ⊢
            have fr2 : frC (hp r) f (up f1 19 2 (nI (k1 + 1))) := frC_t fr1 (frO_C frO_up)
            obtain ⟨f5, e5, r5, p5, fr5⟩ := c_reads_lp hT h0 hr hR u (k1 + 1) G (up f1 19 2 (nI (k1 + 1))) (c ++ c1) hd1 s1 (by omega) (by omega) (wKs_C hge.1 hw fr2) (RP_up r1) (by omega) (OP_upr hge.1 p1'.1) (by rw [List.length_append]; omega) (by rw [up_np (by omega)]; exact p1'.2)
            refine ⟨f5, ?_, r5, p5, frC_t fr2 fr5⟩
            simp (disch := omega) only [fn_Re_reads_L19, e1, r1.1, r1.2.1, e4, gT_mk_19, wbr_T, wbr_F, wgd_T, wbq, wbv, wnm, zI_mk, zL_mk, uI_mk, uL_mk, kI_mk, kL_mk, nI_leI, nI_eq, nI_add, wdT, wdF, wd1, wd0, li_0, li_1, li_10, li_59]
            rw [show 10 - (u + 1) + 1 = 10 - u by omega]
            exact e5
          · rw [if_neg h4] at e4 ⊢
            refine ⟨f1, ?_, r1, (fun q => by cases q), fr1⟩
            simp (disch := omega) only [fn_Re_reads_L19, e1, r1.1, r1.2.1, e4, gT_mk_19, wbr_T, wbr_F, wgd_T, wbq, wbv, wnm, zI_mk, zL_mk, uI_mk, uL_mk, kI_mk, kL_mk, nI_leI, nI_eq, nI_add, wdT, wdF, wd1, wd0, li_0, li_1, li_10, li_59]
            rfl
    · rw [if_neg h1]
      rw [Bool.eq_false_iff.mpr h1, vb_F] at e1
      refine ⟨f1, ?_, r1, (fun q => by cases q), fr1⟩
      simp (disch := omega) only [fn_Re_reads_L19, e1, gT_mk_19, wbr_T, wbr_F, wgd_T, wbq, wbv, wnm, zI_mk, zL_mk, uI_mk, uL_mk, kI_mk, kL_mk, nI_leI, nI_eq, wdT, wdF, wd1, wd0, li_0, li_10]
      rfl
theorem c_reads {r : Nat} (hT : tOk T n) (h0 : 0 < r) (hr : r ≤ 6) (hw : wKs f l (ur R 19 (hp r))) (h1 : f 19 1 = nI n) (h2 : ∀ j, j < n → f 20 j = nI (T j)) :
    ∃ f', fn_Re_reads 19 (hp r) (mk f l R) = some (nI (vb (pA T n).1), mk f' l (ur R 19 (hp r))) ∧ RP T n (pA T n).2.1 f' ∧ ((pA T n).1 = true → OP f' (hp r) (pA T n).2.2.1 ∧ f' (hp r) 3 = nI (pA T n).2.2.2.1) ∧ frC (hp r) f f' := by
  have hge := hp_ge h0 hr
  have hR : ur R 19 (hp r) 19 = hp r := if_pos rfl
  have fr0 : frC (hp r) f (up (up (up f 19 2 (nI 0)) (hp r) 2 (nI 0)) (hp r) 3 (nI 6)) := fun p j a b c d => by
    rw [up_np a, up_np a]
    by_cases e : p = 19
    · exact up_nj (d e).1
    · exact up_np e
  have hP : RP T n 0 (up (up (up f 19 2 (nI 0)) (hp r) 2 (nI 0)) (hp r) 3 (nI 6)) := by
    refine ⟨?_, ?_, fun j hj => ?_⟩
    · simp (disch := omega) only [up_np, up_nj]
      exact h1
    · simp (disch := omega) only [up_np, up_eq]
    · simp (disch := omega) only [up_np]
      exact h2 j hj
  obtain ⟨f1, e1, r1, p1, fr1⟩ := c_reads_lp (l := l) hT h0 hr hR 10 0 FU _ [] 6 (fun _ => 3) (by decide) (by decide) (wKs_C hge.1 hw fr0) hP (Nat.zero_le _) ⟨(up_nj (by decide)).trans up_eq, fun j hj => absurd hj (Nat.not_lt_zero _)⟩ (Nat.zero_le _) up_eq
  refine ⟨f1, ?_, r1, p1, frC_t fr0 fr1⟩
  have t1 := fun f => hp_T (f := f) (l := l) (R := ur R 19 (hp r)) hr
  simp (disch := omega) only [fn_Re_reads, fn_Or_begin, t1, uR_mk_19, hR, gT_mk_19, zR_mk_19_4, wbr_T, wbr_F, wgd_T, wbq, wbv, wnm, zI_mk, zL_mk, uI_mk, uL_mk, kI_mk, kL_mk, li_0, li_6]
  exact e1
end
