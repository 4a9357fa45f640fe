/-! THE READER of the model: clauses, the whole, the order that holds -/
section
variable {f f' : Nat → Nat → Int32} {l : Nat → Nat → Int64} {R : Nat → Nat} {T : Nat → Nat} {n k : Nat} {nm : Nat → Nat} {w : Bool}
def frK (f f' : Nat → Nat → Int32) : Prop := ∀ p j, (p = 137 → j < 11 ∨ 15 < j) → f' p j = f p j
theorem frK_r : frK f f := fun _ _ _ => rfl
theorem frK_t {g : Nat → Nat → Int32} (h : frK f f') (h2 : frK f' g) : frK f g := fun p j q => (h2 p j q).trans (h p j q)
theorem frM_K (h : frM f f') : frK f f' := fun p j q => h p j (fun e => by have := q e; omega)
theorem frK_up {j : Nat} {x : Int32} (h1 : 11 ≤ j) (h2 : j ≤ 15) : frK f (up f 137 j x) := fun p i h => by
  by_cases e : p = 137
  · have := h e
    exact up_nj (by omega)
  · exact up_np e
theorem mK_K (h : mK nm f) (hf : frK f f') : mK nm f' :=
  ⟨fun j hj => (hf 146 j (fun q => absurd q (by decide))).trans (h.1 j hj), fun j hj => (hf 147 j (fun q => absurd q (by decide))).trans (h.2.1 j hj), fun j hj => ⟨(hf 145 j (fun q => absurd q (by decide))).trans (h.2.2 j hj).1, (h.2.2 j hj).2⟩⟩
theorem MP_up (h : MP T n k w f) {j : Nat} {x : Int32} (hj : 13 ≤ j) : MP T n k w (up f 137 j x) := ⟨(up_nj (by omega)).trans h.1, (up_nj (by omega)).trans h.2.1, (up_nj (by omega)).trans h.2.2.1, fun j hj => (up_np (by decide)).trans (h.2.2.2 j hj)⟩
theorem tk_le (hk : k ≤ n) {c : Nat} (hc : c < 128) : (if (w && decide (sg T n k = c)) = true then k + 1 else k) ≤ n := by
  split
  · rename_i q
    rw [Bool.and_eq_true, decide_eq_true_eq] at q
    have := sg_lt q.2 (by omega)
    omega
  · exact hk
theorem pW_snoc {ws : List Nat} : pW T n (ws ++ [32]) k = (((pW T n ws k).1 && decide (sg T n (pW T n ws k).2 = 32)), if ((pW T n ws k).1 && decide (sg T n (pW T n ws k).2 = 32)) = true then (pW T n ws k).2 + 1 else (pW T n ws k).2) := by
  by_cases h1 : (pW T n ws k).1 = true
  · by_cases h2 : sg T n (pW T n ws k).2 = 32
    · rw [pW_sp h1 h2, h1, wdT h2]
      rfl
    · rw [pW_sp0 h1 h2, h1, wdF h2]
      rfl
  · rw [pW_no h1, Bool.eq_false_iff.mpr h1]
    rfl
theorem m_wordl (hT : tOk T n) {ws : List Nat} {q : Nat} (hq : q ≤ 2) (hl : ws.length = 4 ∨ ws.length = 5) (hc : ∀ c, c ∈ ws → 0 < c ∧ c < 128) (hg : ∀ j, j < 5 → [115, 99, 114, 117, 98, 115, 111, 102, 116, 0, 119, 101, 97, 114, 0].getD (5 * q + j) 0 = ws.getD j 0) : ∀ (e j k G : Nat) (f : Nat → Nat → Int32) (w : Bool), j + e = ws.length → e < G → mK nm f → MP T n k w f → k ≤ n →
    ∃ f', lp (σ := Nat × Int32 × Int32 × zS) (fun k s => fn_Mo_clause_L50 s.1 s.2.1 s.2.2.1 s.2.2.2 (fun (a0 : Nat) (a1 : Int32) (a2 : Int32) (S : zS) => k (a0, a1, a2, S))) G (137, nI q, nI j, mk f l R) = fn_Mo_clause_L88 137 (nI q) (mk f' l R) ∧ MP T n (if w = true then (pW T n (ws.drop j) k).2 else k) (w && (pW T n (ws.drop j) k).1) f' ∧ frM f f'
  | 0, j, k, G, f, w, he, hG, hm, hP, hk => by
    obtain ⟨G, rfl⟩ : ∃ H, G = H + 1 := ⟨G - 1, by omega⟩
    rw [lpS, List.drop_of_length_le (by omega)]
    show ∃ f', fn_Mo_clause_L50 137 (nI q) (nI j) (mk f l R) _ = _ ∧ _
    refine ⟨f, ?_, ?_, frM_r⟩
    · rcases hl with hl | hl
      · have hj : j = 4 := by omega
        subst hj
        have g := hm.2.1 (5 * q + 4) (by omega)
        rw [hg 4 (by decide), List.getD_eq_getElem?_getD, List.getElem?_eq_none (by omega)] at g
        have g' : f 147 (5 * q + 4) = nI 0 := g
        simp (disch := omega) only [fn_Mo_clause_L50, g', gT_mk_137, zR_mk_137_18, gT_mk_147, zT_mk_147, wbr_T, wbr_F, wgd_T, wbq, wbv, wnm, zI_mk, zL_mk, uI_mk, uL_mk, kI_mk, kL_mk, nI_add, nI_mul, nI_sub, nI_div, nI_clamp, wgB, wgP, nI_leI, nI_ltI, nI_eq, nI_eqm, nI_eqm5, wdT, wdF, wd1, wd0, li_0, li_5]
      · have hj : j = 5 := by omega
        subst hj
        simp (disch := omega) only [fn_Mo_clause_L50, wbr_T, wbr_F, wgd_T, wbq, wbv, wnm, zI_mk, zL_mk, uI_mk, uL_mk, kI_mk, kL_mk, nI_leI, wdT, wdF, wd1, wd0, li_5]
    · cases w
      · exact hP
      · exact hP
  | e + 1, j, k, G, f, w, he, hG, hm, hP, hk => by
    obtain ⟨G, rfl⟩ : ∃ H, G = H + 1 := ⟨G - 1, by omega⟩
    have hj : j < ws.length := by omega
    have hdr : ws.drop j = ws.getD j 0 :: ws.drop (j + 1) := by
      rw [List.getD_eq_getElem?_getD, List.getElem?_eq_getElem hj]
      exact List.drop_eq_getElem_cons hj
    have hcj : 0 < ws.getD j 0 ∧ ws.getD j 0 < 128 := by
      rw [List.getD_eq_getElem?_getD, List.getElem?_eq_getElem hj]
      exact hc _ (List.getElem_mem hj)
    have g := hm.2.1 (5 * q + j) (by omega)
    rw [hg j (by omega)] at g
    rw [lpS, hdr]
    show ∃ f', fn_Mo_clause_L50 137 (nI q) (nI j) (mk f l R) _ = _ ∧ _
    generalize ws.getD j 0 = c at *
    obtain ⟨f1, e1, r1, fr1⟩ := m_takes (l := l) (R := R) hT hP hk hcj.2
    obtain ⟨f2, e2, r2, fr2⟩ := m_wordl hT hq hl hc hg e (j + 1) _ G f1 _ (by omega) (by omega) (mK_fr hm fr1) r1 (tk_le hk hcj.2)
    refine ⟨f2, ?_, ?_, frM_t fr1 fr2⟩
    · rw [← e2]
      simp (disch := omega) only [fn_Mo_clause_L50, g, e1, gT_mk_137, zR_mk_137_18, gT_mk_147, zT_mk_147, wbr_T, wbr_F, wgd_T, wbq, wbv, wnm, zI_mk, zL_mk, uI_mk, uL_mk, kI_mk, kL_mk, nI_add, nI_mul, nI_sub, nI_div, nI_clamp, wgB, wgP, nI_leI, nI_ltI, nI_eq, nI_eqm, nI_eqm5, wdT, wdF, wd1, wd0, li_0, li_1, li_5]
    · cases w
      · exact r2
      · by_cases h1 : sg T n k = c
        · rw [wdT h1] at r2
          unfold pW
          rw [if_pos h1]
          exact r2
        · rw [wdF h1] at r2
          unfold pW
          rw [if_neg h1]
          exact r2
/-- behind the word -/
theorem m_clause88 (hT : tOk T n) {ws : List Nat} {q : Nat} (hq : q ≤ 2) {h : Nat} {s : (Nat → Nat) → Int32} {f1 : Nat → Nat → Int32} (hws : ∀ c, c ∈ ws → c < 128) (hk : k ≤ n) (hm : mK nm f1) (hP : MP T n (pW T n ws k).2 (pW T n ws k).1 f1) (hs : f1 137 14 = s nm) (hh : f1 137 15 = nI h) :
    ∃ f', fn_Mo_clause_L88 137 (nI q) (mk f1 l R) = some (mk f' l R) ∧ frK f1 f' ∧
      (q = 2 → MP T n (if (pW T n (ws ++ [32]) k).1 = true then (pNum T n (pW T n (ws ++ [32]) k).2).2.1 else (pW T n (ws ++ [32]) k).2) ((pW T n (ws ++ [32]) k).1 && (pNum T n (pW T n (ws ++ [32]) k).2).1) f' ∧ (((pW T n (ws ++ [32]) k).1 && (pNum T n (pW T n (ws ++ [32]) k).2).1) = true → f' 137 14 = s nm ∧ f' 137 15 = nI (pNum T n (pW T n (ws ++ [32]) k).2).2.2)) ∧
      (q ≤ 1 → MP T n (pSc T n (decide (q = 0)) (ws ++ [32]) k h s).2.1 (pSc T n (decide (q = 0)) (ws ++ [32]) k h s).1 f' ∧ ((pSc T n (decide (q = 0)) (ws ++ [32]) k h s).1 = true → f' 137 14 = (pSc T n (decide (q = 0)) (ws ++ [32]) k h s).2.2.2.2 nm ∧ f' 137 15 = nI (pSc T n (decide (q = 0)) (ws ++ [32]) k h s).2.2.2.1)) := by
  have wg := pW_go (T := T) (n := n) ws k hws hk
  obtain ⟨f2, e2, r2, fr2⟩ := m_takes (l := l) (R := R) hT hP wg.2 (c := 32) (by decide)
  have hk2 := tk_le (w := (pW T n ws k).1) wg.2 (T := T) (c := 32) (by decide)
  have hsn := pW_snoc (T := T) (n := n) (k := k) (ws := ws)
  have h1 : (pW T n (ws ++ [32]) k).1 = ((pW T n ws k).1 && decide (sg T n (pW T n ws k).2 = 32)) := by rw [hsn]
  have h2 : (pW T n (ws ++ [32]) k).2 = if ((pW T n ws k).1 && decide (sg T n (pW T n ws k).2 = 32)) = true then (pW T n ws k).2 + 1 else (pW T n ws k).2 := by rw [hsn]
  rw [← h2, ← h1] at r2
  rw [← h2] at hk2
  unfold pSc
  generalize pW T n (ws ++ [32]) k = p2 at *
  obtain ⟨w2, k2⟩ := p2
  dsimp only at *
  obtain ⟨f3, v3, e3, r3, n3, fr3⟩ := m_number (l := l) (R := R) hT r2 hk2
  have g3 : ∀ x y, frM x y → y 137 14 = x 137 14 ∧ y 137 15 = x 137 15 := fun x y h => ⟨h 137 14 (fun _ => ⟨by decide, by decide⟩), h 137 15 (fun _ => ⟨by decide, by decide⟩)⟩
  have s3 : f3 137 14 = s nm := by rw [(g3 _ _ fr3).1, (g3 _ _ fr2).1, hs]
  have h3 : f3 137 15 = nI h := by rw [(g3 _ _ fr3).2, (g3 _ _ fr2).2, hh]
  have hk3 : (if w2 = true then (pNum T n k2).2.1 else k2) ≤ n := by
    split
    · by_cases hp : (pNum T n k2).1 = true
      · exact (pNum_ok hp).2.1
      · rw [pNum_no hp]
        exact hk2
    · exact hk2
  by_cases hq2 : q = 2
  · subst hq2
    refine ⟨up f3 137 15 v3, ?_, frK_t (frM_K (frM_t fr2 fr3)) (frK_up (by decide) (by decide)), fun _ => ⟨MP_up r3 (by decide), fun hok => ⟨(up_nj (by decide)).trans s3, by rw [up_eq, n3 hok]⟩⟩, fun q => absurd q (by decide)⟩
    simp (disch := omega) only [fn_Mo_clause_L88, e2, e3, gT_mk_137, wbr_T, wbr_F, wgd_T, wbq, wbv, wnm, zI_mk, zL_mk, uI_mk, uL_mk, kI_mk, kL_mk, nI_eq, wdT, wdF, wd1, wd0, li_2, li_32]
  · have hq1 : q ≤ 1 := by omega
    obtain ⟨f4, e4, r4, fr4⟩ := m_takes (l := l) (R := R) hT r3 hk3 (c := 32) (by decide)
    have hk4 := tk_le (w := w2 && (pNum T n k2).1) hk3 (T := T) (c := 32) (by decide)
    obtain ⟨f5, b, e5, r5, v5, fr5⟩ := m_any (nm := nm) (l := l) (R := R) hT (up f4 137 13 (nI 0)) _ _ (MP_13 r4) hk4 up_eq (mK_up (mK_fr hm (frM_t (frM_t fr2 fr3) fr4)))
    dsimp only at e5
    have s5 : f5 137 14 = s nm := by rw [(g3 _ _ fr5).1, up_nj (by decide), (g3 _ _ fr4).1, s3]
    have h5 : f5 137 15 = nI h := by rw [(g3 _ _ fr5).2, up_nj (by decide), (g3 _ _ fr4).2, h3]
    have frA : frK f1 f5 := frK_t (frK_t (frM_K (frM_t (frM_t fr2 fr3) fr4)) (frK_up (by decide) (by decide))) (frM_K fr5)
    refine ⟨up f5 137 14 (if b = true then (if q = 0 then s nm + v3 else s nm - v3) else s nm), ?_, frK_t frA (frK_up (by decide) (by decide)), fun q => absurd q hq2, fun _ => ?_⟩
    · have hne : ¬ nI q = nI 2 := fun e => hq2 ((nI_eq (by omega) (by omega)).mp e)
      cases b
      · rw [vb_F] at e5
        simp (disch := omega) only [fn_Mo_clause_L88, e2, e3, e4, e5, s5, hne, gT_mk_137, wbr_T, wbr_F, wgd_T, wbq, wbv, wnm, zI_mk, zL_mk, uI_mk, uL_mk, kI_mk, kL_mk, nI_eq, wdT, wdF, wd1, wd0, li_0, li_2, li_32]
        rw [if_neg (fun q => by cases q), show s nm + nI 0 = s nm from Int32.add_zero _]
      · rw [vb_T] at e5
        rw [if_pos rfl]
        by_cases h0 : q = 0
        · subst h0
          simp (disch := omega) only [fn_Mo_clause_L88, e2, e3, e4, e5, s5, hne, gT_mk_137, wbr_T, wbr_F, wgd_T, wbq, wbv, wnm, zI_mk, zL_mk, uI_mk, uL_mk, kI_mk, kL_mk, nI_eq, wdT, wdF, wd1, wd0, li_0, li_2, li_32]
          rw [if_pos trivial]
        · simp (disch := omega) only [fn_Mo_clause_L88, e2, e3, e4, e5, s5, hne, gT_mk_137, wbr_T, wbr_F, wgd_T, wbq, wbv, wnm, zI_mk, zL_mk, uI_mk, uL_mk, kI_mk, kL_mk, nI_eq, wdT, wdF, wd1, wd0, li_0, li_2, li_32]
          rw [if_neg h0, Int32.sub_eq_add_neg]
    · by_cases c2 : w2 = true
      · subst c2
        rw [if_pos rfl]
        rw [if_pos rfl, Bool.true_and] at r4 r5 v5
        rw [if_pos rfl] at hk4
        rw [Bool.true_and] at n3 hk4
        by_cases c3 : (pNum T n k2).1 = true
        · rw [if_pos c3]
          rw [c3, Bool.true_and] at r5 v5
          have n3' := n3 c3
          by_cases c4 : sg T n (pNum T n k2).2.1 = 32
          · rw [if_pos c4]
            rw [wdT c4, if_pos rfl, if_pos rfl, Bool.true_and] at r5
            rw [wdT c4, if_pos rfl] at v5
            by_cases c5 : (pE T n (pF T n 4) ((pNum T n k2).2.1 + 1)).1 = true
            · rw [if_pos c5]
              rw [c5] at r5
              have v5' := v5 rfl c5
              refine ⟨MP_up r5 (by decide), fun _ => ⟨?_, (up_nj (by decide)).trans h5⟩⟩
              rw [up_eq, v5', n3']
              dsimp only
              by_cases h0 : q = 0
              · simp only [h0, wdT, if_pos]
                all_goals rfl
              · simp only [h0, wdF h0, if_neg]
                rfl
            · rw [if_neg c5]
              rw [Bool.eq_false_iff.mpr c5] at r5
              exact ⟨MP_up r5 (by decide), fun q => by cases q⟩
          · rw [if_neg c4]
            rw [wdF c4, if_neg (fun q => by cases q), if_neg (fun q => by cases q), Bool.false_and] at r5
            exact ⟨MP_up r5 (by decide), fun q => by cases q⟩
        · rw [if_neg c3]
          rw [Bool.eq_false_iff.mpr c3, Bool.false_and, if_neg (fun q => by cases q), if_neg (fun q => by cases q), Bool.false_and] at r5
          exact ⟨MP_up r5 (by decide), fun q => by cases q⟩
      · rw [if_neg c2]
        have c2' := Bool.eq_false_iff.mpr c2
        subst c2'
        rw [Bool.false_and, Bool.false_and, if_neg (fun q => by cases q), if_neg (fun q => by cases q), if_neg (fun q => by cases q), Bool.false_and] at r5
        exact ⟨MP_up r5 (by decide), fun q => by cases q⟩
theorem pW_bad {c : Nat} {r : List Nat} (h : ¬ sg T n k = c) : pW T n (c :: r) k = (false, k) := if_neg h
theorem pW_ok1 {c : Nat} {r : List Nat} (h : sg T n k = c) : pW T n (c :: r) k = pW T n r (k + 1) := if_pos h
theorem pSc_bad {b : Bool} {ws : List Nat} {h k2 : Nat} {s : (Nat → Nat) → Int32} (e : pW T n ws k = (false, k2)) : pSc T n b ws k h s = (false, k2, [], h, s) := by
  unfold pSc
  rw [e, if_neg (fun q => by cases q)]
/-- a clause, by the sign that the model looks at -/
theorem pCl_w {h : Nat} {s : (Nat → Nat) → Int32} (h1 : sg T n k = 119) : pCl T n k h s = if (pW T n wdW k).1 = true then (if (pNum T n (pW T n wdW k).2).1 = true then (true, (pNum T n (pW T n wdW k).2).2.1, [], (pNum T n (pW T n wdW k).2).2.2, s) else (false, (pNum T n (pW T n wdW k).2).2.1, [], h, s)) else (false, (pW T n wdW k).2, [], h, s) := by
  unfold pCl
  rw [if_neg (by omega)]
theorem pCl_bad {h : Nat} {s : (Nat → Nat) → Int32} (h1 : ¬ sg T n k = 119) (h2 : ¬ sg T n k = 115) : pCl T n k h s = (false, k, [], h, s) := by
  unfold pCl
  rw [if_neg h2, show pW T n wdW k = (false, k) from pW_bad h1, if_neg (fun q => by cases q)]
theorem pCl_o {h : Nat} {s : (Nat → Nat) → Int32} (h1 : ¬ sg T n k = 119) (h2 : sg T n (k + 1) = 111) : pCl T n k h s = pSc T n false wdF_ k h s := by
  by_cases h3 : sg T n k = 115
  · unfold pCl
    rw [if_pos h3, if_neg (by omega)]
  · rw [pCl_bad h1 h3, pSc_bad (show pW T n wdF_ k = (false, k) from pW_bad h3)]
theorem pCl_c {h : Nat} {s : (Nat → Nat) → Int32} (h1 : ¬ sg T n k = 119) (h2 : ¬ sg T n (k + 1) = 111) : pCl T n k h s = pSc T n true wdS k h s := by
  by_cases h3 : sg T n k = 115
  · by_cases h4 : sg T n (k + 1) = 99
    · unfold pCl
      rw [if_pos h3, if_pos h4]
    · have e1 : pW T n wdF_ k = (false, k + 1) := (pW_ok1 h3).trans (pW_bad h2)
      have e2 : pW T n wdS k = (false, k + 1) := (pW_ok1 h3).trans (pW_bad h4)
      rw [pSc_bad e2]
      unfold pCl
      rw [if_pos h3, if_neg h4, pSc_bad e1]
  · rw [pCl_bad h1 h3, pSc_bad (show pW T n wdS k = (false, k) from pW_bad h3)]
theorem m_clause (hT : tOk T n) {h : Nat} {s : (Nat → Nat) → Int32} (hk : k ≤ n) (hm : mK nm f) (hP : MP T n k true f) (hs : f 137 14 = s nm) (hh : f 137 15 = nI h) :
    ∃ f', fn_Mo_clause 137 (mk f l R) = some (mk f' l R) ∧ frK f f' ∧ MP T n (pCl T n k h s).2.1 (pCl T n k h s).1 f' ∧ ((pCl T n k h s).1 = true → f' 137 14 = (pCl T n k h s).2.2.2.2 nm ∧ f' 137 15 = nI (pCl T n k h s).2.2.2.1) := by
  have hn := hT.1
  have e0 := m_isAt (l := l) (R := R) hT hP hk (c := 119) (by decide)
  rw [Bool.true_and] at e0
  have g3 : ∀ x y, frM x y → y 137 14 = x 137 14 ∧ y 137 15 = x 137 15 := fun x y h => ⟨h 137 14 (fun _ => ⟨by decide, by decide⟩), h 137 15 (fun _ => ⟨by decide, by decide⟩)⟩
  by_cases h1 : sg T n k = 119
  · rw [wdT h1, vb_T] at e0
    obtain ⟨f1, e1, r1, fr1⟩ := m_wordl (nm := nm) (l := l) (R := R) hT (ws := [119, 101, 97, 114]) (q := 2) (by decide) (Or.inl rfl) (by decide) (by decide) 4 0 k FU f true rfl (by decide) hm hP hk
    obtain ⟨f2, e2, fr2, p2, -⟩ := m_clause88 (l := l) (R := R) hT (ws := [119, 101, 97, 114]) (q := 2) (by decide) (h := h) (s := s) (by decide) hk (mK_fr hm fr1) r1 (by rw [(g3 _ _ fr1).1, hs]) (by rw [(g3 _ _ fr1).2, hh])
    refine ⟨f2, ?_, frK_t (frM_K fr1) fr2, ?_⟩
    · have e1' : lp (σ := Nat × Int32 × Int32 × zS) (fun k s => fn_Mo_clause_L50 s.1 s.2.1 s.2.2.1 s.2.2.2 (fun (a0 : Nat) (a1 : Int32) (a2 : Int32) (S : zS) => k (a0, a1, a2, S))) FU (137, (2 : Int32), (0 : Int32), mk f l R) = some (mk f2 l R) := e1.trans e2
      simp only [fn_Mo_clause, li_119, e0, e1', gT_mk_137, wbr_T, wbr_F, wgd_T, wbq, wbv, wnm, zI_mk, zL_mk, uI_mk, uL_mk, kI_mk, kL_mk, show decide (nI 1 = 0) = false from rfl]
    · rw [pCl_w h1]
      obtain ⟨q1, q2⟩ := p2 rfl
      rw [show wdW = [119, 101, 97, 114] ++ [32] from rfl]
      generalize pW T n ([119, 101, 97, 114] ++ [32]) k = p at *
      obtain ⟨w2, k2⟩ := p
      dsimp only at *
      by_cases c2 : w2 = true
      · subst c2
        rw [if_pos rfl, Bool.true_and] at q1
        rw [Bool.true_and] at q2
        rw [if_pos rfl]
        by_cases c3 : (pNum T n k2).1 = true
        · rw [if_pos c3]
          rw [c3] at q1
          exact ⟨q1, fun _ => q2 c3⟩
        · rw [if_neg c3]
          rw [Bool.eq_false_iff.mpr c3] at q1
          exact ⟨q1, fun q => by cases q⟩
      · rw [if_neg c2]
        have c2' := Bool.eq_false_iff.mpr c2
        subst c2'
        exact ⟨q1, fun q => by cases q⟩
  · rw [wdF h1, vb_F] at e0
    by_cases h2 : sg T n (k + 1) = 111
    · rw [pCl_o h1 h2]
      have hkn := sg_lt h2 (by decide)
      obtain ⟨f1, e1, r1, fr1⟩ := m_wordl (nm := nm) (l := l) (R := R) hT (ws := [115, 111, 102, 116]) (q := 1) (by decide) (Or.inl rfl) (by decide) (by decide) 4 0 k FU f true rfl (by decide) hm hP hk
      obtain ⟨f2, e2, fr2, -, p2⟩ := m_clause88 (l := l) (R := R) hT (ws := [115, 111, 102, 116]) (q := 1) (by decide) (h := h) (s := s) (by decide) hk (mK_fr hm fr1) r1 (by rw [(g3 _ _ fr1).1, hs]) (by rw [(g3 _ _ fr1).2, hh])
      refine ⟨f2, ?_, frK_t (frM_K fr1) fr2, p2 (by decide)⟩
      have e1' : lp (σ := Nat × Int32 × Int32 × zS) (fun k s => fn_Mo_clause_L50 s.1 s.2.1 s.2.2.1 s.2.2.2 (fun (a0 : Nat) (a1 : Int32) (a2 : Int32) (S : zS) => k (a0, a1, a2, S))) FU (137, (1 : Int32), (0 : Int32), mk f l R) = some (mk f2 l R) := e1.trans e2
      have g := hP.2.2.2 (k + 1) hkn
      rw [show T (k + 1) = sg T n (k + 1) from (if_pos hkn).symm, h2] at g
      have gk : nI k + (1 : Int32) = nI (k + 1) := nI_1 k
      have hle : ¬ nI n ≤ nI (k + 1) := nI_ge hkn (by omega)
      simp (disch := omega) only [fn_Mo_clause, li_119, li_111, e0, e1', hP.1, hP.2.1, gk, hle, g, gT_mk_137, zR_mk_137_9, gT_mk_144, zT_mk_144, wbr_T, wbr_F, wgd_T, wbq, wbv, wnm, zI_mk, zL_mk, uI_mk, uL_mk, kI_mk, kL_mk, nI_clamp, wgB, wd1, wd0, show decide (nI 0 = 0) = true from rfl, show decide (nI 111 = nI 111) = true from rfl]
    · rw [pCl_c h1 h2]
      obtain ⟨f1, e1, r1, fr1⟩ := m_wordl (nm := nm) (l := l) (R := R) hT (ws := [115, 99, 114, 117, 98]) (q := 0) (by decide) (Or.inr rfl) (by decide) (by decide) 5 0 k FU f true rfl (by decide) hm hP hk
      obtain ⟨f2, e2, fr2, -, p2⟩ := m_clause88 (l := l) (R := R) hT (ws := [115, 99, 114, 117, 98]) (q := 0) (by decide) (h := h) (s := s) (by decide) hk (mK_fr hm fr1) r1 (by rw [(g3 _ _ fr1).1, hs]) (by rw [(g3 _ _ fr1).2, hh])
      refine ⟨f2, ?_, frK_t (frM_K fr1) fr2, p2 (by decide)⟩
      have e1' : lp (σ := Nat × Int32 × Int32 × zS) (fun k s => fn_Mo_clause_L50 s.1 s.2.1 s.2.2.1 s.2.2.2 (fun (a0 : Nat) (a1 : Int32) (a2 : Int32) (S : zS) => k (a0, a1, a2, S))) FU (137, (0 : Int32), (0 : Int32), mk f l R) = some (mk f2 l R) := e1.trans e2
      have gk : nI k + (1 : Int32) = nI (k + 1) := nI_1 k
      by_cases hkn : k + 1 < n
      · have g := hP.2.2.2 (k + 1) hkn
        rw [show T (k + 1) = sg T n (k + 1) from (if_pos hkn).symm] at g
        have gs := sg_in hT hkn
        have hle : ¬ nI n ≤ nI (k + 1) := nI_ge hkn (by omega)
        have hne : ¬ nI (sg T n (k + 1)) = nI 111 := fun e => h2 ((nI_eq (by omega) (by omega)).mp e)
        simp (disch := omega) only [fn_Mo_clause, li_119, li_111, e0, e1', hP.1, hP.2.1, gk, hle, g, hne, gT_mk_137, zR_mk_137_9, gT_mk_144, zT_mk_144, wbr_T, wbr_F, wgd_T, wbq, wbv, wnm, zI_mk, zL_mk, uI_mk, uL_mk, kI_mk, kL_mk, nI_clamp, wgB, wd1, wd0, show decide (nI 0 = 0) = true from rfl]
      · have hle : nI n ≤ nI (k + 1) := nI_le (by omega) (by omega)
        simp (disch := omega) only [fn_Mo_clause, li_119, li_111, e0, e1', hP.1, hP.2.1, gk, hle, gT_mk_137, wbr_T, wbr_F, wgd_T, wbq, wbv, wnm, zI_mk, zL_mk, uI_mk, uL_mk, kI_mk, kL_mk, wd1, wd0, show decide (nI 0 = 0) = true from rfl]
/-- clauses one behind the other: what has been read stands at k, u + 1 more may come -/
theorem m_readl (hT : tOk T n) : ∀ (u k G : Nat) (f : Nat → Nat → Int32) (c : List (Nat × Nat)) (h : Nat) (s : (Nat → Nat) → Int32), u ≤ 9 → u + 1 < G → mK nm f → MP T n k true f → k ≤ n → f 137 14 = s nm → f 137 15 = nI h →
    ∃ f', (bv (fn_Mo_clause 137 (mk f l R)) fun S => lp (σ := Nat × Int32 × zS) (fun k s => fn_Mo_readAll_L27 s.1 s.2.1 s.2.2 (fun (a0 : Nat) (a1 : Int32) (S : zS) => k (a0, a1, S))) G (137, nI (10 - u), S)) = some (nI (vb (pAl T n (u + 1) k c h s).1), mk f' l R) ∧ frK f f' ∧ f' 137 11 = nI (pAl T n (u + 1) k c h s).2.1 ∧ ((pAl T n (u + 1) k c h s).1 = true → f' 137 14 = (pAl T n (u + 1) k c h s).2.2.2.2 nm ∧ f' 137 15 = nI (pAl T n (u + 1) k c h s).2.2.2.1) := by
  intro u
  induction u with
  | zero =>
    intro k G f c h s hu hG hm hP hk hs hh
    obtain ⟨G, rfl⟩ : ∃ H, G = H + 1 := ⟨G - 1, by omega⟩
    have hn := hT.1
    obtain ⟨f1, e1, fr1, r1, p1⟩ := m_clause (l := l) (R := R) hT hk hm hP hs hh
    rw [e1, wbv, lpS]
    show ∃ f', fn_Mo_readAll_L27 137 (nI 10) (mk f1 l R) _ = _ ∧ _
    have hcg := pCl_go (T := T) (h := h) (s := s) hk
    unfold pAl
    by_cases h1 : (pCl T n k h s).1 = true
    · have g := hcg h1
      rw [if_pos h1]
      rw [h1] at r1
      have p1' := p1 h1
      by_cases h2 : (pCl T n k h s).2.1 = n
      · rw [if_pos h2]
        rw [h2] at r1
        refine ⟨f1, ?_, fr1, r1.2.1, fun _ => p1'⟩
        have q := r1.2.2.1
        rw [vb_T] at q
        simp (disch := omega) only [fn_Mo_readAll_L27, fn_Mo_readAll_L62, r1.1, r1.2.1, q, gT_mk_137, wbr_T, wbr_F, wgd_T, wbq, wbv, wnm, zI_mk, zL_mk, uI_mk, uL_mk, kI_mk, kL_mk, nI_leI, nI_eq, wdT, wdF, wd1, wd0, li_0, li_1, li_10]
        rfl
      · rw [if_neg h2, if_pos rfl]
        refine ⟨f1, ?_, fr1, r1.2.1, fun q => by cases q⟩
        have q := r1.2.2.1
        rw [vb_T] at q
        simp (disch := omega) only [fn_Mo_readAll_L27, fn_Mo_readAll_L62, r1.1, r1.2.1, q, gT_mk_137, wbr_T, wbr_F, wgd_T, wbq, wbv, wnm, zI_mk, zL_mk, uI_mk, uL_mk, kI_mk, kL_mk, nI_leI, nI_eq, wdT, wdF, wd1, wd0, li_0, li_1, li_10]
        rfl
    · rw [if_neg h1]
      rw [Bool.eq_false_iff.mpr h1] at r1
      refine ⟨f1, ?_, fr1, r1.2.1, fun q => by cases q⟩
      have q := r1.2.2.1
      rw [vb_F] at q
      simp (disch := omega) only [fn_Mo_readAll_L27, fn_Mo_readAll_L62, r1.1, r1.2.1, q, gT_mk_137, wbr_T, wbr_F, wgd_T, wbq, wbv, wnm, zI_mk, zL_mk, uI_mk, uL_mk, kI_mk, kL_mk, nI_leI, nI_eq, wdT, wdF, wd1, wd0, li_0, li_1, li_10]
      rfl
  | succ u ih =>
    intro k G f c h s hu hG hm hP hk hs hh
    obtain ⟨G, rfl⟩ : ∃ H, G = H + 1 := ⟨G - 1, by omega⟩
    have hn := hT.1
    obtain ⟨f1, e1, fr1, r1, p1⟩ := m_clause (l := l) (R := R) hT hk hm hP hs hh
    rw [e1, wbv, lpS]
    show ∃ f', fn_Mo_readAll_L27 137 (nI (10 - (u + 1))) (mk f1 l R) _ = _ ∧ _
    have hcg := pCl_go (T := T) (h := h) (s := s) hk
    rw [show pAl T n (u + 1 + 1) k c h s = (if (pCl T n k h s).1 = true then
      (if (pCl T n k h s).2.1 = n then (true, n, c ++ (pCl T n k h s).2.2.1, (pCl T n k h s).2.2.2.1, (pCl T n k h s).2.2.2.2)
      else if u + 1 = 0 then (false, (pCl T n k h s).2.1, [], 0, s)
      else if sg T n (pCl T n k h s).2.1 = 59 then pAl T n (u + 1) ((pCl T n k h s).2.1 + 1) (c ++ (pCl T n k h s).2.2.1) (pCl T n k h s).2.2.2.1 (pCl T n k h s).2.2.2.2
      else (false, (pCl T n k h s).2.1, [], 0, s))
    else (false, (pCl T n k h s).2.1, [], 0, s)) from rfl]
    by_cases h1 : (pCl T n k h s).1 = true
    · have g := hcg h1
      rw [if_pos h1]
      rw [h1] at r1
      have p1' := p1 h1
      have q := r1.2.2.1
      rw [vb_T] at q
      have e2 := m_isAt (l := l) (R := R) hT r1 g.2.1 (c := 59) (by decide)
      rw [Bool.true_and] at e2
      by_cases h2 : (pCl T n k h s).2.1 = n
      · rw [if_pos h2]
        rw [wdF (show ¬ sg T n (pCl T n k h s).2.1 = 59 by rw [h2, sg_out (by omega)]; decide), vb_F] at e2
        rw [h2] at r1
        refine ⟨f1, ?_, fr1, r1.2.1, fun _ => p1'⟩
        simp (disch := omega) only [fn_Mo_readAll_L27, fn_Mo_readAll_L62, e2, r1.1, r1.2.1, q, gT_mk_137, wbr_T, wbr_F, wgd_T, wbq, wbv, wnm, zI_mk, zL_mk, uI_mk, uL_mk, kI_mk, kL_mk, nI_leI, nI_eq, wdT, wdF, wd1, wd0, li_0, li_1, li_10, li_59]
        rfl
      · rw [if_neg h2, if_neg (show ¬ u + 1 = 0 by omega)]
        by_cases h4 : sg T n (pCl T n k h s).2.1 = 59
        · have hkn := sg_lt h4 (by decide)
          rw [if_pos h4]
          rw [wdT h4, vb_T] at e2
          have fr2 : frK f (up f1 137 11 (nI ((pCl T n k h s).2.1 + 1))) := frK_t fr1 (frK_up (by decide) (by decide))
          obtain ⟨f5, e5, fr5, r5, p5⟩ := ih ((pCl T n k h s).2.1 + 1) G (up f1 137 11 (nI ((pCl T n k h s).2.1 + 1))) (c ++ (pCl T n k h s).2.2.1) (pCl T n k h s).2.2.2.1 (pCl T n k h s).2.2.2.2 (by omega) (by omega) (mK_K hm fr2) (MP_at r1) (by omega) ((up_nj (by decide)).trans p1'.1) ((up_nj (by decide)).trans p1'.2)
          refine ⟨f5, ?_, frK_t fr2 fr5, r5, p5⟩
          simp (disch := omega) only [fn_Mo_readAll_L27, e2, r1.2.1, gT_mk_137, wbr_T, wbr_F, wgd_T, wbq, wbv, wnm, zI_mk, zL_mk, uI_mk, uL_mk, kI_mk, kL_mk, nI_leI, nI_eq, nI_add, wdT, wdF, wd1, wd0, li_0, li_1, li_10, li_59]
          rw [show 10 - (u + 1) + 1 = 10 - u by omega]
          exact e5
        · rw [if_neg h4]
          rw [wdF h4, vb_F] at e2
          refine ⟨f1, ?_, fr1, r1.2.1, fun q => by cases q⟩
          simp (disch := omega) only [fn_Mo_readAll_L27, fn_Mo_readAll_L62, e2, r1.1, r1.2.1, q, gT_mk_137, wbr_T, wbr_F, wgd_T, wbq, wbv, wnm, zI_mk, zL_mk, uI_mk, uL_mk, kI_mk, kL_mk, nI_leI, nI_eq, wdT, wdF, wd1, wd0, li_0, li_1, li_10, li_59]
          rfl
    · rw [if_neg h1]
      rw [Bool.eq_false_iff.mpr h1] at r1
      refine ⟨f1, ?_, fr1, r1.2.1, fun q => by cases q⟩
      have q := r1.2.2.1
      rw [vb_F] at q
      have e2 : fn_Mo_isAt 137 (nI 59) (mk f1 l R) = some (nI 0, mk f1 l R) := by
        simp (disch := omega) only [fn_Mo_isAt, q, gT_mk_137, wbr_T, wbr_F, wgd_T, wbq, wbv, wnm, zI_mk, zL_mk, uI_mk, uL_mk, kI_mk, kL_mk, nI_eq, wdT, wdF, wd1, wd0, li_0]
      simp (disch := omega) only [fn_Mo_readAll_L27, fn_Mo_readAll_L62, e2, r1.1, r1.2.1, q, gT_mk_137, wbr_T, wbr_F, wgd_T, wbq, wbv, wnm, zI_mk, zL_mk, uI_mk, uL_mk, kI_mk, kL_mk, nI_leI, nI_eq, wdT, wdF, wd1, wd0, li_0, li_1, li_10, li_59]
      rfl
theorem m_readAll (hT : tOk T n) (hm : mK nm f) (hz : f 137 10 = nI n) (ht : ∀ j, j < n → f 144 j = nI (T j)) :
    ∃ f', fn_Mo_readAll 137 (mk f l R) = some (nI (vb (pA T n).1), mk f' l R) ∧ frK f f' ∧ f' 137 11 = nI (pA T n).2.1 ∧ ((pA T n).1 = true → f' 137 14 = (pA T n).2.2.2.2 nm ∧ f' 137 15 = nI (pA T n).2.2.2.1) := by
  have fr0 : frK f (up (up (up (up f 137 11 (nI 0)) 137 12 (nI 1)) 137 14 (nI 3)) 137 15 (nI 6)) := frK_t (frK_up (by decide) (by decide)) (frK_t (frK_up (by decide) (by decide)) (frK_t (frK_up (by decide) (by decide)) (frK_up (by decide) (by decide))))
  have hP : MP T n 0 true (up (up (up (up f 137 11 (nI 0)) 137 12 (nI 1)) 137 14 (nI 3)) 137 15 (nI 6)) := by
    refine ⟨?_, ?_, ?_, fun j hj => ?_⟩
    · simp (disch := omega) only [up_nj]
      exact hz
    · simp (disch := omega) only [up_nj, up_eq]
    · simp (disch := omega) only [up_nj, up_eq]
      rfl
    · simp (disch := omega) only [up_np]
      exact ht j hj
  obtain ⟨f1, e1, fr1, r1, p1⟩ := m_readl (nm := nm) (l := l) (R := R) hT 9 0 FU _ [] 6 (fun _ => 3) (by decide) (by decide) (mK_K hm fr0) hP (Nat.zero_le _) (by rw [up_nj (by decide), up_eq]; rfl) up_eq
  refine ⟨f1, ?_, frK_t fr0 fr1, r1, p1⟩
  simp (disch := omega) only [fn_Mo_readAll, gT_mk_137, wbr_T, wbr_F, wgd_T, wbq, wbv, wnm, zI_mk, zL_mk, uI_mk, uL_mk, kI_mk, kL_mk, li_0, li_1, li_3, li_6]
  exact e1
end
