/-! THE READER of the class: E, F, clauses, the whole -/
section
variable {f f' : Nat → Nat → Int32} {l : Nat → Nat → Int64} {R : Nat → Nat} {T : Nat → Nat} {n k : Nat}
theorem OP_upr {o m : Nat} {c : List (Nat × Nat)} (ho : 107 ≤ o) (h : OP f o c) : OP (up f 19 2 (nI m)) o c := OP_fr ho h (up9 (Or.inl rfl))
theorem frO_up {o m : Nat} : frO o f (up f 19 2 (nI m)) := fr9_O (up9 (Or.inl rfl))
/-- what a reader of F's is asked to do -/
def RF (T : Nat → Nat) (n : Nat) (l : Nat → Nat → Int64) (R : Nat → Nat) (r : Nat) (o1 : Nat → Int32 → zS → Option (Int32 × zS)) (dep : Int32) (F : Nat → pR) : Prop :=
  ∀ (f : Nat → Nat → Int32) (k : Nat) (c : List (Nat × Nat)), RP T n k f → k ≤ n → OP f (hp r) c → c.length ≤ k → RO T n f l R (hp r) c (o1 19 dep (mk f l R)) (F k)
section
variable {o0 o1 : Nat → Int32 → zS → Option (Int32 × zS)} {dep : Int32} {F : Nat → pR} {r : Nat}
theorem c_l10 (hT : tOk T n) (h0 : 0 < r) (hr : r ≤ 6) (hR : R 19 = hp r) (hF : RF T n l R r o1 dep F) (hG : pGo n F) (t : Int32) (K2 : Nat → Int32 → Int32 → zS → Option (Int32 × zS)) (c0 : List (Nat × Nat)) :
    ∀ (u j k G : Nat) (f : Nat → Nat → Int32) (cc : List (Nat × Nat)) (v : (Nat → Nat) → Bool), RP T n k f → k ≤ n → OP f (hp r) (c0 ++ cc) → (c0 ++ cc).length ≤ k → n < k + u → 1 ≤ j → 2 * j ≤ k + 1 → u < G →
    ((pTl T n F u k cc v).1 = true → ∃ f', lp (σ := Nat × Int32 × Int32 × Int32 × zS) (fun k s => fn_Re_either_L10 o0 o1 s.1 s.2.1 s.2.2.1 s.2.2.2.1 s.2.2.2.2 K2 (fun (a0 : Nat) (a1 : Int32) (a2 : Int32) (a3 : Int32) (S : zS) => k (a0, a1, a2, a3, S))) G (19, dep, t, nI j, mk f l R) = fn_Re_either_L59 o0 o1 19 dep t (mk f' l R) K2 ∧ RP T n (pTl T n F u k cc v).2.1 f' ∧ OP f' (hp r) (c0 ++ (pTl T n F u k cc v).2.2.1) ∧ frO (hp r) f f') ∧
    (¬ (pTl T n F u k cc v).1 = true → ∃ f', lp (σ := Nat × Int32 × Int32 × Int32 × zS) (fun k s => fn_Re_either_L10 o0 o1 s.1 s.2.1 s.2.2.1 s.2.2.2.1 s.2.2.2.2 K2 (fun (a0 : Nat) (a1 : Int32) (a2 : Int32) (a3 : Int32) (S : zS) => k (a0, a1, a2, a3, S))) G (19, dep, t, nI j, mk f l R) = some (nI 0, mk f' l R) ∧ RP T n (pTl T n F u k cc v).2.1 f' ∧ frO (hp r) f f')
  | 0, j, k, G, f, cc, v, hP, hk, hO, hc, hu, hj, hj2, hG1 => absurd hu (by omega)
  | u + 1, j, k, G, f, cc, v, hP, hk, hO, hc, hu, hj, hj2, hG1 => by
    obtain ⟨G, rfl⟩ : ∃ H, G = H + 1 := ⟨G - 1, by omega⟩
    have hn := hT.1
    have hge := hp_ge h0 hr
    rw [lpS]
    show (_ → ∃ f', fn_Re_either_L10 o0 o1 19 dep t (nI j) (mk f l R) K2 _ = _ ∧ _) ∧ (_ → ∃ f', fn_Re_either_L10 o0 o1 19 dep t (nI j) (mk f l R) K2 _ = _ ∧ _)
    have e0 := c_eat (l := l) (R := R) hT hP hk (c := 38) (by decide)
    unfold pTl
    by_cases h1 : sg T n k = 38
    · have hkn := sg_lt h1 (by decide)
      rw [if_pos h1] at e0 ⊢
      have q1 : RP T n (k + 1) (up f 19 2 (nI (k + 1))) := RP_up hP
      obtain ⟨f1, e1, r1, p1, fr1⟩ := hF _ (k + 1) _ q1 (by omega) (OP_upr hge.1 hO) (by omega)
      have fr1' := frO_t frO_up fr1
      have hE : ∀ K : Nat → Int32 → Int32 → Int32 → zS → Option (Int32 × zS), fn_Re_either_L10 o0 o1 19 dep t (nI j) (mk f l R) K2 K = br (decide (nI (vb (F (k + 1)).1) = 0)) (some (nI 0, mk f1 l R)) (bv (fn_Or_put (hp r) (nI 38) (nI 0) (mk f1 l R)) fun S9 => K 19 dep t (nI (j + 1)) S9) := by
        intro K
        have t1 := hp_T (f := f1) (l := l) (R := R) hr
        simp (disch := omega) only [fn_Re_either_L10, fn_Re_either_L29, e0, e1, t1, hR, gT_mk_19, zR_mk_19_4, wbr_T, wbr_F, wgd_T, wbq, wbv, wnm, zI_mk, zL_mk, uI_mk, uL_mk, kI_mk, kL_mk, nI_eq, nI_leI, wdT, wdF, wd1, wd0, nI_add, li_0, li_1, li_38, li_100]
      by_cases h2 : (F (k + 1)).1 = true
      · rw [if_pos h2]
        have g := hG (k + 1) h2
        have hO1 := p1 h2
        have e2 := c_put (l := l) (R := R) (a := 38) (b := 0) h0 hr hO1 (by rw [List.length_append]; omega)
        have ih := c_l10 hT h0 hr hR hF hG t K2 c0 u (j + 1) (F (k + 1)).2.1 G _ (cc ++ ((F (k + 1)).2.2.1 ++ [(38, 0)])) (fun nm => v nm && (F (k + 1)).2.2.2 nm) (RP_put (o := hp r) hge.1 (m := (c0 ++ cc ++ (F (k + 1)).2.2.1).length) (x := nI 38) (y := nI 0) (z := nI ((c0 ++ cc ++ (F (k + 1)).2.2.1).length + 1)) r1) g.2.1 (by
            have := OP_put (a := 38) (b := 0) hO1
            rw [show c0 ++ (cc ++ ((F (k + 1)).2.2.1 ++ [(38, 0)])) = c0 ++ cc ++ (F (k + 1)).2.2.1 ++ [(38, 0)] by simp only [List.append_assoc]]
            exact this) (by
            simp only [List.length_append] at hc ⊢
            have : ([(38, 0)] : List (Nat × Nat)).length = 1 := rfl
            omega) (by omega) (by omega) (by omega) (by omega)
        have hb : ∀ K : Nat → Int32 → Int32 → Int32 → zS → Option (Int32 × zS), fn_Re_either_L10 o0 o1 19 dep t (nI j) (mk f l R) K2 K = K 19 dep t (nI (j + 1)) (mk (up (up (up f1 (hp r + 1) (c0 ++ cc ++ (F (k + 1)).2.2.1).length (nI 38)) (hp r + 2) (c0 ++ cc ++ (F (k + 1)).2.2.1).length (nI 0)) (hp r) 2 (nI ((c0 ++ cc ++ (F (k + 1)).2.2.1).length + 1))) l R) := by
          intro K
          rw [hE, h2, vb_T, e2, wdF (show ¬ nI 1 = 0 from by decide), wbr_F, wbv]
        rw [hb]
        refine ⟨fun q => ?_, fun q => ?_⟩
        · obtain ⟨f', a1, a2, a3, a4⟩ := ih.1 q
          exact ⟨f', a1, a2, a3, frO_t fr1' (frO_t fr_put a4)⟩
        · obtain ⟨f', a1, a2, a4⟩ := ih.2 q
          exact ⟨f', a1, a2, frO_t fr1' (frO_t fr_put a4)⟩
      · rw [if_neg h2]
        refine ⟨(fun q => by cases q), fun _ => ⟨f1, ?_, r1, fr1'⟩⟩
        rw [hE, Bool.eq_false_iff.mpr h2, vb_F, wdT (show nI 0 = 0 from rfl), wbr_T]
    · rw [if_neg h1] at e0 ⊢
      refine ⟨fun _ => ⟨f, ?_, hP, hO, frO_r⟩, fun q => absurd rfl q⟩
      simp (disch := omega) only [fn_Re_either_L10, e0, gT_mk_19, wbr_T, wbr_F, wgd_T, wbq, wbv, wnm, zI_mk, zL_mk, uI_mk, uL_mk, kI_mk, kL_mk, nI_eq, nI_leI, wdT, wdF, wd1, wd0, nI_add, li_0, li_1, li_38, li_100]
/-- from where a term begins: t terms stand before, c0 the steps ahead of all -/
theorem c_l2 (hT : tOk T n) (h0 : 0 < r) (hr : r ≤ 6) (hR : R 19 = hp r) (hF : RF T n l R r o1 dep F) (hG : pGo n F) (c0 : List (Nat × Nat)) :
    ∀ (u t k G : Nat) (f : Nat → Nat → Int32) (cc : List (Nat × Nat)) (v : (Nat → Nat) → Bool), RP T n k f → k ≤ n → OP f (hp r) (c0 ++ cc) → (c0 ++ cc).length + (if t = 0 then 0 else 1) ≤ k → (t = 0 → cc = []) → n ≤ k + u → 2 * t ≤ k → u < G →
    RO T n f l R (hp r) c0 (lp (σ := Nat × Int32 × Int32 × zS) (fun k s => fn_Re_either_L2 o0 o1 s.1 s.2.1 s.2.2.1 s.2.2.2 (fun (a0 : Nat) (a1 : Int32) (a2 : Int32) (S : zS) => k (a0, a1, a2, S))) G (19, dep, nI t, mk f l R))
      (if (pT T n F k).1 = true then pEl T n F (u + 1) (pT T n F k).2.1 (cc ++ ((pT T n F k).2.2.1 ++ (if t = 0 then [] else [(124, 0)]))) v else pNo (pT T n F k).2.1) := by
  intro u
  induction u with
  | zero =>
    intro t k G f cc v hP hk hO hc ht hu ht2 hG1
    obtain ⟨G, rfl⟩ : ∃ H, G = H + 1 := ⟨G - 1, by omega⟩
    have hn := hT.1
    have hkn : k = n := by omega
    rw [lpS]
    show RO T n f l R (hp r) c0 (fn_Re_either_L2 o0 o1 19 dep (nI t) (mk f l R) _) _
    obtain ⟨f1, e1, r1, p1, fr1⟩ := hF f k _ hP hk hO (by split at hc <;> omega)
    have hno : ¬ (F k).1 = true := fun q => by
      have := hG k q
      omega
    have hpt : pT T n F k = pNo (F k).2.1 := by
      unfold pT
      rw [if_neg hno]
    rw [hpt, if_neg (show ¬ (pNo (F k).2.1).1 = true from fun q => by cases q)]
    rw [Bool.eq_false_iff.mpr hno, vb_F] at e1
    refine ⟨f1, ?_, r1, (fun q => by cases q), fr1⟩
    unfold fn_Re_either_L2
    rw [show lp (σ := Nat × Int32 × Int32 × Int32 × zS) (fun k s => fn_Re_either_L10 o0 o1 s.1 s.2.1 s.2.2.1 s.2.2.2.1 s.2.2.2.2 _ (fun (a0 : Nat) (a1 : Int32) (a2 : Int32) (a3 : Int32) (S : zS) => k (a0, a1, a2, a3, S))) FU (19, dep, nI t, (0 : Int32), mk f l R) = _ from lpFU]
    simp (disch := omega) only [fn_Re_either_L10, fn_Re_either_L29, e1, gT_mk_19, wbr_T, wbr_F, wgd_T, wbq, wbv, wnm, zI_mk, zL_mk, uI_mk, uL_mk, kI_mk, kL_mk, nI_eq, nI_leI, wdT, wdF, wd1, wd0, nI_add, li_0, li_1, li_100]
    rfl
  | succ u ihu =>
    intro t k G f cc v hP hk hO hc ht hu ht2 hG1
    obtain ⟨G, rfl⟩ : ∃ H, G = H + 1 := ⟨G - 1, by omega⟩
    have hn := hT.1
    have hge := hp_ge h0 hr
    rw [lpS]
    show RO T n f l R (hp r) c0 (fn_Re_either_L2 o0 o1 19 dep (nI t) (mk f l R) _) _
    have hcl : (c0 ++ cc).length ≤ k := by split at hc <;> omega
    obtain ⟨f1, e1, r1, p1, fr1⟩ := hF f k _ hP hk hO hcl
    generalize hK : (fun (a0 : Nat) (a1 : Int32) (a2 : Int32) (S : zS) => lp (σ := Nat × Int32 × Int32 × zS) (fun k s => fn_Re_either_L2 o0 o1 s.1 s.2.1 s.2.2.1 s.2.2.2 (fun (a0 : Nat) (a1 : Int32) (a2 : Int32) (S : zS) => k (a0, a1, a2, S))) G (a0, a1, a2, S)) = K2
    have hS : fn_Re_either_L2 o0 o1 19 dep (nI t) (mk f l R) K2 = br (decide (nI (vb (F k).1) = 0)) (some (nI 0, mk f1 l R)) (lp (σ := Nat × Int32 × Int32 × Int32 × zS) (fun k s => fn_Re_either_L10 o0 o1 s.1 s.2.1 s.2.2.1 s.2.2.2.1 s.2.2.2.2 K2 (fun (a0 : Nat) (a1 : Int32) (a2 : Int32) (a3 : Int32) (S : zS) => k (a0, a1, a2, a3, S))) 4999 (19, dep, nI t, nI 1, mk f1 l R)) := by
      unfold fn_Re_either_L2
      rw [show lp (σ := Nat × Int32 × Int32 × Int32 × zS) (fun k s => fn_Re_either_L10 o0 o1 s.1 s.2.1 s.2.2.1 s.2.2.2.1 s.2.2.2.2 K2 (fun (a0 : Nat) (a1 : Int32) (a2 : Int32) (a3 : Int32) (S : zS) => k (a0, a1, a2, a3, S))) FU (19, dep, nI t, (0 : Int32), mk f l R) = fn_Re_either_L10 o0 o1 19 dep (nI t) (0 : Int32) (mk f l R) K2 _ from lpFU]
      simp (disch := omega) only [fn_Re_either_L10, fn_Re_either_L29, e1, gT_mk_19, wbr_T, wbr_F, wgd_T, wbq, wbv, wnm, zI_mk, zL_mk, uI_mk, uL_mk, kI_mk, kL_mk, nI_eq, nI_leI, wdT, wdF, wd1, wd0, nI_add, li_0, li_1, li_100]
    rw [hS]
    by_cases h2 : (F k).1 = true
    · have g := hG k h2
      have hO1 := p1 h2
      rw [h2, vb_T, wdF (show ¬ nI 1 = 0 from by decide), wbr_F]
      have in1 := c_l10 (o0 := o0) hT h0 hr hR hF hG (nI t) K2 (c0 ++ cc) 101 1 (F k).2.1 4999 f1 (F k).2.2.1 (F k).2.2.2 r1 g.2.1 hO1 (by rw [List.length_append]; omega) (by omega) (by decide) (by omega) (by decide)
      have hpt : pT T n F k = pTl T n F 101 (F k).2.1 (F k).2.2.1 (F k).2.2.2 := by
        unfold pT
        rw [if_pos h2]
      have gT := pT_go (T := T) hG k
      rw [hpt] at gT ⊢
      by_cases h3 : (pTl T n F 101 (F k).2.1 (F k).2.2.1 (F k).2.2.2).1 = true
      · rw [if_pos h3]
        obtain ⟨f2, e2, r2, p2, fr2⟩ := in1.1 h3
        have gg := gT h3
        rw [e2]
        generalize pTl T n F 101 (F k).2.1 (F k).2.2.1 (F k).2.2.2 = w at gg r2 p2 h3
        obtain ⟨w1, w2, w3, w4⟩ := w
        dsimp only at gg r2 p2 ⊢
        -- the put of OR
        obtain ⟨f3, e3, r3, p3, fr3⟩ : ∃ f3, fn_Re_either_L59 o0 o1 19 dep (nI t) (mk f2 l R) K2 = bq (fn_Re_eat 19 (nI 124) (mk f3 l R)) (fun r5 S3 => br (decide (r5 = nI 0)) (some (nI 1, S3)) (K2 19 dep (nI (t + 1)) S3)) ∧ RP T n w2 f3 ∧ OP f3 (hp r) (c0 ++ (cc ++ (w3 ++ (if t = 0 then [] else [(124, 0)])))) ∧ frO (hp r) f2 f3 := by
          by_cases h4 : t = 0
          · refine ⟨f2, ?_, r2, ?_, frO_r⟩
            · subst h4
              simp (disch := omega) only [fn_Re_either_L59, gT_mk_19, wbr_T, wbr_F, wgd_T, wbq, wbv, wnm, zI_mk, zL_mk, uI_mk, uL_mk, kI_mk, kL_mk, nI_leI, wdT, wdF, wd1, wd0, nI_add, li_0, li_1, li_124]
              all_goals rfl
            · rw [if_pos h4]
              simpa only [List.append_assoc, List.append_nil] using p2
          · have e4 := c_put (l := l) (R := R) (a := 124) (b := 0) h0 hr p2 (by
              rw [if_neg h4] at hc
              simp only [List.length_append] at hc ⊢
              omega)
            refine ⟨up (up (up f2 (hp r + 1) (c0 ++ cc ++ w3).length (nI 124)) (hp r + 2) (c0 ++ cc ++ w3).length (nI 0)) (hp r) 2 (nI ((c0 ++ cc ++ w3).length + 1)), ?_, RP_put hge.1 r2, ?_, fr_put⟩
            · have t1 := hp_T (f := f2) (l := l) (R := R) hr
              simp (disch := omega) only [fn_Re_either_L59, gT_mk_19, zR_mk_19_4, hR, t1, e4, wbr_T, wbr_F, wgd_T, wbq, wbv, wnm, zI_mk, zL_mk, uI_mk, uL_mk, kI_mk, kL_mk, nI_leI, wdT, wdF, wd1, wd0, nI_add, li_0, li_1, li_124]
              all_goals rfl
            · rw [if_neg h4]
              have := OP_put (a := 124) (b := 0) p2
              simpa only [List.append_assoc] using this
        rw [e3]
        have e5 := c_eat (l := l) (R := R) hT r3 gg.2.1 (c := 124) (by decide)
        unfold pEl
        have fr4 := frO_t (frO_t fr1 fr2) fr3
        by_cases h5 : sg T n w2 = 124
        · have hkn := sg_lt h5 (by decide)
          rw [if_pos h5] at e5 ⊢
          rw [e5, wbq, wdF (show ¬ nI 1 = nI 0 from by decide), wbr_F]
          have ih := ihu (t + 1) (w2 + 1) G (up f3 19 2 (nI (w2 + 1))) (cc ++ (w3 ++ (if t = 0 then [] else [(124, 0)]))) (fun nm => v nm || (pT T n F (w2 + 1)).2.2.2 nm) (RP_up r3) (by omega) (OP_upr hge.1 p3) (by
            rw [if_neg (show ¬ t + 1 = 0 by omega)]
            split at hc
            · rename_i q
              rw [if_pos q]
              simp only [List.length_append, List.length_nil] at hc ⊢
              omega
            · rename_i q
              rw [if_neg q]
              have : ([(124, 0)] : List (Nat × Nat)).length = 1 := rfl
              simp only [List.length_append] at hc ⊢
              omega) (by omega) (by omega) (by omega) (by omega)
          obtain ⟨f6, e6, r6, p6, fr6⟩ := ih
          subst hK
          rw [if_neg (show ¬ t + 1 = 0 by omega)] at e6 r6 p6
          exact ⟨f6, e6, r6, p6, frO_t fr4 (frO_t frO_up fr6)⟩
        · rw [if_neg h5] at e5 ⊢
          rw [e5, wbq, wdT (show nI 0 = nI 0 from rfl), wbr_T]
          exact ⟨f3, rfl, r3, fun _ => p3, fr4⟩
      · rw [if_neg h3]
        obtain ⟨f2, e2, r2, fr2⟩ := in1.2 h3
        exact ⟨f2, e2, r2, (fun q => by cases q), frO_t fr1 fr2⟩
    · have hpt : pT T n F k = pNo (F k).2.1 := by
        unfold pT
        rw [if_neg h2]
      rw [hpt, if_neg (show ¬ (pNo (F k).2.1).1 = true from fun q => by cases q), Bool.eq_false_iff.mpr h2, vb_F, wdT (show nI 0 = 0 from rfl), wbr_T]
      exact ⟨f1, rfl, r1, (fun q => by cases q), fr1⟩
theorem c_either_o (hT : tOk T n) (h0 : 0 < r) (hr : r ≤ 6) (hR : R 19 = hp r) (hF : RF T n l R r o1 dep F) (hG : pGo n F) {f : Nat → Nat → Int32} {k : Nat} {c : List (Nat × Nat)} (hP : RP T n k f) (hk : k ≤ n) (hO : OP f (hp r) c) (hc : c.length ≤ k) :
    RO T n f l R (hp r) c (fn_Re_either_o o0 o1 19 dep (mk f l R)) (pE T n F k) := by
  have hn := hT.1
  have := c_l2 (o0 := o0) hT h0 hr hR hF hG c 100 0 k FU f [] (pT T n F k).2.2.2 hP hk (by rw [List.append_nil]; exact hO) (by rw [List.append_nil, if_pos rfl]; omega) (fun _ => rfl) (by omega) (by omega) (by decide)
  rw [if_pos rfl, List.nil_append, List.append_nil] at this
  exact this
end
theorem either_S (u a : Nat) (b : Int32) (S : zS) : fn_Re_either (u + 1) a b S = fn_Re_either_o (fun b0 b1 S => fn_Re_either u b0 b1 S) (fun b0 b1 S => fn_Re_factor u b0 b1 S) a b S := by
  unfold fn_Re_either fn_Re_factor
  rw [lpS]
  rfl
theorem factor_S (u a : Nat) (b : Int32) (S : zS) : fn_Re_factor (u + 1) a b S = fn_Re_factor_o (fun b0 b1 S => fn_Re_either u b0 b1 S) (fun b0 b1 S => fn_Re_factor u b0 b1 S) a b S := by
  unfold fn_Re_either fn_Re_factor
  rw [lpS]
  rfl
theorem c_factor {r : Nat} (hT : tOk T n) (h0 : 0 < r) (hr : r ≤ 6) (hR : R 19 = hp r) : ∀ (d u : Nat), d ≤ 4 → 2 * d < u → RF T n l R r (fun b0 b1 S => fn_Re_factor u b0 b1 S) (nI (4 - d)) (pF T n d)
  | 0, u, hd, hu => by
    intro f k c hP hk hO hc
    obtain ⟨u, rfl⟩ : ∃ w, u = w + 1 := ⟨u - 1, by omega⟩
    show RO T n f l R (hp r) c (fn_Re_factor (u + 1) 19 (nI (4 - 0)) (mk f l R)) (pTest T n k)
    rw [factor_S]
    obtain ⟨f1, e1, r1, p1, fr1⟩ := c_test (l := l) hT h0 hr hR hP hk hO hc
    refine ⟨f1, ?_, r1, p1, fr1⟩
    have hz : gZo (nI (vb (pTest T n k).1)) = true := by cases (pTest T n k).1 <;> rfl
    simp (disch := omega) only [fn_Re_factor_o, fn_Re_factor_L39, e1, hz, Nat.sub_zero, gT_mk_19, wbr_T, wbr_F, wgd_T, wbq, wbv, wnm, zI_mk, zL_mk, uI_mk, uL_mk, kI_mk, kL_mk, nI_leI, wdT, wdF, wd1, wd0, li_4]
  | d + 1, u, hd, hu => by
    intro f k c hP hk hO hc
    obtain ⟨u, rfl⟩ : ∃ w, u = w + 1 := ⟨u - 1, by omega⟩
    have hn := hT.1
    have hge := hp_ge h0 hr
    have hdep : 4 - (d + 1) < 4 := by omega
    have hdep2 : nI (4 - (d + 1)) + nI 1 = nI (4 - d) := by rw [nI_add]; congr 1; omega
    have ihF := c_factor hT h0 hr hR d u (by omega) (by omega)
    show RO T n f l R (hp r) c (fn_Re_factor (u + 1) 19 (nI (4 - (d + 1))) (mk f l R)) (pF T n (d + 1) k)
    rw [factor_S]
    generalize hdd : 4 - (d + 1) = dd at hdep hdep2
    have e40 := c_eat (l := l) (R := R) hT hP hk (c := 40) (by decide)
    have e33 := c_eat (l := l) (R := R) hT hP hk (c := 33) (by decide)
    unfold pF
    by_cases h1 : sg T n k = 33
    · have hkn := sg_lt h1 (by decide)
      rw [if_neg (by omega)] at e40
      rw [if_pos h1] at e33 ⊢
      obtain ⟨f1, e1, r1, p1, fr1⟩ := ihF _ (k + 1) c (RP_up (k' := k + 1) hP) (by omega) (OP_upr hge.1 hO) (by omega)
      dsimp only at e1
      by_cases h2 : (pF T n d (k + 1)).1 = true
      · rw [if_pos h2]
        have g := pF_go d (k + 1) h2
        have hO1 := p1 h2
        rw [h2, vb_T] at e1
        have e2 := c_put (l := l) (R := R) (a := 33) (b := 0) h0 hr hO1 (by rw [List.length_append]; omega)
        have t1 := hp_T (f := f1) (l := l) (R := R) hr
        refine ⟨up (up (up f1 (hp r + 1) (c ++ (pF T n d (k + 1)).2.2.1).length (nI 33)) (hp r + 2) (c ++ (pF T n d (k + 1)).2.2.1).length (nI 0)) (hp r) 2 (nI ((c ++ (pF T n d (k + 1)).2.2.1).length + 1)), ?_, RP_put hge.1 r1, fun _ => ?_, frO_t (frO_t frO_up fr1) fr_put⟩
        · simp (disch := omega) only [fn_Re_factor_o, fn_Re_factor_L39, e40, e33, hdep2, e1, t1, e2, hR, vb_T, gT_mk_19, zR_mk_19_4, wbr_T, wbr_F, wgd_T, wbq, wbv, wnm, zI_mk, zL_mk, uI_mk, uL_mk, kI_mk, kL_mk, nI_leI, nI_eq, wdT, wdF, wd1, wd0, li_0, li_1, li_4, li_33, li_40]
        · have := OP_put (a := 33) (b := 0) hO1
          rw [List.append_assoc] at this
          exact this
      · rw [if_neg h2]
        rw [Bool.eq_false_iff.mpr h2, vb_F] at e1
        refine ⟨f1, ?_, r1, (fun q => by cases q), frO_t frO_up fr1⟩
        simp (disch := omega) only [fn_Re_factor_o, fn_Re_factor_L39, e40, e33, hdep2, e1, gT_mk_19, wbr_T, wbr_F, wgd_T, wbq, wbv, wnm, zI_mk, zL_mk, uI_mk, uL_mk, kI_mk, kL_mk, nI_leI, nI_eq, wdT, wdF, wd1, wd0, li_0, li_1, li_4, li_33, li_40]
        rfl
    · rw [if_neg h1] at e33 ⊢
      by_cases h3 : sg T n k = 40
      · have hkn := sg_lt h3 (by decide)
        rw [if_pos h3] at e40 ⊢
        obtain ⟨u, rfl⟩ : ∃ w, u = w + 1 := ⟨u - 1, by omega⟩
        have ihF2 := c_factor hT h0 hr hR d u (by omega) (by omega)
        have hE : RO T n (up f 19 2 (nI (k + 1))) l R (hp r) c (fn_Re_either (u + 1) 19 (nI (4 - d)) (mk (up f 19 2 (nI (k + 1))) l R)) (pE T n (pF T n d) (k + 1)) := by
          rw [either_S]
          exact c_either_o (o0 := fun b0 b1 S => fn_Re_either u b0 b1 S) hT h0 hr hR ihF2 (pF_go d) (RP_up (k' := k + 1) hP) (by omega) (OP_upr hge.1 hO) (by omega)
        obtain ⟨f1, e1, r1, p1, fr1⟩ := hE
        by_cases h2 : (pE T n (pF T n d) (k + 1)).1 = true
        · rw [if_pos h2]
          have g := pE_go (pF_go d) (k + 1) h2
          have hO1 := p1 h2
          rw [h2, vb_T] at e1
          have e41 := c_eat (l := l) (R := R) hT r1 g.2.1 (c := 41) (by decide)
          by_cases h4 : sg T n (pE T n (pF T n d) (k + 1)).2.1 = 41
          · rw [if_pos h4] at e41 ⊢
            refine ⟨_, ?_, RP_up r1, fun _ => OP_upr hge.1 hO1, frO_t (frO_t frO_up fr1) frO_up⟩
            simp (disch := omega) only [fn_Re_factor_o, e40, hdep2, e1, e41, vb_T, gT_mk_19, wbr_T, wbr_F, wgd_T, wbq, wbv, wnm, zI_mk, zL_mk, uI_mk, uL_mk, kI_mk, kL_mk, nI_leI, nI_eq, wdT, wdF, wd1, wd0, li_0, li_1, li_4, li_41, li_40]
          · rw [if_neg h4] at e41 ⊢
            refine ⟨f1, ?_, r1, (fun q => by cases q), frO_t frO_up fr1⟩
            simp (disch := omega) only [fn_Re_factor_o, e40, hdep2, e1, e41, gT_mk_19, wbr_T, wbr_F, wgd_T, wbq, wbv, wnm, zI_mk, zL_mk, uI_mk, uL_mk, kI_mk, kL_mk, nI_leI, nI_eq, wdT, wdF, wd1, wd0, li_0, li_1, li_4, li_41, li_40]
            rfl
        · rw [if_neg h2]
          rw [Bool.eq_false_iff.mpr h2, vb_F] at e1
          refine ⟨f1, ?_, r1, (fun q => by cases q), frO_t frO_up fr1⟩
          simp (disch := omega) only [fn_Re_factor_o, e40, hdep2, e1, gT_mk_19, wbr_T, wbr_F, wgd_T, wbq, wbv, wnm, zI_mk, zL_mk, uI_mk, uL_mk, kI_mk, kL_mk, nI_leI, nI_eq, wdT, wdF, wd1, wd0, li_0, li_1, li_4, li_41, li_40]
          rfl
      · rw [if_neg h3] at e40 ⊢
        obtain ⟨f1, e1, r1, p1, fr1⟩ := c_test (l := l) hT h0 hr hR hP hk hO hc
        refine ⟨f1, ?_, r1, p1, fr1⟩
        have hz : gZo (nI (vb (pTest T n k).1)) = true := by cases (pTest T n k).1 <;> rfl
        simp (disch := omega) only [fn_Re_factor_o, fn_Re_factor_L39, e1, e40, e33, hz, gT_mk_19, wbr_T, wbr_F, wgd_T, wbq, wbv, wnm, zI_mk, zL_mk, uI_mk, uL_mk, kI_mk, kL_mk, nI_leI, nI_eq, wdT, wdF, wd1, wd0, li_0, li_4, li_33, li_40]
theorem c_either {r : Nat} {c : List (Nat × Nat)} (hT : tOk T n) (h0 : 0 < r) (hr : r ≤ 6) (hR : R 19 = hp r) (hP : RP T n k f) (hk : k ≤ n) (hO : OP f (hp r) c) (hc : c.length ≤ k) : RO T n f l R (hp r) c (fn_Re_either FR 19 (nI 0) (mk f l R)) (pE T n (pF T n 4) k) := by
  rw [show FR = 59 + 1 from rfl, either_S]
  exact c_either_o (o0 := fun b0 b1 S => fn_Re_either 59 b0 b1 S) (o1 := fun b0 b1 S => fn_Re_factor 59 b0 b1 S) hT h0 hr hR (c_factor hT h0 hr hR 4 59 (by decide) (by decide)) (pF_go 4) hP hk hO hc
end
