/-! SCRUBBED: all rows, the first as a row of numbers -/
def scD (tk : Nat → Nat → Nat) (z : Nat) : Nat → Nat → Nat → Nat → (Nat → Nat) → shS → shS
  | 0, _, _, o, row, st => if pc o < st.1 then (pc o, row) else st
  | d + 1, k, u, o, row, st => shN (fun s st => scD tk z d (k + 1) (u + 2 ^ s) (offN o (tk s o)) (us row k s) st) u z 0 st
theorem shN_Q {P : shS → Prop} {F : Nat → shS → shS} {g : Nat} (hF : ∀ n st, P st → P (F n st)) : ∀ e n st, P st → P (shN F g e n st)
  | 0, _, _, h => h
  | e + 1, n, st, h => by
    show P (shN F g e (n + 1) (if g / 2 ^ n % 2 = 0 then F n st else st))
    refine shN_Q hF e (n + 1) _ ?_
    by_cases c : g / 2 ^ n % 2 = 0
    · rw [if_pos c]
      exact hF n st h
    · rw [if_neg c]
      exact h
theorem scD_le {tk : Nat → Nat → Nat} {z M : Nat} : ∀ (d k u o : Nat) (row : Nat → Nat) (st : shS), st.1 ≤ M → (scD tk z d k u o row st).1 ≤ M
  | 0, k, u, o, row, st, h => by
    show (if pc o < st.1 then (pc o, row) else st).1 ≤ M
    by_cases c : pc o < st.1
    · rw [if_pos c]
      show pc o ≤ M
      omega
    · rw [if_neg c]
      exact h
  | d + 1, k, u, o, row, st, h => shN_Q (P := fun st => st.1 ≤ M) (fun s st h => scD_le d (k + 1) (u + 2 ^ s) (offN o (tk s o)) (us row k s) st h) z 0 st h
theorem shN_reach {F : Nat → shS → shS} {g z : Nat} (hle : ∀ s st, st.1 ≤ 12 → (F s st).1 ≤ 12) (hF : ∀ s st, s < z → g / 2 ^ s % 2 = 0 → (F s st).1 ≤ 12) : ∀ e n st, n + e = z → (st.1 ≤ 12 ∨ ∃ s, n ≤ s ∧ s < z ∧ g / 2 ^ s % 2 = 0) → (shN F g e n st).1 ≤ 12
  | 0, n, st, hn, h => by
    rcases h with h | ⟨s, h1, h2, h3⟩
    · exact h
    · omega
  | e + 1, n, st, hn, h => by
    show (shN F g e (n + 1) (if g / 2 ^ n % 2 = 0 then F n st else st)).1 ≤ 12
    refine shN_reach hle hF e (n + 1) _ (by omega) ?_
    by_cases c : g / 2 ^ n % 2 = 0
    · rw [if_pos c]
      exact Or.inl (hF n st (by omega) c)
    · rw [if_neg c]
      rcases h with h | ⟨s, h1, h2, h3⟩
      · exact Or.inl h
      · refine Or.inr ⟨s, ?_, h2, h3⟩
        rcases (by omega : s = n ∨ n + 1 ≤ s) with e | e
        · subst e
          exact absurd h3 c
        · exact e
def cnt6 (u : Nat) : Nat := u % 2 + u / 2 % 2 + u / 4 % 2 + u / 8 % 2 + u / 16 % 2 + u / 32 % 2
theorem bits6 : ∀ u, u < 64 → ∀ s, s < 6 → u / 2 ^ s % 2 = 0 → u ||| 2 ^ s = u + 2 ^ s ∧ u + 2 ^ s < 64 ∧ cnt6 (u + 2 ^ s) = cnt6 u + 1 := by decide +kernel
theorem free6 : ∀ u, u < 64 → ∀ z, z < 7 → cnt6 u < z → ∃ s, s < z ∧ u / 2 ^ s % 2 = 0 := by decide +kernel
theorem pow6 : ∀ n, n < 6 → 2 ^ n ≤ 32 := by decide
theorem scD_reach {tk : Nat → Nat → Nat} {z : Nat} (hz : z ≤ 6) : ∀ (d k u o : Nat) (row : Nat → Nat) (st : shS), k + d ≤ z → o < 4096 → u < 64 → cnt6 u = k → (scD tk z d k u o row st).1 ≤ 12
  | 0, k, u, o, row, st, hk, ho, hu, hc => by
    have h := pc_le o ho
    show (if pc o < st.1 then (pc o, row) else st).1 ≤ 12
    by_cases c : pc o < st.1
    · rw [if_pos c]
      exact h
    · rw [if_neg c]
      omega
  | d + 1, k, u, o, row, st, hk, ho, hu, hc => by
    obtain ⟨s, h1, h2⟩ := free6 u hu z (by omega) (by omega)
    refine shN_reach (F := fun s st => scD tk z d (k + 1) (u + 2 ^ s) (offN o (tk s o)) (us row k s) st) (fun s st h => scD_le d (k + 1) (u + 2 ^ s) (offN o (tk s o)) (us row k s) st h) (fun s st q1 q2 => ?_) z 0 st (Nat.zero_add _) (Or.inr ⟨s, Nat.zero_le _, h1, h2⟩)
    obtain ⟨p1, p2, p3⟩ := bits6 u hu s (by omega) q2
    exact scD_reach hz d (k + 1) (u + 2 ^ s) (offN o (tk s o)) (us row k s) st (by omega) (offN_lt ho) p2 (by omega)
section
variable {f f' g : Nat → Nat → Int32} {l : Nat → Nat → Int64} {R : Nat → Nat} {a a' : Nat → Nat} {T : Nat → Nat → Nat} {N : Nat → Nat} {ru D i j k n w z s : Nat} {V : zV} {st : shS}
/-! the class -/
def BC (n : Nat) (f : Nat → Nat → Int32) (st : shS) : Prop := st.1 ≤ 13 ∧ f 28 4 = nI st.1 ∧ (st.1 ≤ 12 → ∀ j, j < n → f 31 j = nI (st.2 j))
def FC (k : Nat) (f f' : Nat → Nat → Int32) : Prop := ∀ p j, ¬ (p = 30 ∧ k ≤ j) → ¬ p = 31 → ¬ (p = 28 ∧ j = 4) → f' p j = f p j
def sl (f f' : Nat → Nat → Int32) : Prop := ∀ p j, ¬ (28 ≤ p ∧ p ≤ 31) → f' p j = f p j
theorem sl_r : sl f f := fun _ _ _ => rfl
theorem sl_t (h : sl f f') (h2 : sl f' g) : sl f g := fun p j q => (h2 p j q).trans (h p j q)
theorem sl_CX (h : CX T N ru D 41 a f R) (hs : sl f f') : CX T N ru D 41 a f' R := ⟨CK_fr h.1 (fun p j q => hs p j (by omega)), cC_fr h.2.1 (fun p j q1 q2 => hs p j (by omega)) rfl, h.2.2⟩
theorem FC_r : FC k f f := fun _ _ _ _ _ => rfl
theorem FC_t (h : FC k f f') (h2 : FC k f' g) : FC k f g := fun p j a b c => (h2 p j a b c).trans (h p j a b c)
theorem FC_s (h : FC (k + 1) f f') : FC k f f' := fun p j a b c => h p j (fun q => a ⟨q.1, by omega⟩) b c
theorem FC_up {x : Int32} : FC k f (up f 30 k x) := fun p j a _ _ => by
  by_cases e : p = 30
  · subst e
    exact up_nj (fun q => a ⟨rfl, by omega⟩)
  · exact up_np e
theorem FC_sl (h : FC k f f') : sl f f' := fun p j q => h p j (by omega) (by omega) (by omega)
/-- how long the row is, how much grit each has -/
def GC (V : zV) (a : Nat → Nat) (n : Nat) (f : Nat → Nat → Int32) : Prop := f 28 3 = nI n ∧ ∀ s, s < a 68 → f 29 s = gritS V a s
theorem GC_F (h : GC V a n f) (hs : FC k f f') : GC V a n f' := ⟨(hs 28 3 (by omega) (by omega) (by omega)).trans h.1, fun s q => (hs 29 s (by omega) (by omega) (by omega)).trans (h.2 s q)⟩
theorem BC_up {x : Int32} (h : BC n f st) : BC n (up f 30 k x) st := ⟨h.1, (up_np (by decide)).trans h.2.1, fun q j hj => (up_np (by decide)).trans (h.2.2 q j hj)⟩
theorem crow_up {row : Nat → Nat} {x : Nat} (hr : ∀ j, j < k → f 30 j = nI (row j)) : ∀ j, j < k + 1 → up f 30 k (nI x) 30 j = nI (us row k x j) := fun j hj => by
  by_cases e : j = k
  · subst e
    rw [up_eq, us_eq]
  · rw [up_nj e, us_ne e]
    exact hr j (by omega)
theorem scseek_S (u p q : Nat) (b c e : Int32) (S : zS) : fn_Sc_seek (u + 1) p q b c e S = fn_Sc_seek_o (fun b0 b1 b2 b3 b4 S => fn_Sc_seek u b0 b1 b2 b3 b4 S) p q b c e S := by
  unfold fn_Sc_seek
  rw [lpS]
  rfl
theorem c_sc48 {d : Nat} {o0 : Nat → Nat → Int32 → Int32 → Int32 → zS → Option zS} (hn : n ≤ 3) (hkn : k + 1 + d = n)
    (ih : ∀ (u o : Nat) (row : Nat → Nat) (st : shS) (f : Nat → Nat → Int32), u < 64 → o < 4096 → CX T N ru D 41 a f R → GC (rV T N) a n f → BC n f st → (∀ j, j < k + 1 → f 30 j = nI (row j)) → ∃ f', o0 28 41 (nI (k + 1)) (nI u) (nI o) (mk f l R) = some (mk f' l R) ∧ BC n f' (scD (takesN (rV T N) a) (a 68) d (k + 1) u o row st) ∧ FC (k + 1) f f')
    {u o : Nat} {row : Nat → Nat} (hu : u < 64) (ho : o < 4096) : ∀ (e s G : Nat) (f : Nat → Nat → Int32) (st : shS), s + e = a 68 → e < G → CX T N ru D 41 a f R → GC (rV T N) a n f → BC n f st → (∀ j, j < k → f 30 j = nI (row j)) →
    ∃ f', lp (σ := Nat × Nat × Int32 × Int32 × Int32 × Int32 × zS) (fun k s => fn_Sc_seek_L53 o0 s.1 s.2.1 s.2.2.1 s.2.2.2.1 s.2.2.2.2.1 s.2.2.2.2.2.1 s.2.2.2.2.2.2 (fun (a0 : Nat) (a1 : Nat) (a2 : Int32) (a3 : Int32) (a4 : Int32) (a5 : Int32) (S : zS) => k (a0, a1, a2, a3, a4, a5, S))) G (28, 41, nI k, nI u, nI o, nI s, mk f l R) = some (mk f' l R)
      ∧ BC n f' (shN (fun s st => scD (takesN (rV T N) a) (a 68) d (k + 1) (u + 2 ^ s) (offN o (takesN (rV T N) a s o)) (us row k s) st) u e s st) ∧ FC k f f'
  | 0, s, G, f, st, hs, hG, h, hC, hB, hr => by
    obtain ⟨G, rfl⟩ : ∃ H, G = H + 1 := ⟨G - 1, by omega⟩
    obtain ⟨u0, u1, u2, u3, u4, u5, u6, u7, u8, u9, u10, u11, u12, u13, u14, u15, u16, u17, u18, u19, u20, u21, u22, u23, u24, u25, u26, u27, u28, u29, u30⟩ := hbB
    have z6 := h.2.1.1.1
    have ez : f 41 6 = nI (a 68) := cC_z h.2.1
    refine ⟨f, ?_, hB, FC_r⟩
    rw [lpS]
    show fn_Sc_seek_L53 o0 28 41 (nI k) (nI u) (nI o) (nI s) (mk f l R) _ = _
    simp (disch := omega) only [wbr_T, wbr_F, wgd_T, wbq, wbv, wnm, zI_mk, zL_mk, uI_mk, uL_mk, kI_mk, kL_mk, nI_add, nI_mul, nI_sub, nI_div, nI_clamp, wgB, wgP, nI_leI, nI_ltI, nI_eq, nI_eqm, nI_eqm5, wdT, wdF, wd1, wd0, li_0, li_1, li_2, li_3, li_4, li_5, li_6, li_7, li_8, li_9, li_10, li_11, li_12, li_13, li_14, li_15, li_16, li_17, li_18, li_19, li_20, li_21, li_22, li_23, li_24, li_25, li_26, li_27, li_28, li_29, li_30, li_31, li_32, li_33, li_38, li_40, li_41, li_48, li_57, li_58, li_59, li_60, li_61, li_62, li_63, li_68, li_69, li_70, li_71, li_72, li_73, li_74, li_75, li_83, li_87, li_88, li_89, li_99, li_100, li_104, li_105, li_106, li_107, li_108, li_109, li_110, li_111, li_112, li_113, li_114, li_115, li_116, li_117, li_118, li_119, li_120, li_121, li_124, li_127, li_128, li_200, li_4095, li_4096, li_9999, fn_Sc_seek_L53, ez, u0, u1, u2, u3, u4, u5, u6, u7, u8, u9, u10, u11, u12, u13, u14, u15, u16, u17, u18, u19, u20, u21, u22, u23, u24, u25, u26, u27, u28, u29, u30]
  | e + 1, s, G, f, st, hs, hG, h, hC, hB, hr => by
    obtain ⟨G, rfl⟩ : ∃ H, G = H + 1 := ⟨G - 1, by omega⟩
    obtain ⟨u0, u1, u2, u3, u4, u5, u6, u7, u8, u9, u10, u11, u12, u13, u14, u15, u16, u17, u18, u19, u20, u21, u22, u23, u24, u25, u26, u27, u28, u29, u30⟩ := hbB
    have z6 := h.2.1.1.1
    have ez : f 41 6 = nI (a 68) := cC_z h.2.1
    have hs1 : s < a 68 := by omega
    have hs6 : s < 6 := by omega
    have bt : (nI u >>> (nI s &&& nI 31)) &&& nI 1 = nI (u / 2 ^ s % 2) := nI_bit (by omega) (by omega)
    have b2 : u / 2 ^ s % 2 < 2 := Nat.mod_lt _ (by decide)
    rw [lpS]
    show ∃ f', fn_Sc_seek_L53 o0 28 41 (nI k) (nI u) (nI o) (nI s) (mk f l R) _ = _ ∧ BC n f' (shN (fun s st => scD (takesN (rV T N) a) (a 68) d (k + 1) (u + 2 ^ s) (offN o (takesN (rV T N) a s o)) (us row k s) st) u e (s + 1) (if u / 2 ^ s % 2 = 0 then scD (takesN (rV T N) a) (a 68) d (k + 1) (u + 2 ^ s) (offN o (takesN (rV T N) a s o)) (us row k s) st else st)) ∧ _
    by_cases c : u / 2 ^ s % 2 = 0
    · rw [if_pos c]
      obtain ⟨q1, q2, q3⟩ := bits6 u hu s hs6 c
      have h1 := sl_CX h (FC_sl (FC_up (f := f) (k := k) (x := nI s)))
      have C1 := GC_F hC (FC_up (f := f) (k := k) (x := nI s))
      have et : fn_Sa_takes (51 + 2 * s) (nI o) (gritS (rV T N) a s) (mk (up f 30 k (nI s)) l R) = _ := c_takesS (l := l) (R := R) h1.1 (sp_b zb41 hs6) (cC_sP h1.2.1 hs1) h1.2.2.1 hs6 ho
      have eg := hC.2 s hs1
      have of_ : nI o &&& (nI (takesN (rV T N) a s o) ^^^ -nI 1) = nI (offN o (takesN (rV T N) a s o)) := nI_offN.symm
      obtain ⟨f1, e1, b1, s1⟩ := ih (u + 2 ^ s) (offN o (takesN (rV T N) a s o)) (us row k s) st (up f 30 k (nI s)) q2 (offN_lt ho) h1 C1 (BC_up hB) (crow_up hr)
      have s01 := FC_t FC_up (FC_s s1)
      obtain ⟨f2, e2, b2, s2⟩ := c_sc48 hn hkn ih hu ho e (s + 1) G f1 _ (by omega) (by omega) (sl_CX h (FC_sl s01)) (GC_F hC s01) b1 (fun j hj => (s01 30 j (by omega) (by omega) (by omega)).trans (hr j hj))
      refine ⟨f2, ?_, b2, FC_t s01 s2⟩
      have sh : nI 1 <<< (nI s &&& nI 31) = nI (2 ^ s) := sh_k s (by omega)
      have hp := pow6 s hs6
      have oo := nI_or (a := u) (b := 2 ^ s) (by omega) (by omega)
      rw [q1] at oo
      simp (disch := omega) only [wbr_T, wbr_F, wgd_T, wbq, wbv, wnm, zI_mk, zL_mk, uI_mk, uL_mk, kI_mk, kL_mk, nI_add, nI_mul, nI_sub, nI_div, nI_clamp, wgB, wgP, nI_leI, nI_ltI, nI_eq, nI_eqm, nI_eqm5, wdT, wdF, wd1, wd0, li_0, li_1, li_2, li_3, li_4, li_5, li_6, li_7, li_8, li_9, li_10, li_11, li_12, li_13, li_14, li_15, li_16, li_17, li_18, li_19, li_20, li_21, li_22, li_23, li_24, li_25, li_26, li_27, li_28, li_29, li_30, li_31, li_32, li_33, li_38, li_40, li_41, li_48, li_57, li_58, li_59, li_60, li_61, li_62, li_63, li_68, li_69, li_70, li_71, li_72, li_73, li_74, li_75, li_83, li_87, li_88, li_89, li_99, li_100, li_104, li_105, li_106, li_107, li_108, li_109, li_110, li_111, li_112, li_113, li_114, li_115, li_116, li_117, li_118, li_119, li_120, li_121, li_124, li_127, li_128, li_200, li_4095, li_4096, li_9999, fn_Sc_seek_L53, ez, bt, c, et, eg, of_, sh, oo, e1, up_np, gT_mk_24, zT_mk_24, zR_mk_24_0, zR_mk_24_1, zR_mk_24_2, gT_mk_25, zT_mk_25, gT_mk_26, zT_mk_26, gT_mk_27, zT_mk_27, gT_mk_28, zT_mk_28, zR_mk_28_0, zR_mk_28_1, zR_mk_28_2, gT_mk_29, zT_mk_29, gT_mk_30, zT_mk_30, gT_mk_31, zT_mk_31, gT_mk_32, zT_mk_32, zR_mk_32_0, gT_mk_33, zT_mk_33, u0, u1, u2, u3, u4, u5, u6, u7, u8, u9, u10, u11, u12, u13, u14, u15, u16, u17, u18, u19, u20, u21, u22, u23, u24, u25, u26, u27, u28, u29, u30]
      exact e2
    · rw [if_neg c]
      obtain ⟨f2, e2, b2, s2⟩ := c_sc48 hn hkn ih hu ho e (s + 1) G f st (by omega) (by omega) h hC hB hr
      refine ⟨f2, ?_, b2, s2⟩
      simp (disch := omega) only [wbr_T, wbr_F, wgd_T, wbq, wbv, wnm, zI_mk, zL_mk, uI_mk, uL_mk, kI_mk, kL_mk, nI_add, nI_mul, nI_sub, nI_div, nI_clamp, wgB, wgP, nI_leI, nI_ltI, nI_eq, nI_eqm, nI_eqm5, wdT, wdF, wd1, wd0, li_0, li_1, li_2, li_3, li_4, li_5, li_6, li_7, li_8, li_9, li_10, li_11, li_12, li_13, li_14, li_15, li_16, li_17, li_18, li_19, li_20, li_21, li_22, li_23, li_24, li_25, li_26, li_27, li_28, li_29, li_30, li_31, li_32, li_33, li_38, li_40, li_41, li_48, li_57, li_58, li_59, li_60, li_61, li_62, li_63, li_68, li_69, li_70, li_71, li_72, li_73, li_74, li_75, li_83, li_87, li_88, li_89, li_99, li_100, li_104, li_105, li_106, li_107, li_108, li_109, li_110, li_111, li_112, li_113, li_114, li_115, li_116, li_117, li_118, li_119, li_120, li_121, li_124, li_127, li_128, li_200, li_4095, li_4096, li_9999, fn_Sc_seek_L53, ez, bt, u0, u1, u2, u3, u4, u5, u6, u7, u8, u9, u10, u11, u12, u13, u14, u15, u16, u17, u18, u19, u20, u21, u22, u23, u24, u25, u26, u27, u28, u29, u30]
      exact e2
theorem c_scseek (hn : n ≤ 3) : ∀ (d k v u o : Nat) (row : Nat → Nat) (st : shS) (f : Nat → Nat → Int32), k + d = n → d < v → u < 64 → o < 4096 → CX T N ru D 41 a f R → GC (rV T N) a n f → BC n f st → (∀ j, j < k → f 30 j = nI (row j)) →
    ∃ f', fn_Sc_seek v 28 41 (nI k) (nI u) (nI o) (mk f l R) = some (mk f' l R) ∧ BC n f' (scD (takesN (rV T N) a) (a 68) d k u o row st) ∧ FC k f f'
  | 0, k, v, u, o, row, st, f, hk, hv, hu, ho, h, hC, hB, hr => by
    obtain ⟨v, rfl⟩ : ∃ w, v = w + 1 := ⟨v - 1, by omega⟩
    have ek : k = n := by omega
    subst ek
    obtain ⟨h1, h2, h3⟩ := hB
    have hC1 := hC.1
    have p12 := pc_le o ho
    have bc := fun S : zS => bc_pc (S := S) ho
    rw [scseek_S]
    show ∃ f', _ ∧ BC k f' (if pc o < st.1 then (pc o, row) else st) ∧ _
    by_cases c : pc o < st.1
    · rw [if_pos c]
      have k1 : ∀ f, gK (mk f l R) 1 30 31 (nI 0) (nI 0) (nI 3) = true := fun f => wgK (P := 3) (Q := 3) rfl rfl (by decide) (by decide) rfl rfl (by decide) (by decide) (by decide) (by decide)
      refine ⟨kp (up f 28 4 (nI (pc o))) 30 0 31 0 3, ?_, ⟨by show pc o ≤ 13; omega, ?_, fun _ j hj => ?_⟩, fun p j q1 q2 q3 => ?_⟩
      · simp (disch := omega) only [wbr_T, wbr_F, wgd_T, wbq, wbv, wnm, zI_mk, zL_mk, uI_mk, uL_mk, kI_mk, kL_mk, nI_add, nI_mul, nI_sub, nI_div, nI_clamp, wgB, wgP, nI_leI, nI_ltI, nI_eq, nI_eqm, nI_eqm5, wdT, wdF, wd1, wd0, li_0, li_1, li_2, li_3, li_4, li_5, li_6, li_7, li_8, li_9, li_10, li_11, li_12, li_13, li_14, li_15, li_16, li_17, li_18, li_19, li_20, li_21, li_22, li_23, li_24, li_25, li_26, li_27, li_28, li_29, li_30, li_31, li_32, li_33, li_38, li_40, li_41, li_48, li_57, li_58, li_59, li_60, li_61, li_62, li_63, li_68, li_69, li_70, li_71, li_72, li_73, li_74, li_75, li_83, li_87, li_88, li_89, li_99, li_100, li_104, li_105, li_106, li_107, li_108, li_109, li_110, li_111, li_112, li_113, li_114, li_115, li_116, li_117, li_118, li_119, li_120, li_121, li_124, li_127, li_128, li_200, li_4095, li_4096, li_9999, fn_Sc_seek_o, fn_Sc_seek_L13, hC1, h2, bc, k1, gT_mk_24, zT_mk_24, zR_mk_24_0, zR_mk_24_1, zR_mk_24_2, gT_mk_25, zT_mk_25, gT_mk_26, zT_mk_26, gT_mk_27, zT_mk_27, gT_mk_28, zT_mk_28, zR_mk_28_0, zR_mk_28_1, zR_mk_28_2, gT_mk_29, zT_mk_29, gT_mk_30, zT_mk_30, gT_mk_31, zT_mk_31, gT_mk_32, zT_mk_32, zR_mk_32_0, gT_mk_33, zT_mk_33]
      · rw [kp_np (by decide), up_eq]
      · rw [kp_in (by omega), up_np (by decide)]
        exact hr j hj
      · rw [kp_np q2]
        by_cases e : p = 28
        · subst e
          exact up_nj (fun q => q3 ⟨rfl, q⟩)
        · exact up_np e
    · rw [if_neg c]
      refine ⟨f, ?_, ⟨h1, h2, h3⟩, FC_r⟩
      simp (disch := omega) only [wbr_T, wbr_F, wgd_T, wbq, wbv, wnm, zI_mk, zL_mk, uI_mk, uL_mk, kI_mk, kL_mk, nI_add, nI_mul, nI_sub, nI_div, nI_clamp, wgB, wgP, nI_leI, nI_ltI, nI_eq, nI_eqm, nI_eqm5, wdT, wdF, wd1, wd0, li_0, li_1, li_2, li_3, li_4, li_5, li_6, li_7, li_8, li_9, li_10, li_11, li_12, li_13, li_14, li_15, li_16, li_17, li_18, li_19, li_20, li_21, li_22, li_23, li_24, li_25, li_26, li_27, li_28, li_29, li_30, li_31, li_32, li_33, li_38, li_40, li_41, li_48, li_57, li_58, li_59, li_60, li_61, li_62, li_63, li_68, li_69, li_70, li_71, li_72, li_73, li_74, li_75, li_83, li_87, li_88, li_89, li_99, li_100, li_104, li_105, li_106, li_107, li_108, li_109, li_110, li_111, li_112, li_113, li_114, li_115, li_116, li_117, li_118, li_119, li_120, li_121, li_124, li_127, li_128, li_200, li_4095, li_4096, li_9999, fn_Sc_seek_o, fn_Sc_seek_L13, hC1, h2, bc, gT_mk_24, zT_mk_24, zR_mk_24_0, zR_mk_24_1, zR_mk_24_2, gT_mk_25, zT_mk_25, gT_mk_26, zT_mk_26, gT_mk_27, zT_mk_27, gT_mk_28, zT_mk_28, zR_mk_28_0, zR_mk_28_1, zR_mk_28_2, gT_mk_29, zT_mk_29, gT_mk_30, zT_mk_30, gT_mk_31, zT_mk_31, gT_mk_32, zT_mk_32, zR_mk_32_0, gT_mk_33, zT_mk_33]
  | d + 1, k, v, u, o, row, st, f, hk, hv, hu, ho, h, hC, hB, hr => by
    obtain ⟨v, rfl⟩ : ∃ w, v = w + 1 := ⟨v - 1, by omega⟩
    have hC1 := hC.1
    have z6 := h.2.1.1.1
    rw [scseek_S]
    obtain ⟨f1, e1, b1, s1⟩ := c_sc48 (l := l) (o0 := fun b0 b1 b2 b3 b4 S => fn_Sc_seek v b0 b1 b2 b3 b4 S) hn (show k + 1 + d = n by omega) (fun u o row st f h1 h2 h3 h4 h5 h6 => c_scseek hn d (k + 1) v u o row st f (by omega) (by omega) h1 h2 h3 h4 h5 h6) hu ho (a 68) 0 FU f st (Nat.zero_add _) (by show _ < 5000; omega) h hC hB hr
    refine ⟨f1, ?_, b1, s1⟩
    simp (disch := omega) only [wbr_T, wbr_F, wgd_T, wbq, wbv, wnm, zI_mk, zL_mk, uI_mk, uL_mk, kI_mk, kL_mk, nI_add, nI_mul, nI_sub, nI_div, nI_clamp, wgB, wgP, nI_leI, nI_ltI, nI_eq, nI_eqm, nI_eqm5, wdT, wdF, wd1, wd0, li_0, li_1, li_2, li_3, li_4, li_5, li_6, li_7, li_8, li_9, li_10, li_11, li_12, li_13, li_14, li_15, li_16, li_17, li_18, li_19, li_20, li_21, li_22, li_23, li_24, li_25, li_26, li_27, li_28, li_29, li_30, li_31, li_32, li_33, li_38, li_40, li_41, li_48, li_57, li_58, li_59, li_60, li_61, li_62, li_63, li_68, li_69, li_70, li_71, li_72, li_73, li_74, li_75, li_83, li_87, li_88, li_89, li_99, li_100, li_104, li_105, li_106, li_107, li_108, li_109, li_110, li_111, li_112, li_113, li_114, li_115, li_116, li_117, li_118, li_119, li_120, li_121, li_124, li_127, li_128, li_200, li_4095, li_4096, li_9999, fn_Sc_seek_o, hC1, gT_mk_24, zT_mk_24, zR_mk_24_0, zR_mk_24_1, zR_mk_24_2, gT_mk_25, zT_mk_25, gT_mk_26, zT_mk_26, gT_mk_27, zT_mk_27, gT_mk_28, zT_mk_28, zR_mk_28_0, zR_mk_28_1, zR_mk_28_2, gT_mk_29, zT_mk_29, gT_mk_30, zT_mk_30, gT_mk_31, zT_mk_31, gT_mk_32, zT_mk_32, zR_mk_32_0, gT_mk_33, zT_mk_33]
    exact e1
def scR (V : zV) (a : Nat → Nat) (j n : Nat) : shS := scD (takesN V a) (a 68) n 0 0 (a (60 + 2 * j)) (fun _ => 0) (13, fun _ => 0)
theorem c_scl3 (hj : j < 4) (hn : n ≤ 3) : ∀ (d s G : Nat) (f : Nat → Nat → Int32), s + d = a 68 → d < G → CX T N ru D 41 a f R → (∀ i, i < s → f 29 i = gritS (rV T N) a i) →
    ∃ f', lp (σ := Nat × Nat × Int32 × Int32 × Int32 × zS) (fun k s => fn_Sc_choose_L3 s.1 s.2.1 s.2.2.1 s.2.2.2.1 s.2.2.2.2.1 s.2.2.2.2.2 (fun (a0 : Nat) (a1 : Nat) (a2 : Int32) (a3 : Int32) (a4 : Int32) (S : zS) => k (a0, a1, a2, a3, a4, S))) G (28, 41, nI j, nI n, nI s, mk f l R) = some (mk f' l R) ∧ BC n f' (scR (rV T N) a j n) ∧ sl f f'
  | 0, s, G, f, hs, hG, h, hg => by
    obtain ⟨G, rfl⟩ : ∃ H, G = H + 1 := ⟨G - 1, by omega⟩
    obtain ⟨u0, u1, u2, u3, u4, u5, u6, u7, u8, u9, u10, u11, u12, u13, u14, u15, u16, u17, u18, u19, u20, u21, u22, u23, u24, u25, u26, u27, u28, u29, u30⟩ := hbB
    have es : s = a 68 := by omega
    subst es
    have z6 := h.2.1.1.1
    have ez : f 41 6 = nI (a 68) := cC_z h.2.1
    have eo : f 43 j = nI (a (60 + 2 * j)) := cC_o h.2.1 hj
    have go := ((Gd_all h.2.2.1).2.2.1 j hj).1
    have mn := fun S : zS => min_n (S := S) (show n < 2 ^ 31 by omega) (show 3 < 2 ^ 31 by decide)
    have mn3 : min n 3 = n := Nat.min_eq_left hn
    have s0 : sl f (up (up f 28 3 (nI n)) 28 4 (nI 13)) := fun p j q => by rw [up_np (by omega), up_np (by omega)]
    obtain ⟨f1, e1, b1, s1⟩ := c_scseek (l := l) hn n 0 FR 0 (a (60 + 2 * j)) (fun _ => 0) (13, fun _ => 0) (up (up f 28 3 (nI n)) 28 4 (nI 13)) (Nat.zero_add _) (by show _ < 60; omega) (by decide) go (sl_CX h s0) ⟨(up_nj (by decide)).trans up_eq, fun i hi => by rw [up_np (by decide), up_np (by decide)]; exact hg i hi⟩ ⟨Nat.le_refl _, up_eq, fun q => absurd q (by decide)⟩ (fun i hi => absurd hi (Nat.not_lt_zero _))
    refine ⟨f1, ?_, b1, sl_t s0 (FC_sl s1)⟩
    rw [lpS]
    show fn_Sc_choose_L3 28 41 (nI j) (nI n) (nI (a 68)) (mk f l R) _ = _
    simp (disch := omega) only [wbr_T, wbr_F, wgd_T, wbq, wbv, wnm, zI_mk, zL_mk, uI_mk, uL_mk, kI_mk, kL_mk, nI_add, nI_mul, nI_sub, nI_div, nI_clamp, wgB, wgP, nI_leI, nI_ltI, nI_eq, nI_eqm, nI_eqm5, wdT, wdF, wd1, wd0, li_0, li_1, li_2, li_3, li_4, li_5, li_6, li_7, li_8, li_9, li_10, li_11, li_12, li_13, li_14, li_15, li_16, li_17, li_18, li_19, li_20, li_21, li_22, li_23, li_24, li_25, li_26, li_27, li_28, li_29, li_30, li_31, li_32, li_33, li_38, li_40, li_41, li_48, li_57, li_58, li_59, li_60, li_61, li_62, li_63, li_68, li_69, li_70, li_71, li_72, li_73, li_74, li_75, li_83, li_87, li_88, li_89, li_99, li_100, li_104, li_105, li_106, li_107, li_108, li_109, li_110, li_111, li_112, li_113, li_114, li_115, li_116, li_117, li_118, li_119, li_120, li_121, li_124, li_127, li_128, li_200, li_4095, li_4096, li_9999, fn_Sc_choose_L3, ez, eo, mn, mn3, up_np, e1, gT_mk_24, zT_mk_24, zR_mk_24_0, zR_mk_24_1, zR_mk_24_2, gT_mk_25, zT_mk_25, gT_mk_26, zT_mk_26, gT_mk_27, zT_mk_27, gT_mk_28, zT_mk_28, zR_mk_28_0, zR_mk_28_1, zR_mk_28_2, gT_mk_29, zT_mk_29, gT_mk_30, zT_mk_30, gT_mk_31, zT_mk_31, gT_mk_32, zT_mk_32, zR_mk_32_0, gT_mk_33, zT_mk_33, u0, u1, u2, u3, u4, u5, u6, u7, u8, u9, u10, u11, u12, u13, u14, u15, u16, u17, u18, u19, u20, u21, u22, u23, u24, u25, u26, u27, u28, u29, u30]
  | d + 1, s, G, f, hs, hG, h, hg => by
    obtain ⟨G, rfl⟩ : ∃ H, G = H + 1 := ⟨G - 1, by omega⟩
    obtain ⟨u0, u1, u2, u3, u4, u5, u6, u7, u8, u9, u10, u11, u12, u13, u14, u15, u16, u17, u18, u19, u20, u21, u22, u23, u24, u25, u26, u27, u28, u29, u30⟩ := hbB
    have z6 := h.2.1.1.1
    have ez : f 41 6 = nI (a 68) := cC_z h.2.1
    have hi : s < a 68 := by omega
    have eg : fn_Sa_grit (51 + 2 * s) (hp (a 70)) (nI (a 69)) (mk f l R) = _ := c_grit (l := l) (R := R) h.1 (sp_b zb41 (show s < 6 by omega)) (cC_sP h.2.1 hi) h.2.2.1 h.2.2.2 (by omega)
    have ed : f 41 7 = nI (a 69) := cC_d h.2.1
    have hRh := h.2.1.2.2.1
    have s0 : sl f (up f 29 s (gritS (rV T N) a s)) := fun p j q => up_np (by omega)
    obtain ⟨f2, e2, b2, s2⟩ := c_scl3 hj hn d (s + 1) G (up f 29 s (gritS (rV T N) a s)) (by omega) (by omega) (sl_CX h s0) (fun i q => by
      by_cases e : i = s
      · subst e
        exact up_eq
      · rw [up_nj e]
        exact hg i (by omega))
    refine ⟨f2, ?_, b2, sl_t s0 s2⟩
    rw [lpS]
    show fn_Sc_choose_L3 28 41 (nI j) (nI n) (nI s) (mk f l R) _ = _
    simp (disch := omega) only [wbr_T, wbr_F, wgd_T, wbq, wbv, wnm, zI_mk, zL_mk, uI_mk, uL_mk, kI_mk, kL_mk, nI_add, nI_mul, nI_sub, nI_div, nI_clamp, wgB, wgP, nI_leI, nI_ltI, nI_eq, nI_eqm, nI_eqm5, wdT, wdF, wd1, wd0, li_0, li_1, li_2, li_3, li_4, li_5, li_6, li_7, li_8, li_9, li_10, li_11, li_12, li_13, li_14, li_15, li_16, li_17, li_18, li_19, li_20, li_21, li_22, li_23, li_24, li_25, li_26, li_27, li_28, li_29, li_30, li_31, li_32, li_33, li_38, li_40, li_41, li_48, li_57, li_58, li_59, li_60, li_61, li_62, li_63, li_68, li_69, li_70, li_71, li_72, li_73, li_74, li_75, li_83, li_87, li_88, li_89, li_99, li_100, li_104, li_105, li_106, li_107, li_108, li_109, li_110, li_111, li_112, li_113, li_114, li_115, li_116, li_117, li_118, li_119, li_120, li_121, li_124, li_127, li_128, li_200, li_4095, li_4096, li_9999, fn_Sc_choose_L3, ez, eg, ed, hRh, gT_mk_24, zT_mk_24, zR_mk_24_0, zR_mk_24_1, zR_mk_24_2, gT_mk_25, zT_mk_25, gT_mk_26, zT_mk_26, gT_mk_27, zT_mk_27, gT_mk_28, zT_mk_28, zR_mk_28_0, zR_mk_28_1, zR_mk_28_2, gT_mk_29, zT_mk_29, gT_mk_30, zT_mk_30, gT_mk_31, zT_mk_31, gT_mk_32, zT_mk_32, zR_mk_32_0, gT_mk_33, zT_mk_33, u0, u1, u2, u3, u4, u5, u6, u7, u8, u9, u10, u11, u12, u13, u14, u15, u16, u17, u18, u19, u20, u21, u22, u23, u24, u25, u26, u27, u28, u29, u30]
    exact e2
theorem c_choose (h : CX T N ru D 41 a f R) (hj : j < 4) (hn : n ≤ 3) : ∃ f', fn_Sc_choose 28 41 (nI j) (nI n) (mk f l R) = some (mk f' l R) ∧ BC n f' (scR (rV T N) a j n) ∧ sl f f' :=
  c_scl3 (l := l) hj hn (a 68) 0 FU f (Nat.zero_add _) (by have := h.2.1.1.1; show _ < 5000; omega) h (fun i hi => absurd hi (Nat.not_lt_zero _))
/-! the model -/
def BM (n : Nat) (f : Nat → Nat → Int32) (st : shS) : Prop := st.1 ≤ 13 ∧ f 137 23 = nI st.1 ∧ (st.1 ≤ 12 → ∀ j, j < n → f 149 j = nI (st.2 j))
/-- what scrubbing changes, of the model: the rows from k on, and scratch -/
def FM (k : Nat) (f f' : Nat → Nat → Int32) : Prop := fm f f' ∧ (∀ j, j < k → f' 148 j = f 148 j)
theorem FM_r : FM k f f := ⟨fm_r, fun _ _ => rfl⟩
theorem FM_t (h : FM k f f') (h2 : FM k f' g) : FM k f g := ⟨fm_t h.1 h2.1, fun j hj => (h2.2 j hj).trans (h.2 j hj)⟩
theorem FM_s (h : FM (k + 1) f f') : FM k f f' := ⟨h.1, fun j hj => h.2 j (by omega)⟩
theorem FM_up {x : Int32} : FM k f (up f 148 k x) := ⟨fun p j _ _ _ q _ _ => up_np q, fun j hj => up_nj (by omega)⟩
theorem FM_sc (h : sc f f') : FM k f f' := ⟨fm_sc h, fun j hj => h 148 j (by omega) (by omega) (by omega)⟩
theorem BM_up {x : Int32} (h : BM n f st) : BM n (up f 148 k x) st := ⟨h.1, (up_np (by decide)).trans h.2.1, fun q j hj => (up_np (by decide)).trans (h.2.2 q j hj)⟩
theorem BM_sc (h : BM n f st) (hs : sc f f') : BM n f' st := ⟨h.1, (hs 137 23 (by omega) (by omega) (by omega)).trans h.2.1, fun q j hj => (hs 149 j (by omega) (by omega) (by omega)).trans (h.2.2 q j hj)⟩
theorem srow_up {row : Nat → Nat} {x : Nat} (hr : ∀ j, j < k → f 148 j = nI (row j)) : ∀ j, j < k + 1 → up f 148 k (nI x) 148 j = nI (us row k x j) := fun j hj => by
  by_cases e : j = k
  · subst e
    rw [up_eq, us_eq]
  · rw [up_nj e, us_ne e]
    exact hr j (by omega)
theorem moscrub_S (u p : Nat) (b c e v : Int32) (S : zS) : fn_Mo_scrub (u + 1) p b c e v S = fn_Mo_scrub_o (fun b0 b1 b2 b3 b4 S => fn_Mo_scrub u b0 b1 b2 b3 b4 S) p b c e v S := by
  unfold fn_Mo_scrub
  rw [lpS]
  rfl
theorem m_sccp {o0 : Nat → Int32 → Int32 → Int32 → Int32 → zS → Option zS} (hz : z ≤ 6) : ∀ (e k G : Nat) (f : Nat → Nat → Int32), k + e = z → e < G →
    ∃ f', lp (σ := Nat × Int32 × Int32 × zS) (fun k s => fn_Mo_scrub_L27 o0 s.1 s.2.1 s.2.2.1 s.2.2.2 (fun (a0 : Nat) (a2 : Int32) (a5 : Int32) (S : zS) => k (a0, a2, a5, S))) G (137, nI z, nI k, mk f l R) = some (mk f' l R) ∧ (∀ j, k ≤ j → j < z → f' 149 j = f 148 j) ∧ ∀ p j, ¬ (p = 149 ∧ k ≤ j) → f' p j = f p j
  | 0, k, G, f, he, hG => by
    obtain ⟨G, rfl⟩ : ∃ H, G = H + 1 := ⟨G - 1, by omega⟩
    refine ⟨f, ?_, fun j h1 h2 => by omega, fun _ _ _ => rfl⟩
    rw [lpS]
    show fn_Mo_scrub_L27 o0 137 (nI z) (nI k) (mk f l R) _ = _
    simp (disch := omega) only [wbr_T, wbr_F, wgd_T, wbq, wbv, wnm, zI_mk, zL_mk, uI_mk, uL_mk, kI_mk, kL_mk, nI_add, nI_mul, nI_sub, nI_div, nI_clamp, wgB, wgP, nI_leI, nI_ltI, nI_eq, nI_eqm, nI_eqm5, wdT, wdF, wd1, wd0, li_0, li_1, li_2, li_3, li_4, li_5, li_6, li_7, li_8, li_9, li_10, li_11, li_12, li_13, li_14, li_15, li_16, li_17, li_18, li_19, li_20, li_21, li_22, li_23, li_24, li_25, li_26, li_27, li_28, li_29, li_30, li_31, li_32, li_33, li_38, li_40, li_41, li_48, li_57, li_58, li_59, li_60, li_61, li_62, li_63, li_68, li_69, li_70, li_71, li_72, li_73, li_74, li_75, li_83, li_87, li_88, li_89, li_99, li_100, li_104, li_105, li_106, li_107, li_108, li_109, li_110, li_111, li_112, li_113, li_114, li_115, li_116, li_117, li_118, li_119, li_120, li_121, li_124, li_127, li_128, li_200, li_4095, li_4096, li_9999, gT_mk_137, zT_mk_137, zR_mk_137_0, zR_mk_137_1, zR_mk_137_2, zR_mk_137_4, zR_mk_137_6, zR_mk_137_7, zR_mk_137_9, zR_mk_137_16, zR_mk_137_17, zR_mk_137_18, zR_mk_137_19, zR_mk_137_20, zR_mk_137_22, zR_mk_137_24, zR_mk_137_25, zR_mk_137_26, zR_mk_137_28, zR_mk_137_29, zR_mk_137_30, zR_mk_137_31, gT_mk_138, zT_mk_138, gT_mk_139, zT_mk_139, gT_mk_140, zT_mk_140, gT_mk_141, zT_mk_141, gT_mk_142, zT_mk_142, gT_mk_143, zT_mk_143, gT_mk_144, zT_mk_144, gT_mk_145, zT_mk_145, gT_mk_146, zT_mk_146, gT_mk_147, zT_mk_147, gT_mk_148, zT_mk_148, gT_mk_149, zT_mk_149, gT_mk_150, zT_mk_150, gT_mk_151, zT_mk_151, gT_mk_152, zT_mk_152, gT_mk_153, zT_mk_153, gT_mk_154, zT_mk_154, gT_mk_155, zT_mk_155, gT_mk_156, zT_mk_156, gT_mk_157, zT_mk_157, fn_Mo_scrub_L27]
  | e + 1, k, G, f, he, hG => by
    obtain ⟨G, rfl⟩ : ∃ H, G = H + 1 := ⟨G - 1, by omega⟩
    obtain ⟨f1, e1, q1, fr1⟩ := m_sccp (o0 := o0) hz e (k + 1) G (up f 149 k (f 148 k)) (by omega) (by omega)
    refine ⟨f1, ?_, fun j h1 h2 => ?_, fun p j hp => ?_⟩
    · rw [lpS]
      show fn_Mo_scrub_L27 o0 137 (nI z) (nI k) (mk f l R) _ = _
      simp (disch := omega) only [wbr_T, wbr_F, wgd_T, wbq, wbv, wnm, zI_mk, zL_mk, uI_mk, uL_mk, kI_mk, kL_mk, nI_add, nI_mul, nI_sub, nI_div, nI_clamp, wgB, wgP, nI_leI, nI_ltI, nI_eq, nI_eqm, nI_eqm5, wdT, wdF, wd1, wd0, li_0, li_1, li_2, li_3, li_4, li_5, li_6, li_7, li_8, li_9, li_10, li_11, li_12, li_13, li_14, li_15, li_16, li_17, li_18, li_19, li_20, li_21, li_22, li_23, li_24, li_25, li_26, li_27, li_28, li_29, li_30, li_31, li_32, li_33, li_38, li_40, li_41, li_48, li_57, li_58, li_59, li_60, li_61, li_62, li_63, li_68, li_69, li_70, li_71, li_72, li_73, li_74, li_75, li_83, li_87, li_88, li_89, li_99, li_100, li_104, li_105, li_106, li_107, li_108, li_109, li_110, li_111, li_112, li_113, li_114, li_115, li_116, li_117, li_118, li_119, li_120, li_121, li_124, li_127, li_128, li_200, li_4095, li_4096, li_9999, gT_mk_137, zT_mk_137, zR_mk_137_0, zR_mk_137_1, zR_mk_137_2, zR_mk_137_4, zR_mk_137_6, zR_mk_137_7, zR_mk_137_9, zR_mk_137_16, zR_mk_137_17, zR_mk_137_18, zR_mk_137_19, zR_mk_137_20, zR_mk_137_22, zR_mk_137_24, zR_mk_137_25, zR_mk_137_26, zR_mk_137_28, zR_mk_137_29, zR_mk_137_30, zR_mk_137_31, gT_mk_138, zT_mk_138, gT_mk_139, zT_mk_139, gT_mk_140, zT_mk_140, gT_mk_141, zT_mk_141, gT_mk_142, zT_mk_142, gT_mk_143, zT_mk_143, gT_mk_144, zT_mk_144, gT_mk_145, zT_mk_145, gT_mk_146, zT_mk_146, gT_mk_147, zT_mk_147, gT_mk_148, zT_mk_148, gT_mk_149, zT_mk_149, gT_mk_150, zT_mk_150, gT_mk_151, zT_mk_151, gT_mk_152, zT_mk_152, gT_mk_153, zT_mk_153, gT_mk_154, zT_mk_154, gT_mk_155, zT_mk_155, gT_mk_156, zT_mk_156, gT_mk_157, zT_mk_157, fn_Mo_scrub_L27]
      exact e1
    · by_cases ej : j = k
      · subst ej
        rw [fr1 149 _ (by omega), up_eq]
      · rw [q1 j (by omega) h2, up_np (by decide)]
    · rw [fr1 p j (by omega)]
      by_cases ep : p = 149
      · subst ep
        exact up_nj (by omega)
      · exact up_np ep
theorem m_sc57 {d : Nat} {o0 : Nat → Int32 → Int32 → Int32 → Int32 → zS → Option zS} (hn : n ≤ 3) (hkn : k + 1 + d = n)
    (ih : ∀ (u o : Nat) (row : Nat → Nat) (st : shS) (f : Nat → Nat → Int32), u < 64 → o < 4096 → MX T N ru D a f → BM n f st → (∀ j, j < k + 1 → f 148 j = nI (row j)) → ∃ f', o0 137 (nI (k + 1)) (nI n) (nI o) (nI u) (mk f l R) = some (mk f' l R) ∧ BM n f' (scD (takesN (rV T N) a) (a 68) d (k + 1) u o row st) ∧ FM (k + 1) f f')
    {u o : Nat} {row : Nat → Nat} (hu : u < 64) (ho : o < 4096) : ∀ (e s G : Nat) (f : Nat → Nat → Int32) (st : shS), s + e = a 68 → e < G → MX T N ru D a f → BM n f st → (∀ j, j < k → f 148 j = nI (row j)) →
    ∃ f', lp (σ := Nat × Int32 × Int32 × Int32 × Int32 × Int32 × zS) (fun k s => fn_Mo_scrub_L57 o0 s.1 s.2.1 s.2.2.1 s.2.2.2.1 s.2.2.2.2.1 s.2.2.2.2.2.1 s.2.2.2.2.2.2 (fun (a0 : Nat) (a1 : Int32) (a2 : Int32) (a3 : Int32) (a4 : Int32) (a5 : Int32) (S : zS) => k (a0, a1, a2, a3, a4, a5, S))) G (137, nI k, nI n, nI o, nI u, nI s, mk f l R) = some (mk f' l R)
      ∧ BM n f' (shN (fun s st => scD (takesN (rV T N) a) (a 68) d (k + 1) (u + 2 ^ s) (offN o (takesN (rV T N) a s o)) (us row k s) st) u e s st) ∧ FM k f f'
  | 0, s, G, f, st, hs, hG, h, hB, hr => by
    obtain ⟨G, rfl⟩ : ∃ H, G = H + 1 := ⟨G - 1, by omega⟩
    have z6 := (Gd_all h.2.2.1).1
    have hA := h.2.1
    refine ⟨f, ?_, hB, FM_r⟩
    rw [lpS]
    show fn_Mo_scrub_L57 o0 137 (nI k) (nI n) (nI o) (nI u) (nI s) (mk f l R) _ = _
    simp (disch := omega) only [wbr_T, wbr_F, wgd_T, wbq, wbv, wnm, zI_mk, zL_mk, uI_mk, uL_mk, kI_mk, kL_mk, nI_add, nI_mul, nI_sub, nI_div, nI_clamp, wgB, wgP, nI_leI, nI_ltI, nI_eq, nI_eqm, nI_eqm5, wdT, wdF, wd1, wd0, li_0, li_1, li_2, li_3, li_4, li_5, li_6, li_7, li_8, li_9, li_10, li_11, li_12, li_13, li_14, li_15, li_16, li_17, li_18, li_19, li_20, li_21, li_22, li_23, li_24, li_25, li_26, li_27, li_28, li_29, li_30, li_31, li_32, li_33, li_38, li_40, li_41, li_48, li_57, li_58, li_59, li_60, li_61, li_62, li_63, li_68, li_69, li_70, li_71, li_72, li_73, li_74, li_75, li_83, li_87, li_88, li_89, li_99, li_100, li_104, li_105, li_106, li_107, li_108, li_109, li_110, li_111, li_112, li_113, li_114, li_115, li_116, li_117, li_118, li_119, li_120, li_121, li_124, li_127, li_128, li_200, li_4095, li_4096, li_9999, gT_mk_137, zT_mk_137, zR_mk_137_0, zR_mk_137_1, zR_mk_137_2, zR_mk_137_4, zR_mk_137_6, zR_mk_137_7, zR_mk_137_9, zR_mk_137_16, zR_mk_137_17, zR_mk_137_18, zR_mk_137_19, zR_mk_137_20, zR_mk_137_22, zR_mk_137_24, zR_mk_137_25, zR_mk_137_26, zR_mk_137_28, zR_mk_137_29, zR_mk_137_30, zR_mk_137_31, gT_mk_138, zT_mk_138, gT_mk_139, zT_mk_139, gT_mk_140, zT_mk_140, gT_mk_141, zT_mk_141, gT_mk_142, zT_mk_142, gT_mk_143, zT_mk_143, gT_mk_144, zT_mk_144, gT_mk_145, zT_mk_145, gT_mk_146, zT_mk_146, gT_mk_147, zT_mk_147, gT_mk_148, zT_mk_148, gT_mk_149, zT_mk_149, gT_mk_150, zT_mk_150, gT_mk_151, zT_mk_151, gT_mk_152, zT_mk_152, gT_mk_153, zT_mk_153, gT_mk_154, zT_mk_154, gT_mk_155, zT_mk_155, gT_mk_156, zT_mk_156, gT_mk_157, zT_mk_157, fn_Mo_scrub_L57, hA]
  | e + 1, s, G, f, st, hs, hG, h, hB, hr => by
    obtain ⟨G, rfl⟩ : ∃ H, G = H + 1 := ⟨G - 1, by omega⟩
    have z6 := (Gd_all h.2.2.1).1
    have hA := h.2.1
    have hs6 : s < 6 := by omega
    have bt : (nI u >>> (nI s &&& nI 31)) &&& nI 1 = nI (u / 2 ^ s % 2) := nI_bit (by omega) (by omega)
    have b2 : u / 2 ^ s % 2 < 2 := Nat.mod_lt _ (by decide)
    rw [lpS]
    show ∃ f', fn_Mo_scrub_L57 o0 137 (nI k) (nI n) (nI o) (nI u) (nI s) (mk f l R) _ = _ ∧ BM n f' (shN (fun s st => scD (takesN (rV T N) a) (a 68) d (k + 1) (u + 2 ^ s) (offN o (takesN (rV T N) a s o)) (us row k s) st) u e (s + 1) (if u / 2 ^ s % 2 = 0 then scD (takesN (rV T N) a) (a 68) d (k + 1) (u + 2 ^ s) (offN o (takesN (rV T N) a s o)) (us row k s) st else st)) ∧ _
    by_cases c : u / 2 ^ s % 2 = 0
    · rw [if_pos c]
      obtain ⟨q1, q2, q3⟩ := bits6 u hu s hs6 c
      have h1 := fm_MX h (FM_up (f := f) (k := k) (x := nI s)).1
      obtain ⟨f0, e0, s0⟩ := m_comesOff (l := l) (R := R) h1 hs6 ho
      have of_ : nI o &&& (nI (takesN (rV T N) a s o) ^^^ -nI 1) = nI (offN o (takesN (rV T N) a s o)) := nI_offN.symm
      have hr1 := srow_up (x := s) hr
      obtain ⟨f1, e1, b1, s1⟩ := ih (u + 2 ^ s) (offN o (takesN (rV T N) a s o)) (us row k s) st f0 q2 (offN_lt ho) (MX_sc h1 s0) (BM_sc (BM_up hB) s0) (fun j hj => (s0 148 j (by omega) (by omega) (by omega)).trans (hr1 j hj))
      have s01 := FM_t FM_up (FM_t (FM_sc s0) (FM_s s1))
      obtain ⟨f2, e2, b2, s2⟩ := m_sc57 hn hkn ih hu ho e (s + 1) G f1 _ (by omega) (by omega) (fm_MX h s01.1) b1 (fun j hj => (s01.2 j hj).trans (hr j hj))
      refine ⟨f2, ?_, b2, FM_t s01 s2⟩
      have sh : nI 1 <<< (nI s &&& nI 31) = nI (2 ^ s) := sh_k s (by omega)
      have hp := pow6 s hs6
      have oo := nI_or (a := u) (b := 2 ^ s) (by omega) (by omega)
      rw [q1] at oo
      simp (disch := omega) only [wbr_T, wbr_F, wgd_T, wbq, wbv, wnm, zI_mk, zL_mk, uI_mk, uL_mk, kI_mk, kL_mk, nI_add, nI_mul, nI_sub, nI_div, nI_clamp, wgB, wgP, nI_leI, nI_ltI, nI_eq, nI_eqm, nI_eqm5, wdT, wdF, wd1, wd0, li_0, li_1, li_2, li_3, li_4, li_5, li_6, li_7, li_8, li_9, li_10, li_11, li_12, li_13, li_14, li_15, li_16, li_17, li_18, li_19, li_20, li_21, li_22, li_23, li_24, li_25, li_26, li_27, li_28, li_29, li_30, li_31, li_32, li_33, li_38, li_40, li_41, li_48, li_57, li_58, li_59, li_60, li_61, li_62, li_63, li_68, li_69, li_70, li_71, li_72, li_73, li_74, li_75, li_83, li_87, li_88, li_89, li_99, li_100, li_104, li_105, li_106, li_107, li_108, li_109, li_110, li_111, li_112, li_113, li_114, li_115, li_116, li_117, li_118, li_119, li_120, li_121, li_124, li_127, li_128, li_200, li_4095, li_4096, li_9999, gT_mk_137, zT_mk_137, zR_mk_137_0, zR_mk_137_1, zR_mk_137_2, zR_mk_137_4, zR_mk_137_6, zR_mk_137_7, zR_mk_137_9, zR_mk_137_16, zR_mk_137_17, zR_mk_137_18, zR_mk_137_19, zR_mk_137_20, zR_mk_137_22, zR_mk_137_24, zR_mk_137_25, zR_mk_137_26, zR_mk_137_28, zR_mk_137_29, zR_mk_137_30, zR_mk_137_31, gT_mk_138, zT_mk_138, gT_mk_139, zT_mk_139, gT_mk_140, zT_mk_140, gT_mk_141, zT_mk_141, gT_mk_142, zT_mk_142, gT_mk_143, zT_mk_143, gT_mk_144, zT_mk_144, gT_mk_145, zT_mk_145, gT_mk_146, zT_mk_146, gT_mk_147, zT_mk_147, gT_mk_148, zT_mk_148, gT_mk_149, zT_mk_149, gT_mk_150, zT_mk_150, gT_mk_151, zT_mk_151, gT_mk_152, zT_mk_152, gT_mk_153, zT_mk_153, gT_mk_154, zT_mk_154, gT_mk_155, zT_mk_155, gT_mk_156, zT_mk_156, gT_mk_157, zT_mk_157, fn_Mo_scrub_L57, hA, bt, c, e0, of_, sh, oo, e1]
      exact e2
    · rw [if_neg c]
      obtain ⟨f2, e2, b2, s2⟩ := m_sc57 hn hkn ih hu ho e (s + 1) G f st (by omega) (by omega) h hB hr
      refine ⟨f2, ?_, b2, s2⟩
      simp (disch := omega) only [wbr_T, wbr_F, wgd_T, wbq, wbv, wnm, zI_mk, zL_mk, uI_mk, uL_mk, kI_mk, kL_mk, nI_add, nI_mul, nI_sub, nI_div, nI_clamp, wgB, wgP, nI_leI, nI_ltI, nI_eq, nI_eqm, nI_eqm5, wdT, wdF, wd1, wd0, li_0, li_1, li_2, li_3, li_4, li_5, li_6, li_7, li_8, li_9, li_10, li_11, li_12, li_13, li_14, li_15, li_16, li_17, li_18, li_19, li_20, li_21, li_22, li_23, li_24, li_25, li_26, li_27, li_28, li_29, li_30, li_31, li_32, li_33, li_38, li_40, li_41, li_48, li_57, li_58, li_59, li_60, li_61, li_62, li_63, li_68, li_69, li_70, li_71, li_72, li_73, li_74, li_75, li_83, li_87, li_88, li_89, li_99, li_100, li_104, li_105, li_106, li_107, li_108, li_109, li_110, li_111, li_112, li_113, li_114, li_115, li_116, li_117, li_118, li_119, li_120, li_121, li_124, li_127, li_128, li_200, li_4095, li_4096, li_9999, gT_mk_137, zT_mk_137, zR_mk_137_0, zR_mk_137_1, zR_mk_137_2, zR_mk_137_4, zR_mk_137_6, zR_mk_137_7, zR_mk_137_9, zR_mk_137_16, zR_mk_137_17, zR_mk_137_18, zR_mk_137_19, zR_mk_137_20, zR_mk_137_22, zR_mk_137_24, zR_mk_137_25, zR_mk_137_26, zR_mk_137_28, zR_mk_137_29, zR_mk_137_30, zR_mk_137_31, gT_mk_138, zT_mk_138, gT_mk_139, zT_mk_139, gT_mk_140, zT_mk_140, gT_mk_141, zT_mk_141, gT_mk_142, zT_mk_142, gT_mk_143, zT_mk_143, gT_mk_144, zT_mk_144, gT_mk_145, zT_mk_145, gT_mk_146, zT_mk_146, gT_mk_147, zT_mk_147, gT_mk_148, zT_mk_148, gT_mk_149, zT_mk_149, gT_mk_150, zT_mk_150, gT_mk_151, zT_mk_151, gT_mk_152, zT_mk_152, gT_mk_153, zT_mk_153, gT_mk_154, zT_mk_154, gT_mk_155, zT_mk_155, gT_mk_156, zT_mk_156, gT_mk_157, zT_mk_157, fn_Mo_scrub_L57, hA, bt]
      exact e2
theorem m_scrub (hn : n ≤ 3) : ∀ (d k v u o : Nat) (row : Nat → Nat) (st : shS) (f : Nat → Nat → Int32), k + d = n → d < v → u < 64 → o < 4096 → MX T N ru D a f → BM n f st → (∀ j, j < k → f 148 j = nI (row j)) →
    ∃ f', fn_Mo_scrub v 137 (nI k) (nI n) (nI o) (nI u) (mk f l R) = some (mk f' l R) ∧ BM n f' (scD (takesN (rV T N) a) (a 68) d k u o row st) ∧ FM k f f'
  | 0, k, v, u, o, row, st, f, hk, hv, hu, ho, h, hB, hr => by
    obtain ⟨v, rfl⟩ : ∃ w, v = w + 1 := ⟨v - 1, by omega⟩
    have ek : k = n := by omega
    subst ek
    obtain ⟨h1, h2, h3⟩ := hB
    have p12 := pc_le o ho
    rw [moscrub_S]
    show ∃ f', _ ∧ BM k f' (if pc o < st.1 then (pc o, row) else st) ∧ _
    by_cases c : pc o < st.1
    · rw [if_pos c]
      obtain ⟨f1, e1, q1, fr1⟩ := m_sccp (l := l) (R := R) (o0 := fun b0 b1 b2 b3 b4 S => fn_Mo_scrub v b0 b1 b2 b3 b4 S) (show k ≤ 6 by omega) k 0 FU (up f 137 23 (nI (pc o))) (Nat.zero_add _) (by show _ < 5000; omega)
      refine ⟨f1, ?_, ⟨by show pc o ≤ 13; omega, ?_, fun _ j hj => ?_⟩, fun p j p1 p2 p3 p4 p5 p6 => ?_, fun j hj => ?_⟩
      · simp (disch := omega) only [wbr_T, wbr_F, wgd_T, wbq, wbv, wnm, zI_mk, zL_mk, uI_mk, uL_mk, kI_mk, kL_mk, nI_add, nI_mul, nI_sub, nI_div, nI_clamp, wgB, wgP, nI_leI, nI_ltI, nI_eq, nI_eqm, nI_eqm5, wdT, wdF, wd1, wd0, li_0, li_1, li_2, li_3, li_4, li_5, li_6, li_7, li_8, li_9, li_10, li_11, li_12, li_13, li_14, li_15, li_16, li_17, li_18, li_19, li_20, li_21, li_22, li_23, li_24, li_25, li_26, li_27, li_28, li_29, li_30, li_31, li_32, li_33, li_38, li_40, li_41, li_48, li_57, li_58, li_59, li_60, li_61, li_62, li_63, li_68, li_69, li_70, li_71, li_72, li_73, li_74, li_75, li_83, li_87, li_88, li_89, li_99, li_100, li_104, li_105, li_106, li_107, li_108, li_109, li_110, li_111, li_112, li_113, li_114, li_115, li_116, li_117, li_118, li_119, li_120, li_121, li_124, li_127, li_128, li_200, li_4095, li_4096, li_9999, gT_mk_137, zT_mk_137, zR_mk_137_0, zR_mk_137_1, zR_mk_137_2, zR_mk_137_4, zR_mk_137_6, zR_mk_137_7, zR_mk_137_9, zR_mk_137_16, zR_mk_137_17, zR_mk_137_18, zR_mk_137_19, zR_mk_137_20, zR_mk_137_22, zR_mk_137_24, zR_mk_137_25, zR_mk_137_26, zR_mk_137_28, zR_mk_137_29, zR_mk_137_30, zR_mk_137_31, gT_mk_138, zT_mk_138, gT_mk_139, zT_mk_139, gT_mk_140, zT_mk_140, gT_mk_141, zT_mk_141, gT_mk_142, zT_mk_142, gT_mk_143, zT_mk_143, gT_mk_144, zT_mk_144, gT_mk_145, zT_mk_145, gT_mk_146, zT_mk_146, gT_mk_147, zT_mk_147, gT_mk_148, zT_mk_148, gT_mk_149, zT_mk_149, gT_mk_150, zT_mk_150, gT_mk_151, zT_mk_151, gT_mk_152, zT_mk_152, gT_mk_153, zT_mk_153, gT_mk_154, zT_mk_154, gT_mk_155, zT_mk_155, gT_mk_156, zT_mk_156, gT_mk_157, zT_mk_157, fn_Mo_scrub_o, h2, m_pc]
        exact e1
      · rw [fr1 137 23 (by omega), up_eq]
      · rw [q1 j (Nat.zero_le _) hj, up_np (by decide)]
        exact hr j hj
      · rw [fr1 p j (by omega)]
        by_cases e : p = 137
        · subst e
          exact up_nj (p1 rfl).2.2
        · exact up_np e
      · rw [fr1 148 j (by omega)]
        exact up_np (by decide)
    · rw [if_neg c]
      refine ⟨f, ?_, ⟨h1, h2, h3⟩, FM_r⟩
      simp (disch := omega) only [wbr_T, wbr_F, wgd_T, wbq, wbv, wnm, zI_mk, zL_mk, uI_mk, uL_mk, kI_mk, kL_mk, nI_add, nI_mul, nI_sub, nI_div, nI_clamp, wgB, wgP, nI_leI, nI_ltI, nI_eq, nI_eqm, nI_eqm5, wdT, wdF, wd1, wd0, li_0, li_1, li_2, li_3, li_4, li_5, li_6, li_7, li_8, li_9, li_10, li_11, li_12, li_13, li_14, li_15, li_16, li_17, li_18, li_19, li_20, li_21, li_22, li_23, li_24, li_25, li_26, li_27, li_28, li_29, li_30, li_31, li_32, li_33, li_38, li_40, li_41, li_48, li_57, li_58, li_59, li_60, li_61, li_62, li_63, li_68, li_69, li_70, li_71, li_72, li_73, li_74, li_75, li_83, li_87, li_88, li_89, li_99, li_100, li_104, li_105, li_106, li_107, li_108, li_109, li_110, li_111, li_112, li_113, li_114, li_115, li_116, li_117, li_118, li_119, li_120, li_121, li_124, li_127, li_128, li_200, li_4095, li_4096, li_9999, gT_mk_137, zT_mk_137, zR_mk_137_0, zR_mk_137_1, zR_mk_137_2, zR_mk_137_4, zR_mk_137_6, zR_mk_137_7, zR_mk_137_9, zR_mk_137_16, zR_mk_137_17, zR_mk_137_18, zR_mk_137_19, zR_mk_137_20, zR_mk_137_22, zR_mk_137_24, zR_mk_137_25, zR_mk_137_26, zR_mk_137_28, zR_mk_137_29, zR_mk_137_30, zR_mk_137_31, gT_mk_138, zT_mk_138, gT_mk_139, zT_mk_139, gT_mk_140, zT_mk_140, gT_mk_141, zT_mk_141, gT_mk_142, zT_mk_142, gT_mk_143, zT_mk_143, gT_mk_144, zT_mk_144, gT_mk_145, zT_mk_145, gT_mk_146, zT_mk_146, gT_mk_147, zT_mk_147, gT_mk_148, zT_mk_148, gT_mk_149, zT_mk_149, gT_mk_150, zT_mk_150, gT_mk_151, zT_mk_151, gT_mk_152, zT_mk_152, gT_mk_153, zT_mk_153, gT_mk_154, zT_mk_154, gT_mk_155, zT_mk_155, gT_mk_156, zT_mk_156, gT_mk_157, zT_mk_157, fn_Mo_scrub_o, h2, m_pc]
  | d + 1, k, v, u, o, row, st, f, hk, hv, hu, ho, h, hB, hr => by
    obtain ⟨v, rfl⟩ : ∃ w, v = w + 1 := ⟨v - 1, by omega⟩
    have z6 := (Gd_all h.2.2.1).1
    rw [moscrub_S]
    obtain ⟨f1, e1, b1, s1⟩ := m_sc57 (l := l) (R := R) (o0 := fun b0 b1 b2 b3 b4 S => fn_Mo_scrub v b0 b1 b2 b3 b4 S) hn (show k + 1 + d = n by omega) (fun u o row st f h1 h2 h3 h4 h5 => m_scrub hn d (k + 1) v u o row st f (by omega) (by omega) h1 h2 h3 h4 h5) hu ho (a 68) 0 FU f st (Nat.zero_add _) (by show _ < 5000; omega) h hB hr
    refine ⟨f1, ?_, b1, s1⟩
    simp (disch := omega) only [wbr_T, wbr_F, wgd_T, wbq, wbv, wnm, zI_mk, zL_mk, uI_mk, uL_mk, kI_mk, kL_mk, nI_add, nI_mul, nI_sub, nI_div, nI_clamp, wgB, wgP, nI_leI, nI_ltI, nI_eq, nI_eqm, nI_eqm5, wdT, wdF, wd1, wd0, li_0, li_1, li_2, li_3, li_4, li_5, li_6, li_7, li_8, li_9, li_10, li_11, li_12, li_13, li_14, li_15, li_16, li_17, li_18, li_19, li_20, li_21, li_22, li_23, li_24, li_25, li_26, li_27, li_28, li_29, li_30, li_31, li_32, li_33, li_38, li_40, li_41, li_48, li_57, li_58, li_59, li_60, li_61, li_62, li_63, li_68, li_69, li_70, li_71, li_72, li_73, li_74, li_75, li_83, li_87, li_88, li_89, li_99, li_100, li_104, li_105, li_106, li_107, li_108, li_109, li_110, li_111, li_112, li_113, li_114, li_115, li_116, li_117, li_118, li_119, li_120, li_121, li_124, li_127, li_128, li_200, li_4095, li_4096, li_9999, gT_mk_137, zT_mk_137, zR_mk_137_0, zR_mk_137_1, zR_mk_137_2, zR_mk_137_4, zR_mk_137_6, zR_mk_137_7, zR_mk_137_9, zR_mk_137_16, zR_mk_137_17, zR_mk_137_18, zR_mk_137_19, zR_mk_137_20, zR_mk_137_22, zR_mk_137_24, zR_mk_137_25, zR_mk_137_26, zR_mk_137_28, zR_mk_137_29, zR_mk_137_30, zR_mk_137_31, gT_mk_138, zT_mk_138, gT_mk_139, zT_mk_139, gT_mk_140, zT_mk_140, gT_mk_141, zT_mk_141, gT_mk_142, zT_mk_142, gT_mk_143, zT_mk_143, gT_mk_144, zT_mk_144, gT_mk_145, zT_mk_145, gT_mk_146, zT_mk_146, gT_mk_147, zT_mk_147, gT_mk_148, zT_mk_148, gT_mk_149, zT_mk_149, gT_mk_150, zT_mk_150, gT_mk_151, zT_mk_151, gT_mk_152, zT_mk_152, gT_mk_153, zT_mk_153, gT_mk_154, zT_mk_154, gT_mk_155, zT_mk_155, gT_mk_156, zT_mk_156, gT_mk_157, zT_mk_157, fn_Mo_scrub_o]
    exact e1
end
theorem mi2In (S : zS) : ∀ k, k < 3 → fn_Mo_isIn (nI k) (-nI 1) (nI 2) S = some (1, S) := by
  intro k hk
  rcases (by omega : k = 0 ∨ k = 1 ∨ k = 2) with rfl | rfl | rfl <;> rfl
theorem mi2Out {y : Int32} (S : zS) (h1 : ¬ y = -nI 1) (h2 : ox y 3) : fn_Mo_isIn y (-nI 1) (nI 2) S = some (0, S) := by
  unfold fn_Mo_isIn
  by_cases c1 : y < -nI 1
  · rw [wdT c1]; rfl
  · rw [wdF c1]
    by_cases c2 : nI 2 < y
    · rw [wdT c2]; rfl
    · exfalso
      have t1 : (-nI 1).toInt = -1 := by decide
      have t3 := nI_toInt (show 2 < 2 ^ 31 by decide)
      have d1 : ¬ y.toInt < (-nI 1).toInt := fun q => c1 (Int32.lt_iff_toInt_lt.mpr q)
      have d2 : ¬ (nI 2).toInt < y.toInt := fun q => c2 (Int32.lt_iff_toInt_lt.mpr q)
      have d3 : ¬ y.toInt = -1 := fun q => h1 (Int32.toInt_inj.mp (q.trans t1.symm))
      have d4 := (ox_toInt (N := 3) (by decide)).mp h2
      omega
theorem neg_1 {y : Int32} (h1 : ¬ y < -nI 1) (h2 : ¬ y = -nI 1) : ¬ y < nI 0 := by
  intro q
  have t1 : (-nI 1).toInt = -1 := by decide
  have t0 : (nI 0).toInt = 0 := by decide
  have d1 : ¬ y.toInt < (-nI 1).toInt := fun q => h1 (Int32.lt_iff_toInt_lt.mpr q)
  have d3 : ¬ y.toInt = -1 := fun q => h2 (Int32.toInt_inj.mp (q.trans t1.symm))
  rw [Int32.lt_iff_toInt_lt] at q
  omega
theorem gt_m1 {m : Nat} (h : m < 2 ^ 31) : ¬ nI m < -nI 1 ∧ ¬ nI m ≤ -nI 1 := by
  have t1 : (-nI 1).toInt = -1 := by decide
  have t := nI_toInt h
  constructor
  · intro q
    rw [Int32.lt_iff_toInt_lt] at q
    omega
  · intro q
    rw [Int32.le_iff_toInt_le] at q
    omega
theorem lt_1 {y : Int32} (h : ¬ y < nI 1) : ¬ y < 0 := by
  intro q
  apply h
  rw [Int32.lt_iff_toInt_lt] at q ⊢
  have t1 : (nI 1).toInt = 1 := by decide
  have t0 : (0 : Int32).toInt = 0 := by decide
  omega
theorem op_scrubbed (x y v : Int32) : OpI (fn_Ls_scrubbed 16 x y v) (fn_Mo_scrubbed 137 x y v) := by
  intro f l R h
  obtain ⟨ru, T, N, ⟨a, hc, hA, hG, hR⟩, hE⟩ := id h
  obtain ⟨c0, c1, c2, c3, c4, c5, c6, c7, c8⟩ := hbC
  obtain ⟨u0, u1, u2, u3, u4, u5, u6, u7, u8, u9, u10, u11, u12, u13, u14, u15, u16, u17, u18, u19, u20, u21, u22, u23, u24, u25, u26, u27, u28, u29, u30⟩ := hbB
  obtain ⟨z6, z7, z8, z9⟩ := id hc.1
  have gA := Gd_all hG
  have ez := cC_z hc
  rcases ix_or x (N := 4) (by decide) with ⟨j, hj, rfl⟩ | hx
  · have e1 := fun S : zS => c_nov_in (S := S) hj
    have m1 := fun S : zS => m_nov_in (S := S) hj
    have go := (gA.2.2.1 j hj).1
    -- behind k
    have tail : ∀ v : Int32, (v = -nI 1 ∨ ∃ k, k < 3 ∧ v = nI k) → ∃ r f1 l1 R1 f2 l2, fn_Ls_scrubbed 16 (nI j) y v (mk f l R) = some (r, mk f1 l1 R1) ∧ fn_Mo_scrubbed 137 (nI j) y v (mk f1 l1 R1) = some (r, mk f2 l2 R1) ∧ Iv f2 l2 R1 := by
      intro v hv
      have m2 : ∀ S, fn_Mo_isIn v (-nI 1) (nI 2) S = some (1, S) := fun S => by
        rcases hv with rfl | ⟨k, hk, rfl⟩
        · rfl
        · exact mi2In S k hk
      have hv1 : ¬ v < -nI 1 := by
        rcases hv with rfl | ⟨k, hk, rfl⟩
        · decide
        · exact (gt_m1 (by omega)).1
      have hv3 : v < nI 3 := by
        rcases hv with rfl | ⟨k, hk, rfl⟩
        · decide
        · exact nI_lt hk (by decide)
      rcases (by
        rcases ix_or y (N := 4) (by decide) with ⟨n, hn, e⟩ | hy
        · by_cases h0 : n = 0
          · left
            rw [e, h0]
            refine ⟨Or.inl (by decide), fun S => rfl⟩
          · exact Or.inr ⟨n, by omega, by omega, e⟩
        · left
          refine ⟨?_, fun S => isIn_no (by decide) (by decide) (fun k h1 h2 => ox_n hy (by omega) (by decide))⟩
          by_cases h1 : y < nI 1
          · exact Or.inl h1
          · exact Or.inr ⟨h1, ox_le (n := 3) hy (lt_1 h1) (by decide)⟩ : ((y < nI 1 ∨ ¬ y < nI 1 ∧ ¬ y ≤ nI 3) ∧ ∀ S, fn_Mo_isIn y (nI 1) (nI 3) S = some (0, S)) ∨ ∃ n, 1 ≤ n ∧ n ≤ 3 ∧ y = nI n) with ⟨hy, m3⟩ | ⟨n, hn1, hn3, rfl⟩
      · refine op_same (r := -nI 2) h ?_ ?_
        · rcases hy with h1 | ⟨h1, h2⟩
          · simp (disch := omega) only [wbr_T, wbr_F, wgd_T, wbq, wbv, wnm, zI_mk, zL_mk, uI_mk, uL_mk, kI_mk, kL_mk, nI_add, nI_mul, nI_sub, nI_div, nI_clamp, wgB, wgP, nI_leI, nI_ltI, nI_eq, nI_eqm, nI_eqm5, wdT, wdF, wd1, wd0, li_0, li_1, li_2, li_3, li_4, li_5, li_6, li_7, li_8, li_9, li_10, li_11, li_12, li_13, li_14, li_15, li_16, li_17, li_18, li_19, li_20, li_21, li_22, li_23, li_24, li_25, li_26, li_27, li_28, li_29, li_30, li_31, li_32, li_33, li_38, li_40, li_41, li_48, li_57, li_58, li_59, li_60, li_61, li_62, li_63, li_68, li_69, li_70, li_71, li_72, li_73, li_74, li_75, li_83, li_87, li_88, li_89, li_99, li_100, li_104, li_105, li_106, li_107, li_108, li_109, li_110, li_111, li_112, li_113, li_114, li_115, li_116, li_117, li_118, li_119, li_120, li_121, li_124, li_127, li_128, li_200, li_4095, li_4096, li_9999, c0, c1, c2, c3, c4, c5, c6, c7, c8, u0, u1, u2, u3, u4, u5, u6, u7, u8, u9, u10, u11, u12, u13, u14, u15, u16, u17, u18, u19, u20, u21, u22, u23, u24, u25, u26, u27, u28, u29, u30, fn_Ls_scrubbed, e1, hv1, hv3, h1]
          · simp (disch := omega) only [wbr_T, wbr_F, wgd_T, wbq, wbv, wnm, zI_mk, zL_mk, uI_mk, uL_mk, kI_mk, kL_mk, nI_add, nI_mul, nI_sub, nI_div, nI_clamp, wgB, wgP, nI_leI, nI_ltI, nI_eq, nI_eqm, nI_eqm5, wdT, wdF, wd1, wd0, li_0, li_1, li_2, li_3, li_4, li_5, li_6, li_7, li_8, li_9, li_10, li_11, li_12, li_13, li_14, li_15, li_16, li_17, li_18, li_19, li_20, li_21, li_22, li_23, li_24, li_25, li_26, li_27, li_28, li_29, li_30, li_31, li_32, li_33, li_38, li_40, li_41, li_48, li_57, li_58, li_59, li_60, li_61, li_62, li_63, li_68, li_69, li_70, li_71, li_72, li_73, li_74, li_75, li_83, li_87, li_88, li_89, li_99, li_100, li_104, li_105, li_106, li_107, li_108, li_109, li_110, li_111, li_112, li_113, li_114, li_115, li_116, li_117, li_118, li_119, li_120, li_121, li_124, li_127, li_128, li_200, li_4095, li_4096, li_9999, c0, c1, c2, c3, c4, c5, c6, c7, c8, u0, u1, u2, u3, u4, u5, u6, u7, u8, u9, u10, u11, u12, u13, u14, u15, u16, u17, u18, u19, u20, u21, u22, u23, u24, u25, u26, u27, u28, u29, u30, fn_Ls_scrubbed, e1, hv1, hv3, h1, h2]
        · simp (disch := omega) only [wbr_T, wbr_F, wgd_T, wbq, wbv, wnm, zI_mk, zL_mk, uI_mk, uL_mk, kI_mk, kL_mk, nI_add, nI_mul, nI_sub, nI_div, nI_clamp, wgB, wgP, nI_leI, nI_ltI, nI_eq, nI_eqm, nI_eqm5, wdT, wdF, wd1, wd0, li_0, li_1, li_2, li_3, li_4, li_5, li_6, li_7, li_8, li_9, li_10, li_11, li_12, li_13, li_14, li_15, li_16, li_17, li_18, li_19, li_20, li_21, li_22, li_23, li_24, li_25, li_26, li_27, li_28, li_29, li_30, li_31, li_32, li_33, li_38, li_40, li_41, li_48, li_57, li_58, li_59, li_60, li_61, li_62, li_63, li_68, li_69, li_70, li_71, li_72, li_73, li_74, li_75, li_83, li_87, li_88, li_89, li_99, li_100, li_104, li_105, li_106, li_107, li_108, li_109, li_110, li_111, li_112, li_113, li_114, li_115, li_116, li_117, li_118, li_119, li_120, li_121, li_124, li_127, li_128, li_200, li_4095, li_4096, li_9999, gT_mk_137, zT_mk_137, zR_mk_137_0, zR_mk_137_1, zR_mk_137_2, zR_mk_137_4, zR_mk_137_6, zR_mk_137_7, zR_mk_137_9, zR_mk_137_16, zR_mk_137_17, zR_mk_137_18, zR_mk_137_19, zR_mk_137_20, zR_mk_137_22, zR_mk_137_24, zR_mk_137_25, zR_mk_137_26, zR_mk_137_28, zR_mk_137_29, zR_mk_137_30, zR_mk_137_31, gT_mk_138, zT_mk_138, gT_mk_139, zT_mk_139, gT_mk_140, zT_mk_140, gT_mk_141, zT_mk_141, gT_mk_142, zT_mk_142, gT_mk_143, zT_mk_143, gT_mk_144, zT_mk_144, gT_mk_145, zT_mk_145, gT_mk_146, zT_mk_146, gT_mk_147, zT_mk_147, gT_mk_148, zT_mk_148, gT_mk_149, zT_mk_149, gT_mk_150, zT_mk_150, gT_mk_151, zT_mk_151, gT_mk_152, zT_mk_152, gT_mk_153, zT_mk_153, gT_mk_154, zT_mk_154, gT_mk_155, zT_mk_155, gT_mk_156, zT_mk_156, gT_mk_157, zT_mk_157, fn_Mo_scrubbed, m1, m2, m3]
      · have m3 := fun S : zS => m_in (S := S) (k := n) (lo := 1) (hi := 3) hn1 hn3 (by decide)
        by_cases hz : n ≤ a 68
        · have hX := JC_CX (Re_JC hE) (Re_JG hE) hc hG (show 9999 < 2 ^ 20 by decide)
          -- the model, from a memory that scrubbing left
          have mod : ∀ f1, sl f f1 → ∃ g1, fn_Mo_scrub FR 137 (nI 0) (nI n) (nI (a (60 + 2 * j))) (nI 0) (mk (up f1 137 23 (nI 13)) l R) = some (mk g1 l R) ∧ BM n g1 (scR (rV T N) a j n) ∧ Iv g1 l R ∧ (∀ k, f1 138 k = nI (a k)) ∧ (∀ k, up f1 137 23 (nI 13) 138 k = nI (a k)) := by
            intro f1 s1
            have hM := MX_fr (JC_MX (Re_JC hE) (Re_JG hE) hA hG (show 9999 < 2 ^ 20 by decide)) (f' := f1) (fun p j hp => s1 p j (by omega))
            have u1 : fm f1 (up f1 137 23 (nI 13)) := fun p j q _ _ _ _ _ => by
              by_cases e : p = 137
              · subst e
                exact up_nj (q rfl).2.2
              · exact up_np e
            have hM1 := fm_MX hM u1
            obtain ⟨g1, q1, q2, q3⟩ := m_scrub (l := l) (R := R) hn3 n 0 FR 0 (a (60 + 2 * j)) (fun _ => 0) (13, fun _ => 0) (up f1 137 23 (nI 13)) (Nat.zero_add _) (by show _ < 60; omega) (by decide) go hM1 ⟨Nat.le_refl _, up_eq, fun q => absurd q (by decide)⟩ (fun i hi => absurd hi (Nat.not_lt_zero _))
            exact ⟨g1, q1, q2, Iv_ask3 h (fun p j q => s1 p j (by omega)) (fm_t u1 q3.1) hE.2.2.2.2.2.2, hM.2.1, hM1.2.1⟩
          have mo := fun f1 : Nat → Nat → Int32 => m_on (f := f1) (l := l) (R := R) hj
          obtain ⟨f1, e2, b1, s1⟩ := c_choose (l := l) hX hj hn3
          have rc_ : (scR (rV T N) a j n).1 ≤ 12 := scD_reach z6 n 0 0 (a (60 + 2 * j)) (fun _ => 0) (13, fun _ => 0) (by omega) go (by decide) (by decide)
          rcases hv with rfl | ⟨k, hk, rfl⟩
          · obtain ⟨g1, e3, b2, hI, hA1, hA2⟩ := mod f1 s1
            have mo1 := mo (up f1 137 23 (nI 13))
            rw [hA2] at mo1
            have c1 : ¬ nI n ≤ -nI 1 := (gt_m1 (by omega)).2
            have c2 : ¬ nI 0 ≤ -nI 1 := by decide
            have b11 := b1.2.1
            have b21 := b2.2.1
            refine ⟨nI (scR (rV T N) a j n).1, f1, l, R, g1, l, ?_, ?_, hI⟩
            · simp (disch := omega) only [wbr_T, wbr_F, wgd_T, wbq, wbv, wnm, zI_mk, zL_mk, uI_mk, uL_mk, kI_mk, kL_mk, nI_add, nI_mul, nI_sub, nI_div, nI_clamp, wgB, wgP, nI_leI, nI_ltI, nI_eq, nI_eqm, nI_eqm5, wdT, wdF, wd1, wd0, li_0, li_1, li_2, li_3, li_4, li_5, li_6, li_7, li_8, li_9, li_10, li_11, li_12, li_13, li_14, li_15, li_16, li_17, li_18, li_19, li_20, li_21, li_22, li_23, li_24, li_25, li_26, li_27, li_28, li_29, li_30, li_31, li_32, li_33, li_38, li_40, li_41, li_48, li_57, li_58, li_59, li_60, li_61, li_62, li_63, li_68, li_69, li_70, li_71, li_72, li_73, li_74, li_75, li_83, li_87, li_88, li_89, li_99, li_100, li_104, li_105, li_106, li_107, li_108, li_109, li_110, li_111, li_112, li_113, li_114, li_115, li_116, li_117, li_118, li_119, li_120, li_121, li_124, li_127, li_128, li_200, li_4095, li_4096, li_9999, c0, c1, c2, c3, c4, c5, c6, c7, c8, u0, u1, u2, u3, u4, u5, u6, u7, u8, u9, u10, u11, u12, u13, u14, u15, u16, u17, u18, u19, u20, u21, u22, u23, u24, u25, u26, u27, u28, u29, u30, fn_Ls_scrubbed, e1, hv1, hv3, c1, c2, ez, e2, b11, gT_mk_28]
            · simp (disch := omega) only [wbr_T, wbr_F, wgd_T, wbq, wbv, wnm, zI_mk, zL_mk, uI_mk, uL_mk, kI_mk, kL_mk, nI_add, nI_mul, nI_sub, nI_div, nI_clamp, wgB, wgP, nI_leI, nI_ltI, nI_eq, nI_eqm, nI_eqm5, wdT, wdF, wd1, wd0, li_0, li_1, li_2, li_3, li_4, li_5, li_6, li_7, li_8, li_9, li_10, li_11, li_12, li_13, li_14, li_15, li_16, li_17, li_18, li_19, li_20, li_21, li_22, li_23, li_24, li_25, li_26, li_27, li_28, li_29, li_30, li_31, li_32, li_33, li_38, li_40, li_41, li_48, li_57, li_58, li_59, li_60, li_61, li_62, li_63, li_68, li_69, li_70, li_71, li_72, li_73, li_74, li_75, li_83, li_87, li_88, li_89, li_99, li_100, li_104, li_105, li_106, li_107, li_108, li_109, li_110, li_111, li_112, li_113, li_114, li_115, li_116, li_117, li_118, li_119, li_120, li_121, li_124, li_127, li_128, li_200, li_4095, li_4096, li_9999, gT_mk_137, zT_mk_137, zR_mk_137_0, zR_mk_137_1, zR_mk_137_2, zR_mk_137_4, zR_mk_137_6, zR_mk_137_7, zR_mk_137_9, zR_mk_137_16, zR_mk_137_17, zR_mk_137_18, zR_mk_137_19, zR_mk_137_20, zR_mk_137_22, zR_mk_137_24, zR_mk_137_25, zR_mk_137_26, zR_mk_137_28, zR_mk_137_29, zR_mk_137_30, zR_mk_137_31, gT_mk_138, zT_mk_138, gT_mk_139, zT_mk_139, gT_mk_140, zT_mk_140, gT_mk_141, zT_mk_141, gT_mk_142, zT_mk_142, gT_mk_143, zT_mk_143, gT_mk_144, zT_mk_144, gT_mk_145, zT_mk_145, gT_mk_146, zT_mk_146, gT_mk_147, zT_mk_147, gT_mk_148, zT_mk_148, gT_mk_149, zT_mk_149, gT_mk_150, zT_mk_150, gT_mk_151, zT_mk_151, gT_mk_152, zT_mk_152, gT_mk_153, zT_mk_153, gT_mk_154, zT_mk_154, gT_mk_155, zT_mk_155, gT_mk_156, zT_mk_156, gT_mk_157, zT_mk_157, fn_Mo_scrubbed, m1, m2, m3, hA1, mo1, e3, b21]
          · by_cases hkn : n ≤ k
            · obtain ⟨g1, e3, b2, hI, hA1, hA2⟩ := mod f sl_r
              have mo1 := mo (up f 137 23 (nI 13))
              rw [hA2] at mo1
              refine ⟨-nI 5, f, l, R, g1, l, ?_, ?_, hI⟩
              · simp (disch := omega) only [wbr_T, wbr_F, wgd_T, wbq, wbv, wnm, zI_mk, zL_mk, uI_mk, uL_mk, kI_mk, kL_mk, nI_add, nI_mul, nI_sub, nI_div, nI_clamp, wgB, wgP, nI_leI, nI_ltI, nI_eq, nI_eqm, nI_eqm5, wdT, wdF, wd1, wd0, li_0, li_1, li_2, li_3, li_4, li_5, li_6, li_7, li_8, li_9, li_10, li_11, li_12, li_13, li_14, li_15, li_16, li_17, li_18, li_19, li_20, li_21, li_22, li_23, li_24, li_25, li_26, li_27, li_28, li_29, li_30, li_31, li_32, li_33, li_38, li_40, li_41, li_48, li_57, li_58, li_59, li_60, li_61, li_62, li_63, li_68, li_69, li_70, li_71, li_72, li_73, li_74, li_75, li_83, li_87, li_88, li_89, li_99, li_100, li_104, li_105, li_106, li_107, li_108, li_109, li_110, li_111, li_112, li_113, li_114, li_115, li_116, li_117, li_118, li_119, li_120, li_121, li_124, li_127, li_128, li_200, li_4095, li_4096, li_9999, c0, c1, c2, c3, c4, c5, c6, c7, c8, u0, u1, u2, u3, u4, u5, u6, u7, u8, u9, u10, u11, u12, u13, u14, u15, u16, u17, u18, u19, u20, u21, u22, u23, u24, u25, u26, u27, u28, u29, u30, fn_Ls_scrubbed, e1, hv1, hv3]
              · simp (disch := omega) only [wbr_T, wbr_F, wgd_T, wbq, wbv, wnm, zI_mk, zL_mk, uI_mk, uL_mk, kI_mk, kL_mk, nI_add, nI_mul, nI_sub, nI_div, nI_clamp, wgB, wgP, nI_leI, nI_ltI, nI_eq, nI_eqm, nI_eqm5, wdT, wdF, wd1, wd0, li_0, li_1, li_2, li_3, li_4, li_5, li_6, li_7, li_8, li_9, li_10, li_11, li_12, li_13, li_14, li_15, li_16, li_17, li_18, li_19, li_20, li_21, li_22, li_23, li_24, li_25, li_26, li_27, li_28, li_29, li_30, li_31, li_32, li_33, li_38, li_40, li_41, li_48, li_57, li_58, li_59, li_60, li_61, li_62, li_63, li_68, li_69, li_70, li_71, li_72, li_73, li_74, li_75, li_83, li_87, li_88, li_89, li_99, li_100, li_104, li_105, li_106, li_107, li_108, li_109, li_110, li_111, li_112, li_113, li_114, li_115, li_116, li_117, li_118, li_119, li_120, li_121, li_124, li_127, li_128, li_200, li_4095, li_4096, li_9999, gT_mk_137, zT_mk_137, zR_mk_137_0, zR_mk_137_1, zR_mk_137_2, zR_mk_137_4, zR_mk_137_6, zR_mk_137_7, zR_mk_137_9, zR_mk_137_16, zR_mk_137_17, zR_mk_137_18, zR_mk_137_19, zR_mk_137_20, zR_mk_137_22, zR_mk_137_24, zR_mk_137_25, zR_mk_137_26, zR_mk_137_28, zR_mk_137_29, zR_mk_137_30, zR_mk_137_31, gT_mk_138, zT_mk_138, gT_mk_139, zT_mk_139, gT_mk_140, zT_mk_140, gT_mk_141, zT_mk_141, gT_mk_142, zT_mk_142, gT_mk_143, zT_mk_143, gT_mk_144, zT_mk_144, gT_mk_145, zT_mk_145, gT_mk_146, zT_mk_146, gT_mk_147, zT_mk_147, gT_mk_148, zT_mk_148, gT_mk_149, zT_mk_149, gT_mk_150, zT_mk_150, gT_mk_151, zT_mk_151, gT_mk_152, zT_mk_152, gT_mk_153, zT_mk_153, gT_mk_154, zT_mk_154, gT_mk_155, zT_mk_155, gT_mk_156, zT_mk_156, gT_mk_157, zT_mk_157, fn_Mo_scrubbed, m1, m2, m3, hA1, mo1, e3]
            · obtain ⟨g1, e3, b2, hI, hA1, hA2⟩ := mod f1 s1
              have mo1 := mo (up f1 137 23 (nI 13))
              rw [hA2] at mo1
              have b11 := b1.2.2 rc_ k (by omega)
              have b21 := b2.2.2 rc_ k (by omega)
              refine ⟨nI ((scR (rV T N) a j n).2 k), f1, l, R, g1, l, ?_, ?_, hI⟩
              · simp (disch := omega) only [wbr_T, wbr_F, wgd_T, wbq, wbv, wnm, zI_mk, zL_mk, uI_mk, uL_mk, kI_mk, kL_mk, nI_add, nI_mul, nI_sub, nI_div, nI_clamp, wgB, wgP, nI_leI, nI_ltI, nI_eq, nI_eqm, nI_eqm5, wdT, wdF, wd1, wd0, li_0, li_1, li_2, li_3, li_4, li_5, li_6, li_7, li_8, li_9, li_10, li_11, li_12, li_13, li_14, li_15, li_16, li_17, li_18, li_19, li_20, li_21, li_22, li_23, li_24, li_25, li_26, li_27, li_28, li_29, li_30, li_31, li_32, li_33, li_38, li_40, li_41, li_48, li_57, li_58, li_59, li_60, li_61, li_62, li_63, li_68, li_69, li_70, li_71, li_72, li_73, li_74, li_75, li_83, li_87, li_88, li_89, li_99, li_100, li_104, li_105, li_106, li_107, li_108, li_109, li_110, li_111, li_112, li_113, li_114, li_115, li_116, li_117, li_118, li_119, li_120, li_121, li_124, li_127, li_128, li_200, li_4095, li_4096, li_9999, c0, c1, c2, c3, c4, c5, c6, c7, c8, u0, u1, u2, u3, u4, u5, u6, u7, u8, u9, u10, u11, u12, u13, u14, u15, u16, u17, u18, u19, u20, u21, u22, u23, u24, u25, u26, u27, u28, u29, u30, fn_Ls_scrubbed, e1, hv1, hv3, ez, e2, b11, gT_mk_28, zR_mk_28_2, gT_mk_31, zT_mk_31]
              · simp (disch := omega) only [wbr_T, wbr_F, wgd_T, wbq, wbv, wnm, zI_mk, zL_mk, uI_mk, uL_mk, kI_mk, kL_mk, nI_add, nI_mul, nI_sub, nI_div, nI_clamp, wgB, wgP, nI_leI, nI_ltI, nI_eq, nI_eqm, nI_eqm5, wdT, wdF, wd1, wd0, li_0, li_1, li_2, li_3, li_4, li_5, li_6, li_7, li_8, li_9, li_10, li_11, li_12, li_13, li_14, li_15, li_16, li_17, li_18, li_19, li_20, li_21, li_22, li_23, li_24, li_25, li_26, li_27, li_28, li_29, li_30, li_31, li_32, li_33, li_38, li_40, li_41, li_48, li_57, li_58, li_59, li_60, li_61, li_62, li_63, li_68, li_69, li_70, li_71, li_72, li_73, li_74, li_75, li_83, li_87, li_88, li_89, li_99, li_100, li_104, li_105, li_106, li_107, li_108, li_109, li_110, li_111, li_112, li_113, li_114, li_115, li_116, li_117, li_118, li_119, li_120, li_121, li_124, li_127, li_128, li_200, li_4095, li_4096, li_9999, gT_mk_137, zT_mk_137, zR_mk_137_0, zR_mk_137_1, zR_mk_137_2, zR_mk_137_4, zR_mk_137_6, zR_mk_137_7, zR_mk_137_9, zR_mk_137_16, zR_mk_137_17, zR_mk_137_18, zR_mk_137_19, zR_mk_137_20, zR_mk_137_22, zR_mk_137_24, zR_mk_137_25, zR_mk_137_26, zR_mk_137_28, zR_mk_137_29, zR_mk_137_30, zR_mk_137_31, gT_mk_138, zT_mk_138, gT_mk_139, zT_mk_139, gT_mk_140, zT_mk_140, gT_mk_141, zT_mk_141, gT_mk_142, zT_mk_142, gT_mk_143, zT_mk_143, gT_mk_144, zT_mk_144, gT_mk_145, zT_mk_145, gT_mk_146, zT_mk_146, gT_mk_147, zT_mk_147, gT_mk_148, zT_mk_148, gT_mk_149, zT_mk_149, gT_mk_150, zT_mk_150, gT_mk_151, zT_mk_151, gT_mk_152, zT_mk_152, gT_mk_153, zT_mk_153, gT_mk_154, zT_mk_154, gT_mk_155, zT_mk_155, gT_mk_156, zT_mk_156, gT_mk_157, zT_mk_157, fn_Mo_scrubbed, m1, m2, m3, hA1, mo1, e3, b21]
        · refine op_same (r := -nI 5) h ?_ ?_
          · rcases hv with rfl | ⟨k, hk, rfl⟩
            · have c1 : ¬ nI n ≤ -nI 1 := (gt_m1 (by omega)).2
              simp (disch := omega) only [wbr_T, wbr_F, wgd_T, wbq, wbv, wnm, zI_mk, zL_mk, uI_mk, uL_mk, kI_mk, kL_mk, nI_add, nI_mul, nI_sub, nI_div, nI_clamp, wgB, wgP, nI_leI, nI_ltI, nI_eq, nI_eqm, nI_eqm5, wdT, wdF, wd1, wd0, li_0, li_1, li_2, li_3, li_4, li_5, li_6, li_7, li_8, li_9, li_10, li_11, li_12, li_13, li_14, li_15, li_16, li_17, li_18, li_19, li_20, li_21, li_22, li_23, li_24, li_25, li_26, li_27, li_28, li_29, li_30, li_31, li_32, li_33, li_38, li_40, li_41, li_48, li_57, li_58, li_59, li_60, li_61, li_62, li_63, li_68, li_69, li_70, li_71, li_72, li_73, li_74, li_75, li_83, li_87, li_88, li_89, li_99, li_100, li_104, li_105, li_106, li_107, li_108, li_109, li_110, li_111, li_112, li_113, li_114, li_115, li_116, li_117, li_118, li_119, li_120, li_121, li_124, li_127, li_128, li_200, li_4095, li_4096, li_9999, c0, c1, c2, c3, c4, c5, c6, c7, c8, u0, u1, u2, u3, u4, u5, u6, u7, u8, u9, u10, u11, u12, u13, u14, u15, u16, u17, u18, u19, u20, u21, u22, u23, u24, u25, u26, u27, u28, u29, u30, fn_Ls_scrubbed, e1, hv1, hv3, c1, ez]
            · by_cases hkn : n ≤ k
              · simp (disch := omega) only [wbr_T, wbr_F, wgd_T, wbq, wbv, wnm, zI_mk, zL_mk, uI_mk, uL_mk, kI_mk, kL_mk, nI_add, nI_mul, nI_sub, nI_div, nI_clamp, wgB, wgP, nI_leI, nI_ltI, nI_eq, nI_eqm, nI_eqm5, wdT, wdF, wd1, wd0, li_0, li_1, li_2, li_3, li_4, li_5, li_6, li_7, li_8, li_9, li_10, li_11, li_12, li_13, li_14, li_15, li_16, li_17, li_18, li_19, li_20, li_21, li_22, li_23, li_24, li_25, li_26, li_27, li_28, li_29, li_30, li_31, li_32, li_33, li_38, li_40, li_41, li_48, li_57, li_58, li_59, li_60, li_61, li_62, li_63, li_68, li_69, li_70, li_71, li_72, li_73, li_74, li_75, li_83, li_87, li_88, li_89, li_99, li_100, li_104, li_105, li_106, li_107, li_108, li_109, li_110, li_111, li_112, li_113, li_114, li_115, li_116, li_117, li_118, li_119, li_120, li_121, li_124, li_127, li_128, li_200, li_4095, li_4096, li_9999, c0, c1, c2, c3, c4, c5, c6, c7, c8, u0, u1, u2, u3, u4, u5, u6, u7, u8, u9, u10, u11, u12, u13, u14, u15, u16, u17, u18, u19, u20, u21, u22, u23, u24, u25, u26, u27, u28, u29, u30, fn_Ls_scrubbed, e1, hv1, hv3]
              · simp (disch := omega) only [wbr_T, wbr_F, wgd_T, wbq, wbv, wnm, zI_mk, zL_mk, uI_mk, uL_mk, kI_mk, kL_mk, nI_add, nI_mul, nI_sub, nI_div, nI_clamp, wgB, wgP, nI_leI, nI_ltI, nI_eq, nI_eqm, nI_eqm5, wdT, wdF, wd1, wd0, li_0, li_1, li_2, li_3, li_4, li_5, li_6, li_7, li_8, li_9, li_10, li_11, li_12, li_13, li_14, li_15, li_16, li_17, li_18, li_19, li_20, li_21, li_22, li_23, li_24, li_25, li_26, li_27, li_28, li_29, li_30, li_31, li_32, li_33, li_38, li_40, li_41, li_48, li_57, li_58, li_59, li_60, li_61, li_62, li_63, li_68, li_69, li_70, li_71, li_72, li_73, li_74, li_75, li_83, li_87, li_88, li_89, li_99, li_100, li_104, li_105, li_106, li_107, li_108, li_109, li_110, li_111, li_112, li_113, li_114, li_115, li_116, li_117, li_118, li_119, li_120, li_121, li_124, li_127, li_128, li_200, li_4095, li_4096, li_9999, c0, c1, c2, c3, c4, c5, c6, c7, c8, u0, u1, u2, u3, u4, u5, u6, u7, u8, u9, u10, u11, u12, u13, u14, u15, u16, u17, u18, u19, u20, u21, u22, u23, u24, u25, u26, u27, u28, u29, u30, fn_Ls_scrubbed, e1, hv1, hv3, ez]
          · simp (disch := omega) only [wbr_T, wbr_F, wgd_T, wbq, wbv, wnm, zI_mk, zL_mk, uI_mk, uL_mk, kI_mk, kL_mk, nI_add, nI_mul, nI_sub, nI_div, nI_clamp, wgB, wgP, nI_leI, nI_ltI, nI_eq, nI_eqm, nI_eqm5, wdT, wdF, wd1, wd0, li_0, li_1, li_2, li_3, li_4, li_5, li_6, li_7, li_8, li_9, li_10, li_11, li_12, li_13, li_14, li_15, li_16, li_17, li_18, li_19, li_20, li_21, li_22, li_23, li_24, li_25, li_26, li_27, li_28, li_29, li_30, li_31, li_32, li_33, li_38, li_40, li_41, li_48, li_57, li_58, li_59, li_60, li_61, li_62, li_63, li_68, li_69, li_70, li_71, li_72, li_73, li_74, li_75, li_83, li_87, li_88, li_89, li_99, li_100, li_104, li_105, li_106, li_107, li_108, li_109, li_110, li_111, li_112, li_113, li_114, li_115, li_116, li_117, li_118, li_119, li_120, li_121, li_124, li_127, li_128, li_200, li_4095, li_4096, li_9999, gT_mk_137, zT_mk_137, zR_mk_137_0, zR_mk_137_1, zR_mk_137_2, zR_mk_137_4, zR_mk_137_6, zR_mk_137_7, zR_mk_137_9, zR_mk_137_16, zR_mk_137_17, zR_mk_137_18, zR_mk_137_19, zR_mk_137_20, zR_mk_137_22, zR_mk_137_24, zR_mk_137_25, zR_mk_137_26, zR_mk_137_28, zR_mk_137_29, zR_mk_137_30, zR_mk_137_31, gT_mk_138, zT_mk_138, gT_mk_139, zT_mk_139, gT_mk_140, zT_mk_140, gT_mk_141, zT_mk_141, gT_mk_142, zT_mk_142, gT_mk_143, zT_mk_143, gT_mk_144, zT_mk_144, gT_mk_145, zT_mk_145, gT_mk_146, zT_mk_146, gT_mk_147, zT_mk_147, gT_mk_148, zT_mk_148, gT_mk_149, zT_mk_149, gT_mk_150, zT_mk_150, gT_mk_151, zT_mk_151, gT_mk_152, zT_mk_152, gT_mk_153, zT_mk_153, gT_mk_154, zT_mk_154, gT_mk_155, zT_mk_155, gT_mk_156, zT_mk_156, gT_mk_157, zT_mk_157, fn_Mo_scrubbed, m1, m2, m3, hA]
    by_cases hm : v = -nI 1
    · exact tail v (Or.inl hm)
    · rcases ix_or v (N := 3) (by decide) with ⟨k, hk, e⟩ | hv
      · exact tail v (Or.inr ⟨k, hk, e⟩)
      · have m2 := fun S : zS => mi2Out S hm hv
        refine op_same (r := -nI 1) h ?_ ?_
        · by_cases h0 : v < -nI 1
          · simp (disch := omega) only [wbr_T, wbr_F, wgd_T, wbq, wbv, wnm, zI_mk, zL_mk, uI_mk, uL_mk, kI_mk, kL_mk, nI_add, nI_mul, nI_sub, nI_div, nI_clamp, wgB, wgP, nI_leI, nI_ltI, nI_eq, nI_eqm, nI_eqm5, wdT, wdF, wd1, wd0, li_0, li_1, li_2, li_3, li_4, li_5, li_6, li_7, li_8, li_9, li_10, li_11, li_12, li_13, li_14, li_15, li_16, li_17, li_18, li_19, li_20, li_21, li_22, li_23, li_24, li_25, li_26, li_27, li_28, li_29, li_30, li_31, li_32, li_33, li_38, li_40, li_41, li_48, li_57, li_58, li_59, li_60, li_61, li_62, li_63, li_68, li_69, li_70, li_71, li_72, li_73, li_74, li_75, li_83, li_87, li_88, li_89, li_99, li_100, li_104, li_105, li_106, li_107, li_108, li_109, li_110, li_111, li_112, li_113, li_114, li_115, li_116, li_117, li_118, li_119, li_120, li_121, li_124, li_127, li_128, li_200, li_4095, li_4096, li_9999, c0, c1, c2, c3, c4, c5, c6, c7, c8, u0, u1, u2, u3, u4, u5, u6, u7, u8, u9, u10, u11, u12, u13, u14, u15, u16, u17, u18, u19, u20, u21, u22, u23, u24, u25, u26, u27, u28, u29, u30, fn_Ls_scrubbed, e1, h0]
          · have h1 := ox_nlt hv (neg_1 h0 hm)
            simp (disch := omega) only [wbr_T, wbr_F, wgd_T, wbq, wbv, wnm, zI_mk, zL_mk, uI_mk, uL_mk, kI_mk, kL_mk, nI_add, nI_mul, nI_sub, nI_div, nI_clamp, wgB, wgP, nI_leI, nI_ltI, nI_eq, nI_eqm, nI_eqm5, wdT, wdF, wd1, wd0, li_0, li_1, li_2, li_3, li_4, li_5, li_6, li_7, li_8, li_9, li_10, li_11, li_12, li_13, li_14, li_15, li_16, li_17, li_18, li_19, li_20, li_21, li_22, li_23, li_24, li_25, li_26, li_27, li_28, li_29, li_30, li_31, li_32, li_33, li_38, li_40, li_41, li_48, li_57, li_58, li_59, li_60, li_61, li_62, li_63, li_68, li_69, li_70, li_71, li_72, li_73, li_74, li_75, li_83, li_87, li_88, li_89, li_99, li_100, li_104, li_105, li_106, li_107, li_108, li_109, li_110, li_111, li_112, li_113, li_114, li_115, li_116, li_117, li_118, li_119, li_120, li_121, li_124, li_127, li_128, li_200, li_4095, li_4096, li_9999, c0, c1, c2, c3, c4, c5, c6, c7, c8, u0, u1, u2, u3, u4, u5, u6, u7, u8, u9, u10, u11, u12, u13, u14, u15, u16, u17, u18, u19, u20, u21, u22, u23, u24, u25, u26, u27, u28, u29, u30, fn_Ls_scrubbed, e1, h0, h1]
        · simp (disch := omega) only [wbr_T, wbr_F, wgd_T, wbq, wbv, wnm, zI_mk, zL_mk, uI_mk, uL_mk, kI_mk, kL_mk, nI_add, nI_mul, nI_sub, nI_div, nI_clamp, wgB, wgP, nI_leI, nI_ltI, nI_eq, nI_eqm, nI_eqm5, wdT, wdF, wd1, wd0, li_0, li_1, li_2, li_3, li_4, li_5, li_6, li_7, li_8, li_9, li_10, li_11, li_12, li_13, li_14, li_15, li_16, li_17, li_18, li_19, li_20, li_21, li_22, li_23, li_24, li_25, li_26, li_27, li_28, li_29, li_30, li_31, li_32, li_33, li_38, li_40, li_41, li_48, li_57, li_58, li_59, li_60, li_61, li_62, li_63, li_68, li_69, li_70, li_71, li_72, li_73, li_74, li_75, li_83, li_87, li_88, li_89, li_99, li_100, li_104, li_105, li_106, li_107, li_108, li_109, li_110, li_111, li_112, li_113, li_114, li_115, li_116, li_117, li_118, li_119, li_120, li_121, li_124, li_127, li_128, li_200, li_4095, li_4096, li_9999, gT_mk_137, zT_mk_137, zR_mk_137_0, zR_mk_137_1, zR_mk_137_2, zR_mk_137_4, zR_mk_137_6, zR_mk_137_7, zR_mk_137_9, zR_mk_137_16, zR_mk_137_17, zR_mk_137_18, zR_mk_137_19, zR_mk_137_20, zR_mk_137_22, zR_mk_137_24, zR_mk_137_25, zR_mk_137_26, zR_mk_137_28, zR_mk_137_29, zR_mk_137_30, zR_mk_137_31, gT_mk_138, zT_mk_138, gT_mk_139, zT_mk_139, gT_mk_140, zT_mk_140, gT_mk_141, zT_mk_141, gT_mk_142, zT_mk_142, gT_mk_143, zT_mk_143, gT_mk_144, zT_mk_144, gT_mk_145, zT_mk_145, gT_mk_146, zT_mk_146, gT_mk_147, zT_mk_147, gT_mk_148, zT_mk_148, gT_mk_149, zT_mk_149, gT_mk_150, zT_mk_150, gT_mk_151, zT_mk_151, gT_mk_152, zT_mk_152, gT_mk_153, zT_mk_153, gT_mk_154, zT_mk_154, gT_mk_155, zT_mk_155, gT_mk_156, zT_mk_156, gT_mk_157, zT_mk_157, fn_Mo_scrubbed, m1, m2]
  · have e1 := fun S : zS => c_nov_out (S := S) hx
    have m1 := fun S : zS => m_nov_out (S := S) hx
    refine op_same (r := -nI 1) h ?_ ?_
    · simp (disch := omega) only [wbr_T, wbr_F, wgd_T, wbq, wbv, wnm, zI_mk, zL_mk, uI_mk, uL_mk, kI_mk, kL_mk, nI_add, nI_mul, nI_sub, nI_div, nI_clamp, wgB, wgP, nI_leI, nI_ltI, nI_eq, nI_eqm, nI_eqm5, wdT, wdF, wd1, wd0, li_0, li_1, li_2, li_3, li_4, li_5, li_6, li_7, li_8, li_9, li_10, li_11, li_12, li_13, li_14, li_15, li_16, li_17, li_18, li_19, li_20, li_21, li_22, li_23, li_24, li_25, li_26, li_27, li_28, li_29, li_30, li_31, li_32, li_33, li_38, li_40, li_41, li_48, li_57, li_58, li_59, li_60, li_61, li_62, li_63, li_68, li_69, li_70, li_71, li_72, li_73, li_74, li_75, li_83, li_87, li_88, li_89, li_99, li_100, li_104, li_105, li_106, li_107, li_108, li_109, li_110, li_111, li_112, li_113, li_114, li_115, li_116, li_117, li_118, li_119, li_120, li_121, li_124, li_127, li_128, li_200, li_4095, li_4096, li_9999, c0, c1, c2, c3, c4, c5, c6, c7, c8, u0, u1, u2, u3, u4, u5, u6, u7, u8, u9, u10, u11, u12, u13, u14, u15, u16, u17, u18, u19, u20, u21, u22, u23, u24, u25, u26, u27, u28, u29, u30, fn_Ls_scrubbed, e1]
    · simp (disch := omega) only [wbr_T, wbr_F, wgd_T, wbq, wbv, wnm, zI_mk, zL_mk, uI_mk, uL_mk, kI_mk, kL_mk, nI_add, nI_mul, nI_sub, nI_div, nI_clamp, wgB, wgP, nI_leI, nI_ltI, nI_eq, nI_eqm, nI_eqm5, wdT, wdF, wd1, wd0, li_0, li_1, li_2, li_3, li_4, li_5, li_6, li_7, li_8, li_9, li_10, li_11, li_12, li_13, li_14, li_15, li_16, li_17, li_18, li_19, li_20, li_21, li_22, li_23, li_24, li_25, li_26, li_27, li_28, li_29, li_30, li_31, li_32, li_33, li_38, li_40, li_41, li_48, li_57, li_58, li_59, li_60, li_61, li_62, li_63, li_68, li_69, li_70, li_71, li_72, li_73, li_74, li_75, li_83, li_87, li_88, li_89, li_99, li_100, li_104, li_105, li_106, li_107, li_108, li_109, li_110, li_111, li_112, li_113, li_114, li_115, li_116, li_117, li_118, li_119, li_120, li_121, li_124, li_127, li_128, li_200, li_4095, li_4096, li_9999, gT_mk_137, zT_mk_137, zR_mk_137_0, zR_mk_137_1, zR_mk_137_2, zR_mk_137_4, zR_mk_137_6, zR_mk_137_7, zR_mk_137_9, zR_mk_137_16, zR_mk_137_17, zR_mk_137_18, zR_mk_137_19, zR_mk_137_20, zR_mk_137_22, zR_mk_137_24, zR_mk_137_25, zR_mk_137_26, zR_mk_137_28, zR_mk_137_29, zR_mk_137_30, zR_mk_137_31, gT_mk_138, zT_mk_138, gT_mk_139, zT_mk_139, gT_mk_140, zT_mk_140, gT_mk_141, zT_mk_141, gT_mk_142, zT_mk_142, gT_mk_143, zT_mk_143, gT_mk_144, zT_mk_144, gT_mk_145, zT_mk_145, gT_mk_146, zT_mk_146, gT_mk_147, zT_mk_147, gT_mk_148, zT_mk_148, gT_mk_149, zT_mk_149, gT_mk_150, zT_mk_150, gT_mk_151, zT_mk_151, gT_mk_152, zT_mk_152, gT_mk_153, zT_mk_153, gT_mk_154, zT_mk_154, gT_mk_155, zT_mk_155, gT_mk_156, zT_mk_156, gT_mk_157, zT_mk_157, fn_Mo_scrubbed, m1]
