/-! CALLS: ACTS -/
def bdL : List Nat := [10, 11, 12, 0, 20, 0, 30, 0, 0, 0, 0, 40, 50, 51, 0, 0, 0, 60, 71, 70, 0]
def bdN (act k : Nat) : Nat := bdL.getD (k * 3 + act) 0
def abN (k : Nat) : Nat := if k = 4 then 1 else if k = 5 then 2 else if k = 6 then 3 else 0
def rsN (act : Nat) : Nat → Nat → Nat
  | 0, k => k
  | d + 1, k => if bdN act k = 0 then rsN act d (abN k) else k
theorem bd_f : ∀ act, act < 3 → ∀ k, k < 7 → (zb2.getD (k * 3 + act) 0 : Int32) = nI (bdN act k) ∧ (bdN act k = 0 → 1 ≤ k) ∧ bdN act k < 72 := by decide +kernel
theorem ab_f : ∀ k, k < 7 → abN k < 7 ∧ (1 ≤ k → (zb1.getD k 0 : Int32) = nI (abN k)) := by decide +kernel
theorem li_50 : (50 : Int32) = nI 50 := rfl
theorem li_51 : (51 : Int32) = nI 51 := rfl
theorem rs_f1 : ∀ act, act < 3 → ∀ k, k < 7 → rsN act 7 k < 7 ∧ ¬ bdN act (rsN act 7 k) = 0 ∧ (1 ≤ rsN act 7 k ∨ bdN act (rsN act 7 k) < 20) := by decide +kernel
theorem rs_f2 : ∀ act, act < 3 → ∀ k, k < 7 → ∃ j, j < 11 ∧ bdN act (rsN act 7 k) = [10, 11, 12, 20, 30, 40, 50, 51, 60, 70, 71].getD j 0 := by decide +kernel
theorem rs_f (act : Nat) (ha : act < 3) (k : Nat) (hk : k < 7) : rsN act 7 k < 7 ∧ ¬ bdN act (rsN act 7 k) = 0 ∧ (1 ≤ rsN act 7 k ∨ bdN act (rsN act 7 k) < 20)
    ∧ (bdN act (rsN act 7 k) = 10 ∨ bdN act (rsN act 7 k) = 11 ∨ bdN act (rsN act 7 k) = 12 ∨ bdN act (rsN act 7 k) = 20 ∨ bdN act (rsN act 7 k) = 30 ∨ bdN act (rsN act 7 k) = 40 ∨ bdN act (rsN act 7 k) = 50 ∨ bdN act (rsN act 7 k) = 51 ∨ bdN act (rsN act 7 k) = 60 ∨ bdN act (rsN act 7 k) = 70 ∨ bdN act (rsN act 7 k) = 71) := by
  obtain ⟨h1, h2, h3⟩ := rs_f1 act ha k hk
  refine ⟨h1, h2, h3, ?_⟩
  obtain ⟨j, hj, e⟩ := rs_f2 act ha k hk
  generalize bdN act (rsN act 7 k) = b at e ⊢
  match j, hj, e with
  | 0, _, e => exact Or.inl e
  | 1, _, e => exact Or.inr (Or.inl e)
  | 2, _, e => exact Or.inr (Or.inr (Or.inl e))
  | 3, _, e => exact Or.inr (Or.inr (Or.inr (Or.inl e)))
  | 4, _, e => exact Or.inr (Or.inr (Or.inr (Or.inr (Or.inl e))))
  | 5, _, e => exact Or.inr (Or.inr (Or.inr (Or.inr (Or.inr (Or.inl e)))))
  | 6, _, e => exact Or.inr (Or.inr (Or.inr (Or.inr (Or.inr (Or.inr (Or.inl e))))))
  | 7, _, e => exact Or.inr (Or.inr (Or.inr (Or.inr (Or.inr (Or.inr (Or.inr (Or.inl e)))))))
  | 8, _, e => exact Or.inr (Or.inr (Or.inr (Or.inr (Or.inr (Or.inr (Or.inr (Or.inr (Or.inl e))))))))
  | 9, _, e => exact Or.inr (Or.inr (Or.inr (Or.inr (Or.inr (Or.inr (Or.inr (Or.inr (Or.inr (Or.inl e)))))))))
  | 10, _, e => exact Or.inr (Or.inr (Or.inr (Or.inr (Or.inr (Or.inr (Or.inr (Or.inr (Or.inr (Or.inr (e))))))))))
  | n + 11, h, _ => omega
abbrev acR : Type := Option (Int32 × List Nat)
def ac1 (o : acR) (b : Nat) (g : Int32 → Int32) : acR := match o with
  | none => none
  | some p => some (g p.1, b :: p.2)
def ac2 (o o2 : acR) (b : Nat) : acR := match o with
  | none => none
  | some p => match o2 with
    | none => none
    | some q => some (p.1 + q.1, b :: (p.2 ++ q.2))
theorem ac1_s {o : acR} {b : Nat} {g : Int32 → Int32} {r : Int32} {tr : List Nat} (h : ac1 o b g = some (r, tr)) : ∃ r1 t1, o = some (r1, t1) ∧ r = g r1 ∧ tr = b :: t1 := by
  match o, h with
  | none, h => cases h
  | some (r1, t1), h =>
    refine ⟨r1, t1, rfl, ?_, ?_⟩
    · exact (congrArg (fun p : Int32 × List Nat => p.1) (Option.some.inj h)).symm
    · exact (congrArg (fun p : Int32 × List Nat => p.2) (Option.some.inj h)).symm
theorem ac2_s {o o2 : acR} {b : Nat} {r : Int32} {tr : List Nat} (h : ac2 o o2 b = some (r, tr)) : ∃ r1 t1 r2 t2, o = some (r1, t1) ∧ o2 = some (r2, t2) ∧ r = r1 + r2 ∧ tr = b :: (t1 ++ t2) := by
  match o, o2, h with
  | none, _, h => cases h
  | some (r1, t1), none, h => cases h
  | some (r1, t1), some (r2, t2), h =>
    refine ⟨r1, t1, r2, t2, rfl, rfl, ?_, ?_⟩
    · exact (congrArg (fun p : Int32 × List Nat => p.1) (Option.some.inj h)).symm
    · exact (congrArg (fun p : Int32 × List Nat => p.2) (Option.some.inj h)).symm
def acS (C : Nat → Nat → Int32 → acR) (own nu vv b ab : Nat) (x : Int32) : acR :=
  if b = 10 then some (x + nI nu, [10]) else if b = 11 then ac1 (C 0 own x) 11 (fun r => r - nI vv) else if b = 12 then ac1 (C 1 own x) 12 (fun r => r * nI 2)
  else if b = 20 then ac1 (C 1 ab x) 20 (fun r => r ^^^ nI 6) else if b = 30 then ac1 (C 0 ab (x * nI 3)) 30 (fun r => r) else if b = 40 then ac2 (C 2 ab x) (C 1 own (nI 1)) 40
  else if b = 50 then ac1 (C 0 ab x) 50 (fun r => -r) else if b = 51 then ac1 (C 1 ab (x + nI 1)) 51 (fun r => r) else if b = 60 then ac1 (C 2 ab (x - nI nu)) 60 (fun r => r)
  else if b = 70 then ac2 (C 1 ab x) (C 0 ab (nI 2)) 70 else ac1 (C 0 ab x) 71 (fun r => r ^^^ nI vv)
def acV (own nu vv : Nat) : Nat → Nat → Nat → Int32 → acR
  | 0, _, _, _ => none
  | d + 1, act, k, x => acS (fun act k x => acV own nu vv d act k x) own nu vv (bdN act (rsN act 7 k)) (abN (rsN act 7 k)) x
theorem ac_ok : ∀ own, own < 7 → ∀ act, act < 3 → ∀ (nu vv : Nat) (x : Int32), ∃ r tr, acV own nu vv 8 act own x = some (r, tr) ∧ tr.length < 100 := by
  intro own ho act ha nu vv x
  rcases (by omega : own = 0 ∨ own = 1 ∨ own = 2 ∨ own = 3 ∨ own = 4 ∨ own = 5 ∨ own = 6) with rfl | rfl | rfl | rfl | rfl | rfl | rfl <;> rcases (by omega : act = 0 ∨ act = 1 ∨ act = 2) with rfl | rfl | rfl <;> exact ⟨_, _, rfl, Nat.le_of_ble_eq_true rfl⟩
/-! the trace -/
abbrev trS : Type := Nat × (Nat → Int32)
def pushT (s : trS) (b : Nat) : trS := (s.1 + 1, if s.1 < 20 then fun j => if j = s.1 then nI b else s.2 j else s.2)
theorem fold_1 : ∀ (tr : List Nat) (s : trS), (tr.foldl pushT s).1 = s.1 + tr.length
  | [], s => rfl
  | b :: tr, s => by
    show (tr.foldl pushT (pushT s b)).1 = s.1 + (tr.length + 1)
    rw [fold_1 tr (pushT s b)]
    show s.1 + 1 + tr.length = _
    omega
theorem fold_e : ∀ (tr : List Nat) (s s' : trS), s.1 = s'.1 → (∀ j, j < 20 → s.2 j = s'.2 j) → ∀ j, j < 20 → (tr.foldl pushT s).2 j = (tr.foldl pushT s').2 j
  | [], s, s', _, h => h
  | b :: tr, s, s', h1, h => by
    show ∀ j, j < 20 → (tr.foldl pushT (pushT s b)).2 j = (tr.foldl pushT (pushT s' b)).2 j
    refine fold_e tr (pushT s b) (pushT s' b) (by show s.1 + 1 = s'.1 + 1; rw [h1]) (fun j hj => ?_)
    show (if s.1 < 20 then fun j => if j = s.1 then nI b else s.2 j else s.2) j = (if s'.1 < 20 then fun j => if j = s'.1 then nI b else s'.2 j else s'.2) j
    rw [← h1]
    by_cases c : s.1 < 20
    · rw [if_pos c, if_pos c]
      show (if j = s.1 then nI b else s.2 j) = (if j = s.1 then nI b else s'.2 j)
      rw [h j hj]
    · rw [if_neg c, if_neg c]
      exact h j hj
section
variable {f f' g : Nat → Nat → Int32} {l : Nat → Nat → Int64} {R R' : Nat → Nat} {a a' : Nat → Nat} {ru D i j k n w z act own nu vv q dp b : Nat} {s : trS} {x : Int32}
/-! the class -/
def TC (f : Nat → Nat → Int32) (s : trS) : Prop := f 32 1 = nI s.1 ∧ ∀ j, f 33 j = s.2 j
def aF (f f' : Nat → Nat → Int32) : Prop := ∀ p j, ¬ p = 33 → ¬ (p = 32 ∧ j = 1) → f' p j = f p j
theorem aF_t (h : aF f f') (h2 : aF f' g) : aF f g := fun p j a b => (h2 p j a b).trans (h p j a b)
def AC (q own nu vv : Nat) (f : Nat → Nat → Int32) (R : Nat → Nat) : Prop := (R 32 = q ∧ 34 ≤ q ∧ ∀ f : Nat → Nat → Int32, ∀ l, gT (mk f l R) q 105 = true) ∧ (f q 1 = nI nu ∧ f q 2 = nI own ∧ f q 3 = nI vv) ∧ KA (f 1) ∧ BO (f 2) ∧ own < 7
theorem AC_F (h : AC q own nu vv f R) (hs : aF f f') : AC q own nu vv f' R := by
  obtain ⟨⟨h1, h2, h3⟩, ⟨h4, h5, h6⟩, h7, h8, h9⟩ := h
  exact ⟨⟨h1, h2, h3⟩, ⟨(hs _ _ (by omega) (by omega)).trans h4, (hs _ _ (by omega) (by omega)).trans h5, (hs _ _ (by omega) (by omega)).trans h6⟩, fun j hj => (hs _ _ (by omega) (by omega)).trans (h7 j hj), fun j hj => (hs _ _ (by omega) (by omega)).trans (h8 j hj), h9⟩
theorem accall_S (u p : Nat) (b c e v : Int32) (S : zS) : fn_Ac_call (u + 1) p b c e v S = fn_Ac_call_o (fun b0 b1 b2 b3 b4 S => fn_Ac_body u b0 b1 b2 b3 b4 S) (fun b0 b1 b2 b3 b4 S => fn_Ac_call u b0 b1 b2 b3 b4 S) p b c e v S := by
  unfold fn_Ac_call fn_Ac_body
  rw [lpS]
  rfl
theorem acbody_S (u p : Nat) (b c e v : Int32) (S : zS) : fn_Ac_body (u + 1) p b c e v S = fn_Ac_body_o (fun b0 b1 b2 b3 b4 S => fn_Ac_body u b0 b1 b2 b3 b4 S) (fun b0 b1 b2 b3 b4 S => fn_Ac_call u b0 b1 b2 b3 b4 S) p b c e v S := by
  unfold fn_Ac_call fn_Ac_body
  rw [lpS]
  rfl
theorem c_bd (h : BO (f 2)) (ha : act < 3) (hk : k < 7) : f 2 (k * 3 + act) = nI (bdN act k) := (h _ (by omega)).trans (bd_f act ha k hk).1
theorem c_ab (h : KA (f 1)) (hk : k < 7) (h1 : 1 ≤ k) : f 1 k = nI (abN k) := (h _ hk).trans ((ab_f k hk).2 h1)
theorem zs12 : gT (mk f l R) 1 1 = true ∧ gT (mk f l R) 2 1 = true ∧ (zT (mk f l R) 1).2 = 7 ∧ (zT (mk f l R) 2).2 = 21 := ⟨rfl, rfl, rfl, rfl⟩
/-- the body's number is found -/
theorem c_rs {o0 o1 : Nat → Int32 → Int32 → Int32 → Int32 → zS → Option (Int32 × zS)} {dv : Int32} (h1 : KA (f 1)) (h2 : BO (f 2)) (ha : act < 3) : ∀ (d k i F : Nat), k < 7 → ¬ bdN act (rsN act d k) = 0 → i + d ≤ 7 → d < F →
    lp (σ := Nat × Int32 × Int32 × Int32 × Int32 × Int32 × zS) (fun k s => fn_Ac_call_L6 o0 o1 s.1 s.2.1 s.2.2.1 s.2.2.2.1 s.2.2.2.2.1 s.2.2.2.2.2.1 s.2.2.2.2.2.2 (fun (a0 : Nat) (a1 : Int32) (a3 : Int32) (a4 : Int32) (a5 : Int32) (a6 : Int32) (S : zS) => k (a0, a1, a3, a4, a5, a6, S))) F (32, nI act, x, dv, nI k, nI i, mk f l R) = fn_Ac_call_L48 o0 o1 32 (nI act) x dv (nI (rsN act d k)) (mk f l R)
  | 0, k, i, F, hk, hb, hi, hF => by
    obtain ⟨F, rfl⟩ : ∃ G, F = G + 1 := ⟨F - 1, by omega⟩
    obtain ⟨y1, y2, y3, y4⟩ := zs12 (f := f) (l := l) (R := R)
    have eb := c_bd h2 ha hk
    have b72 := (bd_f act ha k hk).2.2
    have hb' : ¬ bdN act k = 0 := hb
    have ek := c_kind_in (S := mk f l R) hk
    rw [lpS]
    show fn_Ac_call_L6 o0 o1 32 (nI act) x dv (nI k) (nI i) (mk f l R) _ = fn_Ac_call_L48 o0 o1 32 (nI act) x dv (nI k) (mk f l R)
    by_cases c : 7 ≤ i
    · simp (disch := omega) only [wbr_T, wbr_F, wgd_T, wbq, wbv, wnm, zI_mk, zL_mk, uI_mk, uL_mk, kI_mk, kL_mk, nI_add, nI_mul, nI_sub, nI_div, nI_clamp, wgB, wgP, nI_leI, nI_ltI, nI_eq, nI_eqm, nI_eqm5, wdT, wdF, wd1, wd0, li_0, li_1, li_2, li_3, li_4, li_5, li_6, li_7, li_8, li_9, li_10, li_11, li_12, li_13, li_14, li_15, li_16, li_17, li_18, li_19, li_20, li_21, li_22, li_23, li_24, li_25, li_26, li_27, li_28, li_29, li_30, li_31, li_32, li_33, li_38, li_40, li_41, li_48, li_57, li_58, li_59, li_60, li_61, li_62, li_63, li_68, li_69, li_70, li_71, li_72, li_73, li_74, li_75, li_83, li_87, li_88, li_89, li_99, li_100, li_104, li_105, li_106, li_107, li_108, li_109, li_110, li_111, li_112, li_113, li_114, li_115, li_116, li_117, li_118, li_119, li_120, li_121, li_124, li_127, li_128, li_200, li_4095, li_4096, li_9999, fn_Ac_call_L6]
    · simp (disch := omega) only [wbr_T, wbr_F, wgd_T, wbq, wbv, wnm, zI_mk, zL_mk, uI_mk, uL_mk, kI_mk, kL_mk, nI_add, nI_mul, nI_sub, nI_div, nI_clamp, wgB, wgP, nI_leI, nI_ltI, nI_eq, nI_eqm, nI_eqm5, wdT, wdF, wd1, wd0, li_0, li_1, li_2, li_3, li_4, li_5, li_6, li_7, li_8, li_9, li_10, li_11, li_12, li_13, li_14, li_15, li_16, li_17, li_18, li_19, li_20, li_21, li_22, li_23, li_24, li_25, li_26, li_27, li_28, li_29, li_30, li_31, li_32, li_33, li_38, li_40, li_41, li_48, li_57, li_58, li_59, li_60, li_61, li_62, li_63, li_68, li_69, li_70, li_71, li_72, li_73, li_74, li_75, li_83, li_87, li_88, li_89, li_99, li_100, li_104, li_105, li_106, li_107, li_108, li_109, li_110, li_111, li_112, li_113, li_114, li_115, li_116, li_117, li_118, li_119, li_120, li_121, li_124, li_127, li_128, li_200, li_4095, li_4096, li_9999, fn_Ac_call_L6, ek, eb, y2, y4]
  | d + 1, k, i, F, hk, hb, hi, hF => by
    obtain ⟨F, rfl⟩ : ∃ G, F = G + 1 := ⟨F - 1, by omega⟩
    obtain ⟨y1, y2, y3, y4⟩ := zs12 (f := f) (l := l) (R := R)
    have eb := c_bd h2 ha hk
    have b72 := (bd_f act ha k hk).2.2
    have ek := c_kind_in (S := mk f l R) hk
    rw [lpS]
    by_cases c : bdN act k = 0
    · have hr : rsN act (d + 1) k = rsN act d (abN k) := if_pos c
      rw [hr] at hb ⊢
      have k1 := (bd_f act ha k hk).2.1 c
      have ea := c_ab h1 hk k1
      have ih := c_rs (o0 := o0) (o1 := o1) (dv := dv) h1 h2 ha d (abN k) (i + 1) F (ab_f k hk).1 hb (by omega) (by omega)
      rw [c] at eb
      show fn_Ac_call_L6 o0 o1 32 (nI act) x dv (nI k) (nI i) (mk f l R) _ = _
      have step : ∀ K : Nat → Int32 → Int32 → Int32 → Int32 → Int32 → zS → Option (Int32 × zS), fn_Ac_call_L6 o0 o1 32 (nI act) x dv (nI k) (nI i) (mk f l R) K = K 32 (nI act) x dv (nI (abN k)) (nI (i + 1)) (mk f l R) := fun K => by
        simp (disch := omega) only [wbr_T, wbr_F, wgd_T, wbq, wbv, wnm, zI_mk, zL_mk, uI_mk, uL_mk, kI_mk, kL_mk, nI_add, nI_mul, nI_sub, nI_div, nI_clamp, wgB, wgP, nI_leI, nI_ltI, nI_eq, nI_eqm, nI_eqm5, wdT, wdF, wd1, wd0, li_0, li_1, li_2, li_3, li_4, li_5, li_6, li_7, li_8, li_9, li_10, li_11, li_12, li_13, li_14, li_15, li_16, li_17, li_18, li_19, li_20, li_21, li_22, li_23, li_24, li_25, li_26, li_27, li_28, li_29, li_30, li_31, li_32, li_33, li_38, li_40, li_41, li_48, li_57, li_58, li_59, li_60, li_61, li_62, li_63, li_68, li_69, li_70, li_71, li_72, li_73, li_74, li_75, li_83, li_87, li_88, li_89, li_99, li_100, li_104, li_105, li_106, li_107, li_108, li_109, li_110, li_111, li_112, li_113, li_114, li_115, li_116, li_117, li_118, li_119, li_120, li_121, li_124, li_127, li_128, li_200, li_4095, li_4096, li_9999, fn_Ac_call_L6, ek, eb, ea, y1, y2, y3, y4]
      rw [step]
      exact ih
    · have hr : rsN act (d + 1) k = k := if_neg c
      rw [hr]
      show fn_Ac_call_L6 o0 o1 32 (nI act) x dv (nI k) (nI i) (mk f l R) _ = _
      simp (disch := omega) only [wbr_T, wbr_F, wgd_T, wbq, wbv, wnm, zI_mk, zL_mk, uI_mk, uL_mk, kI_mk, kL_mk, nI_add, nI_mul, nI_sub, nI_div, nI_clamp, wgB, wgP, nI_leI, nI_ltI, nI_eq, nI_eqm, nI_eqm5, wdT, wdF, wd1, wd0, li_0, li_1, li_2, li_3, li_4, li_5, li_6, li_7, li_8, li_9, li_10, li_11, li_12, li_13, li_14, li_15, li_16, li_17, li_18, li_19, li_20, li_21, li_22, li_23, li_24, li_25, li_26, li_27, li_28, li_29, li_30, li_31, li_32, li_33, li_38, li_40, li_41, li_48, li_57, li_58, li_59, li_60, li_61, li_62, li_63, li_68, li_69, li_70, li_71, li_72, li_73, li_74, li_75, li_83, li_87, li_88, li_89, li_99, li_100, li_104, li_105, li_106, li_107, li_108, li_109, li_110, li_111, li_112, li_113, li_114, li_115, li_116, li_117, li_118, li_119, li_120, li_121, li_124, li_127, li_128, li_200, li_4095, li_4096, li_9999, fn_Ac_call_L6, ek, eb, y2, y4]
/-- the body begins: its number is kept -/
theorem c_begin {u : Nat} (hA : AC q own nu vv f R) (hT : TC f s) (hs : s.1 < 1000) (ha : act < 3) (hk : k < 7) (hd : dp ≤ 40) : ∃ f1, fn_Ac_call (u + 1) 32 (nI act) (nI k) x (nI dp) (mk f l R) = (bq (fn_Ac_body u 32 (nI (bdN act (rsN act 7 k))) (f 1 (rsN act 7 k)) x (nI (dp + 1)) (mk f1 l R)) fun r S => some (r, S)) ∧ TC f1 (pushT s (bdN act (rsN act 7 k))) ∧ aF f f1 := by
  obtain ⟨h1, h2, h3, h4, h5⟩ := hA
  obtain ⟨r1, r2, r3, r4⟩ := rs_f act ha k hk
  have e := c_rs (l := l) (R := R) (x := x) (dv := nI dp) (o0 := fun b0 b1 b2 b3 b4 S => fn_Ac_body u b0 b1 b2 b3 b4 S) (o1 := fun b0 b1 b2 b3 b4 S => fn_Ac_call u b0 b1 b2 b3 b4 S) h3 h4 ha 7 k 0 FU hk r2 (by decide) (by decide)
  rw [accall_S]
  generalize rsN act 7 k = m at *
  have ek := c_kind_in (S := mk f l R) r1
  have eb := c_bd h4 ha r1
  obtain ⟨t1, t2⟩ := hT
  have zz : ∀ f : Nat → Nat → Int32, gT (mk f l R) 1 1 = true ∧ gT (mk f l R) 2 1 = true ∧ (zT (mk f l R) 1).2 = 7 ∧ (zT (mk f l R) 2).2 = 21 := fun f => zs12
  have st : fn_Ac_call_o (fun b0 b1 b2 b3 b4 S => fn_Ac_body u b0 b1 b2 b3 b4 S) (fun b0 b1 b2 b3 b4 S => fn_Ac_call u b0 b1 b2 b3 b4 S) 32 (nI act) (nI k) x (nI dp) (mk f l R) = fn_Ac_call_L48 (fun b0 b1 b2 b3 b4 S => fn_Ac_body u b0 b1 b2 b3 b4 S) (fun b0 b1 b2 b3 b4 S => fn_Ac_call u b0 b1 b2 b3 b4 S) 32 (nI act) x (nI dp) (nI m) (mk f l R) := by
    unfold fn_Ac_call_o
    exact e
  rw [st]
  by_cases c : s.1 < 20
  · refine ⟨up (up f 33 s.1 (nI (bdN act m))) 32 1 (nI (s.1 + 1)), ?_, ⟨up_eq, fun j => ?_⟩, fun p j q1 q2 => ?_⟩
    · have v1 := (zz (up (up f 33 s.1 (nI (bdN act m))) 32 1 (nI (s.1 + 1)))).1
      have v3 := (zz (up (up f 33 s.1 (nI (bdN act m))) 32 1 (nI (s.1 + 1)))).2.2.1
      have w2 := (zz f).2.1
      have w4 := (zz f).2.2.2
      simp (disch := omega) only [wbr_T, wbr_F, wgd_T, wbq, wbv, wnm, zI_mk, zL_mk, uI_mk, uL_mk, kI_mk, kL_mk, nI_add, nI_mul, nI_sub, nI_div, nI_clamp, wgB, wgP, nI_leI, nI_ltI, nI_eq, nI_eqm, nI_eqm5, wdT, wdF, wd1, wd0, li_0, li_1, li_2, li_3, li_4, li_5, li_6, li_7, li_8, li_9, li_10, li_11, li_12, li_13, li_14, li_15, li_16, li_17, li_18, li_19, li_20, li_21, li_22, li_23, li_24, li_25, li_26, li_27, li_28, li_29, li_30, li_31, li_32, li_33, li_38, li_40, li_41, li_48, li_57, li_58, li_59, li_60, li_61, li_62, li_63, li_68, li_69, li_70, li_71, li_72, li_73, li_74, li_75, li_83, li_87, li_88, li_89, li_99, li_100, li_104, li_105, li_106, li_107, li_108, li_109, li_110, li_111, li_112, li_113, li_114, li_115, li_116, li_117, li_118, li_119, li_120, li_121, li_124, li_127, li_128, li_200, li_4095, li_4096, li_9999, fn_Ac_call_L48, fn_Ac_call_L97, ek, eb, t1, up_np, v1, v3, w2, w4, gT_mk_32, zR_mk_32_0, gT_mk_33, zT_mk_33]
    · rw [up_np (by decide)]
      show _ = (if s.1 < 20 then fun j => if j = s.1 then nI (bdN act m) else s.2 j else s.2) j
      rw [if_pos c]
      show _ = if j = s.1 then nI (bdN act m) else s.2 j
      by_cases ej : j = s.1
      · rw [if_pos ej, ej, up_eq]
      · rw [if_neg ej, up_nj ej]
        exact t2 j
    · by_cases e1 : p = 32
      · subst e1
        rw [up_nj (by omega), up_np (by decide)]
      · rw [up_np e1, up_np q1]
  · refine ⟨up f 32 1 (nI (s.1 + 1)), ?_, ⟨up_eq, fun j => ?_⟩, fun p j q1 q2 => ?_⟩
    · have v1 := (zz (up f 32 1 (nI (s.1 + 1)))).1
      have v3 := (zz (up f 32 1 (nI (s.1 + 1)))).2.2.1
      have w2 := (zz f).2.1
      have w4 := (zz f).2.2.2
      simp (disch := omega) only [wbr_T, wbr_F, wgd_T, wbq, wbv, wnm, zI_mk, zL_mk, uI_mk, uL_mk, kI_mk, kL_mk, nI_add, nI_mul, nI_sub, nI_div, nI_clamp, wgB, wgP, nI_leI, nI_ltI, nI_eq, nI_eqm, nI_eqm5, wdT, wdF, wd1, wd0, li_0, li_1, li_2, li_3, li_4, li_5, li_6, li_7, li_8, li_9, li_10, li_11, li_12, li_13, li_14, li_15, li_16, li_17, li_18, li_19, li_20, li_21, li_22, li_23, li_24, li_25, li_26, li_27, li_28, li_29, li_30, li_31, li_32, li_33, li_38, li_40, li_41, li_48, li_57, li_58, li_59, li_60, li_61, li_62, li_63, li_68, li_69, li_70, li_71, li_72, li_73, li_74, li_75, li_83, li_87, li_88, li_89, li_99, li_100, li_104, li_105, li_106, li_107, li_108, li_109, li_110, li_111, li_112, li_113, li_114, li_115, li_116, li_117, li_118, li_119, li_120, li_121, li_124, li_127, li_128, li_200, li_4095, li_4096, li_9999, fn_Ac_call_L48, fn_Ac_call_L97, ek, eb, t1, up_np, v1, v3, w2, w4, gT_mk_32]
    · rw [up_np (by decide)]
      show _ = (if s.1 < 20 then fun j => if j = s.1 then nI (bdN act m) else s.2 j else s.2) j
      rw [if_neg c]
      exact t2 j
    · by_cases e1 : p = 32
      · subst e1
        exact up_nj (by omega)
      · exact up_np e1
theorem c_call : ∀ (d act k dp u : Nat) (x r : Int32) (tr : List Nat) (f : Nat → Nat → Int32) (s : trS), acV own nu vv d act k x = some (r, tr) → act < 3 → k < 7 → dp + d ≤ 41 → 2 * d < u → s.1 + tr.length < 1000 → AC q own nu vv f R → TC f s →
    ∃ f', fn_Ac_call u 32 (nI act) (nI k) x (nI dp) (mk f l R) = some (r, mk f' l R) ∧ TC f' (tr.foldl pushT s) ∧ aF f f'
  | 0, act, k, dp, u, x, r, tr, f, s, h, _, _, _, _, _, _, _ => by cases h
  | d + 1, act, k, dp, u, x, r, tr, f, s, h, ha, hk, hd, hu, hl, hA, hT => by
    obtain ⟨u, rfl⟩ : ∃ v, u = v + 2 := ⟨u - 2, by omega⟩
    obtain ⟨f1, e1, hT1, s1⟩ := c_begin (l := l) (x := x) (u := u + 1) hA hT (by omega) ha hk (show dp ≤ 40 by omega)
    have hA1 := AC_F hA s1
    obtain ⟨⟨a1, a2, a3⟩, ⟨a4, a5, a6⟩, a7, a8, ho⟩ := id hA1
    obtain ⟨r1, r2, r3, r4⟩ := rs_f act ha k hk
    have h' : acS (fun act k x => acV own nu vv d act k x) own nu vv (bdN act (rsN act 7 k)) (abN (rsN act 7 k)) x = some (r, tr) := h
    have eab : 1 ≤ rsN act 7 k → f 1 (rsN act 7 k) = nI (abN (rsN act 7 k)) := fun q => c_ab hA.2.2.1 r1 q
    have hab := (ab_f _ r1).1
    rw [e1, acbody_S]
    have g1 := fun f => a3 f l
    have zr : ∀ f : Nat → Nat → Int32, zR (mk f l R) 32 2 = q := fun f => a1
    -- what the bodies call
    have ih := fun (f : Nat → Nat → Int32) (s : trS) (act k : Nat) (x r : Int32) (tr : List Nat) (h : acV own nu vv d act k x = some (r, tr)) (ha : act < 3) (hk : k < 7) (hl : s.1 + tr.length < 1000) (hA : AC q own nu vv f R) (hT : TC f s) => c_call d act k (dp + 1) u x r tr f s h ha hk (by omega) (by omega) hl hA hT
    generalize bdN act (rsN act 7 k) = b at *
    generalize f 1 (rsN act 7 k) = ab0 at *
    generalize abN (rsN act 7 k) = ab at *
    have fb := a4
    have fo := a5
    have fv := a6
    have one : ∀ (act k : Nat) (x r1 : Int32) (t1 : List Nat), acV own nu vv d act k x = some (r1, t1) → tr = b :: t1 → act < 3 → k < 7 → ∃ f2, fn_Ac_call u 32 (nI act) (nI k) x (nI (dp + 1)) (mk f1 l R) = some (r1, mk f2 l R) ∧ TC f2 (tr.foldl pushT s) ∧ aF f f2 ∧ f2 q 1 = nI nu ∧ f2 q 2 = nI own ∧ f2 q 3 = nI vv := by
      intro act k x r1 t1 q1 q2 q3 q4
      subst q2
      have ll : (b :: t1).length = t1.length + 1 := rfl
      obtain ⟨f2, e2, hT2, s2⟩ := ih f1 (pushT s b) act k x r1 t1 q1 q3 q4 (by show s.1 + 1 + t1.length < 1000; omega) hA1 hT1
      obtain ⟨-, ⟨b4, b5, b6⟩, -⟩ := AC_F hA1 s2
      exact ⟨f2, e2, hT2, aF_t s1 s2, b4, b5, b6⟩
    have two : ∀ (act k act2 k2 : Nat) (x x2 r1 r2 : Int32) (t1 t2 : List Nat), acV own nu vv d act k x = some (r1, t1) → acV own nu vv d act2 k2 x2 = some (r2, t2) → tr = b :: (t1 ++ t2) → act < 3 → k < 7 → act2 < 3 → k2 < 7 → ∃ f2 f3, fn_Ac_call u 32 (nI act) (nI k) x (nI (dp + 1)) (mk f1 l R) = some (r1, mk f2 l R) ∧ fn_Ac_call u 32 (nI act2) (nI k2) x2 (nI (dp + 1)) (mk f2 l R) = some (r2, mk f3 l R) ∧ TC f3 (tr.foldl pushT s) ∧ aF f f3 := by
      intro act k act2 k2 x x2 r1 r2 t1 t2 p1 p2 q2 q3 q4 q5 q6
      subst q2
      have ll : (b :: (t1 ++ t2)).length = t1.length + t2.length + 1 := by rw [List.length_cons, List.length_append]
      obtain ⟨f2, e2, hT2, s2⟩ := ih f1 (pushT s b) act k x r1 t1 p1 q3 q4 (by show s.1 + 1 + t1.length < 1000; omega) hA1 hT1
      have f1l := fold_1 t1 (pushT s b)
      obtain ⟨f3, e3, hT3, s3⟩ := ih f2 (t1.foldl pushT (pushT s b)) act2 k2 x2 r2 t2 p2 q5 q6 (by rw [f1l]; show s.1 + 1 + t1.length + t2.length < 1000; omega) (AC_F hA1 s2) hT2
      rw [← List.foldl_append] at hT3
      exact ⟨f2, f3, e2, e3, hT3, aF_t s1 (aF_t s2 s3)⟩
    rcases r4 with rfl | rfl | rfl | rfl | rfl | rfl | rfl | rfl | rfl | rfl | rfl
    · have hh : some (x + nI nu, [10]) = some (r, tr) := h'
      have e2 := Option.some.inj hh
      have er : x + nI nu = r := congrArg (fun p : Int32 × List Nat => p.1) e2
      have et : [10] = tr := congrArg (fun p : Int32 × List Nat => p.2) e2
      rw [← er, ← et]
      refine ⟨f1, ?_, hT1, s1⟩
      simp (disch := omega) only [wbr_T, wbr_F, wgd_T, wbq, wbv, wnm, zI_mk, zL_mk, uI_mk, uL_mk, kI_mk, kL_mk, nI_add, nI_mul, nI_sub, nI_div, nI_clamp, wgB, wgP, nI_leI, nI_ltI, nI_eq, nI_eqm, nI_eqm5, wdT, wdF, wd1, wd0, li_0, li_1, li_2, li_3, li_4, li_5, li_6, li_7, li_8, li_9, li_10, li_11, li_12, li_13, li_14, li_15, li_16, li_17, li_18, li_19, li_20, li_21, li_22, li_23, li_24, li_25, li_26, li_27, li_28, li_29, li_30, li_31, li_32, li_33, li_38, li_40, li_41, li_48, li_57, li_58, li_59, li_60, li_61, li_62, li_63, li_68, li_69, li_70, li_71, li_72, li_73, li_74, li_75, li_83, li_87, li_88, li_89, li_99, li_100, li_104, li_105, li_106, li_107, li_108, li_109, li_110, li_111, li_112, li_113, li_114, li_115, li_116, li_117, li_118, li_119, li_120, li_121, li_124, li_127, li_128, li_200, li_4095, li_4096, li_9999, fn_Ac_body_o, li_50, li_51, zr, g1, fb, gT_mk_32]
    · have hh : ac1 (acV own nu vv d 0 own x) 11 (fun r => r - nI vv) = some (r, tr) := h'
      obtain ⟨p1, t1, p2, er, et⟩ := ac1_s hh
      obtain ⟨f2, e2, hT2, s2, b4, b5, b6⟩ := one 0 own x p1 t1 p2 et (by decide) ho
      refine ⟨f2, ?_, hT2, s2⟩
      simp (disch := omega) only [wbr_T, wbr_F, wgd_T, wbq, wbv, wnm, zI_mk, zL_mk, uI_mk, uL_mk, kI_mk, kL_mk, nI_add, nI_mul, nI_sub, nI_div, nI_clamp, wgB, wgP, nI_leI, nI_ltI, nI_eq, nI_eqm, nI_eqm5, wdT, wdF, wd1, wd0, li_0, li_1, li_2, li_3, li_4, li_5, li_6, li_7, li_8, li_9, li_10, li_11, li_12, li_13, li_14, li_15, li_16, li_17, li_18, li_19, li_20, li_21, li_22, li_23, li_24, li_25, li_26, li_27, li_28, li_29, li_30, li_31, li_32, li_33, li_38, li_40, li_41, li_48, li_57, li_58, li_59, li_60, li_61, li_62, li_63, li_68, li_69, li_70, li_71, li_72, li_73, li_74, li_75, li_83, li_87, li_88, li_89, li_99, li_100, li_104, li_105, li_106, li_107, li_108, li_109, li_110, li_111, li_112, li_113, li_114, li_115, li_116, li_117, li_118, li_119, li_120, li_121, li_124, li_127, li_128, li_200, li_4095, li_4096, li_9999, fn_Ac_body_o, li_50, li_51, zr, g1, fo, e2, b6, er, gT_mk_32]
    · have hh : ac1 (acV own nu vv d 1 own x) 12 (fun r => r * nI 2) = some (r, tr) := h'
      obtain ⟨p1, t1, p2, er, et⟩ := ac1_s hh
      obtain ⟨f2, e2, hT2, s2, b4, b5, b6⟩ := one 1 own x p1 t1 p2 et (by decide) ho
      refine ⟨f2, ?_, hT2, s2⟩
      simp (disch := omega) only [wbr_T, wbr_F, wgd_T, wbq, wbv, wnm, zI_mk, zL_mk, uI_mk, uL_mk, kI_mk, kL_mk, nI_add, nI_mul, nI_sub, nI_div, nI_clamp, wgB, wgP, nI_leI, nI_ltI, nI_eq, nI_eqm, nI_eqm5, wdT, wdF, wd1, wd0, li_0, li_1, li_2, li_3, li_4, li_5, li_6, li_7, li_8, li_9, li_10, li_11, li_12, li_13, li_14, li_15, li_16, li_17, li_18, li_19, li_20, li_21, li_22, li_23, li_24, li_25, li_26, li_27, li_28, li_29, li_30, li_31, li_32, li_33, li_38, li_40, li_41, li_48, li_57, li_58, li_59, li_60, li_61, li_62, li_63, li_68, li_69, li_70, li_71, li_72, li_73, li_74, li_75, li_83, li_87, li_88, li_89, li_99, li_100, li_104, li_105, li_106, li_107, li_108, li_109, li_110, li_111, li_112, li_113, li_114, li_115, li_116, li_117, li_118, li_119, li_120, li_121, li_124, li_127, li_128, li_200, li_4095, li_4096, li_9999, fn_Ac_body_o, li_50, li_51, zr, g1, fo, e2, er, gT_mk_32]
    · have hh : ac1 (acV own nu vv d 1 ab x) 20 (fun r => r ^^^ nI 6) = some (r, tr) := h'
      obtain ⟨p1, t1, p2, er, et⟩ := ac1_s hh
      obtain ⟨f2, e2, hT2, s2, b4, b5, b6⟩ := one 1 ab x p1 t1 p2 et (by decide) hab
      have ea := eab (by omega)
      refine ⟨f2, ?_, hT2, s2⟩
      simp (disch := omega) only [wbr_T, wbr_F, wgd_T, wbq, wbv, wnm, zI_mk, zL_mk, uI_mk, uL_mk, kI_mk, kL_mk, nI_add, nI_mul, nI_sub, nI_div, nI_clamp, wgB, wgP, nI_leI, nI_ltI, nI_eq, nI_eqm, nI_eqm5, wdT, wdF, wd1, wd0, li_0, li_1, li_2, li_3, li_4, li_5, li_6, li_7, li_8, li_9, li_10, li_11, li_12, li_13, li_14, li_15, li_16, li_17, li_18, li_19, li_20, li_21, li_22, li_23, li_24, li_25, li_26, li_27, li_28, li_29, li_30, li_31, li_32, li_33, li_38, li_40, li_41, li_48, li_57, li_58, li_59, li_60, li_61, li_62, li_63, li_68, li_69, li_70, li_71, li_72, li_73, li_74, li_75, li_83, li_87, li_88, li_89, li_99, li_100, li_104, li_105, li_106, li_107, li_108, li_109, li_110, li_111, li_112, li_113, li_114, li_115, li_116, li_117, li_118, li_119, li_120, li_121, li_124, li_127, li_128, li_200, li_4095, li_4096, li_9999, fn_Ac_body_o, li_50, li_51, zr, g1, ea, e2, er, gT_mk_32]
    · have hh : ac1 (acV own nu vv d 0 ab (x * nI 3)) 30 (fun r => r) = some (r, tr) := h'
      obtain ⟨p1, t1, p2, er, et⟩ := ac1_s hh
      obtain ⟨f2, e2, hT2, s2, b4, b5, b6⟩ := one 0 ab (x * nI 3) p1 t1 p2 et (by decide) hab
      have ea := eab (by omega)
      refine ⟨f2, ?_, hT2, s2⟩
      simp (disch := omega) only [wbr_T, wbr_F, wgd_T, wbq, wbv, wnm, zI_mk, zL_mk, uI_mk, uL_mk, kI_mk, kL_mk, nI_add, nI_mul, nI_sub, nI_div, nI_clamp, wgB, wgP, nI_leI, nI_ltI, nI_eq, nI_eqm, nI_eqm5, wdT, wdF, wd1, wd0, li_0, li_1, li_2, li_3, li_4, li_5, li_6, li_7, li_8, li_9, li_10, li_11, li_12, li_13, li_14, li_15, li_16, li_17, li_18, li_19, li_20, li_21, li_22, li_23, li_24, li_25, li_26, li_27, li_28, li_29, li_30, li_31, li_32, li_33, li_38, li_40, li_41, li_48, li_57, li_58, li_59, li_60, li_61, li_62, li_63, li_68, li_69, li_70, li_71, li_72, li_73, li_74, li_75, li_83, li_87, li_88, li_89, li_99, li_100, li_104, li_105, li_106, li_107, li_108, li_109, li_110, li_111, li_112, li_113, li_114, li_115, li_116, li_117, li_118, li_119, li_120, li_121, li_124, li_127, li_128, li_200, li_4095, li_4096, li_9999, fn_Ac_body_o, li_50, li_51, zr, g1, ea, e2, er, gT_mk_32]
    · have hh : ac2 (acV own nu vv d 2 ab x) (acV own nu vv d 1 own (nI 1)) 40 = some (r, tr) := h'
      obtain ⟨p1, t1, p3, t3, p2, p4, er, et⟩ := ac2_s hh
      obtain ⟨f2, f3, e2, e3, hT2, s2⟩ := two 2 ab 1 own x (nI 1) p1 p3 t1 t3 p2 p4 et (by decide) hab (by decide) ho
      have ea := eab (by omega)
      refine ⟨f3, ?_, hT2, s2⟩
      simp (disch := omega) only [wbr_T, wbr_F, wgd_T, wbq, wbv, wnm, zI_mk, zL_mk, uI_mk, uL_mk, kI_mk, kL_mk, nI_add, nI_mul, nI_sub, nI_div, nI_clamp, wgB, wgP, nI_leI, nI_ltI, nI_eq, nI_eqm, nI_eqm5, wdT, wdF, wd1, wd0, li_0, li_1, li_2, li_3, li_4, li_5, li_6, li_7, li_8, li_9, li_10, li_11, li_12, li_13, li_14, li_15, li_16, li_17, li_18, li_19, li_20, li_21, li_22, li_23, li_24, li_25, li_26, li_27, li_28, li_29, li_30, li_31, li_32, li_33, li_38, li_40, li_41, li_48, li_57, li_58, li_59, li_60, li_61, li_62, li_63, li_68, li_69, li_70, li_71, li_72, li_73, li_74, li_75, li_83, li_87, li_88, li_89, li_99, li_100, li_104, li_105, li_106, li_107, li_108, li_109, li_110, li_111, li_112, li_113, li_114, li_115, li_116, li_117, li_118, li_119, li_120, li_121, li_124, li_127, li_128, li_200, li_4095, li_4096, li_9999, fn_Ac_body_o, li_50, li_51, zr, g1, ea, fo, e2, e3, er, gT_mk_32]
    · have hh : ac1 (acV own nu vv d 0 ab x) 50 (fun r => -r) = some (r, tr) := h'
      obtain ⟨p1, t1, p2, er, et⟩ := ac1_s hh
      obtain ⟨f2, e2, hT2, s2, b4, b5, b6⟩ := one 0 ab x p1 t1 p2 et (by decide) hab
      have ea := eab (by omega)
      refine ⟨f2, ?_, hT2, s2⟩
      simp (disch := omega) only [wbr_T, wbr_F, wgd_T, wbq, wbv, wnm, zI_mk, zL_mk, uI_mk, uL_mk, kI_mk, kL_mk, nI_add, nI_mul, nI_sub, nI_div, nI_clamp, wgB, wgP, nI_leI, nI_ltI, nI_eq, nI_eqm, nI_eqm5, wdT, wdF, wd1, wd0, li_0, li_1, li_2, li_3, li_4, li_5, li_6, li_7, li_8, li_9, li_10, li_11, li_12, li_13, li_14, li_15, li_16, li_17, li_18, li_19, li_20, li_21, li_22, li_23, li_24, li_25, li_26, li_27, li_28, li_29, li_30, li_31, li_32, li_33, li_38, li_40, li_41, li_48, li_57, li_58, li_59, li_60, li_61, li_62, li_63, li_68, li_69, li_70, li_71, li_72, li_73, li_74, li_75, li_83, li_87, li_88, li_89, li_99, li_100, li_104, li_105, li_106, li_107, li_108, li_109, li_110, li_111, li_112, li_113, li_114, li_115, li_116, li_117, li_118, li_119, li_120, li_121, li_124, li_127, li_128, li_200, li_4095, li_4096, li_9999, fn_Ac_body_o, li_50, li_51, zr, g1, ea, e2, er, gT_mk_32]
    · have hh : ac1 (acV own nu vv d 1 ab (x + nI 1)) 51 (fun r => r) = some (r, tr) := h'
      obtain ⟨p1, t1, p2, er, et⟩ := ac1_s hh
      obtain ⟨f2, e2, hT2, s2, b4, b5, b6⟩ := one 1 ab (x + nI 1) p1 t1 p2 et (by decide) hab
      have ea := eab (by omega)
      refine ⟨f2, ?_, hT2, s2⟩
      simp (disch := omega) only [wbr_T, wbr_F, wgd_T, wbq, wbv, wnm, zI_mk, zL_mk, uI_mk, uL_mk, kI_mk, kL_mk, nI_add, nI_mul, nI_sub, nI_div, nI_clamp, wgB, wgP, nI_leI, nI_ltI, nI_eq, nI_eqm, nI_eqm5, wdT, wdF, wd1, wd0, li_0, li_1, li_2, li_3, li_4, li_5, li_6, li_7, li_8, li_9, li_10, li_11, li_12, li_13, li_14, li_15, li_16, li_17, li_18, li_19, li_20, li_21, li_22, li_23, li_24, li_25, li_26, li_27, li_28, li_29, li_30, li_31, li_32, li_33, li_38, li_40, li_41, li_48, li_57, li_58, li_59, li_60, li_61, li_62, li_63, li_68, li_69, li_70, li_71, li_72, li_73, li_74, li_75, li_83, li_87, li_88, li_89, li_99, li_100, li_104, li_105, li_106, li_107, li_108, li_109, li_110, li_111, li_112, li_113, li_114, li_115, li_116, li_117, li_118, li_119, li_120, li_121, li_124, li_127, li_128, li_200, li_4095, li_4096, li_9999, fn_Ac_body_o, li_50, li_51, zr, g1, ea, e2, er, gT_mk_32]
    · have hh : ac1 (acV own nu vv d 2 ab (x - nI nu)) 60 (fun r => r) = some (r, tr) := h'
      obtain ⟨p1, t1, p2, er, et⟩ := ac1_s hh
      obtain ⟨f2, e2, hT2, s2, b4, b5, b6⟩ := one 2 ab (x - nI nu) p1 t1 p2 et (by decide) hab
      have ea := eab (by omega)
      refine ⟨f2, ?_, hT2, s2⟩
      simp (disch := omega) only [wbr_T, wbr_F, wgd_T, wbq, wbv, wnm, zI_mk, zL_mk, uI_mk, uL_mk, kI_mk, kL_mk, nI_add, nI_mul, nI_sub, nI_div, nI_clamp, wgB, wgP, nI_leI, nI_ltI, nI_eq, nI_eqm, nI_eqm5, wdT, wdF, wd1, wd0, li_0, li_1, li_2, li_3, li_4, li_5, li_6, li_7, li_8, li_9, li_10, li_11, li_12, li_13, li_14, li_15, li_16, li_17, li_18, li_19, li_20, li_21, li_22, li_23, li_24, li_25, li_26, li_27, li_28, li_29, li_30, li_31, li_32, li_33, li_38, li_40, li_41, li_48, li_57, li_58, li_59, li_60, li_61, li_62, li_63, li_68, li_69, li_70, li_71, li_72, li_73, li_74, li_75, li_83, li_87, li_88, li_89, li_99, li_100, li_104, li_105, li_106, li_107, li_108, li_109, li_110, li_111, li_112, li_113, li_114, li_115, li_116, li_117, li_118, li_119, li_120, li_121, li_124, li_127, li_128, li_200, li_4095, li_4096, li_9999, fn_Ac_body_o, li_50, li_51, zr, g1, ea, fb, e2, er, gT_mk_32]
    · have hh : ac2 (acV own nu vv d 1 ab x) (acV own nu vv d 0 ab (nI 2)) 70 = some (r, tr) := h'
      obtain ⟨p1, t1, p3, t3, p2, p4, er, et⟩ := ac2_s hh
      obtain ⟨f2, f3, e2, e3, hT2, s2⟩ := two 1 ab 0 ab x (nI 2) p1 p3 t1 t3 p2 p4 et (by decide) hab (by decide) hab
      have ea := eab (by omega)
      refine ⟨f3, ?_, hT2, s2⟩
      simp (disch := omega) only [wbr_T, wbr_F, wgd_T, wbq, wbv, wnm, zI_mk, zL_mk, uI_mk, uL_mk, kI_mk, kL_mk, nI_add, nI_mul, nI_sub, nI_div, nI_clamp, wgB, wgP, nI_leI, nI_ltI, nI_eq, nI_eqm, nI_eqm5, wdT, wdF, wd1, wd0, li_0, li_1, li_2, li_3, li_4, li_5, li_6, li_7, li_8, li_9, li_10, li_11, li_12, li_13, li_14, li_15, li_16, li_17, li_18, li_19, li_20, li_21, li_22, li_23, li_24, li_25, li_26, li_27, li_28, li_29, li_30, li_31, li_32, li_33, li_38, li_40, li_41, li_48, li_57, li_58, li_59, li_60, li_61, li_62, li_63, li_68, li_69, li_70, li_71, li_72, li_73, li_74, li_75, li_83, li_87, li_88, li_89, li_99, li_100, li_104, li_105, li_106, li_107, li_108, li_109, li_110, li_111, li_112, li_113, li_114, li_115, li_116, li_117, li_118, li_119, li_120, li_121, li_124, li_127, li_128, li_200, li_4095, li_4096, li_9999, fn_Ac_body_o, li_50, li_51, zr, g1, ea, e2, e3, er, gT_mk_32]
    · have hh : ac1 (acV own nu vv d 0 ab x) 71 (fun r => r ^^^ nI vv) = some (r, tr) := h'
      obtain ⟨p1, t1, p2, er, et⟩ := ac1_s hh
      obtain ⟨f2, e2, hT2, s2, b4, b5, b6⟩ := one 0 ab x p1 t1 p2 et (by decide) hab
      have ea := eab (by omega)
      refine ⟨f2, ?_, hT2, s2⟩
      simp (disch := omega) only [wbr_T, wbr_F, wgd_T, wbq, wbv, wnm, zI_mk, zL_mk, uI_mk, uL_mk, kI_mk, kL_mk, nI_add, nI_mul, nI_sub, nI_div, nI_clamp, wgB, wgP, nI_leI, nI_ltI, nI_eq, nI_eqm, nI_eqm5, wdT, wdF, wd1, wd0, li_0, li_1, li_2, li_3, li_4, li_5, li_6, li_7, li_8, li_9, li_10, li_11, li_12, li_13, li_14, li_15, li_16, li_17, li_18, li_19, li_20, li_21, li_22, li_23, li_24, li_25, li_26, li_27, li_28, li_29, li_30, li_31, li_32, li_33, li_38, li_40, li_41, li_48, li_57, li_58, li_59, li_60, li_61, li_62, li_63, li_68, li_69, li_70, li_71, li_72, li_73, li_74, li_75, li_83, li_87, li_88, li_89, li_99, li_100, li_104, li_105, li_106, li_107, li_108, li_109, li_110, li_111, li_112, li_113, li_114, li_115, li_116, li_117, li_118, li_119, li_120, li_121, li_124, li_127, li_128, li_200, li_4095, li_4096, li_9999, fn_Ac_body_o, li_50, li_51, zr, g1, ea, e2, b6, er, gT_mk_32]
end
