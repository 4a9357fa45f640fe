/-! THE PURE STATE: the model's row of numbers; rules as what reading gives -/
def us (a : Nat → Nat) (k x : Nat) : Nat → Nat := fun j => if j = k then x else a j
theorem us_eq {a : Nat → Nat} {k x : Nat} : us a k x k = x := if_pos rfl
theorem us_ne {a : Nat → Nat} {k x j : Nat} (h : ¬ j = k) : us a k x j = a j := if_neg h
def dn (x : Int32) : Nat := x.toBitVec.toNat
theorem dn_lt (x : Int32) : dn x < 2 ^ 32 := x.toBitVec.isLt
theorem nI_dn (x : Int32) : nI (dn x) = x := (nI_bv (dn_lt x) rfl).symm
theorem dn_nI {n : Nat} (h : n < 2 ^ 32) : dn (nI n) = n := nI_tn h
abbrev zV : Type := Nat → Nat × ((Nat → Nat) → Int32)
/-- the rules' values: rule 0 is none -/
def rV (T : Nat → Nat → Nat) (N : Nat → Nat) : zV := fun r => if r = 0 then (6, fun _ => 3) else ((pA (T (r - 1)) (N (r - 1))).2.2.2.1, (pA (T (r - 1)) (N (r - 1))).2.2.2.2)
def nmS (a : Nat → Nat) (i : Nat) : Nat → Nat := fun k => if k = 0 then i else if k = 1 then a (10 * i) else if k = 2 then a (10 * i + 1) else if k = 3 then a (10 * i + 3) / 10 else if k = 4 then a (10 * i + 4) else a 69 % 10
/-- ranges of a saint's numbers -/
def gs (a : Nat → Nat) (i : Nat) : Prop := a (10 * i) < 7 ∧ a (10 * i + 1) < 10 ∧ a (10 * i + 2) < 4096 ∧ a (10 * i + 3) ≤ 99 ∧ a (10 * i + 4) ≤ 1 ∧ a (10 * i + 5) ≤ 4 ∧ ∀ k, k < 4 → a (10 * i + 6 + k) < 10
/-- ranges of all that days change -/
def rng (ru D k : Nat) : Nat := if k < 60 then (if k % 10 = 0 then 7 else if k % 10 = 1 then 10 else if k % 10 = 2 then 4096 else if k % 10 = 3 then 100 else if k % 10 = 4 then 2 else if k % 10 = 5 then 5 else 10) else if k < 68 then 4096 else if k = 68 then 7 else if k = 69 then D + 1 else ru + 1
def Gd (a : Nat → Nat) (ru D : Nat) : Prop := ∀ k, k < 71 → a k < rng ru D k
theorem Gd_gs {a : Nat → Nat} {ru D i : Nat} (h : Gd a ru D) (hi : i < 6) : gs a i := by
  have key : ∀ c m, c < 10 → (∀ k, k < 60 → k % 10 = c → rng ru D k = m) → a (10 * i + c) < m := fun c m hc hm => by
    have := h (10 * i + c) (by omega)
    rw [hm _ (by omega) (by omega)] at this
    exact this
  have r0 : ∀ c m, c < 10 → (if c = 0 then 7 else if c = 1 then 10 else if c = 2 then 4096 else if c = 3 then 100 else if c = 4 then 2 else if c = 5 then 5 else 10) = m → ∀ k, k < 60 → k % 10 = c → rng ru D k = m := fun c m hc e k hk hkc => by
    unfold rng
    rw [if_pos hk, hkc]
    exact e
  refine ⟨key 0 7 (by decide) (r0 0 7 (by decide) rfl), key 1 10 (by decide) (r0 1 10 (by decide) rfl), key 2 4096 (by decide) (r0 2 4096 (by decide) rfl), Nat.le_of_lt_succ (key 3 100 (by decide) (r0 3 100 (by decide) rfl)), Nat.le_of_lt_succ (key 4 2 (by decide) (r0 4 2 (by decide) rfl)), Nat.le_of_lt_succ (key 5 5 (by decide) (r0 5 5 (by decide) rfl)), fun k hk => ?_⟩
  have := key (6 + k) 10 (by omega) (r0 (6 + k) 10 (by omega) (by rw [if_neg (by omega), if_neg (by omega), if_neg (by omega), if_neg (by omega), if_neg (by omega), if_neg (by omega)]))
  rw [← Nat.add_assoc] at this
  exact this
theorem Gd_all {a : Nat → Nat} {ru D : Nat} (h : Gd a ru D) : a 68 ≤ 6 ∧ (∀ i, i < 6 → gs a i) ∧ (∀ j, j < 4 → a (60 + 2 * j) < 4096 ∧ a (61 + 2 * j) < 4096) ∧ a 69 ≤ D ∧ a 70 ≤ ru := by
  have hn : ∀ k, 60 ≤ k → k < 68 → a k < 4096 := fun k h1 h2 => by
    have := h k (by omega)
    unfold rng at this
    rw [if_neg (by omega), if_pos h2] at this
    exact this
  refine ⟨?_, fun i hi => Gd_gs h hi, fun j hj => ⟨hn _ (by omega) (by omega), hn _ (by omega) (by omega)⟩, ?_, ?_⟩
  · have := h 68 (by decide)
    exact Nat.le_of_lt_succ this
  · have := h 69 (by decide)
    exact Nat.le_of_lt_succ this
  · have := h 70 (by decide)
    exact Nat.le_of_lt_succ this
theorem Gd_us {a : Nat → Nat} {ru D k x : Nat} (h : Gd a ru D) (hx : x < rng ru D k) : Gd (us a k x) ru D := fun j hj => by
  by_cases e : j = k
  · subst e
    rw [us_eq]
    exact hx
  · rw [us_ne e]
    exact h j hj
theorem Gd_mono {a : Nat → Nat} {ru D ru' D' : Nat} (h : Gd a ru D) (hr : ru ≤ ru') (hD : D ≤ D') : Gd a ru' D' := fun k hk => by
  have hle : rng ru D k ≤ rng ru' D' k := by
    unfold rng
    by_cases h1 : k < 60
    · rw [if_pos h1, if_pos h1]
      exact Nat.le_refl _
    · rw [if_neg h1, if_neg h1]
      by_cases h2 : k < 68
      · rw [if_pos h2, if_pos h2]
        exact Nat.le_refl _
      · rw [if_neg h2, if_neg h2]
        by_cases h3 : k = 68
        · rw [if_pos h3, if_pos h3]
          exact Nat.le_refl _
        · rw [if_neg h3, if_neg h3]
          by_cases h4 : k = 69
          · rw [if_pos h4, if_pos h4]
            omega
          · rw [if_neg h4, if_neg h4]
            omega
  exact Nat.lt_of_lt_of_le (h k hk) hle
theorem rng_s {ru D i c : Nat} (hi : i < 6) (hc : c < 10) : rng ru D (10 * i + c) = (if c = 0 then 7 else if c = 1 then 10 else if c = 2 then 4096 else if c = 3 then 100 else if c = 4 then 2 else if c = 5 then 5 else 10) := by
  unfold rng
  rw [if_pos (show 10 * i + c < 60 by omega), show (10 * i + c) % 10 = c by omega]
theorem rng_n {ru D k : Nat} (h1 : 60 ≤ k) (h2 : k < 68) : rng ru D k = 4096 := by
  unfold rng
  rw [if_neg (by omega), if_pos h2]
theorem rng_69 {ru D : Nat} : rng ru D 69 = D + 1 := rfl
def gritS (V : zV) (a : Nat → Nat) (i : Nat) : Int32 :=
  if a (10 * i) = 1 then (V (a 70)).2 (nmS a i) + nI (a (10 * i + 1))
  else if a (10 * i) = 2 then (V (a 70)).2 (nmS a i) / nI 2
  else if a (10 * i) = 4 then (if a (10 * i + 4) = 0 then nI 0 else (V (a 70)).2 (nmS a i) + nI (a (10 * i + 1)))
  else if a (10 * i) = 5 then (V (a 70)).2 (nmS a i) / nI 2 + nI (a 69 % 2)
  else if a (10 * i) = 6 then (V (a 70)).2 (nmS a i) + nI (a (10 * i + 6 + a 69 % 4))
  else (V (a 70)).2 (nmS a i)
def takesN (V : zV) (a : Nat → Nat) (i o : Nat) : Nat := dn (takesP (nI o) (nI (a (10 * i + 2))) (nI (a (10 * i))) (nI (a (10 * i + 3))) (gritS V a i))
theorem nI_takesN {V : zV} {a : Nat → Nat} {i o : Nat} : nI (takesN V a i o) = takesP (nI o) (nI (a (10 * i + 2))) (nI (a (10 * i))) (nI (a (10 * i + 3))) (gritS V a i) := nI_dn _
theorem scP_lt (x : Int32) : ∀ (d k t : Nat) (g : Int32), k + d = 12 → t < 4096 → ∃ m, m < 4096 ∧ scP x d k g (nI t) = nI m
  | 0, k, t, g, hk, ht => ⟨t, ht, rfl⟩
  | d + 1, k, t, g, hk, ht => by
    unfold scP
    by_cases h1 : g ≤ 0
    · rw [if_pos h1]
      exact ⟨t, ht, rfl⟩
    · rw [if_neg h1]
      by_cases h2 : ((x >>> (nI k &&& 31)) &&& (1 : Int32)) = 1
      · rw [if_pos h2]
        have e : (1 : Int32) <<< (nI k &&& 31) = nI (2 ^ k) := by
          have : ∀ k, k < 12 → (1 : Int32) <<< (nI k &&& 31) = nI (2 ^ k) := by decide +kernel
          exact this k (by omega)
        have hp : 2 ^ k < 2 ^ 12 := Nat.pow_lt_pow_right (by decide) (by omega)
        rw [e, nI_or (by omega) (by omega)]
        exact scP_lt x d (k + 1) _ _ (by omega) (Nat.or_lt_two_pow (n := 12) ht hp)
      · rw [if_neg h2]
        exact scP_lt x d (k + 1) t g (by omega) ht
theorem takesP_lt (o h kd w g : Int32) : ∃ m, m < 4096 ∧ takesP o h kd w g = nI m := by
  unfold takesP
  split
  · exact ⟨0, by decide, rfl⟩
  · exact scP_lt _ 12 0 0 g rfl (by decide)
theorem takesN_lt {V : zV} {a : Nat → Nat} {i o : Nat} : takesN V a i o < 4096 := by
  obtain ⟨m, h1, h2⟩ := takesP_lt (nI o) (nI (a (10 * i + 2))) (nI (a (10 * i))) (nI (a (10 * i + 3))) (gritS V a i)
  unfold takesN
  rw [h2, dn_nI (by omega)]
  exact h1
/-- what is on when m came off -/
def offN (o m : Nat) : Nat := dn (nI o &&& (nI m ^^^ (-1 : Int32)))
theorem nI_offN {o m : Nat} : nI (offN o m) = nI o &&& (nI m ^^^ (-1 : Int32)) := nI_dn _
theorem offN_lt {o m : Nat} (h : o < 4096) : offN o m < 4096 := by
  obtain ⟨k, h1, h2⟩ := and_small h (nI m ^^^ (-1 : Int32))
  unfold offN
  rw [h2, dn_nI (by omega)]
  exact h1
def wornN (w t h : Nat) : Nat := min 99 (w + if t = 0 then h else h / 2)
theorem wornN_le {w t h : Nat} : wornN w t h ≤ 99 := Nat.min_le_left _ _
/-- a good table of rules: HARD is at most 99 -/
def gV (V : zV) : Prop := ∀ r, (V r).1 ≤ 99
theorem pSc_hd {T : Nat → Nat} {n : Nat} {b : Bool} {w : List Nat} {k h : Nat} {s : (Nat → Nat) → Int32} : (pSc T n b w k h s).2.2.2.1 = h := by
  unfold pSc
  repeat' split
  all_goals rfl
theorem pCl_hd {T : Nat → Nat} {n k h : Nat} {s : (Nat → Nat) → Int32} (hh : h ≤ 99) : (pCl T n k h s).2.2.2.1 ≤ 99 := by
  unfold pCl
  split
  · split
    · rw [pSc_hd]; exact hh
    · rw [pSc_hd]; exact hh
  · split
    · split
      · rename_i q
        exact (pNum_ok q).2.2
      · exact hh
    · exact hh
theorem pAl_hd {T : Nat → Nat} {n : Nat} : ∀ (u k : Nat) (c : List (Nat × Nat)) (h : Nat) (s : (Nat → Nat) → Int32), h ≤ 99 → (pAl T n u k c h s).2.2.2.1 ≤ 99
  | 0, k, c, h, s, hh => hh
  | u + 1, k, c, h, s, hh => by
    unfold pAl
    split
    · split
      · exact pCl_hd hh
      · split
        · exact Nat.zero_le _
        · split
          · exact pAl_hd u _ _ _ _ (pCl_hd hh)
          · exact Nat.zero_le _
    · exact Nat.zero_le _
theorem rV_g (T : Nat → Nat → Nat) (N : Nat → Nat) : gV (rV T N) := by
  intro r
  unfold rV
  split
  · decide
  · exact pAl_hd 10 0 [] 6 _ (by decide)
theorem pAl_len {T : Nat → Nat} {n : Nat} : ∀ (u k : Nat) (c : List (Nat × Nat)) (h : Nat) (s : (Nat → Nat) → Int32), k ≤ n → c.length ≤ k → (pAl T n u k c h s).1 = true → (pAl T n u k c h s).2.2.1.length ≤ n
  | 0, k, c, h, s, _, _, hk => by cases hk
  | u + 1, k, c, h, s, hkn, hc, hk => by
    unfold pAl at hk ⊢
    by_cases h1 : (pCl T n k h s).1 = true
    · have g := pCl_go hkn h1
      rw [if_pos h1] at hk ⊢
      by_cases h2 : (pCl T n k h s).2.1 = n
      · rw [if_pos h2]
        dsimp only
        rw [List.length_append]
        omega
      · rw [if_neg h2] at hk ⊢
        by_cases h3 : u = 0
        · rw [if_pos h3] at hk
          cases hk
        · rw [if_neg h3] at hk ⊢
          by_cases h4 : sg T n (pCl T n k h s).2.1 = 59
          · have := sg_lt h4 (by decide)
            rw [if_pos h4] at hk ⊢
            exact pAl_len u _ _ _ _ (by omega) (by rw [List.length_append]; omega) hk
          · rw [if_neg h4] at hk
            cases hk
    · rw [if_neg h1] at hk
      cases hk
theorem pA_len {T : Nat → Nat} {n : Nat} (h : (pA T n).1 = true) : (pA T n).2.2.1.length ≤ n := pAl_len 10 0 [] 6 _ (Nat.zero_le _) (Nat.le_refl _) h
/-! rules as the two hold them -/
def tRu (T : Nat → Nat → Nat) (N : Nat → Nat) (ru : Nat) : Prop := ru ≤ 6 ∧ ∀ r, r < ru → tOk (T r) (N r) ∧ (pA (T r) (N r)).1 = true
def MRu (T : Nat → Nat → Nat) (N : Nat → Nat) (ru : Nat) (f : Nat → Nat → Int32) : Prop := ∀ r, r < ru → f 143 r = nI (N r) ∧ ∀ k, k < N r → f 142 (100 * r + k) = nI (T r k)
def CRu (T : Nat → Nat → Nat) (N : Nat → Nat) (ru : Nat) (f : Nat → Nat → Int32) : Prop := (f 38 2 = nI 0 ∧ f 38 3 = nI 6) ∧ ∀ r, r < ru → OP f (hp (r + 1)) (pA (T r) (N r)).2.2.1 ∧ f (hp (r + 1)) 3 = nI (pA (T r) (N r)).2.2.2.1
/-- the letters and the words of the model -/
def mKc (f : Nat → Nat → Int32) : Prop := (∀ j, j < 6 → f 146 j = nI ([112, 107, 118, 119, 116, 100].getD j 0)) ∧ (∀ j, j < 15 → f 147 j = nI ([115, 99, 114, 117, 98, 115, 111, 102, 116, 0, 119, 101, 97, 114, 0].getD j 0))
/-- what the model's reading changes -/
def sc (f f' : Nat → Nat → Int32) : Prop := ∀ p j, (p = 137 → j < 10 ∨ 15 < j) → ¬ p = 144 → ¬ p = 145 → f' p j = f p j
section
variable {f f' : Nat → Nat → Int32} {l : Nat → Nat → Int64} {R : Nat → Nat} {a : Nat → Nat} {i : Nat} {T : Nat → Nat → Nat} {N : Nat → Nat} {ru : Nat}
theorem sc_r : sc f f := fun _ _ _ _ _ => rfl
theorem sc_t {g : Nat → Nat → Int32} (h : sc f f') (h2 : sc f' g) : sc f g := fun p j a b c => (h2 p j a b c).trans (h p j a b c)
theorem frK_sc (h : frK f f') : sc f f' := fun p j q _ _ => h p j (fun e => by have := q e; omega)
theorem sc_138 (h : sc f f') (hA : ∀ k, f 138 k = nI (a k)) : ∀ k, f' 138 k = nI (a k) := fun k => (h 138 k (fun q => absurd q (by decide)) (by decide) (by decide)).trans (hA k)
theorem sc_mKc (h : sc f f') (hm : mKc f) : mKc f' := ⟨fun j hj => (h 146 j (fun q => absurd q (by decide)) (by decide) (by decide)).trans (hm.1 j hj), fun j hj => (h 147 j (fun q => absurd q (by decide)) (by decide) (by decide)).trans (hm.2 j hj)⟩
theorem sc_MRu (h : sc f f') (hm : MRu T N ru f) : MRu T N ru f' := fun r hr => ⟨(h 143 r (fun q => absurd q (by decide)) (by decide) (by decide)).trans (hm r hr).1, fun k hk => (h 142 _ (fun q => absurd q (by decide)) (by decide) (by decide)).trans ((hm r hr).2 k hk)⟩
theorem nmS_0 : nmS a i 0 = i := rfl
theorem nmS_1 : nmS a i 1 = a (10 * i) := rfl
theorem nmS_2 : nmS a i 2 = a (10 * i + 1) := rfl
theorem nmS_3 : nmS a i 3 = a (10 * i + 3) / 10 := rfl
theorem nmS_4 : nmS a i 4 = a (10 * i + 4) := rfl
theorem nmS_5 : nmS a i 5 = a 69 % 10 := rfl
theorem m_rfl {r n : Nat} {t : Nat → Nat} (hr : r < 6) (hn : n ≤ 100) : ∀ (e j G : Nat) (f : Nat → Nat → Int32), j + e = n → e < G → f 137 10 = nI n → (∀ k, k < n → f 142 (100 * r + k) = nI (t k)) → (∀ k, k < j → f 144 k = nI (t k)) →
    ∃ f', lp (σ := Nat × Int32 × Int32 × zS) (fun k s => fn_Mo_readFor_L120 s.1 s.2.1 s.2.2.1 s.2.2.2 (fun (a0 : Nat) (a2 : Int32) (a3 : Int32) (S : zS) => k (a0, a2, a3, S))) G (137, nI r, nI j, mk f l R) = (bq (fn_Mo_readAll 137 (mk f' l R)) fun r5 S3 => some S3) ∧ (∀ k, k < n → f' 144 k = nI (t k)) ∧ ∀ p j, ¬ p = 144 → f' p j = f p j
  | 0, j, G, f, he, hG, hz, ht, h4 => by
    obtain ⟨G, rfl⟩ : ∃ H, G = H + 1 := ⟨G - 1, by omega⟩
    rw [lpS]
    show ∃ f', fn_Mo_readFor_L120 137 (nI r) (nI j) (mk f l R) _ = _ ∧ _
    refine ⟨f, ?_, fun k hk => h4 k (by omega), fun _ _ _ => rfl⟩
    simp (disch := omega) only [fn_Mo_readFor_L120, hz, gT_mk_137, wbr_T, wbr_F, wgd_T, wbq, wbv, wnm, zI_mk, zL_mk, uI_mk, uL_mk, kI_mk, kL_mk, nI_leI, wdT, wdF, wd1, wd0]
  | e + 1, j, G, f, he, hG, hz, ht, h4 => by
    obtain ⟨G, rfl⟩ : ∃ H, G = H + 1 := ⟨G - 1, by omega⟩
    rw [lpS]
    show ∃ f', fn_Mo_readFor_L120 137 (nI r) (nI j) (mk f l R) _ = _ ∧ _
    obtain ⟨f1, e1, g1, fr1⟩ := m_rfl hr hn e (j + 1) G (up f 144 j (nI (t j))) (by omega) (by omega) ((up_np (by decide)).trans hz) (fun k hk => (up_np (by decide)).trans (ht k hk)) (fun k hk => by
      by_cases ek : k = j
      · subst ek
        exact up_eq
      · rw [up_nj ek]
        exact h4 k (by omega))
    refine ⟨f1, ?_, g1, fun p j' hp => (fr1 p j' hp).trans (up_np hp)⟩
    rw [← e1]
    have g := ht j (by omega)
    simp (disch := omega) only [fn_Mo_readFor_L120, hz, g, gT_mk_137, zR_mk_137_6, gT_mk_142, zT_mk_142, zR_mk_137_9, gT_mk_144, zT_mk_144, wbr_T, wbr_F, wgd_T, wbq, wbv, wnm, zI_mk, zL_mk, uI_mk, uL_mk, kI_mk, kL_mk, nI_add, nI_mul, nI_sub, nI_div, nI_clamp, wgB, wgP, nI_leI, nI_ltI, nI_eq, nI_eqm, nI_eqm5, wdT, wdF, wd1, wd0, li_1, li_100]
/-- the order that holds is read for a saint -/
theorem m_readFor {D : Nat} (hTR : tRu T N ru) (hM : MRu T N ru f) (hK : mKc f) (hA : ∀ k, f 138 k = nI (a k)) (hG : Gd a ru D) (hD : D < 2 ^ 30) (hi : i < 6) :
    ∃ f', fn_Mo_readFor 137 (nI i) (mk f l R) = some (mk f' l R) ∧ f' 137 14 = (rV T N (a 70)).2 (nmS a i) ∧ f' 137 15 = nI (rV T N (a 70)).1 ∧ sc f f' := by
  obtain ⟨z1, z2, z3, z4, z5⟩ := Gd_all hG
  obtain ⟨g1, g2, g3, g4, g5, g6, g7⟩ := z2 i hi
  have b0 : a 69 / 10 * 10 ≤ a 69 := by omega
  have e69 : a 69 - a 69 / 10 * 10 = a 69 % 10 := by omega
  -- the names
  have hN : mK (nmS a i) (up (up (up (up (up (up f 145 0 (nI i)) 145 1 (nI (a (10 * i)))) 145 2 (nI (a (10 * i + 1)))) 145 3 (nI (a (10 * i + 3) / 10))) 145 4 (nI (a (10 * i + 4)))) 145 5 (nI (a 69 % 10))) := by
    refine ⟨fun j hj => ?_, fun j hj => ?_, fun j hj => ?_⟩
    · simp (disch := omega) only [up_np]
      exact hK.1 j hj
    · simp (disch := omega) only [up_np]
      exact hK.2 j hj
    · refine i6 (P := fun j => (up (up (up (up (up (up f 145 0 (nI i)) 145 1 (nI (a (10 * i)))) 145 2 (nI (a (10 * i + 1)))) 145 3 (nI (a (10 * i + 3) / 10))) 145 4 (nI (a (10 * i + 4)))) 145 5 (nI (a 69 % 10))) 145 j = nI (nmS a i j) ∧ nmS a i j < 2 ^ 32) hj ?_ ?_ ?_ ?_ ?_ ?_ <;> simp (disch := omega) only [up_nj, up_eq, nmS_0, nmS_1, nmS_2, nmS_3, nmS_4, nmS_5, true_and] <;> omega
  have hsc : sc f (up (up (up (up (up (up f 145 0 (nI i)) 145 1 (nI (a (10 * i)))) 145 2 (nI (a (10 * i + 1)))) 145 3 (nI (a (10 * i + 3) / 10))) 145 4 (nI (a (10 * i + 4)))) 145 5 (nI (a 69 % 10))) := fun p j h1 h2 h3 => by
    simp (disch := omega) only [up_np]
  have start : ∀ f5, f5 = (up (up (up (up (up (up f 145 0 (nI i)) 145 1 (nI (a (10 * i)))) 145 2 (nI (a (10 * i + 1)))) 145 3 (nI (a (10 * i + 3) / 10))) 145 4 (nI (a (10 * i + 4)))) 145 5 (nI (a 69 % 10))) →
      fn_Mo_readFor 137 (nI i) (mk f l R) = if a 70 = 0 then some (mk (up (up f5 137 14 (nI 3)) 137 15 (nI 6)) l R) else lp (σ := Nat × Int32 × Int32 × zS) (fun k s => fn_Mo_readFor_L120 s.1 s.2.1 s.2.2.1 s.2.2.2 (fun (a0 : Nat) (a2 : Int32) (a3 : Int32) (S : zS) => k (a0, a2, a3, S))) FU (137, nI (a 70 - 1), nI 0, mk (up f5 137 10 (nI (N (a 70 - 1)))) l R) := by
    intro f5 h5
    have h6 := hTR.1
    by_cases h0 : a 70 = 0
    · rw [if_pos h0, h5]
      simp (disch := omega) only [fn_Mo_readFor, m_kind, m_v, m_wear, up_np, hA, h0, e69, gT_mk_137, zR_mk_137_0, gT_mk_138, zT_mk_138, zR_mk_137_16, gT_mk_145, zT_mk_145, wbr_T, wbr_F, wgd_T, wbq, wbv, wnm, zI_mk, zL_mk, uI_mk, uL_mk, kI_mk, kL_mk, nI_add, nI_mul, nI_sub, nI_div, nI_clamp, wgB, wgP, nI_leI, nI_ltI, nI_eq, nI_eqm, nI_eqm5, wdT, wdF, wd1, wd0, li_0, li_1, li_2, li_3, li_4, li_5, li_6, li_10, li_69, li_70]
    · rw [if_neg h0, h5]
      have hs := (hM (a 70 - 1) (by omega)).1
      simp (disch := omega) only [fn_Mo_readFor, m_kind, m_v, m_wear, up_np, hA, hs, e69, gT_mk_137, zR_mk_137_0, gT_mk_138, zT_mk_138, zR_mk_137_16, gT_mk_145, zT_mk_145, zR_mk_137_7, gT_mk_143, zT_mk_143, wbr_T, wbr_F, wgd_T, wbq, wbv, wnm, zI_mk, zL_mk, uI_mk, uL_mk, kI_mk, kL_mk, nI_add, nI_mul, nI_sub, nI_div, nI_clamp, wgB, wgP, nI_leI, nI_ltI, nI_eq, nI_eqm, nI_eqm5, wdT, wdF, wd1, wd0, li_0, li_1, li_2, li_3, li_4, li_5, li_6, li_10, li_69, li_70]
  generalize (up (up (up (up (up (up f 145 0 (nI i)) 145 1 (nI (a (10 * i)))) 145 2 (nI (a (10 * i + 1)))) 145 3 (nI (a (10 * i + 3) / 10))) 145 4 (nI (a (10 * i + 4)))) 145 5 (nI (a 69 % 10))) = f5 at hN hsc start
  rw [start f5 rfl]
  by_cases h0 : a 70 = 0
  · rw [if_pos h0, h0]
    refine ⟨_, rfl, (up_nj (by decide)).trans up_eq, up_eq, fun p j h1 h2 h3 => ?_⟩
    rw [← hsc p j h1 h2 h3]
    by_cases e : p = 137
    · have := h1 e
      rw [up_nj (by omega), up_nj (by omega)]
    · rw [up_np e, up_np e]
  · rw [if_neg h0]
    have h6 := hTR.1
    have hr : a 70 - 1 < ru := by omega
    obtain ⟨tk, pok⟩ := hTR.2 (a 70 - 1) hr
    have hM' := hM (a 70 - 1) hr
    obtain ⟨f6, e6, t6, fr6⟩ := m_rfl (l := l) (R := R) (r := a 70 - 1) (n := N (a 70 - 1)) (t := T (a 70 - 1)) (by omega) tk.1 (N (a 70 - 1)) 0 FU (up f5 137 10 (nI (N (a 70 - 1)))) (by omega) (by show _ < 5000; have := tk.1; omega) up_eq (fun k hk => by
      rw [up_np (by decide), hsc 142 _ (fun q => absurd q (by decide)) (by decide) (by decide)]
      exact hM'.2 k hk) (fun k hk => absurd hk (Nat.not_lt_zero _))
    have hm6 : mK (nmS a i) f6 := ⟨fun j hj => by rw [fr6 _ _ (by decide), up_np (by decide)]; exact hN.1 j hj, fun j hj => by rw [fr6 _ _ (by decide), up_np (by decide)]; exact hN.2.1 j hj, fun j hj => by rw [fr6 _ _ (by decide), up_np (by decide)]; exact hN.2.2 j hj⟩
    obtain ⟨f7, e7, fr7, -, p7⟩ := m_readAll (l := l) (R := R) tk hm6 (by rw [fr6 _ _ (by decide), up_eq]) t6
    have p7' := p7 pok
    rw [e6, e7, wbq]
    refine ⟨f7, rfl, ?_, ?_, fun p j h1 h2 h3 => ?_⟩
    · rw [p7'.1]
      unfold rV
      rw [if_neg h0]
    · rw [p7'.2]
      unfold rV
      rw [if_neg h0]
    · rw [fr7 p j (fun e => by have := h1 e; omega), fr6 p j h2, ← hsc p j h1 h2 h3]
      by_cases e : p = 137
      · have := h1 e
        exact up_nj (by omega)
      · exact up_np e
end
