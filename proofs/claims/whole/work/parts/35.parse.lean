/-! THE TEXT OF AN ORDER, purely: what reading gives, as steps and as a value -/
def sg (T : Nat → Nat) (n k : Nat) : Nat := if k < n then T k else 999
abbrev pR : Type := Bool × Nat × List (Nat × Nat) × ((Nat → Nat) → Bool)
def isDg (c : Nat) : Bool := decide (48 ≤ c) && decide (c ≤ 57)
def pNo (k : Nat) : pR := (false, k, [], fun _ => false)
def pNum (T : Nat → Nat) (n k : Nat) : Bool × Nat × Nat :=
  if isDg (sg T n k) = true then (if isDg (sg T n (k + 1)) = true then (true, k + 2, (sg T n k - 48) * 10 + (sg T n (k + 1) - 48)) else (true, k + 1, sg T n k - 48)) else (false, k, 0)
def lix (c : Nat) : Nat := if c = 112 then 0 else if c = 107 then 1 else if c = 118 then 2 else if c = 119 then 3 else if c = 116 then 4 else if c = 100 then 5 else 6
def cmpv (r x n : Nat) : Bool := if r = 60 then decide (nI x < nI n) else if r = 61 then decide (nI x = nI n) else decide (nI n < nI x)
theorem cmpv_n {r x n : Nat} (hx : x < 2 ^ 31) (hn : n < 2 ^ 31) : cmpv r x n = if r = 60 then decide (x < n) else if r = 61 then decide (x = n) else decide (n < x) := by
  unfold cmpv
  rw [decide_eq_decide.mpr (nI_ltI hx hn), decide_eq_decide.mpr (nI_eq hx hn), decide_eq_decide.mpr (nI_ltI hn hx)]
def pTest (T : Nat → Nat) (n k : Nat) : pR :=
  if lix (sg T n k) < 6 then
    (if 60 ≤ sg T n (k + 1) ∧ sg T n (k + 1) ≤ 62 then
      (if (pNum T n (k + 2)).1 = true then (true, (pNum T n (k + 2)).2.1, [(sg T n k, sg T n (k + 1) * 100 + (pNum T n (k + 2)).2.2)], fun nm => cmpv (sg T n (k + 1)) (nm (lix (sg T n k))) (pNum T n (k + 2)).2.2)
      else pNo (k + 2))
    else pNo (k + 1))
  else pNo k
def pTl (T : Nat → Nat) (n : Nat) (F : Nat → pR) : Nat → Nat → List (Nat × Nat) → ((Nat → Nat) → Bool) → pR
  | 0, k, _, _ => pNo k
  | u + 1, k, c, v => if sg T n k = 38 then (if (F (k + 1)).1 = true then pTl T n F u (F (k + 1)).2.1 (c ++ ((F (k + 1)).2.2.1 ++ [(38, 0)])) (fun nm => v nm && (F (k + 1)).2.2.2 nm) else pNo (F (k + 1)).2.1) else (true, k, c, v)
def pT (T : Nat → Nat) (n : Nat) (F : Nat → pR) (k : Nat) : pR := if (F k).1 = true then pTl T n F 101 (F k).2.1 (F k).2.2.1 (F k).2.2.2 else pNo (F k).2.1
def pEl (T : Nat → Nat) (n : Nat) (F : Nat → pR) : Nat → Nat → List (Nat × Nat) → ((Nat → Nat) → Bool) → pR
  | 0, k, _, _ => pNo k
  | u + 1, k, c, v => if sg T n k = 124 then (if (pT T n F (k + 1)).1 = true then pEl T n F u (pT T n F (k + 1)).2.1 (c ++ ((pT T n F (k + 1)).2.2.1 ++ [(124, 0)])) (fun nm => v nm || (pT T n F (k + 1)).2.2.2 nm) else pNo (pT T n F (k + 1)).2.1) else (true, k, c, v)
def pE (T : Nat → Nat) (n : Nat) (F : Nat → pR) (k : Nat) : pR := if (pT T n F k).1 = true then pEl T n F 101 (pT T n F k).2.1 (pT T n F k).2.2.1 (pT T n F k).2.2.2 else pNo (pT T n F k).2.1
def pF (T : Nat → Nat) (n : Nat) : Nat → Nat → pR
  | 0, k => pTest T n k
  | d + 1, k => if sg T n k = 33 then (if (pF T n d (k + 1)).1 = true then (true, (pF T n d (k + 1)).2.1, (pF T n d (k + 1)).2.2.1 ++ [(33, 0)], fun nm => !(pF T n d (k + 1)).2.2.2 nm) else pNo (pF T n d (k + 1)).2.1)
    else if sg T n k = 40 then (if (pE T n (pF T n d) (k + 1)).1 = true then (if sg T n (pE T n (pF T n d) (k + 1)).2.1 = 41 then (true, (pE T n (pF T n d) (k + 1)).2.1 + 1, (pE T n (pF T n d) (k + 1)).2.2.1, (pE T n (pF T n d) (k + 1)).2.2.2) else pNo (pE T n (pF T n d) (k + 1)).2.1) else pNo (pE T n (pF T n d) (k + 1)).2.1)
    else pTest T n k
/-! words, clauses, the whole -/
def pW (T : Nat → Nat) (n : Nat) : List Nat → Nat → Bool × Nat
  | [], k => (true, k)
  | w :: r, k => if sg T n k = w then pW T n r (k + 1) else (false, k)
abbrev pC : Type := Bool × Nat × List (Nat × Nat) × Nat × ((Nat → Nat) → Int32)
def wdS : List Nat := [115, 99, 114, 117, 98, 32]
def wdF_ : List Nat := [115, 111, 102, 116, 32]
def wdW : List Nat := [119, 101, 97, 114, 32]
/-- a clause that scrubs (b) or is soft, behind its word -/
def pSc (T : Nat → Nat) (n : Nat) (b : Bool) (w : List Nat) (k h : Nat) (s : (Nat → Nat) → Int32) : pC :=
  if (pW T n w k).1 = true then
    (if (pNum T n (pW T n w k).2).1 = true then
      (if sg T n (pNum T n (pW T n w k).2).2.1 = 32 then
        (if (pE T n (pF T n 4) ((pNum T n (pW T n w k).2).2.1 + 1)).1 = true then
          (true, (pE T n (pF T n 4) ((pNum T n (pW T n w k).2).2.1 + 1)).2.1, (pE T n (pF T n 4) ((pNum T n (pW T n w k).2).2.1 + 1)).2.2.1 ++ [(if b = true then 83 else 115, (pNum T n (pW T n w k).2).2.2)], h,
            fun nm => if (pE T n (pF T n 4) ((pNum T n (pW T n w k).2).2.1 + 1)).2.2.2 nm = true then (if b = true then s nm + nI (pNum T n (pW T n w k).2).2.2 else s nm - nI (pNum T n (pW T n w k).2).2.2) else s nm)
        else (false, (pE T n (pF T n 4) ((pNum T n (pW T n w k).2).2.1 + 1)).2.1, [], h, s))
      else (false, (pNum T n (pW T n w k).2).2.1, [], h, s))
    else (false, (pNum T n (pW T n w k).2).2.1, [], h, s))
  else (false, (pW T n w k).2, [], h, s)
def pCl (T : Nat → Nat) (n k h : Nat) (s : (Nat → Nat) → Int32) : pC :=
  if sg T n k = 115 then
    (if sg T n (k + 1) = 99 then pSc T n true wdS k h s else pSc T n false wdF_ k h s)
  else if (pW T n wdW k).1 = true then
    (if (pNum T n (pW T n wdW k).2).1 = true then (true, (pNum T n (pW T n wdW k).2).2.1, [], (pNum T n (pW T n wdW k).2).2.2, s) else (false, (pNum T n (pW T n wdW k).2).2.1, [], h, s))
  else (false, (pW T n wdW k).2, [], h, s)
/-- clauses one behind the other: i have been read -/
def pAl (T : Nat → Nat) (n : Nat) : Nat → Nat → List (Nat × Nat) → Nat → ((Nat → Nat) → Int32) → pC
  | 0, k, c, h, s => (false, k, c, h, s)
  | u + 1, k, c, h, s => if (pCl T n k h s).1 = true then
      (if (pCl T n k h s).2.1 = n then (true, n, c ++ (pCl T n k h s).2.2.1, (pCl T n k h s).2.2.2.1, (pCl T n k h s).2.2.2.2)
      else if u = 0 then (false, (pCl T n k h s).2.1, [], 0, s)
      else if sg T n (pCl T n k h s).2.1 = 59 then pAl T n u ((pCl T n k h s).2.1 + 1) (c ++ (pCl T n k h s).2.2.1) (pCl T n k h s).2.2.2.1 (pCl T n k h s).2.2.2.2
      else (false, (pCl T n k h s).2.1, [], 0, s))
    else (false, (pCl T n k h s).2.1, [], 0, s)
def pA (T : Nat → Nat) (n : Nat) : pC := pAl T n 10 0 [] 6 (fun _ => 3)
/-! how far reading goes -/
theorem sg_lt {T : Nat → Nat} {n k c : Nat} (h : sg T n k = c) (hc : c < 999) : k < n := by
  unfold sg at h
  by_cases e : k < n
  · exact e
  · rw [if_neg e] at h
    omega
theorem isDg_lt {T : Nat → Nat} {n k : Nat} (h : isDg (sg T n k) = true) : k < n := by
  unfold isDg at h
  simp only [Bool.and_eq_true, decide_eq_true_eq] at h
  exact sg_lt (T := T) (n := n) (c := sg T n k) rfl (by omega)
theorem pNum_ok {T : Nat → Nat} {n k : Nat} (h : (pNum T n k).1 = true) : k < (pNum T n k).2.1 ∧ (pNum T n k).2.1 ≤ n ∧ (pNum T n k).2.2 ≤ 99 := by
  unfold pNum at h ⊢
  by_cases h1 : isDg (sg T n k) = true
  · have l1 := isDg_lt h1
    have b1 := h1
    unfold isDg at b1
    simp only [Bool.and_eq_true, decide_eq_true_eq] at b1
    rw [if_pos h1]
    by_cases h2 : isDg (sg T n (k + 1)) = true
    · have l2 := isDg_lt h2
      have b2 := h2
      unfold isDg at b2
      simp only [Bool.and_eq_true, decide_eq_true_eq] at b2
      rw [if_pos h2]
      exact ⟨by show k < k + 2; omega, by show k + 2 ≤ n; omega, by show (sg T n k - 48) * 10 + (sg T n (k + 1) - 48) ≤ 99; omega⟩
    · rw [if_neg h2]
      exact ⟨by show k < k + 1; omega, by show k + 1 ≤ n; omega, by show sg T n k - 48 ≤ 99; omega⟩
  · rw [if_neg h1] at h
    cases h
theorem pNum_no {T : Nat → Nat} {n k : Nat} (h : ¬ (pNum T n k).1 = true) : pNum T n k = (false, k, 0) := by
  unfold pNum at h ⊢
  by_cases h1 : isDg (sg T n k) = true
  · rw [if_pos h1] at h
    by_cases h2 : isDg (sg T n (k + 1)) = true
    · rw [if_pos h2] at h
      exact absurd rfl h
    · rw [if_neg h2] at h
      exact absurd rfl h
  · rw [if_neg h1]
/-- a good reader: what it reads well goes on, and gives no more steps than it reads bytes -/
def pGo (n : Nat) (F : Nat → pR) : Prop := ∀ k, (F k).1 = true → k < (F k).2.1 ∧ (F k).2.1 ≤ n ∧ (F k).2.2.1.length + k ≤ (F k).2.1
theorem pTest_go {T : Nat → Nat} {n : Nat} : pGo n (pTest T n) := by
  intro k h
  unfold pTest at h ⊢
  by_cases h1 : lix (sg T n k) < 6
  · rw [if_pos h1] at h ⊢
    by_cases h2 : 60 ≤ sg T n (k + 1) ∧ sg T n (k + 1) ≤ 62
    · rw [if_pos h2] at h ⊢
      by_cases h3 : (pNum T n (k + 2)).1 = true
      · rw [if_pos h3]
        have := pNum_ok h3
        refine ⟨?_, this.2.1, ?_⟩
        · show k < (pNum T n (k + 2)).2.1
          omega
        · show 1 + k ≤ (pNum T n (k + 2)).2.1
          omega
      · rw [if_neg h3] at h
        cases h
    · rw [if_neg h2] at h
      cases h
  · rw [if_neg h1] at h
    cases h
theorem pTl_go {T : Nat → Nat} {n : Nat} {F : Nat → pR} (hF : pGo n F) : ∀ (u k : Nat) (c : List (Nat × Nat)) (v : (Nat → Nat) → Bool), k ≤ n → (pTl T n F u k c v).1 = true → k ≤ (pTl T n F u k c v).2.1 ∧ (pTl T n F u k c v).2.1 ≤ n ∧ (pTl T n F u k c v).2.2.1.length + k ≤ c.length + (pTl T n F u k c v).2.1
  | 0, k, c, v, hk, h => by cases h
  | u + 1, k, c, v, hk, h => by
    unfold pTl at h ⊢
    by_cases h1 : sg T n k = 38
    · rw [if_pos h1] at h ⊢
      by_cases h2 : (F (k + 1)).1 = true
      · rw [if_pos h2] at h ⊢
        have g := hF (k + 1) h2
        have r := pTl_go hF u _ _ _ g.2.1 h
        refine ⟨by omega, r.2.1, ?_⟩
        have r3 := r.2.2
        rw [List.length_append, List.length_append] at r3
        have : ([(38, 0)] : List (Nat × Nat)).length = 1 := rfl
        omega
      · rw [if_neg h2] at h
        cases h
    · rw [if_neg h1]
      exact ⟨Nat.le_refl _, hk, Nat.le_refl _⟩
theorem pT_go {T : Nat → Nat} {n : Nat} {F : Nat → pR} (hF : pGo n F) : pGo n (pT T n F) := by
  intro k h
  unfold pT at h ⊢
  by_cases h2 : (F k).1 = true
  · rw [if_pos h2] at h ⊢
    have g := hF k h2
    have r := pTl_go hF _ _ _ _ g.2.1 h
    exact ⟨by omega, r.2.1, by omega⟩
  · rw [if_neg h2] at h
    cases h
theorem pEl_go {T : Nat → Nat} {n : Nat} {F : Nat → pR} (hF : pGo n F) : ∀ (u k : Nat) (c : List (Nat × Nat)) (v : (Nat → Nat) → Bool), k ≤ n → (pEl T n F u k c v).1 = true → k ≤ (pEl T n F u k c v).2.1 ∧ (pEl T n F u k c v).2.1 ≤ n ∧ (pEl T n F u k c v).2.2.1.length + k ≤ c.length + (pEl T n F u k c v).2.1
  | 0, k, c, v, hk, h => by cases h
  | u + 1, k, c, v, hk, h => by
    unfold pEl at h ⊢
    by_cases h1 : sg T n k = 124
    · rw [if_pos h1] at h ⊢
      by_cases h2 : (pT T n F (k + 1)).1 = true
      · rw [if_pos h2] at h ⊢
        have g := pT_go hF (k + 1) h2
        have r := pEl_go hF u _ _ _ g.2.1 h
        refine ⟨by omega, r.2.1, ?_⟩
        have r3 := r.2.2
        rw [List.length_append, List.length_append] at r3
        have : ([(124, 0)] : List (Nat × Nat)).length = 1 := rfl
        omega
      · rw [if_neg h2] at h
        cases h
    · rw [if_neg h1]
      exact ⟨Nat.le_refl _, hk, Nat.le_refl _⟩
theorem pE_go {T : Nat → Nat} {n : Nat} {F : Nat → pR} (hF : pGo n F) : pGo n (pE T n F) := by
  intro k h
  unfold pE at h ⊢
  by_cases h2 : (pT T n F k).1 = true
  · rw [if_pos h2] at h ⊢
    have g := pT_go hF k h2
    have r := pEl_go hF _ _ _ _ g.2.1 h
    exact ⟨by omega, r.2.1, by omega⟩
  · rw [if_neg h2] at h
    cases h
theorem pF_go {T : Nat → Nat} {n : Nat} : ∀ d, pGo n (pF T n d)
  | 0 => pTest_go
  | d + 1 => by
    intro k h
    unfold pF at h ⊢
    by_cases h1 : sg T n k = 33
    · rw [if_pos h1] at h ⊢
      by_cases h2 : (pF T n d (k + 1)).1 = true
      · rw [if_pos h2]
        have g := pF_go d (k + 1) h2
        refine ⟨?_, g.2.1, ?_⟩
        · show k < (pF T n d (k + 1)).2.1
          omega
        · show ((pF T n d (k + 1)).2.2.1 ++ [(33, 0)]).length + k ≤ (pF T n d (k + 1)).2.1
          rw [List.length_append]
          have : ([(33, 0)] : List (Nat × Nat)).length = 1 := rfl
          omega
      · rw [if_neg h2] at h
        cases h
    · rw [if_neg h1] at h ⊢
      by_cases h3 : sg T n k = 40
      · rw [if_pos h3] at h ⊢
        by_cases h2 : (pE T n (pF T n d) (k + 1)).1 = true
        · rw [if_pos h2] at h ⊢
          have g := pE_go (pF_go d) (k + 1) h2
          by_cases h4 : sg T n (pE T n (pF T n d) (k + 1)).2.1 = 41
          · rw [if_pos h4]
            have l4 := sg_lt h4 (by decide)
            refine ⟨?_, ?_, ?_⟩
            · show k < (pE T n (pF T n d) (k + 1)).2.1 + 1
              omega
            · show (pE T n (pF T n d) (k + 1)).2.1 + 1 ≤ n
              omega
            · show (pE T n (pF T n d) (k + 1)).2.2.1.length + k ≤ (pE T n (pF T n d) (k + 1)).2.1 + 1
              omega
          · rw [if_neg h4] at h
            cases h
        · rw [if_neg h2] at h
          cases h
      · rw [if_neg h3] at h ⊢
        exact pTest_go k h
/-! what the steps do: a row of bits m, its least the top -/
def rcS (nm : Nat → Nat) (q : Nat × Nat) (s : Int32) (m : Nat) : Option (Int32 × Nat) :=
  if q.1 = 33 then some (s, if m % 2 = 0 then m + 1 else m - 1)
  else if q.1 = 38 then some (s, if m % 2 = 1 then m / 2 else m / 2 - m / 2 % 2)
  else if q.1 = 83 then some (s + nI (m % 2 * q.2), m / 2)
  else if q.1 = 115 then some (s - nI (m % 2 * q.2), m / 2)
  else if q.1 = 124 then some (s, if m % 2 = 1 then m / 2 + (1 - m / 2 % 2) else m / 2)
  else if m < 4 ^ 10 then some (s, 2 * m + (if cmpv (q.2 / 100) (nm (lix q.1)) (q.2 % 100) = true then 1 else 0)) else none
def rc (nm : Nat → Nat) : List (Nat × Nat) → Int32 → Nat → Option (Int32 × Nat)
  | [], s, m => some (s, m)
  | q :: r, s, m => match rcS nm q s m with
    | none => none
    | some p => rc nm r p.1 p.2
def vb (b : Bool) : Nat := if b = true then 1 else 0
theorem vb_T : vb true = 1 := Eq.trans rfl rfl
theorem vb_F : vb false = 0 := Eq.trans rfl rfl
theorem rc_app (nm : Nat → Nat) : ∀ (c c' : List (Nat × Nat)) (s : Int32) (m : Nat), rc nm (c ++ c') s m = (match rc nm c s m with | none => none | some p => rc nm c' p.1 p.2)
  | [], c', s, m => rfl
  | q :: r, c', s, m => by
    show (match rcS nm q s m with | none => none | some p => rc nm (r ++ c') p.1 p.2) = _
    show _ = (match (match rcS nm q s m with | none => none | some p => rc nm r p.1 p.2) with | none => none | some p => rc nm c' p.1 p.2)
    cases rcS nm q s m with
    | none => rfl
    | some p => exact rc_app nm r c' p.1 p.2
/-- a reader whose steps put its value, as long as there are fewer than B -/
def pVa (nm : Nat → Nat) (B : Nat) (F : Nat → pR) : Prop := ∀ k, (F k).1 = true → ∀ (s : Int32) (m : Nat), m < B → rc nm (F k).2.2.1 s m = some (s, 2 * m + vb ((F k).2.2.2 nm))
theorem rcS_not (nm : Nat → Nat) (s : Int32) (m : Nat) (b : Bool) : rc nm [(33, 0)] s (2 * m + vb b) = some (s, 2 * m + vb (!b)) := by
  have key : (if (2 * m + vb b) % 2 = 0 then 2 * m + vb b + 1 else 2 * m + vb b - 1) = 2 * m + vb (!b) := by
    split <;> rename_i h <;> cases b <;> simp only [vb_T, vb_F, Bool.not_true, Bool.not_false] at h ⊢ <;> omega
  exact congrArg (fun x => some (s, x)) key
theorem rcS_and (nm : Nat → Nat) (s : Int32) (m : Nat) (a b : Bool) : rc nm [(38, 0)] s (2 * (2 * m + vb a) + vb b) = some (s, 2 * m + vb (a && b)) := by
  have key : (if (2 * (2 * m + vb a) + vb b) % 2 = 1 then (2 * (2 * m + vb a) + vb b) / 2 else (2 * (2 * m + vb a) + vb b) / 2 - (2 * (2 * m + vb a) + vb b) / 2 % 2) = 2 * m + vb (a && b) := by
    split <;> rename_i h <;> cases a <;> cases b <;> simp only [vb_T, vb_F, Bool.and_true, Bool.and_false, Bool.true_and, Bool.false_and] at h ⊢ <;> omega
  exact congrArg (fun x => some (s, x)) key
theorem rcS_or (nm : Nat → Nat) (s : Int32) (m : Nat) (a b : Bool) : rc nm [(124, 0)] s (2 * (2 * m + vb a) + vb b) = some (s, 2 * m + vb (a || b)) := by
  have key : (if (2 * (2 * m + vb a) + vb b) % 2 = 1 then (2 * (2 * m + vb a) + vb b) / 2 + (1 - (2 * (2 * m + vb a) + vb b) / 2 % 2) else (2 * (2 * m + vb a) + vb b) / 2) = 2 * m + vb (a || b) := by
    split <;> rename_i h <;> cases a <;> cases b <;> simp only [vb_T, vb_F, Bool.or_true, Bool.or_false, Bool.true_or, Bool.false_or] at h ⊢ <;> omega
  exact congrArg (fun x => some (s, x)) key
theorem lix_lt {c : Nat} (h : lix c < 6) : c = 112 ∨ c = 107 ∨ c = 118 ∨ c = 119 ∨ c = 116 ∨ c = 100 := by
  unfold lix at h
  repeat' split at h
  all_goals omega
theorem pTest_va {T : Nat → Nat} {n : Nat} (nm : Nat → Nat) : pVa nm (4 ^ 10) (pTest T n) := by
  intro k h s m hm
  unfold pTest at h ⊢
  by_cases h1 : lix (sg T n k) < 6
  · rw [if_pos h1] at h ⊢
    by_cases h2 : 60 ≤ sg T n (k + 1) ∧ sg T n (k + 1) ≤ 62
    · rw [if_pos h2] at h ⊢
      by_cases h3 : (pNum T n (k + 2)).1 = true
      · rw [if_pos h3]
        have b := (pNum_ok h3).2.2
        have e1 : (sg T n (k + 1) * 100 + (pNum T n (k + 2)).2.2) / 100 = sg T n (k + 1) := by omega
        have e2 : (sg T n (k + 1) * 100 + (pNum T n (k + 2)).2.2) % 100 = (pNum T n (k + 2)).2.2 := by omega
        have hl := lix_lt h1
        show (match rcS nm (sg T n k, sg T n (k + 1) * 100 + (pNum T n (k + 2)).2.2) s m with | none => none | some p => rc nm [] p.1 p.2) = _
        unfold rcS
        show (match (if sg T n k = 33 then _ else _ : Option (Int32 × Nat)) with | none => none | some p => some (p.1, p.2)) = _
        rw [if_neg (by omega), if_neg (by omega), if_neg (by omega), if_neg (by omega), if_neg (by omega), if_pos hm, e1, e2]
        rfl
      · rw [if_neg h3] at h
        cases h
    · rw [if_neg h2] at h
      cases h
  · rw [if_neg h1] at h
    cases h
theorem pTl_va {T : Nat → Nat} {n B : Nat} {F : Nat → pR} {nm : Nat → Nat} (hF : pVa nm (2 * B) F) (m : Nat) (hm : m < B) (s : Int32) : ∀ (u k : Nat) (c : List (Nat × Nat)) (v : (Nat → Nat) → Bool), rc nm c s m = some (s, 2 * m + vb (v nm)) → (pTl T n F u k c v).1 = true → rc nm (pTl T n F u k c v).2.2.1 s m = some (s, 2 * m + vb ((pTl T n F u k c v).2.2.2 nm))
  | 0, k, c, v, _, h => by cases h
  | u + 1, k, c, v, hc, h => by
    unfold pTl at h ⊢
    by_cases h1 : sg T n k = 38
    · rw [if_pos h1] at h ⊢
      by_cases h2 : (F (k + 1)).1 = true
      · rw [if_pos h2] at h ⊢
        refine pTl_va hF m hm s u _ _ _ ?_ h
        rw [rc_app, hc]
        show rc nm ((F (k + 1)).2.2.1 ++ [(38, 0)]) s (2 * m + vb (v nm)) = _
        have hv : vb (v nm) ≤ 1 := by cases v nm <;> decide
        rw [rc_app, hF (k + 1) h2 s _ (by omega)]
        exact rcS_and nm s m _ _
      · rw [if_neg h2] at h
        cases h
    · rw [if_neg h1]
      exact hc
theorem pT_va {T : Nat → Nat} {n B : Nat} {F : Nat → pR} {nm : Nat → Nat} (hF : pVa nm (2 * B) F) : pVa nm B (pT T n F) := by
  intro k h s m hm
  unfold pT at h ⊢
  by_cases h2 : (F k).1 = true
  · rw [if_pos h2] at h ⊢
    exact pTl_va hF m hm s _ _ _ _ (hF k h2 s m (by omega)) h
  · rw [if_neg h2] at h
    cases h
theorem pEl_va {T : Nat → Nat} {n B : Nat} {F : Nat → pR} {nm : Nat → Nat} (hF : pVa nm (2 * (2 * B)) F) (m : Nat) (hm : m < B) (s : Int32) : ∀ (u k : Nat) (c : List (Nat × Nat)) (v : (Nat → Nat) → Bool), rc nm c s m = some (s, 2 * m + vb (v nm)) → (pEl T n F u k c v).1 = true → rc nm (pEl T n F u k c v).2.2.1 s m = some (s, 2 * m + vb ((pEl T n F u k c v).2.2.2 nm))
  | 0, k, c, v, _, h => by cases h
  | u + 1, k, c, v, hc, h => by
    unfold pEl at h ⊢
    by_cases h1 : sg T n k = 124
    · rw [if_pos h1] at h ⊢
      by_cases h2 : (pT T n F (k + 1)).1 = true
      · rw [if_pos h2] at h ⊢
        refine pEl_va hF m hm s u _ _ _ ?_ h
        rw [rc_app, hc]
        show rc nm ((pT T n F (k + 1)).2.2.1 ++ [(124, 0)]) s (2 * m + vb (v nm)) = _
        have hv : vb (v nm) ≤ 1 := by cases v nm <;> decide
        rw [rc_app, pT_va hF (k + 1) h2 s _ (by omega)]
        exact rcS_or nm s m _ _
      · rw [if_neg h2] at h
        cases h
    · rw [if_neg h1]
      exact hc
theorem pE_va {T : Nat → Nat} {n B : Nat} {F : Nat → pR} {nm : Nat → Nat} (hF : pVa nm (2 * (2 * B)) F) : pVa nm B (pE T n F) := by
  intro k h s m hm
  unfold pE at h ⊢
  by_cases h2 : (pT T n F k).1 = true
  · rw [if_pos h2] at h ⊢
    exact pEl_va hF m hm s _ _ _ _ (pT_va hF k h2 s m (by omega)) h
  · rw [if_neg h2] at h
    cases h
theorem pF_va {T : Nat → Nat} {n : Nat} (nm : Nat → Nat) : ∀ d, d ≤ 9 → pVa nm (4 ^ (10 - d)) (pF T n d)
  | 0, _ => pTest_va nm
  | d + 1, hd => by
    intro k h s m hm
    have e4 : 4 ^ (10 - d) = 2 * (2 * 4 ^ (10 - (d + 1))) := by
      rw [show 10 - d = 10 - (d + 1) + 1 by omega, Nat.pow_succ]
      omega
    have ih := pF_va (T := T) (n := n) nm d (by omega)
    unfold pF at h ⊢
    by_cases h1 : sg T n k = 33
    · rw [if_pos h1] at h ⊢
      by_cases h2 : (pF T n d (k + 1)).1 = true
      · rw [if_pos h2]
        show rc nm ((pF T n d (k + 1)).2.2.1 ++ [(33, 0)]) s m = _
        rw [rc_app, ih (k + 1) h2 s m (by omega)]
        exact rcS_not nm s m _
      · rw [if_neg h2] at h
        cases h
    · rw [if_neg h1] at h ⊢
      by_cases h3 : sg T n k = 40
      · rw [if_pos h3] at h ⊢
        by_cases h2 : (pE T n (pF T n d) (k + 1)).1 = true
        · rw [if_pos h2] at h ⊢
          by_cases h4 : sg T n (pE T n (pF T n d) (k + 1)).2.1 = 41
          · rw [if_pos h4]
            rw [e4] at ih
            exact pE_va ih (k + 1) h2 s m hm
          · rw [if_neg h4] at h
            cases h
        · rw [if_neg h2] at h
          cases h
      · rw [if_neg h3] at h ⊢
        exact pTest_va nm k h s m (Nat.lt_of_lt_of_le hm (Nat.pow_le_pow_right (by decide) (by omega)))
/-- the steps of all clauses give the sum -/
theorem pSc_va {T : Nat → Nat} {n : Nat} (nm : Nat → Nat) {b : Bool} {w : List Nat} {k h : Nat} {s : (Nat → Nat) → Int32} (hk : (pSc T n b w k h s).1 = true) : rc nm (pSc T n b w k h s).2.2.1 (s nm) 0 = some ((pSc T n b w k h s).2.2.2.2 nm, 0) := by
  unfold pSc at hk ⊢
  by_cases h1 : (pW T n w k).1 = true
  · rw [if_pos h1] at hk ⊢
    by_cases h2 : (pNum T n (pW T n w k).2).1 = true
    · rw [if_pos h2] at hk ⊢
      by_cases h3 : sg T n (pNum T n (pW T n w k).2).2.1 = 32
      · rw [if_pos h3] at hk ⊢
        by_cases h4 : (pE T n (pF T n 4) ((pNum T n (pW T n w k).2).2.1 + 1)).1 = true
        · rw [if_pos h4]
          have e := pE_va (B := 4 ^ 5) (pF_va (T := T) (n := n) nm 4 (by decide)) _ h4 (s nm) 0 (by decide)
          dsimp only
          rw [rc_app, e]
          cases (pE T n (pF T n 4) ((pNum T n (pW T n w k).2).2.1 + 1)).2.2.2 nm <;> cases b <;> simp [rc, rcS, vb_T, vb_F, nI_0]
        · rw [if_neg h4] at hk
          cases hk
      · rw [if_neg h3] at hk
        cases hk
    · rw [if_neg h2] at hk
      cases hk
  · rw [if_neg h1] at hk
    cases hk
theorem pCl_va {T : Nat → Nat} {n : Nat} (nm : Nat → Nat) {k h : Nat} {s : (Nat → Nat) → Int32} (hk : (pCl T n k h s).1 = true) : rc nm (pCl T n k h s).2.2.1 (s nm) 0 = some ((pCl T n k h s).2.2.2.2 nm, 0) := by
  unfold pCl at hk ⊢
  by_cases h1 : sg T n k = 115
  · rw [if_pos h1] at hk ⊢
    by_cases h2 : sg T n (k + 1) = 99
    · rw [if_pos h2] at hk ⊢
      exact pSc_va nm hk
    · rw [if_neg h2] at hk ⊢
      exact pSc_va nm hk
  · rw [if_neg h1] at hk ⊢
    by_cases h2 : (pW T n wdW k).1 = true
    · rw [if_pos h2] at hk ⊢
      by_cases h3 : (pNum T n (pW T n wdW k).2).1 = true
      · rw [if_pos h3]
        rfl
      · rw [if_neg h3] at hk
        cases hk
    · rw [if_neg h2] at hk
      cases hk
theorem pAl_va {T : Nat → Nat} {n : Nat} (nm : Nat → Nat) : ∀ (u k : Nat) (c : List (Nat × Nat)) (h : Nat) (s : (Nat → Nat) → Int32), rc nm c 3 0 = some (s nm, 0) → (pAl T n u k c h s).1 = true → rc nm (pAl T n u k c h s).2.2.1 3 0 = some ((pAl T n u k c h s).2.2.2.2 nm, 0)
  | 0, k, c, h, s, _, hk => by cases hk
  | u + 1, k, c, h, s, hc, hk => by
    unfold pAl at hk ⊢
    by_cases h1 : (pCl T n k h s).1 = true
    · rw [if_pos h1] at hk ⊢
      have e : rc nm (c ++ (pCl T n k h s).2.2.1) 3 0 = some ((pCl T n k h s).2.2.2.2 nm, 0) := by
        rw [rc_app, hc]
        exact pCl_va nm h1
      by_cases h2 : (pCl T n k h s).2.1 = n
      · rw [if_pos h2]
        exact e
      · rw [if_neg h2] at hk ⊢
        by_cases h3 : u = 0
        · rw [if_pos h3] at hk
          cases hk
        · rw [if_neg h3] at hk ⊢
          by_cases h4 : sg T n (pCl T n k h s).2.1 = 59
          · rw [if_pos h4] at hk ⊢
            exact pAl_va nm u _ _ _ _ e hk
          · rw [if_neg h4] at hk
            cases hk
    · rw [if_neg h1] at hk
      cases hk
theorem pA_va {T : Nat → Nat} {n : Nat} (nm : Nat → Nat) (h : (pA T n).1 = true) : rc nm (pA T n).2.2.1 3 0 = some ((pA T n).2.2.2.2 nm, 0) := pAl_va nm 10 0 [] 6 _ rfl h
