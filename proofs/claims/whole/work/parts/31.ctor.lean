/-! THE CONSTRUCTORS' RUN as a list of writes -/
def zop (S : zS) (w : Nat × Nat × Nat × Nat) : zS := match w.1 with
  | 0 => uN S (w.2.1, w.2.2.1)
  | 1 => uI S w.2.1 w.2.2.1 (Int32.ofNat w.2.2.2)
  | _ => uR S w.2.1 w.2.2.1 w.2.2.2
def zrun : List (Nat × Nat × Nat × Nat) → zS → zS
  | [], S => S
  | w :: r, S => zrun r (zop S w)
def zops : List (Nat × Nat × Nat × Nat) := [(0, 109, 12, 0), (0, 4, 6, 0), (2, 16, 0, 17), (0, 5, 6, 0), (2, 16, 1, 18), (0, 103, 5, 0), (0, 1, 100, 0), (2, 19, 0, 20), (1, 19, 1, 0), (1, 19, 2, 0),
  (1, 19, 3, 0), (0, 102, 4, 0), (1, 21, 2, 0), (1, 21, 3, 6), (0, 1, 0, 0), (2, 21, 0, 22), (0, 1, 0, 0), (2, 21, 1, 23), (2, 19, 4, 21), (2, 16, 2, 19),
  (0, 107, 5, 0), (0, 1, 24, 0), (2, 24, 0, 25), (0, 1, 6, 0), (2, 24, 1, 26), (0, 1, 6, 0), (2, 24, 2, 27), (1, 24, 3, 0), (1, 24, 4, 0), (2, 16, 3, 24),
  (0, 106, 5, 0), (0, 1, 6, 0), (2, 28, 0, 29), (0, 1, 3, 0), (2, 28, 1, 30), (0, 1, 3, 0), (2, 28, 2, 31), (1, 28, 3, 0), (1, 28, 4, 0), (2, 16, 4, 28),
  (0, 100, 3, 0), (0, 1, 20, 0), (2, 32, 0, 33), (1, 32, 1, 0), (0, 105, 8, 0), (0, 1, 4, 0), (2, 34, 0, 35), (1, 34, 2, 0), (1, 34, 3, 0), (1, 34, 4, 0),
  (1, 34, 5, 0), (1, 34, 6, 4294967295), (1, 34, 7, 0), (1, 34, 1, 0), (2, 32, 2, 34), (2, 16, 5, 32), (0, 105, 8, 0), (0, 1, 4, 0), (2, 36, 0, 37), (1, 36, 2, 0),
  (1, 36, 3, 0), (1, 36, 4, 0), (1, 36, 5, 0), (1, 36, 6, 4294967295), (1, 36, 7, 0), (1, 36, 1, 0), (2, 16, 6, 36), (1, 16, 10, 0), (1, 16, 11, 0), (0, 102, 4, 0),
  (1, 38, 2, 0), (1, 38, 3, 6), (0, 1, 0, 0), (2, 38, 0, 39), (0, 1, 0, 0), (2, 38, 1, 40), (0, 101, 9, 0), (0, 6, 6, 0), (2, 41, 0, 42), (0, 1, 4, 0),
  (2, 41, 1, 43), (0, 1, 4, 0), (2, 41, 2, 44), (0, 104, 3, 0), (1, 45, 2, 0), (1, 45, 1, 5), (0, 1, 15, 0), (2, 45, 0, 46), (2, 41, 3, 45), (0, 104, 3, 0),
  (1, 47, 2, 0), (1, 47, 1, 8), (0, 1, 24, 0), (2, 47, 0, 48), (2, 41, 4, 47), (0, 104, 3, 0), (1, 49, 2, 0), (1, 49, 1, 8), (0, 1, 24, 0), (2, 49, 0, 50),
  (2, 41, 5, 49), (1, 41, 6, 0), (1, 41, 7, 0), (2, 41, 8, 38), (0, 105, 8, 0), (0, 1, 4, 0), (2, 51, 0, 52), (1, 51, 2, 0), (1, 51, 3, 0), (1, 51, 4, 0),
  (1, 51, 5, 0), (1, 51, 6, 4294967295), (1, 51, 7, 0), (1, 51, 1, 0), (2, 42, 0, 51), (0, 105, 8, 0), (0, 1, 4, 0), (2, 53, 0, 54), (1, 53, 2, 0), (1, 53, 3, 0),
  (1, 53, 4, 0), (1, 53, 5, 0), (1, 53, 6, 4294967295), (1, 53, 7, 0), (1, 53, 1, 1), (2, 42, 1, 53), (0, 105, 8, 0), (0, 1, 4, 0), (2, 55, 0, 56), (1, 55, 2, 0),
  (1, 55, 3, 0), (1, 55, 4, 0), (1, 55, 5, 0), (1, 55, 6, 4294967295), (1, 55, 7, 0), (1, 55, 1, 2), (2, 42, 2, 55), (0, 105, 8, 0), (0, 1, 4, 0), (2, 57, 0, 58),
  (1, 57, 2, 0), (1, 57, 3, 0), (1, 57, 4, 0), (1, 57, 5, 0), (1, 57, 6, 4294967295), (1, 57, 7, 0), (1, 57, 1, 3), (2, 42, 3, 57), (0, 105, 8, 0), (0, 1, 4, 0),
  (2, 59, 0, 60), (1, 59, 2, 0), (1, 59, 3, 0), (1, 59, 4, 0), (1, 59, 5, 0), (1, 59, 6, 4294967295), (1, 59, 7, 0), (1, 59, 1, 4), (2, 42, 4, 59), (0, 105, 8, 0),
  (0, 1, 4, 0), (2, 61, 0, 62), (1, 61, 2, 0), (1, 61, 3, 0), (1, 61, 4, 0), (1, 61, 5, 0), (1, 61, 6, 4294967295), (1, 61, 7, 0), (1, 61, 1, 5), (2, 42, 5, 61),
  (2, 16, 7, 41), (0, 101, 9, 0), (0, 6, 6, 0), (2, 63, 0, 64), (0, 1, 4, 0), (2, 63, 1, 65), (0, 1, 4, 0), (2, 63, 2, 66), (0, 104, 3, 0), (1, 67, 2, 0),
  (1, 67, 1, 5), (0, 1, 15, 0), (2, 67, 0, 68), (2, 63, 3, 67), (0, 104, 3, 0), (1, 69, 2, 0), (1, 69, 1, 8), (0, 1, 24, 0), (2, 69, 0, 70), (2, 63, 4, 69),
  (0, 104, 3, 0), (1, 71, 2, 0), (1, 71, 1, 8), (0, 1, 24, 0), (2, 71, 0, 72), (2, 63, 5, 71), (1, 63, 6, 0), (1, 63, 7, 0), (2, 63, 8, 38), (0, 105, 8, 0),
  (0, 1, 4, 0), (2, 73, 0, 74), (1, 73, 2, 0), (1, 73, 3, 0), (1, 73, 4, 0), (1, 73, 5, 0), (1, 73, 6, 4294967295), (1, 73, 7, 0), (1, 73, 1, 0), (2, 64, 0, 73),
  (0, 105, 8, 0), (0, 1, 4, 0), (2, 75, 0, 76), (1, 75, 2, 0), (1, 75, 3, 0), (1, 75, 4, 0), (1, 75, 5, 0), (1, 75, 6, 4294967295), (1, 75, 7, 0), (1, 75, 1, 1),
  (2, 64, 1, 75), (0, 105, 8, 0), (0, 1, 4, 0), (2, 77, 0, 78), (1, 77, 2, 0), (1, 77, 3, 0), (1, 77, 4, 0), (1, 77, 5, 0), (1, 77, 6, 4294967295), (1, 77, 7, 0),
  (1, 77, 1, 2), (2, 64, 2, 77), (0, 105, 8, 0), (0, 1, 4, 0), (2, 79, 0, 80), (1, 79, 2, 0), (1, 79, 3, 0), (1, 79, 4, 0), (1, 79, 5, 0), (1, 79, 6, 4294967295),
  (1, 79, 7, 0), (1, 79, 1, 3), (2, 64, 3, 79), (0, 105, 8, 0), (0, 1, 4, 0), (2, 81, 0, 82), (1, 81, 2, 0), (1, 81, 3, 0), (1, 81, 4, 0), (1, 81, 5, 0),
  (1, 81, 6, 4294967295), (1, 81, 7, 0), (1, 81, 1, 4), (2, 64, 4, 81), (0, 105, 8, 0), (0, 1, 4, 0), (2, 83, 0, 84), (1, 83, 2, 0), (1, 83, 3, 0), (1, 83, 4, 0),
  (1, 83, 5, 0), (1, 83, 6, 4294967295), (1, 83, 7, 0), (1, 83, 1, 5), (2, 64, 5, 83), (2, 16, 8, 63), (0, 101, 9, 0), (0, 6, 6, 0), (2, 85, 0, 86), (0, 1, 4, 0),
  (2, 85, 1, 87), (0, 1, 4, 0), (2, 85, 2, 88), (0, 104, 3, 0), (1, 89, 2, 0), (1, 89, 1, 5), (0, 1, 15, 0), (2, 89, 0, 90), (2, 85, 3, 89), (0, 104, 3, 0),
  (1, 91, 2, 0), (1, 91, 1, 8), (0, 1, 24, 0), (2, 91, 0, 92), (2, 85, 4, 91), (0, 104, 3, 0), (1, 93, 2, 0), (1, 93, 1, 8), (0, 1, 24, 0), (2, 93, 0, 94),
  (2, 85, 5, 93), (1, 85, 6, 0), (1, 85, 7, 0), (2, 85, 8, 38), (0, 105, 8, 0), (0, 1, 4, 0), (2, 95, 0, 96), (1, 95, 2, 0), (1, 95, 3, 0), (1, 95, 4, 0),
  (1, 95, 5, 0), (1, 95, 6, 4294967295), (1, 95, 7, 0), (1, 95, 1, 0), (2, 86, 0, 95), (0, 105, 8, 0), (0, 1, 4, 0), (2, 97, 0, 98), (1, 97, 2, 0), (1, 97, 3, 0),
  (1, 97, 4, 0), (1, 97, 5, 0), (1, 97, 6, 4294967295), (1, 97, 7, 0), (1, 97, 1, 1), (2, 86, 1, 97), (0, 105, 8, 0), (0, 1, 4, 0), (2, 99, 0, 100), (1, 99, 2, 0),
  (1, 99, 3, 0), (1, 99, 4, 0), (1, 99, 5, 0), (1, 99, 6, 4294967295), (1, 99, 7, 0), (1, 99, 1, 2), (2, 86, 2, 99), (0, 105, 8, 0), (0, 1, 4, 0), (2, 101, 0, 102),
  (1, 101, 2, 0), (1, 101, 3, 0), (1, 101, 4, 0), (1, 101, 5, 0), (1, 101, 6, 4294967295), (1, 101, 7, 0), (1, 101, 1, 3), (2, 86, 3, 101), (0, 105, 8, 0), (0, 1, 4, 0),
  (2, 103, 0, 104), (1, 103, 2, 0), (1, 103, 3, 0), (1, 103, 4, 0), (1, 103, 5, 0), (1, 103, 6, 4294967295), (1, 103, 7, 0), (1, 103, 1, 4), (2, 86, 4, 103), (0, 105, 8, 0),
  (0, 1, 4, 0), (2, 105, 0, 106), (1, 105, 2, 0), (1, 105, 3, 0), (1, 105, 4, 0), (1, 105, 5, 0), (1, 105, 6, 4294967295), (1, 105, 7, 0), (1, 105, 1, 5), (2, 86, 5, 105),
  (2, 16, 9, 85), (0, 102, 4, 0), (1, 107, 2, 0), (1, 107, 3, 6), (0, 1, 100, 0), (2, 107, 0, 108), (0, 1, 100, 0), (2, 107, 1, 109), (2, 17, 0, 107), (0, 102, 4, 0),
  (1, 110, 2, 0), (1, 110, 3, 6), (0, 1, 100, 0), (2, 110, 0, 111), (0, 1, 100, 0), (2, 110, 1, 112), (2, 17, 1, 110), (0, 102, 4, 0), (1, 113, 2, 0), (1, 113, 3, 6),
  (0, 1, 100, 0), (2, 113, 0, 114), (0, 1, 100, 0), (2, 113, 1, 115), (2, 17, 2, 113), (0, 102, 4, 0), (1, 116, 2, 0), (1, 116, 3, 6), (0, 1, 100, 0), (2, 116, 0, 117),
  (0, 1, 100, 0), (2, 116, 1, 118), (2, 17, 3, 116), (0, 102, 4, 0), (1, 119, 2, 0), (1, 119, 3, 6), (0, 1, 100, 0), (2, 119, 0, 120), (0, 1, 100, 0), (2, 119, 1, 121),
  (2, 17, 4, 119), (0, 102, 4, 0), (1, 122, 2, 0), (1, 122, 3, 6), (0, 1, 100, 0), (2, 122, 0, 123), (0, 1, 100, 0), (2, 122, 1, 124), (2, 17, 5, 122), (0, 108, 3, 0),
  (0, 3, 60, 0), (2, 125, 0, 126), (1, 125, 1, 4294967295), (1, 125, 2, 0), (2, 18, 0, 125), (0, 108, 3, 0), (0, 3, 60, 0), (2, 127, 0, 128), (1, 127, 1, 4294967295), (1, 127, 2, 0),
  (2, 18, 1, 127), (0, 108, 3, 0), (0, 3, 60, 0), (2, 129, 0, 130), (1, 129, 1, 4294967295), (1, 129, 2, 0), (2, 18, 2, 129), (0, 108, 3, 0), (0, 3, 60, 0), (2, 131, 0, 132),
  (1, 131, 1, 4294967295), (1, 131, 2, 0), (2, 18, 3, 131), (0, 108, 3, 0), (0, 3, 60, 0), (2, 133, 0, 134), (1, 133, 1, 4294967295), (1, 133, 2, 0), (2, 18, 4, 133), (0, 108, 3, 0),
  (0, 3, 60, 0), (2, 135, 0, 136), (1, 135, 1, 4294967295), (1, 135, 2, 0), (2, 18, 5, 135), (0, 110, 32, 0), (0, 1, 121, 0), (2, 137, 0, 138), (0, 1, 121, 0), (2, 137, 1, 139),
  (0, 1, 121, 0), (2, 137, 2, 140), (0, 1, 100, 0), (2, 137, 4, 141), (0, 1, 600, 0), (2, 137, 6, 142), (0, 1, 6, 0), (2, 137, 7, 143), (0, 1, 100, 0), (2, 137, 9, 144),
  (0, 1, 6, 0), (2, 137, 16, 145), (0, 2, 6, 0), (1, 146, 0, 112), (1, 146, 1, 107), (1, 146, 2, 118), (1, 146, 3, 119), (1, 146, 4, 116), (1, 146, 5, 100), (2, 137, 17, 146),
  (0, 2, 15, 0), (1, 147, 0, 115), (1, 147, 1, 99), (1, 147, 2, 114), (1, 147, 3, 117), (1, 147, 4, 98), (1, 147, 5, 115), (1, 147, 6, 111), (1, 147, 7, 102), (1, 147, 8, 116),
  (1, 147, 9, 0), (1, 147, 10, 119), (1, 147, 11, 101), (1, 147, 12, 97), (1, 147, 13, 114), (1, 147, 14, 0), (2, 137, 18, 147), (0, 1, 6, 0), (2, 137, 19, 148), (0, 1, 6, 0),
  (2, 137, 20, 149), (0, 1, 24, 0), (2, 137, 22, 150), (0, 1, 7, 0), (1, 151, 0, 4294967295), (1, 151, 1, 0), (1, 151, 2, 0), (1, 151, 3, 0), (1, 151, 4, 1), (1, 151, 5, 2),
  (1, 151, 6, 3), (2, 137, 24, 151), (0, 1, 21, 0), (1, 152, 0, 10), (1, 152, 1, 11), (1, 152, 2, 12), (1, 152, 3, 0), (1, 152, 4, 20), (1, 152, 5, 0), (1, 152, 6, 30),
  (1, 152, 7, 0), (1, 152, 8, 0), (1, 152, 9, 0), (1, 152, 10, 0), (1, 152, 11, 40), (1, 152, 12, 50), (1, 152, 13, 51), (1, 152, 14, 0), (1, 152, 15, 0), (1, 152, 16, 0),
  (1, 152, 17, 60), (1, 152, 18, 71), (1, 152, 19, 70), (1, 152, 20, 0), (2, 137, 25, 152), (0, 1, 20, 0), (2, 137, 26, 153), (0, 1, 6, 0), (1, 154, 0, 4294967295), (1, 154, 1, 4294967295),
  (1, 154, 2, 4294967295), (1, 154, 3, 4294967295), (1, 154, 4, 4294967295), (1, 154, 5, 4294967295), (2, 137, 28, 154), (0, 1, 6, 0), (2, 137, 29, 155), (0, 3, 360, 0), (2, 137, 30, 156), (0, 3, 60, 0),
  (2, 137, 31, 157)]
theorem zrun_R (b : Nat) : ∀ (r : List (Nat × Nat × Nat × Nat)) (S : zS), (r.all fun w => Nat.ble w.1 1 || (Nat.ble (w.2.1 + 1) 158 && Nat.ble (w.2.2.1 + 1) b)) = true → (∀ p j, (158 ≤ p ∨ b ≤ j) → zR S p j = 0) → ∀ p j, (158 ≤ p ∨ b ≤ j) → zR (zrun r S) p j = 0
  | [], _, _, hS => hS
  | w :: r, S, h, hS => by
    rw [List.all_cons, Bool.and_eq_true] at h
    refine zrun_R b r (zop S w) h.2 ?_
    intro p j hp
    obtain ⟨k, a, c, x⟩ := w
    have h1 := h.1
    match k, h1 with
    | 0, _ => exact hS p j hp
    | 1, _ => exact hS p j hp
    | k + 2, h1 =>
      show (if p = a ∧ j = c then x else zR S p j) = 0
      have h3 : (Nat.ble (a + 1) 158 && Nat.ble (c + 1) b) = true := by
        cases hb : Nat.ble (k + 2) 1 with
        | false => simpa [hb] using h1
        | true => exact absurd (Nat.le_of_ble_eq_true hb) (by omega)
      rw [Bool.and_eq_true] at h3
      have h4 := Nat.le_of_ble_eq_true h3.1
      have h5 := Nat.le_of_ble_eq_true h3.2
      rw [if_neg (by omega)]
      exact hS p j hp
theorem zrun_T : ∀ (r : List (Nat × Nat × Nat × Nat)) (S : zS), (∀ p, zN S ≤ p → zT S p = (0, 0)) → ∀ p, zN (zrun r S) ≤ p → zT (zrun r S) p = (0, 0)
  | [], _, hS => hS
  | w :: r, S, hS => by
    refine zrun_T r (zop S w) ?_
    intro p hp
    obtain ⟨k, a, c, x⟩ := w
    match k, hp with
    | 0, hp =>
      have hp' : zN S + 1 ≤ p := hp
      show (if p = zN S then (a, c) else zT S p) = (0, 0)
      rw [if_neg (by omega)]
      exact hS p (by omega)
    | 1, hp => exact hS p hp
    | k + 2, hp => exact hS p hp
theorem zrun_L : ∀ (r : List (Nat × Nat × Nat × Nat)) (S : zS), (zrun r S).2.1 = S.2.1
  | [], _ => rfl
  | w :: r, S => by
    refine (zrun_L r (zop S w)).trans ?_
    obtain ⟨k, a, c, x⟩ := w
    match k with
    | 0 => rfl
    | 1 => rfl
    | k + 2 => rfl
def zS1 : zS := zrun zops zs0
def zf1 : Nat → Nat → Int32 := zS1.1
def zl1 : Nat → Nat → Int64 := fun _ _ => 0
def zR1 : Nat → Nat := fun p => cond (Nat.beq p 19) 21 (cond (Nat.beq p 32) 34 38)
theorem zrl_len : ∀ p, p < 158 → (zrl.getD p []).length ≤ 40 := by decide +kernel
theorem zrr_hi {R : Nat → Nat} {p j : Nat} (h : 158 ≤ p ∨ 40 ≤ j) : zrr R p j = 0 := by
  have b : ∀ a c : Nat, a < 158 → c < 40 → (Nat.beq p a && Nat.beq j c) = false := by
    intro a c ha hc
    cases h1 : Nat.beq p a with
    | false => rfl
    | true => cases h2 : Nat.beq j c with
      | false => rfl
      | true =>
        have := Nat.eq_of_beq_eq_true h1
        have := Nat.eq_of_beq_eq_true h2
        omega
  unfold zrr
  rw [b 41 8 (by decide) (by decide), b 63 8 (by decide) (by decide), b 85 8 (by decide) (by decide), b 19 4 (by decide) (by decide), b 32 2 (by decide) (by decide)]
  show (zrl.getD p []).getD j 0 = 0
  by_cases hp : p < 158
  · have h1 := zrl_len p hp
    rw [List.getD_eq_getElem?_getD, List.getElem?_eq_none (by omega)]
    rfl
  · have h1 : zrl.length = 158 := rfl
    rw [show zrl.getD p [] = [] by rw [List.getD_eq_getElem?_getD, List.getElem?_eq_none (by omega)]; rfl]
    rfl
theorem zS1_N : zN zS1 = 158 := by decide +kernel
theorem zS1_C : zC zS1 = 4089 := by decide +kernel
set_option maxRecDepth 100000 in
theorem zS1_Rd0 : ∀ p, p < 10 → ∀ j, j < 40 → zR zS1 (0 + p) j = zrr zR1 (0 + p) j := by decide +kernel
set_option maxRecDepth 100000 in
theorem zS1_Rd1 : ∀ p, p < 10 → ∀ j, j < 40 → zR zS1 (10 + p) j = zrr zR1 (10 + p) j := by decide +kernel
set_option maxRecDepth 100000 in
theorem zS1_Rd2 : ∀ p, p < 10 → ∀ j, j < 40 → zR zS1 (20 + p) j = zrr zR1 (20 + p) j := by decide +kernel
set_option maxRecDepth 100000 in
theorem zS1_Rd3 : ∀ p, p < 10 → ∀ j, j < 40 → zR zS1 (30 + p) j = zrr zR1 (30 + p) j := by decide +kernel
set_option maxRecDepth 100000 in
theorem zS1_Rd4 : ∀ p, p < 10 → ∀ j, j < 40 → zR zS1 (40 + p) j = zrr zR1 (40 + p) j := by decide +kernel
set_option maxRecDepth 100000 in
theorem zS1_Rd5 : ∀ p, p < 10 → ∀ j, j < 40 → zR zS1 (50 + p) j = zrr zR1 (50 + p) j := by decide +kernel
set_option maxRecDepth 100000 in
theorem zS1_Rd6 : ∀ p, p < 10 → ∀ j, j < 40 → zR zS1 (60 + p) j = zrr zR1 (60 + p) j := by decide +kernel
set_option maxRecDepth 100000 in
theorem zS1_Rd7 : ∀ p, p < 10 → ∀ j, j < 40 → zR zS1 (70 + p) j = zrr zR1 (70 + p) j := by decide +kernel
set_option maxRecDepth 100000 in
theorem zS1_Rd8 : ∀ p, p < 10 → ∀ j, j < 40 → zR zS1 (80 + p) j = zrr zR1 (80 + p) j := by decide +kernel
set_option maxRecDepth 100000 in
theorem zS1_Rd9 : ∀ p, p < 10 → ∀ j, j < 40 → zR zS1 (90 + p) j = zrr zR1 (90 + p) j := by decide +kernel
set_option maxRecDepth 100000 in
theorem zS1_Rd10 : ∀ p, p < 10 → ∀ j, j < 40 → zR zS1 (100 + p) j = zrr zR1 (100 + p) j := by decide +kernel
set_option maxRecDepth 100000 in
theorem zS1_Rd11 : ∀ p, p < 10 → ∀ j, j < 40 → zR zS1 (110 + p) j = zrr zR1 (110 + p) j := by decide +kernel
set_option maxRecDepth 100000 in
theorem zS1_Rd12 : ∀ p, p < 10 → ∀ j, j < 40 → zR zS1 (120 + p) j = zrr zR1 (120 + p) j := by decide +kernel
set_option maxRecDepth 100000 in
theorem zS1_Rd13 : ∀ p, p < 10 → ∀ j, j < 40 → zR zS1 (130 + p) j = zrr zR1 (130 + p) j := by decide +kernel
set_option maxRecDepth 100000 in
theorem zS1_Rd14 : ∀ p, p < 10 → ∀ j, j < 40 → zR zS1 (140 + p) j = zrr zR1 (140 + p) j := by decide +kernel
set_option maxRecDepth 100000 in
theorem zS1_Rd15 : ∀ p, p < 8 → ∀ j, j < 40 → zR zS1 (150 + p) j = zrr zR1 (150 + p) j := by decide +kernel
theorem zS1_Rd (p : Nat) (hp : p < 158) (j : Nat) (hj : j < 40) : zR zS1 p j = zrr zR1 p j := by
  have e : 10 * (p / 10) + p % 10 = p := by omega
  have k := Nat.mod_lt p (show 0 < 10 by decide)
  rcases (by omega : p / 10 = 0 ∨ p / 10 = 1 ∨ p / 10 = 2 ∨ p / 10 = 3 ∨ p / 10 = 4 ∨ p / 10 = 5 ∨ p / 10 = 6 ∨ p / 10 = 7 ∨ p / 10 = 8 ∨ p / 10 = 9 ∨ p / 10 = 10 ∨ p / 10 = 11 ∨ p / 10 = 12 ∨ p / 10 = 13 ∨ p / 10 = 14 ∨ p / 10 = 15) with q | q | q | q | q | q | q | q | q | q | q | q | q | q | q | q <;> rw [q] at e <;> rw [← e]
  · exact zS1_Rd0 (p % 10) (by omega) j hj
  · exact zS1_Rd1 (p % 10) (by omega) j hj
  · exact zS1_Rd2 (p % 10) (by omega) j hj
  · exact zS1_Rd3 (p % 10) (by omega) j hj
  · exact zS1_Rd4 (p % 10) (by omega) j hj
  · exact zS1_Rd5 (p % 10) (by omega) j hj
  · exact zS1_Rd6 (p % 10) (by omega) j hj
  · exact zS1_Rd7 (p % 10) (by omega) j hj
  · exact zS1_Rd8 (p % 10) (by omega) j hj
  · exact zS1_Rd9 (p % 10) (by omega) j hj
  · exact zS1_Rd10 (p % 10) (by omega) j hj
  · exact zS1_Rd11 (p % 10) (by omega) j hj
  · exact zS1_Rd12 (p % 10) (by omega) j hj
  · exact zS1_Rd13 (p % 10) (by omega) j hj
  · exact zS1_Rd14 (p % 10) (by omega) j hj
  · exact zS1_Rd15 (p % 10) (by omega) j hj
set_option maxRecDepth 100000 in
theorem zS1_Td : ∀ p, p < 158 → zT zS1 p = ztt p := by decide +kernel
theorem mk_of (S : zS) {l : Nat → Nat → Int64} {R : Nat → Nat} (hL : S.2.1 = l) (hN : zN S = 158) (hC : zC S = 4089) (hR : ∀ p j, zR S p j = zrr R p j) (hT : ∀ p, zT S p = ztt p) : S = mk S.1 l R := by
  obtain ⟨f, l', r, t, n, c⟩ := S
  have e1 : r = zrr R := funext fun p => funext fun j => hR p j
  have e2 : t = ztt := funext fun p => hT p
  have e3 : n = 158 := hN
  have e4 : c = 4089 := hC
  have e5 : l' = l := hL
  subst e1 e2 e3 e4 e5
  rfl
theorem zS1_def : zS1 = zrun zops zs0 := rfl
theorem zs0_R : ∀ p j, (158 ≤ p ∨ 40 ≤ j) → zR zs0 p j = 0 := by
  intro p j h
  show zs0R p j = 0
  unfold zs0R
  split <;> first | rfl | omega
theorem zops_ok : (zops.all fun w => Nat.ble w.1 1 || (Nat.ble (w.2.1 + 1) 158 && Nat.ble (w.2.2.1 + 1) 40)) = true := by decide +kernel
theorem zS1_R (p j : Nat) : zR zS1 p j = zrr zR1 p j := by
  by_cases h : 158 ≤ p ∨ 40 ≤ j
  · rw [zrr_hi h, zS1_def]
    exact zrun_R 40 zops zs0 zops_ok zs0_R p j h
  · exact zS1_Rd p (by omega) j (by omega)
theorem zS1_Tn : zN (zrun zops zs0) = 158 := zS1_N
theorem zS1_T (p : Nat) : zT zS1 p = ztt p := by
  by_cases h : p < 158
  · exact zS1_Td p h
  · have h1 : ztl.length = 158 := rfl
    rw [show ztt p = (0, 0) by unfold ztt; rw [List.getD_eq_getElem?_getD, List.getElem?_eq_none (by omega)]; rfl]
    have h2 : ∀ S : zS, S = zrun zops zs0 → zN S ≤ p → zT S p = (0, 0) := fun S e => by
      rw [e]
      exact zrun_T zops zs0 (fun p h => zs0T_hi p h) p
    exact h2 zS1 zS1_def (by rw [zS1_N]; omega)
theorem zS1_L : zS1.2.1 = zl1 := by
  rw [zS1_def, zrun_L zops zs0]
  rfl
theorem zS1_mk : zS1 = mk zf1 zl1 zR1 := mk_of zS1 zS1_L zS1_N zS1_C zS1_R zS1_T
set_option maxRecDepth 100000 in
set_option maxHeartbeats 4000000 in
theorem zctor : (bv (fn_Ls_init 16 (uN zs0 (109, 12))) fun S3 => fn_Mo_init 137 (uN S3 (110, 32))) = some zS1 := by
  with_unfolding_all rfl
