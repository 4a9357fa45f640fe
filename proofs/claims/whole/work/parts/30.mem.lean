/-! THE MEMORY AFTER THE CONSTRUCTORS: shapes and references as tables; f: ints, l: longs, R: the five references that change -/
def ztl : List (Nat × Nat) := [(0, 0), (1, 7), (1, 21), (9, 0), (7, 3), (7, 3), (7, 3), (8, 4), (8, 5), (8, 4), (0, 0), (0, 0),
  (0, 0), (0, 0), (0, 0), (0, 0), (109, 12), (4, 6), (5, 6), (103, 5), (1, 100), (102, 4), (1, 0), (1, 0),
  (107, 5), (1, 24), (1, 6), (1, 6), (106, 5), (1, 6), (1, 3), (1, 3), (100, 3), (1, 20), (105, 8), (1, 4),
  (105, 8), (1, 4), (102, 4), (1, 0), (1, 0), (101, 9), (6, 6), (1, 4), (1, 4), (104, 3), (1, 15), (104, 3),
  (1, 24), (104, 3), (1, 24), (105, 8), (1, 4), (105, 8), (1, 4), (105, 8), (1, 4), (105, 8), (1, 4), (105, 8),
  (1, 4), (105, 8), (1, 4), (101, 9), (6, 6), (1, 4), (1, 4), (104, 3), (1, 15), (104, 3), (1, 24), (104, 3),
  (1, 24), (105, 8), (1, 4), (105, 8), (1, 4), (105, 8), (1, 4), (105, 8), (1, 4), (105, 8), (1, 4), (105, 8),
  (1, 4), (101, 9), (6, 6), (1, 4), (1, 4), (104, 3), (1, 15), (104, 3), (1, 24), (104, 3), (1, 24), (105, 8),
  (1, 4), (105, 8), (1, 4), (105, 8), (1, 4), (105, 8), (1, 4), (105, 8), (1, 4), (105, 8), (1, 4), (102, 4),
  (1, 100), (1, 100), (102, 4), (1, 100), (1, 100), (102, 4), (1, 100), (1, 100), (102, 4), (1, 100), (1, 100), (102, 4),
  (1, 100), (1, 100), (102, 4), (1, 100), (1, 100), (108, 3), (3, 60), (108, 3), (3, 60), (108, 3), (3, 60), (108, 3),
  (3, 60), (108, 3), (3, 60), (108, 3), (3, 60), (110, 32), (1, 121), (1, 121), (1, 121), (1, 100), (1, 600), (1, 6),
  (1, 100), (1, 6), (2, 6), (2, 15), (1, 6), (1, 6), (1, 24), (1, 7), (1, 21), (1, 20), (1, 6), (1, 6),
  (3, 360), (3, 60)]
def ztt (p : Nat) : Nat × Nat := ztl.getD p (0, 0)
def zrl : List (List Nat) := [[], [], [], [], [7], [8], [9], [], [], [], [], [],
  [], [], [], [], [17, 18, 19, 24, 28, 32, 36, 41, 63, 85], [107, 110, 113, 116, 119, 122], [125, 127, 129, 131, 133, 135], [20], [], [22, 23], [], [],
  [25, 26, 27], [], [], [], [29, 30, 31], [], [], [], [33], [], [35], [],
  [37], [], [39, 40], [], [], [42, 43, 44, 45, 47, 49], [51, 53, 55, 57, 59, 61], [], [], [46], [], [48],
  [], [50], [], [52], [], [54], [], [56], [], [58], [], [60],
  [], [62], [], [64, 65, 66, 67, 69, 71], [73, 75, 77, 79, 81, 83], [], [], [68], [], [70], [], [72],
  [], [74], [], [76], [], [78], [], [80], [], [82], [], [84],
  [], [86, 87, 88, 89, 91, 93], [95, 97, 99, 101, 103, 105], [], [], [90], [], [92], [], [94], [], [96],
  [], [98], [], [100], [], [102], [], [104], [], [106], [], [108, 109],
  [], [], [111, 112], [], [], [114, 115], [], [], [117, 118], [], [], [120, 121],
  [], [], [123, 124], [], [], [126], [], [128], [], [130], [], [132],
  [], [134], [], [136], [], [138, 139, 140, 0, 141, 0, 142, 143, 0, 144, 0, 0, 0, 0, 0, 0, 145, 146, 147, 148, 149, 0, 150, 0, 151, 152, 153, 0, 154, 155, 156, 157], [], [], [], [], [], [],
  [], [], [], [], [], [], [], [], [], [], [], [],
  [], []]
def zrr (R : Nat → Nat) (p j : Nat) : Nat := cond (Nat.beq p 41 && Nat.beq j 8) (R 41) (cond (Nat.beq p 63 && Nat.beq j 8) (R 63) (cond (Nat.beq p 85 && Nat.beq j 8) (R 85) (cond (Nat.beq p 19 && Nat.beq j 4) (R 19) (cond (Nat.beq p 32 && Nat.beq j 2) (R 32) ((zrl.getD p []).getD j 0)))))
def mk (f : Nat → Nat → Int32) (l : Nat → Nat → Int64) (R : Nat → Nat) : zS := (f, l, zrr R, ztt, 158, 4089)
def up {α : Type} (f : Nat → Nat → α) (p j : Nat) (x : α) : Nat → Nat → α := fun q k => if q = p ∧ k = j then x else f q k
def ur (R : Nat → Nat) (p x : Nat) : Nat → Nat := fun q => if q = p then x else R q
def kp {α : Type} (f : Nat → Nat → α) (p sp q dp n : Nat) : Nat → Nat → α := fun r k => if r = q ∧ dp ≤ k ∧ k < dp + n then f p (sp + (k - dp)) else f r k
theorem up_eq {α : Type} {f : Nat → Nat → α} {p j : Nat} {x : α} : up f p j x p j = x := if_pos ⟨rfl, rfl⟩
theorem up_np {α : Type} {f : Nat → Nat → α} {p j q k : Nat} {x : α} (h : ¬ q = p) : up f p j x q k = f q k := if_neg (fun e => h e.1)
theorem up_nj {α : Type} {f : Nat → Nat → α} {p j q k : Nat} {x : α} (h : ¬ k = j) : up f p j x q k = f q k := if_neg (fun e => h e.2)
theorem up_row {α : Type} {f : Nat → Nat → α} {p j q : Nat} {x : α} (h : ¬ q = p) : up f p j x q = f q := funext fun _ => up_np h
theorem up_at {α : Type} {f : Nat → Nat → α} {p j k : Nat} {x : α} : up f p j x p k = if k = j then x else f p k := by
  unfold up
  by_cases h : k = j
  · rw [if_pos ⟨rfl, h⟩, if_pos h]
  · rw [if_neg (fun e => h e.2), if_neg h]
theorem kp_np {α : Type} {f : Nat → Nat → α} {p sp q dp n r k : Nat} (h : ¬ r = q) : kp f p sp q dp n r k = f r k := if_neg (fun e => h e.1)
theorem kp_row {α : Type} {f : Nat → Nat → α} {p sp q dp n r : Nat} (h : ¬ r = q) : kp f p sp q dp n r = f r := funext fun _ => kp_np h
theorem kp_in {α : Type} {f : Nat → Nat → α} {p q n k : Nat} (h : k < n) : kp f p 0 q 0 n q k = f p k := by
  unfold kp
  rw [if_pos ⟨rfl, Nat.zero_le _, by omega⟩, Nat.zero_add, Nat.sub_zero]
theorem kp_out {α : Type} {f : Nat → Nat → α} {p sp q dp n k : Nat} (h : ¬ (dp ≤ k ∧ k < dp + n)) : kp f p sp q dp n q k = f q k := if_neg (fun e => h e.2)
theorem zI_mk (f : Nat → Nat → Int32) (l : Nat → Nat → Int64) (R : Nat → Nat) (p j : Nat) : zI (mk f l R) p j = f p j := Eq.trans rfl rfl
theorem zL_mk (f : Nat → Nat → Int32) (l : Nat → Nat → Int64) (R : Nat → Nat) (p j : Nat) : zL (mk f l R) p j = l p j := Eq.trans rfl rfl
theorem zN_mk (f : Nat → Nat → Int32) (l : Nat → Nat → Int64) (R : Nat → Nat) : zN (mk f l R) = 158 := Eq.trans rfl rfl
theorem zC_mk (f : Nat → Nat → Int32) (l : Nat → Nat → Int64) (R : Nat → Nat) : zC (mk f l R) = 4089 := Eq.trans rfl rfl
theorem uI_mk (f : Nat → Nat → Int32) (l : Nat → Nat → Int64) (R : Nat → Nat) (p j : Nat) (x : Int32) : uI (mk f l R) p j x = mk (up f p j x) l R := Eq.trans rfl rfl
theorem uL_mk (f : Nat → Nat → Int32) (l : Nat → Nat → Int64) (R : Nat → Nat) (p j : Nat) (x : Int64) : uL (mk f l R) p j x = mk f (up l p j x) R := Eq.trans rfl rfl
theorem kI_mk (f : Nat → Nat → Int32) (l : Nat → Nat → Int64) (R : Nat → Nat) (p sp q dp n : Nat) : kI (mk f l R) p sp q dp n = mk (kp f p sp q dp n) l R := Eq.trans rfl rfl
theorem kL_mk (f : Nat → Nat → Int32) (l : Nat → Nat → Int64) (R : Nat → Nat) (p sp q dp n : Nat) : kL (mk f l R) p sp q dp n = mk f (kp l p sp q dp n) R := Eq.trans rfl rfl
theorem zR_mk_19_4 (f : Nat → Nat → Int32) (l : Nat → Nat → Int64) (R : Nat → Nat) : zR (mk f l R) 19 4 = R 19 := Eq.trans rfl rfl
theorem zR_mk_32_2 (f : Nat → Nat → Int32) (l : Nat → Nat → Int64) (R : Nat → Nat) : zR (mk f l R) 32 2 = R 32 := Eq.trans rfl rfl
theorem zR_mk_41_8 (f : Nat → Nat → Int32) (l : Nat → Nat → Int64) (R : Nat → Nat) : zR (mk f l R) 41 8 = R 41 := Eq.trans rfl rfl
theorem zR_mk_63_8 (f : Nat → Nat → Int32) (l : Nat → Nat → Int64) (R : Nat → Nat) : zR (mk f l R) 63 8 = R 63 := Eq.trans rfl rfl
theorem zR_mk_85_8 (f : Nat → Nat → Int32) (l : Nat → Nat → Int64) (R : Nat → Nat) : zR (mk f l R) 85 8 = R 85 := Eq.trans rfl rfl
theorem zrr_u {R : Nat → Nat} {x : Nat} {P J : Nat} (h : (P = 41 ∧ J = 8) ∨ (P = 63 ∧ J = 8) ∨ (P = 85 ∧ J = 8) ∨ (P = 19 ∧ J = 4) ∨ (P = 32 ∧ J = 2)) (q k : Nat) : (if q = P ∧ k = J then x else zrr R q k) = zrr (ur R P x) q k := by
  by_cases e : q = P ∧ k = J
  · rw [if_pos e]
    obtain ⟨rfl, rfl⟩ := e
    rcases h with ⟨rfl, rfl⟩ | ⟨rfl, rfl⟩ | ⟨rfl, rfl⟩ | ⟨rfl, rfl⟩ | ⟨rfl, rfl⟩ <;> rfl
  · rw [if_neg e]
    have b : ∀ a c : Nat, (a = P ∧ c = J) → (Nat.beq q a && Nat.beq k c) = false := by
      intro a c ⟨ha, hc⟩
      subst ha
      subst hc
      cases h1 : Nat.beq q a with
      | false => rfl
      | true => cases h2 : Nat.beq k c with
        | false => rfl
        | true => exact absurd ⟨Nat.eq_of_beq_eq_true h1, Nat.eq_of_beq_eq_true h2⟩ e
    have g : ∀ a, ¬ a = P → ur R P x a = R a := fun a ha => if_neg ha
    unfold zrr
    rcases h with ⟨rfl, rfl⟩ | ⟨rfl, rfl⟩ | ⟨rfl, rfl⟩ | ⟨rfl, rfl⟩ | ⟨rfl, rfl⟩
    · rw [b 41 8 ⟨rfl, rfl⟩, g 63 (by decide), g 85 (by decide), g 19 (by decide), g 32 (by decide)]; rfl
    · rw [b 63 8 ⟨rfl, rfl⟩, g 41 (by decide), g 85 (by decide), g 19 (by decide), g 32 (by decide)]; rfl
    · rw [b 85 8 ⟨rfl, rfl⟩, g 41 (by decide), g 63 (by decide), g 19 (by decide), g 32 (by decide)]; rfl
    · rw [b 19 4 ⟨rfl, rfl⟩, g 41 (by decide), g 63 (by decide), g 85 (by decide), g 32 (by decide)]; rfl
    · rw [b 32 2 ⟨rfl, rfl⟩, g 41 (by decide), g 63 (by decide), g 85 (by decide), g 19 (by decide)]; rfl
theorem uR_mk {P J : Nat} (h : (P = 41 ∧ J = 8) ∨ (P = 63 ∧ J = 8) ∨ (P = 85 ∧ J = 8) ∨ (P = 19 ∧ J = 4) ∨ (P = 32 ∧ J = 2)) (f : Nat → Nat → Int32) (l : Nat → Nat → Int64) (R : Nat → Nat) (x : Nat) : uR (mk f l R) P J x = mk f l (ur R P x) := by
  show (f, l, (fun q k => if q = P ∧ k = J then x else zrr R q k), ztt, 158, 4089) = mk f l (ur R P x)
  rw [show (fun q k => if q = P ∧ k = J then x else zrr R q k) = zrr (ur R P x) from funext fun q => funext fun k => zrr_u h q k]
  rfl
theorem uR_mk_19 (f : Nat → Nat → Int32) (l : Nat → Nat → Int64) (R : Nat → Nat) (x : Nat) : uR (mk f l R) 19 4 x = mk f l (ur R 19 x) := uR_mk (by decide) f l R x
theorem uR_mk_32 (f : Nat → Nat → Int32) (l : Nat → Nat → Int64) (R : Nat → Nat) (x : Nat) : uR (mk f l R) 32 2 x = mk f l (ur R 32 x) := uR_mk (by decide) f l R x
theorem uR_mk_41 (f : Nat → Nat → Int32) (l : Nat → Nat → Int64) (R : Nat → Nat) (x : Nat) : uR (mk f l R) 41 8 x = mk f l (ur R 41 x) := uR_mk (by decide) f l R x
theorem uR_mk_63 (f : Nat → Nat → Int32) (l : Nat → Nat → Int64) (R : Nat → Nat) (x : Nat) : uR (mk f l R) 63 8 x = mk f l (ur R 63 x) := uR_mk (by decide) f l R x
theorem uR_mk_85 (f : Nat → Nat → Int32) (l : Nat → Nat → Int64) (R : Nat → Nat) (x : Nat) : uR (mk f l R) 85 8 x = mk f l (ur R 85 x) := uR_mk (by decide) f l R x
theorem gT_mk_1 (f : Nat → Nat → Int32) (l : Nat → Nat → Int64) (R : Nat → Nat) : gT (mk f l R) 1 1 = true := Eq.trans rfl rfl
theorem zT_mk_1 (f : Nat → Nat → Int32) (l : Nat → Nat → Int64) (R : Nat → Nat) : (zT (mk f l R) 1).2 = 7 := Eq.trans rfl rfl
theorem gT_mk_2 (f : Nat → Nat → Int32) (l : Nat → Nat → Int64) (R : Nat → Nat) : gT (mk f l R) 2 1 = true := Eq.trans rfl rfl
theorem zT_mk_2 (f : Nat → Nat → Int32) (l : Nat → Nat → Int64) (R : Nat → Nat) : (zT (mk f l R) 2).2 = 21 := Eq.trans rfl rfl
theorem gT_mk_4 (f : Nat → Nat → Int32) (l : Nat → Nat → Int64) (R : Nat → Nat) : gT (mk f l R) 4 7 = true := Eq.trans rfl rfl
theorem zT_mk_4 (f : Nat → Nat → Int32) (l : Nat → Nat → Int64) (R : Nat → Nat) : (zT (mk f l R) 4).2 = 3 := Eq.trans rfl rfl
theorem zR_mk_4_0 (f : Nat → Nat → Int32) (l : Nat → Nat → Int64) (R : Nat → Nat) : zR (mk f l R) 4 0 = 7 := Eq.trans rfl rfl
theorem gT_mk_5 (f : Nat → Nat → Int32) (l : Nat → Nat → Int64) (R : Nat → Nat) : gT (mk f l R) 5 7 = true := Eq.trans rfl rfl
theorem zT_mk_5 (f : Nat → Nat → Int32) (l : Nat → Nat → Int64) (R : Nat → Nat) : (zT (mk f l R) 5).2 = 3 := Eq.trans rfl rfl
theorem zR_mk_5_0 (f : Nat → Nat → Int32) (l : Nat → Nat → Int64) (R : Nat → Nat) : zR (mk f l R) 5 0 = 8 := Eq.trans rfl rfl
theorem gT_mk_6 (f : Nat → Nat → Int32) (l : Nat → Nat → Int64) (R : Nat → Nat) : gT (mk f l R) 6 7 = true := Eq.trans rfl rfl
theorem zT_mk_6 (f : Nat → Nat → Int32) (l : Nat → Nat → Int64) (R : Nat → Nat) : (zT (mk f l R) 6).2 = 3 := Eq.trans rfl rfl
theorem zR_mk_6_0 (f : Nat → Nat → Int32) (l : Nat → Nat → Int64) (R : Nat → Nat) : zR (mk f l R) 6 0 = 9 := Eq.trans rfl rfl
theorem gT_mk_7 (f : Nat → Nat → Int32) (l : Nat → Nat → Int64) (R : Nat → Nat) : gT (mk f l R) 7 8 = true := Eq.trans rfl rfl
theorem zT_mk_7 (f : Nat → Nat → Int32) (l : Nat → Nat → Int64) (R : Nat → Nat) : (zT (mk f l R) 7).2 = 4 := Eq.trans rfl rfl
theorem gT_mk_8 (f : Nat → Nat → Int32) (l : Nat → Nat → Int64) (R : Nat → Nat) : gT (mk f l R) 8 8 = true := Eq.trans rfl rfl
theorem zT_mk_8 (f : Nat → Nat → Int32) (l : Nat → Nat → Int64) (R : Nat → Nat) : (zT (mk f l R) 8).2 = 5 := Eq.trans rfl rfl
theorem gT_mk_9 (f : Nat → Nat → Int32) (l : Nat → Nat → Int64) (R : Nat → Nat) : gT (mk f l R) 9 8 = true := Eq.trans rfl rfl
theorem zT_mk_9 (f : Nat → Nat → Int32) (l : Nat → Nat → Int64) (R : Nat → Nat) : (zT (mk f l R) 9).2 = 4 := Eq.trans rfl rfl
theorem gT_mk_16 (f : Nat → Nat → Int32) (l : Nat → Nat → Int64) (R : Nat → Nat) : gT (mk f l R) 16 109 = true := Eq.trans rfl rfl
theorem zT_mk_16 (f : Nat → Nat → Int32) (l : Nat → Nat → Int64) (R : Nat → Nat) : (zT (mk f l R) 16).2 = 12 := Eq.trans rfl rfl
theorem zR_mk_16_0 (f : Nat → Nat → Int32) (l : Nat → Nat → Int64) (R : Nat → Nat) : zR (mk f l R) 16 0 = 17 := Eq.trans rfl rfl
theorem zR_mk_16_1 (f : Nat → Nat → Int32) (l : Nat → Nat → Int64) (R : Nat → Nat) : zR (mk f l R) 16 1 = 18 := Eq.trans rfl rfl
theorem zR_mk_16_2 (f : Nat → Nat → Int32) (l : Nat → Nat → Int64) (R : Nat → Nat) : zR (mk f l R) 16 2 = 19 := Eq.trans rfl rfl
theorem zR_mk_16_3 (f : Nat → Nat → Int32) (l : Nat → Nat → Int64) (R : Nat → Nat) : zR (mk f l R) 16 3 = 24 := Eq.trans rfl rfl
theorem zR_mk_16_4 (f : Nat → Nat → Int32) (l : Nat → Nat → Int64) (R : Nat → Nat) : zR (mk f l R) 16 4 = 28 := Eq.trans rfl rfl
theorem zR_mk_16_5 (f : Nat → Nat → Int32) (l : Nat → Nat → Int64) (R : Nat → Nat) : zR (mk f l R) 16 5 = 32 := Eq.trans rfl rfl
theorem zR_mk_16_6 (f : Nat → Nat → Int32) (l : Nat → Nat → Int64) (R : Nat → Nat) : zR (mk f l R) 16 6 = 36 := Eq.trans rfl rfl
theorem zR_mk_16_7 (f : Nat → Nat → Int32) (l : Nat → Nat → Int64) (R : Nat → Nat) : zR (mk f l R) 16 7 = 41 := Eq.trans rfl rfl
theorem zR_mk_16_8 (f : Nat → Nat → Int32) (l : Nat → Nat → Int64) (R : Nat → Nat) : zR (mk f l R) 16 8 = 63 := Eq.trans rfl rfl
theorem zR_mk_16_9 (f : Nat → Nat → Int32) (l : Nat → Nat → Int64) (R : Nat → Nat) : zR (mk f l R) 16 9 = 85 := Eq.trans rfl rfl
theorem gT_mk_17 (f : Nat → Nat → Int32) (l : Nat → Nat → Int64) (R : Nat → Nat) : gT (mk f l R) 17 4 = true := Eq.trans rfl rfl
theorem zT_mk_17 (f : Nat → Nat → Int32) (l : Nat → Nat → Int64) (R : Nat → Nat) : (zT (mk f l R) 17).2 = 6 := Eq.trans rfl rfl
theorem zR_mk_17_0 (f : Nat → Nat → Int32) (l : Nat → Nat → Int64) (R : Nat → Nat) : zR (mk f l R) 17 0 = 107 := Eq.trans rfl rfl
theorem zR_mk_17_1 (f : Nat → Nat → Int32) (l : Nat → Nat → Int64) (R : Nat → Nat) : zR (mk f l R) 17 1 = 110 := Eq.trans rfl rfl
theorem zR_mk_17_2 (f : Nat → Nat → Int32) (l : Nat → Nat → Int64) (R : Nat → Nat) : zR (mk f l R) 17 2 = 113 := Eq.trans rfl rfl
theorem zR_mk_17_3 (f : Nat → Nat → Int32) (l : Nat → Nat → Int64) (R : Nat → Nat) : zR (mk f l R) 17 3 = 116 := Eq.trans rfl rfl
theorem zR_mk_17_4 (f : Nat → Nat → Int32) (l : Nat → Nat → Int64) (R : Nat → Nat) : zR (mk f l R) 17 4 = 119 := Eq.trans rfl rfl
theorem zR_mk_17_5 (f : Nat → Nat → Int32) (l : Nat → Nat → Int64) (R : Nat → Nat) : zR (mk f l R) 17 5 = 122 := Eq.trans rfl rfl
theorem gT_mk_18 (f : Nat → Nat → Int32) (l : Nat → Nat → Int64) (R : Nat → Nat) : gT (mk f l R) 18 5 = true := Eq.trans rfl rfl
theorem zT_mk_18 (f : Nat → Nat → Int32) (l : Nat → Nat → Int64) (R : Nat → Nat) : (zT (mk f l R) 18).2 = 6 := Eq.trans rfl rfl
theorem zR_mk_18_0 (f : Nat → Nat → Int32) (l : Nat → Nat → Int64) (R : Nat → Nat) : zR (mk f l R) 18 0 = 125 := Eq.trans rfl rfl
theorem zR_mk_18_1 (f : Nat → Nat → Int32) (l : Nat → Nat → Int64) (R : Nat → Nat) : zR (mk f l R) 18 1 = 127 := Eq.trans rfl rfl
theorem zR_mk_18_2 (f : Nat → Nat → Int32) (l : Nat → Nat → Int64) (R : Nat → Nat) : zR (mk f l R) 18 2 = 129 := Eq.trans rfl rfl
theorem zR_mk_18_3 (f : Nat → Nat → Int32) (l : Nat → Nat → Int64) (R : Nat → Nat) : zR (mk f l R) 18 3 = 131 := Eq.trans rfl rfl
theorem zR_mk_18_4 (f : Nat → Nat → Int32) (l : Nat → Nat → Int64) (R : Nat → Nat) : zR (mk f l R) 18 4 = 133 := Eq.trans rfl rfl
theorem zR_mk_18_5 (f : Nat → Nat → Int32) (l : Nat → Nat → Int64) (R : Nat → Nat) : zR (mk f l R) 18 5 = 135 := Eq.trans rfl rfl
theorem gT_mk_19 (f : Nat → Nat → Int32) (l : Nat → Nat → Int64) (R : Nat → Nat) : gT (mk f l R) 19 103 = true := Eq.trans rfl rfl
theorem zT_mk_19 (f : Nat → Nat → Int32) (l : Nat → Nat → Int64) (R : Nat → Nat) : (zT (mk f l R) 19).2 = 5 := Eq.trans rfl rfl
theorem zR_mk_19_0 (f : Nat → Nat → Int32) (l : Nat → Nat → Int64) (R : Nat → Nat) : zR (mk f l R) 19 0 = 20 := Eq.trans rfl rfl
theorem gT_mk_20 (f : Nat → Nat → Int32) (l : Nat → Nat → Int64) (R : Nat → Nat) : gT (mk f l R) 20 1 = true := Eq.trans rfl rfl
theorem zT_mk_20 (f : Nat → Nat → Int32) (l : Nat → Nat → Int64) (R : Nat → Nat) : (zT (mk f l R) 20).2 = 100 := Eq.trans rfl rfl
theorem gT_mk_21 (f : Nat → Nat → Int32) (l : Nat → Nat → Int64) (R : Nat → Nat) : gT (mk f l R) 21 102 = true := Eq.trans rfl rfl
theorem zT_mk_21 (f : Nat → Nat → Int32) (l : Nat → Nat → Int64) (R : Nat → Nat) : (zT (mk f l R) 21).2 = 4 := Eq.trans rfl rfl
theorem zR_mk_21_0 (f : Nat → Nat → Int32) (l : Nat → Nat → Int64) (R : Nat → Nat) : zR (mk f l R) 21 0 = 22 := Eq.trans rfl rfl
theorem zR_mk_21_1 (f : Nat → Nat → Int32) (l : Nat → Nat → Int64) (R : Nat → Nat) : zR (mk f l R) 21 1 = 23 := Eq.trans rfl rfl
theorem gT_mk_22 (f : Nat → Nat → Int32) (l : Nat → Nat → Int64) (R : Nat → Nat) : gT (mk f l R) 22 1 = true := Eq.trans rfl rfl
theorem zT_mk_22 (f : Nat → Nat → Int32) (l : Nat → Nat → Int64) (R : Nat → Nat) : (zT (mk f l R) 22).2 = 0 := Eq.trans rfl rfl
theorem gT_mk_23 (f : Nat → Nat → Int32) (l : Nat → Nat → Int64) (R : Nat → Nat) : gT (mk f l R) 23 1 = true := Eq.trans rfl rfl
theorem zT_mk_23 (f : Nat → Nat → Int32) (l : Nat → Nat → Int64) (R : Nat → Nat) : (zT (mk f l R) 23).2 = 0 := Eq.trans rfl rfl
theorem gT_mk_24 (f : Nat → Nat → Int32) (l : Nat → Nat → Int64) (R : Nat → Nat) : gT (mk f l R) 24 107 = true := Eq.trans rfl rfl
theorem zT_mk_24 (f : Nat → Nat → Int32) (l : Nat → Nat → Int64) (R : Nat → Nat) : (zT (mk f l R) 24).2 = 5 := Eq.trans rfl rfl
theorem zR_mk_24_0 (f : Nat → Nat → Int32) (l : Nat → Nat → Int64) (R : Nat → Nat) : zR (mk f l R) 24 0 = 25 := Eq.trans rfl rfl
theorem zR_mk_24_1 (f : Nat → Nat → Int32) (l : Nat → Nat → Int64) (R : Nat → Nat) : zR (mk f l R) 24 1 = 26 := Eq.trans rfl rfl
theorem zR_mk_24_2 (f : Nat → Nat → Int32) (l : Nat → Nat → Int64) (R : Nat → Nat) : zR (mk f l R) 24 2 = 27 := Eq.trans rfl rfl
theorem gT_mk_25 (f : Nat → Nat → Int32) (l : Nat → Nat → Int64) (R : Nat → Nat) : gT (mk f l R) 25 1 = true := Eq.trans rfl rfl
theorem zT_mk_25 (f : Nat → Nat → Int32) (l : Nat → Nat → Int64) (R : Nat → Nat) : (zT (mk f l R) 25).2 = 24 := Eq.trans rfl rfl
theorem gT_mk_26 (f : Nat → Nat → Int32) (l : Nat → Nat → Int64) (R : Nat → Nat) : gT (mk f l R) 26 1 = true := Eq.trans rfl rfl
theorem zT_mk_26 (f : Nat → Nat → Int32) (l : Nat → Nat → Int64) (R : Nat → Nat) : (zT (mk f l R) 26).2 = 6 := Eq.trans rfl rfl
theorem gT_mk_27 (f : Nat → Nat → Int32) (l : Nat → Nat → Int64) (R : Nat → Nat) : gT (mk f l R) 27 1 = true := Eq.trans rfl rfl
theorem zT_mk_27 (f : Nat → Nat → Int32) (l : Nat → Nat → Int64) (R : Nat → Nat) : (zT (mk f l R) 27).2 = 6 := Eq.trans rfl rfl
theorem gT_mk_28 (f : Nat → Nat → Int32) (l : Nat → Nat → Int64) (R : Nat → Nat) : gT (mk f l R) 28 106 = true := Eq.trans rfl rfl
theorem zT_mk_28 (f : Nat → Nat → Int32) (l : Nat → Nat → Int64) (R : Nat → Nat) : (zT (mk f l R) 28).2 = 5 := Eq.trans rfl rfl
theorem zR_mk_28_0 (f : Nat → Nat → Int32) (l : Nat → Nat → Int64) (R : Nat → Nat) : zR (mk f l R) 28 0 = 29 := Eq.trans rfl rfl
theorem zR_mk_28_1 (f : Nat → Nat → Int32) (l : Nat → Nat → Int64) (R : Nat → Nat) : zR (mk f l R) 28 1 = 30 := Eq.trans rfl rfl
theorem zR_mk_28_2 (f : Nat → Nat → Int32) (l : Nat → Nat → Int64) (R : Nat → Nat) : zR (mk f l R) 28 2 = 31 := Eq.trans rfl rfl
theorem gT_mk_29 (f : Nat → Nat → Int32) (l : Nat → Nat → Int64) (R : Nat → Nat) : gT (mk f l R) 29 1 = true := Eq.trans rfl rfl
theorem zT_mk_29 (f : Nat → Nat → Int32) (l : Nat → Nat → Int64) (R : Nat → Nat) : (zT (mk f l R) 29).2 = 6 := Eq.trans rfl rfl
theorem gT_mk_30 (f : Nat → Nat → Int32) (l : Nat → Nat → Int64) (R : Nat → Nat) : gT (mk f l R) 30 1 = true := Eq.trans rfl rfl
theorem zT_mk_30 (f : Nat → Nat → Int32) (l : Nat → Nat → Int64) (R : Nat → Nat) : (zT (mk f l R) 30).2 = 3 := Eq.trans rfl rfl
theorem gT_mk_31 (f : Nat → Nat → Int32) (l : Nat → Nat → Int64) (R : Nat → Nat) : gT (mk f l R) 31 1 = true := Eq.trans rfl rfl
theorem zT_mk_31 (f : Nat → Nat → Int32) (l : Nat → Nat → Int64) (R : Nat → Nat) : (zT (mk f l R) 31).2 = 3 := Eq.trans rfl rfl
theorem gT_mk_32 (f : Nat → Nat → Int32) (l : Nat → Nat → Int64) (R : Nat → Nat) : gT (mk f l R) 32 100 = true := Eq.trans rfl rfl
theorem zT_mk_32 (f : Nat → Nat → Int32) (l : Nat → Nat → Int64) (R : Nat → Nat) : (zT (mk f l R) 32).2 = 3 := Eq.trans rfl rfl
theorem zR_mk_32_0 (f : Nat → Nat → Int32) (l : Nat → Nat → Int64) (R : Nat → Nat) : zR (mk f l R) 32 0 = 33 := Eq.trans rfl rfl
theorem gT_mk_33 (f : Nat → Nat → Int32) (l : Nat → Nat → Int64) (R : Nat → Nat) : gT (mk f l R) 33 1 = true := Eq.trans rfl rfl
theorem zT_mk_33 (f : Nat → Nat → Int32) (l : Nat → Nat → Int64) (R : Nat → Nat) : (zT (mk f l R) 33).2 = 20 := Eq.trans rfl rfl
theorem gT_mk_34 (f : Nat → Nat → Int32) (l : Nat → Nat → Int64) (R : Nat → Nat) : gT (mk f l R) 34 105 = true := Eq.trans rfl rfl
theorem zT_mk_34 (f : Nat → Nat → Int32) (l : Nat → Nat → Int64) (R : Nat → Nat) : (zT (mk f l R) 34).2 = 8 := Eq.trans rfl rfl
theorem zR_mk_34_0 (f : Nat → Nat → Int32) (l : Nat → Nat → Int64) (R : Nat → Nat) : zR (mk f l R) 34 0 = 35 := Eq.trans rfl rfl
theorem gT_mk_35 (f : Nat → Nat → Int32) (l : Nat → Nat → Int64) (R : Nat → Nat) : gT (mk f l R) 35 1 = true := Eq.trans rfl rfl
theorem zT_mk_35 (f : Nat → Nat → Int32) (l : Nat → Nat → Int64) (R : Nat → Nat) : (zT (mk f l R) 35).2 = 4 := Eq.trans rfl rfl
theorem gT_mk_36 (f : Nat → Nat → Int32) (l : Nat → Nat → Int64) (R : Nat → Nat) : gT (mk f l R) 36 105 = true := Eq.trans rfl rfl
theorem zT_mk_36 (f : Nat → Nat → Int32) (l : Nat → Nat → Int64) (R : Nat → Nat) : (zT (mk f l R) 36).2 = 8 := Eq.trans rfl rfl
theorem zR_mk_36_0 (f : Nat → Nat → Int32) (l : Nat → Nat → Int64) (R : Nat → Nat) : zR (mk f l R) 36 0 = 37 := Eq.trans rfl rfl
theorem gT_mk_37 (f : Nat → Nat → Int32) (l : Nat → Nat → Int64) (R : Nat → Nat) : gT (mk f l R) 37 1 = true := Eq.trans rfl rfl
theorem zT_mk_37 (f : Nat → Nat → Int32) (l : Nat → Nat → Int64) (R : Nat → Nat) : (zT (mk f l R) 37).2 = 4 := Eq.trans rfl rfl
theorem gT_mk_38 (f : Nat → Nat → Int32) (l : Nat → Nat → Int64) (R : Nat → Nat) : gT (mk f l R) 38 102 = true := Eq.trans rfl rfl
theorem zT_mk_38 (f : Nat → Nat → Int32) (l : Nat → Nat → Int64) (R : Nat → Nat) : (zT (mk f l R) 38).2 = 4 := Eq.trans rfl rfl
theorem zR_mk_38_0 (f : Nat → Nat → Int32) (l : Nat → Nat → Int64) (R : Nat → Nat) : zR (mk f l R) 38 0 = 39 := Eq.trans rfl rfl
theorem zR_mk_38_1 (f : Nat → Nat → Int32) (l : Nat → Nat → Int64) (R : Nat → Nat) : zR (mk f l R) 38 1 = 40 := Eq.trans rfl rfl
theorem gT_mk_39 (f : Nat → Nat → Int32) (l : Nat → Nat → Int64) (R : Nat → Nat) : gT (mk f l R) 39 1 = true := Eq.trans rfl rfl
theorem zT_mk_39 (f : Nat → Nat → Int32) (l : Nat → Nat → Int64) (R : Nat → Nat) : (zT (mk f l R) 39).2 = 0 := Eq.trans rfl rfl
theorem gT_mk_40 (f : Nat → Nat → Int32) (l : Nat → Nat → Int64) (R : Nat → Nat) : gT (mk f l R) 40 1 = true := Eq.trans rfl rfl
theorem zT_mk_40 (f : Nat → Nat → Int32) (l : Nat → Nat → Int64) (R : Nat → Nat) : (zT (mk f l R) 40).2 = 0 := Eq.trans rfl rfl
theorem gT_mk_41 (f : Nat → Nat → Int32) (l : Nat → Nat → Int64) (R : Nat → Nat) : gT (mk f l R) 41 101 = true := Eq.trans rfl rfl
theorem zT_mk_41 (f : Nat → Nat → Int32) (l : Nat → Nat → Int64) (R : Nat → Nat) : (zT (mk f l R) 41).2 = 9 := Eq.trans rfl rfl
theorem zR_mk_41_0 (f : Nat → Nat → Int32) (l : Nat → Nat → Int64) (R : Nat → Nat) : zR (mk f l R) 41 0 = 42 := Eq.trans rfl rfl
theorem zR_mk_41_1 (f : Nat → Nat → Int32) (l : Nat → Nat → Int64) (R : Nat → Nat) : zR (mk f l R) 41 1 = 43 := Eq.trans rfl rfl
theorem zR_mk_41_2 (f : Nat → Nat → Int32) (l : Nat → Nat → Int64) (R : Nat → Nat) : zR (mk f l R) 41 2 = 44 := Eq.trans rfl rfl
theorem zR_mk_41_3 (f : Nat → Nat → Int32) (l : Nat → Nat → Int64) (R : Nat → Nat) : zR (mk f l R) 41 3 = 45 := Eq.trans rfl rfl
theorem zR_mk_41_4 (f : Nat → Nat → Int32) (l : Nat → Nat → Int64) (R : Nat → Nat) : zR (mk f l R) 41 4 = 47 := Eq.trans rfl rfl
theorem zR_mk_41_5 (f : Nat → Nat → Int32) (l : Nat → Nat → Int64) (R : Nat → Nat) : zR (mk f l R) 41 5 = 49 := Eq.trans rfl rfl
theorem gT_mk_42 (f : Nat → Nat → Int32) (l : Nat → Nat → Int64) (R : Nat → Nat) : gT (mk f l R) 42 6 = true := Eq.trans rfl rfl
theorem zT_mk_42 (f : Nat → Nat → Int32) (l : Nat → Nat → Int64) (R : Nat → Nat) : (zT (mk f l R) 42).2 = 6 := Eq.trans rfl rfl
theorem zR_mk_42_0 (f : Nat → Nat → Int32) (l : Nat → Nat → Int64) (R : Nat → Nat) : zR (mk f l R) 42 0 = 51 := Eq.trans rfl rfl
theorem zR_mk_42_1 (f : Nat → Nat → Int32) (l : Nat → Nat → Int64) (R : Nat → Nat) : zR (mk f l R) 42 1 = 53 := Eq.trans rfl rfl
theorem zR_mk_42_2 (f : Nat → Nat → Int32) (l : Nat → Nat → Int64) (R : Nat → Nat) : zR (mk f l R) 42 2 = 55 := Eq.trans rfl rfl
theorem zR_mk_42_3 (f : Nat → Nat → Int32) (l : Nat → Nat → Int64) (R : Nat → Nat) : zR (mk f l R) 42 3 = 57 := Eq.trans rfl rfl
theorem zR_mk_42_4 (f : Nat → Nat → Int32) (l : Nat → Nat → Int64) (R : Nat → Nat) : zR (mk f l R) 42 4 = 59 := Eq.trans rfl rfl
theorem zR_mk_42_5 (f : Nat → Nat → Int32) (l : Nat → Nat → Int64) (R : Nat → Nat) : zR (mk f l R) 42 5 = 61 := Eq.trans rfl rfl
theorem gT_mk_43 (f : Nat → Nat → Int32) (l : Nat → Nat → Int64) (R : Nat → Nat) : gT (mk f l R) 43 1 = true := Eq.trans rfl rfl
theorem zT_mk_43 (f : Nat → Nat → Int32) (l : Nat → Nat → Int64) (R : Nat → Nat) : (zT (mk f l R) 43).2 = 4 := Eq.trans rfl rfl
theorem gT_mk_44 (f : Nat → Nat → Int32) (l : Nat → Nat → Int64) (R : Nat → Nat) : gT (mk f l R) 44 1 = true := Eq.trans rfl rfl
theorem zT_mk_44 (f : Nat → Nat → Int32) (l : Nat → Nat → Int64) (R : Nat → Nat) : (zT (mk f l R) 44).2 = 4 := Eq.trans rfl rfl
theorem gT_mk_45 (f : Nat → Nat → Int32) (l : Nat → Nat → Int64) (R : Nat → Nat) : gT (mk f l R) 45 104 = true := Eq.trans rfl rfl
theorem zT_mk_45 (f : Nat → Nat → Int32) (l : Nat → Nat → Int64) (R : Nat → Nat) : (zT (mk f l R) 45).2 = 3 := Eq.trans rfl rfl
theorem zR_mk_45_0 (f : Nat → Nat → Int32) (l : Nat → Nat → Int64) (R : Nat → Nat) : zR (mk f l R) 45 0 = 46 := Eq.trans rfl rfl
theorem gT_mk_46 (f : Nat → Nat → Int32) (l : Nat → Nat → Int64) (R : Nat → Nat) : gT (mk f l R) 46 1 = true := Eq.trans rfl rfl
theorem zT_mk_46 (f : Nat → Nat → Int32) (l : Nat → Nat → Int64) (R : Nat → Nat) : (zT (mk f l R) 46).2 = 15 := Eq.trans rfl rfl
theorem gT_mk_47 (f : Nat → Nat → Int32) (l : Nat → Nat → Int64) (R : Nat → Nat) : gT (mk f l R) 47 104 = true := Eq.trans rfl rfl
theorem zT_mk_47 (f : Nat → Nat → Int32) (l : Nat → Nat → Int64) (R : Nat → Nat) : (zT (mk f l R) 47).2 = 3 := Eq.trans rfl rfl
theorem zR_mk_47_0 (f : Nat → Nat → Int32) (l : Nat → Nat → Int64) (R : Nat → Nat) : zR (mk f l R) 47 0 = 48 := Eq.trans rfl rfl
theorem gT_mk_48 (f : Nat → Nat → Int32) (l : Nat → Nat → Int64) (R : Nat → Nat) : gT (mk f l R) 48 1 = true := Eq.trans rfl rfl
theorem zT_mk_48 (f : Nat → Nat → Int32) (l : Nat → Nat → Int64) (R : Nat → Nat) : (zT (mk f l R) 48).2 = 24 := Eq.trans rfl rfl
theorem gT_mk_49 (f : Nat → Nat → Int32) (l : Nat → Nat → Int64) (R : Nat → Nat) : gT (mk f l R) 49 104 = true := Eq.trans rfl rfl
theorem zT_mk_49 (f : Nat → Nat → Int32) (l : Nat → Nat → Int64) (R : Nat → Nat) : (zT (mk f l R) 49).2 = 3 := Eq.trans rfl rfl
theorem zR_mk_49_0 (f : Nat → Nat → Int32) (l : Nat → Nat → Int64) (R : Nat → Nat) : zR (mk f l R) 49 0 = 50 := Eq.trans rfl rfl
theorem gT_mk_50 (f : Nat → Nat → Int32) (l : Nat → Nat → Int64) (R : Nat → Nat) : gT (mk f l R) 50 1 = true := Eq.trans rfl rfl
theorem zT_mk_50 (f : Nat → Nat → Int32) (l : Nat → Nat → Int64) (R : Nat → Nat) : (zT (mk f l R) 50).2 = 24 := Eq.trans rfl rfl
theorem gT_mk_51 (f : Nat → Nat → Int32) (l : Nat → Nat → Int64) (R : Nat → Nat) : gT (mk f l R) 51 105 = true := Eq.trans rfl rfl
theorem zT_mk_51 (f : Nat → Nat → Int32) (l : Nat → Nat → Int64) (R : Nat → Nat) : (zT (mk f l R) 51).2 = 8 := Eq.trans rfl rfl
theorem zR_mk_51_0 (f : Nat → Nat → Int32) (l : Nat → Nat → Int64) (R : Nat → Nat) : zR (mk f l R) 51 0 = 52 := Eq.trans rfl rfl
theorem gT_mk_52 (f : Nat → Nat → Int32) (l : Nat → Nat → Int64) (R : Nat → Nat) : gT (mk f l R) 52 1 = true := Eq.trans rfl rfl
theorem zT_mk_52 (f : Nat → Nat → Int32) (l : Nat → Nat → Int64) (R : Nat → Nat) : (zT (mk f l R) 52).2 = 4 := Eq.trans rfl rfl
theorem gT_mk_53 (f : Nat → Nat → Int32) (l : Nat → Nat → Int64) (R : Nat → Nat) : gT (mk f l R) 53 105 = true := Eq.trans rfl rfl
theorem zT_mk_53 (f : Nat → Nat → Int32) (l : Nat → Nat → Int64) (R : Nat → Nat) : (zT (mk f l R) 53).2 = 8 := Eq.trans rfl rfl
theorem zR_mk_53_0 (f : Nat → Nat → Int32) (l : Nat → Nat → Int64) (R : Nat → Nat) : zR (mk f l R) 53 0 = 54 := Eq.trans rfl rfl
theorem gT_mk_54 (f : Nat → Nat → Int32) (l : Nat → Nat → Int64) (R : Nat → Nat) : gT (mk f l R) 54 1 = true := Eq.trans rfl rfl
theorem zT_mk_54 (f : Nat → Nat → Int32) (l : Nat → Nat → Int64) (R : Nat → Nat) : (zT (mk f l R) 54).2 = 4 := Eq.trans rfl rfl
theorem gT_mk_55 (f : Nat → Nat → Int32) (l : Nat → Nat → Int64) (R : Nat → Nat) : gT (mk f l R) 55 105 = true := Eq.trans rfl rfl
theorem zT_mk_55 (f : Nat → Nat → Int32) (l : Nat → Nat → Int64) (R : Nat → Nat) : (zT (mk f l R) 55).2 = 8 := Eq.trans rfl rfl
theorem zR_mk_55_0 (f : Nat → Nat → Int32) (l : Nat → Nat → Int64) (R : Nat → Nat) : zR (mk f l R) 55 0 = 56 := Eq.trans rfl rfl
theorem gT_mk_56 (f : Nat → Nat → Int32) (l : Nat → Nat → Int64) (R : Nat → Nat) : gT (mk f l R) 56 1 = true := Eq.trans rfl rfl
theorem zT_mk_56 (f : Nat → Nat → Int32) (l : Nat → Nat → Int64) (R : Nat → Nat) : (zT (mk f l R) 56).2 = 4 := Eq.trans rfl rfl
theorem gT_mk_57 (f : Nat → Nat → Int32) (l : Nat → Nat → Int64) (R : Nat → Nat) : gT (mk f l R) 57 105 = true := Eq.trans rfl rfl
theorem zT_mk_57 (f : Nat → Nat → Int32) (l : Nat → Nat → Int64) (R : Nat → Nat) : (zT (mk f l R) 57).2 = 8 := Eq.trans rfl rfl
theorem zR_mk_57_0 (f : Nat → Nat → Int32) (l : Nat → Nat → Int64) (R : Nat → Nat) : zR (mk f l R) 57 0 = 58 := Eq.trans rfl rfl
theorem gT_mk_58 (f : Nat → Nat → Int32) (l : Nat → Nat → Int64) (R : Nat → Nat) : gT (mk f l R) 58 1 = true := Eq.trans rfl rfl
theorem zT_mk_58 (f : Nat → Nat → Int32) (l : Nat → Nat → Int64) (R : Nat → Nat) : (zT (mk f l R) 58).2 = 4 := Eq.trans rfl rfl
theorem gT_mk_59 (f : Nat → Nat → Int32) (l : Nat → Nat → Int64) (R : Nat → Nat) : gT (mk f l R) 59 105 = true := Eq.trans rfl rfl
theorem zT_mk_59 (f : Nat → Nat → Int32) (l : Nat → Nat → Int64) (R : Nat → Nat) : (zT (mk f l R) 59).2 = 8 := Eq.trans rfl rfl
theorem zR_mk_59_0 (f : Nat → Nat → Int32) (l : Nat → Nat → Int64) (R : Nat → Nat) : zR (mk f l R) 59 0 = 60 := Eq.trans rfl rfl
theorem gT_mk_60 (f : Nat → Nat → Int32) (l : Nat → Nat → Int64) (R : Nat → Nat) : gT (mk f l R) 60 1 = true := Eq.trans rfl rfl
theorem zT_mk_60 (f : Nat → Nat → Int32) (l : Nat → Nat → Int64) (R : Nat → Nat) : (zT (mk f l R) 60).2 = 4 := Eq.trans rfl rfl
theorem gT_mk_61 (f : Nat → Nat → Int32) (l : Nat → Nat → Int64) (R : Nat → Nat) : gT (mk f l R) 61 105 = true := Eq.trans rfl rfl
theorem zT_mk_61 (f : Nat → Nat → Int32) (l : Nat → Nat → Int64) (R : Nat → Nat) : (zT (mk f l R) 61).2 = 8 := Eq.trans rfl rfl
theorem zR_mk_61_0 (f : Nat → Nat → Int32) (l : Nat → Nat → Int64) (R : Nat → Nat) : zR (mk f l R) 61 0 = 62 := Eq.trans rfl rfl
theorem gT_mk_62 (f : Nat → Nat → Int32) (l : Nat → Nat → Int64) (R : Nat → Nat) : gT (mk f l R) 62 1 = true := Eq.trans rfl rfl
theorem zT_mk_62 (f : Nat → Nat → Int32) (l : Nat → Nat → Int64) (R : Nat → Nat) : (zT (mk f l R) 62).2 = 4 := Eq.trans rfl rfl
theorem gT_mk_63 (f : Nat → Nat → Int32) (l : Nat → Nat → Int64) (R : Nat → Nat) : gT (mk f l R) 63 101 = true := Eq.trans rfl rfl
theorem zT_mk_63 (f : Nat → Nat → Int32) (l : Nat → Nat → Int64) (R : Nat → Nat) : (zT (mk f l R) 63).2 = 9 := Eq.trans rfl rfl
theorem zR_mk_63_0 (f : Nat → Nat → Int32) (l : Nat → Nat → Int64) (R : Nat → Nat) : zR (mk f l R) 63 0 = 64 := Eq.trans rfl rfl
theorem zR_mk_63_1 (f : Nat → Nat → Int32) (l : Nat → Nat → Int64) (R : Nat → Nat) : zR (mk f l R) 63 1 = 65 := Eq.trans rfl rfl
theorem zR_mk_63_2 (f : Nat → Nat → Int32) (l : Nat → Nat → Int64) (R : Nat → Nat) : zR (mk f l R) 63 2 = 66 := Eq.trans rfl rfl
theorem zR_mk_63_3 (f : Nat → Nat → Int32) (l : Nat → Nat → Int64) (R : Nat → Nat) : zR (mk f l R) 63 3 = 67 := Eq.trans rfl rfl
theorem zR_mk_63_4 (f : Nat → Nat → Int32) (l : Nat → Nat → Int64) (R : Nat → Nat) : zR (mk f l R) 63 4 = 69 := Eq.trans rfl rfl
theorem zR_mk_63_5 (f : Nat → Nat → Int32) (l : Nat → Nat → Int64) (R : Nat → Nat) : zR (mk f l R) 63 5 = 71 := Eq.trans rfl rfl
theorem gT_mk_64 (f : Nat → Nat → Int32) (l : Nat → Nat → Int64) (R : Nat → Nat) : gT (mk f l R) 64 6 = true := Eq.trans rfl rfl
theorem zT_mk_64 (f : Nat → Nat → Int32) (l : Nat → Nat → Int64) (R : Nat → Nat) : (zT (mk f l R) 64).2 = 6 := Eq.trans rfl rfl
theorem zR_mk_64_0 (f : Nat → Nat → Int32) (l : Nat → Nat → Int64) (R : Nat → Nat) : zR (mk f l R) 64 0 = 73 := Eq.trans rfl rfl
theorem zR_mk_64_1 (f : Nat → Nat → Int32) (l : Nat → Nat → Int64) (R : Nat → Nat) : zR (mk f l R) 64 1 = 75 := Eq.trans rfl rfl
theorem zR_mk_64_2 (f : Nat → Nat → Int32) (l : Nat → Nat → Int64) (R : Nat → Nat) : zR (mk f l R) 64 2 = 77 := Eq.trans rfl rfl
theorem zR_mk_64_3 (f : Nat → Nat → Int32) (l : Nat → Nat → Int64) (R : Nat → Nat) : zR (mk f l R) 64 3 = 79 := Eq.trans rfl rfl
theorem zR_mk_64_4 (f : Nat → Nat → Int32) (l : Nat → Nat → Int64) (R : Nat → Nat) : zR (mk f l R) 64 4 = 81 := Eq.trans rfl rfl
theorem zR_mk_64_5 (f : Nat → Nat → Int32) (l : Nat → Nat → Int64) (R : Nat → Nat) : zR (mk f l R) 64 5 = 83 := Eq.trans rfl rfl
theorem gT_mk_65 (f : Nat → Nat → Int32) (l : Nat → Nat → Int64) (R : Nat → Nat) : gT (mk f l R) 65 1 = true := Eq.trans rfl rfl
theorem zT_mk_65 (f : Nat → Nat → Int32) (l : Nat → Nat → Int64) (R : Nat → Nat) : (zT (mk f l R) 65).2 = 4 := Eq.trans rfl rfl
theorem gT_mk_66 (f : Nat → Nat → Int32) (l : Nat → Nat → Int64) (R : Nat → Nat) : gT (mk f l R) 66 1 = true := Eq.trans rfl rfl
theorem zT_mk_66 (f : Nat → Nat → Int32) (l : Nat → Nat → Int64) (R : Nat → Nat) : (zT (mk f l R) 66).2 = 4 := Eq.trans rfl rfl
theorem gT_mk_67 (f : Nat → Nat → Int32) (l : Nat → Nat → Int64) (R : Nat → Nat) : gT (mk f l R) 67 104 = true := Eq.trans rfl rfl
theorem zT_mk_67 (f : Nat → Nat → Int32) (l : Nat → Nat → Int64) (R : Nat → Nat) : (zT (mk f l R) 67).2 = 3 := Eq.trans rfl rfl
theorem zR_mk_67_0 (f : Nat → Nat → Int32) (l : Nat → Nat → Int64) (R : Nat → Nat) : zR (mk f l R) 67 0 = 68 := Eq.trans rfl rfl
theorem gT_mk_68 (f : Nat → Nat → Int32) (l : Nat → Nat → Int64) (R : Nat → Nat) : gT (mk f l R) 68 1 = true := Eq.trans rfl rfl
theorem zT_mk_68 (f : Nat → Nat → Int32) (l : Nat → Nat → Int64) (R : Nat → Nat) : (zT (mk f l R) 68).2 = 15 := Eq.trans rfl rfl
theorem gT_mk_69 (f : Nat → Nat → Int32) (l : Nat → Nat → Int64) (R : Nat → Nat) : gT (mk f l R) 69 104 = true := Eq.trans rfl rfl
theorem zT_mk_69 (f : Nat → Nat → Int32) (l : Nat → Nat → Int64) (R : Nat → Nat) : (zT (mk f l R) 69).2 = 3 := Eq.trans rfl rfl
theorem zR_mk_69_0 (f : Nat → Nat → Int32) (l : Nat → Nat → Int64) (R : Nat → Nat) : zR (mk f l R) 69 0 = 70 := Eq.trans rfl rfl
theorem gT_mk_70 (f : Nat → Nat → Int32) (l : Nat → Nat → Int64) (R : Nat → Nat) : gT (mk f l R) 70 1 = true := Eq.trans rfl rfl
theorem zT_mk_70 (f : Nat → Nat → Int32) (l : Nat → Nat → Int64) (R : Nat → Nat) : (zT (mk f l R) 70).2 = 24 := Eq.trans rfl rfl
theorem gT_mk_71 (f : Nat → Nat → Int32) (l : Nat → Nat → Int64) (R : Nat → Nat) : gT (mk f l R) 71 104 = true := Eq.trans rfl rfl
theorem zT_mk_71 (f : Nat → Nat → Int32) (l : Nat → Nat → Int64) (R : Nat → Nat) : (zT (mk f l R) 71).2 = 3 := Eq.trans rfl rfl
theorem zR_mk_71_0 (f : Nat → Nat → Int32) (l : Nat → Nat → Int64) (R : Nat → Nat) : zR (mk f l R) 71 0 = 72 := Eq.trans rfl rfl
theorem gT_mk_72 (f : Nat → Nat → Int32) (l : Nat → Nat → Int64) (R : Nat → Nat) : gT (mk f l R) 72 1 = true := Eq.trans rfl rfl
theorem zT_mk_72 (f : Nat → Nat → Int32) (l : Nat → Nat → Int64) (R : Nat → Nat) : (zT (mk f l R) 72).2 = 24 := Eq.trans rfl rfl
theorem gT_mk_73 (f : Nat → Nat → Int32) (l : Nat → Nat → Int64) (R : Nat → Nat) : gT (mk f l R) 73 105 = true := Eq.trans rfl rfl
theorem zT_mk_73 (f : Nat → Nat → Int32) (l : Nat → Nat → Int64) (R : Nat → Nat) : (zT (mk f l R) 73).2 = 8 := Eq.trans rfl rfl
theorem zR_mk_73_0 (f : Nat → Nat → Int32) (l : Nat → Nat → Int64) (R : Nat → Nat) : zR (mk f l R) 73 0 = 74 := Eq.trans rfl rfl
theorem gT_mk_74 (f : Nat → Nat → Int32) (l : Nat → Nat → Int64) (R : Nat → Nat) : gT (mk f l R) 74 1 = true := Eq.trans rfl rfl
theorem zT_mk_74 (f : Nat → Nat → Int32) (l : Nat → Nat → Int64) (R : Nat → Nat) : (zT (mk f l R) 74).2 = 4 := Eq.trans rfl rfl
theorem gT_mk_75 (f : Nat → Nat → Int32) (l : Nat → Nat → Int64) (R : Nat → Nat) : gT (mk f l R) 75 105 = true := Eq.trans rfl rfl
theorem zT_mk_75 (f : Nat → Nat → Int32) (l : Nat → Nat → Int64) (R : Nat → Nat) : (zT (mk f l R) 75).2 = 8 := Eq.trans rfl rfl
theorem zR_mk_75_0 (f : Nat → Nat → Int32) (l : Nat → Nat → Int64) (R : Nat → Nat) : zR (mk f l R) 75 0 = 76 := Eq.trans rfl rfl
theorem gT_mk_76 (f : Nat → Nat → Int32) (l : Nat → Nat → Int64) (R : Nat → Nat) : gT (mk f l R) 76 1 = true := Eq.trans rfl rfl
theorem zT_mk_76 (f : Nat → Nat → Int32) (l : Nat → Nat → Int64) (R : Nat → Nat) : (zT (mk f l R) 76).2 = 4 := Eq.trans rfl rfl
theorem gT_mk_77 (f : Nat → Nat → Int32) (l : Nat → Nat → Int64) (R : Nat → Nat) : gT (mk f l R) 77 105 = true := Eq.trans rfl rfl
theorem zT_mk_77 (f : Nat → Nat → Int32) (l : Nat → Nat → Int64) (R : Nat → Nat) : (zT (mk f l R) 77).2 = 8 := Eq.trans rfl rfl
theorem zR_mk_77_0 (f : Nat → Nat → Int32) (l : Nat → Nat → Int64) (R : Nat → Nat) : zR (mk f l R) 77 0 = 78 := Eq.trans rfl rfl
theorem gT_mk_78 (f : Nat → Nat → Int32) (l : Nat → Nat → Int64) (R : Nat → Nat) : gT (mk f l R) 78 1 = true := Eq.trans rfl rfl
theorem zT_mk_78 (f : Nat → Nat → Int32) (l : Nat → Nat → Int64) (R : Nat → Nat) : (zT (mk f l R) 78).2 = 4 := Eq.trans rfl rfl
theorem gT_mk_79 (f : Nat → Nat → Int32) (l : Nat → Nat → Int64) (R : Nat → Nat) : gT (mk f l R) 79 105 = true := Eq.trans rfl rfl
theorem zT_mk_79 (f : Nat → Nat → Int32) (l : Nat → Nat → Int64) (R : Nat → Nat) : (zT (mk f l R) 79).2 = 8 := Eq.trans rfl rfl
theorem zR_mk_79_0 (f : Nat → Nat → Int32) (l : Nat → Nat → Int64) (R : Nat → Nat) : zR (mk f l R) 79 0 = 80 := Eq.trans rfl rfl
theorem gT_mk_80 (f : Nat → Nat → Int32) (l : Nat → Nat → Int64) (R : Nat → Nat) : gT (mk f l R) 80 1 = true := Eq.trans rfl rfl
theorem zT_mk_80 (f : Nat → Nat → Int32) (l : Nat → Nat → Int64) (R : Nat → Nat) : (zT (mk f l R) 80).2 = 4 := Eq.trans rfl rfl
theorem gT_mk_81 (f : Nat → Nat → Int32) (l : Nat → Nat → Int64) (R : Nat → Nat) : gT (mk f l R) 81 105 = true := Eq.trans rfl rfl
theorem zT_mk_81 (f : Nat → Nat → Int32) (l : Nat → Nat → Int64) (R : Nat → Nat) : (zT (mk f l R) 81).2 = 8 := Eq.trans rfl rfl
theorem zR_mk_81_0 (f : Nat → Nat → Int32) (l : Nat → Nat → Int64) (R : Nat → Nat) : zR (mk f l R) 81 0 = 82 := Eq.trans rfl rfl
theorem gT_mk_82 (f : Nat → Nat → Int32) (l : Nat → Nat → Int64) (R : Nat → Nat) : gT (mk f l R) 82 1 = true := Eq.trans rfl rfl
theorem zT_mk_82 (f : Nat → Nat → Int32) (l : Nat → Nat → Int64) (R : Nat → Nat) : (zT (mk f l R) 82).2 = 4 := Eq.trans rfl rfl
theorem gT_mk_83 (f : Nat → Nat → Int32) (l : Nat → Nat → Int64) (R : Nat → Nat) : gT (mk f l R) 83 105 = true := Eq.trans rfl rfl
theorem zT_mk_83 (f : Nat → Nat → Int32) (l : Nat → Nat → Int64) (R : Nat → Nat) : (zT (mk f l R) 83).2 = 8 := Eq.trans rfl rfl
theorem zR_mk_83_0 (f : Nat → Nat → Int32) (l : Nat → Nat → Int64) (R : Nat → Nat) : zR (mk f l R) 83 0 = 84 := Eq.trans rfl rfl
theorem gT_mk_84 (f : Nat → Nat → Int32) (l : Nat → Nat → Int64) (R : Nat → Nat) : gT (mk f l R) 84 1 = true := Eq.trans rfl rfl
theorem zT_mk_84 (f : Nat → Nat → Int32) (l : Nat → Nat → Int64) (R : Nat → Nat) : (zT (mk f l R) 84).2 = 4 := Eq.trans rfl rfl
theorem gT_mk_85 (f : Nat → Nat → Int32) (l : Nat → Nat → Int64) (R : Nat → Nat) : gT (mk f l R) 85 101 = true := Eq.trans rfl rfl
theorem zT_mk_85 (f : Nat → Nat → Int32) (l : Nat → Nat → Int64) (R : Nat → Nat) : (zT (mk f l R) 85).2 = 9 := Eq.trans rfl rfl
theorem zR_mk_85_0 (f : Nat → Nat → Int32) (l : Nat → Nat → Int64) (R : Nat → Nat) : zR (mk f l R) 85 0 = 86 := Eq.trans rfl rfl
theorem zR_mk_85_1 (f : Nat → Nat → Int32) (l : Nat → Nat → Int64) (R : Nat → Nat) : zR (mk f l R) 85 1 = 87 := Eq.trans rfl rfl
theorem zR_mk_85_2 (f : Nat → Nat → Int32) (l : Nat → Nat → Int64) (R : Nat → Nat) : zR (mk f l R) 85 2 = 88 := Eq.trans rfl rfl
theorem zR_mk_85_3 (f : Nat → Nat → Int32) (l : Nat → Nat → Int64) (R : Nat → Nat) : zR (mk f l R) 85 3 = 89 := Eq.trans rfl rfl
theorem zR_mk_85_4 (f : Nat → Nat → Int32) (l : Nat → Nat → Int64) (R : Nat → Nat) : zR (mk f l R) 85 4 = 91 := Eq.trans rfl rfl
theorem zR_mk_85_5 (f : Nat → Nat → Int32) (l : Nat → Nat → Int64) (R : Nat → Nat) : zR (mk f l R) 85 5 = 93 := Eq.trans rfl rfl
theorem gT_mk_86 (f : Nat → Nat → Int32) (l : Nat → Nat → Int64) (R : Nat → Nat) : gT (mk f l R) 86 6 = true := Eq.trans rfl rfl
theorem zT_mk_86 (f : Nat → Nat → Int32) (l : Nat → Nat → Int64) (R : Nat → Nat) : (zT (mk f l R) 86).2 = 6 := Eq.trans rfl rfl
theorem zR_mk_86_0 (f : Nat → Nat → Int32) (l : Nat → Nat → Int64) (R : Nat → Nat) : zR (mk f l R) 86 0 = 95 := Eq.trans rfl rfl
theorem zR_mk_86_1 (f : Nat → Nat → Int32) (l : Nat → Nat → Int64) (R : Nat → Nat) : zR (mk f l R) 86 1 = 97 := Eq.trans rfl rfl
theorem zR_mk_86_2 (f : Nat → Nat → Int32) (l : Nat → Nat → Int64) (R : Nat → Nat) : zR (mk f l R) 86 2 = 99 := Eq.trans rfl rfl
theorem zR_mk_86_3 (f : Nat → Nat → Int32) (l : Nat → Nat → Int64) (R : Nat → Nat) : zR (mk f l R) 86 3 = 101 := Eq.trans rfl rfl
theorem zR_mk_86_4 (f : Nat → Nat → Int32) (l : Nat → Nat → Int64) (R : Nat → Nat) : zR (mk f l R) 86 4 = 103 := Eq.trans rfl rfl
theorem zR_mk_86_5 (f : Nat → Nat → Int32) (l : Nat → Nat → Int64) (R : Nat → Nat) : zR (mk f l R) 86 5 = 105 := Eq.trans rfl rfl
theorem gT_mk_87 (f : Nat → Nat → Int32) (l : Nat → Nat → Int64) (R : Nat → Nat) : gT (mk f l R) 87 1 = true := Eq.trans rfl rfl
theorem zT_mk_87 (f : Nat → Nat → Int32) (l : Nat → Nat → Int64) (R : Nat → Nat) : (zT (mk f l R) 87).2 = 4 := Eq.trans rfl rfl
theorem gT_mk_88 (f : Nat → Nat → Int32) (l : Nat → Nat → Int64) (R : Nat → Nat) : gT (mk f l R) 88 1 = true := Eq.trans rfl rfl
theorem zT_mk_88 (f : Nat → Nat → Int32) (l : Nat → Nat → Int64) (R : Nat → Nat) : (zT (mk f l R) 88).2 = 4 := Eq.trans rfl rfl
theorem gT_mk_89 (f : Nat → Nat → Int32) (l : Nat → Nat → Int64) (R : Nat → Nat) : gT (mk f l R) 89 104 = true := Eq.trans rfl rfl
theorem zT_mk_89 (f : Nat → Nat → Int32) (l : Nat → Nat → Int64) (R : Nat → Nat) : (zT (mk f l R) 89).2 = 3 := Eq.trans rfl rfl
theorem zR_mk_89_0 (f : Nat → Nat → Int32) (l : Nat → Nat → Int64) (R : Nat → Nat) : zR (mk f l R) 89 0 = 90 := Eq.trans rfl rfl
theorem gT_mk_90 (f : Nat → Nat → Int32) (l : Nat → Nat → Int64) (R : Nat → Nat) : gT (mk f l R) 90 1 = true := Eq.trans rfl rfl
theorem zT_mk_90 (f : Nat → Nat → Int32) (l : Nat → Nat → Int64) (R : Nat → Nat) : (zT (mk f l R) 90).2 = 15 := Eq.trans rfl rfl
theorem gT_mk_91 (f : Nat → Nat → Int32) (l : Nat → Nat → Int64) (R : Nat → Nat) : gT (mk f l R) 91 104 = true := Eq.trans rfl rfl
theorem zT_mk_91 (f : Nat → Nat → Int32) (l : Nat → Nat → Int64) (R : Nat → Nat) : (zT (mk f l R) 91).2 = 3 := Eq.trans rfl rfl
theorem zR_mk_91_0 (f : Nat → Nat → Int32) (l : Nat → Nat → Int64) (R : Nat → Nat) : zR (mk f l R) 91 0 = 92 := Eq.trans rfl rfl
theorem gT_mk_92 (f : Nat → Nat → Int32) (l : Nat → Nat → Int64) (R : Nat → Nat) : gT (mk f l R) 92 1 = true := Eq.trans rfl rfl
theorem zT_mk_92 (f : Nat → Nat → Int32) (l : Nat → Nat → Int64) (R : Nat → Nat) : (zT (mk f l R) 92).2 = 24 := Eq.trans rfl rfl
theorem gT_mk_93 (f : Nat → Nat → Int32) (l : Nat → Nat → Int64) (R : Nat → Nat) : gT (mk f l R) 93 104 = true := Eq.trans rfl rfl
theorem zT_mk_93 (f : Nat → Nat → Int32) (l : Nat → Nat → Int64) (R : Nat → Nat) : (zT (mk f l R) 93).2 = 3 := Eq.trans rfl rfl
theorem zR_mk_93_0 (f : Nat → Nat → Int32) (l : Nat → Nat → Int64) (R : Nat → Nat) : zR (mk f l R) 93 0 = 94 := Eq.trans rfl rfl
theorem gT_mk_94 (f : Nat → Nat → Int32) (l : Nat → Nat → Int64) (R : Nat → Nat) : gT (mk f l R) 94 1 = true := Eq.trans rfl rfl
theorem zT_mk_94 (f : Nat → Nat → Int32) (l : Nat → Nat → Int64) (R : Nat → Nat) : (zT (mk f l R) 94).2 = 24 := Eq.trans rfl rfl
theorem gT_mk_95 (f : Nat → Nat → Int32) (l : Nat → Nat → Int64) (R : Nat → Nat) : gT (mk f l R) 95 105 = true := Eq.trans rfl rfl
theorem zT_mk_95 (f : Nat → Nat → Int32) (l : Nat → Nat → Int64) (R : Nat → Nat) : (zT (mk f l R) 95).2 = 8 := Eq.trans rfl rfl
theorem zR_mk_95_0 (f : Nat → Nat → Int32) (l : Nat → Nat → Int64) (R : Nat → Nat) : zR (mk f l R) 95 0 = 96 := Eq.trans rfl rfl
theorem gT_mk_96 (f : Nat → Nat → Int32) (l : Nat → Nat → Int64) (R : Nat → Nat) : gT (mk f l R) 96 1 = true := Eq.trans rfl rfl
theorem zT_mk_96 (f : Nat → Nat → Int32) (l : Nat → Nat → Int64) (R : Nat → Nat) : (zT (mk f l R) 96).2 = 4 := Eq.trans rfl rfl
theorem gT_mk_97 (f : Nat → Nat → Int32) (l : Nat → Nat → Int64) (R : Nat → Nat) : gT (mk f l R) 97 105 = true := Eq.trans rfl rfl
theorem zT_mk_97 (f : Nat → Nat → Int32) (l : Nat → Nat → Int64) (R : Nat → Nat) : (zT (mk f l R) 97).2 = 8 := Eq.trans rfl rfl
theorem zR_mk_97_0 (f : Nat → Nat → Int32) (l : Nat → Nat → Int64) (R : Nat → Nat) : zR (mk f l R) 97 0 = 98 := Eq.trans rfl rfl
theorem gT_mk_98 (f : Nat → Nat → Int32) (l : Nat → Nat → Int64) (R : Nat → Nat) : gT (mk f l R) 98 1 = true := Eq.trans rfl rfl
theorem zT_mk_98 (f : Nat → Nat → Int32) (l : Nat → Nat → Int64) (R : Nat → Nat) : (zT (mk f l R) 98).2 = 4 := Eq.trans rfl rfl
theorem gT_mk_99 (f : Nat → Nat → Int32) (l : Nat → Nat → Int64) (R : Nat → Nat) : gT (mk f l R) 99 105 = true := Eq.trans rfl rfl
theorem zT_mk_99 (f : Nat → Nat → Int32) (l : Nat → Nat → Int64) (R : Nat → Nat) : (zT (mk f l R) 99).2 = 8 := Eq.trans rfl rfl
theorem zR_mk_99_0 (f : Nat → Nat → Int32) (l : Nat → Nat → Int64) (R : Nat → Nat) : zR (mk f l R) 99 0 = 100 := Eq.trans rfl rfl
theorem gT_mk_100 (f : Nat → Nat → Int32) (l : Nat → Nat → Int64) (R : Nat → Nat) : gT (mk f l R) 100 1 = true := Eq.trans rfl rfl
theorem zT_mk_100 (f : Nat → Nat → Int32) (l : Nat → Nat → Int64) (R : Nat → Nat) : (zT (mk f l R) 100).2 = 4 := Eq.trans rfl rfl
theorem gT_mk_101 (f : Nat → Nat → Int32) (l : Nat → Nat → Int64) (R : Nat → Nat) : gT (mk f l R) 101 105 = true := Eq.trans rfl rfl
theorem zT_mk_101 (f : Nat → Nat → Int32) (l : Nat → Nat → Int64) (R : Nat → Nat) : (zT (mk f l R) 101).2 = 8 := Eq.trans rfl rfl
theorem zR_mk_101_0 (f : Nat → Nat → Int32) (l : Nat → Nat → Int64) (R : Nat → Nat) : zR (mk f l R) 101 0 = 102 := Eq.trans rfl rfl
theorem gT_mk_102 (f : Nat → Nat → Int32) (l : Nat → Nat → Int64) (R : Nat → Nat) : gT (mk f l R) 102 1 = true := Eq.trans rfl rfl
theorem zT_mk_102 (f : Nat → Nat → Int32) (l : Nat → Nat → Int64) (R : Nat → Nat) : (zT (mk f l R) 102).2 = 4 := Eq.trans rfl rfl
theorem gT_mk_103 (f : Nat → Nat → Int32) (l : Nat → Nat → Int64) (R : Nat → Nat) : gT (mk f l R) 103 105 = true := Eq.trans rfl rfl
theorem zT_mk_103 (f : Nat → Nat → Int32) (l : Nat → Nat → Int64) (R : Nat → Nat) : (zT (mk f l R) 103).2 = 8 := Eq.trans rfl rfl
theorem zR_mk_103_0 (f : Nat → Nat → Int32) (l : Nat → Nat → Int64) (R : Nat → Nat) : zR (mk f l R) 103 0 = 104 := Eq.trans rfl rfl
theorem gT_mk_104 (f : Nat → Nat → Int32) (l : Nat → Nat → Int64) (R : Nat → Nat) : gT (mk f l R) 104 1 = true := Eq.trans rfl rfl
theorem zT_mk_104 (f : Nat → Nat → Int32) (l : Nat → Nat → Int64) (R : Nat → Nat) : (zT (mk f l R) 104).2 = 4 := Eq.trans rfl rfl
theorem gT_mk_105 (f : Nat → Nat → Int32) (l : Nat → Nat → Int64) (R : Nat → Nat) : gT (mk f l R) 105 105 = true := Eq.trans rfl rfl
theorem zT_mk_105 (f : Nat → Nat → Int32) (l : Nat → Nat → Int64) (R : Nat → Nat) : (zT (mk f l R) 105).2 = 8 := Eq.trans rfl rfl
theorem zR_mk_105_0 (f : Nat → Nat → Int32) (l : Nat → Nat → Int64) (R : Nat → Nat) : zR (mk f l R) 105 0 = 106 := Eq.trans rfl rfl
theorem gT_mk_106 (f : Nat → Nat → Int32) (l : Nat → Nat → Int64) (R : Nat → Nat) : gT (mk f l R) 106 1 = true := Eq.trans rfl rfl
theorem zT_mk_106 (f : Nat → Nat → Int32) (l : Nat → Nat → Int64) (R : Nat → Nat) : (zT (mk f l R) 106).2 = 4 := Eq.trans rfl rfl
theorem gT_mk_107 (f : Nat → Nat → Int32) (l : Nat → Nat → Int64) (R : Nat → Nat) : gT (mk f l R) 107 102 = true := Eq.trans rfl rfl
theorem zT_mk_107 (f : Nat → Nat → Int32) (l : Nat → Nat → Int64) (R : Nat → Nat) : (zT (mk f l R) 107).2 = 4 := Eq.trans rfl rfl
theorem zR_mk_107_0 (f : Nat → Nat → Int32) (l : Nat → Nat → Int64) (R : Nat → Nat) : zR (mk f l R) 107 0 = 108 := Eq.trans rfl rfl
theorem zR_mk_107_1 (f : Nat → Nat → Int32) (l : Nat → Nat → Int64) (R : Nat → Nat) : zR (mk f l R) 107 1 = 109 := Eq.trans rfl rfl
theorem gT_mk_108 (f : Nat → Nat → Int32) (l : Nat → Nat → Int64) (R : Nat → Nat) : gT (mk f l R) 108 1 = true := Eq.trans rfl rfl
theorem zT_mk_108 (f : Nat → Nat → Int32) (l : Nat → Nat → Int64) (R : Nat → Nat) : (zT (mk f l R) 108).2 = 100 := Eq.trans rfl rfl
theorem gT_mk_109 (f : Nat → Nat → Int32) (l : Nat → Nat → Int64) (R : Nat → Nat) : gT (mk f l R) 109 1 = true := Eq.trans rfl rfl
theorem zT_mk_109 (f : Nat → Nat → Int32) (l : Nat → Nat → Int64) (R : Nat → Nat) : (zT (mk f l R) 109).2 = 100 := Eq.trans rfl rfl
theorem gT_mk_110 (f : Nat → Nat → Int32) (l : Nat → Nat → Int64) (R : Nat → Nat) : gT (mk f l R) 110 102 = true := Eq.trans rfl rfl
theorem zT_mk_110 (f : Nat → Nat → Int32) (l : Nat → Nat → Int64) (R : Nat → Nat) : (zT (mk f l R) 110).2 = 4 := Eq.trans rfl rfl
theorem zR_mk_110_0 (f : Nat → Nat → Int32) (l : Nat → Nat → Int64) (R : Nat → Nat) : zR (mk f l R) 110 0 = 111 := Eq.trans rfl rfl
theorem zR_mk_110_1 (f : Nat → Nat → Int32) (l : Nat → Nat → Int64) (R : Nat → Nat) : zR (mk f l R) 110 1 = 112 := Eq.trans rfl rfl
theorem gT_mk_111 (f : Nat → Nat → Int32) (l : Nat → Nat → Int64) (R : Nat → Nat) : gT (mk f l R) 111 1 = true := Eq.trans rfl rfl
theorem zT_mk_111 (f : Nat → Nat → Int32) (l : Nat → Nat → Int64) (R : Nat → Nat) : (zT (mk f l R) 111).2 = 100 := Eq.trans rfl rfl
theorem gT_mk_112 (f : Nat → Nat → Int32) (l : Nat → Nat → Int64) (R : Nat → Nat) : gT (mk f l R) 112 1 = true := Eq.trans rfl rfl
theorem zT_mk_112 (f : Nat → Nat → Int32) (l : Nat → Nat → Int64) (R : Nat → Nat) : (zT (mk f l R) 112).2 = 100 := Eq.trans rfl rfl
theorem gT_mk_113 (f : Nat → Nat → Int32) (l : Nat → Nat → Int64) (R : Nat → Nat) : gT (mk f l R) 113 102 = true := Eq.trans rfl rfl
theorem zT_mk_113 (f : Nat → Nat → Int32) (l : Nat → Nat → Int64) (R : Nat → Nat) : (zT (mk f l R) 113).2 = 4 := Eq.trans rfl rfl
theorem zR_mk_113_0 (f : Nat → Nat → Int32) (l : Nat → Nat → Int64) (R : Nat → Nat) : zR (mk f l R) 113 0 = 114 := Eq.trans rfl rfl
theorem zR_mk_113_1 (f : Nat → Nat → Int32) (l : Nat → Nat → Int64) (R : Nat → Nat) : zR (mk f l R) 113 1 = 115 := Eq.trans rfl rfl
theorem gT_mk_114 (f : Nat → Nat → Int32) (l : Nat → Nat → Int64) (R : Nat → Nat) : gT (mk f l R) 114 1 = true := Eq.trans rfl rfl
theorem zT_mk_114 (f : Nat → Nat → Int32) (l : Nat → Nat → Int64) (R : Nat → Nat) : (zT (mk f l R) 114).2 = 100 := Eq.trans rfl rfl
theorem gT_mk_115 (f : Nat → Nat → Int32) (l : Nat → Nat → Int64) (R : Nat → Nat) : gT (mk f l R) 115 1 = true := Eq.trans rfl rfl
theorem zT_mk_115 (f : Nat → Nat → Int32) (l : Nat → Nat → Int64) (R : Nat → Nat) : (zT (mk f l R) 115).2 = 100 := Eq.trans rfl rfl
theorem gT_mk_116 (f : Nat → Nat → Int32) (l : Nat → Nat → Int64) (R : Nat → Nat) : gT (mk f l R) 116 102 = true := Eq.trans rfl rfl
theorem zT_mk_116 (f : Nat → Nat → Int32) (l : Nat → Nat → Int64) (R : Nat → Nat) : (zT (mk f l R) 116).2 = 4 := Eq.trans rfl rfl
theorem zR_mk_116_0 (f : Nat → Nat → Int32) (l : Nat → Nat → Int64) (R : Nat → Nat) : zR (mk f l R) 116 0 = 117 := Eq.trans rfl rfl
theorem zR_mk_116_1 (f : Nat → Nat → Int32) (l : Nat → Nat → Int64) (R : Nat → Nat) : zR (mk f l R) 116 1 = 118 := Eq.trans rfl rfl
theorem gT_mk_117 (f : Nat → Nat → Int32) (l : Nat → Nat → Int64) (R : Nat → Nat) : gT (mk f l R) 117 1 = true := Eq.trans rfl rfl
theorem zT_mk_117 (f : Nat → Nat → Int32) (l : Nat → Nat → Int64) (R : Nat → Nat) : (zT (mk f l R) 117).2 = 100 := Eq.trans rfl rfl
theorem gT_mk_118 (f : Nat → Nat → Int32) (l : Nat → Nat → Int64) (R : Nat → Nat) : gT (mk f l R) 118 1 = true := Eq.trans rfl rfl
theorem zT_mk_118 (f : Nat → Nat → Int32) (l : Nat → Nat → Int64) (R : Nat → Nat) : (zT (mk f l R) 118).2 = 100 := Eq.trans rfl rfl
theorem gT_mk_119 (f : Nat → Nat → Int32) (l : Nat → Nat → Int64) (R : Nat → Nat) : gT (mk f l R) 119 102 = true := Eq.trans rfl rfl
theorem zT_mk_119 (f : Nat → Nat → Int32) (l : Nat → Nat → Int64) (R : Nat → Nat) : (zT (mk f l R) 119).2 = 4 := Eq.trans rfl rfl
theorem zR_mk_119_0 (f : Nat → Nat → Int32) (l : Nat → Nat → Int64) (R : Nat → Nat) : zR (mk f l R) 119 0 = 120 := Eq.trans rfl rfl
theorem zR_mk_119_1 (f : Nat → Nat → Int32) (l : Nat → Nat → Int64) (R : Nat → Nat) : zR (mk f l R) 119 1 = 121 := Eq.trans rfl rfl
theorem gT_mk_120 (f : Nat → Nat → Int32) (l : Nat → Nat → Int64) (R : Nat → Nat) : gT (mk f l R) 120 1 = true := Eq.trans rfl rfl
theorem zT_mk_120 (f : Nat → Nat → Int32) (l : Nat → Nat → Int64) (R : Nat → Nat) : (zT (mk f l R) 120).2 = 100 := Eq.trans rfl rfl
theorem gT_mk_121 (f : Nat → Nat → Int32) (l : Nat → Nat → Int64) (R : Nat → Nat) : gT (mk f l R) 121 1 = true := Eq.trans rfl rfl
theorem zT_mk_121 (f : Nat → Nat → Int32) (l : Nat → Nat → Int64) (R : Nat → Nat) : (zT (mk f l R) 121).2 = 100 := Eq.trans rfl rfl
theorem gT_mk_122 (f : Nat → Nat → Int32) (l : Nat → Nat → Int64) (R : Nat → Nat) : gT (mk f l R) 122 102 = true := Eq.trans rfl rfl
theorem zT_mk_122 (f : Nat → Nat → Int32) (l : Nat → Nat → Int64) (R : Nat → Nat) : (zT (mk f l R) 122).2 = 4 := Eq.trans rfl rfl
theorem zR_mk_122_0 (f : Nat → Nat → Int32) (l : Nat → Nat → Int64) (R : Nat → Nat) : zR (mk f l R) 122 0 = 123 := Eq.trans rfl rfl
theorem zR_mk_122_1 (f : Nat → Nat → Int32) (l : Nat → Nat → Int64) (R : Nat → Nat) : zR (mk f l R) 122 1 = 124 := Eq.trans rfl rfl
theorem gT_mk_123 (f : Nat → Nat → Int32) (l : Nat → Nat → Int64) (R : Nat → Nat) : gT (mk f l R) 123 1 = true := Eq.trans rfl rfl
theorem zT_mk_123 (f : Nat → Nat → Int32) (l : Nat → Nat → Int64) (R : Nat → Nat) : (zT (mk f l R) 123).2 = 100 := Eq.trans rfl rfl
theorem gT_mk_124 (f : Nat → Nat → Int32) (l : Nat → Nat → Int64) (R : Nat → Nat) : gT (mk f l R) 124 1 = true := Eq.trans rfl rfl
theorem zT_mk_124 (f : Nat → Nat → Int32) (l : Nat → Nat → Int64) (R : Nat → Nat) : (zT (mk f l R) 124).2 = 100 := Eq.trans rfl rfl
theorem gT_mk_125 (f : Nat → Nat → Int32) (l : Nat → Nat → Int64) (R : Nat → Nat) : gT (mk f l R) 125 108 = true := Eq.trans rfl rfl
theorem zT_mk_125 (f : Nat → Nat → Int32) (l : Nat → Nat → Int64) (R : Nat → Nat) : (zT (mk f l R) 125).2 = 3 := Eq.trans rfl rfl
theorem zR_mk_125_0 (f : Nat → Nat → Int32) (l : Nat → Nat → Int64) (R : Nat → Nat) : zR (mk f l R) 125 0 = 126 := Eq.trans rfl rfl
theorem gT_mk_126 (f : Nat → Nat → Int32) (l : Nat → Nat → Int64) (R : Nat → Nat) : gT (mk f l R) 126 3 = true := Eq.trans rfl rfl
theorem zT_mk_126 (f : Nat → Nat → Int32) (l : Nat → Nat → Int64) (R : Nat → Nat) : (zT (mk f l R) 126).2 = 60 := Eq.trans rfl rfl
theorem gT_mk_127 (f : Nat → Nat → Int32) (l : Nat → Nat → Int64) (R : Nat → Nat) : gT (mk f l R) 127 108 = true := Eq.trans rfl rfl
theorem zT_mk_127 (f : Nat → Nat → Int32) (l : Nat → Nat → Int64) (R : Nat → Nat) : (zT (mk f l R) 127).2 = 3 := Eq.trans rfl rfl
theorem zR_mk_127_0 (f : Nat → Nat → Int32) (l : Nat → Nat → Int64) (R : Nat → Nat) : zR (mk f l R) 127 0 = 128 := Eq.trans rfl rfl
theorem gT_mk_128 (f : Nat → Nat → Int32) (l : Nat → Nat → Int64) (R : Nat → Nat) : gT (mk f l R) 128 3 = true := Eq.trans rfl rfl
theorem zT_mk_128 (f : Nat → Nat → Int32) (l : Nat → Nat → Int64) (R : Nat → Nat) : (zT (mk f l R) 128).2 = 60 := Eq.trans rfl rfl
theorem gT_mk_129 (f : Nat → Nat → Int32) (l : Nat → Nat → Int64) (R : Nat → Nat) : gT (mk f l R) 129 108 = true := Eq.trans rfl rfl
theorem zT_mk_129 (f : Nat → Nat → Int32) (l : Nat → Nat → Int64) (R : Nat → Nat) : (zT (mk f l R) 129).2 = 3 := Eq.trans rfl rfl
theorem zR_mk_129_0 (f : Nat → Nat → Int32) (l : Nat → Nat → Int64) (R : Nat → Nat) : zR (mk f l R) 129 0 = 130 := Eq.trans rfl rfl
theorem gT_mk_130 (f : Nat → Nat → Int32) (l : Nat → Nat → Int64) (R : Nat → Nat) : gT (mk f l R) 130 3 = true := Eq.trans rfl rfl
theorem zT_mk_130 (f : Nat → Nat → Int32) (l : Nat → Nat → Int64) (R : Nat → Nat) : (zT (mk f l R) 130).2 = 60 := Eq.trans rfl rfl
theorem gT_mk_131 (f : Nat → Nat → Int32) (l : Nat → Nat → Int64) (R : Nat → Nat) : gT (mk f l R) 131 108 = true := Eq.trans rfl rfl
theorem zT_mk_131 (f : Nat → Nat → Int32) (l : Nat → Nat → Int64) (R : Nat → Nat) : (zT (mk f l R) 131).2 = 3 := Eq.trans rfl rfl
theorem zR_mk_131_0 (f : Nat → Nat → Int32) (l : Nat → Nat → Int64) (R : Nat → Nat) : zR (mk f l R) 131 0 = 132 := Eq.trans rfl rfl
theorem gT_mk_132 (f : Nat → Nat → Int32) (l : Nat → Nat → Int64) (R : Nat → Nat) : gT (mk f l R) 132 3 = true := Eq.trans rfl rfl
theorem zT_mk_132 (f : Nat → Nat → Int32) (l : Nat → Nat → Int64) (R : Nat → Nat) : (zT (mk f l R) 132).2 = 60 := Eq.trans rfl rfl
theorem gT_mk_133 (f : Nat → Nat → Int32) (l : Nat → Nat → Int64) (R : Nat → Nat) : gT (mk f l R) 133 108 = true := Eq.trans rfl rfl
theorem zT_mk_133 (f : Nat → Nat → Int32) (l : Nat → Nat → Int64) (R : Nat → Nat) : (zT (mk f l R) 133).2 = 3 := Eq.trans rfl rfl
theorem zR_mk_133_0 (f : Nat → Nat → Int32) (l : Nat → Nat → Int64) (R : Nat → Nat) : zR (mk f l R) 133 0 = 134 := Eq.trans rfl rfl
theorem gT_mk_134 (f : Nat → Nat → Int32) (l : Nat → Nat → Int64) (R : Nat → Nat) : gT (mk f l R) 134 3 = true := Eq.trans rfl rfl
theorem zT_mk_134 (f : Nat → Nat → Int32) (l : Nat → Nat → Int64) (R : Nat → Nat) : (zT (mk f l R) 134).2 = 60 := Eq.trans rfl rfl
theorem gT_mk_135 (f : Nat → Nat → Int32) (l : Nat → Nat → Int64) (R : Nat → Nat) : gT (mk f l R) 135 108 = true := Eq.trans rfl rfl
theorem zT_mk_135 (f : Nat → Nat → Int32) (l : Nat → Nat → Int64) (R : Nat → Nat) : (zT (mk f l R) 135).2 = 3 := Eq.trans rfl rfl
theorem zR_mk_135_0 (f : Nat → Nat → Int32) (l : Nat → Nat → Int64) (R : Nat → Nat) : zR (mk f l R) 135 0 = 136 := Eq.trans rfl rfl
theorem gT_mk_136 (f : Nat → Nat → Int32) (l : Nat → Nat → Int64) (R : Nat → Nat) : gT (mk f l R) 136 3 = true := Eq.trans rfl rfl
theorem zT_mk_136 (f : Nat → Nat → Int32) (l : Nat → Nat → Int64) (R : Nat → Nat) : (zT (mk f l R) 136).2 = 60 := Eq.trans rfl rfl
theorem gT_mk_137 (f : Nat → Nat → Int32) (l : Nat → Nat → Int64) (R : Nat → Nat) : gT (mk f l R) 137 110 = true := Eq.trans rfl rfl
theorem zT_mk_137 (f : Nat → Nat → Int32) (l : Nat → Nat → Int64) (R : Nat → Nat) : (zT (mk f l R) 137).2 = 32 := Eq.trans rfl rfl
theorem zR_mk_137_0 (f : Nat → Nat → Int32) (l : Nat → Nat → Int64) (R : Nat → Nat) : zR (mk f l R) 137 0 = 138 := Eq.trans rfl rfl
theorem zR_mk_137_1 (f : Nat → Nat → Int32) (l : Nat → Nat → Int64) (R : Nat → Nat) : zR (mk f l R) 137 1 = 139 := Eq.trans rfl rfl
theorem zR_mk_137_2 (f : Nat → Nat → Int32) (l : Nat → Nat → Int64) (R : Nat → Nat) : zR (mk f l R) 137 2 = 140 := Eq.trans rfl rfl
theorem zR_mk_137_4 (f : Nat → Nat → Int32) (l : Nat → Nat → Int64) (R : Nat → Nat) : zR (mk f l R) 137 4 = 141 := Eq.trans rfl rfl
theorem zR_mk_137_6 (f : Nat → Nat → Int32) (l : Nat → Nat → Int64) (R : Nat → Nat) : zR (mk f l R) 137 6 = 142 := Eq.trans rfl rfl
theorem zR_mk_137_7 (f : Nat → Nat → Int32) (l : Nat → Nat → Int64) (R : Nat → Nat) : zR (mk f l R) 137 7 = 143 := Eq.trans rfl rfl
theorem zR_mk_137_9 (f : Nat → Nat → Int32) (l : Nat → Nat → Int64) (R : Nat → Nat) : zR (mk f l R) 137 9 = 144 := Eq.trans rfl rfl
theorem zR_mk_137_16 (f : Nat → Nat → Int32) (l : Nat → Nat → Int64) (R : Nat → Nat) : zR (mk f l R) 137 16 = 145 := Eq.trans rfl rfl
theorem zR_mk_137_17 (f : Nat → Nat → Int32) (l : Nat → Nat → Int64) (R : Nat → Nat) : zR (mk f l R) 137 17 = 146 := Eq.trans rfl rfl
theorem zR_mk_137_18 (f : Nat → Nat → Int32) (l : Nat → Nat → Int64) (R : Nat → Nat) : zR (mk f l R) 137 18 = 147 := Eq.trans rfl rfl
theorem zR_mk_137_19 (f : Nat → Nat → Int32) (l : Nat → Nat → Int64) (R : Nat → Nat) : zR (mk f l R) 137 19 = 148 := Eq.trans rfl rfl
theorem zR_mk_137_20 (f : Nat → Nat → Int32) (l : Nat → Nat → Int64) (R : Nat → Nat) : zR (mk f l R) 137 20 = 149 := Eq.trans rfl rfl
theorem zR_mk_137_22 (f : Nat → Nat → Int32) (l : Nat → Nat → Int64) (R : Nat → Nat) : zR (mk f l R) 137 22 = 150 := Eq.trans rfl rfl
theorem zR_mk_137_24 (f : Nat → Nat → Int32) (l : Nat → Nat → Int64) (R : Nat → Nat) : zR (mk f l R) 137 24 = 151 := Eq.trans rfl rfl
theorem zR_mk_137_25 (f : Nat → Nat → Int32) (l : Nat → Nat → Int64) (R : Nat → Nat) : zR (mk f l R) 137 25 = 152 := Eq.trans rfl rfl
theorem zR_mk_137_26 (f : Nat → Nat → Int32) (l : Nat → Nat → Int64) (R : Nat → Nat) : zR (mk f l R) 137 26 = 153 := Eq.trans rfl rfl
theorem zR_mk_137_28 (f : Nat → Nat → Int32) (l : Nat → Nat → Int64) (R : Nat → Nat) : zR (mk f l R) 137 28 = 154 := Eq.trans rfl rfl
theorem zR_mk_137_29 (f : Nat → Nat → Int32) (l : Nat → Nat → Int64) (R : Nat → Nat) : zR (mk f l R) 137 29 = 155 := Eq.trans rfl rfl
theorem zR_mk_137_30 (f : Nat → Nat → Int32) (l : Nat → Nat → Int64) (R : Nat → Nat) : zR (mk f l R) 137 30 = 156 := Eq.trans rfl rfl
theorem zR_mk_137_31 (f : Nat → Nat → Int32) (l : Nat → Nat → Int64) (R : Nat → Nat) : zR (mk f l R) 137 31 = 157 := Eq.trans rfl rfl
theorem gT_mk_138 (f : Nat → Nat → Int32) (l : Nat → Nat → Int64) (R : Nat → Nat) : gT (mk f l R) 138 1 = true := Eq.trans rfl rfl
theorem zT_mk_138 (f : Nat → Nat → Int32) (l : Nat → Nat → Int64) (R : Nat → Nat) : (zT (mk f l R) 138).2 = 121 := Eq.trans rfl rfl
theorem gT_mk_139 (f : Nat → Nat → Int32) (l : Nat → Nat → Int64) (R : Nat → Nat) : gT (mk f l R) 139 1 = true := Eq.trans rfl rfl
theorem zT_mk_139 (f : Nat → Nat → Int32) (l : Nat → Nat → Int64) (R : Nat → Nat) : (zT (mk f l R) 139).2 = 121 := Eq.trans rfl rfl
theorem gT_mk_140 (f : Nat → Nat → Int32) (l : Nat → Nat → Int64) (R : Nat → Nat) : gT (mk f l R) 140 1 = true := Eq.trans rfl rfl
theorem zT_mk_140 (f : Nat → Nat → Int32) (l : Nat → Nat → Int64) (R : Nat → Nat) : (zT (mk f l R) 140).2 = 121 := Eq.trans rfl rfl
theorem gT_mk_141 (f : Nat → Nat → Int32) (l : Nat → Nat → Int64) (R : Nat → Nat) : gT (mk f l R) 141 1 = true := Eq.trans rfl rfl
theorem zT_mk_141 (f : Nat → Nat → Int32) (l : Nat → Nat → Int64) (R : Nat → Nat) : (zT (mk f l R) 141).2 = 100 := Eq.trans rfl rfl
theorem gT_mk_142 (f : Nat → Nat → Int32) (l : Nat → Nat → Int64) (R : Nat → Nat) : gT (mk f l R) 142 1 = true := Eq.trans rfl rfl
theorem zT_mk_142 (f : Nat → Nat → Int32) (l : Nat → Nat → Int64) (R : Nat → Nat) : (zT (mk f l R) 142).2 = 600 := Eq.trans rfl rfl
theorem gT_mk_143 (f : Nat → Nat → Int32) (l : Nat → Nat → Int64) (R : Nat → Nat) : gT (mk f l R) 143 1 = true := Eq.trans rfl rfl
theorem zT_mk_143 (f : Nat → Nat → Int32) (l : Nat → Nat → Int64) (R : Nat → Nat) : (zT (mk f l R) 143).2 = 6 := Eq.trans rfl rfl
theorem gT_mk_144 (f : Nat → Nat → Int32) (l : Nat → Nat → Int64) (R : Nat → Nat) : gT (mk f l R) 144 1 = true := Eq.trans rfl rfl
theorem zT_mk_144 (f : Nat → Nat → Int32) (l : Nat → Nat → Int64) (R : Nat → Nat) : (zT (mk f l R) 144).2 = 100 := Eq.trans rfl rfl
theorem gT_mk_145 (f : Nat → Nat → Int32) (l : Nat → Nat → Int64) (R : Nat → Nat) : gT (mk f l R) 145 1 = true := Eq.trans rfl rfl
theorem zT_mk_145 (f : Nat → Nat → Int32) (l : Nat → Nat → Int64) (R : Nat → Nat) : (zT (mk f l R) 145).2 = 6 := Eq.trans rfl rfl
theorem gT_mk_146 (f : Nat → Nat → Int32) (l : Nat → Nat → Int64) (R : Nat → Nat) : gT (mk f l R) 146 2 = true := Eq.trans rfl rfl
theorem zT_mk_146 (f : Nat → Nat → Int32) (l : Nat → Nat → Int64) (R : Nat → Nat) : (zT (mk f l R) 146).2 = 6 := Eq.trans rfl rfl
theorem gT_mk_147 (f : Nat → Nat → Int32) (l : Nat → Nat → Int64) (R : Nat → Nat) : gT (mk f l R) 147 2 = true := Eq.trans rfl rfl
theorem zT_mk_147 (f : Nat → Nat → Int32) (l : Nat → Nat → Int64) (R : Nat → Nat) : (zT (mk f l R) 147).2 = 15 := Eq.trans rfl rfl
theorem gT_mk_148 (f : Nat → Nat → Int32) (l : Nat → Nat → Int64) (R : Nat → Nat) : gT (mk f l R) 148 1 = true := Eq.trans rfl rfl
theorem zT_mk_148 (f : Nat → Nat → Int32) (l : Nat → Nat → Int64) (R : Nat → Nat) : (zT (mk f l R) 148).2 = 6 := Eq.trans rfl rfl
theorem gT_mk_149 (f : Nat → Nat → Int32) (l : Nat → Nat → Int64) (R : Nat → Nat) : gT (mk f l R) 149 1 = true := Eq.trans rfl rfl
theorem zT_mk_149 (f : Nat → Nat → Int32) (l : Nat → Nat → Int64) (R : Nat → Nat) : (zT (mk f l R) 149).2 = 6 := Eq.trans rfl rfl
theorem gT_mk_150 (f : Nat → Nat → Int32) (l : Nat → Nat → Int64) (R : Nat → Nat) : gT (mk f l R) 150 1 = true := Eq.trans rfl rfl
theorem zT_mk_150 (f : Nat → Nat → Int32) (l : Nat → Nat → Int64) (R : Nat → Nat) : (zT (mk f l R) 150).2 = 24 := Eq.trans rfl rfl
theorem gT_mk_151 (f : Nat → Nat → Int32) (l : Nat → Nat → Int64) (R : Nat → Nat) : gT (mk f l R) 151 1 = true := Eq.trans rfl rfl
theorem zT_mk_151 (f : Nat → Nat → Int32) (l : Nat → Nat → Int64) (R : Nat → Nat) : (zT (mk f l R) 151).2 = 7 := Eq.trans rfl rfl
theorem gT_mk_152 (f : Nat → Nat → Int32) (l : Nat → Nat → Int64) (R : Nat → Nat) : gT (mk f l R) 152 1 = true := Eq.trans rfl rfl
theorem zT_mk_152 (f : Nat → Nat → Int32) (l : Nat → Nat → Int64) (R : Nat → Nat) : (zT (mk f l R) 152).2 = 21 := Eq.trans rfl rfl
theorem gT_mk_153 (f : Nat → Nat → Int32) (l : Nat → Nat → Int64) (R : Nat → Nat) : gT (mk f l R) 153 1 = true := Eq.trans rfl rfl
theorem zT_mk_153 (f : Nat → Nat → Int32) (l : Nat → Nat → Int64) (R : Nat → Nat) : (zT (mk f l R) 153).2 = 20 := Eq.trans rfl rfl
theorem gT_mk_154 (f : Nat → Nat → Int32) (l : Nat → Nat → Int64) (R : Nat → Nat) : gT (mk f l R) 154 1 = true := Eq.trans rfl rfl
theorem zT_mk_154 (f : Nat → Nat → Int32) (l : Nat → Nat → Int64) (R : Nat → Nat) : (zT (mk f l R) 154).2 = 6 := Eq.trans rfl rfl
theorem gT_mk_155 (f : Nat → Nat → Int32) (l : Nat → Nat → Int64) (R : Nat → Nat) : gT (mk f l R) 155 1 = true := Eq.trans rfl rfl
theorem zT_mk_155 (f : Nat → Nat → Int32) (l : Nat → Nat → Int64) (R : Nat → Nat) : (zT (mk f l R) 155).2 = 6 := Eq.trans rfl rfl
theorem gT_mk_156 (f : Nat → Nat → Int32) (l : Nat → Nat → Int64) (R : Nat → Nat) : gT (mk f l R) 156 3 = true := Eq.trans rfl rfl
theorem zT_mk_156 (f : Nat → Nat → Int32) (l : Nat → Nat → Int64) (R : Nat → Nat) : (zT (mk f l R) 156).2 = 360 := Eq.trans rfl rfl
theorem gT_mk_157 (f : Nat → Nat → Int32) (l : Nat → Nat → Int64) (R : Nat → Nat) : gT (mk f l R) 157 3 = true := Eq.trans rfl rfl
theorem zT_mk_157 (f : Nat → Nat → Int32) (l : Nat → Nat → Int64) (R : Nat → Nat) : (zT (mk f l R) 157).2 = 60 := Eq.trans rfl rfl
