/-! TOOLS: what a decompiled function is in a known state; ints that are small numbers; loops -/
theorem wbr_T {α : Type} {x y : α} : br true x y = x := Eq.trans rfl rfl
theorem wbr_F {α : Type} {x y : α} : br false x y = y := Eq.trans rfl rfl
theorem wgd_T {α : Type} {r : Option α} : gd true r = r := Eq.trans rfl rfl
theorem wbq {α β : Type} {a : α} {S : zS} {k : α → zS → Option β} : bq (some (a, S)) k = k a S := Eq.trans rfl rfl
theorem wbv {β : Type} {S : zS} {k : zS → Option β} : bv (some S) k = k S := Eq.trans rfl rfl
theorem wnm {α β : Type} {a : α} {f : α → β} : nm a f = f a := Eq.trans rfl rfl
theorem wdT {c : Prop} [i : Decidable c] (h : c) : decide c = true := decide_eq_true h
theorem wdF {c : Prop} [i : Decidable c] (h : ¬ c) : decide c = false := decide_eq_false h
theorem li_0 : (0 : Int32) = nI 0 := rfl
theorem li_1 : (1 : Int32) = nI 1 := rfl
theorem li_2 : (2 : Int32) = nI 2 := rfl
theorem li_3 : (3 : Int32) = nI 3 := rfl
theorem li_4 : (4 : Int32) = nI 4 := rfl
theorem li_5 : (5 : Int32) = nI 5 := rfl
theorem li_6 : (6 : Int32) = nI 6 := rfl
theorem li_7 : (7 : Int32) = nI 7 := rfl
theorem li_8 : (8 : Int32) = nI 8 := rfl
theorem li_9 : (9 : Int32) = nI 9 := rfl
theorem li_10 : (10 : Int32) = nI 10 := rfl
theorem li_11 : (11 : Int32) = nI 11 := rfl
theorem li_12 : (12 : Int32) = nI 12 := rfl
theorem li_13 : (13 : Int32) = nI 13 := rfl
theorem li_14 : (14 : Int32) = nI 14 := rfl
theorem li_15 : (15 : Int32) = nI 15 := rfl
theorem li_16 : (16 : Int32) = nI 16 := rfl
theorem li_17 : (17 : Int32) = nI 17 := rfl
theorem li_18 : (18 : Int32) = nI 18 := rfl
theorem li_19 : (19 : Int32) = nI 19 := rfl
theorem li_20 : (20 : Int32) = nI 20 := rfl
theorem li_21 : (21 : Int32) = nI 21 := rfl
theorem li_22 : (22 : Int32) = nI 22 := rfl
theorem li_23 : (23 : Int32) = nI 23 := rfl
theorem li_24 : (24 : Int32) = nI 24 := rfl
theorem li_25 : (25 : Int32) = nI 25 := rfl
theorem li_26 : (26 : Int32) = nI 26 := rfl
theorem li_27 : (27 : Int32) = nI 27 := rfl
theorem li_28 : (28 : Int32) = nI 28 := rfl
theorem li_29 : (29 : Int32) = nI 29 := rfl
theorem li_30 : (30 : Int32) = nI 30 := rfl
theorem li_31 : (31 : Int32) = nI 31 := rfl
theorem li_32 : (32 : Int32) = nI 32 := rfl
theorem li_33 : (33 : Int32) = nI 33 := rfl
theorem li_38 : (38 : Int32) = nI 38 := rfl
theorem li_40 : (40 : Int32) = nI 40 := rfl
theorem li_41 : (41 : Int32) = nI 41 := rfl
theorem li_48 : (48 : Int32) = nI 48 := rfl
theorem li_57 : (57 : Int32) = nI 57 := rfl
theorem li_58 : (58 : Int32) = nI 58 := rfl
theorem li_59 : (59 : Int32) = nI 59 := rfl
theorem li_60 : (60 : Int32) = nI 60 := rfl
theorem li_61 : (61 : Int32) = nI 61 := rfl
theorem li_62 : (62 : Int32) = nI 62 := rfl
theorem li_63 : (63 : Int32) = nI 63 := rfl
theorem li_68 : (68 : Int32) = nI 68 := rfl
theorem li_69 : (69 : Int32) = nI 69 := rfl
theorem li_70 : (70 : Int32) = nI 70 := rfl
theorem li_71 : (71 : Int32) = nI 71 := rfl
theorem li_72 : (72 : Int32) = nI 72 := rfl
theorem li_73 : (73 : Int32) = nI 73 := rfl
theorem li_74 : (74 : Int32) = nI 74 := rfl
theorem li_75 : (75 : Int32) = nI 75 := rfl
theorem li_83 : (83 : Int32) = nI 83 := rfl
theorem li_87 : (87 : Int32) = nI 87 := rfl
theorem li_88 : (88 : Int32) = nI 88 := rfl
theorem li_89 : (89 : Int32) = nI 89 := rfl
theorem li_99 : (99 : Int32) = nI 99 := rfl
theorem li_100 : (100 : Int32) = nI 100 := rfl
theorem li_104 : (104 : Int32) = nI 104 := rfl
theorem li_105 : (105 : Int32) = nI 105 := rfl
theorem li_106 : (106 : Int32) = nI 106 := rfl
theorem li_107 : (107 : Int32) = nI 107 := rfl
theorem li_108 : (108 : Int32) = nI 108 := rfl
theorem li_109 : (109 : Int32) = nI 109 := rfl
theorem li_110 : (110 : Int32) = nI 110 := rfl
theorem li_111 : (111 : Int32) = nI 111 := rfl
theorem li_112 : (112 : Int32) = nI 112 := rfl
theorem li_113 : (113 : Int32) = nI 113 := rfl
theorem li_114 : (114 : Int32) = nI 114 := rfl
theorem li_115 : (115 : Int32) = nI 115 := rfl
theorem li_116 : (116 : Int32) = nI 116 := rfl
theorem li_117 : (117 : Int32) = nI 117 := rfl
theorem li_118 : (118 : Int32) = nI 118 := rfl
theorem li_119 : (119 : Int32) = nI 119 := rfl
theorem li_120 : (120 : Int32) = nI 120 := rfl
theorem li_121 : (121 : Int32) = nI 121 := rfl
theorem li_124 : (124 : Int32) = nI 124 := rfl
theorem li_127 : (127 : Int32) = nI 127 := rfl
theorem li_128 : (128 : Int32) = nI 128 := rfl
theorem li_200 : (200 : Int32) = nI 200 := rfl
theorem li_4095 : (4095 : Int32) = nI 4095 := rfl
theorem li_4096 : (4096 : Int32) = nI 4096 := rfl
theorem li_9999 : (9999 : Int32) = nI 9999 := rfl
theorem wd1 {i : Decidable True} : @decide True i = true := decide_eq_true trivial
theorem wd0 {i : Decidable False} : @decide False i = false := decide_eq_false not_false
theorem nI_mul (a b : Nat) : nI a * nI b = nI (a * b) := by
  unfold nI
  exact (Int32.ofNat_mul a b).symm
theorem nI_sub {a b : Nat} (h : b ≤ a) : nI a - nI b = nI (a - b) := by
  have : nI a = nI (a - b) + nI b := by rw [nI_add, Nat.sub_add_cancel h]
  rw [this, Int32.add_sub_cancel]
theorem nI_eqm {a : Nat} (ha : a < 2 ^ 31) : ¬ nI a = -nI 1 := by
  intro h
  have h1 := nI_toInt ha
  rw [h] at h1
  have h2 : (-nI 1).toInt = -1 := by decide
  omega
theorem nI_eqm5 {a : Nat} (ha : a < 2 ^ 31) : ¬ nI a = -nI 5 := by
  intro h
  have h1 := nI_toInt ha
  rw [h] at h1
  have h2 : (-nI 5).toInt = -5 := by decide
  omega
theorem nI_div {a b : Nat} (ha : a < 2 ^ 31) (hb : b < 2 ^ 31) : nI a / nI b = nI (a / b) := by
  apply Int32.toInt_inj.mp
  have h1 := Nat.div_le_self a b
  have key : ∀ q : Nat, q < 2 ^ 31 → (q : Int).bmod (2 ^ 32) = q := fun q hq => Int.bmod_eq_of_le (by omega) (by omega)
  rw [Int32.toInt_div, nI_toInt ha, nI_toInt hb, nI_toInt (by omega)]
  exact key (a / b) (by omega)
theorem wgB {k N : Nat} (h : k < N) (hN : N < 2 ^ 31) : gB (nI k) N = true := by
  unfold gB
  rw [wdF (nI_pos (by omega)), nI_clamp (by omega)]
  have : Nat.ble N k = false := by
    cases hb : Nat.ble N k with
    | false => rfl
    | true => exact absurd (Nat.le_of_ble_eq_true hb) (by omega)
  rw [this]
  rfl
theorem wgP {p : Nat} (h : 16 ≤ p) : gP p = true := Nat.ble_eq_true_of_le h
/-- a given int is one of 0..N-1, or not -/
def ox (a : Int32) (N : Nat) : Prop := a < 0 ∨ nI N ≤ a
theorem ix_or (a : Int32) {N : Nat} (h : N < 2 ^ 31) : (∃ k, k < N ∧ a = nI k) ∨ ox a N := by
  rcases pk_ix a h with h | h | ⟨j, hj, e⟩
  · exact Or.inr (Or.inl h)
  · exact Or.inr (Or.inr h)
  · exact Or.inl ⟨j, hj, e⟩
theorem ox_toInt {a : Int32} {N : Nat} (hN : N < 2 ^ 31) : ox a N ↔ a.toInt < 0 ∨ (N : Int) ≤ a.toInt := by
  unfold ox
  rw [Int32.lt_iff_toInt_lt, Int32.le_iff_toInt_le, nI_toInt hN]
  rfl
/-! loops -/
theorem lpS {σ ρ : Type} {step : (σ → Option ρ) → σ → Option ρ} {n : Nat} {s : σ} : lp step (n + 1) s = step (lp step n) s := rfl
theorem lpFU {σ ρ : Type} {step : (σ → Option ρ) → σ → Option ρ} {s : σ} : lp step FU s = step (lp step 4999) s := rfl
/-- a loop whose steps go from I k to I (k + 1), or end with Q; at N it ends with Q -/
theorem lp_run {σ ρ : Type} {step : (σ → Option ρ) → σ → Option ρ} {I : Nat → σ → Prop} {Q : ρ → Prop} (N : Nat)
    (hs : ∀ k s, k < N → I k s → (∃ s', I (k + 1) s' ∧ ∀ K, step K s = K s') ∨ ∃ r, Q r ∧ ∀ K, step K s = some r)
    (he : ∀ s, I N s → ∃ r, Q r ∧ ∀ K, step K s = some r) :
    ∀ (d k : Nat) (s : σ) (F : Nat), k + d = N → d < F → I k s → ∃ r, Q r ∧ lp step F s = some r
  | 0, k, s, F, hk, hF, h => by
    obtain ⟨F, rfl⟩ : ∃ G, F = G + 1 := ⟨F - 1, by omega⟩
    have hk' : k = N := by omega
    subst hk'
    obtain ⟨r, h1, h2⟩ := he s h
    exact ⟨r, h1, h2 _⟩
  | d + 1, k, s, F, hk, hF, h => by
    obtain ⟨F, rfl⟩ : ∃ G, F = G + 1 := ⟨F - 1, by omega⟩
    rcases hs k s (by omega) h with ⟨s', h1, h2⟩ | ⟨r, h1, h2⟩
    · obtain ⟨r, h3, h4⟩ := lp_run N hs he d (k + 1) s' F (by omega) (by omega) h1
      exact ⟨r, h3, (h2 _).trans h4⟩
    · exact ⟨r, h1, h2 _⟩
theorem lp_runF {σ ρ : Type} {step : (σ → Option ρ) → σ → Option ρ} {I : Nat → σ → Prop} {Q : ρ → Prop} (N : Nat) (hN : N < 5000) {s : σ} (h0 : I 0 s)
    (hs : ∀ k s, k < N → I k s → (∃ s', I (k + 1) s' ∧ ∀ K, step K s = K s') ∨ ∃ r, Q r ∧ ∀ K, step K s = some r)
    (he : ∀ s, I N s → ∃ r, Q r ∧ ∀ K, step K s = some r) : ∃ r, Q r ∧ lp step FU s = some r :=
  lp_run N hs he N 0 s FU (by omega) hN h0
/-- a loop of closed form: the step at W k, with k to come, goes to W (k - 1) -/
theorem lp_walk {σ ρ : Type} {step : (σ → Option ρ) → σ → Option ρ} (W : Nat → σ) (r : ρ) (N : Nat) (hs : ∀ k, k < N → ∀ K, step K (W k) = K (W (k + 1))) (he : ∀ K, step K (W N) = some r) :
    ∀ (d k F : Nat), k + d = N → d < F → lp step F (W k) = some r
  | 0, k, F, hk, hF => by
    obtain ⟨F, rfl⟩ : ∃ G, F = G + 1 := ⟨F - 1, by omega⟩
    have hk' : k = N := by omega
    subst hk'
    exact he _
  | d + 1, k, F, hk, hF => by
    obtain ⟨F, rfl⟩ : ∃ G, F = G + 1 := ⟨F - 1, by omega⟩
    exact (hs k (by omega) _).trans (lp_walk W r N hs he d (k + 1) F (by omega) (by omega))
theorem lp_walkF {σ ρ : Type} {step : (σ → Option ρ) → σ → Option ρ} (W : Nat → σ) {r : ρ} (N : Nat) (hN : N < 5000) {s : σ} (h0 : W 0 = s) (hs : ∀ k, k < N → ∀ K, step K (W k) = K (W (k + 1))) (he : ∀ K, step K (W N) = some r) : lp step FU s = some r := by
  rw [← h0]
  exact lp_walk W r N hs he N 0 FU (by omega) hN
/-! the three houses, the saints' places, the orders' places -/
def zb (b : Nat) : Prop := b = 41 ∨ b = 63 ∨ b = 85
theorem zb41 : zb 41 := Or.inl rfl
theorem zb63 : zb 63 := Or.inr (Or.inl rfl)
theorem zb85 : zb 85 := Or.inr (Or.inr rfl)
theorem zb_ge {b : Nat} (h : zb b) : 41 ≤ b ∧ b ≤ 85 := by
  rcases h with rfl | rfl | rfl <;> decide
section
variable {f : Nat → Nat → Int32} {l : Nat → Nat → Int64} {R : Nat → Nat} {b : Nat}
theorem hb_T (h : zb b) : gT (mk f l R) b 101 = true := by rcases h with rfl | rfl | rfl <;> rfl
theorem hb_T1 (h : zb b) : gT (mk f l R) (b + 1) 6 = true := by rcases h with rfl | rfl | rfl <;> rfl
theorem hb_T2 (h : zb b) : gT (mk f l R) (b + 2) 1 = true := by rcases h with rfl | rfl | rfl <;> rfl
theorem hb_T3 (h : zb b) : gT (mk f l R) (b + 3) 1 = true := by rcases h with rfl | rfl | rfl <;> rfl
theorem hb_T4 (h : zb b) : gT (mk f l R) (b + 4) 104 = true := by rcases h with rfl | rfl | rfl <;> rfl
theorem hb_T5 (h : zb b) : gT (mk f l R) (b + 5) 1 = true := by rcases h with rfl | rfl | rfl <;> rfl
theorem hb_T6 (h : zb b) : gT (mk f l R) (b + 6) 104 = true := by rcases h with rfl | rfl | rfl <;> rfl
theorem hb_T7 (h : zb b) : gT (mk f l R) (b + 7) 1 = true := by rcases h with rfl | rfl | rfl <;> rfl
theorem hb_T8 (h : zb b) : gT (mk f l R) (b + 8) 104 = true := by rcases h with rfl | rfl | rfl <;> rfl
theorem hb_T9 (h : zb b) : gT (mk f l R) (b + 9) 1 = true := by rcases h with rfl | rfl | rfl <;> rfl
theorem hb_n1 (h : zb b) : (zT (mk f l R) (b + 1)).2 = 6 := by rcases h with rfl | rfl | rfl <;> rfl
theorem hb_n2 (h : zb b) : (zT (mk f l R) (b + 2)).2 = 4 := by rcases h with rfl | rfl | rfl <;> rfl
theorem hb_n3 (h : zb b) : (zT (mk f l R) (b + 3)).2 = 4 := by rcases h with rfl | rfl | rfl <;> rfl
theorem hb_n5 (h : zb b) : (zT (mk f l R) (b + 5)).2 = 15 := by rcases h with rfl | rfl | rfl <;> rfl
theorem hb_n7 (h : zb b) : (zT (mk f l R) (b + 7)).2 = 24 := by rcases h with rfl | rfl | rfl <;> rfl
theorem hb_n9 (h : zb b) : (zT (mk f l R) (b + 9)).2 = 24 := by rcases h with rfl | rfl | rfl <;> rfl
theorem hb_R0 (h : zb b) : zR (mk f l R) b 0 = b + 1 := by rcases h with rfl | rfl | rfl <;> rfl
theorem hb_R1 (h : zb b) : zR (mk f l R) b 1 = b + 2 := by rcases h with rfl | rfl | rfl <;> rfl
theorem hb_R2 (h : zb b) : zR (mk f l R) b 2 = b + 3 := by rcases h with rfl | rfl | rfl <;> rfl
theorem hb_R3 (h : zb b) : zR (mk f l R) b 3 = b + 4 := by rcases h with rfl | rfl | rfl <;> rfl
theorem hb_R4 (h : zb b) : zR (mk f l R) b 4 = b + 6 := by rcases h with rfl | rfl | rfl <;> rfl
theorem hb_R5 (h : zb b) : zR (mk f l R) b 5 = b + 8 := by rcases h with rfl | rfl | rfl <;> rfl
theorem hb_R8 (h : zb b) : zR (mk f l R) b 8 = R b := by rcases h with rfl | rfl | rfl <;> rfl
theorem hb_R40 (h : zb b) : zR (mk f l R) (b + 4) 0 = b + 5 := by rcases h with rfl | rfl | rfl <;> rfl
theorem hb_R60 (h : zb b) : zR (mk f l R) (b + 6) 0 = b + 7 := by rcases h with rfl | rfl | rfl <;> rfl
theorem hb_R80 (h : zb b) : zR (mk f l R) (b + 8) 0 = b + 9 := by rcases h with rfl | rfl | rfl <;> rfl
theorem hb_u8 (h : zb b) {x : Nat} : uR (mk f l R) b 8 x = mk f l (ur R b x) := by
  rcases h with rfl | rfl | rfl
  · exact uR_mk_41 f l R x
  · exact uR_mk_63 f l R x
  · exact uR_mk_85 f l R x
/-- a saint's place -/
def sp (p : Nat) : Prop := p = 34 ∨ p = 36 ∨ ∃ b i, zb b ∧ i < 6 ∧ p = b + 10 + 2 * i
theorem sp_36 : sp 36 := Or.inr (Or.inl rfl)
theorem sp_b {i : Nat} (h : zb b) (hi : i < 6) : sp (b + 10 + 2 * i) := Or.inr (Or.inr ⟨b, i, h, hi, rfl⟩)
theorem i6 {i : Nat} {P : Nat → Prop} (h : i < 6) (h0 : P 0) (h1 : P 1) (h2 : P 2) (h3 : P 3) (h4 : P 4) (h5 : P 5) : P i := by
  match i, h with
  | 0, _ => exact h0
  | 1, _ => exact h1
  | 2, _ => exact h2
  | 3, _ => exact h3
  | 4, _ => exact h4
  | 5, _ => exact h5
  | i + 6, h => omega
theorem hb_Rs {i : Nat} (h : zb b) (hi : i < 6) : zR (mk f l R) (b + 1) i = b + 10 + 2 * i := by
  refine i6 (P := fun i => zR (mk f l R) (b + 1) i = b + 10 + 2 * i) hi ?_ ?_ ?_ ?_ ?_ ?_ <;> rcases h with rfl | rfl | rfl <;> rfl
theorem sp_all {P : Nat → Prop} {p : Nat} (h : sp p) (h34 : P 34) (h36 : P 36) (hb : ∀ b i, zb b → i < 6 → P (b + 10 + 2 * i)) : P p := by
  rcases h with rfl | rfl | ⟨b, i, h1, h2, rfl⟩
  · exact h34
  · exact h36
  · exact hb b i h1 h2
theorem sp_T {p : Nat} (h : sp p) : gT (mk f l R) p 105 = true := sp_all (P := fun p => gT (mk f l R) p 105 = true) h rfl rfl (fun b i h hi => by
  rcases h with rfl | rfl | rfl <;> exact i6 (P := fun i => gT (mk f l R) (_ + 10 + 2 * i) 105 = true) hi rfl rfl rfl rfl rfl rfl)
theorem sp_T1 {p : Nat} (h : sp p) : gT (mk f l R) (p + 1) 1 = true := sp_all (P := fun p => gT (mk f l R) (p + 1) 1 = true) h rfl rfl (fun b i h hi => by
  rcases h with rfl | rfl | rfl <;> exact i6 (P := fun i => gT (mk f l R) (_ + 10 + 2 * i + 1) 1 = true) hi rfl rfl rfl rfl rfl rfl)
theorem sp_n1 {p : Nat} (h : sp p) : (zT (mk f l R) (p + 1)).2 = 4 := sp_all (P := fun p => (zT (mk f l R) (p + 1)).2 = 4) h rfl rfl (fun b i h hi => by
  rcases h with rfl | rfl | rfl <;> exact i6 (P := fun i => (zT (mk f l R) (_ + 10 + 2 * i + 1)).2 = 4) hi rfl rfl rfl rfl rfl rfl)
theorem sp_R0 {p : Nat} (h : sp p) : zR (mk f l R) p 0 = p + 1 := sp_all (P := fun p => zR (mk f l R) p 0 = p + 1) h rfl rfl (fun b i h hi => by
  rcases h with rfl | rfl | rfl <;> exact i6 (P := fun i => zR (mk f l R) (_ + 10 + 2 * i) 0 = _ + 10 + 2 * i + 1) hi rfl rfl rfl rfl rfl rfl)
theorem sp_ge {p : Nat} (h : sp p) : 34 ≤ p ∧ p ≤ 105 := sp_all (P := fun p => 34 ≤ p ∧ p ≤ 105) h (by decide) (by decide) (fun b i h hi => by
  have := zb_ge h
  omega)
/-- an order's place: 0: the one without steps -/
def hp (r : Nat) : Nat := if r = 0 then 38 else 104 + 3 * r
theorem hp_0 : hp 0 = 38 := rfl
theorem hp_s (r : Nat) : hp (r + 1) = 107 + 3 * r := by
  unfold hp
  rw [if_neg (by omega)]
  omega
theorem i7 {i : Nat} {P : Nat → Prop} (h : i ≤ 6) (h0 : P 0) (h1 : P 1) (h2 : P 2) (h3 : P 3) (h4 : P 4) (h5 : P 5) (h6 : P 6) : P i := by
  match i, h with
  | 0, _ => exact h0
  | 1, _ => exact h1
  | 2, _ => exact h2
  | 3, _ => exact h3
  | 4, _ => exact h4
  | 5, _ => exact h5
  | 6, _ => exact h6
  | i + 7, h => omega
theorem hp_T {r : Nat} (h : r ≤ 6) : gT (mk f l R) (hp r) 102 = true := i7 (P := fun r => gT (mk f l R) (hp r) 102 = true) h rfl rfl rfl rfl rfl rfl rfl
theorem hp_R0 {r : Nat} (h : r ≤ 6) : zR (mk f l R) (hp r) 0 = hp r + 1 := i7 (P := fun r => zR (mk f l R) (hp r) 0 = hp r + 1) h rfl rfl rfl rfl rfl rfl rfl
theorem hp_R1 {r : Nat} (h : r ≤ 6) : zR (mk f l R) (hp r) 1 = hp r + 2 := i7 (P := fun r => zR (mk f l R) (hp r) 1 = hp r + 2) h rfl rfl rfl rfl rfl rfl rfl
theorem hp_T1 {r : Nat} (h : r ≤ 6) : gT (mk f l R) (hp r + 1) 1 = true := i7 (P := fun r => gT (mk f l R) (hp r + 1) 1 = true) h rfl rfl rfl rfl rfl rfl rfl
theorem hp_T2 {r : Nat} (h : r ≤ 6) : gT (mk f l R) (hp r + 2) 1 = true := i7 (P := fun r => gT (mk f l R) (hp r + 2) 1 = true) h rfl rfl rfl rfl rfl rfl rfl
theorem hp_n1 {r : Nat} (h : r ≤ 6) (h0 : 0 < r) : (zT (mk f l R) (hp r + 1)).2 = 100 := i7 (P := fun r => 0 < r → (zT (mk f l R) (hp r + 1)).2 = 100) h (fun h => absurd h (by decide)) (fun _ => rfl) (fun _ => rfl) (fun _ => rfl) (fun _ => rfl) (fun _ => rfl) (fun _ => rfl) h0
theorem hp_n2 {r : Nat} (h : r ≤ 6) (h0 : 0 < r) : (zT (mk f l R) (hp r + 2)).2 = 100 := i7 (P := fun r => 0 < r → (zT (mk f l R) (hp r + 2)).2 = 100) h (fun h => absurd h (by decide)) (fun _ => rfl) (fun _ => rfl) (fun _ => rfl) (fun _ => rfl) (fun _ => rfl) (fun _ => rfl) h0
end
