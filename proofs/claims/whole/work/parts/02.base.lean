/-! THE ABSTRACT MEMORY: all cells that the law's run makes, by places (16, 17, ..); places below 16 are cells that stood before: 1, 2 static int arrays, 3 the script, 4..6 texts, 7..9 their bytes, 10 a static that is only carried; 0 is null -/
abbrev zS : Type := (Nat → Nat → Int32) × (Nat → Nat → Int64) × (Nat → Nat → Nat) × (Nat → Nat × Nat) × Nat × Nat
def zI (S : zS) (p j : Nat) : Int32 := S.1 p j
def zL (S : zS) (p j : Nat) : Int64 := S.2.1 p j
def zR (S : zS) (p j : Nat) : Nat := S.2.2.1 p j
def zT (S : zS) (p : Nat) : Nat × Nat := S.2.2.2.1 p
def zN (S : zS) : Nat := S.2.2.2.2.1
def zC (S : zS) : Nat := S.2.2.2.2.2
def uI (S : zS) (p j : Nat) (x : Int32) : zS := (fun q k => if q = p ∧ k = j then x else S.1 q k, S.2)
def uL (S : zS) (p j : Nat) (x : Int64) : zS := (S.1, fun q k => if q = p ∧ k = j then x else S.2.1 q k, S.2.2)
def uR (S : zS) (p j : Nat) (x : Nat) : zS := (S.1, S.2.1, fun q k => if q = p ∧ k = j then x else S.2.2.1 q k, S.2.2.2)
def kI (S : zS) (p sp q dp n : Nat) : zS := (fun r k => if r = q ∧ dp ≤ k ∧ k < dp + n then S.1 p (sp + (k - dp)) else S.1 r k, S.2)
def kL (S : zS) (p sp q dp n : Nat) : zS := (S.1, fun r k => if r = q ∧ dp ≤ k ∧ k < dp + n then S.2.1 p (sp + (k - dp)) else S.2.1 r k, S.2.2)
def uN (S : zS) (t : Nat × Nat) : zS := (S.1, S.2.1, S.2.2.1, fun q => if q = S.2.2.2.2.1 then t else S.2.2.2.1 q, S.2.2.2.2.1 + 1, S.2.2.2.2.2 + t.2)
/-! places and values -/
def zo (H0 : Heap) (sp : Nat → Option Nat) (q : Nat) : Option Nat := if q < 16 then sp q else some (H0.size + (q - 16))
def zv (o : Nat → Option Nat) (v : Value) : Value := match v with
  | .ref q => va_rf (o q)
  | w => w
theorem zo_hi {H0 : Heap} {sp : Nat → Option Nat} {q : Nat} (h : 16 ≤ q) : zo H0 sp q = some (H0.size + (q - 16)) := by
  unfold zo
  rw [if_neg (by omega)]
theorem zv_cat (o : Nat → Option Nat) (v : Value) : (zv o v).category = v.category := by
  cases v with
  | ref q =>
    show (va_rf (o q)).category = _
    cases o q <;> rfl
  | _ => rfl
def zfv (o : Nat → Option Nat) (S : zS) (p ci j : Nat) : Value := if (zkk.getD ci []).getD j false = true then va_rf (o (zR S p j)) else .int (zI S p j)
def zav (o : Nat → Option Nat) (S : zS) (p t j : Nat) : Value := if t = 3 then .long (zL S p j) else if t < 3 then .int (zI S p j) else va_rf (o (zR S p j))
/-- what a place's cell is -/
def zat (D : va_G) (cA : Nat → ClassId) (o : Nat → Option Nat) (S : zS) (H : Heap) (p a : Nat) : Prop :=
  (0 < (zT S p).1 ∧ (zT S p).1 < 7 ∧ H[a]? = some (arrV (cA (zT S p).1) (zT S p).2 (zav o S p (zT S p).1))) ∨
  ∃ (ci : Nat) (r : vw_C), (zT S p).1 = 100 + ci ∧ zcl[ci]? = some r ∧ r.2.2 = (zT S p).2 ∧ t_OB a (D.1 ci) r.2.2 (D.2 ci) H (zfv o S p ci)
/-! what lies below place 16 -/
def zs0T (p : Nat) : Nat × Nat := match p with
  | 1 => (1, 7)
  | 2 => (1, 21)
  | 3 => (9, 0)
  | 4 => (7, 3)
  | 5 => (7, 3)
  | 6 => (7, 3)
  | 7 => (8, 4)
  | 8 => (8, 5)
  | 9 => (8, 4)
  | _ => (0, 0)
def zb1 : List Int32 := [-1, 0, 0, 0, 1, 2, 3]
def zb2 : List Int32 := [10, 11, 12, 0, 20, 0, 30, 0, 0, 0, 0, 40, 50, 51, 0, 0, 0, 60, 71, 70, 0]
def zby : List (List Int32) := [[119, 101, 97, 114], [115, 99, 114, 117, 98], [115, 111, 102, 116]]
def zs0I (p j : Nat) : Int32 := match p with
  | 1 => zb1.getD j 0
  | 2 => zb2.getD j 0
  | 7 => (zby.getD 0 []).getD j 0
  | 8 => (zby.getD 1 []).getD j 0
  | 9 => (zby.getD 2 []).getD j 0
  | _ => 0
def zs0R (p j : Nat) : Nat := match p, j with
  | 4, 0 => 7
  | 5, 0 => 8
  | 6, 0 => 9
  | _, _ => 0
theorem zs0T_lt (p : Nat) : (zs0T p).1 < 10 := by
  unfold zs0T
  split <;> decide
theorem zs0T_1 (p : Nat) (h : (zs0T p).1 = 1) : p = 1 ∨ p = 2 := by
  unfold zs0T at h
  split at h <;> first | exact Or.inl rfl | exact Or.inr rfl | cases h
theorem zs0T_7 (p : Nat) (h : (zs0T p).1 = 7) : p = 4 ∨ p = 5 ∨ p = 6 := by
  unfold zs0T at h
  split at h <;> first | exact Or.inl rfl | exact Or.inr (Or.inl rfl) | exact Or.inr (Or.inr rfl) | cases h
theorem zs0T_8 (p : Nat) (h : (zs0T p).1 = 8) : p = 7 ∨ p = 8 ∨ p = 9 := by
  unfold zs0T at h
  split at h <;> first | exact Or.inl rfl | exact Or.inr (Or.inl rfl) | exact Or.inr (Or.inr rfl) | cases h
theorem zs0T_m (p : Nat) (h : 1 < (zs0T p).1) (h2 : (zs0T p).1 < 7) : False := by
  unfold zs0T at h h2
  split at h <;> simp_all
def zP (H0 : Heap) (D : va_G) (cA : Nat → ClassId) (sp : Nat → Option Nat) (S : zS) (H : Heap) : Prop :=
  16 ≤ zN S ∧ H.size = H0.size + (zN S - 16) ∧ (∀ q, q < H0.size → H[q]? = H0[q]?) ∧
  (∀ p, 16 ≤ p → p < zN S → zat D cA (zo H0 sp) S H p (H0.size + (p - 16))) ∧
  (∀ p, zN S ≤ p → zT S p = (0, 0) ∧ ∀ j, zI S p j = 0 ∧ zL S p j = 0 ∧ zR S p j = 0) ∧
  ∀ p, p < 16 → zT S p = zs0T p ∧ ∀ j, zI S p j = zs0I p j ∧ zR S p j = zs0R p j
abbrev zty (cA : Nat → ClassId) : List (ClassId × FieldType) := [(cA 1, .int), (cA 2, .char), (cA 3, .long), (cA 4, .object zr2), (cA 5, .object zr8), (cA 6, .object zr5)]
abbrev zXt : Type := Nat × (Nat → Int32)
/-- what stood before, seen from a state -/
def zK (X : zXt) (H0 : Heap) (D : va_G) (cA : Nat → ClassId) (sp : Nat → Option Nat) (U : State) : Prop :=
  va_K D zcl (zty cA) U ∧ (∀ w ∈ znw, va_Nw w U) ∧ (va_AO zr2 U ∧ va_AO zr8 U ∧ va_AO zr5 U) ∧
  ∃ sa : Nat → Nat, sp 0 = none ∧ (∀ k, 1 ≤ k → k < 10 → sp k = some (sa k)) ∧
    (va_Z "LoofahSaints" "ABOVE" "[I" (.ref (sa 1)) (fun q => H0.size ≤ q) U H0 ∧ va_Z "LoofahSaints$Acts" "BODIES" "[I" (.ref (sa 2)) (fun q => H0.size ≤ q) U H0 ∧
     va_Z "java/lang/String" "COMPACT_STRINGS" "Z" (.int 1) (fun q => H0.size ≤ q) U H0 ∧ va_Z "jdk/internal/util/Preconditions" "SIOOBE_FORMATTER" "Ljava/util/function/BiFunction;" (va_rf (sp 10)) (fun q => H0.size ≤ q) U H0) ∧
    (va_T .int (sa 1) 7 (fun j => .int (zs0I 1 j)) (fun q => H0.size ≤ q) U H0 ∧ va_T .int (sa 2) 21 (fun j => .int (zs0I 2 j)) (fun q => H0.size ≤ q) U H0) ∧
    vk_S 3 [4, 5, 4] zby (fun i => sa (4 + i)) (fun i => sa (7 + i)) (fun q => H0.size ≤ q) U H0 ∧
    (vk_R "LoofahSaints$Reader" 49 "wear" (sa 4) U ∧ vk_R "LoofahSaints$Reader" 61 "scrub" (sa 5) U ∧ vk_R "LoofahSaints$Reader" 63 "soft" (sa 6) U) ∧
    va_X (sa 3) X.1 X.2 U H0 ∧ sa 3 < H0.size
theorem zK.warm {X : zXt} {H0 : Heap} {D : va_G} {cA : Nat → ClassId} {sp : Nat → Option Nat} {s U : State} (hW : s.WarmedH U.vm) (h : zK X H0 D cA sp s) : zK X H0 D cA sp U := by
  obtain ⟨h1, h2, ⟨h3, h4, h5⟩, sa, h6, h7, ⟨z1, z2, z3, z4⟩, ⟨t1, t2⟩, k1, ⟨r1, r2, r3⟩, x1, x2⟩ := h
  have hA := hW.alike
  refine ⟨va_K.moved hA h1, fun w hw => ?_, ⟨va_AO.moved hA h3, va_AO.moved hA h4, va_AO.moved hA h5⟩, sa, h6, h7, ⟨va_Z.moved hA z1, va_Z.moved hA z2, va_Z.moved hA z3, va_Z.moved hA z4⟩, ⟨va_T.moved hA t1, va_T.moved hA t2⟩, vk_S.moved hA k1, ⟨vk_R.warm hW r1, vk_R.warm hW r2, vk_R.warm hW r3⟩, va_X.moved hA x1, x2⟩
  have h2w := h2 w hw
  rcases znw_is w hw with ⟨a, i, b, n, d, e, rfl⟩ | ⟨a, i, b, e, rfl⟩
  · exact va_Nw.warmF hW h2w
  · exact va_Nw.warmM hW h2w
theorem zK.same {X : zXt} {H0 : Heap} {D : va_G} {cA : Nat → ClassId} {sp : Nat → Option Nat} {u U : State} (hv : U.vm = u.vm) (h : zK X H0 D cA sp u) : zK X H0 D cA sp U := by
  obtain ⟨h1, h2, ⟨h3, h4, h5⟩, sa, h6, h7, ⟨z1, z2, z3, z4⟩, ⟨t1, t2⟩, k1, ⟨r1, r2, r3⟩, x1, x2⟩ := h
  have hA : u.vm.Alike U.vm := by rw [hv]; exact Vm.Alike.refl _
  refine ⟨va_K.moved hA h1, fun w hw => ?_, ⟨va_AO.moved hA h3, va_AO.moved hA h4, va_AO.moved hA h5⟩, sa, h6, h7, ⟨va_Z.moved hA z1, va_Z.moved hA z2, va_Z.moved hA z3, va_Z.moved hA z4⟩, ⟨va_T.moved hA t1, va_T.moved hA t2⟩, vk_S.moved hA k1, ⟨vk_R.same hv r1, vk_R.same hv r2, vk_R.same hv r3⟩, va_X.moved hA x1, x2⟩
  have h2w := h2 w hw
  rcases znw_is w hw with ⟨a, i, b, n, d, e, rfl⟩ | ⟨a, i, b, e, rfl⟩
  · exact va_Nw.same rfl hv.symm h2w
  · exact va_Nw.same rfl hv.symm h2w
