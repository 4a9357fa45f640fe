/-! THE CLAIM OUT OF ONE WALK OF THE LAW'S BODY -/
def R_law : String := "LoofahSaintsLaw"
def lw_P (b : Addr) (xs : List Int32) (args : Array Value) (s : State) : Prop := args = #[.ref b] ∧ s.IntsAt b xs ∧ xs.length ≤ 3072 ∧ (Jvm.Cond.and given_1 narrow_1).before args s = true
def lw_Q (_ : Array Value) (s : State) (o : Outcome) (t : State) : Prop := o = .returned (some (.int 1)) ∧ Framed s o t [] 600000 7302249
def lw_Z (below : List Frame) (a : Array Value) (s : State) : State → Prop := fun t => ∃ o, t.status = .running ∧ Ended t below o ∧ lw_Q a s o t
/-- the law's own end, with 1 on the stack, nothing written that was there before, its room as the claim has it -/
theorem lw_ret {p : Program} {l : Launch} {e : Env} {s : State} {m : MethodId} {below : List Frame} {meth : Method} {c : Code} {b : Nat} (hx : p.tables.exec = Jvm.exec) (hb : c.code = code) (hr : meth.sig.returnType = ret) (hlocks : meth.locks = false) {pc : Nat} {H : Heap} {ls : Array Slot} (hdg : decode code pc = .ok (.ireturn, 1)) : W p l e room_1 s m #[Value.ref b] below meth c H [] 600000 7302249 (lw_Z below #[Value.ref b] s) (F0 m pc ls [.int 1]) := by
  intro T hT X
  obtain ⟨fs, hret, hrun, hended, hW, hframe⟩ := X.leave (v := some (.int 1)) (hlocks := hlocks) (fun h => by rw [hr] at h; cases h)
  have hmeth' : T.vm.method? m = some meth := X.method'
  refine ⟨T.setFrames fs, ?_, .returned (some (.int 1)), hrun, hended, rfl, ⟨_, rfl⟩, hW, hframe⟩
  jvm_step X.here [X.here.top, hx, hb, hdg, hmeth', hr, ret, narrow_b1]
  (try refine ⟨rfl, ?_⟩); (try refine ⟨rfl, ?_⟩)
  first | (intro acts; rw [hret _ acts rfl rfl rfl]) | rw [hret _ _ rfl rfl rfl]
  exact Steps.refl _
/-- what holds at the law's entry: the machine, the code, the tables' words (any of lw_tbl by 'hts w (by decide +kernel)'), the script of L ints xs at the cell b, what the Statement gives of the start (any of its parts by flat_of_before) -/
def lw_At (p : Program) (s : State) (m : MethodId) (meth : Method) (c : Code) (b L : Nat) (xs : Nat → Int32) : Prop :=
  p.tables.exec = Jvm.exec ∧ c.code = code ∧ meth.sig.returnType = ret ∧ c.maxLocals = 4 ∧ s.vm.findClass R_law = some m.cls ∧ (∀ w ∈ lw_tbl, w.before #[Value.ref b] s = true) ∧ va_X b L xs s s.heap ∧ b < s.heap.size ∧ meth.locks = false ∧ (Jvm.Cond.and given_1 narrow_1).before #[Value.ref b] s = true
theorem zlen3 : ∀ i : Nat, i < 3 → ([4, 5, 4] : List Nat).getD i 0 < 2 ^ 31 := by decide +kernel
theorem zall (n : Nat) {P Q : Nat → Prop} (h : ∀ j, Q j → P j) (hq : ∀ j, j < n → Q j) : ∀ j, j < n → P j := fun j hj => h j (hq j hj)
theorem zall2 (n : Nat) (m : Nat → Nat) {P Q : Nat → Nat → Prop} (h : ∀ i j, Q i j → P i j) (hq : ∀ i, i < n → ∀ j, j < m i → Q i j) : ∀ i, i < n → ∀ j, j < m i → P i j := fun i hi j hj => h i j (hq i hi j hj)
def ztm (i : Nat) : Term := match i with
  | 0 => .string "LoofahSaints$Reader" 49
  | 1 => .string "LoofahSaints$Reader" 61
  | _ => .string "LoofahSaints$Reader" 63
theorem zne {s : State} {args : Array Value} (hfl : ∀ c ∈ flatC (Jvm.Cond.and given_1 narrow_1), c.before args s = true) : ∀ i j : Nat, i < 3 → j < 3 → i ≠ j → (Cond.not (Cond.eq (ztm i) (ztm j))).before args s = true ∨ (Cond.not (Cond.eq (ztm j) (ztm i))).before args s = true := by
  have h01 : (Cond.not (Cond.eq (ztm 0) (ztm 1))).before args s = true := hfl _ (by decide +kernel)
  have h02 : (Cond.not (Cond.eq (ztm 0) (ztm 2))).before args s = true := hfl _ (by decide +kernel)
  have h12 : (Cond.not (Cond.eq (ztm 1) (ztm 2))).before args s = true := hfl _ (by decide +kernel)
  intro i j hi hj hij
  match i, j, hi, hj with
  | 0, 0, _, _ => exact absurd rfl hij
  | 0, 1, _, _ => exact Or.inl h01
  | 0, 2, _, _ => exact Or.inl h02
  | 1, 0, _, _ => exact Or.inr h01
  | 1, 1, _, _ => exact absurd rfl hij
  | 1, 2, _, _ => exact Or.inl h12
  | 2, 0, _, _ => exact Or.inr h02
  | 2, 1, _, _ => exact Or.inr h12
  | 2, 2, _, _ => exact absurd rfl hij
  | i + 3, _, hi, _ => omega
  | _, j + 3, _, hj => omega
theorem zOn : ∀ w ∈ znw, w.onTables = true := by
  intro w hw
  rcases znw_is w hw with ⟨a, i, b, n, d, e, rfl⟩ | ⟨a, i, b, e, rfl⟩ <;> rfl
theorem zvkS {N : Nat} {len : List Nat} {byt : List (List Int32)} {adK adV aK aV : Nat → Nat} {A : Nat → Prop} {U : State} {H : Heap} (eK : ∀ i, i < N → aK i = adK i) (eV : ∀ i, i < N → aV i = adV i) (h : vk_S N len byt adK adV A U H) : vk_S N len byt aK aV A U H := by
  refine ⟨fun i hi => ?_, fun i j hi hj e => ?_⟩
  · rw [eK i hi, eV i hi]
    exact h.1 i hi
  · rw [eK i hi, eK j hj] at e
    exact h.2 i j hi hj e
/-- the memory at the start -/
def zs0 : zS := (zs0I, fun _ _ => 0, zs0R, zs0T, 16, 0)
theorem zs0T_hi : ∀ p, 16 ≤ p → zs0T p = (0, 0) := by
  intro p h
  unfold zs0T
  split <;> first | rfl | omega
theorem zs0I_hi : ∀ p, 16 ≤ p → ∀ j, zs0I p j = 0 := by
  intro p h j
  unfold zs0I
  split <;> first | rfl | omega
theorem zs0R_hi : ∀ p, 16 ≤ p → ∀ j, zs0R p j = 0 := by
  intro p h j
  unfold zs0R
  split <;> first | rfl | omega
theorem zP_0 {H0 : Heap} {D : va_G} {cA : Nat → ClassId} {sp : Nat → Option Nat} : zP H0 D cA sp zs0 H0 :=
  ⟨Nat.le_refl _, rfl, fun _ _ => rfl, fun p h1 h2 => absurd h2 (Nat.not_lt.mpr h1), fun p h => ⟨zs0T_hi p h, fun j => ⟨zs0I_hi p h j, rfl, zs0R_hi p h j⟩⟩, fun p _ => ⟨rfl, fun j => ⟨rfl, rfl⟩⟩⟩
/-- an array class, by a word of the tables -/
theorem zarr {s : State} {ty : FieldType} (h : (Cond.arrayClass ty).before #[] s = true) : ∃ c, ArrOfT s c ty ∧ s.vm.findClass ("[" ++ ty.toString) = some c := by
  obtain ⟨c, k, comp, h1, h2, h3⟩ := Cond.arrayClass_spec h
  exact ⟨c, fun n z => ⟨fun k h => (by cases h), k, h2, comp, h3⟩, h1⟩
theorem zarrO {s : State} {C : String} (h : (Cond.arrayOver (.object C)).before #[] s = true) : ∃ c, ArrOfT s c (.object C) ∧ va_RA s c (.object C) := by
  obtain ⟨comp, c, k, h1, h2, h3, h4, h5⟩ := Cond.arrayOver_spec h
  exact ⟨c, fun n z => ⟨fun k h => (by cases h), k, h3, comp, h4⟩, k, comp, h3, h4, h1, h5⟩
theorem zbef {args : Array Value} {s : State} {w : Cond} (hw : (w.onTables && w.keeps) = true ∨ ∃ ty, w = .arrayClass ty) (h : w.before args s = true) : w.before #[] s = true :=
  word_at (State.WarmedH.refl s) hw h
theorem zK_start {s : State} {b L : Nat} {xs : Nat → Int32} (hts0 : ∀ w ∈ lw_tbl, w.before #[Value.ref b] s = true) (hgv : (Jvm.Cond.and given_1 narrow_1).before #[Value.ref b] s = true) (hX : va_X b L xs s s.heap) (hbl : b < s.heap.size) :
    ∃ (D : va_G) (cA : Nat → ClassId) (sp : Nat → Option Nat), zK (L, xs) s.heap D cA sp s ∧ sp 3 = some b := by
  have hlt := hts0
  have hts : ∀ w ∈ zw, w.before #[Value.ref b] s = true := fun w hw => hts0 w (zwL w hw)
  have hfl := flat_of_before _ hgv
  have hA : ∀ a : Nat, a < s.heap.size → ¬ (fun q => s.heap.size ≤ q) a := fun a h => Nat.not_le.mpr h
  obtain ⟨c0, i0, hK0⟩ := u_known (C := zr0) (T := zt0) (N := 3) (n := 3) hts zi0 (hts _ zq127)
  obtain ⟨c1, i1, hK1⟩ := u_known (C := zr1) (T := zt1) (N := 9) (n := 9) hts zi1 (hts _ zq197)
  obtain ⟨c2, i2, hK2⟩ := u_known (C := zr2) (T := zt2) (N := 4) (n := 4) hts zi2 (hts _ zq38)
  obtain ⟨c3, i3, hK3⟩ := u_known (C := zr3) (T := zt3) (N := 5) (n := 5) hts zi3 (hts _ zq32)
  obtain ⟨c4, i4, hK4⟩ := u_known (C := zr4) (T := zt4) (N := 3) (n := 3) hts zi4 (hts _ zq205)
  obtain ⟨c5, i5, hK5⟩ := u_known (C := zr5) (T := zt5) (N := 8) (n := 8) hts zi5 (hts _ zq133)
  obtain ⟨c6, i6, hK6⟩ := u_known (C := zr6) (T := zt6) (N := 5) (n := 5) hts zi6 (hts _ zq103)
  obtain ⟨c7, i7, hK7⟩ := u_known (C := zr7) (T := zt7) (N := 5) (n := 5) hts zi7 (hts _ zq80)
  obtain ⟨c8, i8, hK8⟩ := u_known (C := zr8) (T := zt8) (N := 3) (n := 3) hts zi8 (hts _ zq270)
  obtain ⟨c9, i9, hK9⟩ := u_known (C := zr9) (T := zt9) (N := 12) (n := 12) hts zi9 (hts _ zq20)
  obtain ⟨c10, i10, hK10⟩ := u_known (C := zr10) (T := zt10) (N := 32) (n := 32) hts zi10 (hts _ zq791)
  obtain ⟨a1, ha1, hb1⟩ := zarr (zbef (Or.inr ⟨_, rfl⟩) (hts _ zq59))
  obtain ⟨a2, ha2, hb2⟩ := zarr (zbef (Or.inr ⟨_, rfl⟩) (hts _ zq893))
  obtain ⟨a3, ha3, hb3⟩ := zarr (zbef (Or.inr ⟨_, rfl⟩) (hts _ zq288))
  obtain ⟨a4, ha4, hb4⟩ := zarrO (C := zr2) (hlt (Jvm.Cond.arrayOver (Jvm.ClassFile.FieldType.object "LoofahSaints$Order")) (List.mem_of_getElem? (i := 77) (by decide +kernel)))
  obtain ⟨a5, ha5, hb5⟩ := zarrO (C := zr8) (hlt (Jvm.Cond.arrayOver (Jvm.ClassFile.FieldType.object "LoofahSaints$Tape")) (List.mem_of_getElem? (i := 79) (by decide +kernel)))
  obtain ⟨a6, ha6, hb6⟩ := zarrO (C := zr5) (hlt (Jvm.Cond.arrayOver (Jvm.ClassFile.FieldType.object "LoofahSaints$Saint")) (List.mem_of_getElem? (i := 252) (by decide +kernel)))
  obtain ⟨t1, e1, T1⟩ := va_Tof (args := #[Value.ref b]) (s := s) (tm := .static "LoofahSaints" "ABOVE" "[I") (ty := .int) (N := 7) (f := fun j => .int (zs0I 1 j)) (A := fun q => s.heap.size ≤ q) (by decide) (hfl _ (by decide +kernel)) (va_eqt (hfl _ (by decide +kernel)))
    (fun j hj => va_eqt (zall 7 (fun j => hfl (Cond.eq (.elem (.static "LoofahSaints" "ABOVE" "[I") (.int (Int32.ofNat j))) (.int (zs0I 1 j)))) (by decide +kernel) j hj)) hA
  obtain ⟨t2, e2, T2⟩ := va_Tof (args := #[Value.ref b]) (s := s) (tm := .static "LoofahSaints$Acts" "BODIES" "[I") (ty := .int) (N := 21) (f := fun j => .int (zs0I 2 j)) (A := fun q => s.heap.size ≤ q) (by decide) (hfl _ (by decide +kernel)) (va_eqt (hfl _ (by decide +kernel)))
    (fun j hj => va_eqt (zall 21 (fun j => hfl (Cond.eq (.elem (.static "LoofahSaints$Acts" "BODIES" "[I") (.int (Int32.ofNat j))) (.int (zs0I 2 j)))) (by decide +kernel) j hj)) hA
  have Z1 := va_Zof (A := fun q => s.heap.size ≤ q) (hlt (Jvm.Cond.laysStatic "LoofahSaints" "ABOVE" "[I") (List.mem_of_getElem? (i := 434) (by decide +kernel))) (hts _ zq1) e1 hA
  have Z2 := va_Zof (A := fun q => s.heap.size ≤ q) (hlt (Jvm.Cond.laysStatic "LoofahSaints$Acts" "BODIES" "[I") (List.mem_of_getElem? (i := 790) (by decide +kernel))) (hts _ zq6) e2 hA
  have Z3 := va_Zof (A := fun q => s.heap.size ≤ q) (C := "java/lang/String") (n := "COMPACT_STRINGS") (d := "Z") (v := .int 1) (hlt (Jvm.Cond.laysStatic "java/lang/String" "COMPACT_STRINGS" "Z") (List.mem_of_getElem? (i := 516) (by decide +kernel))) (hts _ zq13) (va_eqi (hfl _ (by decide +kernel))) hA
  have Z4 := va_Zqof (A := fun q => s.heap.size ≤ q) (C := "jdk/internal/util/Preconditions") (n := "SIOOBE_FORMATTER") (d := "Ljava/util/function/BiFunction;") (hlt (Jvm.Cond.laysStatic "jdk/internal/util/Preconditions" "SIOOBE_FORMATTER" "Ljava/util/function/BiFunction;") (List.mem_of_getElem? (i := 532) (by decide +kernel))) (hts _ zq15) (hfl _ (by decide +kernel)) hA
  obtain ⟨adK, adV, hvk, hev⟩ := vk_Sof (args := #[Value.ref b]) (s := s) (N := 3) (tm := ztm) (len := [4, 5, 4]) (byt := zby) (A := fun q => s.heap.size ≤ q)
    zlen3
    (fun i hi => zall 3 (fun i => hfl (Cond.exactly (ztm i) "java/lang/String")) (by decide +kernel) i hi)
    (fun i hi => zall 3 (fun i => hfl (Cond.eq (.field (ztm i) "java/lang/String" "coder" "B") (.int 0))) (by decide +kernel) i hi)
    (fun i hi => zall 3 (fun i => hfl (Cond.arrayOf (.field (ztm i) "java/lang/String" "value" "[B") .byte)) (by decide +kernel) i hi)
    (fun i hi => zall 3 (fun i => hfl (Cond.eq (.length (.field (ztm i) "java/lang/String" "value" "[B")) (.int (Int32.ofNat ([4, 5, 4].getD i 0))))) (by decide +kernel) i hi)
    (fun i hi j hj => zall2 3 (fun i => [4, 5, 4].getD i 0) (fun i j => hfl (Cond.eq (.elem (.field (ztm i) "java/lang/String" "value" "[B") (.int (Int32.ofNat j))) (.int ((zby.getD i []).getD j 0)))) (by decide +kernel) i hi j hj)
    (fun i j hi hj hij => zne hfl i j hi hj hij) hA
  obtain ⟨w10, hw10⟩ : ∃ w : Option Nat, va_Z "jdk/internal/util/Preconditions" "SIOOBE_FORMATTER" "Ljava/util/function/BiFunction;" (va_rf w) (fun q => s.heap.size ≤ q) s s.heap := by
    rcases Z4 with h | ⟨t, h⟩
    · exact ⟨none, h⟩
    · exact ⟨some t, h⟩
  refine ⟨(fun k => match k with | 0 => c0 | 1 => c1 | 2 => c2 | 3 => c3 | 4 => c4 | 5 => c5 | 6 => c6 | 7 => c7 | 8 => c8 | 9 => c9 | _ => c10, fun k => match k with | 0 => i0 | 1 => i1 | 2 => i2 | 3 => i3 | 4 => i4 | 5 => i5 | 6 => i6 | 7 => i7 | 8 => i8 | 9 => i9 | _ => i10), (fun k => match k with | 1 => a1 | 2 => a2 | 3 => a3 | 4 => a4 | 5 => a5 | _ => a6), (fun k => match k with | 0 => none | 1 => some t1 | 2 => some t2 | 3 => some b | 4 => some (adK 0) | 5 => some (adK 1) | 6 => some (adK 2) | 7 => some (adV 0) | 8 => some (adV 1) | 9 => some (adV 2) | _ => w10),
    ⟨⟨?_, ?_⟩, fun w hw => va_Nw.of (zOn w hw) (hts0 w (znw_in w hw)), ⟨(hlt (Jvm.Cond.arrayOver (Jvm.ClassFile.FieldType.object "LoofahSaints$Order")) (List.mem_of_getElem? (i := 77) (by decide +kernel))), (hlt (Jvm.Cond.arrayOver (Jvm.ClassFile.FieldType.object "LoofahSaints$Tape")) (List.mem_of_getElem? (i := 79) (by decide +kernel))), (hlt (Jvm.Cond.arrayOver (Jvm.ClassFile.FieldType.object "LoofahSaints$Saint")) (List.mem_of_getElem? (i := 252) (by decide +kernel)))⟩, (fun k => match k with | 1 => t1 | 2 => t2 | 3 => b | 4 => adK 0 | 5 => adK 1 | 6 => adK 2 | 7 => adV 0 | 8 => adV 1 | _ => adV 2), rfl, ?_, ⟨Z1, Z2, Z3, hw10⟩, ⟨T1, T2⟩, ?_, ⟨vk_R.of (hlt (Jvm.Cond.stringRef "LoofahSaints$Reader" (49 : Nat) "wear") (List.mem_of_getElem? (i := 502) (by decide +kernel))) (hev 0 (by decide)), vk_R.of (hlt (Jvm.Cond.stringRef "LoofahSaints$Reader" (61 : Nat) "scrub") (List.mem_of_getElem? (i := 566) (by decide +kernel))) (hev 1 (by decide)), vk_R.of (hlt (Jvm.Cond.stringRef "LoofahSaints$Reader" (63 : Nat) "soft") (List.mem_of_getElem? (i := 567) (by decide +kernel))) (hev 2 (by decide))⟩, hX, hbl⟩, rfl⟩
  · intro c q hq
    match c, hq with
    | 0, hq => cases hq; exact hK0
    | 1, hq => cases hq; exact hK1
    | 2, hq => cases hq; exact hK2
    | 3, hq => cases hq; exact hK3
    | 4, hq => cases hq; exact hK4
    | 5, hq => cases hq; exact hK5
    | 6, hq => cases hq; exact hK6
    | 7, hq => cases hq; exact hK7
    | 8, hq => cases hq; exact hK8
    | 9, hq => cases hq; exact hK9
    | 10, hq => cases hq; exact hK10
    | c + 11, hq => simp [zcl] at hq
  · intro k q hq
    match k, hq with
    | 0, hq => cases hq; exact ⟨ha1, hb1⟩
    | 1, hq => cases hq; exact ⟨ha2, hb2⟩
    | 2, hq => cases hq; exact ⟨ha3, hb3⟩
    | 3, hq => cases hq; exact ⟨ha4, hb4⟩
    | 4, hq => cases hq; exact ⟨ha5, hb5⟩
    | 5, hq => cases hq; exact ⟨ha6, hb6⟩
    | k + 6, hq => simp [zty] at hq
  · intro k h1 h2
    match k, h1, h2 with
    | 1, _, _ => rfl
    | 2, _, _ => rfl
    | 3, _, _ => rfl
    | 4, _, _ => rfl
    | 5, _, _ => rfl
    | 6, _, _ => rfl
    | 7, _, _ => rfl
    | 8, _, _ => rfl
    | 9, _, _ => rfl
    | k + 10, _, h2 => omega
  · have eK : ∀ i, i < 3 → (fun i => (fun k => match k with | 1 => t1 | 2 => t2 | 3 => b | 4 => adK 0 | 5 => adK 1 | 6 => adK 2 | 7 => adV 0 | 8 => adV 1 | _ => adV 2 : Nat → Nat) (4 + i)) i = adK i := fun i hi => by
      match i, hi with
      | 0, _ => rfl
      | 1, _ => rfl
      | 2, _ => rfl
      | i + 3, hi => omega
    have eV : ∀ i, i < 3 → (fun i => (fun k => match k with | 1 => t1 | 2 => t2 | 3 => b | 4 => adK 0 | 5 => adK 1 | 6 => adK 2 | 7 => adV 0 | 8 => adV 1 | _ => adV 2 : Nat → Nat) (7 + i)) i = adV i := fun i hi => by
      match i, hi with
      | 0, _ => rfl
      | 1, _ => rfl
      | 2, _ => rfl
      | i + 3, hi => omega
    exact zvkS eK eV hvk
