/-! THE ABSTRACT RUN: one frame of a method, over the abstract memory; a row an instruction -/
/-- a method's constants: own class, bytes, locals, return type, whether it is a constructor -/
abbrev zQ : Type := String × ByteArray × Nat × Option FieldType × Bool
def zFx (M : zQ) (d : Nat) (p : Program) (R : Room) (s : State) (m : MethodId) (args : Array Value) (meth : Method) (c : Code) : Prop :=
  p.tables.exec = Jvm.exec ∧ c.code = M.2.1 ∧ c.maxLocals = M.2.2.1 ∧ s.vm.findClass M.1 = some m.cls ∧ (∀ w ∈ zw, w.before args s = true) ∧ (M.2.2.2.2 = true → meth.name = "<init>") ∧ d ≤ R.frames ∧ 60 * d ≤ R.locals
def zLv (o : Nat → Option Nat) (ls : Array Slot) (nL : Nat) (L : List (Option Value)) : Prop :=
  ls.size = nL ∧ lv_wf ls ∧ ∀ (i : Nat) (v : Value), L[i]? = some (some v) → ls[i]? = some (.val (zv o v))
def zrt (ret : Option FieldType) (v : Option Value) : Prop := match v with
  | none => ret = none
  | some (.int x) => ∃ ty, ret = some ty ∧ narrow ty (.int x) = .int x
  | some (.long _) => ret = some .long
  | _ => False
def zri (v : Option Value) : Instr := match v with
  | none => .return_
  | some (.int _) => .ireturn
  | some (.long _) => .lreturn
  | _ => .areturn
def zG (X : zXt) (M : zQ) (d pc : Nat) (L : List (Option Value)) (st : List Value) (S : zS) (v : Option Value) (S' : zS) : Prop :=
  (zN S ≤ zN S' ∧ zC S ≤ zC S') ∧
  ∀ (p : Program) (l : Launch) (e : Env) (R : Room) (s : State) (m : MethodId) (args : Array Value) (below : List Frame) (meth : Method) (c : Code) (H : Heap) (locs : List Loc) (cells slots mc ms : Nat) (Q : State → Prop) (H0 : Heap) (D : va_G) (cA : Nat → ClassId) (sp : Nat → Option Nat) (ls : Array Slot),
    zFx M d p R s m args meth c → zK X H0 D cA sp s → zP H0 D cA sp S H → (∀ q ∈ locs, H0.size ≤ q.base) → zLv (zo H0 sp) ls M.2.2.1 L →
    (cells + zN S' = mc + zN S ∧ slots + zC S' = ms + zC S ∧ mc ≤ R.cells ∧ ms ≤ R.slots) →
    (∀ (pc' : Nat) (ls' : Array Slot) (H' : Heap) (locs' : List Loc), zrt M.2.2.2.1 v → decode M.2.1 pc' = .ok (zri v, 1) → zP H0 D cA sp S' H' → (∀ q ∈ locs', H0.size ≤ q.base) → W p l e R s m args below meth c H' locs' mc ms Q (F0 m pc' ls' ((v.map (zv (zo H0 sp))).toList))) →
    W p l e R s m args below meth c H locs cells slots Q (F0 m pc ls (st.map (zv (zo H0 sp))))
section ZG
variable {X : zXt} {M : zQ} {d pc pc' : Nat} {L L' : List (Option Value)} {st st' : List Value} {S S1 : zS} {v : Option Value} {S' : zS}
/-- a step that leaves the memory, with the locals at hand -/
theorem zg_l (h : ∀ (p : Program) (l : Launch) (e : Env) (R : Room) (s : State) (m : MethodId) (args : Array Value) (below : List Frame) (meth : Method) (c : Code) (H : Heap) (locs : List Loc) (cells slots : Nat) (Q : State → Prop) (o : Nat → Option Nat) (ls : Array Slot), p.tables.exec = Jvm.exec → c.code = M.2.1 → s.vm.findClass M.1 = some m.cls → (∀ w ∈ zw, w.before args s = true) → zLv o ls M.2.2.1 L →
      (∀ ls' : Array Slot, zLv o ls' M.2.2.1 L' → W p l e R s m args below meth c H locs cells slots Q (F0 m pc' ls' (st'.map (zv o)))) → W p l e R s m args below meth c H locs cells slots Q (F0 m pc ls (st.map (zv o))))
    (k : zG X M d pc' L' st' S v S') : zG X M d pc L st S v S' :=
  ⟨k.1, fun p l e R s m args below meth c H locs cells slots mc ms Q H0 D cA sp ls hF hK hP hS hL hr hX =>
    h p l e R s m args below meth c H locs cells slots Q (zo H0 sp) ls hF.1 hF.2.1 hF.2.2.2.1 hF.2.2.2.2.1 hL fun ls' hL' => k.2 p l e R s m args below meth c H locs cells slots mc ms Q H0 D cA sp ls' hF hK hP hS hL' hr hX⟩
theorem zg_s (h : ∀ (p : Program) (l : Launch) (e : Env) (R : Room) (s : State) (m : MethodId) (args : Array Value) (below : List Frame) (meth : Method) (c : Code) (H : Heap) (locs : List Loc) (cells slots : Nat) (Q : State → Prop) (o : Nat → Option Nat) (ls : Array Slot), p.tables.exec = Jvm.exec → c.code = M.2.1 →
      W p l e R s m args below meth c H locs cells slots Q (F0 m pc' ls (st'.map (zv o))) → W p l e R s m args below meth c H locs cells slots Q (F0 m pc ls (st.map (zv o))))
    (k : zG X M d pc' L st' S v S') : zG X M d pc L st S v S' :=
  zg_l (fun p l e R s m args below meth c H locs cells slots Q o ls hx hb _ _ hL kk => h p l e R s m args below meth c H locs cells slots Q o ls hx hb (kk ls hL)) k
/-- fewer locals are known -/
theorem zg_mask (h : ∀ (i : Nat) (w : Value), L'[i]? = some (some w) → L[i]? = some (some w)) (k : zG X M d pc L' st S v S') : zG X M d pc L st S v S' :=
  zg_l (fun _ _ _ _ _ _ _ _ _ _ _ _ _ _ _ o ls _ _ _ _ hL kk => kk ls ⟨hL.1, hL.2.1, fun i w q => hL.2.2 i w (h i w q)⟩) k
def zmk (L' L : List (Option Value)) : Prop := match L', L with
  | [], _ => True
  | none :: a, [] => zmk a []
  | some _ :: _, [] => False
  | none :: a, _ :: b => zmk a b
  | some v :: a, w :: b => some v = w ∧ zmk a b
theorem zmk_ok : ∀ (L' L : List (Option Value)), zmk L' L → ∀ (i : Nat) (w : Value), L'[i]? = some (some w) → L[i]? = some (some w)
  | [], _, _, i, w, h => by simp at h
  | none :: a, [], hk, i, w, h => by
    cases i with
    | zero => simp at h
    | succ i =>
      have := zmk_ok a [] hk i w (by simpa using h)
      simp at this
  | some v :: a, [], hk, i, w, h => hk.elim
  | none :: a, x :: b, hk, i, w, h => by
    cases i with
    | zero => simp at h
    | succ i => simpa using zmk_ok a b hk i w (by simpa using h)
  | some v :: a, x :: b, hk, i, w, h => by
    cases i with
    | zero =>
      simp at h
      subst h
      simp [hk.1]
    | succ i => simpa using zmk_ok a b hk.2 i w (by simpa using h)
/-! constants -/
theorem zg_iconst {n : Int} {x : Int32} (hd : decode M.2.1 pc = .ok (.iconst n, 1)) (hv : Int32.ofInt n = x) (hp : pc + 1 = pc') (k : zG X M d pc' L (.int x :: st) S v S') : zG X M d pc L st S v S' := by
  subst hp
  exact zg_s (fun p l e R s m args below meth c H locs cells slots Q o ls hx hb w => lv_iconst hx hb hd hv w) k
theorem zg_bipush {n : Int} {x : Int32} (hd : decode M.2.1 pc = .ok (.bipush n, 2)) (hv : (Int8.ofInt n).toInt32 = x) (hp : pc + 2 = pc') (k : zG X M d pc' L (.int x :: st) S v S') : zG X M d pc L st S v S' := by
  subst hp
  exact zg_s (fun p l e R s m args below meth c H locs cells slots Q o ls hx hb w => lv_bipush hx hb hd hv w) k
theorem zg_sipush {n : Int} {x : Int32} (hd : decode M.2.1 pc = .ok (.sipush n, 3)) (hv : (Int16.ofInt n).toInt32 = x) (hp : pc + 3 = pc') (k : zG X M d pc' L (.int x :: st) S v S') : zG X M d pc L st S v S' := by
  subst hp
  exact zg_s (fun p l e R s m args below meth c H locs cells slots Q o ls hx hb w => lv_sipush hx hb hd hv w) k
theorem zg_lconst {n : Fin 2} {x : Int64} (hd : decode M.2.1 pc = .ok (.lconst n, 1)) (hv : Int64.ofNat (n : Nat) = x) (hp : pc + 1 = pc') (k : zG X M d pc' L (.long x :: st) S v S') : zG X M d pc L st S v S' := by
  subst hp
  exact zg_s (fun p l e R s m args below meth c H locs cells slots Q o ls hx hb w => lv_lconst hx hb hd hv w) k
theorem zg_ldcw {i : Nat} {x : Int32} (hd : decode M.2.1 pc = .ok (.ldc_w i, 3)) (hw : Jvm.Cond.constant M.1 i x ∈ zw) (hp : pc + 3 = pc') (k : zG X M d pc' L (.int x :: st) S v S') : zG X M d pc L st S v S' := by
  subst hp
  exact zg_l (fun p l e R s m args below meth c H locs cells slots Q o ls hx hb ho ht hL w => lv_ldcw hx hb ho (ht _ hw) hd (w ls hL)) k
theorem zg_ldc2 {i : Nat} {x : Int64} (hd : decode M.2.1 pc = .ok (.ldc2_w i, 3)) (hw : Jvm.Cond.constantLong M.1 i x ∈ zw) (hp : pc + 3 = pc') (k : zG X M d pc' L (.long x :: st) S v S') : zG X M d pc L st S v S' := by
  subst hp
  exact zg_l (fun p l e R s m args below meth c H locs cells slots Q o ls hx hb ho ht hL w => lv_ldc2 hx hb ho (ht _ hw) hd (w ls hL)) k
/-! loads -/
theorem zg_iload {i : Nat} {x : Int32} (hd : decode M.2.1 pc = .ok (.iload i, 2)) (hl : L[i]? = some (some (.int x))) (hp : pc + 2 = pc') (k : zG X M d pc' L (.int x :: st) S v S') : zG X M d pc L st S v S' := by
  subst hp
  exact zg_l (fun p l e R s m args below meth c H locs cells slots Q o ls hx hb ho ht hL w => lv_iload hx hb hd (hL.2.2 i _ hl) (w ls hL)) k
theorem zg_iload_n {i : Fin 4} {x : Int32} (hd : decode M.2.1 pc = .ok (.iload_n i, 1)) (hl : L[(i : Nat)]? = some (some (.int x))) (hp : pc + 1 = pc') (k : zG X M d pc' L (.int x :: st) S v S') : zG X M d pc L st S v S' := by
  subst hp
  exact zg_l (fun p l e R s m args below meth c H locs cells slots Q o ls hx hb ho ht hL w => lv_iload_n hx hb hd rfl (hL.2.2 _ _ hl) (w ls hL)) k
theorem zg_lload {i : Nat} {x : Int64} (hd : decode M.2.1 pc = .ok (.lload i, 2)) (hl : L[i]? = some (some (.long x))) (hp : pc + 2 = pc') (k : zG X M d pc' L (.long x :: st) S v S') : zG X M d pc L st S v S' := by
  subst hp
  exact zg_l (fun p l e R s m args below meth c H locs cells slots Q o ls hx hb ho ht hL w => lv_lload hx hb hd (hL.2.2 i _ hl) (w ls hL)) k
theorem zg_lload_n {i : Fin 4} {x : Int64} (hd : decode M.2.1 pc = .ok (.lload_n i, 1)) (hl : L[(i : Nat)]? = some (some (.long x))) (hp : pc + 1 = pc') (k : zG X M d pc' L (.long x :: st) S v S') : zG X M d pc L st S v S' := by
  subst hp
  exact zg_l (fun p l e R s m args below meth c H locs cells slots Q o ls hx hb ho ht hL w => lv_lload_n hx hb hd rfl (hL.2.2 _ _ hl) (w ls hL)) k
theorem zg_aload {i q : Nat} (hd : decode M.2.1 pc = .ok (.aload i, 2)) (hl : L[i]? = some (some (.ref q))) (hp : pc + 2 = pc') (k : zG X M d pc' L (.ref q :: st) S v S') : zG X M d pc L st S v S' := by
  subst hp
  refine zg_l (fun p l e R s m args below meth c H locs cells slots Q o ls hx hb ho ht hL w => ?_) k
  have h1 : ls[i]? = some (.val (va_rf (o q))) := hL.2.2 i _ hl
  have w1 : W p l e R s m args below meth c H locs cells slots Q (F0 m (pc + 2) ls (va_rf (o q) :: st.map (zv o))) := w ls hL
  cases hq : o q with
  | none => rw [hq] at h1 w1; exact lv_aloadN hx hb hd h1 w1
  | some a => rw [hq] at h1 w1; exact lv_aload hx hb hd h1 w1
theorem zg_aload_n {i : Fin 4} {q : Nat} (hd : decode M.2.1 pc = .ok (.aload_n i, 1)) (hl : L[(i : Nat)]? = some (some (.ref q))) (hp : pc + 1 = pc') (k : zG X M d pc' L (.ref q :: st) S v S') : zG X M d pc L st S v S' := by
  subst hp
  refine zg_l (fun p l e R s m args below meth c H locs cells slots Q o ls hx hb ho ht hL w => ?_) k
  have h1 : ls[(i : Nat)]? = some (.val (va_rf (o q))) := hL.2.2 _ _ hl
  have w1 : W p l e R s m args below meth c H locs cells slots Q (F0 m (pc + 1) ls (va_rf (o q) :: st.map (zv o))) := w ls hL
  cases hq : o q with
  | none => rw [hq] at h1 w1; exact lv_aload_nN hx hb hd rfl h1 w1
  | some a => rw [hq] at h1 w1; exact lv_aload_n hx hb hd rfl h1 w1
/-! stores -/
def zas (o : Nat → Option Nat) (L : List (Option Value)) : List (Nat × Value) := (List.range L.length).filterMap fun i => match L[i]? with
  | some (some w) => some (i, zv o w)
  | _ => none
theorem zas_mem {o : Nat → Option Nat} {L : List (Option Value)} {q : Nat × Value} : q ∈ zas o L ↔ ∃ w, L[q.1]? = some (some w) ∧ q.2 = zv o w := by
  unfold zas
  rw [List.mem_filterMap]
  constructor
  · rintro ⟨i, hi, h⟩
    cases hl : L[i]? with
    | none => rw [hl] at h; cases h
    | some x =>
      cases x with
      | none => rw [hl] at h; cases h
      | some w => rw [hl] at h; cases h; exact ⟨w, hl, rfl⟩
  · rintro ⟨w, h1, h2⟩
    refine ⟨q.1, List.mem_range.mpr (List.getElem?_eq_some_iff.mp h1).1, ?_⟩
    rw [h1]
    show some (q.1, zv o w) = some q
    rw [← h2]
theorem zLv.has {o : Nat → Option Nat} {ls : Array Slot} {nL : Nat} {L : List (Option Value)} (h : zLv o ls nL L) : lv_has ls nL (zas o L) :=
  ⟨h.1, h.2.1, fun q hq => by
    obtain ⟨w, h1, h2⟩ := zas_mem.mp hq
    rw [h2]
    exact h.2.2 q.1 w h1⟩
/-- a wide value whose second half is written over is gone -/
def zcl1 (L : List (Option Value)) (i : Nat) : List (Option Value) := match i with
  | 0 => L
  | j + 1 => match L[j]? with
    | some (some (.long _)) => L.set j none
    | some (some (.double _)) => L.set j none
    | _ => L
def zst1 (L : List (Option Value)) (i : Nat) (w : Value) : List (Option Value) := (zcl1 L i).set i (some w)
def zst2 (L : List (Option Value)) (i : Nat) (w : Value) : List (Option Value) := ((zcl1 L i).set i (some w)).set (i + 1) none
theorem zcl1_ok {L : List (Option Value)} {i j : Nat} {w : Value} (h : (zcl1 L i)[j]? = some (some w)) : L[j]? = some (some w) ∧ ¬ (j + 1 = i ∧ w.category = 2) := by
  unfold zcl1 at h
  cases i with
  | zero => exact ⟨h, fun q => by omega⟩
  | succ i =>
    simp only at h
    by_cases hj : j = i
    · subst hj
      cases hl : L[j]? with
      | none => rw [hl] at h; simp only at h; rw [hl] at h; cases h
      | some x =>
        have hlt := (List.getElem?_eq_some_iff.mp hl).1
        cases x with
        | none => rw [hl] at h; simp only at h; rw [hl] at h; cases h
        | some y =>
          rw [hl] at h
          cases y <;> first | (simp only at h; rw [hl] at h; cases h; exact ⟨rfl, fun q => by simp [Value.category] at q⟩) | (simp only at h; rw [List.getElem?_set_self hlt] at h; cases h)
    · refine ⟨?_, fun q => by omega⟩
      split at h
      · rwa [List.getElem?_set_ne (fun q => hj q.symm)] at h
      · rwa [List.getElem?_set_ne (fun q => hj q.symm)] at h
      · exact h
theorem zLv.st1 {o : Nat → Option Nat} {ls : Array Slot} {nL i : Nat} {L : List (Option Value)} {w : Value} (h : lv_has ls nL ((i, zv o w) :: (zas o L).filter (fun q => !(q.1 == i) && !(q.1 + 1 == i && q.2.category == 2)))) : zLv o ls nL (zst1 L i w) := by
  refine ⟨h.1, h.2.1, fun j u hj => ?_⟩
  unfold zst1 at hj
  by_cases hji : j = i
  · subst hji
    have hlt : j < (zcl1 L j).length := by
      have := (List.getElem?_eq_some_iff.mp hj).1
      simpa using this
    rw [List.getElem?_set_self hlt] at hj
    cases hj
    exact h.2.2 (j, zv o w) List.mem_cons_self
  · rw [List.getElem?_set_ne (fun q => hji q.symm)] at hj
    obtain ⟨h1, h2⟩ := zcl1_ok hj
    refine h.2.2 (j, zv o u) (List.mem_cons_of_mem _ (List.mem_filter.mpr ⟨zas_mem.mpr ⟨u, h1, rfl⟩, ?_⟩))
    rw [zv_cat]
    simp only [Bool.and_eq_true, Bool.not_eq_true', beq_eq_false_iff_ne, ne_eq, Bool.and_eq_false_iff]
    refine ⟨hji, ?_⟩
    by_cases hq : j + 1 = i
    · exact Or.inr (fun z => h2 ⟨hq, z⟩)
    · exact Or.inl hq
theorem zLv.st2 {o : Nat → Option Nat} {ls : Array Slot} {nL i : Nat} {L : List (Option Value)} {w : Value} (h : lv_has ls nL ((i, zv o w) :: (zas o L).filter (fun q => !(q.1 == i) && (!(q.1 == i + 1) && !(q.1 + 1 == i && q.2.category == 2))))) : zLv o ls nL (zst2 L i w) := by
  refine ⟨h.1, h.2.1, fun j u hj => ?_⟩
  unfold zst2 at hj
  by_cases hj1 : j = i + 1
  · subst hj1
    have hlt := (List.getElem?_eq_some_iff.mp hj).1
    rw [List.length_set] at hlt
    rw [List.getElem?_set_self hlt] at hj
    cases hj
  · rw [List.getElem?_set_ne (fun q => hj1 q.symm)] at hj
    by_cases hji : j = i
    · subst hji
      have hlt : j < (zcl1 L j).length := by
        have := (List.getElem?_eq_some_iff.mp hj).1
        simpa using this
      rw [List.getElem?_set_self hlt] at hj
      cases hj
      exact h.2.2 (j, zv o w) List.mem_cons_self
    · rw [List.getElem?_set_ne (fun q => hji q.symm)] at hj
      obtain ⟨h1, h2⟩ := zcl1_ok hj
      refine h.2.2 (j, zv o u) (List.mem_cons_of_mem _ (List.mem_filter.mpr ⟨zas_mem.mpr ⟨u, h1, rfl⟩, ?_⟩))
      rw [zv_cat]
      simp only [Bool.and_eq_true, Bool.not_eq_true', beq_eq_false_iff_ne, ne_eq, Bool.and_eq_false_iff]
      refine ⟨hji, hj1, ?_⟩
      by_cases hq : j + 1 = i
      · exact Or.inr (fun z => h2 ⟨hq, z⟩)
      · exact Or.inl hq
theorem zg_istore {i : Nat} {x : Int32} (hd : decode M.2.1 pc = .ok (.istore i, 2)) (hn : i < M.2.2.1) (hl : zst1 L i (.int x) = L') (hp : pc + 2 = pc') (k : zG X M d pc' L' st S v S') : zG X M d pc L (.int x :: st) S v S' := by
  subst hp; subst hl
  exact zg_l (fun p l e R s m args below meth c H locs cells slots Q o ls hx hb ho ht hL w => lv_istore hx hb hd hL.has hn rfl (fun ls' h' => w ls' (zLv.st1 (w := .int x) h'))) k
theorem zg_istore_n {i : Fin 4} {x : Int32} (hd : decode M.2.1 pc = .ok (.istore_n i, 1)) (hn : (i : Nat) < M.2.2.1) (hl : zst1 L (i : Nat) (.int x) = L') (hp : pc + 1 = pc') (k : zG X M d pc' L' st S v S') : zG X M d pc L (.int x :: st) S v S' := by
  subst hp; subst hl
  exact zg_l (fun p l e R s m args below meth c H locs cells slots Q o ls hx hb ho ht hL w => lv_istore_n hx hb hd rfl hL.has hn rfl (fun ls' h' => w ls' (zLv.st1 (w := .int x) h'))) k
theorem zg_lstore {i : Nat} {x : Int64} (hd : decode M.2.1 pc = .ok (.lstore i, 2)) (hn : i + 1 < M.2.2.1) (hl : zst2 L i (.long x) = L') (hp : pc + 2 = pc') (k : zG X M d pc' L' st S v S') : zG X M d pc L (.long x :: st) S v S' := by
  subst hp; subst hl
  exact zg_l (fun p l e R s m args below meth c H locs cells slots Q o ls hx hb ho ht hL w => lv_lstore hx hb hd hL.has hn rfl (fun ls' h' => w ls' (zLv.st2 (w := .long x) h'))) k
theorem zg_lstore_n {i : Fin 4} {x : Int64} (hd : decode M.2.1 pc = .ok (.lstore_n i, 1)) (hn : (i : Nat) + 1 < M.2.2.1) (hl : zst2 L (i : Nat) (.long x) = L') (hp : pc + 1 = pc') (k : zG X M d pc' L' st S v S') : zG X M d pc L (.long x :: st) S v S' := by
  subst hp; subst hl
  exact zg_l (fun p l e R s m args below meth c H locs cells slots Q o ls hx hb ho ht hL w => lv_lstore_n hx hb hd rfl hL.has hn rfl (fun ls' h' => w ls' (zLv.st2 (w := .long x) h'))) k
theorem zg_astore {i q : Nat} (hd : decode M.2.1 pc = .ok (.astore i, 2)) (hn : i < M.2.2.1) (hl : zst1 L i (.ref q) = L') (hp : pc + 2 = pc') (k : zG X M d pc' L' st S v S') : zG X M d pc L (.ref q :: st) S v S' := by
  subst hp; subst hl
  refine zg_l (fun p l e R s m args below meth c H locs cells slots Q o ls hx hb ho ht hL w => ?_) k
  have w1 : ∀ ls' : Array Slot, lv_has ls' M.2.2.1 ((i, va_rf (o q)) :: (zas o L).filter (fun q => !(q.1 == i) && !(q.1 + 1 == i && q.2.category == 2))) → W p l e R s m args below meth c H locs cells slots Q (F0 m (pc + 2) ls' (st.map (zv o))) := fun ls' h' => w ls' (zLv.st1 (w := .ref q) h')
  show W p l e R s m args below meth c H locs cells slots Q (F0 m pc ls (va_rf (o q) :: st.map (zv o)))
  cases hq : o q with
  | none => rw [hq] at w1; exact lv_astoreN hx hb hd hL.has hn rfl w1
  | some a => rw [hq] at w1; exact lv_astore hx hb hd hL.has hn rfl w1
theorem zg_astore_n {i : Fin 4} {q : Nat} (hd : decode M.2.1 pc = .ok (.astore_n i, 1)) (hn : (i : Nat) < M.2.2.1) (hl : zst1 L (i : Nat) (.ref q) = L') (hp : pc + 1 = pc') (k : zG X M d pc' L' st S v S') : zG X M d pc L (.ref q :: st) S v S' := by
  subst hp; subst hl
  refine zg_l (fun p l e R s m args below meth c H locs cells slots Q o ls hx hb ho ht hL w => ?_) k
  have w1 : ∀ ls' : Array Slot, lv_has ls' M.2.2.1 (((i : Nat), va_rf (o q)) :: (zas o L).filter (fun q => !(q.1 == (i : Nat)) && !(q.1 + 1 == (i : Nat) && q.2.category == 2))) → W p l e R s m args below meth c H locs cells slots Q (F0 m (pc + 1) ls' (st.map (zv o))) := fun ls' h' => w ls' (zLv.st1 (w := .ref q) h')
  show W p l e R s m args below meth c H locs cells slots Q (F0 m pc ls (va_rf (o q) :: st.map (zv o)))
  cases hq : o q with
  | none => rw [hq] at w1; exact lv_astore_nN hx hb hd rfl hL.has hn rfl w1
  | some a => rw [hq] at w1; exact lv_astore_n hx hb hd rfl hL.has hn rfl w1
theorem zg_iinc {i : Nat} {n : Int} {x y : Int32} (hd : decode M.2.1 pc = .ok (.iinc i n, 3)) (hl0 : L[i]? = some (some (.int x))) (hv : x + Int32.ofInt n = y) (hn : i < M.2.2.1) (hl : zst1 L i (.int y) = L') (hp : pc + 3 = pc') (k : zG X M d pc' L' st S v S') : zG X M d pc L st S v S' := by
  subst hp; subst hl
  refine zg_l (fun p l e R s m args below meth c H locs cells slots Q o ls hx hb ho ht hL w => ?_) k
  have h1 : lv_has ls M.2.2.1 ((i, .int x) :: zas o L) := ⟨hL.1, hL.2.1, fun q hq => by
    rcases List.mem_cons.mp hq with rfl | hq
    · exact hL.2.2 i _ hl0
    · exact hL.has.2.2 q hq⟩
  refine lv_iinc hx hb hd h1 (k := 0) rfl hv hn rfl (fun ls' h' => w ls' (zLv.st1 (w := .int y) ?_))
  refine ⟨h'.1, h'.2.1, fun q hq => h'.2.2 q ?_⟩
  rcases List.mem_cons.mp hq with rfl | hq
  · exact List.mem_cons_self
  · refine List.mem_cons_of_mem _ ?_
    obtain ⟨a1, a2⟩ := List.mem_filter.mp hq
    exact List.mem_filter.mpr ⟨List.mem_cons_of_mem _ a1, a2⟩
/-! arithmetic -/
theorem zg_iadd {x y : Int32} (hd : decode M.2.1 pc = .ok (.iadd, 1)) (hp : pc + 1 = pc') (k : zG X M d pc' L (.int (x + y) :: st) S v S') : zG X M d pc L (.int y :: .int x :: st) S v S' := by
  subst hp
  exact zg_s (fun p l e R s m args below meth c H locs cells slots Q o ls hx hb w => lv_iadd hx hb hd w) k
theorem zg_isub {x y : Int32} (hd : decode M.2.1 pc = .ok (.isub, 1)) (hp : pc + 1 = pc') (k : zG X M d pc' L (.int (x - y) :: st) S v S') : zG X M d pc L (.int y :: .int x :: st) S v S' := by
  subst hp
  exact zg_s (fun p l e R s m args below meth c H locs cells slots Q o ls hx hb w => lv_isub hx hb hd w) k
theorem zg_imul {x y : Int32} (hd : decode M.2.1 pc = .ok (.imul, 1)) (hp : pc + 1 = pc') (k : zG X M d pc' L (.int (x * y) :: st) S v S') : zG X M d pc L (.int y :: .int x :: st) S v S' := by
  subst hp
  exact zg_s (fun p l e R s m args below meth c H locs cells slots Q o ls hx hb w => lv_imul hx hb hd w) k
theorem zg_iand {x y : Int32} (hd : decode M.2.1 pc = .ok (.iand, 1)) (hp : pc + 1 = pc') (k : zG X M d pc' L (.int (x &&& y) :: st) S v S') : zG X M d pc L (.int y :: .int x :: st) S v S' := by
  subst hp
  exact zg_s (fun p l e R s m args below meth c H locs cells slots Q o ls hx hb w => lv_iand hx hb hd w) k
theorem zg_ior {x y : Int32} (hd : decode M.2.1 pc = .ok (.ior, 1)) (hp : pc + 1 = pc') (k : zG X M d pc' L (.int (x ||| y) :: st) S v S') : zG X M d pc L (.int y :: .int x :: st) S v S' := by
  subst hp
  exact zg_s (fun p l e R s m args below meth c H locs cells slots Q o ls hx hb w => lv_ior hx hb hd w) k
theorem zg_ixor {x y : Int32} (hd : decode M.2.1 pc = .ok (.ixor, 1)) (hp : pc + 1 = pc') (k : zG X M d pc' L (.int (x ^^^ y) :: st) S v S') : zG X M d pc L (.int y :: .int x :: st) S v S' := by
  subst hp
  exact zg_s (fun p l e R s m args below meth c H locs cells slots Q o ls hx hb w => lv_ixor hx hb hd w) k
theorem zg_idiv {x y : Int32} (hd : decode M.2.1 pc = .ok (.idiv, 1)) (hp : pc + 1 = pc') (hz : ¬ y = 0) (k : zG X M d pc' L (.int (x / y) :: st) S v S') : zG X M d pc L (.int y :: .int x :: st) S v S' := by
  subst hp
  exact zg_s (fun p l e R s m args below meth c H locs cells slots Q o ls hx hb w => lv_idiv hx hb hd hz w) k
theorem zg_irem {x y : Int32} (hd : decode M.2.1 pc = .ok (.irem, 1)) (hp : pc + 1 = pc') (hz : ¬ y = 0) (k : zG X M d pc' L (.int (x - x / y * y) :: st) S v S') : zG X M d pc L (.int y :: .int x :: st) S v S' := by
  subst hp
  exact zg_s (fun p l e R s m args below meth c H locs cells slots Q o ls hx hb w => lv_irem hx hb hd hz w) k
theorem zg_ineg {x : Int32} (hd : decode M.2.1 pc = .ok (.ineg, 1)) (hp : pc + 1 = pc') (k : zG X M d pc' L (.int (-x) :: st) S v S') : zG X M d pc L (.int x :: st) S v S' := by
  subst hp
  exact zg_s (fun p l e R s m args below meth c H locs cells slots Q o ls hx hb w => lv_ineg hx hb hd w) k
theorem zg_ladd {x y : Int64} (hd : decode M.2.1 pc = .ok (.ladd, 1)) (hp : pc + 1 = pc') (k : zG X M d pc' L (.long (x + y) :: st) S v S') : zG X M d pc L (.long y :: .long x :: st) S v S' := by
  subst hp
  exact zg_s (fun p l e R s m args below meth c H locs cells slots Q o ls hx hb w => lv_ladd hx hb hd w) k
theorem zg_land {x y : Int64} (hd : decode M.2.1 pc = .ok (.land, 1)) (hp : pc + 1 = pc') (k : zG X M d pc' L (.long (x &&& y) :: st) S v S') : zG X M d pc L (.long y :: .long x :: st) S v S' := by
  subst hp
  exact zg_s (fun p l e R s m args below meth c H locs cells slots Q o ls hx hb w => lv_land hx hb hd w) k
theorem zg_lor {x y : Int64} (hd : decode M.2.1 pc = .ok (.lor, 1)) (hp : pc + 1 = pc') (k : zG X M d pc' L (.long (x ||| y) :: st) S v S') : zG X M d pc L (.long y :: .long x :: st) S v S' := by
  subst hp
  exact zg_s (fun p l e R s m args below meth c H locs cells slots Q o ls hx hb w => lv_lor hx hb hd w) k
theorem zg_ldiv {x y : Int64} (hd : decode M.2.1 pc = .ok (.ldiv, 1)) (hp : pc + 1 = pc') (hz : ¬ y = 0) (k : zG X M d pc' L (.long (x / y) :: st) S v S') : zG X M d pc L (.long y :: .long x :: st) S v S' := by
  subst hp
  exact zg_s (fun p l e R s m args below meth c H locs cells slots Q o ls hx hb w => lv_ldiv hx hb hd hz w) k
theorem zg_lrem {x y : Int64} (hd : decode M.2.1 pc = .ok (.lrem, 1)) (hp : pc + 1 = pc') (hz : ¬ y = 0) (k : zG X M d pc' L (.long (x - x / y * y) :: st) S v S') : zG X M d pc L (.long y :: .long x :: st) S v S' := by
  subst hp
  exact zg_s (fun p l e R s m args below meth c H locs cells slots Q o ls hx hb w => lv_lrem hx hb hd hz w) k
theorem zg_ishl {x y : Int32} (hd : decode M.2.1 pc = .ok (.ishl, 1)) (hp : pc + 1 = pc') (k : zG X M d pc' L (.int (x <<< (y &&& 31)) :: st) S v S') : zG X M d pc L (.int y :: .int x :: st) S v S' := by
  subst hp
  exact zg_s (fun p l e R s m args below meth c H locs cells slots Q o ls hx hb w => lv_ishl hx hb hd w) k
theorem zg_ishr {x y : Int32} (hd : decode M.2.1 pc = .ok (.ishr, 1)) (hp : pc + 1 = pc') (k : zG X M d pc' L (.int (x >>> (y &&& 31)) :: st) S v S') : zG X M d pc L (.int y :: .int x :: st) S v S' := by
  subst hp
  exact zg_s (fun p l e R s m args below meth c H locs cells slots Q o ls hx hb w => lv_ishr hx hb hd w) k
theorem zg_iushr {x y : Int32} (hd : decode M.2.1 pc = .ok (.iushr, 1)) (hp : pc + 1 = pc') (k : zG X M d pc' L (.int (x.toUInt32 >>> (y.toUInt32 &&& Int32.toUInt32 31)).toInt32 :: st) S v S') : zG X M d pc L (.int y :: .int x :: st) S v S' := by
  subst hp
  exact zg_s (fun p l e R s m args below meth c H locs cells slots Q o ls hx hb w => lv_iushr hx hb hd rfl w) k
theorem zg_lshl {x : Int64} {y : Int32} (hd : decode M.2.1 pc = .ok (.lshl, 1)) (hp : pc + 1 = pc') (k : zG X M d pc' L (.long (x <<< (y.toInt64 &&& 63)) :: st) S v S') : zG X M d pc L (.int y :: .long x :: st) S v S' := by
  subst hp
  exact zg_s (fun p l e R s m args below meth c H locs cells slots Q o ls hx hb w => lv_lshl hx hb hd rfl w) k
theorem zg_i2l {x : Int32} (hd : decode M.2.1 pc = .ok (.i2l, 1)) (hp : pc + 1 = pc') (k : zG X M d pc' L (.long x.toInt64 :: st) S v S') : zG X M d pc L (.int x :: st) S v S' := by
  subst hp
  exact zg_s (fun p l e R s m args below meth c H locs cells slots Q o ls hx hb w => lv_i2l hx hb hd rfl w) k
theorem zg_l2i {x : Int64} (hd : decode M.2.1 pc = .ok (.l2i, 1)) (hp : pc + 1 = pc') (k : zG X M d pc' L (.int x.toInt32 :: st) S v S') : zG X M d pc L (.long x :: st) S v S' := by
  subst hp
  exact zg_s (fun p l e R s m args below meth c H locs cells slots Q o ls hx hb w => lv_l2i hx hb hd rfl w) k
theorem zg_i2b {x : Int32} (hd : decode M.2.1 pc = .ok (.i2b, 1)) (hp : pc + 1 = pc') (k : zG X M d pc' L (.int x.toInt8.toInt32 :: st) S v S') : zG X M d pc L (.int x :: st) S v S' := by
  subst hp
  exact zg_s (fun p l e R s m args below meth c H locs cells slots Q o ls hx hb w => lv_i2b hx hb hd rfl w) k
theorem zg_i2s {x : Int32} (hd : decode M.2.1 pc = .ok (.i2s, 1)) (hp : pc + 1 = pc') (k : zG X M d pc' L (.int x.toInt16.toInt32 :: st) S v S') : zG X M d pc L (.int x :: st) S v S' := by
  subst hp
  exact zg_s (fun p l e R s m args below meth c H locs cells slots Q o ls hx hb w => lv_i2s hx hb hd rfl w) k
theorem zg_i2c {x : Int32} (hd : decode M.2.1 pc = .ok (.i2c, 1)) (hp : pc + 1 = pc') (k : zG X M d pc' L (.int (x.toUInt32 % 65536).toInt32 :: st) S v S') : zG X M d pc L (.int x :: st) S v S' := by
  subst hp
  exact zg_s (fun p l e R s m args below meth c H locs cells slots Q o ls hx hb w => lv_i2c hx hb hd rfl w) k
theorem zg_lcmp {x y : Int64} (hd : decode M.2.1 pc = .ok (.lcmp, 1)) (hp : pc + 1 = pc') (k : zG X M d pc' L (.int (if x > y then 1 else if x = y then 0 else -1) :: st) S v S') : zG X M d pc L (.long y :: .long x :: st) S v S' := by
  subst hp
  exact zg_s (fun p l e R s m args below meth c H locs cells slots Q o ls hx hb w => W.lcmp hx hb hd w) k
/-! the stack -/
theorem zg_dup {w : Value} (hd : decode M.2.1 pc = .ok (.dup, 1)) (hc : w.category = 1) (hp : pc + 1 = pc') (k : zG X M d pc' L (w :: w :: st) S v S') : zG X M d pc L (w :: st) S v S' := by
  subst hp
  exact zg_s (fun p l e R s m args below meth c H locs cells slots Q o ls hx hb u => lv_dup hx hb hd (by rw [zv_cat]; exact hc) u) k
theorem zg_pop {w : Value} (hd : decode M.2.1 pc = .ok (.pop, 1)) (hc : w.category = 1) (hp : pc + 1 = pc') (k : zG X M d pc' L st S v S') : zG X M d pc L (w :: st) S v S' := by
  subst hp
  exact zg_s (fun p l e R s m args below meth c H locs cells slots Q o ls hx hb u => lv_pop hx hb hd (by rw [zv_cat]; exact hc) u) k
theorem zg_dup_x1 {w y : Value} (hd : decode M.2.1 pc = .ok (.dup_x1, 1)) (hc : w.category = 1) (hy : y.category = 1) (hp : pc + 1 = pc') (k : zG X M d pc' L (w :: y :: w :: st) S v S') : zG X M d pc L (w :: y :: st) S v S' := by
  subst hp
  exact zg_s (fun p l e R s m args below meth c H locs cells slots Q o ls hx hb u => lv_dup_x1 hx hb hd (by rw [zv_cat]; exact hc) (by rw [zv_cat]; exact hy) u) k
theorem zg_dup2 {w y : Value} (hd : decode M.2.1 pc = .ok (.dup2, 1)) (hc : w.category = 1) (hy : y.category = 1) (hp : pc + 1 = pc') (k : zG X M d pc' L (w :: y :: w :: y :: st) S v S') : zG X M d pc L (w :: y :: st) S v S' := by
  subst hp
  exact zg_s (fun p l e R s m args below meth c H locs cells slots Q o ls hx hb u => lv_dup2_11 hx hb hd (by rw [zv_cat]; exact hc) (by rw [zv_cat]; exact hy) u) k
end ZG
