/-! statics, texts, copies, calls, a method's entry -/
section ZH
variable {X : zXt} {M : zQ} {d pc pc' : Nat} {L L' : List (Option Value)} {st st' : List Value} {S S1 : zS} {v : Option Value} {S' : zS}
theorem zg_gs0 {idx : Nat} {C n de : String} {w : Value} (hz : ∀ {s : State} {H0 : Heap} {D : va_G} {cA : Nat → ClassId} {sp : Nat → Option Nat}, zK X H0 D cA sp s → va_Z C n de (zv (zo H0 sp) w) (fun q => H0.size ≤ q) s H0)
    (hl : Cond.fieldLink M.1 idx C n de ∈ zw ∨ ∃ host, Cond.fieldLinkNest M.1 idx C n de host ∈ znw) (hd : decode M.2.1 pc = .ok (.getstatic idx, 3)) (hp : pc + 3 = pc') (kk : zG X M d pc' L (w :: st) S v S') : zG X M d pc L st S v S' := by
  subst hp
  refine ⟨kk.1, fun P l e R s m args below meth c H locs cells slots mc ms Q H0 D cA sp ls hF hK hP hS hL hr hX => ?_⟩
  have hk2 := kk.2 P l e R s m args below meth c H locs cells slots mc ms Q H0 D cA sp ls hF hK hP hS hL hr hX
  obtain ⟨cf, kf, fi, f, a, cell, h1, h2, h3, h4, h5, h6, h7, h8⟩ := hz hK
  have hc : H[a]? = some cell := by rw [hP.2.2.1 a (Array.getElem?_eq_some_iff.mp h5).1]; exact h5
  rcases hl with hl | ⟨host, hl⟩
  · exact W.gets hF.1 hF.2.1 hF.2.2.2.1 (hF.2.2.2.2.1 _ hl) h1 h2 h3 h4 hc (fun e => by rw [e] at h6; cases h6) h7 rfl hd hk2
  · exact va_WgetsN hF.1 hF.2.1 hF.2.2.2.1 (va_Nw.use rfl (hK.2.1 _ hl)) h1 h2 h3 h4 hc (fun e => by rw [e] at h6; cases h6) h7 rfl hd hk2
theorem zk_above {s : State} {H0 : Heap} {D : va_G} {cA : Nat → ClassId} {sp : Nat → Option Nat} (hK : zK X H0 D cA sp s) : va_Z "LoofahSaints" "ABOVE" "[I" (zv (zo H0 sp) (.ref 1)) (fun q => H0.size ≤ q) s H0 := by
  obtain ⟨-, -, -, sa, -, hsa, ⟨z1, -⟩, -⟩ := hK
  show va_Z _ _ _ (va_rf (zo H0 sp 1)) _ _ _
  rw [zo, if_pos (show 1 < 16 by decide), hsa 1 (by decide) (by decide)]
  exact z1
theorem zk_bodies {s : State} {H0 : Heap} {D : va_G} {cA : Nat → ClassId} {sp : Nat → Option Nat} (hK : zK X H0 D cA sp s) : va_Z "LoofahSaints$Acts" "BODIES" "[I" (zv (zo H0 sp) (.ref 2)) (fun q => H0.size ≤ q) s H0 := by
  obtain ⟨-, -, -, sa, -, hsa, ⟨-, z1, -⟩, -⟩ := hK
  show va_Z _ _ _ (va_rf (zo H0 sp 2)) _ _ _
  rw [zo, if_pos (show 2 < 16 by decide), hsa 2 (by decide) (by decide)]
  exact z1
theorem zk_compact {s : State} {H0 : Heap} {D : va_G} {cA : Nat → ClassId} {sp : Nat → Option Nat} (hK : zK X H0 D cA sp s) : va_Z "java/lang/String" "COMPACT_STRINGS" "Z" (zv (zo H0 sp) (.int 1)) (fun q => H0.size ≤ q) s H0 := by
  obtain ⟨-, -, -, sa, -, hsa, ⟨-, -, z1, -⟩, -⟩ := hK
  exact z1
theorem zk_sioobe {s : State} {H0 : Heap} {D : va_G} {cA : Nat → ClassId} {sp : Nat → Option Nat} (hK : zK X H0 D cA sp s) : va_Z "jdk/internal/util/Preconditions" "SIOOBE_FORMATTER" "Ljava/util/function/BiFunction;" (zv (zo H0 sp) (.ref 10)) (fun q => H0.size ≤ q) s H0 := by
  obtain ⟨-, -, -, sa, -, hsa, ⟨-, -, -, z1⟩, -⟩ := hK
  show va_Z _ _ _ (va_rf (zo H0 sp 10)) _ _ _
  rw [zo, if_pos (show 10 < 16 by decide)]
  exact z1
theorem zg_ldcS {idx q : Nat} {tx : String} (hz : ∀ {s : State} {H0 : Heap} {D : va_G} {cA : Nat → ClassId} {sp : Nat → Option Nat}, zK X H0 D cA sp s → ∃ a, zo H0 sp q = some a ∧ vk_R M.1 idx tx a s) (hd : decode M.2.1 pc = .ok (.ldc idx, 2)) (hp : pc + 2 = pc') (kk : zG X M d pc' L (.ref q :: st) S v S') : zG X M d pc L st S v S' := by
  subst hp
  refine ⟨kk.1, fun P l e R s m args below meth c H locs cells slots mc ms Q H0 D cA sp ls hF hK hP hS hL hr hX => ?_⟩
  have hk2 := kk.2 P l e R s m args below meth c H locs cells slots mc ms Q H0 D cA sp ls hF hK hP hS hL hr hX
  obtain ⟨a, h1, h2⟩ := hz hK
  have e9 : zv (zo H0 sp) (.ref q) = .ref a := by
    show va_rf (zo H0 sp q) = _
    rw [h1]
    rfl
  rw [List.map_cons, e9] at hk2
  exact va_ldcS hF.1 hF.2.1 hF.2.2.2.1 h2 hd hk2
theorem zk_wear {s : State} {H0 : Heap} {D : va_G} {cA : Nat → ClassId} {sp : Nat → Option Nat} (hK : zK X H0 D cA sp s) : ∃ a, zo H0 sp 4 = some a ∧ vk_R "LoofahSaints$Reader" 49 "wear" a s := by
  obtain ⟨-, -, -, sa, -, hsa, -, -, -, ⟨r1, r2, r3⟩, -⟩ := hK
  exact ⟨sa 4, by rw [zo, if_pos (show 4 < 16 by decide)]; exact hsa 4 (by decide) (by decide), r1⟩
theorem zk_scrub {s : State} {H0 : Heap} {D : va_G} {cA : Nat → ClassId} {sp : Nat → Option Nat} (hK : zK X H0 D cA sp s) : ∃ a, zo H0 sp 5 = some a ∧ vk_R "LoofahSaints$Reader" 61 "scrub" a s := by
  obtain ⟨-, -, -, sa, -, hsa, -, -, -, ⟨r1, r2, r3⟩, -⟩ := hK
  exact ⟨sa 5, by rw [zo, if_pos (show 5 < 16 by decide)]; exact hsa 5 (by decide) (by decide), r2⟩
theorem zk_soft {s : State} {H0 : Heap} {D : va_G} {cA : Nat → ClassId} {sp : Nat → Option Nat} (hK : zK X H0 D cA sp s) : ∃ a, zo H0 sp 6 = some a ∧ vk_R "LoofahSaints$Reader" 63 "soft" a s := by
  obtain ⟨-, -, -, sa, -, hsa, -, -, -, ⟨r1, r2, r3⟩, -⟩ := hK
  exact ⟨sa 6, by rw [zo, if_pos (show 6 < 16 by decide)]; exact hsa 6 (by decide) (by decide), r3⟩
/-- a text constant's own cell -/
theorem zp_text {H0 H : Heap} {D : va_G} {cA : Nat → ClassId} {sp : Nat → Option Nat} {s : State} {p : Nat} (hP : zP H0 D cA sp S H) (hK : zK X H0 D cA sp s) (h : (zT S p).1 = 7) : ∃ (i : Nat) (sa : Nat → Nat), i < 3 ∧ p = 4 + i ∧ zo H0 sp p = some (sa (4 + i)) ∧ zo H0 sp (7 + i) = some (sa (7 + i)) ∧ zR S p 0 = 7 + i ∧ zI S p 0 = 0 ∧ vk_S 3 [4, 5, 4] zby (fun i => sa (4 + i)) (fun i => sa (7 + i)) (fun q => H0.size ≤ q) s H0 := by
  obtain ⟨-, -, -, sa, -, hsa, -, -, hk, -⟩ := hK
  have hp : p < 16 := by
    rcases Nat.lt_or_ge p 16 with q | q
    · exact q
    · rcases Nat.lt_or_ge p (zN S) with r | r
      · rcases hP.2.2.2.1 p q r with ⟨a1, a2, -⟩ | ⟨c2, r, a1, -⟩ <;> omega
      · rw [(hP.2.2.2.2.1 p r).1] at h
        simp at h
  obtain ⟨e1, e2⟩ := hP.2.2.2.2.2 p hp
  rw [e1] at h
  have key : ∀ i, i < 3 → p = 4 + i → zs0R p 0 = 7 + i → zs0I p 0 = 0 → ∃ (i : Nat) (sa : Nat → Nat), i < 3 ∧ p = 4 + i ∧ zo H0 sp p = some (sa (4 + i)) ∧ zo H0 sp (7 + i) = some (sa (7 + i)) ∧ zR S p 0 = 7 + i ∧ zI S p 0 = 0 ∧ vk_S 3 [4, 5, 4] zby (fun i => sa (4 + i)) (fun i => sa (7 + i)) (fun q => H0.size ≤ q) s H0 := by
    intro i hi hpi hr hz
    refine ⟨i, sa, hi, hpi, ?_, ?_, by rw [(e2 0).2]; exact hr, by rw [(e2 0).1]; exact hz, hk⟩
    · rw [zo, if_pos hp, hpi]
      exact hsa _ (by omega) (by omega)
    · rw [zo, if_pos (by omega)]
      exact hsa _ (by omega) (by omega)
  rcases zs0T_7 p h with rfl | rfl | rfl
  · exact key 0 (by omega) rfl rfl rfl
  · exact key 1 (by omega) rfl rfl rfl
  · exact key 2 (by omega) rfl rfl rfl
theorem zg_getSv {idx p : Nat} (hl : Cond.fieldLink M.1 idx "java/lang/String" "value" "[B" ∈ zw) (hd : decode M.2.1 pc = .ok (.getfield idx, 3)) (hg : (zT S p).1 = 7) (hp : pc + 3 = pc') (kk : zG X M d pc' L (.ref (zR S p 0) :: st) S v S') : zG X M d pc L (.ref p :: st) S v S' := by
  subst hp
  refine ⟨kk.1, fun P l e R s m args below meth c H locs cells slots mc ms Q H0 D cA sp ls hF hK hP hS hL hr hX => ?_⟩
  have hk2 := kk.2 P l e R s m args below meth c H locs cells slots mc ms Q H0 D cA sp ls hF hK hP hS hL hr hX
  obtain ⟨i, sa, hi, hpi, h1, h2, h3, h4, hk⟩ := zp_text hP hK hg
  obtain ⟨-, -, ⟨cf, k, fi, f, cell, g1, g2, g3, g4, g5, g6⟩, -⟩ := hk.1 i hi
  have hc : H[sa (4 + i)]? = some cell := by rw [hP.2.2.1 _ (Array.getElem?_eq_some_iff.mp g3).1]; exact g3
  show W P l e R s m args below meth c H locs cells slots Q (F0 m pc ls (va_rf (zo H0 sp p) :: st.map (zv (zo H0 sp))))
  rw [h1]
  refine W.getf hF.1 hF.2.1 hF.2.2.2.1 (hF.2.2.2.2.1 _ hl) g1 g2 hc g4 (v := .ref (sa (7 + i))) g5 rfl rfl hd ?_
  have e9 : zv (zo H0 sp) (.ref (zR S p 0)) = .ref (sa (7 + i)) := by
    show va_rf (zo H0 sp (zR S p 0)) = _
    rw [h3, h2]
    rfl
  rw [List.map_cons, e9] at hk2
  exact hk2
theorem zg_getSc {idx p : Nat} (hl : Cond.fieldLink M.1 idx "java/lang/String" "coder" "B" ∈ zw) (hd : decode M.2.1 pc = .ok (.getfield idx, 3)) (hg : (zT S p).1 = 7) (hp : pc + 3 = pc') (kk : zG X M d pc' L (.int 0 :: st) S v S') : zG X M d pc L (.ref p :: st) S v S' := by
  subst hp
  refine ⟨kk.1, fun P l e R s m args below meth c H locs cells slots mc ms Q H0 D cA sp ls hF hK hP hS hL hr hX => ?_⟩
  have hk2 := kk.2 P l e R s m args below meth c H locs cells slots mc ms Q H0 D cA sp ls hF hK hP hS hL hr hX
  obtain ⟨i, sa, hi, hpi, h1, h2, h3, h4, hk⟩ := zp_text hP hK hg
  obtain ⟨-, ⟨cf, k, fi, f, cell, g1, g2, g3, g4, g5, g6⟩, -, -⟩ := hk.1 i hi
  have hc : H[sa (4 + i)]? = some cell := by rw [hP.2.2.1 _ (Array.getElem?_eq_some_iff.mp g3).1]; exact g3
  show W P l e R s m args below meth c H locs cells slots Q (F0 m pc ls (va_rf (zo H0 sp p) :: st.map (zv (zo H0 sp))))
  rw [h1]
  exact W.getf hF.1 hF.2.1 hF.2.2.2.1 (hF.2.2.2.2.1 _ hl) g1 g2 hc g4 (v := .int 0) g5 rfl rfl hd hk2
/-! calls -/
def zM (X : zXt) (y : MethodName) (bytes : ByteArray) (maxL : Nat) (ret : Option FieldType) (d : Nat) (as : List Value) (S : zS) (v : Option Value) (S' : zS) : Prop :=
  (zN S ≤ zN S' ∧ zC S ≤ zC S') ∧ ∀ (l : Launch) (H0 : Heap) (D : va_G) (cA : Nat → ClassId) (sp : Nat → Option Nat),
    Met l y (Cond.code y bytes maxL ret :: zw) { frames := d, cells := zN S' - zN S, slots := zC S' - zC S, locals := 60 * d } (va_Pc (as.map (zv (zo H0 sp))) (fun U => zP H0 D cA sp S U.heap ∧ zK X H0 D cA sp U)) (fun _ _ oc t => oc = .returned (v.map (zv (zo H0 sp))) ∧ zP H0 D cA sp S' t.heap) (zN S' - zN S) (zC S' - zC S) (fun q => H0.size ≤ q)
theorem zGood {y : MethodName} {bytes : ByteArray} {maxL : Nat} {ret : Option FieldType} (h : Cond.code y bytes maxL ret ∈ zw) : GoodIn zw (Cond.code y bytes maxL ret :: zw) := fun w hw => by
  rcases List.mem_cons.mp hw with rfl | hw
  · exact ⟨h, good_of_word (zwG _ h)⟩
  · exact ⟨hw, good_of_word (zwG _ hw)⟩
theorem zBlind {as : List Value} {H0 : Heap} {D : va_G} {cA : Nat → ClassId} {sp : Nat → Option Nat} : FrameBlind (va_Pc as (fun U => zP H0 D cA sp S U.heap ∧ zK X H0 D cA sp U)) :=
  fun a U g mk q => ⟨q.1, q.2.1, zK.same (u := U) (U := U.calling g mk a) rfl q.2.2⟩
theorem zg_call0 {y : MethodName} {bytes : ByteArray} {maxL : Nat} {ret : Option FieldType} {d' : Nat} {as rest : List Value} {v1 : Option Value} (hm : zM X y bytes maxL ret d' as S v1 S1)
    (hrun : ∀ (P : Program) (l : Launch) (e : Env) (R : Room) (s : State) (m : MethodId) (args : Array Value) (below : List Frame) (meth : Method) (c : Code) (H : Heap) (locs : List Loc) (cells slots : Nat) (H0 : Heap) (D : va_G) (cA : Nat → ClassId) (sp : Nat → Option Nat) (ls : Array Slot),
      zFx M d P R s m args meth c → zK X H0 D cA sp s → zP H0 D cA sp S H → ls.size = M.2.2.1 → (cells + (zN S1 - zN S) ≤ R.cells ∧ slots + (zC S1 - zC S) ≤ R.slots) →
      ∃ a, va_Run P l e R s m args below meth c H locs cells slots (zN S1 - zN S) (zC S1 - zC S) (F0 m pc ls (st.map (zv (zo H0 sp)))) (rest.map (zv (zo H0 sp))) ((fun (_ : Array Value) (_ : State) oc t => oc = Outcome.returned (v1.map (zv (zo H0 sp))) ∧ zP H0 D cA sp S1 t.heap) a) (fun q => H0.size ≤ q))
    (hp : pc + 3 = pc') (kk : zG X M d pc' L (v1.toList ++ rest) S1 v S') : zG X M d pc L st S v S' := by
  subst hp
  have m1 := kk.1
  have m2 := hm.1
  refine ⟨⟨by omega, by omega⟩, fun P l e R s m args below meth c H locs cells slots mc ms Q H0 D cA sp ls hF hK hP hS hL hr hX => ?_⟩
  obtain ⟨a, hrn⟩ := hrun P l e R s m args below meth c H locs cells slots H0 D cA sp ls hF hK hP hL.1 ⟨by omega, by omega⟩
  intro T hT XX
  obtain ⟨v9, st₀, t, T', LL, h0, X', hLL, e1, e2, ⟨hq1, hq2⟩, stp⟩ := hrn T hT XX
  have hv9 : v9 = v1.map (zv (zo H0 sp)) := Outcome.returned.inj hq1
  subst hv9
  have hst : ((v1.map (zv (zo H0 sp))).toList ++ rest.map (zv (zo H0 sp))) = (v1.toList ++ rest).map (zv (zo H0 sp)) := by
    cases v1 <;> simp
  have hk2 := kk.2 P l e R s m args below meth c T'.heap (locs ++ LL) (cells + (zN S1 - zN S)) (slots + (zC S1 - zC S)) mc ms Q H0 D cA sp ls hF hK (by rw [e1]; exact hq2) (fun q hq => by
      rcases List.mem_append.mp hq with h | h
      · exact hS q h
      · exact hLL q h) hL ⟨by omega, by omega, hr.2.2⟩ hX
  obtain ⟨t2, a1, b1⟩ := hk2 T' rfl X'
  refine ⟨t2, stp t2 ?_, b1⟩
  rw [show ({ F0 m pc ls (st.map (zv (zo H0 sp))) with pc := (F0 m pc ls (st.map (zv (zo H0 sp)))).pc + 3, stack := (v1.map (zv (zo H0 sp))).toList ++ rest.map (zv (zo H0 sp)) } : JFrame) = F0 m (pc + 3) ls ((v1.toList ++ rest).map (zv (zo H0 sp))) from by rw [← hst]]
  exact a1
theorem zcat_sum {o : Nat → Option Nat} {rest : List Value} (h : (rest.map fun v => v.category).sum ≤ 8) : ((rest.map (zv o)).map fun v => v.category).sum ≤ 8 := by
  have e : (rest.map (zv o)).map (fun v => v.category) = rest.map fun v => v.category := by
    rw [List.map_map]
    exact List.map_congr_left (fun v _ => zv_cat o v)
  rw [e]
  exact h
/-- what the tables say of a method that is called from a class -/
def zYb (own : String) (idx : Nat) (y : MethodName) (bytes : ByteArray) (maxL : Nat) (ret : Option FieldType) (n : Nat) : Prop :=
  Cond.methodLink own idx y ∈ zw ∧ Cond.initialized y.cls ∈ zw ∧ Cond.code y bytes maxL ret ∈ zw ∧ (y.cls ≠ "java/lang/invoke/MethodHandle" ∧ y.cls ≠ "java/lang/invoke/VarHandle" ∧ (parseMethodDescriptor y.desc).map (fun d => d.parameters.length) = some n) ∧ maxL ≤ 40
def zYn (own : String) (idx : Nat) (y : MethodName) (bytes : ByteArray) (maxL : Nat) (ret : Option FieldType) (n : Nat) : Prop :=
  (∃ host, Cond.methodLinkNest own idx y host ∈ znw) ∧ Cond.initialized y.cls ∈ zw ∧ Cond.code y bytes maxL ret ∈ zw ∧ (y.cls ≠ "java/lang/invoke/MethodHandle" ∧ y.cls ≠ "java/lang/invoke/VarHandle" ∧ (parseMethodDescriptor y.desc).map (fun d => d.parameters.length) = some n) ∧ maxL ≤ 40
theorem zYb.callB {R : Room} {s : State} {args : Array Value} {own : String} {idx : Nat} {y : MethodName} {bytes : ByteArray} {maxL : Nat} {ret : Option FieldType} {n d' mc ms : Nat} (h : zYb own idx y bytes maxL ret n) (hts : ∀ w ∈ zw, w.before args s = true) (hR : d' + 1 ≤ R.frames ∧ 60 * d' + 60 ≤ R.locals) :
    CallB R s args own idx y bytes maxL ret (Cond.code y bytes maxL ret :: zw) { frames := d', cells := mc, slots := ms, locals := 60 * d' } mc ms n :=
  callB_of n hts (zGood h.2.2.1) rfl rfl rfl (hts _ h.2.1) (hts _ h.1) h.2.2.2.1 ⟨hR.1, by have := h.2.2.2.2; have := hR.2; show 8 + (maxL + 11) + 60 * d' ≤ R.locals; omega⟩
theorem zYn.cn {R : Room} {s : State} {args : Array Value} {own : String} {idx : Nat} {y : MethodName} {bytes : ByteArray} {maxL : Nat} {ret : Option FieldType} {n d' mc ms : Nat} (h : zYn own idx y bytes maxL ret n) (hts : ∀ w ∈ zw, w.before args s = true) (hnw : ∀ w ∈ znw, va_Nw w s) (hR : d' + 1 ≤ R.frames ∧ 60 * d' + 60 ≤ R.locals) :
    ∃ host, va_CN R s args own idx y host bytes maxL ret (Cond.code y bytes maxL ret :: zw) { frames := d', cells := mc, slots := ms, locals := 60 * d' } mc ms n := by
  obtain ⟨⟨host, h1⟩, h2, h3, h4, h5⟩ := h
  exact ⟨host, va_cnB n hts (zGood h3) rfl rfl rfl (hnw _ h1) (hts _ h2) h4 ⟨hR.1, by have := hR.2; show 8 + (maxL + 11) + 60 * d' ≤ R.locals; omega⟩⟩
theorem zcell_obj {H0 H : Heap} {D : va_G} {cA : Nat → ClassId} {sp : Nat → Option Nat} {s : State} {p ci : Nat} {C : String} (hP : zP H0 D cA sp S H) (hK : zK X H0 D cA sp s) (h : (zT S p).1 = 100 + ci) (hc : ∃ r, zcl[ci]? = some r ∧ r.1 = C) : ∃ b, zo H0 sp p = some b ∧ ∃ cellB : Cell, H[b]? = some cellB ∧ cellB.vm.isStatics = false ∧ s.vm.findClass C = some cellB.cls := by
  obtain ⟨hlo, hhi, r, a1, a2, cell, b1, b2, b3, b4⟩ := zp_obj hP h
  obtain ⟨r2, c1, c2⟩ := hc
  cases a1.symm.trans c1
  refine ⟨_, zo_hi hlo, cell, b1, by rw [b3]; rfl, ?_⟩
  rw [← c2, b2]
  exact (hK.1.1 ci _ c1).2.1
theorem zcell_text {H0 H : Heap} {D : va_G} {cA : Nat → ClassId} {sp : Nat → Option Nat} {s : State} {p : Nat} (hP : zP H0 D cA sp S H) (hK : zK X H0 D cA sp s) (h : (zT S p).1 = 7) : ∃ b, zo H0 sp p = some b ∧ ∃ cellB : Cell, H[b]? = some cellB ∧ cellB.vm.isStatics = false ∧ s.vm.findClass "java/lang/String" = some cellB.cls := by
  obtain ⟨i, sa, hi, hpi, h1, h2, h3, h4, hk⟩ := zp_text hP hK h
  obtain ⟨⟨cell, g1, g2, g3, g4⟩, -⟩ := hk.1 i hi
  exact ⟨_, h1, cell, by rw [hP.2.2.1 _ (Array.getElem?_eq_some_iff.mp g1).1]; exact g1, g2, g3⟩
theorem zstk {o : Nat → Option Nat} {As rest : List Value} {p b : Nat} (hb : o p = some b) : (As.reverse ++ .ref p :: rest).map (zv o) = (As.map (zv o)).reverse ++ .ref b :: rest.map (zv o) := by
  rw [List.map_append, List.map_cons, List.map_reverse]
  have e : zv o (.ref p) = .ref b := by
    show va_rf (o p) = _
    rw [hb]
    rfl
  rw [e]
theorem zargs {o : Nat → Option Nat} {As : List Value} {p b : Nat} (hb : o p = some b) : (Value.ref p :: As).map (zv o) = .ref b :: As.map (zv o) := by
  rw [List.map_cons]
  have e : zv o (.ref p) = .ref b := by
    show va_rf (o p) = _
    rw [hb]
    rfl
  rw [e]
section CALLS
variable {y : MethodName} {bytes : ByteArray} {maxL : Nat} {ret : Option FieldType} {d' idx n p : Nat} {As rest : List Value} {v1 : Option Value}
theorem zg_callv0 (hy : zYb M.1 idx y bytes maxL ret n) (hin : Cond.instanceMethod y ∈ zw) (hse : Cond.selects y.cls y y ∈ zw) (hcell : ∀ {H0 H : Heap} {D : va_G} {cA : Nat → ClassId} {sp : Nat → Option Nat} {s : State}, zP H0 D cA sp S H → zK X H0 D cA sp s → ∃ b, zo H0 sp p = some b ∧ ∃ cellB : Cell, H[b]? = some cellB ∧ cellB.vm.isStatics = false ∧ s.vm.findClass y.cls = some cellB.cls)
    (hd : decode M.2.1 pc = .ok (.invokevirtual idx, 3)) (hn : As.length = n) (hst : st = As.reverse ++ .ref p :: rest) (hrest : (rest.map fun v => v.category).sum ≤ 8) (hdd : d' + 1 ≤ d) (hm : zM X y bytes maxL ret d' (.ref p :: As) S v1 S1) (hp : pc + 3 = pc') (kk : zG X M d pc' L (v1.toList ++ rest) S1 v S') : zG X M d pc L st S v S' := by
  subst hst
  refine zg_call0 hm (fun P l e R s m args below meth c H locs cells slots H0 D cA sp ls hF hK hP hls hroom => ?_) hp kk
  obtain ⟨b, hb, cellB, c1, c2, c3⟩ := hcell hP hK
  have hM := hm.2 l H0 D cA sp
  rw [zargs hb] at hM
  refine ⟨(Value.ref b :: As.map (zv (zo H0 sp))).toArray, ?_⟩
  exact va_runV (C := y.cls) (As := As.map (zv (zo H0 sp))) (b := b) ⟨hF.1, hF.2.1, hF.2.2.1, hF.2.2.2.1, hF.2.2.2.2.1⟩ hM ⟨hy.callB hF.2.2.2.2.1 ⟨by have := hF.2.2.2.2.2.2.1; omega, by have := hF.2.2.2.2.2.2.2; omega⟩, hF.2.2.2.2.1 _ hin, hF.2.2.2.2.1 _ hse⟩
    ⟨zBlind, ⟨cellB, c1, c2, c3⟩, fun U hU hW => ⟨rfl, by rw [hU]; exact hP, zK.warm hW hK⟩⟩ rfl (by rw [List.length_map]; exact hn) hls (zstk hb) (lv_room (zcat_sum hrest)) hd hroom
theorem zg_callV {ci : Nat} (hy : zYb M.1 idx y bytes maxL ret n) (hin : Cond.instanceMethod y ∈ zw) (hse : Cond.selects y.cls y y ∈ zw) (hc : ∃ r, zcl[ci]? = some r ∧ r.1 = y.cls) (hd : decode M.2.1 pc = .ok (.invokevirtual idx, 3)) (hn : As.length = n) (hst : st = As.reverse ++ .ref p :: rest) (hrest : (rest.map fun v => v.category).sum ≤ 8) (hdd : d' + 1 ≤ d) (hg : (zT S p).1 = 100 + ci) (hm : zM X y bytes maxL ret d' (.ref p :: As) S v1 S1) (hp : pc + 3 = pc') (kk : zG X M d pc' L (v1.toList ++ rest) S1 v S') : zG X M d pc L st S v S' :=
  zg_callv0 hy hin hse (fun hP hK => zcell_obj hP hK hg hc) hd hn hst hrest hdd hm hp kk
theorem zg_callT (hy : zYb M.1 idx y bytes maxL ret n) (hin : Cond.instanceMethod y ∈ zw) (hse : Cond.selects y.cls y y ∈ zw) (hc : y.cls = "java/lang/String") (hd : decode M.2.1 pc = .ok (.invokevirtual idx, 3)) (hn : As.length = n) (hst : st = As.reverse ++ .ref p :: rest) (hrest : (rest.map fun v => v.category).sum ≤ 8) (hdd : d' + 1 ≤ d) (hg : (zT S p).1 = 7) (hm : zM X y bytes maxL ret d' (.ref p :: As) S v1 S1) (hp : pc + 3 = pc') (kk : zG X M d pc' L (v1.toList ++ rest) S1 v S') : zG X M d pc L st S v S' :=
  zg_callv0 hy hin hse (fun hP hK => by rw [hc]; exact zcell_text hP hK hg) hd hn hst hrest hdd hm hp kk
theorem zg_callS (hy : zYb M.1 idx y bytes maxL ret n) (hsta : Cond.static y ∈ zw) (hd : decode M.2.1 pc = .ok (.invokestatic idx, 3)) (hn : As.length = n) (hst : st = As.reverse ++ rest) (hrest : (rest.map fun v => v.category).sum ≤ 8) (hdd : d' + 1 ≤ d) (hm : zM X y bytes maxL ret d' As S v1 S1) (hp : pc + 3 = pc') (kk : zG X M d pc' L (v1.toList ++ rest) S1 v S') : zG X M d pc L st S v S' := by
  subst hst
  refine zg_call0 hm (fun P l e R s m args below meth c H locs cells slots H0 D cA sp ls hF hK hP hls hroom => ?_) hp kk
  refine ⟨(As.map (zv (zo H0 sp))).toArray, ?_⟩
  exact va_runS (As := As.map (zv (zo H0 sp))) ⟨hF.1, hF.2.1, hF.2.2.1, hF.2.2.2.1, hF.2.2.2.2.1⟩ (hm.2 l H0 D cA sp) ⟨hy.callB hF.2.2.2.2.1 ⟨by have := hF.2.2.2.2.2.2.1; omega, by have := hF.2.2.2.2.2.2.2; omega⟩, hF.2.2.2.2.1 _ hsta⟩
    ⟨zBlind, fun U hU hW => ⟨rfl, by rw [hU]; exact hP, zK.warm hW hK⟩⟩ rfl (by rw [List.length_map]; exact hn) hls (by rw [List.map_append, List.map_reverse]) (lv_room (zcat_sum hrest)) hd hroom
theorem zg_callSN (hy : zYn M.1 idx y bytes maxL ret n) (hsta : Cond.static y ∈ zw) (hd : decode M.2.1 pc = .ok (.invokestatic idx, 3)) (hn : As.length = n) (hst : st = As.reverse ++ rest) (hrest : (rest.map fun v => v.category).sum ≤ 8) (hdd : d' + 1 ≤ d) (hm : zM X y bytes maxL ret d' As S v1 S1) (hp : pc + 3 = pc') (kk : zG X M d pc' L (v1.toList ++ rest) S1 v S') : zG X M d pc L st S v S' := by
  subst hst
  refine zg_call0 hm (fun P l e R s m args below meth c H locs cells slots H0 D cA sp ls hF hK hP hls hroom => ?_) hp kk
  obtain ⟨host, hcn⟩ := hy.cn (mc := zN S1 - zN S) (ms := zC S1 - zC S) (d' := d') hF.2.2.2.2.1 hK.2.1 (R := R) ⟨by have := hF.2.2.2.2.2.2.1; omega, by have := hF.2.2.2.2.2.2.2; omega⟩
  refine ⟨(As.map (zv (zo H0 sp))).toArray, ?_⟩
  exact va_runSN (As := As.map (zv (zo H0 sp))) ⟨hF.1, hF.2.1, hF.2.2.1, hF.2.2.2.1, hF.2.2.2.2.1⟩ (hm.2 l H0 D cA sp) ⟨hcn, hF.2.2.2.2.1 _ hsta, trivial⟩
    ⟨zBlind, fun U hU hW => ⟨rfl, by rw [hU]; exact hP, zK.warm hW hK⟩⟩ rfl (by rw [List.length_map]; exact hn) hls (by rw [List.map_append, List.map_reverse]) (lv_room (zcat_sum hrest)) hd hroom
theorem zg_callI {ci : Nat} (hy : zYb M.1 idx y bytes maxL none n) (hin : Cond.instanceMethod y ∈ zw) (hname : y.name = "<init>") (hc : ∃ r, zcl[ci]? = some r ∧ r.1 = y.cls) (hd : decode M.2.1 pc = .ok (.invokespecial idx, 3)) (hn : As.length = n) (hst : st = As.reverse ++ .ref p :: rest) (hrest : (rest.map fun v => v.category).sum ≤ 8) (hdd : d' + 1 ≤ d) (hg : (zT S p).1 = 100 + ci) (hm : zM X y bytes maxL none d' (.ref p :: As) S v1 S1) (hp : pc + 3 = pc') (kk : zG X M d pc' L (v1.toList ++ rest) S1 v S') : zG X M d pc L st S v S' := by
  subst hst
  refine zg_call0 hm (fun P l e R s m args below meth c H locs cells slots H0 D cA sp ls hF hK hP hls hroom => ?_) hp kk
  obtain ⟨b, hb, cellB, c1, c2, c3⟩ := zcell_obj hP hK hg hc
  have hM := hm.2 l H0 D cA sp
  rw [zargs hb] at hM
  refine ⟨(Value.ref b :: As.map (zv (zo H0 sp))).toArray, ?_⟩
  exact va_runI (As := As.map (zv (zo H0 sp))) (b := b) ⟨hF.1, hF.2.1, hF.2.2.1, hF.2.2.2.1, hF.2.2.2.2.1⟩ hM ⟨hy.callB hF.2.2.2.2.1 ⟨by have := hF.2.2.2.2.2.2.1; omega, by have := hF.2.2.2.2.2.2.2; omega⟩, hname, hF.2.2.2.2.1 _ hin⟩
    ⟨zBlind, fun U hU hW => ⟨rfl, by rw [hU]; exact hP, zK.warm hW hK⟩⟩ rfl (by rw [List.length_map]; exact hn) hls (zstk hb) (lv_room (zcat_sum hrest)) hd hroom
theorem zg_callIN {ci : Nat} (hy : zYn M.1 idx y bytes maxL none n) (hin : Cond.instanceMethod y ∈ zw) (hname : y.name = "<init>") (hc : ∃ r, zcl[ci]? = some r ∧ r.1 = y.cls) (hd : decode M.2.1 pc = .ok (.invokespecial idx, 3)) (hn : As.length = n) (hst : st = As.reverse ++ .ref p :: rest) (hrest : (rest.map fun v => v.category).sum ≤ 8) (hdd : d' + 1 ≤ d) (hg : (zT S p).1 = 100 + ci) (hm : zM X y bytes maxL none d' (.ref p :: As) S v1 S1) (hp : pc + 3 = pc') (kk : zG X M d pc' L (v1.toList ++ rest) S1 v S') : zG X M d pc L st S v S' := by
  subst hst
  refine zg_call0 hm (fun P l e R s m args below meth c H locs cells slots H0 D cA sp ls hF hK hP hls hroom => ?_) hp kk
  obtain ⟨b, hb, cellB, c1, c2, c3⟩ := zcell_obj hP hK hg hc
  have hM := hm.2 l H0 D cA sp
  rw [zargs hb] at hM
  obtain ⟨host, hcn⟩ := hy.cn (mc := zN S1 - zN S) (ms := zC S1 - zC S) (d' := d') hF.2.2.2.2.1 hK.2.1 (R := R) ⟨by have := hF.2.2.2.2.2.2.1; omega, by have := hF.2.2.2.2.2.2.2; omega⟩
  refine ⟨(Value.ref b :: As.map (zv (zo H0 sp))).toArray, ?_⟩
  exact va_runIN (As := As.map (zv (zo H0 sp))) (b := b) ⟨hF.1, hF.2.1, hF.2.2.1, hF.2.2.2.1, hF.2.2.2.2.1⟩ hM ⟨hcn, hname, hF.2.2.2.2.1 _ hin⟩
    ⟨zBlind, fun U hU hW => ⟨rfl, by rw [hU]; exact hP, zK.warm hW hK⟩⟩ rfl (by rw [List.length_map]; exact hn) hls (zstk hb) (lv_room (zcat_sum hrest)) hd hroom
end CALLS
theorem zg_oinit {idx ci p : Nat} (hl : Cond.methodLink M.1 idx Lib.objectInit ∈ zw) (hi : Cond.instanceMethod Lib.objectInit ∈ zw) (hc : Cond.code Lib.objectInit ⟨#[0xb1]⟩ 1 none ∈ zw) (hd : decode M.2.1 pc = .ok (.invokespecial idx, 3)) (hdd : 1 ≤ d) (hg : (zT S p).1 = 100 + ci) (hrest : (st.map fun v => v.category).sum ≤ 8) (hp : pc + 3 = pc') (kk : zG X M d pc' L st S v S') : zG X M d pc L (.ref p :: st) S v S' := by
  subst hp
  refine ⟨kk.1, fun P l e R s m args below meth c H locs cells slots mc ms Q H0 D cA sp ls hF hK hP hS hL hr hX => ?_⟩
  have hk2 := kk.2 P l e R s m args below meth c H locs cells slots mc ms Q H0 D cA sp ls hF hK hP hS hL hr hX
  obtain ⟨hlo, hhi, -⟩ := zp_obj hP hg
  show W P l e R s m args below meth c H locs cells slots Q (F0 m pc ls (va_rf (zo H0 sp p) :: st.map (zv (zo H0 sp))))
  rw [zo_hi hlo]
  have hc8 := zcat_sum (o := zo H0 sp) hrest
  refine W.objInit hF.1 hF.2.1 hF.2.2.2.1 (hF.2.2.2.2.1 _ hl) (hF.2.2.2.2.1 _ hi) (hF.2.2.2.2.1 _ hc) rfl (by rw [hF.2.2.1]; exact hL.1) rfl hd (by have := hF.2.2.2.2.2.2.1; omega) ?_ hk2
  have := hF.2.2.2.2.2.2.2
  show 2 * 0 + _ + 12 ≤ _
  omega
/-! a method's entry -/
def zen : List Value → List (Option Value)
  | [] => []
  | w :: ws => match w with
    | .long _ => some w :: none :: zen ws
    | .double _ => some w :: none :: zen ws
    | _ => some w :: zen ws
theorem zen_mem {o : Nat → Option Nat} : ∀ (as : List Value) (i0 j : Nat) (w : Value), (zen as)[j]? = some (some w) → (i0 + j, zv o w) ∈ lv_args i0 (as.map (zv o))
  | [], i0, j, w, h => by simp [zen] at h
  | a :: as, i0, j, w, h => by
    have hcat := zv_cat o a
    rw [List.map_cons, lv_args, hcat]
    have one : ∀ (k : Nat), (some a :: zen as)[j]? = some (some w) → k = i0 + 1 → (i0 + j, zv o w) ∈ (i0, zv o a) :: lv_args k (as.map (zv o)) := by
      intro k h hk
      cases j with
      | zero =>
        simp at h
        subst h
        exact List.mem_cons_self
      | succ j =>
        simp at h
        have := zen_mem (o := o) as (i0 + 1) j w h
        rw [hk]
        refine List.mem_cons_of_mem _ ?_
        rw [show i0 + (j + 1) = i0 + 1 + j by omega]
        exact this
    have two : ∀ (k : Nat), (some a :: none :: zen as)[j]? = some (some w) → k = i0 + 2 → (i0 + j, zv o w) ∈ (i0, zv o a) :: lv_args k (as.map (zv o)) := by
      intro k h hk
      cases j with
      | zero =>
        simp at h
        subst h
        exact List.mem_cons_self
      | succ j =>
        cases j with
        | zero => simp at h
        | succ j =>
          simp at h
          have := zen_mem (o := o) as (i0 + 2) j w h
          rw [hk]
          refine List.mem_cons_of_mem _ ?_
          rw [show i0 + (j + 1 + 1) = i0 + 2 + j by omega]
          exact this
    cases a with
    | long x => exact two _ h (by simp [Value.category])
    | double x => exact two _ h (by simp [Value.category])
    | int x => exact one _ h (by simp [Value.category])
    | float x => exact one _ h (by simp [Value.category])
    | null => exact one _ h (by simp [Value.category])
    | ref x => exact one _ h (by simp [Value.category])
    | retAddr x => exact one _ h (by simp [Value.category])
theorem zen_len {o : Nat → Option Nat} : ∀ (as : List Value), (lg_sl (as.map (zv o))).length = (zen as).length
  | [] => rfl
  | a :: as => by
    have ih := zen_len (o := o) as
    have hcat := zv_cat o a
    rw [lg_sl] at ih ⊢
    rw [List.map_cons, List.flatMap_cons, List.length_append, ih, hcat]
    cases a <;> simp [zen, Value.category] <;> omega
/-- as the kit's Met.ofW, by the method's own name (java/lang/Math has natives, but not these) -/
theorem zMet {y : MethodName} {ws ws' : List Cond} {rm : Room} {Pc : Array Value → State → Prop} {Qc : Array Value → State → Outcome → State → Prop} {mc ms : Nat} {free : Addr → Prop} {cc : ByteArray} {maxL : Nat} {ret : Option FieldType} {l : Launch}
    (hy : plainFor y = true) (hw : ws = Cond.code y cc maxL ret :: ws')
    (body : ∀ p e s m args below meth c s₁, BodyLoose p l y (headSpec ws rm) cc maxL ret e s m args below meth c s₁ → c.maxLocals = maxL → Pc args s →
      W p l e (headSpec ws rm).room s m args below meth c s.heap [] 0 0 (MQ below Qc args s mc ms free) (entryFrame m args maxL)) : Met l y ws rm Pc Qc mc ms free := by
  refine MetFree.of_bodySF (code := cc) (maxLocals := maxL) (ret := ret) hy ?_ ?_
  · intro args s m h hn
    obtain ⟨meth, c, h1, h2, h3, h4, h5, h6, -, -⟩ := Cond.code_spec hn (atoms_spec (ws := ws) h _ (by rw [hw]; exact List.mem_cons_self))
    exact ⟨meth, c, h1, h2, h3, h4, h5, h6⟩
  · intro p e s m args below meth c s₁ B hml hP _
    have hh0 : s₁.heap = s.heap := by rw [B.state]; rfl
    obtain ⟨t, a1, o, b1, b2, b3⟩ := body p e s m args below meth c s₁ B hml hP s₁ hh0 (Stand.of_body B)
    exact ⟨t, o, a1, b1, b2, ⟨b3.1, b3.2⟩⟩
theorem zM_of {y : MethodName} {bytes : ByteArray} {maxL : Nat} {ret : Option FieldType} {ini : Bool} {as : List Value} (hpl : plainFor y = true) (hini : ini = true → y.name = "<init>") (hlen : (zen as).length ≤ maxL) (hL : zen as ++ List.replicate (maxL - (zen as).length) none = L) (k : zG X (y.cls, bytes, maxL, ret, ini) d 0 L [] S v S') : zM X y bytes maxL ret d as S v S' := by
  subst hL
  refine ⟨k.1, fun l H0 D cA sp => zMet (cc := bytes) (maxL := maxL) (ret := ret) hpl rfl (fun p e s m args below meth c s₁ B hml hv => ?_)⟩
  obtain ⟨rfl, hP, hK⟩ := hv
  have hts := atoms_spec (ws := Cond.code y bytes maxL ret :: zw) B.pre
  have hlk := B.notSynchronized
  rw [lg_entry_eq]
  have hle := lv_entry (as.map (zv (zo H0 sp))) (n := maxL) (by rw [zen_len]; exact hlen)
  have hmono := k.1
  refine k.2 p l e _ s m _ below meth c s.heap [] 0 0 (zN S' - zN S) (zC S' - zC S) _ H0 D cA sp _ ⟨B.exec, B.bytes, hml, findClass_of_methodNamed B.named, fun w hw => hts w (List.mem_cons_of_mem _ hw), fun h => ((name_of_methodNamed B.named B.method).1).trans (hini h), Nat.le_refl _, Nat.le_refl _⟩ hK hP (fun q hq => by cases hq) ⟨hle.1, hle.2.1, fun i w h => ?_⟩ ⟨by omega, by omega, Nat.le_refl _, Nat.le_refl _⟩ (fun pc' ls' H' locs' hrt hdec hP' hS' => ?_)
  · rcases Nat.lt_or_ge i (zen as).length with q | q
    · rw [List.getElem?_append_left q] at h
      have := zen_mem (o := zo H0 sp) as 0 i w h
      rw [Nat.zero_add] at this
      exact hle.2.2 _ this
    · rw [List.getElem?_append_right q, List.getElem?_replicate] at h
      split at h <;> cases h
  · have hq : ∀ t : State, t.heap = H' → zP H0 D cA sp S' t.heap := fun t ht => by rw [ht]; exact hP'
    cases v with
    | none => exact W.vret B.exec B.bytes (B.returns.trans hrt) (fun t ht _ => ⟨rfl, hq t ht⟩) hS' hdec (hlocks := hlk)
    | some w =>
      cases w with
      | int x =>
        obtain ⟨ty, h1, h2⟩ := hrt
        exact W.zret B.exec B.bytes (B.returns.trans h1) h2 (fun t ht _ => ⟨rfl, hq t ht⟩) hS' hdec (hlocks := hlk)
      | long x => exact W.lret B.exec B.bytes (B.returns.trans hrt) (fun t ht _ => ⟨rfl, hq t ht⟩) hS' hdec (hlocks := hlk)
      | _ => exact hrt.elim
end ZH
