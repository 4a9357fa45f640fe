/-! rows of arrays, new cells, statics, texts -/
section ZA
variable {X : zXt} {M : zQ} {d pc pc' : Nat} {L L' : List (Option Value)} {st st' : List Value} {S S1 : zS} {v : Option Value} {S' : zS}
theorem zin_of {i : Int32} {n m : Nat} (h : vp_in i n) (hm : n ≤ m) : ¬ (i < 0 ∨ m ≤ i.toNatClampNeg) := fun q => h (q.elim Or.inl (fun z => Or.inr (by omega)))
theorem zin_lt {i : Int32} {n : Nat} (h : vp_in i n) : i.toNatClampNeg < n := Nat.not_le.mp fun q => h (Or.inr q)
theorem zg_iald {p : Nat} {i : Int32} (hd : decode M.2.1 pc = .ok (.iaload, 1)) (hg : (zT S p).1 = 1) (hin : vp_in i (zT S p).2) (hp : pc + 1 = pc') (kk : zG X M d pc' L (.int (zI S p i.toNatClampNeg) :: st) S v S') : zG X M d pc L (.int i :: .ref p :: st) S v S' := by
  subst hp
  refine ⟨kk.1, fun P l e R s m args below meth c H locs cells slots mc ms Q H0 D cA sp ls hF hK hP hS hL hr hX => ?_⟩
  obtain ⟨a, cell, e0, e1, e2, e3, e4, -, e6⟩ := zp_ints hP hK hg
  show W P l e R s m args below meth c H locs cells slots Q (F0 m pc ls (.int i :: va_rf (zo H0 sp p) :: st.map (zv (zo H0 sp))))
  rw [e0]
  exact W.iald hF.1 hF.2.1 e1 e2 e3 (zin_of hin e4) (e6 _ (zin_lt hin)) rfl rfl hd (kk.2 P l e R s m args below meth c H locs cells slots mc ms Q H0 D cA sp ls hF hK hP hS hL hr hX)
theorem zg_bald {p : Nat} {i : Int32} (hd : decode M.2.1 pc = .ok (.baload, 1)) (hg : (zT S p).1 = 8) (hin : vp_in i (zT S p).2) (hp : pc + 1 = pc') (kk : zG X M d pc' L (.int (zI S p i.toNatClampNeg) :: st) S v S') : zG X M d pc L (.int i :: .ref p :: st) S v S' := by
  subst hp
  refine ⟨kk.1, fun P l e R s m args below meth c H locs cells slots mc ms Q H0 D cA sp ls hF hK hP hS hL hr hX => ?_⟩
  obtain ⟨a, cell, e0, e1, e2, e3, e4, -, e6⟩ := zp_bytes hP hK hg
  show W P l e R s m args below meth c H locs cells slots Q (F0 m pc ls (.int i :: va_rf (zo H0 sp p) :: st.map (zv (zo H0 sp))))
  rw [e0]
  exact W.bald hF.1 hF.2.1 e1 e2 e3 (zin_of hin e4) (e6 _ (zin_lt hin)) rfl rfl hd (kk.2 P l e R s m args below meth c H locs cells slots mc ms Q H0 D cA sp ls hF hK hP hS hL hr hX)
theorem zg_alenI {p : Nat} (hd : decode M.2.1 pc = .ok (.arraylength, 1)) (hg : (zT S p).1 = 1) (hp : pc + 1 = pc') (kk : zG X M d pc' L (.int (Int32.ofNat (zT S p).2) :: st) S v S') : zG X M d pc L (.ref p :: st) S v S' := by
  subst hp
  refine ⟨kk.1, fun P l e R s m args below meth c H locs cells slots mc ms Q H0 D cA sp ls hF hK hP hS hL hr hX => ?_⟩
  obtain ⟨a, cell, e0, e1, e2, e3, e4, e5, e6⟩ := zp_ints hP hK hg
  show W P l e R s m args below meth c H locs cells slots Q (F0 m pc ls (va_rf (zo H0 sp p) :: st.map (zv (zo H0 sp))))
  rw [e0]
  exact W.alen hF.1 hF.2.1 e1 e2 e5 rfl rfl hd (kk.2 P l e R s m args below meth c H locs cells slots mc ms Q H0 D cA sp ls hF hK hP hS hL hr hX)
theorem zg_alenB {p : Nat} (hd : decode M.2.1 pc = .ok (.arraylength, 1)) (hg : (zT S p).1 = 8) (hp : pc + 1 = pc') (kk : zG X M d pc' L (.int (Int32.ofNat (zT S p).2) :: st) S v S') : zG X M d pc L (.ref p :: st) S v S' := by
  subst hp
  refine ⟨kk.1, fun P l e R s m args below meth c H locs cells slots mc ms Q H0 D cA sp ls hF hK hP hS hL hr hX => ?_⟩
  obtain ⟨a, cell, e0, e1, e2, e3, e4, e5, e6⟩ := zp_bytes hP hK hg
  show W P l e R s m args below meth c H locs cells slots Q (F0 m pc ls (va_rf (zo H0 sp p) :: st.map (zv (zo H0 sp))))
  rw [e0]
  exact W.alen hF.1 hF.2.1 e1 e2 e5 rfl rfl hd (kk.2 P l e R s m args below meth c H locs cells slots mc ms Q H0 D cA sp ls hF hK hP hS hL hr hX)
/-- the script -/
theorem zg_sld {i : Int32} (hd : decode M.2.1 pc = .ok (.iaload, 1)) (hin : vp_in i X.1) (hp : pc + 1 = pc') (kk : zG X M d pc' L (.int (X.2 i.toNatClampNeg) :: st) S v S') : zG X M d pc L (.int i :: .ref 3 :: st) S v S' := by
  subst hp
  refine ⟨kk.1, fun P l e R s m args below meth c H locs cells slots mc ms Q H0 D cA sp ls hF hK hP hS hL hr hX => ?_⟩
  have hK2 := hK
  obtain ⟨-, -, -, sa, -, hsa, -, -, -, -, ⟨scr, g1, g2, g3, g4, g5⟩, hlt⟩ := hK2
  show W P l e R s m args below meth c H locs cells slots Q (F0 m pc ls (.int i :: va_rf (zo H0 sp 3) :: st.map (zv (zo H0 sp))))
  rw [zo, if_pos (by omega), hsa 3 (by omega) (by omega)]
  exact W.iald (v := .int (X.2 i.toNatClampNeg)) hF.1 hF.2.1 (by rw [hP.2.2.1 _ hlt]; exact g1) g2 g3 (by rw [g4]; exact hin) (g5 _ (zin_lt hin)) rfl rfl hd (kk.2 P l e R s m args below meth c H locs cells slots mc ms Q H0 D cA sp ls hF hK hP hS hL hr hX)
theorem zg_slen (hd : decode M.2.1 pc = .ok (.arraylength, 1)) (hp : pc + 1 = pc') (kk : zG X M d pc' L (.int (Int32.ofNat X.1) :: st) S v S') : zG X M d pc L (.ref 3 :: st) S v S' := by
  subst hp
  refine ⟨kk.1, fun P l e R s m args below meth c H locs cells slots mc ms Q H0 D cA sp ls hF hK hP hS hL hr hX => ?_⟩
  have hK2 := hK
  obtain ⟨-, -, -, sa, -, hsa, -, -, -, -, ⟨scr, g1, g2, g3, g4, g5⟩, hlt⟩ := hK2
  show W P l e R s m args below meth c H locs cells slots Q (F0 m pc ls (va_rf (zo H0 sp 3) :: st.map (zv (zo H0 sp))))
  rw [zo, if_pos (by omega), hsa 3 (by omega) (by omega)]
  exact W.alen (n := Int32.ofNat X.1) hF.1 hF.2.1 (by rw [hP.2.2.1 _ hlt]; exact g1) g2 (by rw [g4] <;> rfl) rfl rfl hd (kk.2 P l e R s m args below meth c H locs cells slots mc ms Q H0 D cA sp ls hF hK hP hS hL hr hX)
theorem zg_cald {p : Nat} {i : Int32} (hd : decode M.2.1 pc = .ok (.caload, 1)) (hg : (zT S p).1 = 2) (hin : vp_in i (zT S p).2) (hp : pc + 1 = pc') (kk : zG X M d pc' L (.int (zI S p i.toNatClampNeg) :: st) S v S') : zG X M d pc L (.int i :: .ref p :: st) S v S' := by
  subst hp
  refine ⟨kk.1, fun P l e R s m args below meth c H locs cells slots mc ms Q H0 D cA sp ls hF hK hP hS hL hr hX => ?_⟩
  have hlo := zp_lo hP hg (by omega) (by omega)
  have h9 := (zp_arr hP hg (by omega) (by omega) hlo).2
  show W P l e R s m args below meth c H locs cells slots Q (F0 m pc ls (.int i :: va_rf (zo H0 sp p) :: st.map (zv (zo H0 sp))))
  rw [zo_hi hlo]
  exact W.cald (v := .int (zI S p i.toNatClampNeg)) hF.1 hF.2.1 h9 ((hK.1.2 1 _ rfl).1 _ _) (fun z => by cases z) (by rw [arrV_size]; exact hin) (by rw [arrV_read _ _ (zin_lt hin)]; rfl) rfl rfl hd (kk.2 P l e R s m args below meth c H locs cells slots mc ms Q H0 D cA sp ls hF hK hP hS hL hr hX)
theorem zg_lald {p : Nat} {i : Int32} (hd : decode M.2.1 pc = .ok (.laload, 1)) (hg : (zT S p).1 = 3) (hin : vp_in i (zT S p).2) (hp : pc + 1 = pc') (kk : zG X M d pc' L (.long (zL S p i.toNatClampNeg) :: st) S v S') : zG X M d pc L (.int i :: .ref p :: st) S v S' := by
  subst hp
  refine ⟨kk.1, fun P l e R s m args below meth c H locs cells slots mc ms Q H0 D cA sp ls hF hK hP hS hL hr hX => ?_⟩
  have hlo := zp_lo hP hg (by omega) (by omega)
  have h9 := (zp_arr hP hg (by omega) (by omega) hlo).2
  show W P l e R s m args below meth c H locs cells slots Q (F0 m pc ls (.int i :: va_rf (zo H0 sp p) :: st.map (zv (zo H0 sp))))
  rw [zo_hi hlo]
  exact W.lald (v := .long (zL S p i.toNatClampNeg)) hF.1 hF.2.1 h9 ((hK.1.2 2 _ rfl).1 _ _) (fun z => by cases z) (by rw [arrV_size]; exact hin) (by rw [arrV_read _ _ (zin_lt hin)]; rfl) rfl rfl hd (kk.2 P l e R s m args below meth c H locs cells slots mc ms Q H0 D cA sp ls hF hK hP hS hL hr hX)
/-- rows of objects: the kind of the row (4, 5, 6), whose objects it holds -/
def zel (t : Nat) : Nat := match t with
  | 4 => 2
  | 5 => 8
  | _ => 5
theorem zg_aald {p t : Nat} {i : Int32} (ht : t = 4 ∨ t = 5 ∨ t = 6) (hd : decode M.2.1 pc = .ok (.aaload, 1)) (hg : (zT S p).1 = t) (hin : vp_in i (zT S p).2) (hp : pc + 1 = pc') (kk : zG X M d pc' L (.ref (zR S p i.toNatClampNeg) :: st) S v S') : zG X M d pc L (.int i :: .ref p :: st) S v S' := by
  subst hp
  refine ⟨kk.1, fun P l e R s m args below meth c H locs cells slots mc ms Q H0 D cA sp ls hF hK hP hS hL hr hX => ?_⟩
  have hlo := zp_lo hP hg (by omega) (by omega)
  have h9 := (zp_arr hP hg (by omega) (by omega) hlo).2
  show W P l e R s m args below meth c H locs cells slots Q (F0 m pc ls (.int i :: va_rf (zo H0 sp p) :: st.map (zv (zo H0 sp))))
  rw [zo_hi hlo]
  have hk2 := kk.2 P l e R s m args below meth c H locs cells slots mc ms Q H0 D cA sp ls hF hK hP hS hL hr hX
  have hv : (arrV (cA t) (zT S p).2 (zav (zo H0 sp) S p t)).slots[i.toNatClampNeg]? = some (va_rf (zo H0 sp (zR S p i.toNatClampNeg))) := by
    rw [arrV_read _ _ (zin_lt hin)]
    unfold zav
    rw [if_neg (by omega), if_neg (by omega)]
  rcases ht with rfl | rfl | rfl
  · exact W.aald (ty := .object zr2) hF.1 hF.2.1 h9 ((hK.1.2 3 _ rfl).1 _ _) rfl (fun z => by cases z) (by rw [arrV_size]; exact hin) hv rfl rfl hd hk2
  · exact W.aald (ty := .object zr8) hF.1 hF.2.1 h9 ((hK.1.2 4 _ rfl).1 _ _) rfl (fun z => by cases z) (by rw [arrV_size]; exact hin) hv rfl rfl hd hk2
  · exact W.aald (ty := .object zr5) hF.1 hF.2.1 h9 ((hK.1.2 5 _ rfl).1 _ _) rfl (fun z => by cases z) (by rw [arrV_size]; exact hin) hv rfl rfl hd hk2
/-! stores -/
theorem zav_i {o : Nat → Option Nat} {p t j : Nat} (h : t < 3) : zav o S p t j = .int (zI S p j) := by
  unfold zav
  rw [if_neg (by omega), if_pos h]
theorem zav_l {o : Nat → Option Nat} {p j : Nat} : zav o S p 3 j = .long (zL S p j) := if_pos rfl
theorem zav_r {o : Nat → Option Nat} {p t j : Nat} (h : 3 < t) : zav o S p t j = va_rf (o (zR S p j)) := by
  unfold zav
  rw [if_neg (by omega), if_neg (by omega)]
theorem zav_uI {o : Nat → Option Nat} {p k t : Nat} {x : Int32} (h : t < 3) : zav o (uI S p k x) p t = updV (zav o S p t) k (.int x) := by
  funext j
  rw [zav_i h]
  unfold updV
  by_cases hj : j = k
  · subst hj
    simp [zI, uI]
  · rw [if_neg hj, zav_i h]
    simp [zI, uI, hj]
theorem zav_uL {o : Nat → Option Nat} {p k : Nat} {x : Int64} : zav o (uL S p k x) p 3 = updV (zav o S p 3) k (.long x) := by
  funext j
  rw [zav_l]
  unfold updV
  by_cases hj : j = k
  · subst hj
    simp [zL, uL]
  · rw [if_neg hj, zav_l]
    simp [zL, uL, hj]
theorem zav_uR {o : Nat → Option Nat} {p k t x : Nat} (h : 3 < t) : zav o (uR S p k x) p t = updV (zav o S p t) k (va_rf (o x)) := by
  funext j
  rw [zav_r h]
  unfold updV
  by_cases hj : j = k
  · subst hj
    simp [zR, uR]
  · rw [if_neg hj, zav_r h]
    simp [zR, uR, hj]
/-- behind a store into an array -/
theorem zg_ast0 {p t k : Nat} {w : Value} {P : Program} {l : Launch} {e : Env} {R : Room} {s : State} {m : MethodId} {args : Array Value} {below : List Frame} {meth : Method} {c : Code} {H : Heap} {locs : List Loc} {cells slots mc ms : Nat} {Q : State → Prop} {H0 : Heap} {D : va_G} {cA : Nat → ClassId} {sp : Nat → Option Nat} {ls : Array Slot}
    (hg : (zT S p).1 = t) (h0 : 0 < t) (h7 : t < 7) (hlo : 16 ≤ p) (hT : ∀ q, zT S1 q = zT S q) (hN : zN S1 = zN S) (hC : zC S1 = zC S) (ho : ∀ q, q ≠ p → ∀ j, zI S1 q j = zI S q j ∧ zL S1 q j = zL S q j ∧ zR S1 q j = zR S q j) (hv : zav (zo H0 sp) S1 p t = updV (zav (zo H0 sp) S p t) k w)
    (hF : zFx M d P R s m args meth c) (hK : zK X H0 D cA sp s) (hP : zP H0 D cA sp S H) (hS : ∀ q ∈ locs, H0.size ≤ q.base) (hL : zLv (zo H0 sp) ls M.2.2.1 L) (hr : cells + zN S' = mc + zN S ∧ slots + zC S' = ms + zC S ∧ mc ≤ R.cells ∧ ms ≤ R.slots)
    (hX : ∀ (pc' : Nat) (ls' : Array Slot) (H' : Heap) (locs' : List Loc), zrt M.2.2.2.1 v → decode M.2.1 pc' = .ok (zri v, 1) → zP H0 D cA sp S' H' → (∀ q ∈ locs', H0.size ≤ q.base) → W P l e R s m args below meth c H' locs' mc ms Q (F0 m pc' ls' ((v.map (zv (zo H0 sp))).toList)))
    (kk : zG X M d (pc + 1) L st S1 v S') : ∀ H1 : Heap, H1[H0.size + (p - 16)]? = some ((arrV (cA t) (zT S p).2 (zav (zo H0 sp) S p t)).setSlot k w) → H1.size = H.size → (∀ q, q ≠ H0.size + (p - 16) → H1[q]? = H[q]?) → W P l e R s m args below meth c H1 (locs ++ [⟨H0.size + (p - 16), k⟩]) cells slots Q (F0 m (pc + 1) ls (st.map (zv (zo H0 sp)))) := by
  intro H1 e1 e2 e3
  obtain ⟨hhi, h9⟩ := zp_arr hP hg h0 h7 hlo
  rw [arrV_store, ← hv] at e1
  refine kk.2 P l e R s m args below meth c H1 _ cells slots mc ms Q H0 D cA sp ls hF hK (zP_put hP hlo hhi hT hN ho e2 e3 (Or.inl ⟨by rw [hT, hg]; exact h0, by rw [hT, hg]; exact h7, ?_⟩)) (fun q hq => ?_) hL (by rw [hN, hC]; exact hr) hX
  · rw [hT, hg]
    exact e1
  · rcases List.mem_append.mp hq with h | h
    · exact hS q h
    · rw [List.mem_singleton.mp h]
      exact Nat.le_add_right _ _
theorem zg_iast {p : Nat} {i x : Int32} (hd : decode M.2.1 pc = .ok (.iastore, 1)) (hg : (zT S p).1 = 1) (hlo : 16 ≤ p) (hin : vp_in i (zT S p).2) (hp : pc + 1 = pc') (kk : zG X M d pc' L st (uI S p i.toNatClampNeg x) v S') : zG X M d pc L (.int x :: .int i :: .ref p :: st) S v S' := by
  subst hp
  refine ⟨kk.1, fun P l e R s m args below meth c H locs cells slots mc ms Q H0 D cA sp ls hF hK hP hS hL hr hX => ?_⟩
  have h9 := (zp_arr hP hg (by omega) (by omega) hlo).2
  show W P l e R s m args below meth c H locs cells slots Q (F0 m pc ls (.int x :: .int i :: va_rf (zo H0 sp p) :: st.map (zv (zo H0 sp))))
  rw [zo_hi hlo]
  exact W.iast hF.1 hF.2.1 h9 ((hK.1.2 0 _ rfl).1 _ _) (fun z => by cases z) (by rw [arrV_size]; exact hin) rfl rfl hd (zg_ast0 (S1 := uI S p i.toNatClampNeg x) hg (by omega) (by omega) hlo (fun _ => rfl) rfl rfl (fun q hq j => ⟨if_neg (fun z => hq z.1), rfl, rfl⟩) (zav_uI (by omega)) hF hK hP hS hL hr hX kk)
theorem zg_cast {p : Nat} {i x : Int32} (hd : decode M.2.1 pc = .ok (.castore, 1)) (hg : (zT S p).1 = 2) (hin : vp_in i (zT S p).2) (hx : narrow .char (.int x) = .int x) (hp : pc + 1 = pc') (kk : zG X M d pc' L st (uI S p i.toNatClampNeg x) v S') : zG X M d pc L (.int x :: .int i :: .ref p :: st) S v S' := by
  subst hp
  refine ⟨kk.1, fun P l e R s m args below meth c H locs cells slots mc ms Q H0 D cA sp ls hF hK hP hS hL hr hX => ?_⟩
  have hlo := zp_lo hP hg (by omega) (by omega)
  have h9 := (zp_arr hP hg (by omega) (by omega) hlo).2
  show W P l e R s m args below meth c H locs cells slots Q (F0 m pc ls (.int x :: .int i :: va_rf (zo H0 sp p) :: st.map (zv (zo H0 sp))))
  rw [zo_hi hlo]
  exact W.cast hF.1 hF.2.1 h9 ((hK.1.2 1 _ rfl).1 _ _) (fun z => by cases z) (by rw [arrV_size]; exact hin) rfl rfl hd (by rw [hx]; exact zg_ast0 (S1 := uI S p i.toNatClampNeg x) hg (by omega) (by omega) hlo (fun _ => rfl) rfl rfl (fun q hq j => ⟨if_neg (fun z => hq z.1), rfl, rfl⟩) (zav_uI (by omega)) hF hK hP hS hL hr hX kk)
theorem zg_last {p : Nat} {i : Int32} {x : Int64} (hd : decode M.2.1 pc = .ok (.lastore, 1)) (hg : (zT S p).1 = 3) (hin : vp_in i (zT S p).2) (hp : pc + 1 = pc') (kk : zG X M d pc' L st (uL S p i.toNatClampNeg x) v S') : zG X M d pc L (.long x :: .int i :: .ref p :: st) S v S' := by
  subst hp
  refine ⟨kk.1, fun P l e R s m args below meth c H locs cells slots mc ms Q H0 D cA sp ls hF hK hP hS hL hr hX => ?_⟩
  have hlo := zp_lo hP hg (by omega) (by omega)
  have h9 := (zp_arr hP hg (by omega) (by omega) hlo).2
  show W P l e R s m args below meth c H locs cells slots Q (F0 m pc ls (.long x :: .int i :: va_rf (zo H0 sp p) :: st.map (zv (zo H0 sp))))
  rw [zo_hi hlo]
  exact W.last hF.1 hF.2.1 h9 ((hK.1.2 2 _ rfl).1 _ _) (fun z => by cases z) (by rw [arrV_size]; exact hin) rfl rfl hd (zg_ast0 (S1 := uL S p i.toNatClampNeg x) hg (by omega) (by omega) hlo (fun _ => rfl) rfl rfl (fun q hq j => ⟨rfl, if_neg (fun z => hq z.1), rfl⟩) zav_uL hF hK hP hS hL hr hX kk)
theorem zg_aast {p t q : Nat} {i : Int32} (ht : t = 4 ∨ t = 5 ∨ t = 6) (hd : decode M.2.1 pc = .ok (.aastore, 1)) (hg : (zT S p).1 = t) (hin : vp_in i (zT S p).2) (hq : (zT S q).1 = 100 + zel t) (hp : pc + 1 = pc') (kk : zG X M d pc' L st (uR S p i.toNatClampNeg q) v S') : zG X M d pc L (.ref q :: .int i :: .ref p :: st) S v S' := by
  subst hp
  refine ⟨kk.1, fun P l e R s m args below meth c H locs cells slots mc ms Q H0 D cA sp ls hF hK hP hS hL hr hX => ?_⟩
  have hlo := zp_lo hP hg (by omega) (by omega)
  have h9 := (zp_arr hP hg (by omega) (by omega) hlo).2
  obtain ⟨hqlo, hqhi, r, a1, a2, cell, b1, b2, b3, b4⟩ := zp_obj hP hq
  have key := zg_ast0 (k := i.toNatClampNeg) (w := va_rf (zo H0 sp q)) (S1 := uR S p i.toNatClampNeg q) hg (by omega) (by omega) hlo (fun _ => rfl) rfl rfl (fun q2 hq2 j => ⟨rfl, rfl, if_neg (fun z => hq2 z.1)⟩) (zav_uR (by omega)) hF hK hP hS hL hr hX kk
  show W P l e R s m args below meth c H locs cells slots Q (F0 m pc ls (va_rf (zo H0 sp q) :: .int i :: va_rf (zo H0 sp p) :: st.map (zv (zo H0 sp))))
  rw [zo_hi hqlo] at key ⊢
  rw [zo_hi hlo]
  have hcls := (hK.1.1 _ r a1).2
  obtain ⟨kC, hkC, hkk⟩ := hcls.2
  have fin : ∀ C : String, r.1 = C → va_RA s (cA t) (.object C) → W P l e R s m args below meth c H locs cells slots Q (F0 m pc ls (va_rf (some (H0.size + (q - 16))) :: .int i :: va_rf (some (H0.size + (p - 16))) :: st.map (zv (zo H0 sp)))) := by
    intro C hC hRA
    obtain ⟨kA, comp, k1, k2, k3, -⟩ := hRA
    rw [← hC] at k3
    have hcomp : comp = D.1 (zel t) := Option.some.inj (k3.symm.trans hcls.1)
    subst hcomp
    exact W.aast hF.1 hF.2.1 h9 (fun q h => by cases h) (fun h => by cases h) k1 k2 rfl hkC ⟨fun z => hin (Or.inl z), by rw [arrV_size]; exact zin_lt hin⟩ b1 (fun q h => by rw [b3] at h; cases h) (by rw [b2]; exact hkC) (by rw [b2]; exact va_assign hcls) rfl rfl hd key
  rcases ht with rfl | rfl | rfl
  · cases a1
    exact fin zr2 rfl (hK.1.2 3 _ rfl).2
  · cases a1
    exact fin zr8 rfl (hK.1.2 4 _ rfl).2
  · cases a1
    exact fin zr5 rfl (hK.1.2 5 _ rfl).2
/-! new cells -/
def zNw (own : String) (idx ci N : Nat) : Prop := ∃ r : vw_C, zcl[ci]? = some r ∧ r.2.2 = N ∧ Cond.classLink own idx r.1 ∈ zw ∧ Cond.instantiable r.1 N ∈ zw ∧ Cond.initialized r.1 ∈ zw ∧ (∀ w ∈ u_ws r.1 r.2.1 r.2.2, w ∈ zw) ∧
  ∃ ty0 : Nat → FieldType, (∀ k, k < r.2.2 → parseFieldDescriptor (r.2.1 k).2.2.1 = some (ty0 k)) ∧ ∀ k, k < N → defaultValue (ty0 k) = if (zkk.getD ci []).getD k false = true then .null else .int 0
theorem zg_new {idx ci N : Nat} (hn : zNw M.1 idx ci N) (hd : decode M.2.1 pc = .ok (.new idx, 3)) (hp : pc + 3 = pc') (kk : zG X M d pc' L (.ref (zN S) :: st) (uN S (100 + ci, N)) v S') : zG X M d pc L st S v S' := by
  subst hp
  obtain ⟨⟨C, T, N'⟩, g1, g2, g3, g4, g5, g6, ty0, g7, g8⟩ := hn
  have g2' : N' = N := g2
  subst g2'
  have m1 : zN S + 1 ≤ zN S' := kk.1.1
  have m2 : zC S + N' ≤ zC S' := kk.1.2
  refine ⟨⟨by omega, by omega⟩, fun P l e R s m args below meth c H locs cells slots mc ms Q H0 D cA sp ls hF hK hP hS hL hr hX => ?_⟩
  have hts := hF.2.2.2.2.1
  have hKn := hK.1.1 ci _ g1
  refine W.newcK hF.1 hF.2.1 hF.2.2.2.1 (hts _ g3) (hts _ g4) (hts _ g5) rfl hd (by omega) (by omega) hKn.2.1 rfl fun H1 kC hkC e1 z1 o1 => ?_
  have hz := hP.2.1
  have h16 := hP.1
  have eT : zT (uN S (100 + ci, N')) (zN S) = (100 + ci, N') := if_pos rfl
  have hP1 : zP H0 D cA sp (uN S (100 + ci, N')) H1 := by
    refine zP_new hP z1 o1 (Or.inr ⟨ci, _, by rw [eT], g1, by rw [eT], ?_⟩)
    rw [← hz]
    refine (u_born ty0 hts g6 hKn hkC e1 g7).to (fun k hk => ?_)
    rw [g8 k hk]
    have hzero := (hP.2.2.2.2.1 (zN S) (Nat.le_refl _)).2 k
    have hz1 : zI (uN S (100 + ci, N')) (zN S) k = 0 := hzero.1
    have hz3 : zR (uN S (100 + ci, N')) (zN S) k = 0 := hzero.2.2
    have hzo0 : zo H0 sp 0 = none := by
      obtain ⟨-, -, -, sa, h0, -⟩ := hK
      rw [zo, if_pos (show 0 < 16 by decide), h0]
    unfold zfv
    rw [hz1, hz3, hzo0]
    rfl
  have hk2 := kk.2 P l e R s m args below meth c H1 locs (cells + 1) (slots + N') mc ms Q H0 D cA sp ls hF hK hP1 hS hL ⟨by show cells + 1 + zN S' = mc + (zN S + 1); omega, by show slots + N' + zC S' = ms + (zC S + N'); omega, hr.2.2⟩ hX
  have e9 : zv (zo H0 sp) (.ref (zN S)) = .ref H.size := by
    show va_rf (zo H0 sp (zN S)) = _
    rw [zo_hi h16, hz]
    rfl
  rw [List.map_cons, e9] at hk2
  exact hk2
theorem zg_newa {t : Nat} {at_ : ArrayType} {ty : FieldType} {n : Int32} (ht : newarray.typeOf at_ = ty) (hq : (t = 1 ∧ ty = .int) ∨ (t = 2 ∧ ty = .char) ∨ (t = 3 ∧ ty = .long)) (hw : Cond.arrayClass ty ∈ zw) (hd : decode M.2.1 pc = .ok (.newarray at_, 2)) (hn : ¬ n < 0) (hb : n.toNatClampNeg ≤ 10000) (hp : pc + 2 = pc') (kk : zG X M d pc' L (.ref (zN S) :: st) (uN S (t, n.toNatClampNeg)) v S') : zG X M d pc L (.int n :: st) S v S' := by
  subst hp
  have m1 : zN S + 1 ≤ zN S' := kk.1.1
  have m2 : zC S + n.toNatClampNeg ≤ zC S' := kk.1.2
  refine ⟨⟨by omega, by omega⟩, fun P l e R s m args below meth c H locs cells slots mc ms Q H0 D cA sp ls hF hK hP hS hL hr hX => ?_⟩
  have hts := hF.2.2.2.2.1
  have hcb : componentBytes ty ≤ 8 := by rcases hq with ⟨-, rfl⟩ | ⟨-, rfl⟩ | ⟨-, rfl⟩ <;> decide
  have hmul : n.toNatClampNeg * componentBytes ty ≤ 10000 * 8 := Nat.mul_le_mul hb hcb
  have hz := hP.2.1
  have h16 := hP.1
  refine va_newaK hF.1 hF.2.1 (atype := at_) (by rw [ht]; exact hts _ hw) rfl hd rfl hn rfl (by rw [ht]; omega) (by omega) (by omega) rfl fun H1 cA' e1 z1 o1 hAr hNm => ?_
  rw [ht] at e1 hNm
  have hcA : cA' = cA t := by
    rcases hq with ⟨rfl, rfl⟩ | ⟨rfl, rfl⟩ | ⟨rfl, rfl⟩
    · exact Option.some.inj (hNm.symm.trans (hK.1.2 0 _ rfl).2)
    · exact Option.some.inj (hNm.symm.trans (hK.1.2 1 _ rfl).2)
    · exact Option.some.inj (hNm.symm.trans (hK.1.2 2 _ rfl).2)
  subst hcA
  have eT : zT (uN S (t, n.toNatClampNeg)) (zN S) = (t, n.toNatClampNeg) := if_pos rfl
  have hP1 : zP H0 D cA sp (uN S (t, n.toNatClampNeg)) H1 := by
    refine zP_new hP z1 o1 (Or.inl ?_)
    rw [eT, ← hz]
    refine ⟨by show 0 < t; rcases hq with ⟨h, -⟩ | ⟨h, -⟩ | ⟨h, -⟩ <;> omega, by show t < 7; rcases hq with ⟨h, -⟩ | ⟨h, -⟩ | ⟨h, -⟩ <;> omega, ?_⟩
    rw [e1]
    congr 2
    funext j
    have hzero := (hP.2.2.2.2.1 (zN S) (Nat.le_refl _)).2 j
    have hz1 : zI (uN S (t, n.toNatClampNeg)) (zN S) j = 0 := hzero.1
    have hz2 : zL (uN S (t, n.toNatClampNeg)) (zN S) j = 0 := hzero.2.1
    unfold zav
    rw [hz1, hz2]
    rcases hq with ⟨rfl, rfl⟩ | ⟨rfl, rfl⟩ | ⟨rfl, rfl⟩ <;> rfl
  have hk2 := kk.2 P l e R s m args below meth c H1 locs (cells + 1) (slots + n.toNatClampNeg) mc ms Q H0 D cA sp ls hF hK hP1 hS hL ⟨by show cells + 1 + zN S' = mc + (zN S + 1); omega, by show slots + n.toNatClampNeg + zC S' = ms + (zC S + n.toNatClampNeg); omega, hr.2.2⟩ hX
  have e9 : zv (zo H0 sp) (.ref (zN S)) = .ref H.size := by
    show va_rf (zo H0 sp (zN S)) = _
    rw [zo_hi h16, hz]
    rfl
  rw [List.map_cons, e9] at hk2
  exact hk2
theorem zg_anew {t idx : Nat} {C : String} {n : Int32} (hq : (t = 4 ∧ C = zr2) ∨ (t = 5 ∧ C = zr8) ∨ (t = 6 ∧ C = zr5)) (hw : Cond.classLink M.1 idx C ∈ zw) (hd : decode M.2.1 pc = .ok (.anewarray idx, 3)) (hn : ¬ n < 0) (hb : n.toNatClampNeg ≤ 10000) (hp : pc + 3 = pc') (kk : zG X M d pc' L (.ref (zN S) :: st) (uN S (t, n.toNatClampNeg)) v S') : zG X M d pc L (.int n :: st) S v S' := by
  subst hp
  have m1 : zN S + 1 ≤ zN S' := kk.1.1
  have m2 : zC S + n.toNatClampNeg ≤ zC S' := kk.1.2
  refine ⟨⟨by omega, by omega⟩, fun P l e R s m args below meth c H locs cells slots mc ms Q H0 D cA sp ls hF hK hP hS hL hr hX => ?_⟩
  have hts := hF.2.2.2.2.1
  have hz := hP.2.1
  have h16 := hP.1
  have hAO : va_AO C s := by
    rcases hq with ⟨-, rfl⟩ | ⟨-, rfl⟩ | ⟨-, rfl⟩
    · exact hK.2.2.1.1
    · exact hK.2.2.1.2.1
    · exact hK.2.2.1.2.2
  refine W.anew hF.1 hF.2.1 hF.2.2.2.1 (hts _ hw) (va_AO.use hAO) rfl hd rfl hn (by omega) (by omega) (by omega) fun cA' kA comp f1 f2 f3 f4 => ?_
  have hcA : cA' = cA t := by
    rcases hq with ⟨rfl, rfl⟩ | ⟨rfl, rfl⟩ | ⟨rfl, rfl⟩
    · obtain ⟨_, _, -, -, -, q⟩ := (hK.1.2 3 _ rfl).2
      exact Option.some.inj (f1.symm.trans q)
    · obtain ⟨_, _, -, -, -, q⟩ := (hK.1.2 4 _ rfl).2
      exact Option.some.inj (f1.symm.trans q)
    · obtain ⟨_, _, -, -, -, q⟩ := (hK.1.2 5 _ rfl).2
      exact Option.some.inj (f1.symm.trans q)
  subst hcA
  generalize hH1 : H.push ({ cls := cA t, slots := Array.replicate n.toNatClampNeg .null, vm := .none } : Cell) = H1
  have z1 : H1.size = H.size + 1 := by rw [← hH1, Array.size_push]
  have e1 : H1[H.size]? = some (arrV (cA t) n.toNatClampNeg (fun _ => .null)) := by rw [← hH1, Array.getElem?_push_size, ← arrV_new]
  have o1 : ∀ q : Nat, q < H.size → H1[q]? = H[q]? := fun q hq => by rw [← hH1, Array.getElem?_push, if_neg (Nat.ne_of_lt hq)]
  have eT : zT (uN S (t, n.toNatClampNeg)) (zN S) = (t, n.toNatClampNeg) := if_pos rfl
  have hP1 : zP H0 D cA sp (uN S (t, n.toNatClampNeg)) H1 := by
    refine zP_new hP z1 o1 (Or.inl ?_)
    rw [eT, ← hz]
    refine ⟨by show 0 < t; rcases hq with ⟨h, -⟩ | ⟨h, -⟩ | ⟨h, -⟩ <;> omega, by show t < 7; rcases hq with ⟨h, -⟩ | ⟨h, -⟩ | ⟨h, -⟩ <;> omega, ?_⟩
    rw [e1]
    congr 2
    funext j
    have hz3 : zR (uN S (t, n.toNatClampNeg)) (zN S) j = 0 := ((hP.2.2.2.2.1 (zN S) (Nat.le_refl _)).2 j).2.2
    have hzo0 : zo H0 sp 0 = none := by
      obtain ⟨-, -, -, sa, h0, -⟩ := hK
      rw [zo, if_pos (show 0 < 16 by decide), h0]
    rw [zav_r (by show 3 < t; rcases hq with ⟨h, -⟩ | ⟨h, -⟩ | ⟨h, -⟩ <;> omega), hz3, hzo0]
    rfl
  have hk2 := kk.2 P l e R s m args below meth c H1 locs (cells + 1) (slots + n.toNatClampNeg) mc ms Q H0 D cA sp ls hF hK hP1 hS hL ⟨by show cells + 1 + zN S' = mc + (zN S + 1); omega, by show slots + n.toNatClampNeg + zC S' = ms + (zC S + n.toNatClampNeg); omega, hr.2.2⟩ hX
  have e9 : zv (zo H0 sp) (.ref (zN S)) = .ref H.size := by
    show va_rf (zo H0 sp (zN S)) = _
    rw [zo_hi h16, hz]
    rfl
  rw [List.map_cons, e9] at hk2
  exact hk2
end ZA
