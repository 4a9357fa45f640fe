section ZU
variable {S : zS} {p q j k i n : Nat}
theorem zI_uI {x : Int32} : zI (uI S p j x) q k = if q = p ∧ k = j then x else zI S q k := rfl
theorem zL_uI {x : Int32} : zL (uI S p j x) q k = zL S q k := rfl
theorem zR_uI {x : Int32} : zR (uI S p j x) q k = zR S q k := rfl
theorem zT_uI {x : Int32} : zT (uI S p j x) q = zT S q := rfl
theorem zN_uI {x : Int32} : zN (uI S p j x) = zN S := rfl
theorem zC_uI {x : Int32} : zC (uI S p j x) = zC S := rfl
theorem zI_uL {x : Int64} : zI (uL S p j x) q k = zI S q k := rfl
theorem zL_uL {x : Int64} : zL (uL S p j x) q k = if q = p ∧ k = j then x else zL S q k := rfl
theorem zR_uL {x : Int64} : zR (uL S p j x) q k = zR S q k := rfl
theorem zT_uL {x : Int64} : zT (uL S p j x) q = zT S q := rfl
theorem zN_uL {x : Int64} : zN (uL S p j x) = zN S := rfl
theorem zC_uL {x : Int64} : zC (uL S p j x) = zC S := rfl
theorem zI_uR {x : Nat} : zI (uR S p j x) q k = zI S q k := rfl
theorem zL_uR {x : Nat} : zL (uR S p j x) q k = zL S q k := rfl
theorem zR_uR {x : Nat} : zR (uR S p j x) q k = if q = p ∧ k = j then x else zR S q k := rfl
theorem zT_uR {x : Nat} : zT (uR S p j x) q = zT S q := rfl
theorem zN_uR {x : Nat} : zN (uR S p j x) = zN S := rfl
theorem zC_uR {x : Nat} : zC (uR S p j x) = zC S := rfl
end ZU
/-! a cell is written: the rest of the memory is as it was -/
section ZW
variable {H0 H H1 : Heap} {D : va_G} {cA : Nat → ClassId} {sp : Nat → Option Nat} {S S1 : zS}
theorem zat_same {o : Nat → Option Nat} {p a : Nat} (h : zat D cA o S H p a) (hT : zT S1 p = zT S p) (hI : ∀ j, zI S1 p j = zI S p j) (hL : ∀ j, zL S1 p j = zL S p j) (hR : ∀ j, zR S1 p j = zR S p j) (hH : H1[a]? = H[a]?) : zat D cA o S1 H1 p a := by
  have e1 : ∀ t, zav o S1 p t = zav o S p t := fun t => by
    funext j
    unfold zav
    rw [hI, hL, hR]
  have e2 : ∀ ci, zfv o S1 p ci = zfv o S p ci := fun ci => by
    funext j
    unfold zfv
    rw [hI, hR]
  unfold zat
  rw [hT, e1, hH]
  rcases h with ⟨h1, h2, h3⟩ | ⟨ci, r, h1, h2, h3, h4⟩
  · exact Or.inl ⟨h1, h2, h3⟩
  · exact Or.inr ⟨ci, r, h1, h2, h3, by rw [e2]; exact h4.kept hH⟩
/-- one place changes, its shape stays -/
theorem zP_put {p : Nat} (hP : zP H0 D cA sp S H) (hp : 16 ≤ p) (hpN : p < zN S) (hT : ∀ q, zT S1 q = zT S q) (hN : zN S1 = zN S) (ho : ∀ q, q ≠ p → ∀ j, zI S1 q j = zI S q j ∧ zL S1 q j = zL S q j ∧ zR S1 q j = zR S q j)
    (hz : H1.size = H.size) (hk : ∀ a, a ≠ H0.size + (p - 16) → H1[a]? = H[a]?) (hc : zat D cA (zo H0 sp) S1 H1 p (H0.size + (p - 16))) : zP H0 D cA sp S1 H1 := by
  obtain ⟨h1, h2, h3, h4, h5, h6⟩ := hP
  refine ⟨by rw [hN]; exact h1, by rw [hz, hN]; exact h2, fun q hq => by rw [hk q (by omega)]; exact h3 q hq, fun q hq hqN => ?_, fun q hq => ?_, fun q hq => ?_⟩
  · rw [hN] at hqN
    by_cases e : q = p
    · subst e; exact hc
    · have o := ho q e
      exact zat_same (h4 q hq hqN) (hT q) (fun j => (o j).1) (fun j => (o j).2.1) (fun j => (o j).2.2) (hk _ (by omega))
  · rw [hN] at hq
    have e : q ≠ p := by omega
    have o := ho q e
    obtain ⟨g1, g2⟩ := h5 q hq
    exact ⟨by rw [hT]; exact g1, fun j => ⟨by rw [(o j).1]; exact (g2 j).1, by rw [(o j).2.1]; exact (g2 j).2.1, by rw [(o j).2.2]; exact (g2 j).2.2⟩⟩
  · have e : q ≠ p := by omega
    have o := ho q e
    obtain ⟨g1, g2⟩ := h6 q hq
    exact ⟨by rw [hT]; exact g1, fun j => ⟨by rw [(o j).1]; exact (g2 j).1, by rw [(o j).2.2]; exact (g2 j).2⟩⟩
/-- a new place -/
theorem zP_new {t : Nat × Nat} (hP : zP H0 D cA sp S H) (hz : H1.size = H.size + 1) (hk : ∀ a, a < H.size → H1[a]? = H[a]?) (hc : zat D cA (zo H0 sp) (uN S t) H1 (zN S) (H0.size + (zN S - 16))) : zP H0 D cA sp (uN S t) H1 := by
  obtain ⟨h1, h2, h3, h4, h5, h6⟩ := hP
  have eT : ∀ q, q ≠ zN S → zT (uN S t) q = zT S q := fun q hq => if_neg hq
  have eN : zN (uN S t) = zN S + 1 := rfl
  refine ⟨by omega, by rw [hz, h2, eN]; omega, fun q hq => by rw [hk q (by omega)]; exact h3 q hq, fun q hq hqN => ?_, fun q hq => ?_, fun q hq => ?_⟩
  · by_cases e : q = zN S
    · subst e; exact hc
    · exact zat_same (h4 q hq (by omega)) (eT q e) (fun _ => rfl) (fun _ => rfl) (fun _ => rfl) (hk _ (by omega))
  · obtain ⟨g1, g2⟩ := h5 q (by omega)
    exact ⟨by rw [eT q (by omega)]; exact g1, g2⟩
  · obtain ⟨g1, g2⟩ := h6 q hq
    exact ⟨by rw [eT q (by omega)]; exact g1, g2⟩
end ZW
/-! what a field's row of the constant pool says -/
def zir (ty : FieldType) : Bool := match ty with
  | .int => false
  | .boolean => false
  | _ => true
def zir2 (ty : FieldType) : Bool := match ty with
  | .object _ => true
  | .array _ => true
  | _ => false
def zFd (own : String) (idx ci k : Nat) (ty : FieldType) (fin : Bool) : Prop := ∃ r : vw_C, zcl[ci]? = some r ∧ k < r.2.2 ∧ (zkk.getD ci []).getD k false = zir ty ∧ Cond.fieldLink own idx r.1 (r.2.1 k).2.1 (r.2.1 k).2.2.1 ∈ zw ∧ (r.2.1 k).1 = r.1 ∧ (∀ w ∈ u_ws r.1 r.2.1 r.2.2, w ∈ zw) ∧ (r.2.1 k).2.2.2 = fin ∧
  ∃ ty0 : Nat → FieldType, (∀ k, k < r.2.2 → parseFieldDescriptor (r.2.1 k).2.2.1 = some (ty0 k)) ∧ (∀ a, a < r.2.2 → ∀ b, b < r.2.2 → a ≠ b → (r.2.1 a).2.1 ≠ (r.2.1 b).2.1) ∧ ty0 k = ty
theorem zfv_uI {o : Nat → Option Nat} {S : zS} {p ci k j : Nat} {x : Int32} (h : (zkk.getD ci []).getD k false = false) : zfv o (uI S p k x) p ci j = updV (zfv o S p ci) k (.int x) j := by
  unfold updV
  by_cases hj : j = k
  · subst hj
    rw [if_pos rfl]
    unfold zfv
    rw [h]
    simp [zI, uI]
  · rw [if_neg hj]
    unfold zfv
    simp [zI, uI, zR, hj]
theorem zfv_uR {o : Nat → Option Nat} {S : zS} {p ci k j x : Nat} (h : (zkk.getD ci []).getD k false = true) : zfv o (uR S p k x) p ci j = updV (zfv o S p ci) k (va_rf (o x)) j := by
  unfold updV
  by_cases hj : j = k
  · subst hj
    rw [if_pos rfl]
    unfold zfv
    rw [h]
    simp [zR, uR]
  · rw [if_neg hj]
    unfold zfv
    simp [zI, uR, zR, hj]
section ZF
variable {X : zXt} {M : zQ} {d pc pc' : Nat} {L L' : List (Option Value)} {st st' : List Value} {S S1 : zS} {v : Option Value} {S' : zS}
theorem zg_get0 {idx ci k p : Nat} {ty : FieldType} {fin : Bool} {w : Value} (hf : zFd M.1 idx ci k ty fin) (hd : decode M.2.1 pc = .ok (.getfield idx, 3)) (hg : (zT S p).1 = 100 + ci) (hw : ∀ o, zfv o S p ci k = zv o w) (kk : zG X M d (pc + 3) L (w :: st) S v S') : zG X M d pc L (.ref p :: st) S v S' := by
  obtain ⟨⟨C, T, N⟩, g1, g2, g3, g4, g5, g6, g7, ty0, g8, g9, g10⟩ := hf
  refine ⟨kk.1, fun P l e R s m args below meth c H locs cells slots mc ms Q H0 D cA sp ls hF hK hP hS hL hr hX => ?_⟩
  obtain ⟨hlo, hhi, r, a1, a2, cell, b1, b2, b3, b4⟩ := zp_obj hP hg
  cases g1.symm.trans a1
  obtain ⟨hSl, hfc, kC, hkC, hkind⟩ := hK.1.1 ci _ g1
  obtain ⟨cf, kf, fi, f, hi, hsl⟩ := hSl k g2
  have hk2 := kk.2 P l e R s m args below meth c H locs cells slots mc ms Q H0 D cA sp ls hF hK hP hS hL hr hX
  show W P l e R s m args below meth c H locs cells slots Q (F0 m pc ls (va_rf (zo H0 sp p) :: st.map (zv (zo H0 sp))))
  rw [zo_hi hlo]
  have hi2 : s.fieldFound? C (T k).2.1 (T k).2.2.1 = some (cf, kf, fi, f) := by
    have e5 : (T k).1 = C := g5
    rw [e5] at hi
    exact hi
  refine W.getf hF.1 hF.2.1 hF.2.2.2.1 (hF.2.2.2.2.1 _ g4) hi2 (u_facts hfc hkC (u_lays hF.2.2.2.2.1 g6 g2) hi).1 b1 (by rw [b3]; exact fun h => by cases h) (v := zv (zo H0 sp) w) ?_ rfl rfl hd hk2
  rw [hsl, b4 k g2, hw]
theorem zg_getI {idx ci k p : Nat} {fin : Bool} (hf : zFd M.1 idx ci k .int fin) (hd : decode M.2.1 pc = .ok (.getfield idx, 3)) (hg : (zT S p).1 = 100 + ci) (hp : pc + 3 = pc') (kk : zG X M d pc' L (.int (zI S p k) :: st) S v S') : zG X M d pc L (.ref p :: st) S v S' := by
  subst hp
  have h3 := hf.choose_spec.2.2.1
  exact zg_get0 hf hd hg (fun o => by show (if _ then _ else _) = _; rw [h3]; rfl) kk
theorem zg_getZ {idx ci k p : Nat} {fin : Bool} (hf : zFd M.1 idx ci k .boolean fin) (hd : decode M.2.1 pc = .ok (.getfield idx, 3)) (hg : (zT S p).1 = 100 + ci) (hp : pc + 3 = pc') (kk : zG X M d pc' L (.int (zI S p k) :: st) S v S') : zG X M d pc L (.ref p :: st) S v S' := by
  subst hp
  have h3 := hf.choose_spec.2.2.1
  exact zg_get0 hf hd hg (fun o => by show (if _ then _ else _) = _; rw [h3]; rfl) kk
theorem zg_getR {idx ci k p : Nat} {ty : FieldType} {fin : Bool} (hf : zFd M.1 idx ci k ty fin) (hy : zir ty = true) (hd : decode M.2.1 pc = .ok (.getfield idx, 3)) (hg : (zT S p).1 = 100 + ci) (hp : pc + 3 = pc') (kk : zG X M d pc' L (.ref (zR S p k) :: st) S v S') : zG X M d pc L (.ref p :: st) S v S' := by
  subst hp
  have h3 := hf.choose_spec.2.2.1
  exact zg_get0 hf hd hg (fun o => by show (if _ then _ else _) = _; rw [h3, hy]; rfl) kk
theorem zg_put0 {idx ci k p : Nat} {ty : FieldType} {fin : Bool} {w : Value} (hf : zFd M.1 idx ci k ty fin) (hd : decode M.2.1 pc = .ok (.putfield idx, 3)) (hg : (zT S p).1 = 100 + ci) (hfin : fin = false ∨ (M.2.2.2.2 = true ∧ ∃ r, zcl[ci]? = some r ∧ r.1 = M.1)) (hn : ∀ o, narrow ty (zv o w) = zv o w ∧ fits ty (zv o w) = true)
    (hT : ∀ q, zT S1 q = zT S q) (hN : zN S1 = zN S) (hC : zC S1 = zC S) (ho : ∀ q, q ≠ p → ∀ j, zI S1 q j = zI S q j ∧ zL S1 q j = zL S q j ∧ zR S1 q j = zR S q j) (hv : ∀ o j, zfv o S1 p ci j = updV (zfv o S p ci) k (zv o w) j) (kk : zG X M d (pc + 3) L st S1 v S') : zG X M d pc L (w :: .ref p :: st) S v S' := by
  obtain ⟨⟨C, T, N⟩, g1, g2, g3, g4, g5, g6, g7, ty0, g8, g9, g10⟩ := hf
  refine ⟨by rw [← hN, ← hC]; exact kk.1, fun P l e R s m args below meth c H locs cells slots mc ms Q H0 D cA sp ls hF hK hP hS hL hr hX => ?_⟩
  obtain ⟨hlo, hhi, r, a1, a2, cell, b1, b2, b3, b4⟩ := zp_obj hP hg
  cases g1.symm.trans a1
  obtain ⟨hSl, hfc, kC, hkC, hkind⟩ := hK.1.1 ci _ g1
  obtain ⟨cf, kf, fi, f, hi, hsl⟩ := hSl k g2
  have hts := hF.2.2.2.2.1
  have hap := va_apart (own := M.1) hts g6 ty0 g8 g9 hK.1 g1
  have hlay := hts _ (g6 _ (u_in_lay g2))
  have hst := (u_facts hfc hkC (u_lays hts g6 g2) hi).1
  have hd0 : parseFieldDescriptor (T k).2.2.1 = some ty := by rw [← g10]; exact g8 k g2
  obtain ⟨hn1, hn2⟩ := hn (zo H0 sp)
  have e5 : (T k).1 = C := g5
  have hi2 : s.fieldFound? C (T k).2.1 (T k).2.2.1 = some (cf, kf, fi, f) := by
    rw [e5] at hi
    exact hi
  have hslot : f.slot < cell.slots.size := by rw [hsl]; exact k2_hasslot (b4 k g2)
  have fin0 : ∀ H1 : Heap, H1[H0.size + (p - 16)]? = some (cell.setSlot f.slot (zv (zo H0 sp) w)) → H1.size = H.size → (∀ q, q ≠ H0.size + (p - 16) → H1[q]? = H[q]?) → zP H0 D cA sp S1 H1 := by
    intro H1 e1 e2 e3
    refine zP_put hP hlo hhi hT hN ho e2 e3 (Or.inr ⟨ci, _, by rw [hT]; exact hg, g1, by rw [hT]; exact a2, ?_⟩)
    rw [hsl] at e1
    exact t_OB.to (V := updV (zfv (zo H0 sp) S p ci) k (zv (zo H0 sp) w)) ⟨_, e1, b2, b3, t_set b4 hap g2 _⟩ (fun j _ => (hv (zo H0 sp) j).symm)
  have hr2 : cells + zN S' = mc + zN S1 ∧ slots + zC S' = ms + zC S1 ∧ mc ≤ R.cells ∧ ms ≤ R.slots := by rw [hN, hC]; exact hr
  have fin1 : ∀ H1 : Heap, H1[H0.size + (p - 16)]? = some (cell.setSlot f.slot (zv (zo H0 sp) w)) → H1.size = H.size → (∀ q, q ≠ H0.size + (p - 16) → H1[q]? = H[q]?) → W P l e R s m args below meth c H1 (locs ++ [⟨H0.size + (p - 16), f.slot⟩]) cells slots Q (F0 m (pc + 3) ls (st.map (zv (zo H0 sp)))) := by
    intro H1 e1 e2 e3
    refine kk.2 P l e R s m args below meth c H1 _ cells slots mc ms Q H0 D cA sp ls hF hK (fin0 H1 e1 e2 e3) (fun q hq => ?_) hL hr2 hX
    rcases List.mem_append.mp hq with h | h
    · exact hS q h
    · rw [List.mem_singleton.mp h]
      exact Nat.le_add_right _ _
  show W P l e R s m args below meth c H locs cells slots Q (F0 m pc ls (zv (zo H0 sp) w :: va_rf (zo H0 sp p) :: st.map (zv (zo H0 sp))))
  rw [zo_hi hlo]
  unfold u_lay at hlay
  cases fin with
  | false =>
    rw [if_neg (by rw [show (T k).2.2.2 = false from g7]; decide)] at hlay
    exact W.putK hF.1 hF.2.1 (f := f) ⟨hF.2.2.2.1, hts _ g4, ⟨_, _, _, hi2⟩, hst⟩ (by rw [b2]; exact u_store hfc hkC hkind hlay hi hd0 hn1 hn2) b1 b3 hslot rfl rfl hd fin1
  | true =>
    rw [if_pos (show (T k).2.2.2 = true from g7)] at hlay
    rcases hfin with hfin | ⟨hin, r9, q1, q2⟩
    · cases hfin
    · cases g1.symm.trans q1
      have hcf : m.cls = cf := by
        obtain ⟨_, _, c', _, _, _, -, -, hf', -, -, -, hown2, -⟩ := Cond.laysFinal_spec hlay
        have e1 : c' = cf := by have := hi.symm.trans hf'; simp at this; exact this.1.symm
        rw [e5] at hown2
        have q3 : C = M.1 := q2
        rw [q3] at hown2
        rw [← e1]; exact Option.some.inj (hF.2.2.2.1.symm.trans hown2)
      exact W.putFinK hF.1 hF.2.1 hF.2.2.2.1 (hts _ g4) hi2 hst hcf (hF.2.2.2.2.2.1 hin) (by rw [b2]; exact u_fits hfc hkC hkind (Or.inr hlay) hi hd0 hn1 hn2) b1 b3 hslot rfl rfl hd fin1
theorem zg_putI {idx ci k p : Nat} {fin : Bool} {x : Int32} (hf : zFd M.1 idx ci k .int fin) (hd : decode M.2.1 pc = .ok (.putfield idx, 3)) (hfin : fin = false ∨ (M.2.2.2.2 = true ∧ ∃ r, zcl[ci]? = some r ∧ r.1 = M.1)) (hg : (zT S p).1 = 100 + ci) (hp : pc + 3 = pc') (kk : zG X M d pc' L st (uI S p k x) v S') : zG X M d pc L (.int x :: .ref p :: st) S v S' := by
  subst hp
  have h3 := hf.choose_spec.2.2.1
  exact zg_put0 (S1 := uI S p k x) hf hd hg hfin (fun o => ⟨rfl, rfl⟩) (fun _ => rfl) rfl rfl (fun q hq j => ⟨if_neg (fun z => hq z.1), rfl, rfl⟩) (fun o j => zfv_uI h3) kk
theorem zg_putZ {idx ci k p : Nat} {fin : Bool} {x : Int32} (hf : zFd M.1 idx ci k .boolean fin) (hd : decode M.2.1 pc = .ok (.putfield idx, 3)) (hfin : fin = false ∨ (M.2.2.2.2 = true ∧ ∃ r, zcl[ci]? = some r ∧ r.1 = M.1)) (hg : (zT S p).1 = 100 + ci) (hx : x = 0 ∨ x = 1) (hp : pc + 3 = pc') (kk : zG X M d pc' L st (uI S p k x) v S') : zG X M d pc L (.int x :: .ref p :: st) S v S' := by
  subst hp
  have h3 := hf.choose_spec.2.2.1
  have hn : narrow .boolean (.int x) = .int x ∧ fits .boolean (.int x) = true := by rcases hx with rfl | rfl <;> exact ⟨by decide, by decide⟩
  exact zg_put0 (S1 := uI S p k x) hf hd hg hfin (fun o => hn) (fun _ => rfl) rfl rfl (fun q hq j => ⟨if_neg (fun z => hq z.1), rfl, rfl⟩) (fun o j => zfv_uI h3) kk
theorem zg_putR {idx ci k p q : Nat} {ty : FieldType} {fin : Bool} (hf : zFd M.1 idx ci k ty fin) (hy : zir2 ty = true) (hd : decode M.2.1 pc = .ok (.putfield idx, 3)) (hfin : fin = false ∨ (M.2.2.2.2 = true ∧ ∃ r, zcl[ci]? = some r ∧ r.1 = M.1)) (hg : (zT S p).1 = 100 + ci) (hp : pc + 3 = pc') (kk : zG X M d pc' L st (uR S p k q) v S') : zG X M d pc L (.ref q :: .ref p :: st) S v S' := by
  subst hp
  have h3 := hf.choose_spec.2.2.1
  have h4 : (zkk.getD ci []).getD k false = true := by
    rw [h3]
    cases ty <;> first | rfl | cases hy
  refine zg_put0 (S1 := uR S p k q) hf hd hg hfin (fun o => ?_) (fun _ => rfl) rfl rfl (fun q2 hq j => ⟨rfl, rfl, if_neg (fun z => hq z.1)⟩) (fun o j => zfv_uR h4) kk
  show narrow ty (va_rf (o q)) = va_rf (o q) ∧ fits ty (va_rf (o q)) = true
  cases ty <;> first | (cases o q <;> exact ⟨rfl, rfl⟩) | cases hy
end ZF
