section ZCP
variable {X : zXt} {M : zQ} {d pc pc' : Nat} {L L' : List (Option Value)} {st st' : List Value} {S S1 : zS} {v : Option Value} {S' : zS}
theorem znn {z : Int32} (hz : ¬ z < 0) : z.toInt = (z.toNatClampNeg : Int) := by
  have hz0 : (0 : Int) ≤ z.toInt := by
    have := Int32.not_lt.mp hz
    simpa using Int32.le_iff_toInt_le.mp this
  show z.toInt = ((z.toInt.toNat : Nat) : Int)
  omega
/-- System.arraycopy over two of our rows of whole numbers (or one) -/
theorem zg_copy0 {α : Type} (mk : α → Value) {t : Nat} {ty : FieldType} (f : zS → Nat → Nat → α) {idx p q : Nat} {a b n : Int32} (ht : 0 < t ∧ t < 7) (hav : ∀ (S : zS) (o : Nat → Option Nat) (p j : Nat), zav o S p t j = mk (f S p j)) (hcls : ∀ {cA : Nat → ClassId}, (zty cA)[t - 1]? = some (cA t, ty)) (hprim : refKind ty = false) (hfit : ∀ z, fits ty (mk z) = true) (hnr : ∀ z x, mk z ≠ .ref x)
    (hw1 : Cond.methodLink M.1 idx arraycopyName ∈ zw) (hw2 : Cond.native arraycopyName ∈ zw) (hw3 : Cond.static arraycopyName ∈ zw) (hw4 : Cond.initialized "java/lang/System" ∈ zw) (hd : decode M.2.1 pc = .ok (.invokestatic idx, 3)) (hdd : 1 ≤ d) (hrest : (st.map fun v => v.category).sum ≤ 8)
    (hgp : (zT S p).1 = t) (hp : 16 ≤ p) (hgq : (zT S q).1 = t) (hq : 16 ≤ q) (h1 : ¬ a < 0) (h2 : ¬ b < 0) (h3 : ¬ n < 0) (h4 : a.toNatClampNeg + n.toNatClampNeg ≤ (zT S p).2) (h5 : b.toNatClampNeg + n.toNatClampNeg ≤ (zT S q).2)
    (hT : ∀ r, zT S1 r = zT S r) (hN : zN S1 = zN S) (hC : zC S1 = zC S) (ho : ∀ r, r ≠ q → ∀ j, zI S1 r j = zI S r j ∧ zL S1 r j = zL S r j ∧ zR S1 r j = zR S r j) (hv : ∀ j, f S1 q j = va_cpy (f S p) (f S q) a.toNatClampNeg b.toNatClampNeg n.toNatClampNeg j)
    (kk : zG X M d (pc + 3) L st S1 v S') : zG X M d pc L (.int n :: .int b :: .ref q :: .int a :: .ref p :: st) S v S' := by
  refine ⟨by rw [← hN, ← hC]; exact kk.1, fun P l e R s m args below meth c H locs cells slots mc ms Q H0 D cA sp ls hF hK hP hS hL hr hX => ?_⟩
  have hts := hF.2.2.2.2.1
  obtain ⟨hpN, hc0⟩ := zp_arr hP hgp ht.1 ht.2 hp
  obtain ⟨hqN, hc1⟩ := zp_arr hP hgq ht.1 ht.2 hq
  have e0 : zav (zo H0 sp) S p t = fun j => mk (f S p j) := funext fun j => hav S _ p j
  have e1 : zav (zo H0 sp) S q t = fun j => mk (f S q j) := funext fun j => hav S _ q j
  rw [e0] at hc0
  rw [e1] at hc1
  show W P l e R s m args below meth c H locs cells slots Q (F0 m pc ls (.int n :: .int b :: va_rf (zo H0 sp q) :: .int a :: va_rf (zo H0 sp p) :: st.map (zv (zo H0 sp))))
  rw [zo_hi hp, zo_hi hq]
  obtain ⟨-, k0, hk0, cm0, hkk0⟩ := (hK.1.2 _ _ hcls).1 (zT S p).2 (fun j => mk (f S p j))
  obtain ⟨-, k1, hk1, cm1, hkk1⟩ := (hK.1.2 _ _ hcls).1 (zT S q).2 (fun j => mk (f S q j))
  have hc8 := zcat_sum (o := zo H0 sp) hrest
  have hfr := hF.2.2.2.2.2.2.1
  have hlo := hF.2.2.2.2.2.2.2
  intro T hTT XX
  obtain ⟨vm', X', step⟩ := XX.arraycopy hF.1 hF.2.2.2.1 (hts _ hw1) (hts _ hw2) (hts _ hw3) (hts _ hw4) (src := H0.size + (p - 16)) (dst := H0.size + (q - 16)) (cs := arrV (cA t) (zT S p).2 (fun j => mk (f S p j))) (cd := arrV (cA t) (zT S q).2 (fun j => mk (f S q j))) (srcPos := a) (destPos := b) (n := n) (by rw [hTT]; exact hc0) (by rw [hTT]; exact hc1)
    (fun _ h => by cases h) (fun _ h => by cases h) (fun h => by cases h) (fun h => by cases h) hk0 hk1 hkk0 hkk1 (by simp [hprim]) h1 h2 h3
    (by rw [znn h1, znn h3, arrV_size]; omega)
    (by rw [znn h2, znn h3, arrV_size]; omega)
    (fun vm₁ _ i hi => by
      have e : (arrV (cA t) (zT S p).2 (fun j => mk (f S p j))).slots.getD (a.toNatClampNeg + i) .null = mk (f S p (a.toNatClampNeg + i)) := by
        rw [Array.getD_eq_getD_getElem?, arrV_read _ _ (by omega)]
        rfl
      rw [e]
      refine ⟨hfit _, ?_⟩
      have hh := hnr (f S p (a.toNatClampNeg + i))
      cases hm : mk (f S p (a.toNatClampNeg + i)) with
      | ref x => exact absurd hm (hh x)
      | _ => exact trivial)
    (g := F0 m pc ls (.int n :: .int b :: .ref (H0.size + (q - 16)) :: .int a :: .ref (H0.size + (p - 16)) :: st.map (zv (zo H0 sp)))) rfl (by rw [hF.2.2.1]; exact hL.1) (rest := st.map (zv (zo H0 sp))) rfl (by rw [hF.2.1]; exact hd) (by omega) (by
      have e9 : nativeFrameWords "java/lang/System" "arraycopy" 5 ≤ 30 := by decide
      show 2 * 0 + _ + _ ≤ _
      omega)
  have e2 : copied (arrV (cA t) (zT S p).2 (fun j => mk (f S p j))) (arrV (cA t) (zT S q).2 (fun j => mk (f S q j))) a b n = arrV (cA t) (zT S q).2 (zav (zo H0 sp) S1 q t) := by
    refine (va_copied (n1 := (zT S q).2) (dp := b.toNatClampNeg) mk (cA t) (cA t) (f S p) (f S q) h4).trans ?_
    congr 1
    funext j
    rw [hav, hv]
  rw [e2] at X' step
  have hl : H0.size + (q - 16) < H.size := (Array.getElem?_eq_some_iff.mp hc1).1
  generalize hcell : arrV (cA t) (zT S q).2 (zav (zo H0 sp) S1 q t) = cell at X' step
  have hheap : ((T.setVm vm').setCell (H0.size + (q - 16)) cell).heap = H.setIfInBounds (H0.size + (q - 16)) cell := by rw [← hTT]; rfl
  have oq : ∀ r : Nat, r ≠ H0.size + (q - 16) → (H.setIfInBounds (H0.size + (q - 16)) cell)[r]? = H[r]? := fun r hr => by simp [Array.getElem?_setIfInBounds, Ne.symm hr]
  have hP1 : zP H0 D cA sp S1 (H.setIfInBounds (H0.size + (q - 16)) cell) := zP_put hP hq hqN hT hN ho (by simp) oq (Or.inl ⟨by rw [hT, hgq]; exact ht.1, by rw [hT, hgq]; exact ht.2, by
    rw [hT, hgq, hcell]
    simp [Array.getElem?_setIfInBounds, hl]⟩)
  obtain ⟨t9, a1, b1⟩ := kk.2 P l e R s m args below meth c (H.setIfInBounds (H0.size + (q - 16)) cell) _ cells slots mc ms Q H0 D cA sp ls hF hK hP1 (fun r hr => by
    rcases List.mem_append.mp hr with h | h
    · exact hS r h
    · obtain ⟨z, -, hz⟩ := List.mem_map.mp h
      rw [← hz]
      exact Nat.le_add_right _ _) hL (by rw [hN, hC]; exact hr) hX _ hheap X'
  exact ⟨t9, step t9 a1, b1⟩
theorem zg_copyI {idx p q : Nat} {a b n : Int32} (hw1 : Cond.methodLink M.1 idx arraycopyName ∈ zw) (hw2 : Cond.native arraycopyName ∈ zw) (hw3 : Cond.static arraycopyName ∈ zw) (hw4 : Cond.initialized "java/lang/System" ∈ zw) (hd : decode M.2.1 pc = .ok (.invokestatic idx, 3)) (hdd : 1 ≤ d) (hrest : (st.map fun v => v.category).sum ≤ 8)
    (hgp : (zT S p).1 = 1) (hpl : 16 ≤ p) (hgq : (zT S q).1 = 1) (hql : 16 ≤ q) (h1 : ¬ a < 0) (h2 : ¬ b < 0) (h3 : ¬ n < 0) (h4 : a.toNatClampNeg + n.toNatClampNeg ≤ (zT S p).2) (h5 : b.toNatClampNeg + n.toNatClampNeg ≤ (zT S q).2) (hp : pc + 3 = pc')
    (kk : zG X M d pc' L st (kI S p a.toNatClampNeg q b.toNatClampNeg n.toNatClampNeg) v S') : zG X M d pc L (.int n :: .int b :: .ref q :: .int a :: .ref p :: st) S v S' := by
  subst hp
  refine zg_copy0 (S1 := kI S p a.toNatClampNeg q b.toNatClampNeg n.toNatClampNeg) (fun z : Int32 => .int z) (t := 1) (ty := .int) zI ⟨by decide, by decide⟩ (fun S o p j => zav_i (by decide)) rfl rfl (fun z => rfl) (fun z x h => by cases h) hw1 hw2 hw3 hw4 hd hdd hrest hgp hpl hgq hql h1 h2 h3 h4 h5 (fun _ => rfl) rfl rfl (fun r hr j => ⟨if_neg (fun z => hr z.1), rfl, rfl⟩) (fun j => ?_) kk
  show (if q = q ∧ _ then _ else _) = va_cpy _ _ _ _ _ _
  unfold va_cpy
  by_cases hc : b.toNatClampNeg ≤ j ∧ j < b.toNatClampNeg + n.toNatClampNeg
  · rw [if_pos ⟨rfl, hc⟩, if_pos hc]
    rfl
  · rw [if_neg (fun z => hc z.2), if_neg hc]
    rfl
theorem zg_copyL {idx p q : Nat} {a b n : Int32} (hw1 : Cond.methodLink M.1 idx arraycopyName ∈ zw) (hw2 : Cond.native arraycopyName ∈ zw) (hw3 : Cond.static arraycopyName ∈ zw) (hw4 : Cond.initialized "java/lang/System" ∈ zw) (hd : decode M.2.1 pc = .ok (.invokestatic idx, 3)) (hdd : 1 ≤ d) (hrest : (st.map fun v => v.category).sum ≤ 8)
    (hgp : (zT S p).1 = 3) (hpl : 16 ≤ p) (hgq : (zT S q).1 = 3) (hql : 16 ≤ q) (h1 : ¬ a < 0) (h2 : ¬ b < 0) (h3 : ¬ n < 0) (h4 : a.toNatClampNeg + n.toNatClampNeg ≤ (zT S p).2) (h5 : b.toNatClampNeg + n.toNatClampNeg ≤ (zT S q).2) (hp : pc + 3 = pc')
    (kk : zG X M d pc' L st (kL S p a.toNatClampNeg q b.toNatClampNeg n.toNatClampNeg) v S') : zG X M d pc L (.int n :: .int b :: .ref q :: .int a :: .ref p :: st) S v S' := by
  subst hp
  refine zg_copy0 (S1 := kL S p a.toNatClampNeg q b.toNatClampNeg n.toNatClampNeg) (fun z : Int64 => .long z) (t := 3) (ty := .long) zL ⟨by decide, by decide⟩ (fun S o p j => zav_l) rfl rfl (fun z => rfl) (fun z x h => by cases h) hw1 hw2 hw3 hw4 hd hdd hrest hgp hpl hgq hql h1 h2 h3 h4 h5 (fun _ => rfl) rfl rfl (fun r hr j => ⟨rfl, if_neg (fun z => hr z.1), rfl⟩) (fun j => ?_) kk
  show (if q = q ∧ _ then _ else _) = va_cpy _ _ _ _ _ _
  unfold va_cpy
  by_cases hc : b.toNatClampNeg ≤ j ∧ j < b.toNatClampNeg + n.toNatClampNeg
  · rw [if_pos ⟨rfl, hc⟩, if_pos hc]
    rfl
  · rw [if_neg (fun z => hc z.2), if_neg hc]
    rfl
end ZCP
