section ZB
variable {X : zXt} {M : zQ} {d pc pc' : Nat} {L L' : List (Option Value)} {st st' : List Value} {S S1 : zS} {v : Option Value} {S' : zS}
theorem zg_if_eq {x : Int32} {off : Int} {tgt : Nat} (hd : decode M.2.1 pc = .ok (.ifCond .eq off, 3)) (ht : (pc : Int) + off = (tgt : Int)) (hp : pc + 3 = pc') (h1 : x = 0 → zG X M d tgt L st S v S') (h2 : ¬ x = 0 → zG X M d pc' L st S v S') : zG X M d pc L (.int x :: st) S v S' := by
  subst hp
  by_cases hc : x = 0
  · exact zg_s (pc' := tgt) (fun p l e R s m args below meth c H locs cells slots Q o ls hx hb w => lv_if_eq hx hb hd ht (fun _ => w) (fun q => absurd hc q)) (h1 hc)
  · exact zg_s (pc' := pc + 3) (fun p l e R s m args below meth c H locs cells slots Q o ls hx hb w => lv_if_eq hx hb hd ht (fun q => absurd q hc) (fun _ => w)) (h2 hc)

theorem zg_icmp_eq {x y : Int32} {off : Int} {tgt : Nat} (hd : decode M.2.1 pc = .ok (.if_icmp .eq off, 3)) (ht : (pc : Int) + off = (tgt : Int)) (hp : pc + 3 = pc') (h1 : x = y → zG X M d tgt L st S v S') (h2 : ¬ x = y → zG X M d pc' L st S v S') : zG X M d pc L (.int y :: .int x :: st) S v S' := by
  subst hp
  by_cases hc : x = y
  · exact zg_s (pc' := tgt) (fun p l e R s m args below meth c H locs cells slots Q o ls hx hb w => lv_icmp_eq hx hb hd ht (fun _ => w) (fun q => absurd hc q)) (h1 hc)
  · exact zg_s (pc' := pc + 3) (fun p l e R s m args below meth c H locs cells slots Q o ls hx hb w => lv_icmp_eq hx hb hd ht (fun q => absurd q hc) (fun _ => w)) (h2 hc)

theorem zg_if_ne {x : Int32} {off : Int} {tgt : Nat} (hd : decode M.2.1 pc = .ok (.ifCond .ne off, 3)) (ht : (pc : Int) + off = (tgt : Int)) (hp : pc + 3 = pc') (h1 : ¬ x = 0 → zG X M d tgt L st S v S') (h2 : x = 0 → zG X M d pc' L st S v S') : zG X M d pc L (.int x :: st) S v S' := by
  subst hp
  by_cases hc : x = 0
  · exact zg_s (pc' := pc + 3) (fun p l e R s m args below meth c H locs cells slots Q o ls hx hb w => lv_if_ne hx hb hd ht (fun q => absurd hc q) (fun _ => w)) (h2 hc)
  · exact zg_s (pc' := tgt) (fun p l e R s m args below meth c H locs cells slots Q o ls hx hb w => lv_if_ne hx hb hd ht (fun _ => w) (fun q => absurd q hc)) (h1 hc)

theorem zg_icmp_ne {x y : Int32} {off : Int} {tgt : Nat} (hd : decode M.2.1 pc = .ok (.if_icmp .ne off, 3)) (ht : (pc : Int) + off = (tgt : Int)) (hp : pc + 3 = pc') (h1 : ¬ x = y → zG X M d tgt L st S v S') (h2 : x = y → zG X M d pc' L st S v S') : zG X M d pc L (.int y :: .int x :: st) S v S' := by
  subst hp
  by_cases hc : x = y
  · exact zg_s (pc' := pc + 3) (fun p l e R s m args below meth c H locs cells slots Q o ls hx hb w => lv_icmp_ne hx hb hd ht (fun q => absurd hc q) (fun _ => w)) (h2 hc)
  · exact zg_s (pc' := tgt) (fun p l e R s m args below meth c H locs cells slots Q o ls hx hb w => lv_icmp_ne hx hb hd ht (fun _ => w) (fun q => absurd q hc)) (h1 hc)

theorem zg_if_lt {x : Int32} {off : Int} {tgt : Nat} (hd : decode M.2.1 pc = .ok (.ifCond .lt off, 3)) (ht : (pc : Int) + off = (tgt : Int)) (hp : pc + 3 = pc') (h1 : x < 0 → zG X M d tgt L st S v S') (h2 : ¬ x < 0 → zG X M d pc' L st S v S') : zG X M d pc L (.int x :: st) S v S' := by
  subst hp
  by_cases hc : x < 0
  · exact zg_s (pc' := tgt) (fun p l e R s m args below meth c H locs cells slots Q o ls hx hb w => lv_if_lt hx hb hd ht (fun _ => w) (fun q => absurd hc q)) (h1 hc)
  · exact zg_s (pc' := pc + 3) (fun p l e R s m args below meth c H locs cells slots Q o ls hx hb w => lv_if_lt hx hb hd ht (fun q => absurd q hc) (fun _ => w)) (h2 hc)

theorem zg_icmp_lt {x y : Int32} {off : Int} {tgt : Nat} (hd : decode M.2.1 pc = .ok (.if_icmp .lt off, 3)) (ht : (pc : Int) + off = (tgt : Int)) (hp : pc + 3 = pc') (h1 : x < y → zG X M d tgt L st S v S') (h2 : ¬ x < y → zG X M d pc' L st S v S') : zG X M d pc L (.int y :: .int x :: st) S v S' := by
  subst hp
  by_cases hc : x < y
  · exact zg_s (pc' := tgt) (fun p l e R s m args below meth c H locs cells slots Q o ls hx hb w => lv_icmp_lt hx hb hd ht (fun _ => w) (fun q => absurd hc q)) (h1 hc)
  · exact zg_s (pc' := pc + 3) (fun p l e R s m args below meth c H locs cells slots Q o ls hx hb w => lv_icmp_lt hx hb hd ht (fun q => absurd q hc) (fun _ => w)) (h2 hc)

theorem zg_if_ge {x : Int32} {off : Int} {tgt : Nat} (hd : decode M.2.1 pc = .ok (.ifCond .ge off, 3)) (ht : (pc : Int) + off = (tgt : Int)) (hp : pc + 3 = pc') (h1 : 0 ≤ x → zG X M d tgt L st S v S') (h2 : ¬ 0 ≤ x → zG X M d pc' L st S v S') : zG X M d pc L (.int x :: st) S v S' := by
  subst hp
  by_cases hc : 0 ≤ x
  · exact zg_s (pc' := tgt) (fun p l e R s m args below meth c H locs cells slots Q o ls hx hb w => lv_if_ge hx hb hd ht (fun _ => w) (fun q => absurd hc q)) (h1 hc)
  · exact zg_s (pc' := pc + 3) (fun p l e R s m args below meth c H locs cells slots Q o ls hx hb w => lv_if_ge hx hb hd ht (fun q => absurd q hc) (fun _ => w)) (h2 hc)

theorem zg_icmp_ge {x y : Int32} {off : Int} {tgt : Nat} (hd : decode M.2.1 pc = .ok (.if_icmp .ge off, 3)) (ht : (pc : Int) + off = (tgt : Int)) (hp : pc + 3 = pc') (h1 : y ≤ x → zG X M d tgt L st S v S') (h2 : ¬ y ≤ x → zG X M d pc' L st S v S') : zG X M d pc L (.int y :: .int x :: st) S v S' := by
  subst hp
  by_cases hc : y ≤ x
  · exact zg_s (pc' := tgt) (fun p l e R s m args below meth c H locs cells slots Q o ls hx hb w => lv_icmp_ge hx hb hd ht (fun _ => w) (fun q => absurd hc q)) (h1 hc)
  · exact zg_s (pc' := pc + 3) (fun p l e R s m args below meth c H locs cells slots Q o ls hx hb w => lv_icmp_ge hx hb hd ht (fun q => absurd q hc) (fun _ => w)) (h2 hc)

theorem zg_if_gt {x : Int32} {off : Int} {tgt : Nat} (hd : decode M.2.1 pc = .ok (.ifCond .gt off, 3)) (ht : (pc : Int) + off = (tgt : Int)) (hp : pc + 3 = pc') (h1 : 0 < x → zG X M d tgt L st S v S') (h2 : ¬ 0 < x → zG X M d pc' L st S v S') : zG X M d pc L (.int x :: st) S v S' := by
  subst hp
  by_cases hc : 0 < x
  · exact zg_s (pc' := tgt) (fun p l e R s m args below meth c H locs cells slots Q o ls hx hb w => lv_if_gt hx hb hd ht (fun _ => w) (fun q => absurd hc q)) (h1 hc)
  · exact zg_s (pc' := pc + 3) (fun p l e R s m args below meth c H locs cells slots Q o ls hx hb w => lv_if_gt hx hb hd ht (fun q => absurd q hc) (fun _ => w)) (h2 hc)

theorem zg_icmp_gt {x y : Int32} {off : Int} {tgt : Nat} (hd : decode M.2.1 pc = .ok (.if_icmp .gt off, 3)) (ht : (pc : Int) + off = (tgt : Int)) (hp : pc + 3 = pc') (h1 : y < x → zG X M d tgt L st S v S') (h2 : ¬ y < x → zG X M d pc' L st S v S') : zG X M d pc L (.int y :: .int x :: st) S v S' := by
  subst hp
  by_cases hc : y < x
  · exact zg_s (pc' := tgt) (fun p l e R s m args below meth c H locs cells slots Q o ls hx hb w => lv_icmp_gt hx hb hd ht (fun _ => w) (fun q => absurd hc q)) (h1 hc)
  · exact zg_s (pc' := pc + 3) (fun p l e R s m args below meth c H locs cells slots Q o ls hx hb w => lv_icmp_gt hx hb hd ht (fun q => absurd q hc) (fun _ => w)) (h2 hc)

theorem zg_if_le {x : Int32} {off : Int} {tgt : Nat} (hd : decode M.2.1 pc = .ok (.ifCond .le off, 3)) (ht : (pc : Int) + off = (tgt : Int)) (hp : pc + 3 = pc') (h1 : x ≤ 0 → zG X M d tgt L st S v S') (h2 : ¬ x ≤ 0 → zG X M d pc' L st S v S') : zG X M d pc L (.int x :: st) S v S' := by
  subst hp
  by_cases hc : x ≤ 0
  · exact zg_s (pc' := tgt) (fun p l e R s m args below meth c H locs cells slots Q o ls hx hb w => lv_if_le hx hb hd ht (fun _ => w) (fun q => absurd hc q)) (h1 hc)
  · exact zg_s (pc' := pc + 3) (fun p l e R s m args below meth c H locs cells slots Q o ls hx hb w => lv_if_le hx hb hd ht (fun q => absurd q hc) (fun _ => w)) (h2 hc)

theorem zg_icmp_le {x y : Int32} {off : Int} {tgt : Nat} (hd : decode M.2.1 pc = .ok (.if_icmp .le off, 3)) (ht : (pc : Int) + off = (tgt : Int)) (hp : pc + 3 = pc') (h1 : x ≤ y → zG X M d tgt L st S v S') (h2 : ¬ x ≤ y → zG X M d pc' L st S v S') : zG X M d pc L (.int y :: .int x :: st) S v S' := by
  subst hp
  by_cases hc : x ≤ y
  · exact zg_s (pc' := tgt) (fun p l e R s m args below meth c H locs cells slots Q o ls hx hb w => lv_icmp_le hx hb hd ht (fun _ => w) (fun q => absurd hc q)) (h1 hc)
  · exact zg_s (pc' := pc + 3) (fun p l e R s m args below meth c H locs cells slots Q o ls hx hb w => lv_icmp_le hx hb hd ht (fun q => absurd q hc) (fun _ => w)) (h2 hc)

theorem zg_goto {off : Int} {tgt : Nat} (hd : decode M.2.1 pc = .ok (.goto off, 3)) (ht : (pc : Int) + off = (tgt : Int)) (k : zG X M d tgt L st S v S') : zG X M d pc L st S v S' :=
  zg_s (fun p l e R s m args below meth c H locs cells slots Q o ls hx hb w => lv_goto hx hb hd ht w) k
/-- a switch: where its table leads -/
theorem zg_look {dflt : Int} {ps : Array (Int × Int)} {len : Nat} {x : Int32} {off : Int} {tgt : Nat} (hd : decode M.2.1 pc = .ok (.lookupswitch dflt ps, len)) (hp : (ps.toList.zip (ps.toList.drop 1)).all (fun (a, next) => a.1 < next.1) = true) (ho : Op.lookupswitch.offset ps.toList dflt x.toInt = off) (ht : (pc : Int) + off = (tgt : Int)) (k : zG X M d tgt L st S v S') : zG X M d pc L (.int x :: st) S v S' :=
  zg_s (fun p l e R s m args below meth c H locs cells slots Q o ls hx hb w => lv_lookup hx hb hd hp ho ht w) k
theorem zsw_off (dflt : Int) {x : Int32} : ∀ (ps : List (Int × Int)) (ks : List Int32), ps.map (fun q => q.1) = ks.map (fun k => k.toInt) → (∀ k ∈ ks, ¬ x = k) → Op.lookupswitch.offset ps dflt x.toInt = dflt
  | [], _, _, _ => rfl
  | (a, o) :: r, [], h, _ => by simp at h
  | (a, o) :: r, k :: ks, h, hn => by
    simp only [List.map_cons, List.cons.injEq] at h
    rw [lv_osw (hn k List.mem_cons_self) h.1.symm]
    exact zsw_off dflt r ks h.2 (fun k' hk => hn k' (List.mem_cons_of_mem _ hk))
theorem zg_lookD (ks : List Int32) {dflt : Int} {ps : Array (Int × Int)} {len : Nat} {x : Int32} {tgt : Nat} (hd : decode M.2.1 pc = .ok (.lookupswitch dflt ps, len)) (hp : (ps.toList.zip (ps.toList.drop 1)).all (fun (a, next) => a.1 < next.1) = true) (hk : ps.toList.map (fun q => q.1) = ks.map (fun k => k.toInt)) (hn : ∀ k ∈ ks, ¬ x = k) (ht : (pc : Int) + dflt = (tgt : Int)) (k : zG X M d tgt L st S v S') : zG X M d pc L (.int x :: st) S v S' :=
  zg_look hd hp (zsw_off dflt _ ks hk hn) ht k
theorem zg_tableI {dflt lo hi : Int} {offs : Array Int} {len : Nat} {x : Int32} {off : Int} {tgt : Nat} (hd : decode M.2.1 pc = .ok (.tableswitch dflt lo hi offs, len)) (h1 : ¬ x.toInt < lo) (h2 : ¬ hi < x.toInt) (ho : offs[(x.toInt - lo).toNat]? = some off) (ht : (pc : Int) + off = (tgt : Int)) (k : zG X M d tgt L st S v S') : zG X M d pc L (.int x :: st) S v S' :=
  zg_s (fun p l e R s m args below meth c H locs cells slots Q o ls hx hb w => lv_tableIn hx hb hd h1 h2 ho ht w) k
theorem zg_tableD (ks : List Int32) {dflt lo hi : Int} {offs : Array Int} {len : Nat} {x : Int32} {tgt : Nat} (hd : decode M.2.1 pc = .ok (.tableswitch dflt lo hi offs, len)) (hk : ks.map (fun k => k.toInt) = (List.range (hi - lo + 1).toNat).map (fun (i : Nat) => lo + (i : Int))) (hn : ∀ k ∈ ks, ¬ x = k) (ht : (pc : Int) + dflt = (tgt : Int)) (k : zG X M d tgt L st S v S') : zG X M d pc L (.int x :: st) S v S' := by
  refine zg_s (fun p l e R s m args below meth c H locs cells slots Q o ls hx hb w => lv_tableOut hx hb hd ?_ ht w) k
  rcases Classical.em (x.toInt < lo ∨ hi < x.toInt) with h | h
  · exact h
  · exfalso
    have h1 : lo ≤ x.toInt := by omega
    have h2 : x.toInt ≤ hi := by omega
    have hm : x.toInt ∈ ks.map (fun k => k.toInt) := by
      rw [hk]
      exact List.mem_map.mpr ⟨(x.toInt - lo).toNat, List.mem_range.mpr (by omega), by omega⟩
    obtain ⟨k, hk1, hk2⟩ := List.mem_map.mp hm
    exact hn k hk1 (Int32.toInt_inj.mp hk2.symm)
/-! returns -/
theorem zg_end {w : Option Value} (hd : decode M.2.1 pc = .ok (zri w, 1)) (hn : zrt M.2.2.2.1 w) (hst : st = w.toList) : zG X M d pc L st S w S := by
  subst hst
  refine ⟨⟨Nat.le_refl _, Nat.le_refl _⟩, fun p l e R s m args below meth c H locs cells slots mc ms Q H0 D cA sp ls hF hK hP hS hL hr hX => ?_⟩
  have h1 := hX pc ls H locs hn hd hP hS
  have e1 : cells = mc := by omega
  have e2 : slots = ms := by omega
  subst e1; subst e2
  cases w with
  | none => exact h1
  | some w => exact h1
theorem zg_iret {x : Int32} (hd : decode M.2.1 pc = .ok (.ireturn, 1)) (hn : zrt M.2.2.2.1 (some (.int x))) : zG X M d pc L [.int x] S (some (.int x)) S := zg_end hd hn rfl
theorem zg_lret {x : Int64} (hd : decode M.2.1 pc = .ok (.lreturn, 1)) (hn : zrt M.2.2.2.1 (some (.long x))) : zG X M d pc L [.long x] S (some (.long x)) S := zg_end hd hn rfl
theorem zg_vret (hd : decode M.2.1 pc = .ok (.return_, 1)) (hn : zrt M.2.2.2.1 none) : zG X M d pc L [] S none S := zg_end hd hn rfl
theorem zrt_i {x : Int32} : zrt (some .int) (some (.int x)) := ⟨.int, rfl, rfl⟩
theorem zrt_l {x : Int64} : zrt (some .long) (some (.long x)) := rfl
theorem zrt_z {x : Int32} (h : x = 0 ∨ x = 1) : zrt (some .boolean) (some (.int x)) := ⟨.boolean, rfl, by rcases h with rfl | rfl <;> decide⟩
theorem zrt_b {x : Int32} (h : x = 0) : zrt (some .byte) (some (.int x)) := ⟨.byte, rfl, by subst h; decide⟩
theorem zrt_c {x : Int32} (h : (x.toUInt32 % 65536).toInt32 = x) : zrt (some .char) (some (.int x)) := ⟨.char, rfl, by rw [← h]; exact pk_nc x⟩
end ZB
/-! cells of places -/
section ZM
variable {X : zXt} {H0 H : Heap} {D : va_G} {cA : Nat → ClassId} {sp : Nat → Option Nat} {S : zS} {s : State}
theorem zp_obj {p ci : Nat} (hP : zP H0 D cA sp S H) (h : (zT S p).1 = 100 + ci) : 16 ≤ p ∧ p < zN S ∧ ∃ r : vw_C, zcl[ci]? = some r ∧ r.2.2 = (zT S p).2 ∧ t_OB (H0.size + (p - 16)) (D.1 ci) r.2.2 (D.2 ci) H (zfv (zo H0 sp) S p ci) := by
  obtain ⟨h1, h2, h3, h4, h5, h6⟩ := hP
  have hlo : 16 ≤ p := by
    rcases Nat.lt_or_ge p 16 with q | q
    · have a1 := zs0T_lt p
      rw [← (h6 p q).1] at a1
      omega
    · exact q
  have hhi : p < zN S := by
    rcases Nat.lt_or_ge p (zN S) with q | q
    · exact q
    · rw [(h5 p q).1] at h
      simp at h
      omega
  refine ⟨hlo, hhi, ?_⟩
  rcases h4 p hlo hhi with ⟨a1, a2, -⟩ | ⟨c2, r, a1, a2, a3, a4⟩
  · omega
  · have e : c2 = ci := by omega
    subst e
    exact ⟨r, a2, a3, a4⟩
theorem zp_arr {p t : Nat} (hP : zP H0 D cA sp S H) (h : (zT S p).1 = t) (h0 : 0 < t) (h7 : t < 7) (hp : 16 ≤ p) : p < zN S ∧ H[H0.size + (p - 16)]? = some (arrV (cA t) (zT S p).2 (zav (zo H0 sp) S p t)) := by
  obtain ⟨h1, h2, h3, h4, h5, h6⟩ := hP
  have hhi : p < zN S := by
    rcases Nat.lt_or_ge p (zN S) with q | q
    · exact q
    · rw [(h5 p q).1] at h
      simp at h
      omega
  refine ⟨hhi, ?_⟩
  rcases h4 p hp hhi with ⟨a1, a2, a3⟩ | ⟨c2, r, a1, -⟩
  · rw [h] at a3; exact a3
  · omega
theorem zp_lo {p t : Nat} (hP : zP H0 D cA sp S H) (h : (zT S p).1 = t) (h1 : 1 < t) (h7 : t < 7) : 16 ≤ p := by
  rcases Nat.lt_or_ge p 16 with q | q
  · have a := (hP.2.2.2.2.2 p q).1
    rw [a] at h
    exact (zs0T_m p (by omega) (by omega)).elim
  · exact q
/-- reading a row of ints, ours or a static one -/
theorem zp_ints {p : Nat} (hP : zP H0 D cA sp S H) (hK : zK X H0 D cA sp s) (h : (zT S p).1 = 1) : ∃ (a : Nat) (cell : Cell), zo H0 sp p = some a ∧ H[a]? = some cell ∧ s.isArrayOf cell .int ∧ cell.vm ≠ .unknown ∧ (zT S p).2 ≤ cell.slots.size ∧ cell.slots.size.toInt32 = Int32.ofNat (zT S p).2 ∧ ∀ j, j < (zT S p).2 → cell.slots[j]? = some (.int (zI S p j)) := by
  rcases Nat.lt_or_ge p 16 with q | q
  · obtain ⟨h1, h2, h3, h4, h5, h6⟩ := hP
    obtain ⟨e1, e2⟩ := h6 p q
    obtain ⟨-, -, -, sa, -, hsa, -, ⟨t1, t2⟩, -⟩ := hK
    have hz : (zs0T p).1 = 1 := by rw [← e1]; exact h
    rcases zs0T_1 p hz with rfl | rfl
    · obtain ⟨cell, b1, b2, b3, b4, b5, b6, b7⟩ := t1
      have ha : sa 1 < H0.size := (Array.getElem?_eq_some_iff.mp b1).1
      refine ⟨sa 1, cell, by rw [zo, if_pos q]; exact hsa 1 (by omega) (by omega), by rw [h3 _ ha]; exact b1, b2, b3, by rw [e1]; exact b4, by rw [e1]; exact b5, fun j hj => ?_⟩
      rw [(e2 j).1]
      exact b6 j (by rw [e1] at hj; exact hj)
    · obtain ⟨cell, b1, b2, b3, b4, b5, b6, b7⟩ := t2
      have ha : sa 2 < H0.size := (Array.getElem?_eq_some_iff.mp b1).1
      refine ⟨sa 2, cell, by rw [zo, if_pos q]; exact hsa 2 (by omega) (by omega), by rw [h3 _ ha]; exact b1, b2, b3, by rw [e1]; exact b4, by rw [e1]; exact b5, fun j hj => ?_⟩
      rw [(e2 j).1]
      exact b6 j (by rw [e1] at hj; exact hj)
  · have h9 := (zp_arr hP h (by omega) (by omega) q).2
    refine ⟨_, _, zo_hi q, h9, (hK.1.2 0 _ rfl).1 _ _, (fun z => by cases z), (by rw [arrV_size]; exact Nat.le_refl _), (by rw [arrV_size] <;> rfl), fun j hj => ?_⟩
    rw [arrV_read _ _ hj]
    rfl
/-- the bytes of a text constant -/
theorem zp_bytes {p : Nat} (hP : zP H0 D cA sp S H) (hK : zK X H0 D cA sp s) (h : (zT S p).1 = 8) : ∃ (a : Nat) (cell : Cell), zo H0 sp p = some a ∧ H[a]? = some cell ∧ s.isArrayOf cell .byte ∧ cell.vm ≠ .unknown ∧ (zT S p).2 ≤ cell.slots.size ∧ cell.slots.size.toInt32 = Int32.ofNat (zT S p).2 ∧ ∀ j, j < (zT S p).2 → cell.slots[j]? = some (.int (zI S p j)) := by
  rcases Nat.lt_or_ge p 16 with q | q
  · obtain ⟨h1, h2, h3, h4, h5, h6⟩ := hP
    obtain ⟨e1, e2⟩ := h6 p q
    obtain ⟨-, -, -, sa, -, hsa, -, -, ⟨k1, -⟩, -⟩ := hK
    have hz : (zs0T p).1 = 8 := by rw [← e1]; exact h
    have key : ∀ (i : Nat), i < 3 → p = 7 + i → (zs0T p).2 = [4, 5, 4].getD i 0 → (∀ j, zs0I p j = (zby.getD i []).getD j 0) → ∃ (a : Nat) (cell : Cell), zo H0 sp p = some a ∧ H[a]? = some cell ∧ s.isArrayOf cell .byte ∧ cell.vm ≠ .unknown ∧ (zT S p).2 ≤ cell.slots.size ∧ cell.slots.size.toInt32 = Int32.ofNat (zT S p).2 ∧ ∀ j, j < (zT S p).2 → cell.slots[j]? = some (.int (zI S p j)) := by
      intro i hi hp hn hv
      obtain ⟨-, -, -, cell, b1, b2, b3, b4, b5, b6, b7⟩ := k1 i hi
      have ha : sa (7 + i) < H0.size := (Array.getElem?_eq_some_iff.mp b1).1
      refine ⟨sa (7 + i), cell, by rw [zo, if_pos q, hp]; exact hsa _ (by omega) (by omega), by rw [h3 _ ha]; exact b1, b2, b3, by rw [e1, hn]; exact b4, by rw [e1, hn]; exact b5, fun j hj => ?_⟩
      rw [(e2 j).1, hv j]
      exact b6 j (by rw [e1, hn] at hj; exact hj)
    rcases zs0T_8 p hz with rfl | rfl | rfl
    · exact key 0 (by omega) rfl rfl (fun j => rfl)
    · exact key 1 (by omega) rfl rfl (fun j => rfl)
    · exact key 2 (by omega) rfl rfl (fun j => rfl)
  · obtain ⟨h1, h2, h3, h4, h5, h6⟩ := hP
    rcases Nat.lt_or_ge p (zN S) with r | r
    · rcases h4 p q r with ⟨a1, a2, -⟩ | ⟨c2, r, a1, -⟩ <;> omega
    · rw [(h5 p r).1] at h
      simp at h
end ZM
