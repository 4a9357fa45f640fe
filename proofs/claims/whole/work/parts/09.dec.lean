/-! what the decompiled functions are made of -/
def gd {α : Type} (b : Bool) (r : Option α) : Option α := match b with
  | true => r
  | false => none
theorem gd_some {α : Type} {b : Bool} {r : Option α} {x : α} (h : gd b r = some x) : b = true ∧ r = some x := by
  cases b with
  | true => exact ⟨rfl, h⟩
  | false => cases h
def br {α : Type} (b : Bool) (x y : α) : α := match b with
  | true => x
  | false => y
theorem br_some {α : Type} {c : Prop} [i : Decidable c] {x y r : α} (h : br (decide c) x y = r) : (c ∧ x = r) ∨ (¬ c ∧ y = r) := by
  by_cases hc : c
  · rw [decide_eq_true hc] at h
    exact Or.inl ⟨hc, h⟩
  · rw [decide_eq_false hc] at h
    exact Or.inr ⟨hc, h⟩
def bq {α β : Type} (r : Option (α × zS)) (k : α → zS → Option β) : Option β := match r with
  | none => none
  | some q => k q.1 q.2
theorem bq_some {α β : Type} {r : Option (α × zS)} {k : α → zS → Option β} {x : β} (h : bq r k = some x) : ∃ a S1, r = some (a, S1) ∧ k a S1 = some x := by
  cases r with
  | none => cases h
  | some q => exact ⟨q.1, q.2, rfl, h⟩
def bv {β : Type} (r : Option zS) (k : zS → Option β) : Option β := match r with
  | none => none
  | some q => k q
theorem bv_some {β : Type} {r : Option zS} {k : zS → Option β} {x : β} (h : bv r k = some x) : ∃ S1, r = some S1 ∧ k S1 = some x := by
  cases r with
  | none => cases h
  | some q => exact ⟨q, rfl, h⟩
theorem rt_q {α : Type} {a v : α} {S S' : zS} (h : some (a, S) = some (v, S')) : v = a ∧ S' = S := by
  injection h with h
  injection h with h1 h2
  exact ⟨h1.symm, h2.symm⟩
theorem rt_v {S S' : zS} (h : some S = some S') : S' = S := by
  injection h with h
  exact h.symm
def nm {α β : Type} (a : α) (f : α → β) : β := f a
theorem nm_some {α β : Type} {a : α} {f : α → β} {r : β} (h : nm a f = r) : ∃ x, x = a ∧ f x = r := ⟨a, rfl, h⟩
def lp {σ ρ : Type} (step : (σ → Option ρ) → σ → Option ρ) : Nat → σ → Option ρ
  | 0, _ => none
  | n + 1, s => step (lp step n) s
theorem lp_ind {σ ρ : Type} {P : σ → Prop} {step : (σ → Option ρ) → σ → Option ρ} {r : ρ} (hs : ∀ k : σ → Option ρ, (∀ s, k s = some r → P s) → ∀ s, step k s = some r → P s) : ∀ (n : Nat) (s : σ), lp step n s = some r → P s
  | 0, s, h => by cases h
  | n + 1, s, h => hs _ (lp_ind hs n) s h
theorem lp_indh {σ ρ : Type} {step : (σ → Option ρ) → σ → Option ρ} {n : Nat} {s : σ} {r : ρ} (h : lp step n s = some r) {P : σ → Prop} (hs : ∀ k : σ → Option ρ, (∀ s, k s = some r → P s) → ∀ s, step k s = some r → P s) : P s := lp_ind hs n s h
theorem lp_rec {σ ρ : Type} {P : Nat → σ → ρ → Prop} {step : (σ → Option ρ) → σ → Option ρ} (hs : ∀ (n : Nat) (k : σ → Option ρ), (∀ s r, k s = some r → P n s r) → ∀ s r, step k s = some r → P (n + 1) s r) : ∀ (n : Nat) (s : σ) (r : ρ), lp step n s = some r → P n s r
  | 0, s, r, h => by cases h
  | n + 1, s, r, h => hs n _ (lp_rec hs n) s r h
def gT (S : zS) (p t : Nat) : Bool := Nat.beq (zT S p).1 t
theorem gT_ok {S : zS} {p t : Nat} (h : gT S p t = true) : (zT S p).1 = t := Nat.eq_of_beq_eq_true h
def gB (i : Int32) (n : Nat) : Bool := !(decide (i < 0)) && !(Nat.ble n i.toNatClampNeg)
theorem gB_ok {i : Int32} {n : Nat} (h : gB i n = true) : vp_in i n := by
  unfold gB at h
  simp only [Bool.and_eq_true, Bool.not_eq_true', decide_eq_false_iff_not] at h
  rintro (q | q)
  · exact h.1 q
  · have := Nat.ble_eq_true_of_le q
    rw [h.2] at this
    cases this
def gP (p : Nat) : Bool := Nat.ble 16 p
theorem gP_ok {p : Nat} (h : gP p = true) : 16 ≤ p := Nat.le_of_ble_eq_true h
def gZ (y : Int32) : Bool := !(decide (y = 0))
theorem gZ_ok {y : Int32} (h : gZ y = true) : ¬ y = 0 := by
  unfold gZ at h
  simpa using h
def gZl (y : Int64) : Bool := !(decide (y = 0))
theorem gZl_ok {y : Int64} (h : gZl y = true) : ¬ y = 0 := by
  unfold gZl at h
  simpa using h
def gZo (x : Int32) : Bool := decide (x = 0) || decide (x = 1)
theorem gZo_ok {x : Int32} (h : gZo x = true) : x = 0 ∨ x = 1 := by
  unfold gZo at h
  simpa using h
def gC (x : Int32) : Bool := decide ((x.toUInt32 % 65536).toInt32 = x)
theorem gC_ok {x : Int32} (h : gC x = true) : (x.toUInt32 % 65536).toInt32 = x := of_decide_eq_true h
def gE (x : Int32) : Bool := decide (x = 0)
theorem gE_ok {x : Int32} (h : gE x = true) : x = 0 := of_decide_eq_true h
def gN (n : Int32) : Bool := !(decide (n < 0)) && Nat.ble n.toNatClampNeg 10000
theorem gN_ok {n : Int32} (h : gN n = true) : ¬ n < 0 ∧ n.toNatClampNeg ≤ 10000 := by
  unfold gN at h
  simp only [Bool.and_eq_true, Bool.not_eq_true', decide_eq_false_iff_not] at h
  exact ⟨h.1, Nat.le_of_ble_eq_true h.2⟩
/-- what a copy of t-rows asks -/
def gK (S : zS) (t p q : Nat) (a b n : Int32) : Bool := gT S p t && (gP p && (gT S q t && (gP q && (!(decide (a < 0)) && (!(decide (b < 0)) && (!(decide (n < 0)) && (Nat.ble (a.toNatClampNeg + n.toNatClampNeg) (zT S p).2 && Nat.ble (b.toNatClampNeg + n.toNatClampNeg) (zT S q).2)))))))
theorem gK_ok {S : zS} {t p q : Nat} {a b n : Int32} (h : gK S t p q a b n = true) : (zT S p).1 = t ∧ 16 ≤ p ∧ (zT S q).1 = t ∧ 16 ≤ q ∧ ¬ a < 0 ∧ ¬ b < 0 ∧ ¬ n < 0 ∧ a.toNatClampNeg + n.toNatClampNeg ≤ (zT S p).2 ∧ b.toNatClampNeg + n.toNatClampNeg ≤ (zT S q).2 := by
  unfold gK at h
  simp only [Bool.and_eq_true, Bool.not_eq_true', decide_eq_false_iff_not] at h
  obtain ⟨h1, h2, h3, h4, h5, h6, h7, h8, h9⟩ := h
  exact ⟨gT_ok h1, gP_ok h2, gT_ok h3, gP_ok h4, h5, h6, h7, Nat.le_of_ble_eq_true h8, Nat.le_of_ble_eq_true h9⟩
def zcmp (x y : Int64) : Int32 := if x > y then 1 else if x = y then 0 else -1
section ZD
variable {X : zXt} {M : zQ} {d pc pc' : Nat} {L L' : List (Option Value)} {st st' : List Value} {S S1 : zS} {v : Option Value} {S' : zS}
theorem zg_nm (e : S1 = S) (k : zG X M d pc L st S1 v S') : zG X M d pc L st S v S' := e ▸ k
theorem zg_st (e : st = st') (k : zG X M d pc L st' S v S') : zG X M d pc L st S v S' := e ▸ k
theorem zg_lcm {x y : Int64} (hd : decode M.2.1 pc = .ok (.lcmp, 1)) (hp : pc + 1 = pc') (k : zG X M d pc' L (.int (zcmp x y) :: st) S v S') : zG X M d pc L (.long y :: .long x :: st) S v S' := zg_lcmp hd hp k
theorem zg_lookI {dflt : Int} {ps : Array (Int × Int)} {len : Nat} {x : Int32} (z : Int32) {off : Int} {tgt : Nat} (hd : decode M.2.1 pc = .ok (.lookupswitch dflt ps, len)) (hp : (ps.toList.zip (ps.toList.drop 1)).all (fun (a, next) => a.1 < next.1) = true) (hx : x = z) (ho : Op.lookupswitch.offset ps.toList dflt z.toInt = off) (ht : (pc : Int) + off = (tgt : Int)) (k : zG X M d tgt L st S v S') : zG X M d pc L (.int x :: st) S v S' := by
  subst hx
  exact zg_look hd hp ho ht k
theorem zg_tabI {dflt lo hi : Int} {offs : Array Int} {len : Nat} {x : Int32} (z : Int32) {off : Int} {tgt : Nat} (hd : decode M.2.1 pc = .ok (.tableswitch dflt lo hi offs, len)) (hx : x = z) (h1 : ¬ z.toInt < lo) (h2 : ¬ hi < z.toInt) (ho : offs[(z.toInt - lo).toNat]? = some off) (ht : (pc : Int) + off = (tgt : Int)) (k : zG X M d tgt L st S v S') : zG X M d pc L (.int x :: st) S v S' := by
  subst hx
  exact zg_tableI hd h1 h2 ho ht k
theorem zrt_cc {y : Int32} : zrt (some .char) (some (.int (y.toUInt32 % 65536).toInt32)) := ⟨.char, rfl, pk_nc y⟩
end ZD
def zy_Ac_init : MethodName := ⟨"LoofahSaints$Acts", "<init>", "()V"⟩
def zy_Ac_run : MethodName := ⟨"LoofahSaints$Acts", "run", "(LLoofahSaints$Saint;II)I"⟩
def zy_Ac_call : MethodName := ⟨"LoofahSaints$Acts", "call", "(IIII)I"⟩
def zy_Ac_body : MethodName := ⟨"LoofahSaints$Acts", "body", "(IIII)I"⟩
def zy_Ho_init : MethodName := ⟨"LoofahSaints$House", "<init>", "(LLoofahSaints$Order;)V"⟩
def zy_Ho_copy : MethodName := ⟨"LoofahSaints$House", "copy", "(LLoofahSaints$House;)V"⟩
def zy_Ho_has : MethodName := ⟨"LoofahSaints$House", "has", "(I)Z"⟩
def zy_Ho_takes : MethodName := ⟨"LoofahSaints$House", "takes", "(LLoofahSaints$Saint;I)I"⟩
def zy_Ho_scrub : MethodName := ⟨"LoofahSaints$House", "scrub", "(LLoofahSaints$Saint;I)I"⟩
def zy_Ho_goDay : MethodName := ⟨"LoofahSaints$House", "goDay", "()V"⟩
def zy_Ho_goDays : MethodName := ⟨"LoofahSaints$House", "goDays", "(I)V"⟩
def zy_Ho_follow : MethodName := ⟨"LoofahSaints$House", "follow", "(II)V"⟩
def zy_Ho_onAll : MethodName := ⟨"LoofahSaints$House", "onAll", "()I"⟩
def zy_Ho_wearOfAll : MethodName := ⟨"LoofahSaints$House", "wearOfAll", "()I"⟩
def zy_Ho_threads : MethodName := ⟨"LoofahSaints$House", "threads", "()I"⟩
def zy_Ho_isAsSeen : MethodName := ⟨"LoofahSaints$House", "isAsSeen", "(ILLoofahSaints$Saint;I)Z"⟩
def zy_Or_init : MethodName := ⟨"LoofahSaints$Order", "<init>", "(I)V"⟩
def zy_Or_begin : MethodName := ⟨"LoofahSaints$Order", "begin", "()V"⟩
def zy_Or_put : MethodName := ⟨"LoofahSaints$Order", "put", "(II)V"⟩
def zy_Or_sum : MethodName := ⟨"LoofahSaints$Order", "sum", "(LLoofahSaints$Saint;I)I"⟩
def zy_Or_holds : MethodName := ⟨"LoofahSaints$Order", "holds", "(II)Z"⟩
def zy_Or_letter : MethodName := ⟨"LoofahSaints$Order", "letter", "(ILLoofahSaints$Saint;I)I"⟩
def zy_Re_init : MethodName := ⟨"LoofahSaints$Reader", "<init>", "()V"⟩
def zy_Re_reads : MethodName := ⟨"LoofahSaints$Reader", "reads", "(LLoofahSaints$Order;)Z"⟩
def zy_Re_clause : MethodName := ⟨"LoofahSaints$Reader", "clause", "()Z"⟩
def zy_Re_either : MethodName := ⟨"LoofahSaints$Reader", "either", "(I)Z"⟩
def zy_Re_factor : MethodName := ⟨"LoofahSaints$Reader", "factor", "(I)Z"⟩
def zy_Re_test : MethodName := ⟨"LoofahSaints$Reader", "test", "()Z"⟩
def zy_Re_isLetter : MethodName := ⟨"LoofahSaints$Reader", "isLetter", "(I)Z"⟩
def zy_Re_numeral : MethodName := ⟨"LoofahSaints$Reader", "numeral", "()Z"⟩
def zy_Re_isDigit : MethodName := ⟨"LoofahSaints$Reader", "isDigit", "(I)Z"⟩
def zy_Re_word : MethodName := ⟨"LoofahSaints$Reader", "word", "(Ljava/lang/String;)Z"⟩
def zy_Re_eat : MethodName := ⟨"LoofahSaints$Reader", "eat", "(I)Z"⟩
def zy_Re_sign : MethodName := ⟨"LoofahSaints$Reader", "sign", "(I)I"⟩
def zy_Rw_init : MethodName := ⟨"LoofahSaints$Rows", "<init>", "(I)V"⟩
def zy_Rw_clear : MethodName := ⟨"LoofahSaints$Rows", "clear", "()I"⟩
def zy_Rw_add : MethodName := ⟨"LoofahSaints$Rows", "add", "(III)I"⟩
def zy_Rw_cell : MethodName := ⟨"LoofahSaints$Rows", "cell", "(II)I"⟩
def zy_Rw_copy : MethodName := ⟨"LoofahSaints$Rows", "copy", "(LLoofahSaints$Rows;)V"⟩
def zy_Sa_init : MethodName := ⟨"LoofahSaints$Saint", "<init>", "(I)V"⟩
def zy_Sa_begin : MethodName := ⟨"LoofahSaints$Saint", "begin", "(III)V"⟩
def zy_Sa_copy : MethodName := ⟨"LoofahSaints$Saint", "copy", "(LLoofahSaints$Saint;)V"⟩
def zy_Sa_isThread : MethodName := ⟨"LoofahSaints$Saint", "isThread", "()Z"⟩
def zy_Sa_isOf : MethodName := ⟨"LoofahSaints$Saint", "isOf", "(I)Z"⟩
def zy_Sa_grit : MethodName := ⟨"LoofahSaints$Saint", "grit", "(LLoofahSaints$Order;I)I"⟩
def zy_Sa_takes : MethodName := ⟨"LoofahSaints$Saint", "takes", "(II)I"⟩
def zy_Sa_wearBy : MethodName := ⟨"LoofahSaints$Saint", "wearBy", "(I)V"⟩
def zy_Sa_lasts : MethodName := ⟨"LoofahSaints$Saint", "lasts", "(I)I"⟩
def zy_Sa_worn : MethodName := ⟨"LoofahSaints$Saint", "worn", "(IZI)I"⟩
def zy_Sc_init : MethodName := ⟨"LoofahSaints$Scrubbing", "<init>", "()V"⟩
def zy_Sc_choose : MethodName := ⟨"LoofahSaints$Scrubbing", "choose", "(LLoofahSaints$House;II)V"⟩
def zy_Sc_seek : MethodName := ⟨"LoofahSaints$Scrubbing", "seek", "(LLoofahSaints$Scrubbing;LLoofahSaints$House;III)V"⟩
def zy_Sh_init : MethodName := ⟨"LoofahSaints$Sharing", "<init>", "()V"⟩
def zy_Sh_share : MethodName := ⟨"LoofahSaints$Sharing", "share", "(LLoofahSaints$House;I)V"⟩
def zy_Sh_seek : MethodName := ⟨"LoofahSaints$Sharing", "seek", "(LLoofahSaints$Sharing;III)V"⟩
def zy_Sh_givenTo : MethodName := ⟨"LoofahSaints$Sharing", "givenTo", "(I)I"⟩
def zy_Sh_dearest : MethodName := ⟨"LoofahSaints$Sharing", "dearest", "(LLoofahSaints$House;)I"⟩
def zy_Sh_leastWithout : MethodName := ⟨"LoofahSaints$Sharing", "leastWithout", "(LLoofahSaints$House;)I"⟩
def zy_Ta_init : MethodName := ⟨"LoofahSaints$Tape", "<init>", "()V"⟩
def zy_Ta_become : MethodName := ⟨"LoofahSaints$Tape", "become", "(II)V"⟩
def zy_Ta_cut : MethodName := ⟨"LoofahSaints$Tape", "cut", "(J)J"⟩
def zy_Ls_init : MethodName := ⟨"LoofahSaints", "<init>", "()V"⟩
def zy_Ls_saint : MethodName := ⟨"LoofahSaints", "saint", "(III)I"⟩
def zy_Ls_of : MethodName := ⟨"LoofahSaints", "of", "(II)I"⟩
def zy_Ls_set : MethodName := ⟨"LoofahSaints", "set", "(III)I"⟩
def zy_Ls_peg : MethodName := ⟨"LoofahSaints", "peg", "(II)I"⟩
def zy_Ls_novice : MethodName := ⟨"LoofahSaints", "novice", "(III)I"⟩
def zy_Ls_use : MethodName := ⟨"LoofahSaints", "use", "(II)I"⟩
def zy_Ls_row : MethodName := ⟨"LoofahSaints", "row", "(III)I"⟩
def zy_Ls_feed : MethodName := ⟨"LoofahSaints", "feed", "(I)I"⟩
def zy_Ls_order : MethodName := ⟨"LoofahSaints", "order", "()I"⟩
def zy_Ls_told : MethodName := ⟨"LoofahSaints", "told", "(I)I"⟩
def zy_Ls_pass : MethodName := ⟨"LoofahSaints", "pass", "(I)I"⟩
def zy_Ls_on : MethodName := ⟨"LoofahSaints", "on", "(II)I"⟩
def zy_Ls_daysTillClean : MethodName := ⟨"LoofahSaints", "daysTillClean", "(I)I"⟩
def zy_Ls_shared : MethodName := ⟨"LoofahSaints", "shared", "(I)I"⟩
def zy_Ls_scrubbed : MethodName := ⟨"LoofahSaints", "scrubbed", "(III)I"⟩
def zy_Ls_see : MethodName := ⟨"LoofahSaints", "see", "(III)I"⟩
def zy_Ls_holed : MethodName := ⟨"LoofahSaints", "holed", "(II)I"⟩
def zy_Ls_can : MethodName := ⟨"LoofahSaints", "can", "(II)I"⟩
def zy_Ls_odds : MethodName := ⟨"LoofahSaints", "odds", "(III)J"⟩
def zy_Ls_mean : MethodName := ⟨"LoofahSaints", "mean", "(II)J"⟩
def zy_Ls_lowest : MethodName := ⟨"LoofahSaints", "lowest", "(III)J"⟩
def zy_Ls_plan : MethodName := ⟨"LoofahSaints", "plan", "(II)I"⟩
def zy_Ls_ends : MethodName := ⟨"LoofahSaints", "ends", "(I)I"⟩
def zy_Ls_book : MethodName := ⟨"LoofahSaints", "book", "(II)I"⟩
def zy_Ls_looked : MethodName := ⟨"LoofahSaints", "looked", "()I"⟩
def zy_Ls_judge : MethodName := ⟨"LoofahSaints", "judge", "(II)I"⟩
def zy_Ls_image : MethodName := ⟨"LoofahSaints", "image", "()I"⟩
def zy_Ls_undo : MethodName := ⟨"LoofahSaints", "undo", "()I"⟩
def zy_Ls_act : MethodName := ⟨"LoofahSaints", "act", "(III)I"⟩
def zy_Ls_trace : MethodName := ⟨"LoofahSaints", "trace", "(I)I"⟩
def zy_Ls_taken : MethodName := ⟨"LoofahSaints", "taken", "(II)I"⟩
def zy_Ls_count : MethodName := ⟨"LoofahSaints", "count", "(I)I"⟩
def zy_Ls_tape : MethodName := ⟨"LoofahSaints", "tape", "(III)I"⟩
def zy_Ls_item : MethodName := ⟨"LoofahSaints", "item", "(IIJ)I"⟩
def zy_Ls_read : MethodName := ⟨"LoofahSaints", "read", "(II)J"⟩
def zy_Ls_shift : MethodName := ⟨"LoofahSaints", "shift", "(IIIII)I"⟩
def zy_Ls_isNovice : MethodName := ⟨"LoofahSaints", "isNovice", "(I)Z"⟩
def zy_Ls_isSet : MethodName := ⟨"LoofahSaints", "isSet", "(I)Z"⟩
def zy_Ls_isKind : MethodName := ⟨"LoofahSaints", "isKind", "(I)Z"⟩
def zy_Ls_isTape : MethodName := ⟨"LoofahSaints", "isTape", "(I)Z"⟩
def zy_Ls_someone : MethodName := ⟨"LoofahSaints", "someone", "(I)I"⟩
def zy_Mo_init : MethodName := ⟨"LoofahSaintsModel", "<init>", "()V"⟩
def zy_Mo_isIn : MethodName := ⟨"LoofahSaintsModel", "isIn", "(III)Z"⟩
def zy_Mo_move : MethodName := ⟨"LoofahSaintsModel", "move", "([I[I)V"⟩
def zy_Mo_image : MethodName := ⟨"LoofahSaintsModel", "image", "()I"⟩
def zy_Mo_undo : MethodName := ⟨"LoofahSaintsModel", "undo", "()I"⟩
def zy_Mo_isSaint : MethodName := ⟨"LoofahSaintsModel", "isSaint", "(I)Z"⟩
def zy_Mo_isNovice : MethodName := ⟨"LoofahSaintsModel", "isNovice", "(I)Z"⟩
def zy_Mo_isSet : MethodName := ⟨"LoofahSaintsModel", "isSet", "(I)Z"⟩
def zy_Mo_kind : MethodName := ⟨"LoofahSaintsModel", "kind", "(I)I"⟩
def zy_Mo_v : MethodName := ⟨"LoofahSaintsModel", "v", "(I)I"⟩
def zy_Mo_holes : MethodName := ⟨"LoofahSaintsModel", "holes", "(I)I"⟩
def zy_Mo_wear : MethodName := ⟨"LoofahSaintsModel", "wear", "(I)I"⟩
def zy_Mo_isThread : MethodName := ⟨"LoofahSaintsModel", "isThread", "(I)Z"⟩
def zy_Mo_isWet : MethodName := ⟨"LoofahSaintsModel", "isWet", "(I)Z"⟩
def zy_Mo_on : MethodName := ⟨"LoofahSaintsModel", "on", "(I)I"⟩
def zy_Mo_many : MethodName := ⟨"LoofahSaintsModel", "many", "(I)I"⟩
def zy_Mo_saint : MethodName := ⟨"LoofahSaintsModel", "saint", "(III)I"⟩
def zy_Mo_of : MethodName := ⟨"LoofahSaintsModel", "of", "(II)I"⟩
def zy_Mo_set : MethodName := ⟨"LoofahSaintsModel", "set", "(III)I"⟩
def zy_Mo_peg : MethodName := ⟨"LoofahSaintsModel", "peg", "(II)I"⟩
def zy_Mo_novice : MethodName := ⟨"LoofahSaintsModel", "novice", "(III)I"⟩
def zy_Mo_use : MethodName := ⟨"LoofahSaintsModel", "use", "(II)I"⟩
def zy_Mo_row : MethodName := ⟨"LoofahSaintsModel", "row", "(III)I"⟩
def zy_Mo_feed : MethodName := ⟨"LoofahSaintsModel", "feed", "(I)I"⟩
def zy_Mo_isAt : MethodName := ⟨"LoofahSaintsModel", "isAt", "(I)Z"⟩
def zy_Mo_takes : MethodName := ⟨"LoofahSaintsModel", "takes", "(I)V"⟩
def zy_Mo_isDigit : MethodName := ⟨"LoofahSaintsModel", "isDigit", "()Z"⟩
def zy_Mo_number : MethodName := ⟨"LoofahSaintsModel", "number", "()I"⟩
def zy_Mo_test : MethodName := ⟨"LoofahSaintsModel", "test", "()Z"⟩
def zy_Mo_factor : MethodName := ⟨"LoofahSaintsModel", "factor", "()Z"⟩
def zy_Mo_both : MethodName := ⟨"LoofahSaintsModel", "both", "()Z"⟩
def zy_Mo_any : MethodName := ⟨"LoofahSaintsModel", "any", "()Z"⟩
def zy_Mo_clause : MethodName := ⟨"LoofahSaintsModel", "clause", "()V"⟩
def zy_Mo_readAll : MethodName := ⟨"LoofahSaintsModel", "readAll", "()Z"⟩
def zy_Mo_readFor : MethodName := ⟨"LoofahSaintsModel", "readFor", "(I)V"⟩
def zy_Mo_order : MethodName := ⟨"LoofahSaintsModel", "order", "()I"⟩
def zy_Mo_grit : MethodName := ⟨"LoofahSaintsModel", "grit", "(I)I"⟩
def zy_Mo_comesOff : MethodName := ⟨"LoofahSaintsModel", "comesOff", "(II)I"⟩
def zy_Mo_hardNow : MethodName := ⟨"LoofahSaintsModel", "hardNow", "()I"⟩
def zy_Mo_worn : MethodName := ⟨"LoofahSaintsModel", "worn", "(IIZ)I"⟩
def zy_Mo_used : MethodName := ⟨"LoofahSaintsModel", "used", "(II)I"⟩
def zy_Mo_lasts : MethodName := ⟨"LoofahSaintsModel", "lasts", "(I)I"⟩
def zy_Mo_day : MethodName := ⟨"LoofahSaintsModel", "day", "()V"⟩
def zy_Mo_onAll : MethodName := ⟨"LoofahSaintsModel", "onAll", "()I"⟩
def zy_Mo_wears : MethodName := ⟨"LoofahSaintsModel", "wears", "()I"⟩
def zy_Mo_clean : MethodName := ⟨"LoofahSaintsModel", "clean", "(I)I"⟩
def zy_Mo_threads : MethodName := ⟨"LoofahSaintsModel", "threads", "()I"⟩
def zy_Mo_told : MethodName := ⟨"LoofahSaintsModel", "told", "(I)I"⟩
def zy_Mo_pass : MethodName := ⟨"LoofahSaintsModel", "pass", "(I)I"⟩
def zy_Mo_on_ : MethodName := ⟨"LoofahSaintsModel", "on", "(II)I"⟩
def zy_Mo_share : MethodName := ⟨"LoofahSaintsModel", "share", "(IIII)V"⟩
def zy_Mo_shareAll : MethodName := ⟨"LoofahSaintsModel", "shareAll", "(I)I"⟩
def zy_Mo_shared : MethodName := ⟨"LoofahSaintsModel", "shared", "(I)I"⟩
def zy_Mo_dear : MethodName := ⟨"LoofahSaintsModel", "dear", "(Z)I"⟩
def zy_Mo_scrub : MethodName := ⟨"LoofahSaintsModel", "scrub", "(IIII)V"⟩
def zy_Mo_scrubbed : MethodName := ⟨"LoofahSaintsModel", "scrubbed", "(III)I"⟩
def zy_Mo_see : MethodName := ⟨"LoofahSaintsModel", "see", "(III)I"⟩
def zy_Mo_isAllSeen : MethodName := ⟨"LoofahSaintsModel", "isAllSeen", "(I)Z"⟩
def zy_Mo_fits : MethodName := ⟨"LoofahSaintsModel", "fits", "(IIII)I"⟩
def zy_Mo_holed : MethodName := ⟨"LoofahSaintsModel", "holed", "(II)I"⟩
def zy_Mo_can : MethodName := ⟨"LoofahSaintsModel", "can", "(II)I"⟩
def zy_Mo_fraction : MethodName := ⟨"LoofahSaintsModel", "fraction", "(JJI)J"⟩
def zy_Mo_odds : MethodName := ⟨"LoofahSaintsModel", "odds", "(III)J"⟩
def zy_Mo_mean : MethodName := ⟨"LoofahSaintsModel", "mean", "(II)J"⟩
def zy_Mo_plan : MethodName := ⟨"LoofahSaintsModel", "plan", "(II)I"⟩
def zy_Mo_ends : MethodName := ⟨"LoofahSaintsModel", "ends", "(I)I"⟩
def zy_Mo_book : MethodName := ⟨"LoofahSaintsModel", "book", "(II)I"⟩
def zy_Mo_looked : MethodName := ⟨"LoofahSaintsModel", "looked", "()I"⟩
def zy_Mo_body : MethodName := ⟨"LoofahSaintsModel", "body", "(I)I"⟩
def zy_Mo_all : MethodName := ⟨"LoofahSaintsModel", "all", "(III)I"⟩
def zy_Mo_from : MethodName := ⟨"LoofahSaintsModel", "from", "(IIII)I"⟩
def zy_Mo_act : MethodName := ⟨"LoofahSaintsModel", "act", "(III)I"⟩
def zy_Mo_trace : MethodName := ⟨"LoofahSaintsModel", "trace", "(I)I"⟩
def zy_Mo_taken : MethodName := ⟨"LoofahSaintsModel", "taken", "(II)I"⟩
def zy_Mo_count : MethodName := ⟨"LoofahSaintsModel", "count", "(I)I"⟩
def zy_Mo_isTape : MethodName := ⟨"LoofahSaintsModel", "isTape", "(I)Z"⟩
def zy_Mo_tape : MethodName := ⟨"LoofahSaintsModel", "tape", "(III)I"⟩
def zy_Mo_item : MethodName := ⟨"LoofahSaintsModel", "item", "(IIJ)I"⟩
def zy_Mo_read : MethodName := ⟨"LoofahSaintsModel", "read", "(II)J"⟩
def zy_Mo_shift : MethodName := ⟨"LoofahSaintsModel", "shift", "(IIIII)I"⟩
def zy_Mo_judge : MethodName := ⟨"LoofahSaintsModel", "judge", "(II)I"⟩
def zy_Jd_bitCount : MethodName := ⟨"java/lang/Integer", "bitCount", "(I)I"⟩
def zy_Jd_floorMod : MethodName := ⟨"java/lang/Math", "floorMod", "(II)I"⟩
def zy_Jd_max : MethodName := ⟨"java/lang/Math", "max", "(II)I"⟩
def zy_Jd_min : MethodName := ⟨"java/lang/Math", "min", "(II)I"⟩
def zy_Js_length : MethodName := ⟨"java/lang/String", "length", "()I"⟩
def zy_Js_charAt : MethodName := ⟨"java/lang/String", "charAt", "(I)C"⟩
def zy_Js_coder : MethodName := ⟨"java/lang/String", "coder", "()B"⟩
def zy_Js_isLatin1 : MethodName := ⟨"java/lang/String", "isLatin1", "()Z"⟩
def zy_Js_checkIndex : MethodName := ⟨"java/lang/String", "checkIndex", "(II)V"⟩
def zy_Jl_charAt : MethodName := ⟨"java/lang/StringLatin1", "charAt", "([BI)C"⟩
def zy_Jp_checkIndex : MethodName := ⟨"jdk/internal/util/Preconditions", "checkIndex", "(IILjava/util/function/BiFunction;)I"⟩
theorem zc_Ls_11 : zNw "LoofahSaints" 11 2 4 := ⟨(zr2, zt2, 4), rfl, rfl, zq27, zq38, zq3, zi2, zy2, zp2, by decide +kernel⟩
theorem zf_Ls_13 : zFd "LoofahSaints" 13 9 0 (zy9 0) true := ⟨(zr9, zt9, 12), rfl, by decide, rfl, zq289, rfl, zi9, rfl, zy9, zp9, zn9, rfl⟩
theorem zc_Ls_17 : zNw "LoofahSaints" 17 8 3 := ⟨(zr8, zt8, 3), rfl, rfl, zq29, zq270, zq10, zi8, zy8, zp8, by decide +kernel⟩
theorem zf_Ls_19 : zFd "LoofahSaints" 19 9 1 (zy9 1) true := ⟨(zr9, zt9, 12), rfl, by decide, rfl, zq290, rfl, zi9, rfl, zy9, zp9, zn9, rfl⟩
theorem zc_Ls_23 : zNw "LoofahSaints" 23 3 5 := ⟨(zr3, zt3, 5), rfl, rfl, zq31, zq32, zq2, zi3, zy3, zp3, by decide +kernel⟩
theorem zl_Ls_25 : zYn "LoofahSaints" 25 zy_Re_init prog_5_method_1_code 1 (Option.none : Option Jvm.ClassFile.FieldType) 0 := ⟨⟨_, .head _⟩, zq2, zq35, ⟨by decide, by decide, by decide +kernel⟩, by decide⟩
theorem zf_Ls_26 : zFd "LoofahSaints" 26 9 2 (zy9 2) true := ⟨(zr9, zt9, 12), rfl, by decide, rfl, zq291, rfl, zi9, rfl, zy9, zp9, zn9, rfl⟩
theorem zc_Ls_30 : zNw "LoofahSaints" 30 7 5 := ⟨(zr7, zt7, 5), rfl, rfl, zq79, zq80, zq4, zi7, zy7, zp7, by decide +kernel⟩
theorem zl_Ls_32 : zYn "LoofahSaints" 32 zy_Sh_init prog_9_method_1_code 1 (Option.none : Option Jvm.ClassFile.FieldType) 0 := ⟨⟨_, .tail _ (.head _)⟩, zq4, zq83, ⟨by decide, by decide, by decide +kernel⟩, by decide⟩
theorem zf_Ls_33 : zFd "LoofahSaints" 33 9 3 (zy9 3) true := ⟨(zr9, zt9, 12), rfl, by decide, rfl, zq292, rfl, zi9, rfl, zy9, zp9, zn9, rfl⟩
theorem zc_Ls_37 : zNw "LoofahSaints" 37 6 5 := ⟨(zr6, zt6, 5), rfl, rfl, zq102, zq103, zq5, zi6, zy6, zp6, by decide +kernel⟩
theorem zl_Ls_39 : zYn "LoofahSaints" 39 zy_Sc_init prog_8_method_1_code 1 (Option.none : Option Jvm.ClassFile.FieldType) 0 := ⟨⟨_, .tail _ (.tail _ (.head _))⟩, zq5, zq106, ⟨by decide, by decide, by decide +kernel⟩, by decide⟩
theorem zf_Ls_40 : zFd "LoofahSaints" 40 9 4 (zy9 4) true := ⟨(zr9, zt9, 12), rfl, by decide, rfl, zq293, rfl, zi9, rfl, zy9, zp9, zn9, rfl⟩
theorem zc_Ls_44 : zNw "LoofahSaints" 44 0 3 := ⟨(zr0, zt0, 3), rfl, rfl, zq126, zq127, zq6, zi0, zy0, zp0, by decide +kernel⟩
theorem zl_Ls_46 : zYn "LoofahSaints" 46 zy_Ac_init prog_2_method_1_code 1 (Option.none : Option Jvm.ClassFile.FieldType) 0 := ⟨⟨_, .tail _ (.tail _ (.tail _ (.head _)))⟩, zq6, zq130, ⟨by decide, by decide, by decide +kernel⟩, by decide⟩
theorem zf_Ls_47 : zFd "LoofahSaints" 47 9 5 (zy9 5) true := ⟨(zr9, zt9, 12), rfl, by decide, rfl, zq294, rfl, zi9, rfl, zy9, zp9, zn9, rfl⟩
theorem zc_Ls_51 : zNw "LoofahSaints" 51 5 8 := ⟨(zr5, zt5, 8), rfl, rfl, zq193, zq133, zq7, zi5, zy5, zp5, by decide +kernel⟩
theorem zl_Ls_53 : zYb "LoofahSaints" 53 zy_Sa_init prog_7_method_1_code 2 (Option.none : Option Jvm.ClassFile.FieldType) 1 := ⟨zq194, zq7, zq136, ⟨by decide, by decide, by decide +kernel⟩, by decide⟩
theorem zf_Ls_56 : zFd "LoofahSaints" 56 9 6 (zy9 6) true := ⟨(zr9, zt9, 12), rfl, by decide, rfl, zq295, rfl, zi9, rfl, zy9, zp9, zn9, rfl⟩
theorem zf_Ls_60 : zFd "LoofahSaints" 60 9 10 (zy9 10) false := ⟨(zr9, zt9, 12), rfl, by decide, rfl, zq299, rfl, zi9, rfl, zy9, zp9, zn9, rfl⟩
theorem zf_Ls_64 : zFd "LoofahSaints" 64 9 11 (zy9 11) false := ⟨(zr9, zt9, 12), rfl, by decide, rfl, zq300, rfl, zi9, rfl, zy9, zp9, zn9, rfl⟩
theorem zl_Ls_68 : zYb "LoofahSaints" 68 zy_Or_init prog_4_method_1_code 2 (Option.none : Option Jvm.ClassFile.FieldType) 1 := ⟨zq195, zq3, zq41, ⟨by decide, by decide, by decide +kernel⟩, by decide⟩
theorem zc_Ls_69 : zNw "LoofahSaints" 69 1 9 := ⟨(zr1, zt1, 9), rfl, rfl, zq196, zq197, zq8, zi1, zy1, zp1, by decide +kernel⟩
theorem zl_Ls_71 : zYb "LoofahSaints" 71 zy_Ho_init prog_3_method_1_code 3 (Option.none : Option Jvm.ClassFile.FieldType) 1 := ⟨zq198, zq8, zq200, ⟨by decide, by decide, by decide +kernel⟩, by decide⟩
theorem zf_Ls_74 : zFd "LoofahSaints" 74 9 7 (zy9 7) true := ⟨(zr9, zt9, 12), rfl, by decide, rfl, zq296, rfl, zi9, rfl, zy9, zp9, zn9, rfl⟩
theorem zf_Ls_78 : zFd "LoofahSaints" 78 9 8 (zy9 8) true := ⟨(zr9, zt9, 12), rfl, by decide, rfl, zq297, rfl, zi9, rfl, zy9, zp9, zn9, rfl⟩
theorem zf_Ls_81 : zFd "LoofahSaints" 81 9 9 (zy9 9) true := ⟨(zr9, zt9, 12), rfl, by decide, rfl, zq298, rfl, zi9, rfl, zy9, zp9, zn9, rfl⟩
theorem zl_Ls_84 : zYn "LoofahSaints" 84 zy_Ta_init prog_10_method_1_code 1 (Option.none : Option Jvm.ClassFile.FieldType) 0 := ⟨⟨_, .tail _ (.tail _ (.tail _ (.tail _ (.head _))))⟩, zq10, zq273, ⟨by decide, by decide, by decide +kernel⟩, by decide⟩
theorem zl_Ls_85 : zYb "LoofahSaints" 85 zy_Ls_isKind prog_1_method_40_code 1 (Option.some Jvm.ClassFile.FieldType.boolean) 1 := ⟨zq330, zq1, zq332, ⟨by decide, by decide, by decide +kernel⟩, by decide⟩
theorem zl_Ls_89 : zYb "LoofahSaints" 89 zy_Ls_isSet prog_1_method_39_code 1 (Option.some Jvm.ClassFile.FieldType.boolean) 1 := ⟨zq333, zq1, zq335, ⟨by decide, by decide, by decide +kernel⟩, by decide⟩
theorem zf_Ls_92 : zFd "LoofahSaints" 92 1 6 (zy1 6) false := ⟨(zr1, zt1, 9), rfl, by decide, rfl, zq242, rfl, zi1, rfl, zy1, zp1, zn1, rfl⟩
theorem zf_Ls_95 : zFd "LoofahSaints" 95 1 0 (zy1 0) true := ⟨(zr1, zt1, 9), rfl, by decide, rfl, zq226, rfl, zi1, rfl, zy1, zp1, zn1, rfl⟩
theorem zl_Ls_99 : zYb "LoofahSaints" 99 zy_Sa_begin prog_7_method_2_code 5 (Option.none : Option Jvm.ClassFile.FieldType) 3 := ⟨zq336, zq7, zq339, ⟨by decide, by decide, by decide +kernel⟩, by decide⟩
theorem zl_Ls_103 : zYb "LoofahSaints" 103 zy_Ho_has prog_3_method_3_code 2 (Option.some Jvm.ClassFile.FieldType.boolean) 1 := ⟨zq344, zq8, zq347, ⟨by decide, by decide, by decide +kernel⟩, by decide⟩
theorem zl_Ls_106 : zYb "LoofahSaints" 106 zy_Ls_isNovice prog_1_method_38_code 1 (Option.some Jvm.ClassFile.FieldType.boolean) 1 := ⟨zq348, zq1, zq350, ⟨by decide, by decide, by decide +kernel⟩, by decide⟩
theorem zl_Ls_109 : zYb "LoofahSaints" 109 zy_Ho_takes prog_3_method_4_code 3 (Option.some Jvm.ClassFile.FieldType.int) 2 := ⟨zq351, zq8, zq354, ⟨by decide, by decide, by decide +kernel⟩, by decide⟩
theorem zf_Ls_113 : zFd "LoofahSaints" 113 5 2 (zy5 2) false := ⟨(zr5, zt5, 8), rfl, by decide, rfl, zq145, rfl, zi5, rfl, zy5, zp5, zn5, rfl⟩
theorem zf_Ls_116 : zFd "LoofahSaints" 116 5 3 (zy5 3) false := ⟨(zr5, zt5, 8), rfl, by decide, rfl, zq148, rfl, zi5, rfl, zy5, zp5, zn5, rfl⟩
theorem zf_Ls_119 : zFd "LoofahSaints" 119 5 4 (zy5 4) false := ⟨(zr5, zt5, 8), rfl, by decide, rfl, zq152, rfl, zi5, rfl, zy5, zp5, zn5, rfl⟩
theorem zf_Ls_122 : zFd "LoofahSaints" 122 5 5 (zy5 5) false := ⟨(zr5, zt5, 8), rfl, by decide, rfl, zq154, rfl, zi5, rfl, zy5, zp5, zn5, rfl⟩
theorem zf_Ls_125 : zFd "LoofahSaints" 125 5 7 (zy5 7) false := ⟨(zr5, zt5, 8), rfl, by decide, rfl, zq161, rfl, zi5, rfl, zy5, zp5, zn5, rfl⟩
theorem zf_Ls_128 : zFd "LoofahSaints" 128 5 6 (zy5 6) false := ⟨(zr5, zt5, 8), rfl, by decide, rfl, zq158, rfl, zi5, rfl, zy5, zp5, zn5, rfl⟩
theorem zl_Ls_131 : zYb "LoofahSaints" 131 zy_Ls_someone prog_1_method_42_code 1 (Option.some Jvm.ClassFile.FieldType.int) 1 := ⟨zq386, zq1, zq388, ⟨by decide, by decide, by decide +kernel⟩, by decide⟩
theorem zf_Ls_135 : zFd "LoofahSaints" 135 1 8 (zy1 8) false := ⟨(zr1, zt1, 9), rfl, by decide, rfl, zq250, rfl, zi1, rfl, zy1, zp1, zn1, rfl⟩
theorem zf_Ls_139 : zFd "LoofahSaints" 139 1 7 (zy1 7) false := ⟨(zr1, zt1, 9), rfl, by decide, rfl, zq246, rfl, zi1, rfl, zy1, zp1, zn1, rfl⟩
theorem zl_Ls_142 : zYb "LoofahSaints" 142 zy_Sa_grit prog_7_method_6_code 4 (Option.some Jvm.ClassFile.FieldType.int) 2 := ⟨zq389, zq7, zq358, ⟨by decide, by decide, by decide +kernel⟩, by decide⟩
theorem zf_Ls_146 : zFd "LoofahSaints" 146 2 3 (zy2 3) false := ⟨(zr2, zt2, 4), rfl, by decide, rfl, zq48, rfl, zi2, rfl, zy2, zp2, zn2, rfl⟩
theorem zl_Ls_149 : zYb "LoofahSaints" 149 zy_Sa_lasts prog_7_method_9_code 5 (Option.some Jvm.ClassFile.FieldType.int) 1 := ⟨zq390, zq7, zq393, ⟨by decide, by decide, by decide +kernel⟩, by decide⟩
theorem zf_Ls_152 : zFd "LoofahSaints" 152 1 1 (zy1 1) true := ⟨(zr1, zt1, 9), rfl, by decide, rfl, zq230, rfl, zi1, rfl, zy1, zp1, zn1, rfl⟩
theorem zf_Ls_156 : zFd "LoofahSaints" 156 1 2 (zy1 2) true := ⟨(zr1, zt1, 9), rfl, by decide, rfl, zq232, rfl, zi1, rfl, zy1, zp1, zn1, rfl⟩
theorem zl_Ls_159 : zYb "LoofahSaints" 159 zy_Sa_isThread prog_7_method_4_code 1 (Option.some Jvm.ClassFile.FieldType.boolean) 0 := ⟨zq416, zq7, zq379, ⟨by decide, by decide, by decide +kernel⟩, by decide⟩
theorem zl_Ls_163 : zYb "LoofahSaints" 163 zy_Ho_scrub prog_3_method_5_code 4 (Option.some Jvm.ClassFile.FieldType.int) 2 := ⟨zq417, zq8, zq420, ⟨by decide, by decide, by decide +kernel⟩, by decide⟩
theorem zf_Ls_166 : zFd "LoofahSaints" 166 5 0 (zy5 0) true := ⟨(zr5, zt5, 8), rfl, by decide, rfl, zq139, rfl, zi5, rfl, zy5, zp5, zn5, rfl⟩
theorem zf_Ls_169 : zFd "LoofahSaints" 169 3 1 (zy3 1) false := ⟨(zr3, zt3, 5), rfl, by decide, rfl, zq63, rfl, zi3, rfl, zy3, zp3, zn3, rfl⟩
theorem zf_Ls_172 : zFd "LoofahSaints" 172 3 0 (zy3 0) true := ⟨(zr3, zt3, 5), rfl, by decide, rfl, zq61, rfl, zi3, rfl, zy3, zp3, zn3, rfl⟩
theorem zl_Ls_175 : zYb "LoofahSaints" 175 zy_Re_reads prog_5_method_2_code 3 (Option.some Jvm.ClassFile.FieldType.boolean) 1 := ⟨zq437, zq2, zq440, ⟨by decide, by decide, by decide +kernel⟩, by decide⟩
theorem zf_Ls_179 : zFd "LoofahSaints" 179 3 2 (zy3 2) false := ⟨(zr3, zt3, 5), rfl, by decide, rfl, zq65, rfl, zi3, rfl, zy3, zp3, zn3, rfl⟩
theorem zl_Ls_182 : zYb "LoofahSaints" 182 zy_Ls_daysTillClean prog_1_method_14_code 3 (Option.some Jvm.ClassFile.FieldType.int) 1 := ⟨zq543, zq1, zq546, ⟨by decide, by decide, by decide +kernel⟩, by decide⟩
theorem zl_Ls_185 : zYb "LoofahSaints" 185 zy_Ho_onAll prog_3_method_9_code 3 (Option.some Jvm.ClassFile.FieldType.int) 0 := ⟨zq572, zq8, zq575, ⟨by decide, by decide, by decide +kernel⟩, by decide⟩
theorem zl_Ls_189 : zYb "LoofahSaints" 189 zy_Ho_threads prog_3_method_11_code 3 (Option.some Jvm.ClassFile.FieldType.int) 0 := ⟨zq582, zq8, zq585, ⟨by decide, by decide, by decide +kernel⟩, by decide⟩
theorem zl_Ls_192 : zYb "LoofahSaints" 192 zy_Sh_dearest prog_9_method_5_code 5 (Option.some Jvm.ClassFile.FieldType.int) 1 := ⟨zq586, zq4, zq589, ⟨by decide, by decide, by decide +kernel⟩, by decide⟩
theorem zl_Ls_196 : zYb "LoofahSaints" 196 zy_Sh_leastWithout prog_9_method_6_code 3 (Option.some Jvm.ClassFile.FieldType.int) 1 := ⟨zq602, zq4, zq605, ⟨by decide, by decide, by decide +kernel⟩, by decide⟩
theorem zl_Ls_199 : zYb "LoofahSaints" 199 zy_Ho_goDays prog_3_method_7_code 3 (Option.none : Option Jvm.ClassFile.FieldType) 1 := ⟨zq611, zq8, zq614, ⟨by decide, by decide, by decide +kernel⟩, by decide⟩
theorem zl_Ls_202 : zYb "LoofahSaints" 202 zy_Ho_copy prog_3_method_2_code 3 (Option.none : Option Jvm.ClassFile.FieldType) 1 := ⟨zq547, zq8, zq550, ⟨by decide, by decide, by decide +kernel⟩, by decide⟩
theorem zl_Ls_206 : zYb "LoofahSaints" 206 zy_Ho_goDay prog_3_method_6_code 3 (Option.none : Option Jvm.ClassFile.FieldType) 0 := ⟨zq565, zq8, zq568, ⟨by decide, by decide, by decide +kernel⟩, by decide⟩
theorem zl_Ls_209 : zYb "LoofahSaints" 209 zy_Sh_share prog_9_method_2_code 8 (Option.none : Option Jvm.ClassFile.FieldType) 2 := ⟨zq624, zq4, zq594, ⟨by decide, by decide, by decide +kernel⟩, by decide⟩
theorem zf_Ls_213 : zFd "LoofahSaints" 213 7 4 (zy7 4) false := ⟨(zr7, zt7, 5), rfl, by decide, rfl, zq90, rfl, zi7, rfl, zy7, zp7, zn7, rfl⟩
theorem zl_Ls_216 : zYb "LoofahSaints" 216 zy_Sh_givenTo prog_9_method_4_code 2 (Option.some Jvm.ClassFile.FieldType.int) 1 := ⟨zq625, zq4, zq628, ⟨by decide, by decide, by decide +kernel⟩, by decide⟩
theorem zl_Ls_219 : zYb "LoofahSaints" 219 zy_Sc_choose prog_8_method_2_code 5 (Option.none : Option Jvm.ClassFile.FieldType) 3 := ⟨zq633, zq5, zq636, ⟨by decide, by decide, by decide +kernel⟩, by decide⟩
theorem zf_Ls_223 : zFd "LoofahSaints" 223 6 4 (zy6 4) false := ⟨(zr6, zt6, 5), rfl, by decide, rfl, zq114, rfl, zi6, rfl, zy6, zp6, zn6, rfl⟩
theorem zf_Ls_226 : zFd "LoofahSaints" 226 6 2 (zy6 2) true := ⟨(zr6, zt6, 5), rfl, by decide, rfl, zq111, rfl, zi6, rfl, zy6, zp6, zn6, rfl⟩
theorem zf_Ls_229 : zFd "LoofahSaints" 229 1 3 (zy1 3) true := ⟨(zr1, zt1, 9), rfl, by decide, rfl, zq234, rfl, zi1, rfl, zy1, zp1, zn1, rfl⟩
theorem zl_Ls_233 : zYb "LoofahSaints" 233 zy_Rw_clear prog_6_method_2_code 1 (Option.some Jvm.ClassFile.FieldType.int) 0 := ⟨zq649, zq9, zq652, ⟨by decide, by decide, by decide +kernel⟩, by decide⟩
theorem zl_Ls_238 : zYb "LoofahSaints" 238 zy_Rw_add prog_6_method_3_code 4 (Option.some Jvm.ClassFile.FieldType.int) 3 := ⟨zq653, zq9, zq656, ⟨by decide, by decide, by decide +kernel⟩, by decide⟩
theorem zl_Ls_242 : zYb "LoofahSaints" 242 zy_Sa_copy prog_7_method_3_code 2 (Option.none : Option Jvm.ClassFile.FieldType) 1 := ⟨zq661, zq7, zq554, ⟨by decide, by decide, by decide +kernel⟩, by decide⟩
theorem zl_Ls_245 : zYb "LoofahSaints" 245 zy_Ho_isAsSeen prog_3_method_12_code 6 (Option.some Jvm.ClassFile.FieldType.boolean) 3 := ⟨zq662, zq8, zq665, ⟨by decide, by decide, by decide +kernel⟩, by decide⟩
theorem zl_Ls_251 : zYb "LoofahSaints" 251 zy_Ls_lowest prog_1_method_22_code 4 (Option.some Jvm.ClassFile.FieldType.long) 3 := ⟨zq679, zq1, zq681, ⟨by decide, by decide, by decide +kernel⟩, by decide⟩
theorem zl_Ls_255 : zYb "LoofahSaints" 255 zy_Ho_wearOfAll prog_3_method_10_code 3 (Option.some Jvm.ClassFile.FieldType.int) 0 := ⟨zq686, zq8, zq689, ⟨by decide, by decide, by decide +kernel⟩, by decide⟩
theorem zf_Ls_258 : zFd "LoofahSaints" 258 1 4 (zy1 4) true := ⟨(zr1, zt1, 9), rfl, by decide, rfl, zq236, rfl, zi1, rfl, zy1, zp1, zn1, rfl⟩
theorem zf_Ls_261 : zFd "LoofahSaints" 261 4 2 (zy4 2) false := ⟨(zr4, zt4, 3), rfl, by decide, rfl, zq214, rfl, zi4, rfl, zy4, zp4, zn4, rfl⟩
theorem zl_Ls_262 : zYb "LoofahSaints" 262 zy_Rw_cell prog_6_method_4_code 3 (Option.some Jvm.ClassFile.FieldType.int) 2 := ⟨zq698, zq9, zq669, ⟨by decide, by decide, by decide +kernel⟩, by decide⟩
theorem zl_Ls_266 : zYb "LoofahSaints" 266 zy_Ho_follow prog_3_method_8_code 5 (Option.none : Option Jvm.ClassFile.FieldType) 2 := ⟨zq699, zq8, zq702, ⟨by decide, by decide, by decide +kernel⟩, by decide⟩
theorem zf_Ls_270 : zFd "LoofahSaints" 270 1 5 (zy1 5) true := ⟨(zr1, zt1, 9), rfl, by decide, rfl, zq238, rfl, zi1, rfl, zy1, zp1, zn1, rfl⟩
theorem zl_Ls_273 : zYb "LoofahSaints" 273 zy_Ls_isTape prog_1_method_41_code 1 (Option.some Jvm.ClassFile.FieldType.boolean) 1 := ⟨zq716, zq1, zq718, ⟨by decide, by decide, by decide +kernel⟩, by decide⟩
theorem zf_Ls_276 : zFd "LoofahSaints" 276 8 1 (zy8 1) false := ⟨(zr8, zt8, 3), rfl, by decide, rfl, zq278, rfl, zi8, rfl, zy8, zp8, zn8, rfl⟩
theorem zf_Ls_279 : zFd "LoofahSaints" 279 8 2 (zy8 2) false := ⟨(zr8, zt8, 3), rfl, by decide, rfl, zq280, rfl, zi8, rfl, zy8, zp8, zn8, rfl⟩
theorem zf_Ls_280 : zFd "LoofahSaints" 280 8 0 (zy8 0) true := ⟨(zr8, zt8, 3), rfl, by decide, rfl, zq276, rfl, zi8, rfl, zy8, zp8, zn8, rfl⟩
theorem zf_Ls_284 : zFd "LoofahSaints" 284 0 1 (zy0 1) false := ⟨(zr0, zt0, 3), rfl, by decide, rfl, zq184, rfl, zi0, rfl, zy0, zp0, zn0, rfl⟩
theorem zl_Ls_287 : zYb "LoofahSaints" 287 zy_Ac_run prog_2_method_2_code 4 (Option.some Jvm.ClassFile.FieldType.int) 3 := ⟨zq731, zq6, zq734, ⟨by decide, by decide, by decide +kernel⟩, by decide⟩
theorem zl_Ls_291 : zYb "LoofahSaints" 291 zy_Jd_min prog_14_method_69_code 2 (Option.some Jvm.ClassFile.FieldType.int) 2 := ⟨zq751, zq12, zq399, ⟨by decide, by decide, by decide +kernel⟩, by decide⟩
theorem zf_Ls_296 : zFd "LoofahSaints" 296 0 0 (zy0 0) true := ⟨(zr0, zt0, 3), rfl, by decide, rfl, zq182, rfl, zi0, rfl, zy0, zp0, zn0, rfl⟩
theorem zl_Ls_299 : zYb "LoofahSaints" 299 zy_Sa_isOf prog_7_method_5_code 4 (Option.some Jvm.ClassFile.FieldType.boolean) 1 := ⟨zq756, zq7, zq383, ⟨by decide, by decide, by decide +kernel⟩, by decide⟩
theorem zl_Ls_302 : zYb "LoofahSaints" 302 zy_Ta_become prog_10_method_2_code 4 (Option.none : Option Jvm.ClassFile.FieldType) 2 := ⟨zq765, zq10, zq768, ⟨by decide, by decide, by decide +kernel⟩, by decide⟩
theorem zl_Ls_305 : zYb "LoofahSaints" 305 zy_Ta_cut prog_10_method_3_code 3 (Option.some Jvm.ClassFile.FieldType.long) 1 := ⟨zq777, zq10, zq780, ⟨by decide, by decide, by decide +kernel⟩, by decide⟩
theorem zf_Ac_11 : zFd "LoofahSaints$Acts" 11 0 0 (zy0 0) true := ⟨(zr0, zt0, 3), rfl, by decide, rfl, zq181, rfl, zi0, rfl, zy0, zp0, zn0, rfl⟩
theorem zf_Ac_15 : zFd "LoofahSaints$Acts" 15 0 1 (zy0 1) false := ⟨(zr0, zt0, 3), rfl, by decide, rfl, zq183, rfl, zi0, rfl, zy0, zp0, zn0, rfl⟩
theorem zc_Ac_19 : zNw "LoofahSaints$Acts" 19 5 8 := ⟨(zr5, zt5, 8), rfl, rfl, zq132, zq133, zq7, zi5, zy5, zp5, by decide +kernel⟩
theorem zl_Ac_21 : zYb "LoofahSaints$Acts" 21 zy_Sa_init prog_7_method_1_code 2 (Option.none : Option Jvm.ClassFile.FieldType) 1 := ⟨zq134, zq7, zq136, ⟨by decide, by decide, by decide +kernel⟩, by decide⟩
theorem zf_Ac_24 : zFd "LoofahSaints$Acts" 24 0 2 (zy0 2) false := ⟨(zr0, zt0, 3), rfl, by decide, rfl, zq185, rfl, zi0, rfl, zy0, zp0, zn0, rfl⟩
theorem zf_Ac_28 : zFd "LoofahSaints$Acts" 28 5 2 (zy5 2) false := ⟨(zr5, zt5, 8), rfl, by decide, rfl, zq144, rfl, zi5, rfl, zy5, zp5, zn5, rfl⟩
theorem zl_Ac_31 : zYb "LoofahSaints$Acts" 31 zy_Ac_call prog_2_method_3_code 7 (Option.some Jvm.ClassFile.FieldType.int) 4 := ⟨zq735, zq6, zq738, ⟨by decide, by decide, by decide +kernel⟩, by decide⟩
theorem zl_Ac_35 : zYn "LoofahSaints$Acts" 35 zy_Ls_isKind prog_1_method_40_code 1 (Option.some Jvm.ClassFile.FieldType.boolean) 1 := ⟨⟨_, .tail _ (.tail _ (.tail _ (.tail _ (.tail _ (.tail _ (.tail _ (.head _)))))))⟩, zq1, zq332, ⟨by decide, by decide, by decide +kernel⟩, by decide⟩
theorem zl_Ac_45 : zYb "LoofahSaints$Acts" 45 zy_Ac_body prog_2_method_4_code 6 (Option.some Jvm.ClassFile.FieldType.int) 4 := ⟨zq743, zq6, zq746, ⟨by decide, by decide, by decide +kernel⟩, by decide⟩
theorem zf_Ac_48 : zFd "LoofahSaints$Acts" 48 5 1 (zy5 1) false := ⟨(zr5, zt5, 8), rfl, by decide, rfl, zq141, rfl, zi5, rfl, zy5, zp5, zn5, rfl⟩
theorem zf_Ac_51 : zFd "LoofahSaints$Acts" 51 5 3 (zy5 3) false := ⟨(zr5, zt5, 8), rfl, by decide, rfl, zq149, rfl, zi5, rfl, zy5, zp5, zn5, rfl⟩
theorem zc_Ho_9 : zNw "LoofahSaints$House" 9 5 8 := ⟨(zr5, zt5, 8), rfl, rfl, zq202, zq133, zq7, zi5, zy5, zp5, by decide +kernel⟩
theorem zf_Ho_11 : zFd "LoofahSaints$House" 11 1 0 (zy1 0) true := ⟨(zr1, zt1, 9), rfl, by decide, rfl, zq223, rfl, zi1, rfl, zy1, zp1, zn1, rfl⟩
theorem zf_Ho_17 : zFd "LoofahSaints$House" 17 1 1 (zy1 1) true := ⟨(zr1, zt1, 9), rfl, by decide, rfl, zq227, rfl, zi1, rfl, zy1, zp1, zn1, rfl⟩
theorem zf_Ho_21 : zFd "LoofahSaints$House" 21 1 2 (zy1 2) true := ⟨(zr1, zt1, 9), rfl, by decide, rfl, zq231, rfl, zi1, rfl, zy1, zp1, zn1, rfl⟩
theorem zc_Ho_24 : zNw "LoofahSaints$House" 24 4 3 := ⟨(zr4, zt4, 3), rfl, rfl, zq204, zq205, zq9, zi4, zy4, zp4, by decide +kernel⟩
theorem zl_Ho_26 : zYb "LoofahSaints$House" 26 zy_Rw_init prog_6_method_1_code 2 (Option.none : Option Jvm.ClassFile.FieldType) 1 := ⟨zq206, zq9, zq208, ⟨by decide, by decide, by decide +kernel⟩, by decide⟩
theorem zf_Ho_29 : zFd "LoofahSaints$House" 29 1 3 (zy1 3) true := ⟨(zr1, zt1, 9), rfl, by decide, rfl, zq233, rfl, zi1, rfl, zy1, zp1, zn1, rfl⟩
theorem zf_Ho_33 : zFd "LoofahSaints$House" 33 1 4 (zy1 4) true := ⟨(zr1, zt1, 9), rfl, by decide, rfl, zq235, rfl, zi1, rfl, zy1, zp1, zn1, rfl⟩
theorem zf_Ho_36 : zFd "LoofahSaints$House" 36 1 5 (zy1 5) true := ⟨(zr1, zt1, 9), rfl, by decide, rfl, zq237, rfl, zi1, rfl, zy1, zp1, zn1, rfl⟩
theorem zf_Ho_39 : zFd "LoofahSaints$House" 39 1 6 (zy1 6) false := ⟨(zr1, zt1, 9), rfl, by decide, rfl, zq239, rfl, zi1, rfl, zy1, zp1, zn1, rfl⟩
theorem zf_Ho_43 : zFd "LoofahSaints$House" 43 1 7 (zy1 7) false := ⟨(zr1, zt1, 9), rfl, by decide, rfl, zq243, rfl, zi1, rfl, zy1, zp1, zn1, rfl⟩
theorem zf_Ho_46 : zFd "LoofahSaints$House" 46 1 8 (zy1 8) false := ⟨(zr1, zt1, 9), rfl, by decide, rfl, zq247, rfl, zi1, rfl, zy1, zp1, zn1, rfl⟩
theorem zl_Ho_50 : zYb "LoofahSaints$House" 50 zy_Sa_init prog_7_method_1_code 2 (Option.none : Option Jvm.ClassFile.FieldType) 1 := ⟨zq222, zq7, zq136, ⟨by decide, by decide, by decide +kernel⟩, by decide⟩
theorem zl_Ho_51 : zYb "LoofahSaints$House" 51 zy_Sa_copy prog_7_method_3_code 2 (Option.none : Option Jvm.ClassFile.FieldType) 1 := ⟨zq551, zq7, zq554, ⟨by decide, by decide, by decide +kernel⟩, by decide⟩
theorem zl_Ho_61 : zYb "LoofahSaints$House" 61 zy_Rw_copy prog_6_method_5_code 2 (Option.none : Option Jvm.ClassFile.FieldType) 1 := ⟨zq559, zq9, zq562, ⟨by decide, by decide, by decide +kernel⟩, by decide⟩
theorem zl_Ho_64 : zYb "LoofahSaints$House" 64 zy_Sa_grit prog_7_method_6_code 4 (Option.some Jvm.ClassFile.FieldType.int) 2 := ⟨zq355, zq7, zq358, ⟨by decide, by decide, by decide +kernel⟩, by decide⟩
theorem zl_Ho_68 : zYb "LoofahSaints$House" 68 zy_Sa_takes prog_7_method_7_code 7 (Option.some Jvm.ClassFile.FieldType.int) 2 := ⟨zq372, zq7, zq375, ⟨by decide, by decide, by decide +kernel⟩, by decide⟩
theorem zf_Ho_72 : zFd "LoofahSaints$House" 72 2 3 (zy2 3) false := ⟨(zr2, zt2, 4), rfl, by decide, rfl, zq49, rfl, zi2, rfl, zy2, zp2, zn2, rfl⟩
theorem zl_Ho_77 : zYb "LoofahSaints$House" 77 zy_Sa_wearBy prog_7_method_8_code 2 (Option.none : Option Jvm.ClassFile.FieldType) 1 := ⟨zq421, zq7, zq424, ⟨by decide, by decide, by decide +kernel⟩, by decide⟩
theorem zf_Ho_80 : zFd "LoofahSaints$House" 80 5 6 (zy5 6) false := ⟨(zr5, zt5, 8), rfl, by decide, rfl, zq159, rfl, zi5, rfl, zy5, zp5, zn5, rfl⟩
theorem zl_Ho_83 : zYn "LoofahSaints$House" 83 zy_Ls_isNovice prog_1_method_38_code 1 (Option.some Jvm.ClassFile.FieldType.boolean) 1 := ⟨⟨_, .tail _ (.tail _ (.tail _ (.tail _ (.tail _ (.tail _ (.head _))))))⟩, zq1, zq350, ⟨by decide, by decide, by decide +kernel⟩, by decide⟩
theorem zl_Ho_87 : zYb "LoofahSaints$House" 87 zy_Sa_isThread prog_7_method_4_code 1 (Option.some Jvm.ClassFile.FieldType.boolean) 0 := ⟨zq570, zq7, zq379, ⟨by decide, by decide, by decide +kernel⟩, by decide⟩
theorem zl_Ho_91 : zYb "LoofahSaints$House" 91 zy_Ho_scrub prog_3_method_5_code 4 (Option.some Jvm.ClassFile.FieldType.int) 2 := ⟨zq571, zq8, zq420, ⟨by decide, by decide, by decide +kernel⟩, by decide⟩
theorem zf_Ho_95 : zFd "LoofahSaints$House" 95 5 7 (zy5 7) false := ⟨(zr5, zt5, 8), rfl, by decide, rfl, zq162, rfl, zi5, rfl, zy5, zp5, zn5, rfl⟩
theorem zl_Ho_99 : zYb "LoofahSaints$House" 99 zy_Ho_goDay prog_3_method_6_code 3 (Option.none : Option Jvm.ClassFile.FieldType) 0 := ⟨zq615, zq8, zq568, ⟨by decide, by decide, by decide +kernel⟩, by decide⟩
theorem zl_Ho_102 : zYb "LoofahSaints$House" 102 zy_Ho_has prog_3_method_3_code 2 (Option.some Jvm.ClassFile.FieldType.boolean) 1 := ⟨zq703, zq8, zq347, ⟨by decide, by decide, by decide +kernel⟩, by decide⟩
theorem zf_Ho_105 : zFd "LoofahSaints$House" 105 5 5 (zy5 5) false := ⟨(zr5, zt5, 8), rfl, by decide, rfl, zq156, rfl, zi5, rfl, zy5, zp5, zn5, rfl⟩
theorem zl_Ho_108 : zYb "LoofahSaints$House" 108 zy_Jd_bitCount prog_13_method_49_code 1 (Option.some Jvm.ClassFile.FieldType.int) 1 := ⟨zq576, zq18, zq578, ⟨by decide, by decide, by decide +kernel⟩, by decide⟩
theorem zf_Ho_114 : zFd "LoofahSaints$House" 114 4 2 (zy4 2) false := ⟨(zr4, zt4, 3), rfl, by decide, rfl, zq213, rfl, zi4, rfl, zy4, zp4, zn4, rfl⟩
theorem zl_Ho_115 : zYb "LoofahSaints$House" 115 zy_Rw_cell prog_6_method_4_code 3 (Option.some Jvm.ClassFile.FieldType.int) 2 := ⟨zq666, zq9, zq669, ⟨by decide, by decide, by decide +kernel⟩, by decide⟩
theorem zf_Or_9 : zFd "LoofahSaints$Order" 9 2 2 (zy2 2) false := ⟨(zr2, zt2, 4), rfl, by decide, rfl, zq45, rfl, zi2, rfl, zy2, zp2, zn2, rfl⟩
theorem zf_Or_15 : zFd "LoofahSaints$Order" 15 2 3 (zy2 3) false := ⟨(zr2, zt2, 4), rfl, by decide, rfl, zq46, rfl, zi2, rfl, zy2, zp2, zn2, rfl⟩
theorem zf_Or_18 : zFd "LoofahSaints$Order" 18 2 0 (zy2 0) true := ⟨(zr2, zt2, 4), rfl, by decide, rfl, zq43, rfl, zi2, rfl, zy2, zp2, zn2, rfl⟩
theorem zf_Or_22 : zFd "LoofahSaints$Order" 22 2 1 (zy2 1) true := ⟨(zr2, zt2, 4), rfl, by decide, rfl, zq44, rfl, zi2, rfl, zy2, zp2, zn2, rfl⟩
theorem zl_Or_25 : zYb "LoofahSaints$Order" 25 zy_Or_letter prog_4_method_6_code 3 (Option.some Jvm.ClassFile.FieldType.int) 3 := ⟨zq363, zq3, zq365, ⟨by decide, by decide, by decide +kernel⟩, by decide⟩
theorem zl_Or_29 : zYb "LoofahSaints$Order" 29 zy_Or_holds prog_4_method_5_code 3 (Option.some Jvm.ClassFile.FieldType.boolean) 2 := ⟨zq366, zq3, zq368, ⟨by decide, by decide, by decide +kernel⟩, by decide⟩
theorem zf_Or_33 : zFd "LoofahSaints$Order" 33 5 1 (zy5 1) false := ⟨(zr5, zt5, 8), rfl, by decide, rfl, zq142, rfl, zi5, rfl, zy5, zp5, zn5, rfl⟩
theorem zf_Or_38 : zFd "LoofahSaints$Order" 38 5 2 (zy5 2) false := ⟨(zr5, zt5, 8), rfl, by decide, rfl, zq146, rfl, zi5, rfl, zy5, zp5, zn5, rfl⟩
theorem zf_Or_41 : zFd "LoofahSaints$Order" 41 5 3 (zy5 3) false := ⟨(zr5, zt5, 8), rfl, by decide, rfl, zq150, rfl, zi5, rfl, zy5, zp5, zn5, rfl⟩
theorem zf_Or_44 : zFd "LoofahSaints$Order" 44 5 5 (zy5 5) false := ⟨(zr5, zt5, 8), rfl, by decide, rfl, zq155, rfl, zi5, rfl, zy5, zp5, zn5, rfl⟩
theorem zf_Or_47 : zFd "LoofahSaints$Order" 47 5 7 (zy5 7) false := ⟨(zr5, zt5, 8), rfl, by decide, rfl, zq163, rfl, zi5, rfl, zy5, zp5, zn5, rfl⟩
theorem zf_Re_9 : zFd "LoofahSaints$Reader" 9 3 0 (zy3 0) true := ⟨(zr3, zt3, 5), rfl, by decide, rfl, zq60, rfl, zi3, rfl, zy3, zp3, zn3, rfl⟩
theorem zf_Re_15 : zFd "LoofahSaints$Reader" 15 3 1 (zy3 1) false := ⟨(zr3, zt3, 5), rfl, by decide, rfl, zq62, rfl, zi3, rfl, zy3, zp3, zn3, rfl⟩
theorem zf_Re_19 : zFd "LoofahSaints$Reader" 19 3 2 (zy3 2) false := ⟨(zr3, zt3, 5), rfl, by decide, rfl, zq64, rfl, zi3, rfl, zy3, zp3, zn3, rfl⟩
theorem zf_Re_22 : zFd "LoofahSaints$Reader" 22 3 3 (zy3 3) false := ⟨(zr3, zt3, 5), rfl, by decide, rfl, zq66, rfl, zi3, rfl, zy3, zp3, zn3, rfl⟩
theorem zc_Re_25 : zNw "LoofahSaints$Reader" 25 2 4 := ⟨(zr2, zt2, 4), rfl, rfl, zq37, zq38, zq3, zi2, zy2, zp2, by decide +kernel⟩
theorem zl_Re_27 : zYb "LoofahSaints$Reader" 27 zy_Or_init prog_4_method_1_code 2 (Option.none : Option Jvm.ClassFile.FieldType) 1 := ⟨zq39, zq3, zq41, ⟨by decide, by decide, by decide +kernel⟩, by decide⟩
theorem zf_Re_30 : zFd "LoofahSaints$Reader" 30 3 4 (zy3 4) false := ⟨(zr3, zt3, 5), rfl, by decide, rfl, zq67, rfl, zi3, rfl, zy3, zp3, zn3, rfl⟩
theorem zl_Re_34 : zYb "LoofahSaints$Reader" 34 zy_Or_begin prog_4_method_2_code 1 (Option.none : Option Jvm.ClassFile.FieldType) 0 := ⟨zq441, zq3, zq444, ⟨by decide, by decide, by decide +kernel⟩, by decide⟩
theorem zl_Re_37 : zYb "LoofahSaints$Reader" 37 zy_Re_clause prog_5_method_3_code 3 (Option.some Jvm.ClassFile.FieldType.boolean) 0 := ⟨zq445, zq2, zq448, ⟨by decide, by decide, by decide +kernel⟩, by decide⟩
theorem zl_Re_41 : zYb "LoofahSaints$Reader" 41 zy_Re_eat prog_5_method_11_code 2 (Option.some Jvm.ClassFile.FieldType.boolean) 1 := ⟨zq506, zq2, zq509, ⟨by decide, by decide, by decide +kernel⟩, by decide⟩
theorem zl_Re_45 : zYb "LoofahSaints$Reader" 45 zy_Re_sign prog_5_method_12_code 3 (Option.some Jvm.ClassFile.FieldType.int) 1 := ⟨zq449, zq2, zq452, ⟨by decide, by decide, by decide +kernel⟩, by decide⟩
theorem zl_Re_51 : zYb "LoofahSaints$Reader" 51 zy_Re_word prog_5_method_10_code 3 (Option.some Jvm.ClassFile.FieldType.boolean) 1 := ⟨zq454, zq2, zq457, ⟨by decide, by decide, by decide +kernel⟩, by decide⟩
theorem zl_Re_55 : zYb "LoofahSaints$Reader" 55 zy_Re_numeral prog_5_method_8_code 1 (Option.some Jvm.ClassFile.FieldType.boolean) 0 := ⟨zq510, zq2, zq513, ⟨by decide, by decide, by decide +kernel⟩, by decide⟩
theorem zf_Re_58 : zFd "LoofahSaints$Reader" 58 2 3 (zy2 3) false := ⟨(zr2, zt2, 4), rfl, by decide, rfl, zq47, rfl, zi2, rfl, zy2, zp2, zn2, rfl⟩
theorem zl_Re_65 : zYb "LoofahSaints$Reader" 65 zy_Re_either prog_5_method_4_code 4 (Option.some Jvm.ClassFile.FieldType.boolean) 1 := ⟨zq519, zq2, zq522, ⟨by decide, by decide, by decide +kernel⟩, by decide⟩
theorem zl_Re_68 : zYb "LoofahSaints$Reader" 68 zy_Or_put prog_4_method_3_code 3 (Option.none : Option Jvm.ClassFile.FieldType) 2 := ⟨zq527, zq3, zq530, ⟨by decide, by decide, by decide +kernel⟩, by decide⟩
theorem zl_Re_72 : zYb "LoofahSaints$Reader" 72 zy_Re_factor prog_5_method_5_code 2 (Option.some Jvm.ClassFile.FieldType.boolean) 1 := ⟨zq523, zq2, zq526, ⟨by decide, by decide, by decide +kernel⟩, by decide⟩
theorem zl_Re_75 : zYb "LoofahSaints$Reader" 75 zy_Re_test prog_5_method_6_code 3 (Option.some Jvm.ClassFile.FieldType.boolean) 0 := ⟨zq531, zq2, zq534, ⟨by decide, by decide, by decide +kernel⟩, by decide⟩
theorem zl_Re_78 : zYb "LoofahSaints$Reader" 78 zy_Re_isLetter prog_5_method_7_code 1 (Option.some Jvm.ClassFile.FieldType.boolean) 1 := ⟨zq535, zq2, zq537, ⟨by decide, by decide, by decide +kernel⟩, by decide⟩
theorem zl_Re_81 : zYb "LoofahSaints$Reader" 81 zy_Re_isDigit prog_5_method_9_code 1 (Option.some Jvm.ClassFile.FieldType.boolean) 1 := ⟨zq514, zq2, zq516, ⟨by decide, by decide, by decide +kernel⟩, by decide⟩
theorem zl_Re_84 : zYb "LoofahSaints$Reader" 84 zy_Js_length prog_15_method_54_code 1 (Option.some Jvm.ClassFile.FieldType.int) 0 := ⟨zq458, zq13, zq461, ⟨by decide, by decide, by decide +kernel⟩, by decide⟩
theorem zl_Re_89 : zYb "LoofahSaints$Reader" 89 zy_Js_charAt prog_15_method_56_code 2 (Option.some Jvm.ClassFile.FieldType.char) 1 := ⟨zq468, zq13, zq471, ⟨by decide, by decide, by decide +kernel⟩, by decide⟩
theorem zf_Rw_9 : zFd "LoofahSaints$Rows" 9 4 2 (zy4 2) false := ⟨(zr4, zt4, 3), rfl, by decide, rfl, zq212, rfl, zi4, rfl, zy4, zp4, zn4, rfl⟩
theorem zf_Rw_15 : zFd "LoofahSaints$Rows" 15 4 1 (zy4 1) true := ⟨(zr4, zt4, 3), rfl, by decide, rfl, zq211, rfl, zi4, rfl, zy4, zp4, zn4, rfl⟩
theorem zf_Rw_18 : zFd "LoofahSaints$Rows" 18 4 0 (zy4 0) true := ⟨(zr4, zt4, 3), rfl, by decide, rfl, zq210, rfl, zi4, rfl, zy4, zp4, zn4, rfl⟩
theorem zl_Rw_22 : zYb "LoofahSaints$Rows" 22 zy_Jd_min prog_14_method_69_code 2 (Option.some Jvm.ClassFile.FieldType.int) 2 := ⟨zq563, zq12, zq399, ⟨by decide, by decide, by decide +kernel⟩, by decide⟩
theorem zf_Sa_9 : zFd "LoofahSaints$Saint" 9 5 0 (zy5 0) true := ⟨(zr5, zt5, 8), rfl, by decide, rfl, zq138, rfl, zi5, rfl, zy5, zp5, zn5, rfl⟩
theorem zf_Sa_15 : zFd "LoofahSaints$Saint" 15 5 2 (zy5 2) false := ⟨(zr5, zt5, 8), rfl, by decide, rfl, zq143, rfl, zi5, rfl, zy5, zp5, zn5, rfl⟩
theorem zf_Sa_19 : zFd "LoofahSaints$Saint" 19 5 3 (zy5 3) false := ⟨(zr5, zt5, 8), rfl, by decide, rfl, zq147, rfl, zi5, rfl, zy5, zp5, zn5, rfl⟩
theorem zf_Sa_22 : zFd "LoofahSaints$Saint" 22 5 4 (zy5 4) false := ⟨(zr5, zt5, 8), rfl, by decide, rfl, zq151, rfl, zi5, rfl, zy5, zp5, zn5, rfl⟩
theorem zf_Sa_25 : zFd "LoofahSaints$Saint" 25 5 5 (zy5 5) false := ⟨(zr5, zt5, 8), rfl, by decide, rfl, zq153, rfl, zi5, rfl, zy5, zp5, zn5, rfl⟩
theorem zf_Sa_28 : zFd "LoofahSaints$Saint" 28 5 6 (zy5 6) false := ⟨(zr5, zt5, 8), rfl, by decide, rfl, zq157, rfl, zi5, rfl, zy5, zp5, zn5, rfl⟩
theorem zf_Sa_31 : zFd "LoofahSaints$Saint" 31 5 7 (zy5 7) false := ⟨(zr5, zt5, 8), rfl, by decide, rfl, zq160, rfl, zi5, rfl, zy5, zp5, zn5, rfl⟩
theorem zf_Sa_35 : zFd "LoofahSaints$Saint" 35 5 1 (zy5 1) false := ⟨(zr5, zt5, 8), rfl, by decide, rfl, zq140, rfl, zi5, rfl, zy5, zp5, zn5, rfl⟩
theorem zl_Sa_47 : zYb "LoofahSaints$Saint" 47 zy_Or_sum prog_4_method_4_code 8 (Option.some Jvm.ClassFile.FieldType.int) 2 := ⟨zq359, zq3, zq362, ⟨by decide, by decide, by decide +kernel⟩, by decide⟩
theorem zl_Sa_53 : zYb "LoofahSaints$Saint" 53 zy_Jd_floorMod prog_14_method_50_code 3 (Option.some Jvm.ClassFile.FieldType.int) 2 := ⟨zq369, zq12, zq371, ⟨by decide, by decide, by decide +kernel⟩, by decide⟩
theorem zl_Sa_59 : zYb "LoofahSaints$Saint" 59 zy_Sa_isThread prog_7_method_4_code 1 (Option.some Jvm.ClassFile.FieldType.boolean) 0 := ⟨zq376, zq7, zq379, ⟨by decide, by decide, by decide +kernel⟩, by decide⟩
theorem zl_Sa_63 : zYb "LoofahSaints$Saint" 63 zy_Sa_isOf prog_7_method_5_code 4 (Option.some Jvm.ClassFile.FieldType.boolean) 1 := ⟨zq380, zq7, zq383, ⟨by decide, by decide, by decide +kernel⟩, by decide⟩
theorem zl_Sa_67 : zYb "LoofahSaints$Saint" 67 zy_Sa_worn prog_7_method_10_code 3 (Option.some Jvm.ClassFile.FieldType.int) 3 := ⟨zq394, zq7, zq396, ⟨by decide, by decide, by decide +kernel⟩, by decide⟩
theorem zl_Sa_71 : zYb "LoofahSaints$Saint" 71 zy_Jd_min prog_14_method_69_code 2 (Option.some Jvm.ClassFile.FieldType.int) 2 := ⟨zq397, zq12, zq399, ⟨by decide, by decide, by decide +kernel⟩, by decide⟩
theorem zf_Sc_9 : zFd "LoofahSaints$Scrubbing" 9 6 0 (zy6 0) true := ⟨(zr6, zt6, 5), rfl, by decide, rfl, zq108, rfl, zi6, rfl, zy6, zp6, zn6, rfl⟩
theorem zf_Sc_15 : zFd "LoofahSaints$Scrubbing" 15 6 1 (zy6 1) true := ⟨(zr6, zt6, 5), rfl, by decide, rfl, zq109, rfl, zi6, rfl, zy6, zp6, zn6, rfl⟩
theorem zf_Sc_18 : zFd "LoofahSaints$Scrubbing" 18 6 2 (zy6 2) true := ⟨(zr6, zt6, 5), rfl, by decide, rfl, zq110, rfl, zi6, rfl, zy6, zp6, zn6, rfl⟩
theorem zf_Sc_21 : zFd "LoofahSaints$Scrubbing" 21 6 3 (zy6 3) false := ⟨(zr6, zt6, 5), rfl, by decide, rfl, zq112, rfl, zi6, rfl, zy6, zp6, zn6, rfl⟩
theorem zf_Sc_25 : zFd "LoofahSaints$Scrubbing" 25 6 4 (zy6 4) false := ⟨(zr6, zt6, 5), rfl, by decide, rfl, zq113, rfl, zi6, rfl, zy6, zp6, zn6, rfl⟩
theorem zf_Sc_28 : zFd "LoofahSaints$Scrubbing" 28 1 6 (zy1 6) false := ⟨(zr1, zt1, 9), rfl, by decide, rfl, zq241, rfl, zi1, rfl, zy1, zp1, zn1, rfl⟩
theorem zf_Sc_33 : zFd "LoofahSaints$Scrubbing" 33 1 0 (zy1 0) true := ⟨(zr1, zt1, 9), rfl, by decide, rfl, zq225, rfl, zi1, rfl, zy1, zp1, zn1, rfl⟩
theorem zf_Sc_37 : zFd "LoofahSaints$Scrubbing" 37 1 8 (zy1 8) false := ⟨(zr1, zt1, 9), rfl, by decide, rfl, zq248, rfl, zi1, rfl, zy1, zp1, zn1, rfl⟩
theorem zf_Sc_41 : zFd "LoofahSaints$Scrubbing" 41 1 7 (zy1 7) false := ⟨(zr1, zt1, 9), rfl, by decide, rfl, zq244, rfl, zi1, rfl, zy1, zp1, zn1, rfl⟩
theorem zl_Sc_44 : zYb "LoofahSaints$Scrubbing" 44 zy_Sa_grit prog_7_method_6_code 4 (Option.some Jvm.ClassFile.FieldType.int) 2 := ⟨zq637, zq7, zq358, ⟨by decide, by decide, by decide +kernel⟩, by decide⟩
theorem zl_Sc_50 : zYb "LoofahSaints$Scrubbing" 50 zy_Jd_min prog_14_method_69_code 2 (Option.some Jvm.ClassFile.FieldType.int) 2 := ⟨zq638, zq12, zq399, ⟨by decide, by decide, by decide +kernel⟩, by decide⟩
theorem zf_Sc_56 : zFd "LoofahSaints$Scrubbing" 56 1 1 (zy1 1) true := ⟨(zr1, zt1, 9), rfl, by decide, rfl, zq228, rfl, zi1, rfl, zy1, zp1, zn1, rfl⟩
theorem zl_Sc_59 : zYb "LoofahSaints$Scrubbing" 59 zy_Sc_seek prog_8_method_3_code 6 (Option.none : Option Jvm.ClassFile.FieldType) 5 := ⟨zq639, zq5, zq641, ⟨by decide, by decide, by decide +kernel⟩, by decide⟩
theorem zl_Sc_63 : zYb "LoofahSaints$Scrubbing" 63 zy_Jd_bitCount prog_13_method_49_code 1 (Option.some Jvm.ClassFile.FieldType.int) 1 := ⟨zq642, zq18, zq578, ⟨by decide, by decide, by decide +kernel⟩, by decide⟩
theorem zl_Sc_75 : zYb "LoofahSaints$Scrubbing" 75 zy_Sa_takes prog_7_method_7_code 7 (Option.some Jvm.ClassFile.FieldType.int) 2 := ⟨zq644, zq7, zq375, ⟨by decide, by decide, by decide +kernel⟩, by decide⟩
theorem zf_Sh_9 : zFd "LoofahSaints$Sharing" 9 7 0 (zy7 0) true := ⟨(zr7, zt7, 5), rfl, by decide, rfl, zq85, rfl, zi7, rfl, zy7, zp7, zn7, rfl⟩
theorem zf_Sh_15 : zFd "LoofahSaints$Sharing" 15 7 1 (zy7 1) true := ⟨(zr7, zt7, 5), rfl, by decide, rfl, zq86, rfl, zi7, rfl, zy7, zp7, zn7, rfl⟩
theorem zf_Sh_18 : zFd "LoofahSaints$Sharing" 18 7 2 (zy7 2) true := ⟨(zr7, zt7, 5), rfl, by decide, rfl, zq87, rfl, zi7, rfl, zy7, zp7, zn7, rfl⟩
theorem zf_Sh_21 : zFd "LoofahSaints$Sharing" 21 7 3 (zy7 3) false := ⟨(zr7, zt7, 5), rfl, by decide, rfl, zq88, rfl, zi7, rfl, zy7, zp7, zn7, rfl⟩
theorem zf_Sh_25 : zFd "LoofahSaints$Sharing" 25 7 4 (zy7 4) false := ⟨(zr7, zt7, 5), rfl, by decide, rfl, zq89, rfl, zi7, rfl, zy7, zp7, zn7, rfl⟩
theorem zf_Sh_28 : zFd "LoofahSaints$Sharing" 28 1 6 (zy1 6) false := ⟨(zr1, zt1, 9), rfl, by decide, rfl, zq240, rfl, zi1, rfl, zy1, zp1, zn1, rfl⟩
theorem zf_Sh_31 : zFd "LoofahSaints$Sharing" 31 1 0 (zy1 0) true := ⟨(zr1, zt1, 9), rfl, by decide, rfl, zq224, rfl, zi1, rfl, zy1, zp1, zn1, rfl⟩
theorem zf_Sh_35 : zFd "LoofahSaints$Sharing" 35 1 8 (zy1 8) false := ⟨(zr1, zt1, 9), rfl, by decide, rfl, zq249, rfl, zi1, rfl, zy1, zp1, zn1, rfl⟩
theorem zf_Sh_39 : zFd "LoofahSaints$Sharing" 39 1 7 (zy1 7) false := ⟨(zr1, zt1, 9), rfl, by decide, rfl, zq245, rfl, zi1, rfl, zy1, zp1, zn1, rfl⟩
theorem zl_Sh_42 : zYb "LoofahSaints$Sharing" 42 zy_Sa_grit prog_7_method_6_code 4 (Option.some Jvm.ClassFile.FieldType.int) 2 := ⟨zq595, zq7, zq358, ⟨by decide, by decide, by decide +kernel⟩, by decide⟩
theorem zl_Sh_48 : zYb "LoofahSaints$Sharing" 48 zy_Sa_isThread prog_7_method_4_code 1 (Option.some Jvm.ClassFile.FieldType.boolean) 0 := ⟨zq590, zq7, zq379, ⟨by decide, by decide, by decide +kernel⟩, by decide⟩
theorem zf_Sh_52 : zFd "LoofahSaints$Sharing" 52 1 1 (zy1 1) true := ⟨(zr1, zt1, 9), rfl, by decide, rfl, zq229, rfl, zi1, rfl, zy1, zp1, zn1, rfl⟩
theorem zl_Sh_55 : zYb "LoofahSaints$Sharing" 55 zy_Sa_takes prog_7_method_7_code 7 (Option.some Jvm.ClassFile.FieldType.int) 2 := ⟨zq596, zq7, zq375, ⟨by decide, by decide, by decide +kernel⟩, by decide⟩
theorem zl_Sh_58 : zYb "LoofahSaints$Sharing" 58 zy_Jd_bitCount prog_13_method_49_code 1 (Option.some Jvm.ClassFile.FieldType.int) 1 := ⟨zq597, zq18, zq578, ⟨by decide, by decide, by decide +kernel⟩, by decide⟩
theorem zl_Sh_64 : zYb "LoofahSaints$Sharing" 64 zy_Sh_seek prog_9_method_3_code 6 (Option.none : Option Jvm.ClassFile.FieldType) 4 := ⟨zq598, zq4, zq600, ⟨by decide, by decide, by decide +kernel⟩, by decide⟩
theorem zl_Sh_74 : zYb "LoofahSaints$Sharing" 74 zy_Sh_share prog_9_method_2_code 8 (Option.none : Option Jvm.ClassFile.FieldType) 2 := ⟨zq591, zq4, zq594, ⟨by decide, by decide, by decide +kernel⟩, by decide⟩
theorem zl_Sh_78 : zYb "LoofahSaints$Sharing" 78 zy_Sh_dearest prog_9_method_5_code 5 (Option.some Jvm.ClassFile.FieldType.int) 1 := ⟨zq606, zq4, zq589, ⟨by decide, by decide, by decide +kernel⟩, by decide⟩
theorem zf_Ta_9 : zFd "LoofahSaints$Tape" 9 8 0 (zy8 0) true := ⟨(zr8, zt8, 3), rfl, by decide, rfl, zq275, rfl, zi8, rfl, zy8, zp8, zn8, rfl⟩
theorem zf_Ta_15 : zFd "LoofahSaints$Tape" 15 8 1 (zy8 1) false := ⟨(zr8, zt8, 3), rfl, by decide, rfl, zq277, rfl, zi8, rfl, zy8, zp8, zn8, rfl⟩
theorem zf_Ta_19 : zFd "LoofahSaints$Tape" 19 8 2 (zy8 2) false := ⟨(zr8, zt8, 3), rfl, by decide, rfl, zq279, rfl, zi8, rfl, zy8, zp8, zn8, rfl⟩
theorem zl_Ta_22 : zYb "LoofahSaints$Tape" 22 zy_Jd_min prog_14_method_69_code 2 (Option.some Jvm.ClassFile.FieldType.int) 2 := ⟨zq769, zq12, zq399, ⟨by decide, by decide, by decide +kernel⟩, by decide⟩
theorem zl_Ta_28 : zYb "LoofahSaints$Tape" 28 zy_Jd_max prog_14_method_65_code 2 (Option.some Jvm.ClassFile.FieldType.int) 2 := ⟨zq770, zq12, zq772, ⟨by decide, by decide, by decide +kernel⟩, by decide⟩
theorem zc_Law_7 : zNw "LoofahSaintsLaw" 7 9 12 := ⟨(zr9, zt9, 12), rfl, rfl, zq19, zq20, zq1, zi9, zy9, zp9, by decide +kernel⟩
theorem zl_Law_9 : zYb "LoofahSaintsLaw" 9 zy_Ls_init prog_1_method_1_code 3 (Option.none : Option Jvm.ClassFile.FieldType) 0 := ⟨zq21, zq1, zq23, ⟨by decide, by decide, by decide +kernel⟩, by decide⟩
theorem zc_Law_10 : zNw "LoofahSaintsLaw" 10 10 32 := ⟨(zr10, zt10, 32), rfl, rfl, zq790, zq791, zq11, zi10, zy10, zp10, by decide +kernel⟩
theorem zl_Law_12 : zYb "LoofahSaintsLaw" 12 zy_Mo_init prog_12_method_1_code 1 (Option.none : Option Jvm.ClassFile.FieldType) 0 := ⟨zq792, zq11, zq794, ⟨by decide, by decide, by decide +kernel⟩, by decide⟩
theorem zl_Law_13 : zYb "LoofahSaintsLaw" 13 zy_Ls_saint prog_1_method_2_code 4 (Option.some Jvm.ClassFile.FieldType.int) 3 := ⟨zq326, zq1, zq329, ⟨by decide, by decide, by decide +kernel⟩, by decide⟩
theorem zl_Law_17 : zYb "LoofahSaintsLaw" 17 zy_Mo_saint prog_12_method_17_code 6 (Option.some Jvm.ClassFile.FieldType.int) 3 := ⟨zq905, zq11, zq908, ⟨by decide, by decide, by decide +kernel⟩, by decide⟩
theorem zl_Law_18 : zYb "LoofahSaintsLaw" 18 zy_Ls_of prog_1_method_3_code 4 (Option.some Jvm.ClassFile.FieldType.int) 2 := ⟨zq340, zq1, zq343, ⟨by decide, by decide, by decide +kernel⟩, by decide⟩
theorem zl_Law_22 : zYb "LoofahSaintsLaw" 22 zy_Mo_of prog_12_method_18_code 3 (Option.some Jvm.ClassFile.FieldType.int) 2 := ⟨zq915, zq11, zq918, ⟨by decide, by decide, by decide +kernel⟩, by decide⟩
theorem zl_Law_23 : zYb "LoofahSaintsLaw" 23 zy_Ls_set prog_1_method_4_code 6 (Option.some Jvm.ClassFile.FieldType.int) 3 := ⟨zq400, zq1, zq403, ⟨by decide, by decide, by decide +kernel⟩, by decide⟩
theorem zl_Law_26 : zYb "LoofahSaintsLaw" 26 zy_Mo_set prog_12_method_19_code 5 (Option.some Jvm.ClassFile.FieldType.int) 3 := ⟨zq1018, zq11, zq1021, ⟨by decide, by decide, by decide +kernel⟩, by decide⟩
theorem zl_Law_27 : zYb "LoofahSaintsLaw" 27 zy_Ls_peg prog_1_method_5_code 5 (Option.some Jvm.ClassFile.FieldType.int) 2 := ⟨zq404, zq1, zq407, ⟨by decide, by decide, by decide +kernel⟩, by decide⟩
theorem zl_Law_30 : zYb "LoofahSaintsLaw" 30 zy_Mo_peg prog_12_method_20_code 4 (Option.some Jvm.ClassFile.FieldType.int) 2 := ⟨zq1022, zq11, zq1025, ⟨by decide, by decide, by decide +kernel⟩, by decide⟩
theorem zl_Law_31 : zYb "LoofahSaintsLaw" 31 zy_Ls_novice prog_1_method_6_code 6 (Option.some Jvm.ClassFile.FieldType.int) 3 := ⟨zq408, zq1, zq411, ⟨by decide, by decide, by decide +kernel⟩, by decide⟩
theorem zl_Law_34 : zYb "LoofahSaintsLaw" 34 zy_Mo_novice prog_12_method_21_code 5 (Option.some Jvm.ClassFile.FieldType.int) 3 := ⟨zq1027, zq11, zq1030, ⟨by decide, by decide, by decide +kernel⟩, by decide⟩
theorem zl_Law_35 : zYb "LoofahSaintsLaw" 35 zy_Ls_use prog_1_method_7_code 3 (Option.some Jvm.ClassFile.FieldType.int) 2 := ⟨zq412, zq1, zq415, ⟨by decide, by decide, by decide +kernel⟩, by decide⟩
theorem zl_Law_38 : zYb "LoofahSaintsLaw" 38 zy_Mo_use prog_12_method_22_code 3 (Option.some Jvm.ClassFile.FieldType.int) 2 := ⟨zq1031, zq11, zq1034, ⟨by decide, by decide, by decide +kernel⟩, by decide⟩
theorem zl_Law_39 : zYb "LoofahSaintsLaw" 39 zy_Ls_row prog_1_method_8_code 6 (Option.some Jvm.ClassFile.FieldType.int) 3 := ⟨zq425, zq1, zq428, ⟨by decide, by decide, by decide +kernel⟩, by decide⟩
theorem zl_Law_42 : zYb "LoofahSaintsLaw" 42 zy_Mo_row prog_12_method_23_code 5 (Option.some Jvm.ClassFile.FieldType.int) 3 := ⟨zq1039, zq11, zq1042, ⟨by decide, by decide, by decide +kernel⟩, by decide⟩
theorem zl_Law_43 : zYb "LoofahSaintsLaw" 43 zy_Ls_feed prog_1_method_9_code 2 (Option.some Jvm.ClassFile.FieldType.int) 1 := ⟨zq429, zq1, zq432, ⟨by decide, by decide, by decide +kernel⟩, by decide⟩
theorem zl_Law_47 : zYb "LoofahSaintsLaw" 47 zy_Mo_feed prog_12_method_24_code 2 (Option.some Jvm.ClassFile.FieldType.int) 1 := ⟨zq1043, zq11, zq1046, ⟨by decide, by decide, by decide +kernel⟩, by decide⟩
theorem zl_Law_48 : zYb "LoofahSaintsLaw" 48 zy_Ls_order prog_1_method_10_code 3 (Option.some Jvm.ClassFile.FieldType.int) 0 := ⟨zq433, zq1, zq436, ⟨by decide, by decide, by decide +kernel⟩, by decide⟩
theorem zl_Law_52 : zYb "LoofahSaintsLaw" 52 zy_Mo_order prog_12_method_36_code 2 (Option.some Jvm.ClassFile.FieldType.int) 0 := ⟨zq1047, zq11, zq1050, ⟨by decide, by decide, by decide +kernel⟩, by decide⟩
theorem zl_Law_53 : zYb "LoofahSaintsLaw" 53 zy_Ls_told prog_1_method_11_code 2 (Option.some Jvm.ClassFile.FieldType.int) 1 := ⟨zq539, zq1, zq542, ⟨by decide, by decide, by decide +kernel⟩, by decide⟩
theorem zl_Law_56 : zYb "LoofahSaintsLaw" 56 zy_Mo_told prog_12_method_48_code 2 (Option.some Jvm.ClassFile.FieldType.int) 1 := ⟨zq1051, zq11, zq1054, ⟨by decide, by decide, by decide +kernel⟩, by decide⟩
theorem zl_Law_57 : zYb "LoofahSaintsLaw" 57 zy_Ls_pass prog_1_method_12_code 2 (Option.some Jvm.ClassFile.FieldType.int) 1 := ⟨zq607, zq1, zq610, ⟨by decide, by decide, by decide +kernel⟩, by decide⟩
theorem zl_Law_60 : zYb "LoofahSaintsLaw" 60 zy_Mo_pass prog_12_method_49_code 3 (Option.some Jvm.ClassFile.FieldType.int) 1 := ⟨zq1086, zq11, zq1089, ⟨by decide, by decide, by decide +kernel⟩, by decide⟩
theorem zl_Law_61 : zYb "LoofahSaintsLaw" 61 zy_Ls_on prog_1_method_13_code 3 (Option.some Jvm.ClassFile.FieldType.int) 2 := ⟨zq616, zq1, zq619, ⟨by decide, by decide, by decide +kernel⟩, by decide⟩
theorem zl_Law_64 : zYb "LoofahSaintsLaw" 64 zy_Mo_on_ prog_12_method_50_code 5 (Option.some Jvm.ClassFile.FieldType.int) 2 := ⟨zq1090, zq11, zq1093, ⟨by decide, by decide, by decide +kernel⟩, by decide⟩
theorem zl_Law_65 : zYb "LoofahSaintsLaw" 65 zy_Ls_shared prog_1_method_15_code 2 (Option.some Jvm.ClassFile.FieldType.int) 1 := ⟨zq620, zq1, zq623, ⟨by decide, by decide, by decide +kernel⟩, by decide⟩
theorem zl_Law_68 : zYb "LoofahSaintsLaw" 68 zy_Mo_shared prog_12_method_53_code 3 (Option.some Jvm.ClassFile.FieldType.int) 1 := ⟨zq1094, zq11, zq1097, ⟨by decide, by decide, by decide +kernel⟩, by decide⟩
theorem zl_Law_69 : zYb "LoofahSaintsLaw" 69 zy_Ls_scrubbed prog_1_method_16_code 4 (Option.some Jvm.ClassFile.FieldType.int) 3 := ⟨zq629, zq1, zq632, ⟨by decide, by decide, by decide +kernel⟩, by decide⟩
theorem zl_Law_72 : zYb "LoofahSaintsLaw" 72 zy_Mo_scrubbed prog_12_method_56_code 4 (Option.some Jvm.ClassFile.FieldType.int) 3 := ⟨zq1098, zq11, zq1101, ⟨by decide, by decide, by decide +kernel⟩, by decide⟩
theorem zl_Law_73 : zYb "LoofahSaintsLaw" 73 zy_Ls_see prog_1_method_17_code 4 (Option.some Jvm.ClassFile.FieldType.int) 3 := ⟨zq645, zq1, zq648, ⟨by decide, by decide, by decide +kernel⟩, by decide⟩
theorem zl_Law_76 : zYb "LoofahSaintsLaw" 76 zy_Mo_see prog_12_method_57_code 5 (Option.some Jvm.ClassFile.FieldType.int) 3 := ⟨zq1106, zq11, zq1109, ⟨by decide, by decide, by decide +kernel⟩, by decide⟩
theorem zl_Law_77 : zYb "LoofahSaintsLaw" 77 zy_Ls_holed prog_1_method_18_code 7 (Option.some Jvm.ClassFile.FieldType.int) 2 := ⟨zq657, zq1, zq660, ⟨by decide, by decide, by decide +kernel⟩, by decide⟩
theorem zl_Law_80 : zYb "LoofahSaintsLaw" 80 zy_Mo_holed prog_12_method_60_code 3 (Option.some Jvm.ClassFile.FieldType.int) 2 := ⟨zq1110, zq11, zq1113, ⟨by decide, by decide, by decide +kernel⟩, by decide⟩
theorem zl_Law_81 : zYb "LoofahSaintsLaw" 81 zy_Ls_can prog_1_method_19_code 6 (Option.some Jvm.ClassFile.FieldType.int) 2 := ⟨zq670, zq1, zq673, ⟨by decide, by decide, by decide +kernel⟩, by decide⟩
theorem zl_Law_84 : zYb "LoofahSaintsLaw" 84 zy_Mo_can prog_12_method_61_code 3 (Option.some Jvm.ClassFile.FieldType.int) 2 := ⟨zq1122, zq11, zq1125, ⟨by decide, by decide, by decide +kernel⟩, by decide⟩
theorem zl_Law_85 : zYb "LoofahSaintsLaw" 85 zy_Ls_odds prog_1_method_20_code 7 (Option.some Jvm.ClassFile.FieldType.long) 3 := ⟨zq674, zq1, zq677, ⟨by decide, by decide, by decide +kernel⟩, by decide⟩
theorem zl_Law_89 : zYb "LoofahSaintsLaw" 89 zy_Mo_odds prog_12_method_63_code 7 (Option.some Jvm.ClassFile.FieldType.long) 3 := ⟨zq1126, zq11, zq1129, ⟨by decide, by decide, by decide +kernel⟩, by decide⟩
theorem zl_Law_90 : zYb "LoofahSaintsLaw" 90 zy_Ls_mean prog_1_method_21_code 3 (Option.some Jvm.ClassFile.FieldType.long) 2 := ⟨zq682, zq1, zq685, ⟨by decide, by decide, by decide +kernel⟩, by decide⟩
theorem zl_Law_94 : zYb "LoofahSaintsLaw" 94 zy_Mo_mean prog_12_method_64_code 4 (Option.some Jvm.ClassFile.FieldType.long) 2 := ⟨zq1134, zq11, zq1137, ⟨by decide, by decide, by decide +kernel⟩, by decide⟩
theorem zl_Law_95 : zYb "LoofahSaintsLaw" 95 zy_Ls_plan prog_1_method_23_code 3 (Option.some Jvm.ClassFile.FieldType.int) 2 := ⟨zq690, zq1, zq693, ⟨by decide, by decide, by decide +kernel⟩, by decide⟩
theorem zl_Law_98 : zYb "LoofahSaintsLaw" 98 zy_Mo_plan prog_12_method_65_code 4 (Option.some Jvm.ClassFile.FieldType.int) 2 := ⟨zq1142, zq11, zq1145, ⟨by decide, by decide, by decide +kernel⟩, by decide⟩
theorem zl_Law_99 : zYb "LoofahSaintsLaw" 99 zy_Ls_ends prog_1_method_24_code 3 (Option.some Jvm.ClassFile.FieldType.int) 1 := ⟨zq694, zq1, zq697, ⟨by decide, by decide, by decide +kernel⟩, by decide⟩
theorem zl_Law_102 : zYb "LoofahSaintsLaw" 102 zy_Mo_ends prog_12_method_66_code 5 (Option.some Jvm.ClassFile.FieldType.int) 1 := ⟨zq1146, zq11, zq1149, ⟨by decide, by decide, by decide +kernel⟩, by decide⟩
theorem zl_Law_103 : zYb "LoofahSaintsLaw" 103 zy_Ls_book prog_1_method_25_code 3 (Option.some Jvm.ClassFile.FieldType.int) 2 := ⟨zq704, zq1, zq707, ⟨by decide, by decide, by decide +kernel⟩, by decide⟩
theorem zl_Law_106 : zYb "LoofahSaintsLaw" 106 zy_Mo_book prog_12_method_67_code 3 (Option.some Jvm.ClassFile.FieldType.int) 2 := ⟨zq1150, zq11, zq1153, ⟨by decide, by decide, by decide +kernel⟩, by decide⟩
theorem zl_Law_107 : zYb "LoofahSaintsLaw" 107 zy_Ls_looked prog_1_method_26_code 3 (Option.some Jvm.ClassFile.FieldType.int) 0 := ⟨zq708, zq1, zq711, ⟨by decide, by decide, by decide +kernel⟩, by decide⟩
theorem zl_Law_110 : zYb "LoofahSaintsLaw" 110 zy_Mo_looked prog_12_method_68_code 2 (Option.some Jvm.ClassFile.FieldType.int) 0 := ⟨zq1154, zq11, zq1157, ⟨by decide, by decide, by decide +kernel⟩, by decide⟩
theorem zl_Law_111 : zYb "LoofahSaintsLaw" 111 zy_Ls_judge prog_1_method_27_code 5 (Option.some Jvm.ClassFile.FieldType.int) 2 := ⟨zq712, zq1, zq715, ⟨by decide, by decide, by decide +kernel⟩, by decide⟩
theorem zl_Law_114 : zYb "LoofahSaintsLaw" 114 zy_Mo_judge prog_12_method_81_code 6 (Option.some Jvm.ClassFile.FieldType.int) 2 := ⟨zq1205, zq11, zq1208, ⟨by decide, by decide, by decide +kernel⟩, by decide⟩
theorem zl_Law_115 : zYb "LoofahSaintsLaw" 115 zy_Ls_image prog_1_method_28_code 1 (Option.some Jvm.ClassFile.FieldType.int) 0 := ⟨zq719, zq1, zq722, ⟨by decide, by decide, by decide +kernel⟩, by decide⟩
theorem zl_Law_118 : zYb "LoofahSaintsLaw" 118 zy_Mo_image prog_12_method_4_code 1 (Option.some Jvm.ClassFile.FieldType.int) 0 := ⟨zq894, zq11, zq897, ⟨by decide, by decide, by decide +kernel⟩, by decide⟩
theorem zl_Law_119 : zYb "LoofahSaintsLaw" 119 zy_Ls_undo prog_1_method_29_code 1 (Option.some Jvm.ClassFile.FieldType.int) 0 := ⟨zq723, zq1, zq726, ⟨by decide, by decide, by decide +kernel⟩, by decide⟩
theorem zl_Law_122 : zYb "LoofahSaintsLaw" 122 zy_Mo_undo prog_12_method_5_code 1 (Option.some Jvm.ClassFile.FieldType.int) 0 := ⟨zq901, zq11, zq904, ⟨by decide, by decide, by decide +kernel⟩, by decide⟩
theorem zl_Law_123 : zYb "LoofahSaintsLaw" 123 zy_Ls_act prog_1_method_30_code 4 (Option.some Jvm.ClassFile.FieldType.int) 3 := ⟨zq727, zq1, zq730, ⟨by decide, by decide, by decide +kernel⟩, by decide⟩
theorem zl_Law_126 : zYb "LoofahSaintsLaw" 126 zy_Mo_act prog_12_method_72_code 4 (Option.some Jvm.ClassFile.FieldType.int) 3 := ⟨zq1158, zq11, zq1161, ⟨by decide, by decide, by decide +kernel⟩, by decide⟩
theorem zl_Law_127 : zYb "LoofahSaintsLaw" 127 zy_Ls_trace prog_1_method_31_code 2 (Option.some Jvm.ClassFile.FieldType.int) 1 := ⟨zq747, zq1, zq750, ⟨by decide, by decide, by decide +kernel⟩, by decide⟩
theorem zl_Law_130 : zYb "LoofahSaintsLaw" 130 zy_Mo_trace prog_12_method_73_code 2 (Option.some Jvm.ClassFile.FieldType.int) 1 := ⟨zq1174, zq11, zq1177, ⟨by decide, by decide, by decide +kernel⟩, by decide⟩
theorem zl_Law_131 : zYb "LoofahSaintsLaw" 131 zy_Ls_taken prog_1_method_32_code 3 (Option.some Jvm.ClassFile.FieldType.int) 2 := ⟨zq752, zq1, zq755, ⟨by decide, by decide, by decide +kernel⟩, by decide⟩
theorem zl_Law_134 : zYb "LoofahSaintsLaw" 134 zy_Mo_taken prog_12_method_74_code 4 (Option.some Jvm.ClassFile.FieldType.int) 2 := ⟨zq1178, zq11, zq1181, ⟨by decide, by decide, by decide +kernel⟩, by decide⟩
theorem zl_Law_135 : zYb "LoofahSaintsLaw" 135 zy_Ls_count prog_1_method_33_code 2 (Option.some Jvm.ClassFile.FieldType.int) 1 := ⟨zq757, zq1, zq760, ⟨by decide, by decide, by decide +kernel⟩, by decide⟩
theorem zl_Law_138 : zYb "LoofahSaintsLaw" 138 zy_Mo_count prog_12_method_75_code 2 (Option.some Jvm.ClassFile.FieldType.int) 1 := ⟨zq1182, zq11, zq1185, ⟨by decide, by decide, by decide +kernel⟩, by decide⟩
theorem zl_Law_139 : zYb "LoofahSaintsLaw" 139 zy_Ls_tape prog_1_method_34_code 4 (Option.some Jvm.ClassFile.FieldType.int) 3 := ⟨zq761, zq1, zq764, ⟨by decide, by decide, by decide +kernel⟩, by decide⟩
theorem zl_Law_142 : zYb "LoofahSaintsLaw" 142 zy_Mo_tape prog_12_method_77_code 5 (Option.some Jvm.ClassFile.FieldType.int) 3 := ⟨zq1186, zq11, zq1189, ⟨by decide, by decide, by decide +kernel⟩, by decide⟩
theorem zl_Law_145 : zYb "LoofahSaintsLaw" 145 zy_Ls_item prog_1_method_35_code 6 (Option.some Jvm.ClassFile.FieldType.int) 3 := ⟨zq773, zq1, zq776, ⟨by decide, by decide, by decide +kernel⟩, by decide⟩
theorem zl_Law_149 : zYb "LoofahSaintsLaw" 149 zy_Mo_item prog_12_method_78_code 6 (Option.some Jvm.ClassFile.FieldType.int) 3 := ⟨zq1193, zq11, zq1196, ⟨by decide, by decide, by decide +kernel⟩, by decide⟩
theorem zl_Law_150 : zYb "LoofahSaintsLaw" 150 zy_Ls_read prog_1_method_36_code 3 (Option.some Jvm.ClassFile.FieldType.long) 2 := ⟨zq781, zq1, zq784, ⟨by decide, by decide, by decide +kernel⟩, by decide⟩
theorem zl_Law_153 : zYb "LoofahSaintsLaw" 153 zy_Mo_read prog_12_method_79_code 3 (Option.some Jvm.ClassFile.FieldType.long) 2 := ⟨zq1197, zq11, zq1200, ⟨by decide, by decide, by decide +kernel⟩, by decide⟩
theorem zl_Law_154 : zYb "LoofahSaintsLaw" 154 zy_Ls_shift prog_1_method_37_code 8 (Option.some Jvm.ClassFile.FieldType.int) 5 := ⟨zq785, zq1, zq788, ⟨by decide, by decide, by decide +kernel⟩, by decide⟩
theorem zl_Law_158 : zYb "LoofahSaintsLaw" 158 zy_Mo_shift prog_12_method_80_code 7 (Option.some Jvm.ClassFile.FieldType.int) 5 := ⟨zq1201, zq11, zq1204, ⟨by decide, by decide, by decide +kernel⟩, by decide⟩
theorem zf_Mo_9 : zFd "LoofahSaintsModel" 9 10 0 (zy10 0) true := ⟨(zr10, zt10, 32), rfl, by decide, rfl, zq796, rfl, zi10, rfl, zy10, zp10, zn10, rfl⟩
theorem zf_Mo_15 : zFd "LoofahSaintsModel" 15 10 1 (zy10 1) true := ⟨(zr10, zt10, 32), rfl, by decide, rfl, zq797, rfl, zi10, rfl, zy10, zp10, zn10, rfl⟩
theorem zf_Mo_18 : zFd "LoofahSaintsModel" 18 10 2 (zy10 2) true := ⟨(zr10, zt10, 32), rfl, by decide, rfl, zq798, rfl, zi10, rfl, zy10, zp10, zn10, rfl⟩
theorem zf_Mo_21 : zFd "LoofahSaintsModel" 21 10 4 (zy10 4) true := ⟨(zr10, zt10, 32), rfl, by decide, rfl, zq800, rfl, zi10, rfl, zy10, zp10, zn10, rfl⟩
theorem zf_Mo_24 : zFd "LoofahSaintsModel" 24 10 6 (zy10 6) true := ⟨(zr10, zt10, 32), rfl, by decide, rfl, zq802, rfl, zi10, rfl, zy10, zp10, zn10, rfl⟩
theorem zf_Mo_27 : zFd "LoofahSaintsModel" 27 10 7 (zy10 7) true := ⟨(zr10, zt10, 32), rfl, by decide, rfl, zq803, rfl, zi10, rfl, zy10, zp10, zn10, rfl⟩
theorem zf_Mo_30 : zFd "LoofahSaintsModel" 30 10 9 (zy10 9) true := ⟨(zr10, zt10, 32), rfl, by decide, rfl, zq805, rfl, zi10, rfl, zy10, zp10, zn10, rfl⟩
theorem zf_Mo_33 : zFd "LoofahSaintsModel" 33 10 16 (zy10 16) true := ⟨(zr10, zt10, 32), rfl, by decide, rfl, zq812, rfl, zi10, rfl, zy10, zp10, zn10, rfl⟩
theorem zf_Mo_36 : zFd "LoofahSaintsModel" 36 10 17 (zy10 17) true := ⟨(zr10, zt10, 32), rfl, by decide, rfl, zq813, rfl, zi10, rfl, zy10, zp10, zn10, rfl⟩
theorem zf_Mo_40 : zFd "LoofahSaintsModel" 40 10 18 (zy10 18) true := ⟨(zr10, zt10, 32), rfl, by decide, rfl, zq814, rfl, zi10, rfl, zy10, zp10, zn10, rfl⟩
theorem zf_Mo_43 : zFd "LoofahSaintsModel" 43 10 19 (zy10 19) true := ⟨(zr10, zt10, 32), rfl, by decide, rfl, zq815, rfl, zi10, rfl, zy10, zp10, zn10, rfl⟩
theorem zf_Mo_46 : zFd "LoofahSaintsModel" 46 10 20 (zy10 20) true := ⟨(zr10, zt10, 32), rfl, by decide, rfl, zq816, rfl, zi10, rfl, zy10, zp10, zn10, rfl⟩
theorem zf_Mo_49 : zFd "LoofahSaintsModel" 49 10 22 (zy10 22) true := ⟨(zr10, zt10, 32), rfl, by decide, rfl, zq818, rfl, zi10, rfl, zy10, zp10, zn10, rfl⟩
theorem zf_Mo_52 : zFd "LoofahSaintsModel" 52 10 24 (zy10 24) true := ⟨(zr10, zt10, 32), rfl, by decide, rfl, zq820, rfl, zi10, rfl, zy10, zp10, zn10, rfl⟩
theorem zf_Mo_55 : zFd "LoofahSaintsModel" 55 10 25 (zy10 25) true := ⟨(zr10, zt10, 32), rfl, by decide, rfl, zq821, rfl, zi10, rfl, zy10, zp10, zn10, rfl⟩
theorem zf_Mo_58 : zFd "LoofahSaintsModel" 58 10 26 (zy10 26) true := ⟨(zr10, zt10, 32), rfl, by decide, rfl, zq822, rfl, zi10, rfl, zy10, zp10, zn10, rfl⟩
theorem zf_Mo_61 : zFd "LoofahSaintsModel" 61 10 28 (zy10 28) true := ⟨(zr10, zt10, 32), rfl, by decide, rfl, zq824, rfl, zi10, rfl, zy10, zp10, zn10, rfl⟩
theorem zf_Mo_64 : zFd "LoofahSaintsModel" 64 10 29 (zy10 29) true := ⟨(zr10, zt10, 32), rfl, by decide, rfl, zq825, rfl, zi10, rfl, zy10, zp10, zn10, rfl⟩
theorem zf_Mo_67 : zFd "LoofahSaintsModel" 67 10 30 (zy10 30) true := ⟨(zr10, zt10, 32), rfl, by decide, rfl, zq826, rfl, zi10, rfl, zy10, zp10, zn10, rfl⟩
theorem zf_Mo_71 : zFd "LoofahSaintsModel" 71 10 31 (zy10 31) true := ⟨(zr10, zt10, 32), rfl, by decide, rfl, zq827, rfl, zi10, rfl, zy10, zp10, zn10, rfl⟩
theorem zf_Mo_74 : zFd "LoofahSaintsModel" 74 10 3 (zy10 3) false := ⟨(zr10, zt10, 32), rfl, by decide, rfl, zq799, rfl, zi10, rfl, zy10, zp10, zn10, rfl⟩
theorem zl_Mo_78 : zYb "LoofahSaintsModel" 78 zy_Mo_move prog_12_method_3_code 3 (Option.none : Option Jvm.ClassFile.FieldType) 2 := ⟨zq898, zq11, zq900, ⟨by decide, by decide, by decide +kernel⟩, by decide⟩
theorem zl_Mo_82 : zYb "LoofahSaintsModel" 82 zy_Mo_isIn prog_12_method_2_code 3 (Option.some Jvm.ClassFile.FieldType.boolean) 3 := ⟨zq909, zq11, zq911, ⟨by decide, by decide, by decide +kernel⟩, by decide⟩
theorem zl_Mo_86 : zYb "LoofahSaintsModel" 86 zy_Mo_wear prog_12_method_12_code 2 (Option.some Jvm.ClassFile.FieldType.int) 1 := ⟨zq939, zq11, zq942, ⟨by decide, by decide, by decide +kernel⟩, by decide⟩
theorem zl_Mo_90 : zYb "LoofahSaintsModel" 90 zy_Mo_isSet prog_12_method_8_code 1 (Option.some Jvm.ClassFile.FieldType.boolean) 1 := ⟨zq912, zq11, zq914, ⟨by decide, by decide, by decide +kernel⟩, by decide⟩
theorem zl_Mo_94 : zYb "LoofahSaintsModel" 94 zy_Mo_isSaint prog_12_method_6_code 2 (Option.some Jvm.ClassFile.FieldType.boolean) 1 := ⟨zq919, zq11, zq922, ⟨by decide, by decide, by decide +kernel⟩, by decide⟩
theorem zl_Mo_97 : zYb "LoofahSaintsModel" 97 zy_Mo_grit prog_12_method_37_code 2 (Option.some Jvm.ClassFile.FieldType.int) 1 := ⟨zq923, zq11, zq926, ⟨by decide, by decide, by decide +kernel⟩, by decide⟩
theorem zl_Mo_100 : zYb "LoofahSaintsModel" 100 zy_Mo_lasts prog_12_method_42_code 6 (Option.some Jvm.ClassFile.FieldType.int) 1 := ⟨zq987, zq11, zq990, ⟨by decide, by decide, by decide +kernel⟩, by decide⟩
theorem zl_Mo_103 : zYb "LoofahSaintsModel" 103 zy_Mo_isNovice prog_12_method_7_code 1 (Option.some Jvm.ClassFile.FieldType.boolean) 1 := ⟨zq999, zq11, zq1001, ⟨by decide, by decide, by decide +kernel⟩, by decide⟩
theorem zl_Mo_106 : zYb "LoofahSaintsModel" 106 zy_Mo_on prog_12_method_15_code 2 (Option.some Jvm.ClassFile.FieldType.int) 1 := ⟨zq1002, zq11, zq1005, ⟨by decide, by decide, by decide +kernel⟩, by decide⟩
theorem zl_Mo_109 : zYb "LoofahSaintsModel" 109 zy_Mo_comesOff prog_12_method_38_code 8 (Option.some Jvm.ClassFile.FieldType.int) 2 := ⟨zq1006, zq11, zq1009, ⟨by decide, by decide, by decide +kernel⟩, by decide⟩
theorem zl_Mo_113 : zYb "LoofahSaintsModel" 113 zy_Mo_of prog_12_method_18_code 3 (Option.some Jvm.ClassFile.FieldType.int) 2 := ⟨zq1026, zq11, zq918, ⟨by decide, by decide, by decide +kernel⟩, by decide⟩
theorem zl_Mo_116 : zYb "LoofahSaintsModel" 116 zy_Mo_isThread prog_12_method_13_code 2 (Option.some Jvm.ClassFile.FieldType.boolean) 1 := ⟨zq1014, zq11, zq1017, ⟨by decide, by decide, by decide +kernel⟩, by decide⟩
theorem zl_Mo_119 : zYb "LoofahSaintsModel" 119 zy_Mo_used prog_12_method_41_code 4 (Option.some Jvm.ClassFile.FieldType.int) 2 := ⟨zq1035, zq11, zq1038, ⟨by decide, by decide, by decide +kernel⟩, by decide⟩
theorem zl_Mo_122 : zYb "LoofahSaintsModel" 122 zy_Mo_kind prog_12_method_9_code 2 (Option.some Jvm.ClassFile.FieldType.int) 1 := ⟨zq931, zq11, zq934, ⟨by decide, by decide, by decide +kernel⟩, by decide⟩
theorem zf_Mo_125 : zFd "LoofahSaintsModel" 125 10 5 (zy10 5) false := ⟨(zr10, zt10, 32), rfl, by decide, rfl, zq801, rfl, zi10, rfl, zy10, zp10, zn10, rfl⟩
theorem zf_Mo_129 : zFd "LoofahSaintsModel" 129 10 12 (zy10 12) false := ⟨(zr10, zt10, 32), rfl, by decide, rfl, zq808, rfl, zi10, rfl, zy10, zp10, zn10, rfl⟩
theorem zf_Mo_132 : zFd "LoofahSaintsModel" 132 10 11 (zy10 11) false := ⟨(zr10, zt10, 32), rfl, by decide, rfl, zq807, rfl, zi10, rfl, zy10, zp10, zn10, rfl⟩
theorem zf_Mo_135 : zFd "LoofahSaintsModel" 135 10 10 (zy10 10) false := ⟨(zr10, zt10, 32), rfl, by decide, rfl, zq806, rfl, zi10, rfl, zy10, zp10, zn10, rfl⟩
theorem zl_Mo_138 : zYb "LoofahSaintsModel" 138 zy_Mo_isAt prog_12_method_25_code 2 (Option.some Jvm.ClassFile.FieldType.boolean) 1 := ⟨zq951, zq11, zq954, ⟨by decide, by decide, by decide +kernel⟩, by decide⟩
theorem zl_Mo_141 : zYb "LoofahSaintsModel" 141 zy_Mo_isDigit prog_12_method_27_code 1 (Option.some Jvm.ClassFile.FieldType.boolean) 0 := ⟨zq963, zq11, zq966, ⟨by decide, by decide, by decide +kernel⟩, by decide⟩
theorem zl_Mo_145 : zYb "LoofahSaintsModel" 145 zy_Mo_takes prog_12_method_26_code 2 (Option.none : Option Jvm.ClassFile.FieldType) 1 := ⟨zq955, zq11, zq958, ⟨by decide, by decide, by decide +kernel⟩, by decide⟩
theorem zl_Mo_149 : zYb "LoofahSaintsModel" 149 zy_Mo_number prog_12_method_28_code 2 (Option.some Jvm.ClassFile.FieldType.int) 0 := ⟨zq959, zq11, zq962, ⟨by decide, by decide, by decide +kernel⟩, by decide⟩
theorem zf_Mo_153 : zFd "LoofahSaintsModel" 153 10 13 (zy10 13) false := ⟨(zr10, zt10, 32), rfl, by decide, rfl, zq809, rfl, zi10, rfl, zy10, zp10, zn10, rfl⟩
theorem zl_Mo_156 : zYb "LoofahSaintsModel" 156 zy_Mo_factor prog_12_method_30_code 2 (Option.some Jvm.ClassFile.FieldType.boolean) 0 := ⟨zq975, zq11, zq978, ⟨by decide, by decide, by decide +kernel⟩, by decide⟩
theorem zl_Mo_159 : zYb "LoofahSaintsModel" 159 zy_Mo_any prog_12_method_32_code 3 (Option.some Jvm.ClassFile.FieldType.boolean) 0 := ⟨zq967, zq11, zq970, ⟨by decide, by decide, by decide +kernel⟩, by decide⟩
theorem zl_Mo_162 : zYb "LoofahSaintsModel" 162 zy_Mo_test prog_12_method_29_code 4 (Option.some Jvm.ClassFile.FieldType.boolean) 0 := ⟨zq979, zq11, zq982, ⟨by decide, by decide, by decide +kernel⟩, by decide⟩
theorem zl_Mo_165 : zYb "LoofahSaintsModel" 165 zy_Mo_both prog_12_method_31_code 3 (Option.some Jvm.ClassFile.FieldType.boolean) 0 := ⟨zq971, zq11, zq974, ⟨by decide, by decide, by decide +kernel⟩, by decide⟩
theorem zf_Mo_168 : zFd "LoofahSaintsModel" 168 10 15 (zy10 15) false := ⟨(zr10, zt10, 32), rfl, by decide, rfl, zq811, rfl, zi10, rfl, zy10, zp10, zn10, rfl⟩
theorem zf_Mo_171 : zFd "LoofahSaintsModel" 171 10 14 (zy10 14) false := ⟨(zr10, zt10, 32), rfl, by decide, rfl, zq810, rfl, zi10, rfl, zy10, zp10, zn10, rfl⟩
theorem zl_Mo_174 : zYb "LoofahSaintsModel" 174 zy_Mo_clause prog_12_method_33_code 4 (Option.none : Option Jvm.ClassFile.FieldType) 0 := ⟨zq947, zq11, zq950, ⟨by decide, by decide, by decide +kernel⟩, by decide⟩
theorem zl_Mo_177 : zYb "LoofahSaintsModel" 177 zy_Mo_v prog_12_method_10_code 2 (Option.some Jvm.ClassFile.FieldType.int) 1 := ⟨zq935, zq11, zq938, ⟨by decide, by decide, by decide +kernel⟩, by decide⟩
theorem zl_Mo_180 : zYb "LoofahSaintsModel" 180 zy_Mo_readAll prog_12_method_34_code 2 (Option.some Jvm.ClassFile.FieldType.boolean) 0 := ⟨zq943, zq11, zq946, ⟨by decide, by decide, by decide +kernel⟩, by decide⟩
theorem zf_Mo_183 : zFd "LoofahSaintsModel" 183 10 8 (zy10 8) false := ⟨(zr10, zt10, 32), rfl, by decide, rfl, zq804, rfl, zi10, rfl, zy10, zp10, zn10, rfl⟩
theorem zl_Mo_186 : zYb "LoofahSaintsModel" 186 zy_Mo_readFor prog_12_method_35_code 4 (Option.none : Option Jvm.ClassFile.FieldType) 1 := ⟨zq927, zq11, zq930, ⟨by decide, by decide, by decide +kernel⟩, by decide⟩
theorem zl_Mo_189 : zYb "LoofahSaintsModel" 189 zy_Mo_isWet prog_12_method_14_code 2 (Option.some Jvm.ClassFile.FieldType.boolean) 1 := ⟨zq983, zq11, zq986, ⟨by decide, by decide, by decide +kernel⟩, by decide⟩
theorem zl_Mo_192 : zYb "LoofahSaintsModel" 192 zy_Mo_holes prog_12_method_11_code 2 (Option.some Jvm.ClassFile.FieldType.int) 1 := ⟨zq1010, zq11, zq1013, ⟨by decide, by decide, by decide +kernel⟩, by decide⟩
theorem zl_Mo_195 : zYb "LoofahSaintsModel" 195 zy_Jd_min prog_14_method_69_code 2 (Option.some Jvm.ClassFile.FieldType.int) 2 := ⟨zq998, zq12, zq399, ⟨by decide, by decide, by decide +kernel⟩, by decide⟩
theorem zl_Mo_200 : zYb "LoofahSaintsModel" 200 zy_Mo_hardNow prog_12_method_39_code 1 (Option.some Jvm.ClassFile.FieldType.int) 0 := ⟨zq991, zq11, zq994, ⟨by decide, by decide, by decide +kernel⟩, by decide⟩
theorem zl_Mo_203 : zYb "LoofahSaintsModel" 203 zy_Mo_worn prog_12_method_40_code 3 (Option.some Jvm.ClassFile.FieldType.int) 3 := ⟨zq995, zq11, zq997, ⟨by decide, by decide, by decide +kernel⟩, by decide⟩
theorem zl_Mo_207 : zYb "LoofahSaintsModel" 207 zy_Mo_many prog_12_method_16_code 3 (Option.some Jvm.ClassFile.FieldType.int) 1 := ⟨zq1059, zq11, zq1061, ⟨by decide, by decide, by decide +kernel⟩, by decide⟩
theorem zl_Mo_210 : zYb "LoofahSaintsModel" 210 zy_Mo_day prog_12_method_43_code 3 (Option.none : Option Jvm.ClassFile.FieldType) 0 := ⟨zq1082, zq11, zq1085, ⟨by decide, by decide, by decide +kernel⟩, by decide⟩
theorem zl_Mo_213 : zYb "LoofahSaintsModel" 213 zy_Mo_onAll prog_12_method_44_code 3 (Option.some Jvm.ClassFile.FieldType.int) 0 := ⟨zq1055, zq11, zq1058, ⟨by decide, by decide, by decide +kernel⟩, by decide⟩
theorem zl_Mo_216 : zYb "LoofahSaintsModel" 216 zy_Mo_threads prog_12_method_47_code 3 (Option.some Jvm.ClassFile.FieldType.int) 0 := ⟨zq1062, zq11, zq1065, ⟨by decide, by decide, by decide +kernel⟩, by decide⟩
theorem zl_Mo_219 : zYb "LoofahSaintsModel" 219 zy_Mo_dear prog_12_method_54_code 6 (Option.some Jvm.ClassFile.FieldType.int) 1 := ⟨zq1066, zq11, zq1069, ⟨by decide, by decide, by decide +kernel⟩, by decide⟩
theorem zl_Mo_223 : zYb "LoofahSaintsModel" 223 zy_Mo_clean prog_12_method_46_code 4 (Option.some Jvm.ClassFile.FieldType.int) 1 := ⟨zq1078, zq11, zq1081, ⟨by decide, by decide, by decide +kernel⟩, by decide⟩
theorem zf_Mo_226 : zFd "LoofahSaintsModel" 226 10 21 (zy10 21) false := ⟨(zr10, zt10, 32), rfl, by decide, rfl, zq817, rfl, zi10, rfl, zy10, zp10, zn10, rfl⟩
theorem zl_Mo_229 : zYb "LoofahSaintsModel" 229 zy_Mo_share prog_12_method_51_code 6 (Option.none : Option Jvm.ClassFile.FieldType) 4 := ⟨zq1074, zq11, zq1077, ⟨by decide, by decide, by decide +kernel⟩, by decide⟩
theorem zl_Mo_233 : zYb "LoofahSaintsModel" 233 zy_Mo_shareAll prog_12_method_52_code 4 (Option.some Jvm.ClassFile.FieldType.int) 1 := ⟨zq1070, zq11, zq1073, ⟨by decide, by decide, by decide +kernel⟩, by decide⟩
theorem zf_Mo_236 : zFd "LoofahSaintsModel" 236 10 23 (zy10 23) false := ⟨(zr10, zt10, 32), rfl, by decide, rfl, zq819, rfl, zi10, rfl, zy10, zp10, zn10, rfl⟩
theorem zl_Mo_239 : zYb "LoofahSaintsModel" 239 zy_Mo_scrub prog_12_method_55_code 6 (Option.none : Option Jvm.ClassFile.FieldType) 4 := ⟨zq1102, zq11, zq1105, ⟨by decide, by decide, by decide +kernel⟩, by decide⟩
theorem zl_Mo_242 : zYb "LoofahSaintsModel" 242 zy_Mo_isAllSeen prog_12_method_58_code 4 (Option.some Jvm.ClassFile.FieldType.boolean) 1 := ⟨zq1118, zq11, zq1121, ⟨by decide, by decide, by decide +kernel⟩, by decide⟩
theorem zl_Mo_245 : zYb "LoofahSaintsModel" 245 zy_Mo_fits prog_12_method_59_code 11 (Option.some Jvm.ClassFile.FieldType.int) 4 := ⟨zq1114, zq11, zq1117, ⟨by decide, by decide, by decide +kernel⟩, by decide⟩
theorem zl_Mo_251 : zYb "LoofahSaintsModel" 251 zy_Mo_fraction prog_12_method_62_code 11 (Option.some Jvm.ClassFile.FieldType.long) 3 := ⟨zq1131, zq11, zq1133, ⟨by decide, by decide, by decide +kernel⟩, by decide⟩
theorem zl_Mo_255 : zYb "LoofahSaintsModel" 255 zy_Mo_wears prog_12_method_45_code 3 (Option.some Jvm.ClassFile.FieldType.int) 0 := ⟨zq1138, zq11, zq1141, ⟨by decide, by decide, by decide +kernel⟩, by decide⟩
theorem zf_Mo_258 : zFd "LoofahSaintsModel" 258 10 27 (zy10 27) false := ⟨(zr10, zt10, 32), rfl, by decide, rfl, zq823, rfl, zi10, rfl, zy10, zp10, zn10, rfl⟩
theorem zl_Mo_261 : zYb "LoofahSaintsModel" 261 zy_Mo_from prog_12_method_71_code 7 (Option.some Jvm.ClassFile.FieldType.int) 4 := ⟨zq1166, zq11, zq1169, ⟨by decide, by decide, by decide +kernel⟩, by decide⟩
theorem zl_Mo_264 : zYb "LoofahSaintsModel" 264 zy_Mo_body prog_12_method_69_code 2 (Option.some Jvm.ClassFile.FieldType.int) 1 := ⟨zq1170, zq11, zq1173, ⟨by decide, by decide, by decide +kernel⟩, by decide⟩
theorem zl_Mo_267 : zYb "LoofahSaintsModel" 267 zy_Mo_all prog_12_method_70_code 4 (Option.some Jvm.ClassFile.FieldType.int) 3 := ⟨zq1162, zq11, zq1165, ⟨by decide, by decide, by decide +kernel⟩, by decide⟩
theorem zl_Mo_271 : zYb "LoofahSaintsModel" 271 zy_Mo_isTape prog_12_method_76_code 1 (Option.some Jvm.ClassFile.FieldType.boolean) 1 := ⟨zq1190, zq11, zq1192, ⟨by decide, by decide, by decide +kernel⟩, by decide⟩
theorem zl_Js_335 : zYb "java/lang/String" 335 zy_Js_coder prog_15_method_152_code 1 (Option.some Jvm.ClassFile.FieldType.byte) 0 := ⟨zq462, zq13, zq465, ⟨by decide, by decide, by decide +kernel⟩, by decide⟩
theorem zl_Js_492 : zYb "java/lang/String" 492 zy_Js_isLatin1 prog_15_method_154_code 1 (Option.some Jvm.ClassFile.FieldType.boolean) 0 := ⟨zq472, zq13, zq475, ⟨by decide, by decide, by decide +kernel⟩, by decide⟩
theorem zl_Js_495 : zYb "java/lang/String" 495 zy_Jl_charAt prog_16_method_2_code 2 (Option.some Jvm.ClassFile.FieldType.char) 2 := ⟨zq476, zq14, zq478, ⟨by decide, by decide, by decide +kernel⟩, by decide⟩
theorem zl_Js_1059 : zYb "java/lang/String" 1059 zy_Jp_checkIndex prog_19_method_11_code 3 (Option.some Jvm.ClassFile.FieldType.int) 3 := ⟨zq484, zq15, zq486, ⟨by decide, by decide, by decide +kernel⟩, by decide⟩
theorem zl_Jl_9 : zYb "java/lang/StringLatin1" 9 zy_Js_checkIndex prog_15_method_155_code 2 (Option.none : Option Jvm.ClassFile.FieldType) 2 := ⟨zq479, zq13, zq481, ⟨by decide, by decide, by decide +kernel⟩, by decide⟩
