/-! BITS: closed checks over all small sets -/
/-- how many of the first k bits -/
def mnP (a : Int32) : Nat → Int32
  | 0 => 0
  | k + 1 => mnP a k + ((a >>> (nI k &&& 31)) &&& (1 : Int32))
def bcP (a : Int32) : Int32 := ((fn_Jd_bitCount a zs0).map (fun q => q.1)).getD 0
theorem c_bit {a : Int32} {S : zS} : fn_Jd_bitCount a S = some (bcP a, S) := rfl
set_option maxRecDepth 100000 in
theorem bc_mn : ∀ k, k < 4096 → bcP (nI k) = mnP (nI k) 12 := by decide +kernel
/-- the first g set bits of a: bits k.. of it, d of them, t taken before -/
def scP (a : Int32) : Nat → Nat → Int32 → Int32 → Int32
  | 0, _, _, t => t
  | d + 1, k, g, t => if g ≤ 0 then t else if ((a >>> (nI k &&& 31)) &&& (1 : Int32)) = 1 then scP a d (k + 1) (g + (-1 : Int32)) (t ||| ((1 : Int32) <<< (nI k &&& 31))) else scP a d (k + 1) g t
set_option maxRecDepth 100000 in
theorem low_bit : ∀ k, k < 12 → ∀ j, j < 2 ^ (11 - k) → nI (2 ^ k * (2 * j + 1)) &&& (-nI (2 ^ k * (2 * j + 1))) = nI (2 ^ k) ∧ nI (2 ^ k * (2 * j + 1)) ^^^ nI (2 ^ k) = nI (2 ^ k * (2 * j)) ∧ (1 : Int32) <<< (nI k &&& 31) = nI (2 ^ k) := by decide +kernel
