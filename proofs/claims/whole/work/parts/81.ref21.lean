/-! the reference: what a tag shows -/
def shQ (a b c d : Nat) : Nat := a + b * 256 + c * 65536 + d * 16777216
theorem shX_q {a b c d : Nat} (ha : a < 256) (hb : b < 256) (hc : c < 256) (hd : d < 256) : shX (shQ a b c d) = a ^^^ b ^^^ c ^^^ d := by
  unfold shX shQ
  rw [show (256 : Nat) = 2 ^ 8 from rfl, Nat.xor_mod_two_pow, Nat.xor_mod_two_pow, Nat.xor_mod_two_pow]
  rw [show (a + b * 2 ^ 8 + c * 65536 + d * 16777216) % 2 ^ 8 = a by omega, show (a + b * 2 ^ 8 + c * 65536 + d * 16777216) / 2 ^ 8 % 2 ^ 8 = b by omega, show (a + b * 2 ^ 8 + c * 65536 + d * 16777216) / 65536 % 2 ^ 8 = c by omega, show (a + b * 2 ^ 8 + c * 65536 + d * 16777216) / 16777216 % 2 ^ 8 = d by omega]
theorem shV_bit {a b c d k : Nat} (ha : a < 256) (hb : b < 256) (hc : c < 256) (hd : d < 256) (hk : k < 40) : shV (shQ a b c d) / 2 ^ k % 2 = (if k < 8 then a else if k < 16 then b else if k < 24 then c else if k < 32 then d else a ^^^ b ^^^ c ^^^ d) / 2 ^ (k % 8) % 2 := by
  have hx := shX_q ha hb hc hd
  have hxl := shX_lt (shQ a b c d)
  have e : shV (shQ a b c d) / 2 ^ k % 2 = shV (shQ a b c d) / 2 ^ (8 * (k / 8)) % 256 / 2 ^ (k % 8) % 2 := by rw [bt_byte (Nat.mod_lt _ (by decide)), show 8 * (k / 8) + k % 8 = k by omega]
  rw [e]
  congr 2
  unfold shV
  rw [hx] at hxl ⊢
  unfold shQ
  have h5 : k / 8 = 0 ∨ k / 8 = 1 ∨ k / 8 = 2 ∨ k / 8 = 3 ∨ k / 8 = 4 := by omega
  rcases h5 with h | h | h | h | h <;> rw [h]
  · rw [if_pos (by omega)]; omega
  · rw [if_neg (by omega), if_pos (by omega)]; omega
  · rw [if_neg (by omega), if_neg (by omega), if_pos (by omega)]; omega
  · rw [if_neg (by omega), if_neg (by omega), if_neg (by omega), if_pos (by omega)]; omega
  · rw [if_neg (by omega), if_neg (by omega), if_neg (by omega), if_neg (by omega)]; omega
def shW (sh2 : Nat → Nat) (base V : Nat) (k : Nat) : Nat → Nat := fun j => if base ≤ j ∧ j < base + k then V / 2 ^ (j - base) % 2 else sh2 j
theorem shW_0 (sh2 : Nat → Nat) (base V : Nat) : sh2 = shW sh2 base V 0 := by
  funext j
  unfold shW
  rw [if_neg (by omega)]
theorem shW_s (sh2 : Nat → Nat) (base V k : Nat) : setN (shW sh2 base V k) (base + k) (V / 2 ^ k % 2) = shW sh2 base V (k + 1) := by
  funext j
  unfold setN shW
  by_cases h : j = base + k
  · subst h
    rw [if_pos rfl, if_pos (by omega), Nat.add_sub_cancel_left]
  · rw [if_neg h]
    by_cases h2 : base ≤ j ∧ j < base + k
    · rw [if_pos h2, if_pos (by omega)]
    · rw [if_neg h2, if_neg (by omega)]
