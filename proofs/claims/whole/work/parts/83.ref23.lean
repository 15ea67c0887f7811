/-! the reference: a new tag -/
def nuW (Nu : Nat → Nat) (base : Nat) (a b c : Int32) (k : Nat) : Nat → Nat := fun j => if base ≤ j ∧ j < base + k then nbN a b c (j - base) else Nu j
theorem nuW_0 (Nu : Nat → Nat) (base : Nat) (a b c : Int32) : Nu = nuW Nu base a b c 0 := by
  funext j
  unfold nuW
  rw [if_neg (by omega)]
theorem nuW_s (Nu : Nat → Nat) (base : Nat) (a b c : Int32) (k : Nat) : setN (nuW Nu base a b c k) (base + k) (nbN a b c k) = nuW Nu base a b c (k + 1) := by
  funext j
  unfold setN nuW
  by_cases h : j = base + k
  · subst h
    rw [if_pos rfl, if_pos (by omega), Nat.add_sub_cancel_left]
  · rw [if_neg h]
    by_cases h2 : base ≤ j ∧ j < base + k
    · rw [if_pos h2, if_pos (by omega)]
    · rw [if_neg h2, if_neg (by omega)]
theorem nuW_at {Nu : Nat → Nat} {base : Nat} {a b c : Int32} {k i : Nat} (h : i < k) : nuW Nu base a b c k (base + i) = nbN a b c i := by
  unfold nuW
  rw [if_pos (by omega), Nat.add_sub_cancel_left]
theorem shW_at {sh2 : Nat → Nat} {base V k i : Nat} (h : i < k) : shW sh2 base V k (base + i) = V / 2 ^ i % 2 := by
  unfold shW
  rw [if_pos (by omega), Nat.add_sub_cancel_left]
theorem shW_out {sh2 : Nat → Nat} {base V k j : Nat} (h : j < base ∨ base + k ≤ j) : shW sh2 base V k j = sh2 j := by
  unfold shW
  rw [if_neg (by omega)]
/-- the same number, as the reference asks it -/
def smR (Z Nu : Nat → Nat) (lv2 : Nat) (a b c : Int32) (j : Nat) : Prop := Z (j + 1) = 3 * lv2 + 1 ∧ ∀ k, k < 3 * lv2 + 1 → Nu (10 * (j + 1) + k) = nbN a b c k
