/-! the reference: bits read back, checks, the field's switch -/
def vaN (rb : Nat → Nat) (fm : Nat) : Nat → Nat
  | 0 => 0
  | k + 1 => vaN rb fm k + rb (fm + k) * 2 ^ k
theorem vaN_lt {rb : Nat → Nat} {fm : Nat} : ∀ {n : Nat}, (∀ j, j < n → rb (fm + j) < 2) → vaN rb fm n < 2 ^ n
  | 0, _ => by simp [vaN]
  | n + 1, h => by
    have ih := vaN_lt (rb := rb) (fm := fm) (n := n) (fun j hj => h j (by omega))
    have h2 : rb (fm + n) * 2 ^ n ≤ 1 * 2 ^ n := Nat.mul_le_mul_right _ (by have := h n (by omega); omega)
    simp only [vaN, Nat.pow_succ]
    omega
theorem valN_va {rb : Nat → Nat} {size fm : Nat} : ∀ n, fm + n ≤ size → valN rb size fm n = vaN rb fm n
  | 0, _ => rfl
  | n + 1, h => by simp only [valN, vaN]; rw [valN_va n (by omega), if_pos (by omega)]
theorem z_cx2 {x b : Nat} (hx : x < 65536) (hb : b < 256) : (nI b ^^^ nI x) &&& nI 255 = nI (b ^^^ x % 256) := by
  rw [nx_xor, pk_andN (Nat.xor_lt_two_pow (n := 32) (by omega) (by omega)) 8 (by decide)]
  congr 1
  rw [show (256 : Nat) = 2 ^ 8 from rfl, Nat.xor_mod_two_pow, Nat.mod_eq_of_lt (show b < 2 ^ 8 from hb)]
theorem z_cy2 {z : Nat} (hz : z < 256) : (nI z ^^^ nI (z * 16)) &&& nI 255 = nI (crcY z) := by
  rw [nx_xor, pk_andN (Nat.xor_lt_two_pow (n := 32) (by omega) (by omega)) 8 (by decide)]
  rfl
theorem z_cf2 {x y : Nat} (hx : x < 65536) (hy : y < 256) : (((nI (x / 256) ^^^ nI (y * 256)) ^^^ nI (y * 8)) ^^^ nI (y / 16)) &&& nI 65535 = nI ((((x / 256 ^^^ y * 256) ^^^ y * 8) ^^^ y / 16) % 65536) := by
  rw [nx_xor, nx_xor, nx_xor, pk_andN ?_ 16 (by decide)]
  exact Nat.xor_lt_two_pow (n := 32) (Nat.xor_lt_two_pow (n := 32) (Nat.xor_lt_two_pow (n := 32) (by omega) (by omega)) (by omega)) (by omega)
/-- states after the switch, up to the i-th -/
def fdN (is : Bool) (G : Nat → Bool) (S : Nat → Nat) (i : Nat) : Nat → Nat := fun j => if 1 ≤ j ∧ j < i then (if is = true ∧ G j = false then 1 else 0) else S j
theorem fdN_1 (is : Bool) (G : Nat → Bool) (S : Nat → Nat) : S = fdN is G S 1 := by
  funext j
  unfold fdN
  rw [if_neg (by omega)]
theorem fdN_s (is : Bool) (G : Nat → Bool) (S : Nat → Nat) {i : Nat} (hi : 1 ≤ i) {v : Nat} (hv : v = if is = true ∧ G i = false then 1 else 0) : setN (fdN is G S i) i v = fdN is G S (i + 1) := by
  subst hv
  funext j
  unfold setN fdN
  by_cases h : j = i
  · subst h
    rw [if_pos rfl, if_pos (show 1 ≤ j ∧ j < j + 1 by omega)]
  · rw [if_neg h]
    by_cases h2 : 1 ≤ j ∧ j < i
    · rw [if_pos h2, if_pos (show 1 ≤ j ∧ j < i + 1 by omega)]
    · rw [if_neg h2, if_neg (show ¬ (1 ≤ j ∧ j < i + 1) by omega)]
