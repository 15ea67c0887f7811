/-! the reference: octets behind one another; rows that are whole octets -/
theorem begN_at {rb : Nat → Nat} {size n i : Nat} (h01 : ∀ j, rb j < 2) (hn : 9 * n ≤ size) (hg : begN rb size n = true) (hi : i < n) : prN (vaN rb (9 * i) 8) 8 = rb (9 * i + 8) := by
  have h1 : begN rb size (i + 1) = true := by
    cases h : begN rb size (i + 1) with
    | true => rfl
    | false => rw [begN_false h n (by omega)] at hg; cases hg
  have h2 : begN rb size i = true := by
    cases h : begN rb size i with
    | true => rfl
    | false => rw [begN_false h n (by omega)] at hg; cases hg
  rw [begN_s h01 (by omega) h2] at h1
  exact of_decide_eq_true h1
theorem octN_low {B B2 : Nat} : ∀ n, B2 % 2 ^ (8 * n) = B % 2 ^ (8 * n) → octN B2 n = octN B n
  | 0, _ => rfl
  | n + 1, h => by
    have e1 : B2 % 2 ^ (8 * n) = B % 2 ^ (8 * n) := by
      have hd : (2 : Nat) ^ (8 * n) ∣ 2 ^ (8 * (n + 1)) := Nat.pow_dvd_pow 2 (by omega)
      rw [← Nat.mod_mod_of_dvd B2 hd, h, Nat.mod_mod_of_dvd B hd]
    have e2 : B2 / 2 ^ (8 * n) % 256 = B / 2 ^ (8 * n) % 256 := by
      have e3 : (2 : Nat) ^ (8 * (n + 1)) = 2 ^ (8 * n) * 256 := by rw [Nat.mul_add, Nat.pow_add]
      rw [e3, Nat.mod_mul, Nat.mod_mul, e1] at h
      have := Nat.add_left_cancel h
      exact Nat.eq_of_mul_eq_mul_left (Nat.two_pow_pos _) this
    simp only [octN]
    rw [octN_low n e1, e2]
/-- octets, then their check -/
theorem sc_bits {J : Nat → Nat} {B k : Nat} (hB : B < 2 ^ (8 * k)) (h : ∀ j, j < 9 * k → J j = octN B k / 2 ^ j % 2) : ∀ j, j < 9 * (k + 2) → apO (apO J (9 * k) (crcB B k % 256)) (9 * k + 9) (crcB B k / 256) j = octN (B + crcB B k * 2 ^ (8 * k)) (k + 2) / 2 ^ j % 2 := by
  have hx := crcB_lt B k
  have e0 : octN (B + crcB B k * 2 ^ (8 * k)) k = octN B k := octN_low k (by rw [Nat.add_mul_mod_self_right])
  have e1 : (B + crcB B k * 2 ^ (8 * k)) / 2 ^ (8 * k) = crcB B k := by rw [Nat.add_mul_div_right _ _ (Nat.two_pow_pos _), Nat.div_eq_of_lt hB, Nat.zero_add]
  have h1 := oct_app (J := J) (B := B + crcB B k * 2 ^ (8 * k)) (n := k) (v := crcB B k % 256) (by rw [e0]; exact h) (by rw [e1])
  have h2 := oct_app (n := k + 1) (v := crcB B k / 256) h1 (by rw [show 8 * (k + 1) = 8 * k + 8 by omega, Nat.pow_add, ← Nat.div_div_eq_div_mul, e1, Nat.mod_eq_of_lt (by omega)])
  exact h2
