/-! the reference: what is said -/
theorem o1_bits {J : Nat → Nat} {v : Nat} (hv : v < 256) : ∀ j, j < 9 * 1 → apO J 0 v j = octN v 1 / 2 ^ j % 2 := oct_app (J := J) (n := 0) (fun j hj => absurd hj (Nat.not_lt_zero _)) (by rw [Nat.mul_zero, Nat.pow_zero, Nat.div_one, Nat.mod_eq_of_lt hv])
theorem bg_bits {J : Nat → Nat} {v : Nat} (hv : v < 256) : ∀ j, j < 18 → apO (apO J 0 v) 9 0 j = octN v 2 / 2 ^ j % 2 := oct_app (n := 1) (o1_bits hv) (by rw [Nat.div_eq_of_lt (by simpa using hv)])
theorem o3_bits {J : Nat → Nat} {v : Nat} (hv : v < 256) : ∀ j, j < 9 * 3 → apO (apO (apO J 0 3) 9 2) 18 v j = octN (515 + v * 65536) 3 / 2 ^ j % 2 :=
  oct_app (n := 2) (oct_app (n := 1) (oct_app (J := J) (n := 0) (B := 515 + v * 65536) (v := 3) (fun j hj => absurd hj (Nat.not_lt_zero _)) (by omega)) (by omega)) (by omega)
