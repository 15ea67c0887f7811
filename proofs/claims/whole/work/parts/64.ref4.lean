/-! the reference: pure facts about bits, octets, checks -/
theorem bt_lo {a b p k : Nat} (h : k < p) : (a + b * 2 ^ p) / 2 ^ k % 2 = a / 2 ^ k % 2 := by
  have e : b * 2 ^ p = 2 ^ k * (2 * (b * 2 ^ (p - k - 1))) := by
    rw [show p = k + 1 + (p - k - 1) by omega, Nat.pow_add, Nat.pow_succ, show k + 1 + (p - k - 1) - k - 1 = p - k - 1 by omega]
    ac_rfl
  rw [e, Nat.add_mul_div_left _ _ (Nat.two_pow_pos k), Nat.add_mul_mod_self_left]
theorem bt_hi {a b p k : Nat} (ha : a < 2 ^ p) (h : p ≤ k) : (a + b * 2 ^ p) / 2 ^ k % 2 = b / 2 ^ (k - p) % 2 := by
  obtain ⟨d, rfl⟩ : ∃ d, k = p + d := ⟨k - p, by omega⟩
  rw [Nat.add_sub_cancel_left, Nat.pow_add, ← Nat.div_div_eq_div_mul, Nat.add_mul_div_right _ _ (Nat.two_pow_pos p), Nat.div_eq_of_lt ha, Nat.zero_add]
theorem bt_div (x p k : Nat) : x / 2 ^ p / 2 ^ k % 2 = x / 2 ^ (p + k) % 2 := by rw [Nat.div_div_eq_div_mul, ← Nat.pow_add]
theorem bt_mod {x p k : Nat} (h : k < p) : x % 2 ^ p / 2 ^ k % 2 = x / 2 ^ k % 2 := by
  have e := Nat.div_add_mod x (2 ^ p)
  have h1 := bt_lo (a := x % 2 ^ p) (b := x / 2 ^ p) h
  rw [Nat.mul_comm] at e
  rw [← h1, Nat.add_comm, e]
theorem bt_byte {x i k : Nat} (h : k < 8) : x / 2 ^ (8 * i) % 256 / 2 ^ k % 2 = x / 2 ^ (8 * i + k) % 2 := by
  rw [show (256 : Nat) = 2 ^ 8 from rfl, bt_mod h, bt_div]
theorem vaN_bit {rb : Nat → Nat} {fm : Nat} : ∀ {n : Nat}, (∀ j, j < n → rb (fm + j) < 2) → ∀ k, k < n → vaN rb fm n / 2 ^ k % 2 = rb (fm + k)
  | 0, _, k, hk => absurd hk (Nat.not_lt_zero _)
  | n + 1, h, k, hk => by
    have hl := vaN_lt (rb := rb) (fm := fm) (n := n) (fun j hj => h j (by omega))
    have hb := h n (by omega)
    simp only [vaN]
    by_cases e : k < n
    · rw [bt_lo e]; exact vaN_bit (fun j hj => h j (by omega)) k e
    · have e2 : k = n := by omega
      subst e2
      rw [bt_hi hl (Nat.le_refl _), Nat.sub_self, Nat.pow_zero, Nat.div_one, Nat.mod_eq_of_lt hb]
/-- a number told by its bits -/
theorem vaN_of {rb : Nat → Nat} {fm x : Nat} : ∀ {n : Nat}, (∀ k, k < n → rb (fm + k) = x / 2 ^ k % 2) → vaN rb fm n = x % 2 ^ n
  | 0, _ => by simp [vaN, Nat.mod_one]
  | n + 1, h => by
    simp only [vaN]
    rw [vaN_of (n := n) (fun k hk => h k (by omega)), h n (by omega), Nat.pow_succ, Nat.mod_mul, Nat.mul_comm]
theorem pr9 : ∀ v, v < 256 → ∀ b, b < 2 → (decide (popN 9 (v + b * 2 ^ 8) % 2 = 1) = decide (prN v 8 = b)) := by decide +kernel
theorem begN_s {rb : Nat → Nat} {size n : Nat} (h01 : ∀ j, rb j < 2) (h : 9 * n + 9 ≤ size) (hb : begN rb size n = true) : begN rb size (n + 1) = decide (prN (vaN rb (9 * n) 8) 8 = rb (9 * n + 8)) := by
  have hl : vaN rb (9 * n) 8 < 256 := vaN_lt (n := 8) (fun j _ => h01 _)
  simp only [begN]
  rw [hb, Bool.true_and, valN_va 9 (by omega)]
  exact pr9 _ hl _ (h01 _)
def crcT (z : Nat) : Nat := ((crcY z * 256 ^^^ crcY z * 8) ^^^ crcY z / 16) % 65536
theorem crcS_T {x b : Nat} (hx : x < 65536) : crcS x b = x / 256 ^^^ crcT (b ^^^ x % 256) := by
  unfold crcS crcT
  rw [Nat.xor_assoc, Nat.xor_assoc, ← Nat.xor_assoc (crcY (b ^^^ x % 256) * 256), show (65536 : Nat) = 2 ^ 16 from rfl, Nat.xor_mod_two_pow, Nat.mod_eq_of_lt (show x / 256 < 2 ^ 16 by omega)]
theorem crcT_0 : ∀ z, z < 256 → crcT z < 256 → z = 0 := by decide +kernel
theorem crcT_z : crcT 0 = 0 := by decide +kernel
theorem xor_lt256 {a b : Nat} (ha : a < 256) (h : a ^^^ b < 256) : b < 256 := by
  have := Nat.xor_lt_two_pow (n := 8) ha h
  rwa [← Nat.xor_assoc, Nat.xor_self, Nat.zero_xor] at this
theorem xor_eq0 {a b : Nat} (h : a ^^^ b = 0) : a = b := by
  have h1 : a ^^^ b ^^^ b = 0 ^^^ b := by rw [h]
  rwa [Nat.xor_assoc, Nat.xor_self, Nat.xor_zero, Nat.zero_xor] at h1
theorem crc_own {x b1 b2 : Nat} (hx : x < 65536) (h1 : b1 < 256) (h2 : b2 < 256) : crcS (crcS x b1) b2 = 0 ↔ b1 = x % 256 ∧ b2 = x / 256 := by
  have hz1 : b1 ^^^ x % 256 < 256 := Nat.xor_lt_two_pow (n := 8) h1 (Nat.mod_lt _ (by decide))
  have hx1 := crcS_lt x b1
  rw [crcS_T (x := crcS x b1) hx1]
  have hz2 : b2 ^^^ crcS x b1 % 256 < 256 := Nat.xor_lt_two_pow (n := 8) h2 (Nat.mod_lt _ (by decide))
  constructor
  · intro h
    have e1 := xor_eq0 h
    have e2 := crcT_0 _ hz2 (by omega)
    rw [e2, crcT_z] at e1
    have e3 : crcS x b1 < 256 := by omega
    rw [crcS_T hx] at e3
    have e4 := crcT_0 _ hz1 (xor_lt256 (show x / 256 < 256 by omega) e3)
    have e5 : crcS x b1 = x / 256 := by rw [crcS_T hx, e4, crcT_z, Nat.xor_zero]
    refine ⟨xor_eq0 e4, ?_⟩
    have e6 := xor_eq0 e2
    rw [e5] at e6
    omega
  · rintro ⟨rfl, rfl⟩
    have e5 : crcS x (x % 256) = x / 256 := by rw [crcS_T hx, Nat.xor_self, crcT_z, Nat.xor_zero]
    rw [e5, Nat.mod_eq_of_lt (show x / 256 < 256 by omega), Nat.xor_self, crcT_z, Nat.xor_zero, Nat.div_eq_of_lt (by omega)]
/-- bits of octets -/
theorem octN_bit (B : Nat) : ∀ n i k, i < n → k < 9 → octN B n / 2 ^ (9 * i + k) % 2 = octB (B / 2 ^ (8 * i) % 256) / 2 ^ k % 2
  | 0, i, k, h, _ => absurd h (Nat.not_lt_zero _)
  | n + 1, i, k, h, hk => by
    simp only [octN]
    by_cases e : i < n
    · rw [bt_lo (by omega)]; exact octN_bit B n i k e hk
    · have e2 : i = n := by omega
      subst e2
      rw [bt_hi (octN_lt B i) (by omega), Nat.add_sub_cancel_left]
theorem oct_app {J : Nat → Nat} {B n v : Nat} (h : ∀ j, j < 9 * n → J j = octN B n / 2 ^ j % 2) (hv : v = B / 2 ^ (8 * n) % 256) : ∀ j, j < 9 * (n + 1) → apO J (9 * n) v j = octN B (n + 1) / 2 ^ j % 2 := by
  intro j hj
  subst hv
  have ho := octB_lt (b := B / 2 ^ (8 * n) % 256) (Nat.mod_lt _ (by decide))
  unfold apO apB
  simp only [octN]
  by_cases e : j < 9 * n
  · rw [if_neg (by omega), bt_lo e]; exact h j e
  · rw [if_pos (by omega), bitI_n (by omega), bt_hi (octN_lt B n) (by omega)]
theorem oct_byte {J : Nat → Nat} {B n i : Nat} (h : ∀ j, j < 9 * n → J j = octN B n / 2 ^ j % 2) (hi : i < n) : vaN J (9 * i) 8 = B / 2 ^ (8 * i) % 256 ∧ prN (vaN J (9 * i) 8) 8 = J (9 * i + 8) := by
  have hb : B / 2 ^ (8 * i) % 256 < 256 := Nat.mod_lt _ (by decide)
  have e1 : vaN J (9 * i) 8 = B / 2 ^ (8 * i) % 256 % 2 ^ 8 := vaN_of (fun k hk => by rw [h _ (by omega), octN_bit B n i k hi (by omega), prN_o _ hb k (by omega), if_pos hk])
  have e2 : vaN J (9 * i) 8 = B / 2 ^ (8 * i) % 256 := by rw [e1]; exact Nat.mod_eq_of_lt hb
  refine ⟨e2, ?_⟩
  rw [e2, h _ (by omega), octN_bit B n i 8 hi (by decide), prN_o _ hb 8 (by decide)]
  rfl
theorem apO_01' {rb : Nat → Nat} (h : ∀ j, rb j < 2) (size v : Nat) : ∀ j, apO rb size v j < 2 := apO_01 h size v
/-- bits of what a frame tells -/
theorem tdB_bit {rb : Nat → Nat} (h01 : ∀ j, rb j < 2) (size : Nat) : ∀ n i k, i < n → k < 8 → tdB rb size n / 2 ^ (8 * i + k) % 2 = valN rb size (9 * (2 + i)) 8 / 2 ^ k % 2
  | 0, i, k, h, _ => absurd h (Nat.not_lt_zero _)
  | n + 1, i, k, h, hk => by
    simp only [tdB]
    by_cases e : i < n
    · rw [bt_lo (by omega)]; exact tdB_bit h01 size n i k e hk
    · have e2 : i = n := by omega
      subst e2
      rw [bt_hi (tdB_lt h01 size i) (by omega), Nat.add_sub_cancel_left]
theorem tdN_lo {rb : Nat → Nat} (h01 : ∀ j, rb j < 2) {size bytes over k : Nat} (hk : k < 8 * bytes) : tdN rb size bytes over / 2 ^ k % 2 = valN rb size (9 * (2 + k / 8)) 8 / 2 ^ (k % 8) % 2 := by
  unfold tdN
  rw [bt_lo hk]
  have := tdB_bit h01 size bytes (k / 8) (k % 8) (by omega) (Nat.mod_lt _ (by decide))
  rwa [show 8 * (k / 8) + k % 8 = k by omega] at this
theorem tdN_hi {rb : Nat → Nat} (h01 : ∀ j, rb j < 2) {size bytes over k : Nat} (hk : k < over) (hs : 9 * (2 + bytes) + over ≤ size) : tdN rb size bytes over / 2 ^ (8 * bytes + k) % 2 = rb (9 * (2 + bytes) + k) := by
  unfold tdN
  rw [bt_hi (tdB_lt h01 size bytes) (by omega), Nat.add_sub_cancel_left, valN_va over hs]
  exact vaN_bit (fun j _ => h01 _) k hk
/-- agreement up to tc, bit by bit -/
theorem mtN_bits {sl td tc : Nat} : mtN sl td tc = true ↔ ∀ k, k < tc → sl / 2 ^ k % 2 = td / 2 ^ k % 2 := by
  unfold mtN
  rw [decide_eq_true_iff]
  have tb : ∀ x k, Nat.testBit x k = decide (x / 2 ^ k % 2 = 1) := fun x k => Nat.testBit_eq_decide_div_mod_eq
  constructor
  · intro h k hk
    have h1 := congrArg (fun x => Nat.testBit x k) h
    simp only [Nat.testBit_mod_two_pow, Nat.testBit_xor, Nat.zero_testBit, hk, decide_true, Bool.true_and] at h1
    rw [tb, tb] at h1
    have a := Nat.mod_lt (sl / 2 ^ k) (show 0 < 2 by decide)
    have b := Nat.mod_lt (td / 2 ^ k) (show 0 < 2 by decide)
    by_cases e1 : sl / 2 ^ k % 2 = 1 <;> by_cases e2 : td / 2 ^ k % 2 = 1 <;> simp [e1, e2] at h1 <;> omega
  · intro h
    apply Nat.eq_of_testBit_eq
    intro k
    simp only [Nat.testBit_mod_two_pow, Nat.testBit_xor, Nat.zero_testBit]
    by_cases hk : k < tc
    · rw [tb, tb, h k hk]; simp
    · simp [hk]
