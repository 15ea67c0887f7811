/-! pure words: parities, octets, checks, rows of bits -/
theorem nx_or (a b : Nat) : nI a ||| nI b = nI (a ||| b) := by
  apply Int32.toBitVec_inj.1
  show BitVec.ofNat 32 a ||| BitVec.ofNat 32 b = BitVec.ofNat 32 (a ||| b)
  apply BitVec.eq_of_getLsbD_eq
  intro i hi
  simp [hi]
def popN : Nat → Nat → Nat
  | 0, _ => 0
  | k + 1, v => v % 2 + popN k (v / 2)
def octB (b : Nat) : Nat := b + 256 * (1 - popN 8 b % 2)
def octN (B : Nat) : Nat → Nat
  | 0 => 0
  | n + 1 => octN B n + octB (B / 2 ^ (8 * n) % 256) * 2 ^ (9 * n)
def crcY (z : Nat) : Nat := (z ^^^ z * 16) % 256
def crcS (x b : Nat) : Nat := (((x / 256 ^^^ crcY (b ^^^ x % 256) * 256) ^^^ crcY (b ^^^ x % 256) * 8) ^^^ crcY (b ^^^ x % 256) / 16) % 65536
def valN (rb : Nat → Nat) (size fm : Nat) : Nat → Nat
  | 0 => 0
  | n + 1 => valN rb size fm n + (if fm + n < size then rb (fm + n) else 0) * 2 ^ n
def crcN (rb : Nat → Nat) (size : Nat) : Nat → Nat
  | 0 => 25443
  | n + 1 => crcS (crcN rb size n) (valN rb size (9 * n) 8)
def begN (rb : Nat → Nat) (size : Nat) : Nat → Bool
  | 0 => true
  | n + 1 => begN rb size n && decide (popN 9 (valN rb size (9 * n) 9) % 2 = 1)
/-- n bits of v behind the first 'size' -/
def apB (rb : Nat → Nat) (size : Nat) (v : Int32) (n : Nat) : Nat → Nat := fun j => if size ≤ j ∧ j < size + n then bitI v (j - size) else rb j
theorem apB_0 (rb : Nat → Nat) (size : Nat) (v : Int32) : apB rb size v 0 = rb := by
  funext j
  unfold apB
  rw [if_neg (by omega)]
theorem apB_s (rb : Nat → Nat) (size : Nat) (v : Int32) (i : Nat) : setN (apB rb size v i) (size + i) (bitI v i) = apB rb size v (i + 1) := by
  funext j
  unfold setN apB
  by_cases h : j = size + i
  · subst h
    rw [if_pos rfl, if_pos (by omega), Nat.add_sub_cancel_left]
  · rw [if_neg h]
    by_cases h2 : size ≤ j ∧ j < size + i
    · rw [if_pos h2, if_pos (by omega)]
    · rw [if_neg h2, if_neg (by omega)]
theorem apB_01 {rb : Nat → Nat} (h : ∀ j, rb j < 2) (size : Nat) (v : Int32) (n : Nat) : ∀ j, apB rb size v n j < 2 := by
  intro j
  unfold apB
  split
  · exact bitI_lt _ _
  · exact h j
theorem valN_lt {rb : Nat → Nat} (h : ∀ j, rb j < 2) (size fm : Nat) : ∀ n, valN rb size fm n < 2 ^ n
  | 0 => by simp [valN]
  | n + 1 => by
    have ih := valN_lt h size fm n
    have hb : (if fm + n < size then rb (fm + n) else 0) ≤ 1 := by
      split
      · have := h (fm + n); omega
      · exact Nat.zero_le _
    have h2 : (if fm + n < size then rb (fm + n) else 0) * 2 ^ n ≤ 1 * 2 ^ n := Nat.mul_le_mul_right _ hb
    simp only [valN, Nat.pow_succ]
    omega
theorem valN_stop {rb : Nat → Nat} {size fm i : Nat} (h : size ≤ fm + i) : ∀ n, i ≤ n → valN rb size fm n = valN rb size fm i
  | 0, hi => by rw [show i = 0 by omega]
  | n + 1, hi => by
    by_cases e : i = n + 1
    · rw [e]
    · have := valN_stop (rb := rb) h n (by omega)
      simp only [valN]
      rw [if_neg (by omega), this]
      omega
theorem crcS_lt (x b : Nat) : crcS x b < 65536 := Nat.mod_lt _ (by decide)
theorem crcN_lt (rb : Nat → Nat) (size : Nat) : ∀ n, crcN rb size n < 65536
  | 0 => by simp [crcN]
  | n + 1 => crcS_lt _ _
theorem octB_lt {b : Nat} (h : b < 256) : octB b < 512 := by unfold octB; omega
theorem octN_lt (B : Nat) : ∀ n, octN B n < 2 ^ (9 * n)
  | 0 => by simp [octN]
  | n + 1 => by
    have ih := octN_lt B n
    have hb : octB (B / 2 ^ (8 * n) % 256) < 512 := octB_lt (Nat.mod_lt _ (by decide))
    have h2 : octB (B / 2 ^ (8 * n) % 256) * 2 ^ (9 * n) ≤ 511 * 2 ^ (9 * n) := Nat.mul_le_mul_right _ (by omega)
    have h3 : 2 ^ (9 * (n + 1)) = 512 * 2 ^ (9 * n) := by rw [Nat.mul_add, Nat.pow_add, Nat.mul_comm]
    simp only [octN]
    omega
theorem z_scnt : ∀ i, i < 32 → ((nI i &&& 31).toBitVec.smod 32).toNat = i := by decide +kernel
/-- one bit more -/
theorem z_or {v b i : Nat} (hv : v < 2 ^ i) (hb : b < 2) (hi : i < 31) : nI v ||| (nI b <<< (nI i &&& 31)) = nI (v + b * 2 ^ i) := by
  have h2 : (2 : Nat) ^ i ≤ 2 ^ 30 := Nat.pow_le_pow_right (by decide) (by omega)
  have h3 : b * 2 ^ i ≤ 1 * 2 ^ i := Nat.mul_le_mul_right _ (by omega)
  rw [pk_shlN _ i (z_scnt i (by omega)) (by omega), nx_or]
  congr 1
  rw [Nat.or_comm, ← Nat.shiftLeft_eq, ← Nat.shiftLeft_add_eq_or_of_lt hv, Nat.add_comm]
theorem z_cx {x b : Nat} (hx : x < 65536) : nI b ^^^ (nI x &&& nI 255) = nI (b ^^^ x % 256) := by
  rw [pk_andN (by omega) 8 (by decide), nx_xor]
theorem z_cy {z : Nat} (hz : z < 256) : (nI z ^^^ (nI z <<< (nI 4 &&& 31))) &&& nI 255 = nI (crcY z) := by
  rw [pk_shlN _ 4 (by decide) (by omega), nx_xor, pk_andN ?_ 8 (by decide)]
  · rfl
  · exact Nat.xor_lt_two_pow (n := 32) (by omega) (by omega)
theorem crcY_lt (z : Nat) : crcY z < 256 := Nat.mod_lt _ (by decide)
theorem z_cf {x y : Nat} (hx : x < 65536) (hy : y < 256) : (((((nI x).toUInt32 >>> ((nI 8).toUInt32 &&& Int32.toUInt32 31)).toInt32 ^^^ (nI y <<< (nI 8 &&& 31))) ^^^ (nI y <<< (nI 3 &&& 31))) ^^^ ((nI y).toUInt32 >>> ((nI 4).toUInt32 &&& Int32.toUInt32 31)).toInt32) &&& nI 65535 = nI ((((x / 256 ^^^ y * 256) ^^^ y * 8) ^^^ y / 16) % 65536) := by
  rw [pk_ushrN (by omega) _ 8 (by decide), pk_shlN _ 8 (by decide) (by omega), pk_shlN _ 3 (by decide) (by omega), pk_ushrN (by omega) _ 4 (by decide), nx_xor, nx_xor, nx_xor, pk_andN ?_ 16 (by decide)]
  exact Nat.xor_lt_two_pow (n := 32) (Nat.xor_lt_two_pow (n := 32) (Nat.xor_lt_two_pow (n := 32) (by omega) (by omega)) (by omega)) (by omega)
/-- Integer.bitCount, by its steps -/
def bc1 (x : Int32) : Int32 := x - ((x.toUInt32 >>> ((nI 1).toUInt32 &&& Int32.toUInt32 31)).toInt32 &&& nI 1431655765)
def bc2 (x : Int32) : Int32 := (x &&& nI 858993459) + ((x.toUInt32 >>> ((nI 2).toUInt32 &&& Int32.toUInt32 31)).toInt32 &&& nI 858993459)
def bc3 (x : Int32) : Int32 := (x + (x.toUInt32 >>> ((nI 4).toUInt32 &&& Int32.toUInt32 31)).toInt32) &&& nI 252645135
def bc4 (x : Int32) : Int32 := x + (x.toUInt32 >>> ((nI 8).toUInt32 &&& Int32.toUInt32 31)).toInt32
def bc5 (x : Int32) : Int32 := x + (x.toUInt32 >>> ((nI 16).toUInt32 &&& Int32.toUInt32 31)).toInt32
theorem z_bc : ∀ v, v < 512 → bc5 (bc4 (bc3 (bc2 (bc1 (nI v))))) &&& nI 63 = nI (popN 9 v) := by decide +kernel
/-- Long.bitCount, by its steps -/
def bl1 (x : Int64) : Int64 := x - ((x.toUInt64 >>> ((nI 1).toInt64.toUInt64 &&& Int64.toUInt64 63)).toInt64 &&& lN 6148914691236517205)
def bl2 (x : Int64) : Int64 := (x &&& lN 3689348814741910323) + ((x.toUInt64 >>> ((nI 2).toInt64.toUInt64 &&& Int64.toUInt64 63)).toInt64 &&& lN 3689348814741910323)
def bl3 (x : Int64) : Int64 := (x + (x.toUInt64 >>> ((nI 4).toInt64.toUInt64 &&& Int64.toUInt64 63)).toInt64) &&& lN 1085102592571150095
def bl4 (x : Int64) : Int64 := x + (x.toUInt64 >>> ((nI 8).toInt64.toUInt64 &&& Int64.toUInt64 63)).toInt64
def bl5 (x : Int64) : Int64 := x + (x.toUInt64 >>> ((nI 16).toInt64.toUInt64 &&& Int64.toUInt64 63)).toInt64
def bl6 (x : Int64) : Int64 := x + (x.toUInt64 >>> ((nI 32).toInt64.toUInt64 &&& Int64.toUInt64 63)).toInt64
theorem z_bl : ∀ v, v < 256 → (bl6 (bl5 (bl4 (bl3 (bl2 (bl1 (lN v))))))).toInt32 &&& nI 127 = nI (popN 8 v) := by decide +kernel
theorem popN_le : ∀ k v, popN k v ≤ k
  | 0, _ => Nat.le_refl _
  | k + 1, v => by
    have := popN_le k (v / 2)
    simp only [popN]
    omega
def crcB (B : Nat) : Nat → Nat
  | 0 => 25443
  | n + 1 => crcS (crcB B n) (B / 2 ^ (8 * n) % 256)
theorem crcB_lt (B : Nat) : ∀ n, crcB B n < 65536
  | 0 => by simp [crcB]
  | n + 1 => crcS_lt _ _
theorem begN_false {rb : Nat → Nat} {size i : Nat} (h : begN rb size i = false) : ∀ n, i ≤ n → begN rb size n = false
  | 0, hi => by rw [show i = 0 by omega] at h; exact h
  | n + 1, hi => by
    by_cases e : i = n + 1
    · rw [← e]; exact h
    · simp only [begN, begN_false h n (by omega), Bool.false_and]
/-- the lowest byte of an int -/
def byI (v : Int32) : Nat := v.toBitVec.toNat % 256
theorem byI_lt (v : Int32) : byI v < 256 := Nat.mod_lt _ (by decide)
theorem byI_n {n : Nat} (h : n < 2 ^ 31) : byI (nI n) = n % 256 := by
  unfold byI
  rw [pk_tn (by omega)]
theorem z_i2l (v : Int32) : ∃ B, B < 2 ^ 64 ∧ v.toInt64 = lN B ∧ B % 256 = byI v := by
  refine ⟨v.toInt64.toBitVec.toNat, v.toInt64.toBitVec.isLt, wb_inj (by rw [wb_tb]; simp), ?_⟩
  have h1 : v.toInt64.toBitVec = v.toBitVec.signExtend 64 := rfl
  rw [h1]
  unfold byI
  have h2 : (BitVec.setWidth 8 (v.toBitVec.signExtend 64)).toNat = (BitVec.setWidth 8 v.toBitVec).toNat := by
    congr 1
    apply BitVec.eq_of_getLsbD_eq
    intro i hi
    simp only [BitVec.getLsbD_setWidth, BitVec.getLsbD_signExtend]
    simp [hi, show i < 64 by omega, show i < 32 by omega]
  simpa [BitVec.toNat_setWidth] using h2
