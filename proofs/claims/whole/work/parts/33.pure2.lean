/-! pure words: answers that lie on one another, what a frame means -/
theorem z_not {B : Nat} (h : B < 2 ^ 64) : lN B ^^^ (-1) = lN (2 ^ 64 - 1 - B) := by
  apply wb_inj
  rw [Int64.toBitVec_xor, wb_tb, wb_tb, show ((-1 : Int64)).toBitVec = BitVec.allOnes 64 from rfl, BitVec.xor_allOnes]
  apply BitVec.eq_of_toNat_eq
  rw [BitVec.toNat_not, BitVec.toNat_ofNat, BitVec.toNat_ofNat, Nat.mod_eq_of_lt h, Nat.mod_eq_of_lt (by omega)]
/-- the bits below n that B has not -/
def czN (B n : Nat) : Nat := (2 ^ 64 - 1 - B) % 2 ^ n
def digN (on ze j : Nat) : Nat := if on / 2 ^ j % 2 = 1 then (if ze / 2 ^ j % 2 = 1 then 2 else 1) else 0
def lvOf (f : Nat) : Nat := if f = 147 then 1 else if f = 149 then 2 else if f = 151 then 3 else 0
theorem lvOf_le (f : Nat) : lvOf f ≤ 3 := by unfold lvOf; split <;> (try split) <;> (try split) <;> omega
def kdS (v : Nat) : Nat := if v = 38 then 1 else if v = 82 then 2 else 0
def kdC (f oc se : Nat) : Nat := if f = 80 ∧ oc = 4 ∧ se = 0 then 5 else if f = 224 ∧ oc = 4 then 6 else if f = 194 ∧ oc = 3 then 7 else 0
def rdK (rb : Nat → Nat) (size : Nat) : Nat :=
  if size = 7 then kdS (valN rb size 0 8)
  else if size / 9 < 2 ∨ begN rb size (size / 9) = false then 0
  else if 0 < lvOf (valN rb size 0 8) ∧ size / 9 ≤ 6 ∧ size % 9 ≤ 7 ∧ valN rb size 9 8 = 16 * (size / 9) + size % 9 then 3
  else if 0 < size % 9 ∨ ¬ crcN rb size (size / 9) = 0 then 0
  else if 0 < lvOf (valN rb size 0 8) ∧ size / 9 = 9 ∧ valN rb size 9 8 = 112 then 4
  else kdC (valN rb size 0 8) (size / 9) (valN rb size 9 8)
def tdB (rb : Nat → Nat) (size : Nat) : Nat → Nat
  | 0 => 0
  | n + 1 => tdB rb size n + valN rb size (9 * (2 + n)) 8 * 2 ^ (8 * n)
def tdN (rb : Nat → Nat) (size bytes over : Nat) : Nat := tdB rb size bytes + valN rb size (9 * (2 + bytes)) over * 2 ^ (8 * bytes)
theorem tdB_lt {rb : Nat → Nat} (h : ∀ j, rb j < 2) (size : Nat) : ∀ n, tdB rb size n < 2 ^ (8 * n)
  | 0 => by simp [tdB]
  | n + 1 => by
    have ih := tdB_lt h size n
    have hv := valN_lt h size (9 * (2 + n)) 8
    have h2 : valN rb size (9 * (2 + n)) 8 * 2 ^ (8 * n) ≤ 255 * 2 ^ (8 * n) := Nat.mul_le_mul_right _ (by omega)
    have h3 : 2 ^ (8 * (n + 1)) = 256 * 2 ^ (8 * n) := by rw [Nat.mul_add, Nat.pow_add, Nat.mul_comm]
    simp only [tdB]
    omega
theorem tdN_lt {rb : Nat → Nat} (h : ∀ j, rb j < 2) (size bytes over : Nat) : tdN rb size bytes over < 2 ^ (8 * bytes + over) := by
  have h1 := tdB_lt h size bytes
  have h2 := valN_lt h size (9 * (2 + bytes)) over
  have h3 : valN rb size (9 * (2 + bytes)) over * 2 ^ (8 * bytes) ≤ (2 ^ over - 1) * 2 ^ (8 * bytes) := Nat.mul_le_mul_right _ (by omega)
  have h4 : (2 ^ over - 1) * 2 ^ (8 * bytes) + 2 ^ (8 * bytes) = 2 ^ (8 * bytes + over) := by
    rw [← Nat.succ_mul, Nat.succ_eq_add_one, Nat.sub_add_cancel Nat.one_le_two_pow, Nat.pow_add, Nat.mul_comm]
  unfold tdN
  omega
theorem z_max {x y : Nat} (hx : x < 2 ^ 31) (hy : y < 2 ^ 31) : (if nI x < nI y then nI y else nI x) = nI (max x y) := by
  by_cases h : x < y
  · rw [if_pos ((nI_ltI hx hy).mpr h)]; congr 1; omega
  · rw [if_neg (fun q => h ((nI_ltI hx hy).mp q))]; congr 1; omega
theorem z_min {x y : Nat} (hx : x < 2 ^ 31) (hy : y < 2 ^ 31) : (if nI y < nI x then nI y else nI x) = nI (min x y) := by
  by_cases h : y < x
  · rw [if_pos ((nI_ltI hy hx).mpr h)]; congr 1; omega
  · rw [if_neg (fun q => h ((nI_ltI hy hx).mp q))]; congr 1; omega
theorem nB_eq {a b : Bool} : nB a = nB b ↔ a = b := by cases a <;> cases b <;> decide
/-- a long array that holds naturals -/
abbrev hp_m (X : hp_X) (n : Nat) (f : Nat → Nat) : va_E := hp_l X n (fun j => lN (f j))
section HPM
variable {p : Program} {l : Launch} {e : Env} {R : Room} {s : State} {m : MethodId} {args : Array Value} {below : List Frame} {meth : Method} {c : Code} {H : Heap} {locs : List Loc} {cells slots : Nat} {Q : State → Prop}
variable {cc : ByteArray} {pc : Nat} {ls : Array Slot} {rest : List Value} {X : hp_X} {cl : List vw_C} {a nx : Nat} {μ : hp_M}
theorem hp_laldM (hexec : p.tables.exec = Jvm.exec) (hb : c.code = cc) (hA : ArrOfT s (X.2.2.1 1) .long) (hH : hp_w X cl μ nx H locs) {n i : Nat} {f : Nat → Nat} (hμ : μ a = some (hp_m X n f)) (hi : i < n) (hn : n < 2 ^ 31) (hdg : decode cc pc = .ok (.laload, 1))
    (kk : W p l e R s m args below meth c H locs cells slots Q (F0 m (pc + 1) ls (.long (lN (f i)) :: rest))) : W p l e R s m args below meth c H locs cells slots Q (F0 m pc ls (.int (nI i) :: .ref a :: rest)) :=
  hp_laldN hexec hb hA hH hμ hi hn hdg kk
theorem hp_lastM (hexec : p.tables.exec = Jvm.exec) (hb : c.code = cc) (hA : ArrOfT s (X.2.2.1 1) .long) (hH : hp_w X cl μ nx H locs) {n i v : Nat} {f : Nat → Nat} (hμ : μ a = some (hp_m X n f)) (hi : i < n) (hn : n < 2 ^ 31) (hdg : decode cc pc = .ok (.lastore, 1))
    (kk : ∀ (H1 : Heap) (locs1 : List Loc) (μ1 : hp_M), μ1 a = some (hp_m X n (setN f i v)) → (∀ q, q ≠ a → μ1 q = μ q) → hp_w X cl μ1 nx H1 locs1 → W p l e R s m args below meth c H1 locs1 cells slots Q (F0 m (pc + 1) ls rest)) : W p l e R s m args below meth c H locs cells slots Q (F0 m pc ls (.long (lN v) :: .int (nI i) :: .ref a :: rest)) := by
  refine hp_lastN hexec hb hA hH hμ hi hn hdg (fun H1 locs1 μ1 h1 h2 h3 => kk H1 locs1 μ1 ?_ h2 h3)
  rw [h1]
  congr 5
  funext j
  simp only [setL, setN]
  split <;> rfl
end HPM
