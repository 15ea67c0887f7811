/-! pure words of a tag: its number, what it shows, its way through the states -/
theorem z_byte {v : Int32} {i : Nat} (hi : i < 32) : ((v.toUInt32 >>> ((nI i).toUInt32 &&& Int32.toUInt32 31)).toInt32 &&& nI 255) = nI (v.toBitVec.toNat / 2 ^ i % 256) := by
  rw [pk_and _ 8 (by decide), pk_ushr v (nI i) i (z_cnt i hi)]
def nbN (a b c : Int32) (k : Nat) : Nat := (if k < 4 then a else if k < 8 then b else c).toBitVec.toNat / 2 ^ (24 - 8 * (k % 4)) % 256
theorem nbN_lt (a b c : Int32) (k : Nat) : nbN a b c k < 256 := Nat.mod_lt _ (by decide)
def shF (a b c : Int32) (i : Nat) (last : Bool) : Nat := match last with
  | true => nbN a b c (3 * i + 0) + nbN a b c (3 * i + 1) * 256 + nbN a b c (3 * i + 2) * 65536 + nbN a b c (3 * i + 3) * 16777216
  | false => 136 + nbN a b c (3 * i + 0) * 256 + nbN a b c (3 * i + 1) * 65536 + nbN a b c (3 * i + 2) * 16777216
def shX (F : Nat) : Nat := (((F ^^^ F / 256) ^^^ F / 65536) ^^^ F / 16777216) % 256
def shV (F : Nat) : Nat := F + shX F * 4294967296
theorem shF_lt (a b c : Int32) (i : Nat) (last : Bool) : shF a b c i last < 4294967296 := by
  have h0 := nbN_lt a b c (3 * i + 0)
  have h1 := nbN_lt a b c (3 * i + 1)
  have h2 := nbN_lt a b c (3 * i + 2)
  have h3 := nbN_lt a b c (3 * i + 3)
  cases last <;> simp only [shF] <;> omega
theorem shX_lt (F : Nat) : shX F < 256 := Nat.mod_lt _ (by decide)
theorem shV_lt {F : Nat} (h : F < 4294967296) : shV F < 2 ^ 40 := by
  have := shX_lt F
  unfold shV
  omega
theorem z_shx {F : Nat} (h : F < 4294967296) : (((lN F ^^^ lN (F / 256)) ^^^ lN (F / 65536)) ^^^ lN (F / 16777216)) &&& lN 255 = lN (shX F) := by
  rw [lN_xor, lN_xor, lN_xor]
  exact wb_mask (k := 8) (Nat.xor_lt_two_pow (n := 64) (Nat.xor_lt_two_pow (n := 64) (Nat.xor_lt_two_pow (n := 64) (by omega) (by omega)) (by omega)) (by omega)) (by decide)
/-- the three rows of a number of lv levels -/
def shA (a b c : Int32) (lv : Nat) : Nat → Nat := fun j => if j < lv then shV (shF a b c j (decide (j + 1 = lv))) else 0
theorem shA_lt (a b c : Int32) (lv j : Nat) : shA a b c lv j < 2 ^ 40 := by
  unfold shA
  split
  · exact shV_lt (shF_lt _ _ _ _ _)
  · decide
theorem shA_1 (a b c : Int32) : setN (fun _ => 0) 0 (shV (shF a b c 0 true)) = shA a b c 1 := by
  funext j
  rcases j with _ | j <;> simp [setN, shA]
theorem shA_2 (a b c : Int32) : setN (setN (fun _ => 0) 0 (shV (shF a b c 0 false))) 1 (shV (shF a b c 1 true)) = shA a b c 2 := by
  funext j
  rcases j with _ | _ | j <;> simp [setN, shA] <;> (intro h; omega)
theorem shA_3 (a b c : Int32) : setN (setN (setN (fun _ => 0) 0 (shV (shF a b c 0 false))) 1 (shV (shF a b c 1 false))) 2 (shV (shF a b c 2 true)) = shA a b c 3 := by
  funext j
  rcases j with _ | _ | _ | j <;> simp [setN, shA] <;> (intro h; omega)
/-- does what is told agree with what is shown -/
def mtN (sh td tc : Nat) : Bool := decide ((sh ^^^ td) % 2 ^ tc = 0)
def bkS (st : Nat) : Nat := if st = 2 ∨ st = 3 then 1 else 4
/-- the table: next state, next level, reply (0 nothing, 1 A, 2 rest, 3 B more, 4 B last, 5 C, 6 D) -/
def hrS (k : Nat) (mine mt : Bool) (lv st le : Nat) : Nat :=
  if st = 1 then (if k = 1 ∨ k = 2 then 2 else 1)
  else if st = 4 then (if k = 2 then 5 else 4)
  else if st = 2 ∨ st = 5 then (if k = 3 ∧ mine = true then st else if k = 4 ∧ mine = true ∧ mt = true then (if le < lv then st else st + 1) else bkS st)
  else if st = 3 ∨ st = 6 then (if k = 5 then 4 else if k = 6 then 7 else bkS st)
  else if st = 7 then (if k = 7 then 4 else 7) else st
def hrL (k : Nat) (mine mt : Bool) (lv st le : Nat) : Nat :=
  if st = 1 then (if k = 1 ∨ k = 2 then 1 else le)
  else if st = 4 then (if k = 2 then 1 else le)
  else if st = 2 ∨ st = 5 then (if k = 4 ∧ mine = true ∧ mt = true then (if le < lv then le + 1 else le) else le)
  else le
def hrR (k : Nat) (mine mt : Bool) (lv st le : Nat) : Nat :=
  if st = 1 then (if k = 1 ∨ k = 2 then 1 else 0)
  else if st = 4 then (if k = 2 then 1 else 0)
  else if st = 2 ∨ st = 5 then (if k = 3 ∧ mine = true then (if mt = true then 2 else 0) else if k = 4 ∧ mine = true ∧ mt = true then (if le < lv then 3 else 4) else 0)
  else if st = 3 ∨ st = 6 then (if k = 6 then 5 else 0)
  else if st = 7 then (if k = 7 then 6 else 0) else 0
