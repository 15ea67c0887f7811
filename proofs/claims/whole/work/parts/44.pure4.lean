/-! pure words: all tags hear a frame; their answers lie on one another -/
def capN (n : Nat) : Nat := if n ≤ 10 then 10 else if n ≤ 15 then 15 else 22
theorem capN_le (n : Nat) (h : n ≤ 16) : n ≤ capN n ∧ capN n ≤ 22 := by unfold capN; split <;> (try split) <;> omega
def mixN (i : Nat) (f g : Nat → Nat) : Nat → Nat := fun j => if j < i then f j else g j
theorem mixN_i (i : Nat) (f g : Nat → Nat) : mixN i f g i = g i := if_neg (Nat.lt_irrefl _)
theorem mixN_s (i : Nat) (f g : Nat → Nat) : mixN (i + 1) f g i = f i := if_pos (Nat.lt_succ_self _)
theorem mixN_o {i j : Nat} (f g : Nat → Nat) (h : j ≠ i) : mixN (i + 1) f g j = mixN i f g j := by
  unfold mixN
  by_cases h2 : j < i
  · rw [if_pos h2, if_pos (by omega)]
  · rw [if_neg h2, if_neg (by omega)]
theorem mixN_0 (f g : Nat → Nat) : mixN 0 f g = g := by funext j; exact if_neg (Nat.not_lt_zero _)
theorem mixN_n {n j : Nat} (f g : Nat → Nat) (h : j < n) : mixN n f g j = f j := if_pos h
def tgS (k fl td tc : Nat) (lv st le : Nat → Nat) (sh : Nat → Nat → Nat) (j : Nat) : Nat := hrS k (decide (fl = le j)) (mtN (sh j (le j - 1)) td tc) (lv j) (st j) (le j)
def tgL (k fl td tc : Nat) (lv st le : Nat → Nat) (sh : Nat → Nat → Nat) (j : Nat) : Nat := hrL k (decide (fl = le j)) (mtN (sh j (le j - 1)) td tc) (lv j) (st j) (le j)
def tgR (k fl td tc : Nat) (lv st le : Nat → Nat) (sh : Nat → Nat → Nat) (j : Nat) : Nat := hrR k (decide (fl = le j)) (mtN (sh j (le j - 1)) td tc) (lv j) (st j) (le j)
def tgB (k fl se td tc : Nat) (lv st le : Nat → Nat) (sh : Nat → Nat → Nat) (j : Nat) : Nat := saB (tgR k fl td tc lv st le sh j) (lv j) (sh j (tgL k fl td tc lv st le sh j - 1)) se tc
def tgN (k fl td tc : Nat) (lv st le : Nat → Nat) (sh : Nat → Nat → Nat) (j : Nat) : Nat := saL (tgR k fl td tc lv st le sh j) tc
def anO (B L : Nat → Nat) : Nat → Nat
  | 0 => 0
  | i + 1 => anO B L i ||| B i % 2 ^ L i
def anZ (B L : Nat → Nat) : Nat → Nat
  | 0 => 0
  | i + 1 => anZ B L i ||| czN (B i) (L i)
def anL (L : Nat → Nat) : Nat → Nat
  | 0 => 0
  | i + 1 => max (anL L i) (L i)
theorem saL_le (j tc : Nat) : saL j tc ≤ 45 := by unfold saL; split <;> (try split) <;> (try split) <;> (try split) <;> omega
theorem anL_le {L : Nat → Nat} (h : ∀ j, L j ≤ 45) : ∀ i, anL L i ≤ 45
  | 0 => Nat.zero_le _
  | i + 1 => by have := anL_le h i; have := h i; simp only [anL]; omega
theorem pow45 {x L : Nat} (h : L ≤ 45) : x % 2 ^ L < 2 ^ 45 := Nat.lt_of_lt_of_le (Nat.mod_lt _ (Nat.two_pow_pos _)) (Nat.pow_le_pow_right (by decide) h)
theorem anO_lt {B L : Nat → Nat} (h : ∀ j, L j ≤ 45) : ∀ i, anO B L i < 2 ^ 45
  | 0 => by simp [anO]
  | i + 1 => Nat.or_lt_two_pow (anO_lt h i) (pow45 (h i))
theorem anZ_lt {B L : Nat → Nat} (h : ∀ j, L j ≤ 45) : ∀ i, anZ B L i < 2 ^ 45
  | 0 => by simp [anZ]
  | i + 1 => Nat.or_lt_two_pow (anZ_lt h i) (pow45 (h i))
theorem hrS_lt {k lv st le : Nat} {mine mt : Bool} (h : st < 8) : hrS k mine mt lv st le < 8 := by
  unfold hrS bkS
  repeat' split
  all_goals omega
theorem hrR_lt (k : Nat) (mine mt : Bool) (lv st le : Nat) : hrR k mine mt lv st le < 7 := by
  unfold hrR
  repeat' split
  all_goals omega
theorem hrL_in {k lv st le : Nat} {mine mt : Bool} (h1 : 1 ≤ le) (h2 : le ≤ 3) (h3 : lv ≤ 3) : 1 ≤ hrL k mine mt lv st le ∧ hrL k mine mt lv st le ≤ 3 := by
  unfold hrL
  repeat' split
  all_goals omega
theorem hrR_2 {k lv st le : Nat} {mine mt : Bool} (h : hrR k mine mt lv st le = 2) : k = 3 := by
  unfold hrR at h
  repeat' split at h
  all_goals omega
theorem rdK_lt (rb : Nat → Nat) (size : Nat) : rdK rb size < 8 := by
  unfold rdK kdS kdC
  repeat' split
  all_goals omega
theorem rdK_3 {rb : Nat → Nat} {size : Nat} (h : rdK rb size = 3) : 2 ≤ size / 9 ∧ size / 9 ≤ 6 ∧ size % 9 ≤ 7 := by
  unfold rdK kdS kdC at h
  split at h
  · split at h
    · omega
    · split at h <;> omega
  · split at h
    · omega
    · rename_i h2
      split at h
      · rename_i h3
        refine ⟨?_, h3.2.1, h3.2.2.1⟩
        have := fun q => h2 (Or.inl q)
        omega
      · repeat' split at h
        all_goals omega
/-- what a frame tells: its bits and how many -/
def rdT (rb : Nat → Nat) (size : Nat) : Nat := if rdK rb size = 3 then tdN rb size (size / 9 - 2) (size % 9) else tdN rb size 5 0
def rdC (rb : Nat → Nat) (size : Nat) : Nat := if rdK rb size = 3 then 8 * (size / 9 - 2) + size % 9 else 40
theorem rdC_le (rb : Nat → Nat) (size : Nat) : rdC rb size ≤ 40 := by
  unfold rdC
  split
  · rename_i h
    have := rdK_3 h
    omega
  · omega
theorem rdT_lt {rb : Nat → Nat} (h01 : ∀ j, rb j < 2) (size : Nat) : rdT rb size < 2 ^ 40 := by
  unfold rdT
  split
  · rename_i h
    have := rdK_3 h
    exact Nat.lt_of_lt_of_le (tdN_lt h01 _ _ _) (Nat.pow_le_pow_right (by decide) (by omega))
  · exact tdN_lt h01 size 5 0
theorem hr_mt {k lv st le : Nat} {mine mt mt2 : Bool} (h : k = 3 ∨ k = 4 → mt = mt2) : hrS k mine mt lv st le = hrS k mine mt2 lv st le ∧ hrL k mine mt lv st le = hrL k mine mt2 lv st le ∧ hrR k mine mt lv st le = hrR k mine mt2 lv st le := by
  by_cases h3 : k = 3
  · rw [h (Or.inl h3)]; exact ⟨rfl, rfl, rfl⟩
  · by_cases h4 : k = 4
    · rw [h (Or.inr h4)]; exact ⟨rfl, rfl, rfl⟩
    · simp [hrS, hrL, hrR, h3, h4]
/-- the list of tags in the heap -/
def hLA (X : hp_X) (μ : hp_M) (l1 q n : Nat) (f : Nat → Option Nat) (ta : Nat → Nat) : Prop := (n = 0 ∧ q = X.2.2.2 16) ∨ (0 < n ∧ μ q = some (hp_q X (capN n) f) ∧ ∀ i, i < n → f i = some (ta i))
abbrev hTG (sa : Nat → Nat) (lv : Nat → Nat) (aw : Nat → Bool) (st le : Nat → Nat) (j : Nat) : va_E := hp_o 5 [.int (nI (lv j)), .ref (sa j), .int (nB (aw j)), .int (nI (st j)), .int (nI (le j))]
def hp_eqP (P : Nat → Prop) (μ1 μ : hp_M) : Prop := ∀ q, ¬ P q → μ1 q = μ q
theorem hp_eqP.put {P : Nat → Prop} {μ2 μ1 μ : hp_M} {a : Nat} (h : hp_eqP P μ1 μ) (ha : P a) (hn : ∀ q, q ≠ a → μ2 q = μ1 q) : hp_eqP P μ2 μ := fun q hq => (hn q (fun e => hq (e ▸ ha))).trans (h q hq)
theorem hp_eqP.tr {P : Nat → Prop} {S : List Nat} {μ2 μ1 μ : hp_M} (fe : hp_eq S μ2 μ1) (fr : hp_eqP P μ1 μ) (hs : ∀ q ∈ S, P q) : hp_eqP P μ2 μ := fun q hq => (fe q (fun h => hq (hs q h))).trans (fr q hq)
theorem hLA.keep {X : hp_X} {μ μ1 : hp_M} {l1 q n : Nat} {f : Nat → Option Nat} {ta : Nat → Nat} (h : hLA X μ l1 q n f ta) (e : μ q = some (hp_q X (capN n) f) → μ1 q = μ q) : hLA X μ1 l1 q n f ta :=
  h.imp id (fun h => ⟨h.1, (e h.2.1).trans h.2.1, h.2.2⟩)
