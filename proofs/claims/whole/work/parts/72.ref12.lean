/-! the reference: answers that lie on one another, by their bits -/
theorem tb_eq (x k : Nat) : x / 2 ^ k % 2 = if Nat.testBit x k then 1 else 0 := by
  rw [Nat.testBit_eq_decide_div_mod_eq]
  have := Nat.mod_lt (x / 2 ^ k) (show 0 < 2 by decide)
  by_cases h : x / 2 ^ k % 2 = 1
  · simp [h]
  · simp [h]; omega
theorem or_bit (x y k : Nat) : (x ||| y) / 2 ^ k % 2 = max (x / 2 ^ k % 2) (y / 2 ^ k % 2) := by
  rw [tb_eq, tb_eq, tb_eq, Nat.testBit_or]
  cases Nat.testBit x k <;> cases Nat.testBit y k <;> rfl
theorem md_bit (x n k : Nat) : x % 2 ^ n / 2 ^ k % 2 = if k < n then x / 2 ^ k % 2 else 0 := by
  by_cases h : k < n
  · rw [if_pos h, bt_mod h]
  · rw [if_neg h, tb_eq, Nat.testBit_mod_two_pow]
    simp [h]
theorem cz_bit {B n k : Nat} (hB : B < 2 ^ 64) (hn : n ≤ 64) : czN B n / 2 ^ k % 2 = if k < n then 1 - B / 2 ^ k % 2 else 0 := by
  unfold czN
  rw [md_bit]
  by_cases h : k < n
  · rw [if_pos h, if_pos h, show 2 ^ 64 - 1 - B = 2 ^ 64 - (B + 1) by omega, tb_eq, tb_eq, Nat.testBit_two_pow_sub_succ hB]
    have h2 : k < 64 := by omega
    cases Nat.testBit B k <;> simp [h2]
  · rw [if_neg h, if_neg h]
theorem an_hi {B C : Nat → Nat} (hB : ∀ j, B j < 2 ^ 64) (hC : ∀ j, C j ≤ 45) : ∀ i k, anL C i ≤ k → anO B C i / 2 ^ k % 2 = 0 ∧ anZ B C i / 2 ^ k % 2 = 0
  | 0, k, _ => by simp [anO, anZ]
  | i + 1, k, h => by
    simp only [anL] at h
    have ih := an_hi hB hC i k (by omega)
    have hc := hC i
    simp only [anO, anZ]
    rw [or_bit, or_bit, ih.1, ih.2, md_bit, cz_bit (hB i) (by omega), if_neg (by omega), if_neg (by omega)]
    exact ⟨rfl, rfl⟩
theorem an_lo {B C : Nat → Nat} (hB : ∀ j, B j < 2 ^ 64) (hC : ∀ j, C j ≤ 45) : ∀ i k, k < anL C i → anO B C i / 2 ^ k % 2 = 1 ∨ anZ B C i / 2 ^ k % 2 = 1
  | 0, k, h => absurd h (Nat.not_lt_zero _)
  | i + 1, k, h => by
    simp only [anL] at h
    have hc := hC i
    have b1 := Nat.mod_lt (anO B C i / 2 ^ k) (show 0 < 2 by decide)
    have b2 := Nat.mod_lt (anZ B C i / 2 ^ k) (show 0 < 2 by decide)
    have b3 := Nat.mod_lt (B i / 2 ^ k) (show 0 < 2 by decide)
    simp only [anO, anZ]
    rw [or_bit, or_bit, md_bit, cz_bit (hB i) (by omega)]
    by_cases e : k < C i
    · rw [if_pos e, if_pos e]; omega
    · rw [if_neg e, if_neg e]
      have ih := an_lo hB hC i k (by omega)
      omega
theorem dig_cases (on ze k : Nat) : digN on ze k = if on / 2 ^ k % 2 = 1 then (if ze / 2 ^ k % 2 = 1 then 2 else 1) else 0 := rfl
theorem an_s {B C : Nat → Nat} (hB : ∀ j, B j < 2 ^ 64) (hC : ∀ j, C j ≤ 45) (i k : Nat) : anO B C (i + 1) / 2 ^ k % 2 = max (anO B C i / 2 ^ k % 2) (if k < C i then B i / 2 ^ k % 2 else 0) ∧ anZ B C (i + 1) / 2 ^ k % 2 = max (anZ B C i / 2 ^ k % 2) (if k < C i then 1 - B i / 2 ^ k % 2 else 0) := by
  have hc := hC i
  simp only [anO, anZ]
  rw [or_bit, or_bit, md_bit, cz_bit (hB i) (by omega)]
  exact ⟨rfl, rfl⟩
theorem mg_new {B C : Nat → Nat} (hB : ∀ j, B j < 2 ^ 64) (hC : ∀ j, C j ≤ 45) {i k : Nat} (h1 : k < C i) (h2 : anL C i ≤ k) : digN (anO B C (i + 1)) (anZ B C (i + 1)) k = B i / 2 ^ k % 2 := by
  have hc := hC i
  have b3 := Nat.mod_lt (B i / 2 ^ k) (show 0 < 2 by decide)
  have h := an_hi hB hC i k h2
  rw [dig_cases, (an_s hB hC i k).1, (an_s hB hC i k).2, if_pos h1, if_pos h1, h.1, h.2]
  by_cases e : B i / 2 ^ k % 2 = 1
  · rw [e]; decide
  · rw [show B i / 2 ^ k % 2 = 0 by omega]; decide
theorem mg_old {B C : Nat → Nat} (hB : ∀ j, B j < 2 ^ 64) (hC : ∀ j, C j ≤ 45) {i k : Nat} (h1 : k < C i) (h2 : k < anL C i) : digN (anO B C (i + 1)) (anZ B C (i + 1)) k = if digN (anO B C i) (anZ B C i) k = B i / 2 ^ k % 2 then digN (anO B C i) (anZ B C i) k else 2 := by
  have hc := hC i
  have b1 := Nat.mod_lt (anO B C i / 2 ^ k) (show 0 < 2 by decide)
  have b2 := Nat.mod_lt (anZ B C i / 2 ^ k) (show 0 < 2 by decide)
  have b3 := Nat.mod_lt (B i / 2 ^ k) (show 0 < 2 by decide)
  have h := an_lo hB hC i k h2
  rw [dig_cases, dig_cases, (an_s hB hC i k).1, (an_s hB hC i k).2, if_pos h1, if_pos h1]
  generalize anO B C i / 2 ^ k % 2 = x at *
  generalize anZ B C i / 2 ^ k % 2 = y at *
  generalize B i / 2 ^ k % 2 = b at *
  have hx : x = 0 ∨ x = 1 := by omega
  have hy : y = 0 ∨ y = 1 := by omega
  have hb : b = 0 ∨ b = 1 := by omega
  rcases hx with rfl | rfl <;> rcases hy with rfl | rfl <;> rcases hb with rfl | rfl <;> first | decide | (exfalso; omega)
theorem mg_keep {B C : Nat → Nat} (hB : ∀ j, B j < 2 ^ 64) (hC : ∀ j, C j ≤ 45) {i k : Nat} (h1 : C i ≤ k) : digN (anO B C (i + 1)) (anZ B C (i + 1)) k = digN (anO B C i) (anZ B C i) k := by
  have hc := hC i
  have b1 := Nat.mod_lt (anO B C i / 2 ^ k) (show 0 < 2 by decide)
  have b2 := Nat.mod_lt (anZ B C i / 2 ^ k) (show 0 < 2 by decide)
  rw [dig_cases, dig_cases, (an_s hB hC i k).1, (an_s hB hC i k).2, if_neg (show ¬ k < C i by omega), if_neg (show ¬ k < C i by omega), Nat.max_zero, Nat.max_zero]
theorem saB_lt (j lv sl se tc : Nat) : saB j lv sl se tc < 2 ^ 64 := by
  unfold saB
  split
  · exact oct64 _ _ (by decide)
  · split
    · exact Nat.lt_of_le_of_lt (Nat.div_le_self _ _) (oct64 _ _ (by decide))
    · split
      · exact oct64 _ _ (by decide)
      · split
        · exact oct64 _ _ (by decide)
        · split
          · exact oct64 _ _ (by decide)
          · split
            · exact oct64 _ _ (by decide)
            · decide
theorem fB_lt (rb : Nat → Nat) (size : Nat) (lv st le : Nat → Nat) (sh : Nat → Nat → Nat) (j : Nat) : fB rb size lv st le sh j < 2 ^ 64 := saB_lt _ _ _ _ _
theorem hr_mine {k lv st le : Nat} {mine mine2 mt : Bool} (h : k = 3 ∨ k = 4 → mine = mine2) : hrS k mine mt lv st le = hrS k mine2 mt lv st le ∧ hrL k mine mt lv st le = hrL k mine2 mt lv st le ∧ hrR k mine mt lv st le = hrR k mine2 mt lv st le := by
  by_cases h3 : k = 3
  · rw [h (Or.inl h3)]; exact ⟨rfl, rfl, rfl⟩
  · by_cases h4 : k = 4
    · rw [h (Or.inr h4)]; exact ⟨rfl, rfl, rfl⟩
    · simp [hrS, hrL, hrR, h3, h4]
theorem hrL_2 {k lv st le : Nat} {mine mt : Bool} (h : hrR k mine mt lv st le = 2) : hrL k mine mt lv st le = le := by
  have hk := hrR_2 h
  subst hk
  unfold hrL
  unfold hrR at h
  repeat' split at h
  all_goals (first | omega | skip)
  all_goals (repeat' split)
  all_goals (first | rfl | omega)
/-- what a tag does, told as the reference tells it -/
theorem tg_ref {sb : Nat → Nat} {se : Nat} {lv st le : Nat → Nat} {sh : Nat → Nat → Nat} {i kl tc : Nat} (h : rdK sb se = 3 ∨ rdK sb se = 4 → kl = lvOf (valN sb se 0 8) ∧ tc = rdC sb se) :
    hrS (rdK sb se) (decide (kl = le i)) (mtN (sh i (le i - 1)) (rdT sb se) tc) (lv i) (st i) (le i) = fS sb se lv st le sh i ∧
    hrL (rdK sb se) (decide (kl = le i)) (mtN (sh i (le i - 1)) (rdT sb se) tc) (lv i) (st i) (le i) = fL sb se lv st le sh i ∧
    saL (hrR (rdK sb se) (decide (kl = le i)) (mtN (sh i (le i - 1)) (rdT sb se) tc) (lv i) (st i) (le i)) tc = fC sb se lv st le sh i ∧
    saB (hrR (rdK sb se) (decide (kl = le i)) (mtN (sh i (le i - 1)) (rdT sb se) tc) (lv i) (st i) (le i)) (lv i) (sh i (le i - 1)) (valN sb se 9 8) tc = fB sb se lv st le sh i := by
  have h1 := hr_mine (k := rdK sb se) (lv := lv i) (st := st i) (le := le i) (mine := decide (kl = le i)) (mine2 := decide (lvOf (valN sb se 0 8) = le i)) (mt := mtN (sh i (le i - 1)) (rdT sb se) tc) (fun hk => by rw [(h hk).1])
  have h2 := hr_mt (k := rdK sb se) (lv := lv i) (st := st i) (le := le i) (mine := decide (lvOf (valN sb se 0 8) = le i)) (mt := mtN (sh i (le i - 1)) (rdT sb se) tc) (mt2 := mtN (sh i (le i - 1)) (rdT sb se) (rdC sb se)) (fun hk => by rw [(h hk).2])
  have eS : fS sb se lv st le sh i = hrS (rdK sb se) (decide (lvOf (valN sb se 0 8) = le i)) (mtN (sh i (le i - 1)) (rdT sb se) (rdC sb se)) (lv i) (st i) (le i) := rfl
  have eL : fL sb se lv st le sh i = hrL (rdK sb se) (decide (lvOf (valN sb se 0 8) = le i)) (mtN (sh i (le i - 1)) (rdT sb se) (rdC sb se)) (lv i) (st i) (le i) := rfl
  have eC : fC sb se lv st le sh i = saL (hrR (rdK sb se) (decide (lvOf (valN sb se 0 8) = le i)) (mtN (sh i (le i - 1)) (rdT sb se) (rdC sb se)) (lv i) (st i) (le i)) (rdC sb se) := rfl
  have eB : fB sb se lv st le sh i = saB (hrR (rdK sb se) (decide (lvOf (valN sb se 0 8) = le i)) (mtN (sh i (le i - 1)) (rdT sb se) (rdC sb se)) (lv i) (st i) (le i)) (lv i) (sh i (hrL (rdK sb se) (decide (lvOf (valN sb se 0 8) = le i)) (mtN (sh i (le i - 1)) (rdT sb se) (rdC sb se)) (lv i) (st i) (le i) - 1)) (valN sb se 9 8) (rdC sb se) := rfl
  rw [h1.1, h1.2.1, h1.2.2, h2.1, h2.2.1, h2.2.2, eS, eL, eC, eB]
  refine ⟨rfl, rfl, ?_, ?_⟩
  · by_cases e : hrR (rdK sb se) (decide (lvOf (valN sb se 0 8) = le i)) (mtN (sh i (le i - 1)) (rdT sb se) (rdC sb se)) (lv i) (st i) (le i) = 2
    · rw [(h (Or.inl (hrR_2 e))).2]
    · unfold saL; simp [e]
  · by_cases e : hrR (rdK sb se) (decide (lvOf (valN sb se 0 8) = le i)) (mtN (sh i (le i - 1)) (rdT sb se) (rdC sb se)) (lv i) (st i) (le i) = 2
    · rw [(h (Or.inl (hrR_2 e))).2, hrL_2 e]
    · unfold saB; simp [e]
/-- who is out hears nothing -/
theorem f_out {sb : Nat → Nat} {se : Nat} {lv st le : Nat → Nat} {sh : Nat → Nat → Nat} {i : Nat} (h : st i = 0) : fS sb se lv st le sh i = 0 ∧ fL sb se lv st le sh i = le i ∧ fC sb se lv st le sh i = 0 := by
  unfold fS fL fC tgS tgL tgN tgR
  rw [h]
  exact ⟨rfl, rfl, rfl⟩
theorem anL_0 {C : Nat → Nat} : ∀ {n : Nat}, (∀ j, j < n → C j = 0) → anL C n = 0
  | 0, _ => rfl
  | n + 1, h => by simp only [anL]; rw [anL_0 (fun j hj => h j (by omega)), h n (by omega)]; rfl
theorem fL_le {rb : Nat → Nat} {size : Nat} {lv st le : Nat → Nat} {sh : Nat → Nat → Nat} {j : Nat} (h1 : 1 ≤ lv j) (h : le j ≤ lv j) : fL rb size lv st le sh j ≤ lv j := by
  unfold fL tgL hrL
  repeat' split
  all_goals omega
