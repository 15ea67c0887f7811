/-! pure facts that hold both sides together -/
theorem shA_un {a b c : Int32} {lv : Nat} (h1 : 1 ≤ lv) : shA a b c lv (lv - 1) % 256 = nbN a b c (3 * lv + 1 - 4) := by
  unfold shA
  rw [if_pos (by omega), decide_eq_true (by omega : lv - 1 + 1 = lv)]
  unfold shV
  simp only [shF]
  have h := nbN_lt a b c (3 * (lv - 1) + 0)
  rw [show 3 * lv + 1 - 4 = 3 * (lv - 1) + 0 by omega]
  omega
theorem shV_md {F : Nat} (h : F < 4294967296) : shV F % 4294967296 = F := by
  unfold shV
  omega
theorem shF_t {a b c x y z : Int32} {i : Nat} : shF a b c i true = shF x y z i true ↔ nbN a b c (3 * i + 0) = nbN x y z (3 * i + 0) ∧ nbN a b c (3 * i + 1) = nbN x y z (3 * i + 1) ∧ nbN a b c (3 * i + 2) = nbN x y z (3 * i + 2) ∧ nbN a b c (3 * i + 3) = nbN x y z (3 * i + 3) := by
  have h0 := nbN_lt a b c (3 * i + 0)
  have h1 := nbN_lt a b c (3 * i + 1)
  have h2 := nbN_lt a b c (3 * i + 2)
  have h3 := nbN_lt a b c (3 * i + 3)
  have g0 := nbN_lt x y z (3 * i + 0)
  have g1 := nbN_lt x y z (3 * i + 1)
  have g2 := nbN_lt x y z (3 * i + 2)
  have g3 := nbN_lt x y z (3 * i + 3)
  simp only [shF]
  omega
theorem shF_f {a b c x y z : Int32} {i : Nat} : shF a b c i false = shF x y z i false ↔ nbN a b c (3 * i + 0) = nbN x y z (3 * i + 0) ∧ nbN a b c (3 * i + 1) = nbN x y z (3 * i + 1) ∧ nbN a b c (3 * i + 2) = nbN x y z (3 * i + 2) := by
  have h0 := nbN_lt a b c (3 * i + 0)
  have h1 := nbN_lt a b c (3 * i + 1)
  have h2 := nbN_lt a b c (3 * i + 2)
  have g0 := nbN_lt x y z (3 * i + 0)
  have g1 := nbN_lt x y z (3 * i + 1)
  have g2 := nbN_lt x y z (3 * i + 2)
  simp only [shF]
  omega
theorem shV_iff {a b c x y z : Int32} {i : Nat} {t : Bool} : shV (shF a b c i t) = shV (shF x y z i t) ↔ shF a b c i t = shF x y z i t := by
  constructor
  · intro h
    rw [← shV_md (shF_lt a b c i t), h, shV_md (shF_lt x y z i t)]
  · intro h
    rw [h]
theorem shA_iff {a b c x y z : Int32} {lv : Nat} (h1 : 1 ≤ lv) (h3 : lv ≤ 3) : (shA a b c lv 0 = shA x y z lv 0 ∧ shA a b c lv 1 = shA x y z lv 1 ∧ shA a b c lv 2 = shA x y z lv 2) ↔ ∀ k, k < 3 * lv + 1 → nbN a b c k = nbN x y z k := by
  have hl : lv = 1 ∨ lv = 2 ∨ lv = 3 := by omega
  rcases hl with rfl | rfl | rfl
  · simp only [shA, Nat.reduceLT, Nat.reduceAdd, if_true, if_false, decide_true, shV_iff, shF_t, Nat.reduceMul]
    constructor
    · rintro ⟨⟨e0, e1, e2, e3⟩, -, -⟩ k hk
      have : k = 0 ∨ k = 1 ∨ k = 2 ∨ k = 3 := by omega
      rcases this with rfl | rfl | rfl | rfl <;> assumption
    · intro h
      exact ⟨⟨h 0 (by omega), h 1 (by omega), h 2 (by omega), h 3 (by omega)⟩, trivial, trivial⟩
  · simp only [shA, Nat.reduceLT, Nat.reduceAdd, if_true, if_false, decide_true, Nat.reduceMul, Nat.reduceEqDiff, decide_false, shV_iff, shF_t, shF_f]
    constructor
    · rintro ⟨⟨e0, e1, e2⟩, ⟨e3, e4, e5, e6⟩, -⟩ k hk
      have : k = 0 ∨ k = 1 ∨ k = 2 ∨ k = 3 ∨ k = 4 ∨ k = 5 ∨ k = 6 := by omega
      rcases this with rfl | rfl | rfl | rfl | rfl | rfl | rfl <;> assumption
    · intro h
      exact ⟨⟨h 0 (by omega), h 1 (by omega), h 2 (by omega)⟩, ⟨h 3 (by omega), h 4 (by omega), h 5 (by omega), h 6 (by omega)⟩, trivial⟩
  · simp only [shA, Nat.reduceLT, Nat.reduceAdd, if_true, if_false, decide_true, Nat.reduceMul, Nat.reduceEqDiff, decide_false, shV_iff, shF_t, shF_f]
    constructor
    · rintro ⟨⟨e0, e1, e2⟩, ⟨e3, e4, e5⟩, ⟨e6, e7, e8, e9⟩⟩ k hk
      have : k = 0 ∨ k = 1 ∨ k = 2 ∨ k = 3 ∨ k = 4 ∨ k = 5 ∨ k = 6 ∨ k = 7 ∨ k = 8 ∨ k = 9 := by omega
      rcases this with rfl | rfl | rfl | rfl | rfl | rfl | rfl | rfl | rfl | rfl <;> assumption
    · intro h
      exact ⟨⟨h 0 (by omega), h 1 (by omega), h 2 (by omega)⟩, ⟨h 3 (by omega), h 4 (by omega), h 5 (by omega)⟩, ⟨h 6 (by omega), h 7 (by omega), h 8 (by omega), h 9 (by omega)⟩⟩
/-- the class and the reference know the same tags -/
theorem kn_same {n : Nat} {lv : Nat → Nat} {sh : Nat → Nat → Nat} {lv2 : Nat} {a b c : Int32} {Z Nu : Nat → Nat} (hl1 : 1 ≤ lv2) (hl3 : lv2 ≤ 3) (hZ : ∀ j, j < n → Z (j + 1) = 3 * lv j + 1) (hN : ∀ j, j < n → ∃ A B C : Int32, sh j = shA A B C (lv j) ∧ ∀ k, k < 3 * lv j + 1 → Nu (10 * (j + 1) + k) = nbN A B C k) : knN n lv sh lv2 (shA a b c lv2) ↔ ∃ j, j < n ∧ smR Z Nu lv2 a b c j := by
  have key : ∀ j, j < n → ((sh j 0 = shA a b c lv2 0 ∧ sh j 1 = shA a b c lv2 1 ∧ sh j 2 = shA a b c lv2 2 ∧ lv j = lv2) ↔ smR Z Nu lv2 a b c j) := by
    intro j hj
    obtain ⟨A, B, C, e1, e2⟩ := hN j hj
    unfold smR
    rw [hZ j hj]
    constructor
    · rintro ⟨h0, h1, h2, h4⟩
      rw [e1, h4] at h0 h1 h2
      have h := (shA_iff hl1 hl3).mp ⟨h0, h1, h2⟩
      refine ⟨by rw [h4], fun k hk => ?_⟩
      rw [e2 k (by rw [h4]; exact hk)]
      exact h k hk
    · rintro ⟨h4, h⟩
      have h4 : lv j = lv2 := by omega
      rw [h4] at e1 e2
      rw [e1]
      have h9 := (shA_iff (a := A) (b := B) (c := C) (x := a) (y := b) (z := c) hl1 hl3).mpr (fun k hk => by rw [← e2 k hk]; exact h k hk)
      exact ⟨h9.1, h9.2.1, h9.2.2, h4⟩
  unfold knN
  constructor
  · rintro ⟨j, hj, h⟩
    exact ⟨j, hj, (key j hj).mp h⟩
  · rintro ⟨j, hj, h⟩
    exact ⟨j, hj, (key j hj).mpr h⟩
theorem knB_t {n : Nat} {lv : Nat → Nat} {sh : Nat → Nat → Nat} {lv2 : Nat} {sh2 : Nat → Nat} (h : knN n lv sh lv2 sh2) : knB n lv sh lv2 sh2 = true := by
  unfold knB
  exact @decide_eq_true _ (Classical.propDecidable _) h
theorem knB_f {n : Nat} {lv : Nat → Nat} {sh : Nat → Nat → Nat} {lv2 : Nat} {sh2 : Nat → Nat} (h : ¬ knN n lv sh lv2 sh2) : knB n lv sh lv2 sh2 = false := by
  unfold knB
  exact @decide_eq_false _ (Classical.propDecidable _) h
theorem fdN_at {is : Bool} {G : Nat → Bool} {S : Nat → Nat} {n j : Nat} (hj : j < n) : fdN is G S (n + 1) (j + 1) = if is = true ∧ G (j + 1) = false then 1 else 0 := by
  unfold fdN
  rw [if_pos (by omega)]
theorem fL_in2 {n : Nat} {lv st le : Nat → Nat} {sh : Nat → Nat → Nat} (hlv : ∀ j, j < n → 1 ≤ lv j ∧ lv j ≤ 3) (h2 : ∀ j, j < n → 1 ≤ le j ∧ le j ≤ lv j) (rb : Nat → Nat) (size : Nat) : ∀ j, j < n → 1 ≤ fL rb size lv st le sh j ∧ fL rb size lv st le sh j ≤ lv j := fun j hj => ⟨(fL_in rb size st sh hlv (fun j hj => ⟨(h2 j hj).1, Nat.le_trans (h2 j hj).2 (hlv j hj).2⟩) j hj).1, fL_le (hlv j hj).1 (h2 j hj).2⟩
theorem fS_0 {n : Nat} {lv st le : Nat → Nat} {sh : Nat → Nat → Nat} {rb : Nat → Nat} {size : Nat} (h : ∀ j, j < n → st j = 0) : ∀ j, j < n → fS rb size lv st le sh j = 0 := fun j hj => (f_out (h j hj)).1
theorem foL_in2 {n : Nat} {lv : Nat → Nat} {sh : Nat → Nat → Nat} {cnt : Nat} (hlv : ∀ j, j < n → 1 ≤ lv j ∧ lv j ≤ 3) : ∀ (f L : Nat) (st le : Nat → Nat) (sent : Nat) (nb sz : Nat → Nat), (∀ j, j < n → 1 ≤ le j ∧ le j ≤ lv j) → ∀ ok st9 le9 sent9 nb9 sz9 cnt9, foL n lv sh cnt f L st le sent nb sz = (ok, st9, le9, sent9, nb9, sz9, cnt9) → (∀ j, j < n → 1 ≤ le9 j ∧ le9 j ≤ lv j) ∧ ((∀ j, j < n → st j = 0) → ∀ j, j < n → st9 j = 0)
  | 0, L, st, le, sent, nb, sz, h4, ok, st9, le9, sent9, nb9, sz9, cnt9, h => by
    simp only [foL] at h
    cases h
    exact ⟨h4, id⟩
  | f + 1, L, st, le, sent, nb, sz, h4, ok, st9, le9, sent9, nb9, sz9, cnt9, h => by
    simp only [foL] at h
    rcases hse : seN n lv sh L 40 st le sent 0 0 with ⟨ok2, st2, le2, sent2, kn2, kc2⟩
    have hin := seN_in2 hlv 40 _ _ _ _ _ h4 _ _ _ _ _ _ hse
    rw [hse] at h
    simp only at h
    by_cases c1 : ok2 = true
    · rw [if_pos c1] at h
      by_cases c2 : fN n (laC z0 L kn2) 81 lv st2 le2 sh = 0
      · rw [if_pos c2] at h
        cases h
        exact ⟨fL_in2 hlv hin.1 _ _, fun h0 => fS_0 (hin.2 h0)⟩
      · rw [if_neg c2] at h
        by_cases c3 : fO n (laC z0 L kn2) 81 lv st2 le2 sh % 256 = 4 ∧ fZ n (laC z0 L kn2) 81 lv st2 le2 sh % 256 = 4 ^^^ 255
        · rw [if_pos c3] at h
          have ih := foL_in2 hlv f (L + 1) _ _ _ _ _ (fL_in2 hlv hin.1 _ _) _ _ _ _ _ _ _ h
          exact ⟨ih.1, fun h0 => ih.2 (fS_0 (hin.2 h0))⟩
        · rw [if_neg c3] at h
          cases h
          exact ⟨fL_in2 hlv (fL_in2 hlv hin.1 _ _) _ _, fun h0 => fS_0 (fS_0 (hin.2 h0))⟩
    · rw [if_neg c1] at h
      cases h
      exact ⟨hin.1, hin.2⟩
theorem fo1_in2 {n : Nat} {lv : Nat → Nat} {sh : Nat → Nat → Nat} {cnt : Nat} (hlv : ∀ j, j < n → 1 ≤ lv j ∧ lv j ≤ 3) {st le : Nat → Nat} {sent : Nat} {nb sz : Nat → Nat} (h4 : ∀ j, j < n → 1 ≤ le j ∧ le j ≤ lv j) {ok : Bool} {st9 le9 : Nat → Nat} {sent9 : Nat} {nb9 sz9 : Nat → Nat} {cnt9 : Nat} (h : fo1 n lv sh st le sent nb sz cnt = (ok, st9, le9, sent9, nb9, sz9, cnt9)) : (∀ j, j < n → 1 ≤ le9 j ∧ le9 j ≤ lv j) ∧ ((∀ j, j < n → st j = 0) → ∀ j, j < n → st9 j = 0) ∧ (ok = true → cnt < 40) := by
  unfold fo1 at h
  by_cases c1 : 40 ≤ cnt
  · rw [if_pos c1] at h
    cases h
    exact ⟨h4, id, fun e => (nomatch e)⟩
  · rw [if_neg c1] at h
    by_cases c2 : fN n (rqB z0) 7 lv st le sh = 0
    · rw [if_pos c2] at h
      cases h
      exact ⟨fL_in2 hlv h4 _ _, fS_0, fun e => (nomatch e)⟩
    · rw [if_neg c2] at h
      have ih := foL_in2 hlv 3 1 _ _ _ _ _ (fL_in2 hlv h4 _ _) _ _ _ _ _ _ _ h
      exact ⟨ih.1, fun h0 => ih.2 (fS_0 h0), fun _ => by omega⟩
theorem rnN_in {n : Nat} {lv : Nat → Nat} {sh : Nat → Nat → Nat} (hlv : ∀ j, j < n → 1 ≤ lv j ∧ lv j ≤ 3) : ∀ (f : Nat) (st le : Nat → Nat) (sent : Nat) (nb sz : Nat → Nat) (cnt : Nat), (∀ j, j < n → st j < 8) → (∀ j, j < n → 1 ≤ le j ∧ le j ≤ lv j) → (∀ j, j < cnt → sz j ≤ 10) → cnt ≤ 40 → ∀ st9 le9 sent9 nb9 sz9 cnt9, rnN n lv sh f st le sent nb sz cnt = (st9, le9, sent9, nb9, sz9, cnt9) → (∀ j, j < n → st9 j < 8) ∧ (∀ j, j < n → 1 ≤ le9 j ∧ le9 j ≤ lv j) ∧ ((∀ j, j < n → st j = 0) → ∀ j, j < n → st9 j = 0) ∧ sent9 ≤ sent + 125 * f ∧ cnt9 ≤ 40 ∧ (∀ j, j < cnt9 → sz9 j ≤ 10)
  | 0, st, le, sent, nb, sz, cnt, h1, h2, h3, h4, st9, le9, sent9, nb9, sz9, cnt9, h => by
    simp only [rnN] at h
    cases h
    exact ⟨h1, h2, id, by omega, h4, h3⟩
  | f + 1, st, le, sent, nb, sz, cnt, h1, h2, h3, h4, st9, le9, sent9, nb9, sz9, cnt9, h => by
    simp only [rnN] at h
    rcases hfo : fo1 n lv sh st le sent nb sz cnt with ⟨ok2, st2, le2, sent2, nb2, sz2, cnt2⟩
    have a := fo1_in hlv h1 (fun j hj => ⟨(h2 j hj).1, Nat.le_trans (h2 j hj).2 (hlv j hj).2⟩) h3 hfo
    have b := fo1_in2 hlv h2 hfo
    rw [hfo] at h
    simp only at h
    have e1 := a.2.2.1
    by_cases c1 : ok2 = true
    · rw [if_pos c1] at h
      have e2 := a.2.2.2.2.2.1 c1
      have e3 := b.2.2 c1
      have ih := rnN_in hlv f _ _ _ _ _ _ a.1 b.1 a.2.2.2.2.1 (by omega) _ _ _ _ _ _ h
      exact ⟨ih.1, ih.2.1, fun h0 => ih.2.2.1 (b.2.1 h0), by have := ih.2.2.2.1; omega, ih.2.2.2.2⟩
    · rw [if_neg c1] at h
      cases h
      have e2 := a.2.2.2.2.2.2 (by cases ok2 with | false => rfl | true => exact absurd rfl c1)
      exact ⟨a.1, b.1, b.2.1, by omega, by omega, a.2.2.2.2.1⟩
