theorem seN_in2 {n : Nat} {lv : Nat → Nat} {sh : Nat → Nat → Nat} {L : Nat} (hlv : ∀ j, j < n → 1 ≤ lv j ∧ lv j ≤ 3) : ∀ (f : Nat) (st le : Nat → Nat) (sent kn kc : Nat), (∀ j, j < n → 1 ≤ le j ∧ le j ≤ lv j) → ∀ ok st9 le9 sent9 kn9 kc9, seN n lv sh L f st le sent kn kc = (ok, st9, le9, sent9, kn9, kc9) → (∀ j, j < n → 1 ≤ le9 j ∧ le9 j ≤ lv j) ∧ ((∀ j, j < n → st j = 0) → ∀ j, j < n → st9 j = 0)
  | 0, st, le, sent, kn, kc, h2, ok, st9, le9, sent9, kn9, kc9, h => by
    simp only [seN] at h
    cases h
    exact ⟨h2, id⟩
  | f + 1, st, le, sent, kn, kc, h2, ok, st9, le9, sent9, kn9, kc9, h => by
    have h3 : ∀ (rb : Nat → Nat) (size : Nat) j, j < n → 1 ≤ fL rb size lv st le sh j ∧ fL rb size lv st le sh j ≤ lv j := fun rb size j hj => ⟨(fL_in rb size st sh hlv (fun j hj => ⟨(h2 j hj).1, Nat.le_trans (h2 j hj).2 (hlv j hj).2⟩) j hj).1, fL_le (hlv j hj).1 (h2 j hj).2⟩
    simp only [seN] at h
    by_cases e : 40 ≤ kc
    · rw [if_pos e] at h
      cases h
      exact ⟨h2, id⟩
    · rw [if_neg e] at h
      by_cases e2 : fN n (laS z0 L kn kc) (laZ kc) lv st le sh = 0
      · rw [if_pos e2] at h
        cases h
        exact ⟨h3 _ _, fun h0 j hj => (f_out (h0 j hj)).1⟩
      · rw [if_neg e2] at h
        have ih := seN_in2 hlv f _ _ _ _ _ (h3 _ _) _ _ _ _ _ _ h
        exact ⟨ih.1, fun h0 => ih.2 (fun j hj => (f_out (h0 j hj)).1)⟩
