/-! wanted by a round -/
theorem seN_40 {n : Nat} {lv : Nat → Nat} {sh : Nat → Nat → Nat} {L : Nat} : ∀ (f : Nat) (st le : Nat → Nat) (sent kn kc : Nat), kn < 2 ^ kc → kc ≤ 40 → 40 - kc ≤ f → ∀ st9 le9 sent9 kn9 kc9, seN n lv sh L f st le sent kn kc = (true, st9, le9, sent9, kn9, kc9) → kc9 = 40
  | 0, st, le, sent, kn, kc, h3, h4, h5, st9, le9, sent9, kn9, kc9, h => by
    simp only [seN] at h
    cases h
    omega
  | f + 1, st, le, sent, kn, kc, h3, h4, h5, st9, le9, sent9, kn9, kc9, h => by
    simp only [seN] at h
    by_cases e : 40 ≤ kc
    · rw [if_pos e] at h
      cases h
      omega
    · rw [if_neg e] at h
      by_cases e2 : fN n (laS z0 L kn kc) (laZ kc) lv st le sh = 0
      · rw [if_pos e2] at h
        cases h
      · rw [if_neg e2] at h
        have hl := leR_in (on := fO n (laS z0 L kn kc) (laZ kc) lv st le sh) (ze := fZ n (laS z0 L kn kc) (laZ kc) lv st le sh) (len := fN n (laS z0 L kn kc) (laZ kc) lv st le sh) h3 h4
        have hg := leR_gt (on := fO n (laS z0 L kn kc) (laZ kc) lv st le sh) (ze := fZ n (laS z0 L kn kc) (laZ kc) lv st le sh) (len := fN n (laS z0 L kn kc) (laZ kc) lv st le sh) h3 (show kc < 40 by omega)
        exact seN_40 f _ _ _ _ _ hl.1 hl.2.2 (by omega) _ _ _ _ _ h
/-- at the last level nobody says that there is one more -/
theorem ch_lt3 {n : Nat} {lv st le : Nat → Nat} {sh : Nat → Nat → Nat} {L kn : Nat} (hL1 : 1 ≤ L) (hL : L ≤ 3) (hlv : ∀ j, j < n → 1 ≤ lv j ∧ lv j ≤ 3) (h : fO n (laC z0 L kn) 81 lv st le sh % 256 = 4) : L < 3 := by
  have hr := ch_R (n := n) (st := st) (le := le) (sh := sh) (kn := kn) hL1 hL hlv
  by_cases e : L < 3
  · exact e
  · exfalso
    have key : ∀ m, m ≤ n → anO (fB (laC z0 L kn) 81 lv st le sh) (fC (laC z0 L kn) 81 lv st le sh) m % 256 = 0 ∨ anO (fB (laC z0 L kn) 81 lv st le sh) (fC (laC z0 L kn) 81 lv st le sh) m % 256 = 32 := by
      intro m
      induction m with
      | zero => exact fun _ => Or.inl rfl
      | succ m ih =>
        intro hm
        have om : ∀ x y : Nat, (x ||| y) % 256 = x % 256 ||| y % 256 := fun x y => Nat.or_mod_two_pow (n := 8)
        simp only [anO]
        rcases hr m (by omega) with e1 | ⟨-, -, e1⟩ | ⟨e1, e2⟩
        · rw [e1, Nat.pow_zero, Nat.mod_one, Nat.or_zero]; exact ih (by omega)
        · exact absurd e1 e
        · rw [om, e1, e2, b_low.2.2.1]
          rcases ih (by omega) with i1 | i1 <;> rw [i1] <;> exact Or.inr rfl
    have := key n (Nat.le_refl _)
    unfold fO at h
    omega
theorem laH_beg {rb : Nat → Nat} (h01 : ∀ j, rb j < 2) : begN (apO (apO rb 0 80) 9 0) (9 * 2) 2 = true := by
  refine begN_oc (apO_01 (apO_01 h01 _ _) _ _) 2 (Nat.le_refl _) (fun k hk => ?_)
  rcases k with _ | _ | k
  · exact ⟨_, oc_old (oc_new (i := 0) (v := 80) (by decide)) (by decide)⟩
  · exact ⟨_, oc_new (i := 1) (v := 0) (by decide)⟩
  · omega
