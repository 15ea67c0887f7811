/-! words of a round -/
theorem hp_nne {X : hp_X} {μ : hp_M} {a b n m : Nat} {f g : Nat → Nat} (h1 : μ a = some (hp_n X n f)) (h2 : μ b = some (hp_n X m g)) (h : n ≠ m) : a ≠ b := hp_ne h1 h2 (fun e => h (by injection e with e1; injection e1 with e2 e3; injection e3))
/-- what the reader's own methods may change -/
abbrev rFP (ar f1 a n : Nat) (ta : Nat → Nat) (rd r b : Nat) : Nat → Prop := fun c9 => aFP ar f1 a n ta c9 ∨ c9 = rd ∨ c9 = r ∨ c9 = b
theorem AW.out2 {X : hp_X} {μ : hp_M} {ar l1 f1 mc q n sent : Nat} {on : Bool} {f : Nat → Option Nat} {ta sa lv st le : Nat → Nat} {aw : Nat → Bool} {sh : Nat → Nat → Nat} (h : AW X μ ar l1 f1 mc q n on sent f ta sa lv aw st le sh) {c a rd r b : Nat} {e : va_E} (hc : μ c = some e) (he : ¬ awE e) (h1 : c ≠ a) (h2 : c ≠ rd) (h3 : c ≠ r) (h4 : c ≠ b) : ¬ rFP ar f1 a n ta rd r b c := by
  rintro (q | q | q | q)
  · exact h.out hc he h1 q
  · exact h2 q
  · exact h3 q
  · exact h4 q
theorem seN_in {n : Nat} {lv : Nat → Nat} {sh : Nat → Nat → Nat} {L : Nat} (hlv : ∀ j, j < n → 1 ≤ lv j ∧ lv j ≤ 3) : ∀ (f : Nat) (st le : Nat → Nat) (sent kn kc : Nat), (∀ j, j < n → st j < 8) → (∀ j, j < n → 1 ≤ le j ∧ le j ≤ 3) → kn < 2 ^ kc → kc ≤ 40 → ∀ ok st9 le9 sent9 kn9 kc9, seN n lv sh L f st le sent kn kc = (ok, st9, le9, sent9, kn9, kc9) → (∀ j, j < n → st9 j < 8) ∧ (∀ j, j < n → 1 ≤ le9 j ∧ le9 j ≤ 3) ∧ sent9 ≤ sent + f ∧ kn9 < 2 ^ kc9 ∧ kc9 ≤ 40
  | 0, st, le, sent, kn, kc, h1, h2, h3, h4, ok, st9, le9, sent9, kn9, kc9, h => by
    simp only [seN] at h
    cases h
    exact ⟨h1, h2, by omega, h3, h4⟩
  | f + 1, st, le, sent, kn, kc, h1, h2, h3, h4, ok, st9, le9, sent9, kn9, kc9, h => by
    simp only [seN] at h
    by_cases e : 40 ≤ kc
    · rw [if_pos e] at h
      cases h
      exact ⟨h1, h2, by omega, h3, h4⟩
    · rw [if_neg e] at h
      by_cases e2 : fN n (laS z0 L kn kc) (laZ kc) lv st le sh = 0
      · rw [if_pos e2] at h
        cases h
        exact ⟨fS_lt _ _ _ _ h1, fL_in _ _ _ _ hlv h2, by omega, h3, h4⟩
      · rw [if_neg e2] at h
        have hl := leR_in (on := fO n (laS z0 L kn kc) (laZ kc) lv st le sh) (ze := fZ n (laS z0 L kn kc) (laZ kc) lv st le sh) (len := fN n (laS z0 L kn kc) (laZ kc) lv st le sh) h3 h4
        have ih := seN_in hlv f _ _ _ _ _ (fS_lt _ _ _ _ h1) (fL_in _ _ _ _ hlv h2) hl.1 hl.2.2 _ _ _ _ _ _ h
        exact ⟨ih.1, ih.2.1, by omega, ih.2.2.2⟩
/-- bytes kept -/
def kpN (kn cnt fm s0 : Nat) (nb : Nat → Nat) : Nat → Nat → Nat
  | 0 => nb
  | k + 1 => setN (kpN kn cnt fm s0 nb k) (10 * cnt + (s0 + k)) (kn / 2 ^ (8 * (fm + k)) % 256)
theorem setN_s (f : Nat → Nat) (k v : Nat) : setN f k v k = v := if_pos rfl
theorem setN_o {f : Nat → Nat} {k v j : Nat} (h : j ≠ k) : setN f k v j = f j := if_neg h
theorem setN_id (f : Nat → Nat) (k : Nat) : setN f k (f k) = f := by
  funext j
  unfold setN
  by_cases h : j = k
  · rw [if_pos h, h]
  · rw [if_neg h]
theorem setN_2 (f : Nat → Nat) (k v w : Nat) : setN (setN f k v) k w = setN f k w := by
  funext j
  unfold setN
  by_cases h : j = k
  · rw [if_pos h, if_pos h]
  · rw [if_neg h, if_neg h, if_neg h]
/-- one way down: found?; states, levels, sent, bytes, sizes, count -/
def foL (n : Nat) (lv : Nat → Nat) (sh : Nat → Nat → Nat) (cnt : Nat) : Nat → Nat → (Nat → Nat) → (Nat → Nat) → Nat → (Nat → Nat) → (Nat → Nat) → Bool × (Nat → Nat) × (Nat → Nat) × Nat × (Nat → Nat) × (Nat → Nat) × Nat
  | 0, _, st, le, sent, nb, sz => (false, st, le, sent, nb, sz, cnt)
  | f + 1, L, st, le, sent, nb, sz =>
    match seN n lv sh L 40 st le sent 0 0 with
    | (ok, st1, le1, sent1, kn, _) =>
      if ok = true then
        if fN n (laC z0 L kn) 81 lv st1 le1 sh = 0 then (false, fS (laC z0 L kn) 81 lv st1 le1 sh, fL (laC z0 L kn) 81 lv st1 le1 sh, sent1 + 1, nb, sz, cnt)
        else if fO n (laC z0 L kn) 81 lv st1 le1 sh % 256 = 4 ∧ fZ n (laC z0 L kn) 81 lv st1 le1 sh % 256 = 4 ^^^ 255 then
          foL n lv sh cnt f (L + 1) (fS (laC z0 L kn) 81 lv st1 le1 sh) (fL (laC z0 L kn) 81 lv st1 le1 sh) (sent1 + 1) (kpN kn cnt 1 (sz cnt) nb 3) (setN sz cnt (sz cnt + 3))
        else (true, fS (laH z0) 36 lv (fS (laC z0 L kn) 81 lv st1 le1 sh) (fL (laC z0 L kn) 81 lv st1 le1 sh) sh, fL (laH z0) 36 lv (fS (laC z0 L kn) 81 lv st1 le1 sh) (fL (laC z0 L kn) 81 lv st1 le1 sh) sh, sent1 + 1 + 1, kpN kn cnt 0 (sz cnt) nb 4, setN sz cnt (sz cnt + 4), cnt + 1)
      else (false, st1, le1, sent1, nb, sz, cnt)
/-- the bits of REQUEST -/
def rqB (rb : Nat → Nat) : Nat → Nat := apB rb 0 (nI 38) 7
theorem rqB_congr (rb rb2 : Nat → Nat) : ∀ j, j < 7 → rqB rb j = rqB rb2 j := fun j hj => apB_congr (size := 0) (fun j h => absurd h (Nat.not_lt_zero _)) _ 7 j (by omega)
theorem rqB_01 {rb : Nat → Nat} (h : ∀ j, rb j < 2) : ∀ j, rqB rb j < 2 := apB_01 h _ _ _
def fo1 (n : Nat) (lv : Nat → Nat) (sh : Nat → Nat → Nat) (st le : Nat → Nat) (sent : Nat) (nb sz : Nat → Nat) (cnt : Nat) : Bool × (Nat → Nat) × (Nat → Nat) × Nat × (Nat → Nat) × (Nat → Nat) × Nat :=
  if 40 ≤ cnt then (false, st, le, sent, nb, sz, cnt)
  else if fN n (rqB z0) 7 lv st le sh = 0 then (false, fS (rqB z0) 7 lv st le sh, fL (rqB z0) 7 lv st le sh, sent + 1, nb, sz, cnt)
  else foL n lv sh cnt 3 1 (fS (rqB z0) 7 lv st le sh) (fL (rqB z0) 7 lv st le sh) (sent + 1) nb (setN sz cnt 0)
abbrev gFP (ar f1 a n : Nat) (ta : Nat → Nat) (rd r b nb sz : Nat) : Nat → Prop := fun c9 => rFP ar f1 a n ta rd r b c9 ∨ c9 = nb ∨ c9 = sz
