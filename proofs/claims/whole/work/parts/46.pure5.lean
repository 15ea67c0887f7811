theorem tg_conv {K FL SE td tc td2 tc2 : Nat} (h : K = 3 ∨ K = 4 → td = td2 ∧ tc = tc2) (lv st le : Nat → Nat) (sh : Nat → Nat → Nat) :
    tgS K FL td tc lv st le sh = tgS K FL td2 tc2 lv st le sh ∧ tgL K FL td tc lv st le sh = tgL K FL td2 tc2 lv st le sh ∧ tgB K FL SE td tc lv st le sh = tgB K FL SE td2 tc2 lv st le sh ∧ tgN K FL td tc lv st le sh = tgN K FL td2 tc2 lv st le sh := by
  have key : ∀ j, tgS K FL td tc lv st le sh j = tgS K FL td2 tc2 lv st le sh j ∧ tgL K FL td tc lv st le sh j = tgL K FL td2 tc2 lv st le sh j ∧ tgR K FL td tc lv st le sh j = tgR K FL td2 tc2 lv st le sh j := fun j =>
    hr_mt (fun hk => by rw [(h hk).1, (h hk).2])
  have hL : ∀ j, saL (tgR K FL td2 tc2 lv st le sh j) tc = saL (tgR K FL td2 tc2 lv st le sh j) tc2 := fun j => by
    by_cases e : tgR K FL td2 tc2 lv st le sh j = 2
    · rw [(h (Or.inl (hrR_2 e))).2]
    · unfold saL; simp [e]
  have hB : ∀ j a b, saB (tgR K FL td2 tc2 lv st le sh j) a b SE tc = saB (tgR K FL td2 tc2 lv st le sh j) a b SE tc2 := fun j a b => by
    by_cases e : tgR K FL td2 tc2 lv st le sh j = 2
    · rw [(h (Or.inl (hrR_2 e))).2]
    · unfold saB; simp [e]
  refine ⟨funext fun j => (key j).1, funext fun j => (key j).2.1, funext fun j => ?_, funext fun j => ?_⟩
  · unfold tgB; rw [(key j).2.1, (key j).2.2, hB]
  · unfold tgN; rw [(key j).2.2, hL]
theorem capN_s {n : Nat} (h : n < 16) (h1 : n ≠ 10) (h2 : n ≠ 15) : capN (n + 1) = capN n ∧ n < capN n := by
  unfold capN
  split <;> (try split) <;> (try split) <;> (try split) <;> omega
theorem hLA_add {X : hp_X} {μ : hp_M} {l1 q n m : Nat} {g : Nat → Option Nat} {ta : Nat → Nat} {t : Nat} (hm : m = n + 1) (hq : μ q = some (hp_q X (capN (n + 1)) (va_up g n (some t)))) (hg : ∀ i, i < n → g i = some (ta i)) : hLA X μ l1 q m (va_up g n (some t)) (setN ta n t) := by
  subst hm
  refine Or.inr ⟨Nat.succ_pos _, hq, fun i hi => ?_⟩
  unfold va_up setN
  by_cases e : i = n
  · rw [if_pos e, if_pos e]
  · rw [if_neg e, if_neg e]
    exact hg i (by omega)
theorem cpy0 {f : Nat → Option Nat} {n i : Nat} (h : i < n) : va_cpy f (fun _ => none) 0 0 n i = f i := by
  rw [pk_cpy_in (Nat.zero_le _) (by omega), Nat.zero_add, Nat.sub_zero]
