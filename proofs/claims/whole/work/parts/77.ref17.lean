theorem leR_gt {on ze len kn kc : Nat} (hk : kn < 2 ^ kc) (h : kc < 40) : kc < (leR on ze len kn kc).2 := by
  unfold leR
  simp only [lrn]
  rw [if_pos h]
  by_cases e : dgN on ze len (kc + kc / 8 - (kc + kc / 8)) = 2
  · rw [if_pos e]; exact Nat.lt_succ_self _
  · rw [if_neg e]
    exact (lrn_in (on := on) (ze := ze) (len := len) (pa := kc + kc / 8) 39 _ (kc + 1) (by split <;> rw [Nat.pow_succ] <;> omega) (by omega)).2.1
theorem kb_2 {kb : Nat → Nat} {k2 c : Nat} (h : ∀ j, j < c → kb j = k2 / 2 ^ j % 2) (hk : k2 < 2 ^ c) : ∀ j, j < c + 1 → setN kb c 1 j = (k2 + 2 ^ c) / 2 ^ j % 2 := fun j hj => by
  by_cases e : j = c
  · subst e
    rw [setN_s]
    have := bt_hi (b := 1) hk (Nat.le_refl j)
    rw [Nat.one_mul, Nat.sub_self] at this
    exact this.symm
  · rw [setN_o e, h j (by omega)]
    have := bt_lo (a := k2) (b := 1) (show j < c by omega)
    rw [Nat.one_mul] at this
    exact this.symm
theorem kb_d {kb : Nat → Nat} {k2 c d : Nat} (h : ∀ j, j < c → kb j = k2 / 2 ^ j % 2) (hk : k2 < 2 ^ c) (hd : d < 2) : ∀ j, j < c + 1 → setN kb c d j = (if d = 1 then k2 + 2 ^ c else k2) / 2 ^ j % 2 := fun j hj => by
  by_cases e1 : d = 1
  · rw [if_pos e1, e1]; exact kb_2 h hk j hj
  · rw [if_neg e1]
    by_cases e : j = c
    · subst e
      rw [setN_s, Nat.div_eq_of_lt hk]
      omega
    · rw [setN_o e]; exact h j (by omega)
