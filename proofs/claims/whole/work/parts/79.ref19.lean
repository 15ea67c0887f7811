/-! a laid out CHOOSE means one, and what answers it -/
theorem crcN_cg2 {rb rb2 : Nat → Nat} {size size2 : Nat} : ∀ n, 9 * n ≤ size → 9 * n ≤ size2 → (∀ j, j < 9 * n → rb j = rb2 j) → crcN rb size n = crcN rb2 size2 n
  | 0, _, _, _ => rfl
  | n + 1, h1, h2, h => by
    simp only [crcN]
    rw [crcN_cg2 (size := size) (size2 := size2) n (by omega) (by omega) (fun j hj => h j (by omega)), valN_va 8 (by omega), valN_va 8 (by omega), vaN_cg (fun j hj => h _ (by omega))]
theorem ch_K {L kn : Nat} (hL1 : 1 ≤ L) (hL : L ≤ 3) : rdK (laC z0 L kn) 81 = 4 ∧ lvOf (valN (laC z0 L kn) 81 0 8) = L := by
  have h := laK_oc (rb := z0) (kn := kn) (v := 112) hL (by decide) 5
  have hx := crcN_lt (laK z0 L 112 kn 5) 63 7
  have h01 : ∀ j, laC z0 L kn j < 2 := laX_01 (laK_01 z0_01 _ _ _ _) _
  have hoc : ∀ i v, 9 * i + 9 ≤ 63 → oc (laK z0 L 112 kn 5) i v → oc (laC z0 L kn) i v := fun i v hi ho => oc_apB (oc_apB ho hi) (by omega)
  have o0 := hoc 0 _ (by decide) h.1
  have o1 := hoc 1 _ (by decide) h.2.1
  have o7 : oc (laC z0 L kn) 7 (crcN (laK z0 L 112 kn 5) 63 7 % 256) := oc_old (oc_new (i := 7) (Nat.mod_lt _ (by decide))) (by decide)
  have o8 : oc (laC z0 L kn) 8 (crcN (laK z0 L 112 kn 5) 63 7 / 256) := oc_new (i := 8) (show crcN (laK z0 L 112 kn 5) 63 7 / 256 < 256 by omega)
  have hg : begN (laC z0 L kn) 81 (81 / 9) = true := by
    refine begN_oc h01 9 (by decide) (fun k hk => ?_)
    by_cases e8 : k = 8
    · subst e8; exact ⟨_, o8⟩
    · by_cases e7 : k = 7
      · subst e7; exact ⟨_, o7⟩
      · rcases k with _ | _ | k
        · exact ⟨_, o0⟩
        · exact ⟨_, o1⟩
        · exact ⟨_, hoc _ _ (by omega) (by rw [show k + 1 + 1 = 2 + k by omega]; exact h.2.2 k (by omega))⟩
  have hsame : ∀ j, j < 63 → laC z0 L kn j = laK z0 L 112 kn 5 j := fun j hj => by
    show apB (apB _ 63 _ 9) 72 _ 9 j = _
    unfold apB
    rw [if_neg (by omega), if_neg (by omega)]
  have hc7 : crcN (laC z0 L kn) 81 7 = crcN (laK z0 L 112 kn 5) 63 7 := crcN_cg2 7 (by decide) (by decide) hsame
  have hc : crcN (laC z0 L kn) 81 (81 / 9) = 0 := (crcN_own (k := 7) h01 (by decide)).mpr ⟨by rw [hc7]; exact o7.1, by rw [hc7]; exact o8.1⟩
  have hK : rdK (laC z0 L kn) 81 = 4 := by
    rw [rdK_g (F := 145 + 2 * L) (S2 := 112) (by decide) (by decide) hg o0.1.symm o1.1.symm, if_neg (fun q => absurd q.2.1 (by decide)), if_neg (fun q => q.elim (fun q => absurd q (by decide)) (fun q => q hc)), if_pos ⟨by rw [lvOf_L L hL1 hL]; omega, by decide, rfl⟩]
  refine ⟨hK, ?_⟩
  rw [valN_va 8 (by decide)]
  have := o0.1
  rw [Nat.mul_zero] at this
  rw [this, lvOf_L L hL1 hL]
def b3 : Nat := octN (4 + crcB 4 1 * 2 ^ (8 * 1)) (1 + 2)
def b4 : Nat := octN (32 + crcB 32 1 * 2 ^ (8 * 1)) (1 + 2)
theorem ch_R {n : Nat} {lv st le : Nat → Nat} {sh : Nat → Nat → Nat} {L kn : Nat} (hL1 : 1 ≤ L) (hL : L ≤ 3) (hlv : ∀ j, j < n → 1 ≤ lv j ∧ lv j ≤ 3) : ∀ j, j < n → fC (laC z0 L kn) 81 lv st le sh j = 0 ∨ (fC (laC z0 L kn) 81 lv st le sh j = 27 ∧ fB (laC z0 L kn) 81 lv st le sh j = b3 ∧ L < 3) ∨ (fC (laC z0 L kn) 81 lv st le sh j = 27 ∧ fB (laC z0 L kn) 81 lv st le sh j = b4) := by
  intro j hj
  obtain ⟨hK, hF⟩ := ch_K (kn := kn) hL1 hL
  have hr : ∀ mt a b c, a ≤ 3 → hrR 4 (decide (L = c)) mt a b c = 0 ∨ (hrR 4 (decide (L = c)) mt a b c = 3 ∧ L < 3) ∨ hrR 4 (decide (L = c)) mt a b c = 4 := fun mt a b c ha => by
    unfold hrR
    by_cases e1 : b = 2 ∨ b = 5
    · by_cases e2 : L = c ∧ mt = true
      · by_cases e3 : c < a
        · refine Or.inr (Or.inl ⟨?_, by omega⟩)
          rcases e1 with rfl | rfl <;> simp [e2.1, e2.2, e3]
        · refine Or.inr (Or.inr ?_)
          rcases e1 with rfl | rfl <;> simp [e2.1, e2.2, e3]
      · refine Or.inl ?_
        rcases e1 with rfl | rfl <;> simp <;> exact fun h1 h2 => absurd ⟨h1, h2⟩ e2
    · refine Or.inl ?_
      repeat' split
      all_goals (first | rfl | omega)
  unfold fC fB tgN tgB tgR
  rw [hK, hF]
  rcases hr (mtN (sh j (le j - 1)) (rdT (laC z0 L kn) 81) (rdC (laC z0 L kn) 81)) (lv j) (st j) (le j) (hlv j hj).2 with h | ⟨h, h3⟩ | h <;> rw [h]
  · exact Or.inl rfl
  · exact Or.inr (Or.inl ⟨rfl, rfl, h3⟩)
  · exact Or.inr (Or.inr ⟨rfl, rfl⟩)
theorem b_low : b3 % 2 ^ 27 % 256 = 4 ∧ czN b3 27 % 256 = 251 ∧ b4 % 2 ^ 27 % 256 = 32 ∧ czN b4 27 % 256 = 223 := by decide +kernel
/-- low bytes of the answers to a CHOOSE -/
theorem ch_low {B C : Nat → Nat} : ∀ n, (∀ j, j < n → C j = 0 ∨ (C j = 27 ∧ B j = b3) ∨ (C j = 27 ∧ B j = b4)) → (anL C n = 0 ∧ anO B C n = 0 ∧ anZ B C n = 0) ∨ (anL C n = 27 ∧ ((anO B C n % 256 = 4 ∧ anZ B C n % 256 = 251) ∨ (anO B C n % 256 = 32 ∧ anZ B C n % 256 = 223) ∨ (anO B C n % 256 = 36 ∧ anZ B C n % 256 = 255)))
  | 0, _ => Or.inl ⟨rfl, rfl, rfl⟩
  | n + 1, h => by
    have ih := ch_low (B := B) (C := C) n (fun j hj => h j (by omega))
    have om : ∀ x y : Nat, (x ||| y) % 256 = x % 256 ||| y % 256 := fun x y => Nat.or_mod_two_pow (n := 8)
    obtain ⟨l1, l2, l3, l4⟩ := b_low
    simp only [anL, anO, anZ]
    rcases h n (by omega) with e | ⟨e1, e2⟩ | ⟨e1, e2⟩
    · rw [e, show B n % 2 ^ 0 = 0 from Nat.mod_one _, show czN (B n) 0 = 0 from Nat.mod_one _, Nat.or_zero, Nat.or_zero, Nat.max_zero]
      exact ih
    · rw [e1, e2]
      right
      rcases ih with ⟨i1, i2, i3⟩ | ⟨i1, i2 | i2 | i2⟩
      · rw [i1, i2, i3, Nat.zero_or, Nat.zero_or]; exact ⟨rfl, Or.inl ⟨l1, l2⟩⟩
      · rw [i1, om, om, i2.1, i2.2, l1, l2]; exact ⟨rfl, Or.inl ⟨rfl, rfl⟩⟩
      · rw [i1, om, om, i2.1, i2.2, l1, l2]; exact ⟨rfl, Or.inr (Or.inr ⟨rfl, rfl⟩)⟩
      · rw [i1, om, om, i2.1, i2.2, l1, l2]; exact ⟨rfl, Or.inr (Or.inr ⟨rfl, rfl⟩)⟩
    · rw [e1, e2]
      right
      rcases ih with ⟨i1, i2, i3⟩ | ⟨i1, i2 | i2 | i2⟩
      · rw [i1, i2, i3, Nat.zero_or, Nat.zero_or]; exact ⟨rfl, Or.inr (Or.inl ⟨l3, l4⟩)⟩
      · rw [i1, om, om, i2.1, i2.2, l3, l4]; exact ⟨rfl, Or.inr (Or.inr ⟨rfl, rfl⟩)⟩
      · rw [i1, om, om, i2.1, i2.2, l3, l4]; exact ⟨rfl, Or.inr (Or.inl ⟨rfl, rfl⟩)⟩
      · rw [i1, om, om, i2.1, i2.2, l3, l4]; exact ⟨rfl, Or.inr (Or.inr ⟨rfl, rfl⟩)⟩
def lowV (O Z : Nat) : Nat := vaN (fun k => digN O Z k % 2) 0 8
theorem lowV_mod (O Z : Nat) : lowV O Z = lowV (O % 256) (Z % 256) := by
  unfold lowV
  refine vaN_cg (fun j hj => ?_)
  show digN O Z (0 + j) % 2 = digN (O % 256) (Z % 256) (0 + j) % 2
  rw [Nat.zero_add, dig_cases, dig_cases, show (256 : Nat) = 2 ^ 8 from rfl, bt_mod hj, bt_mod hj]
theorem lowV_3 : lowV 4 251 = 4 ∧ lowV 32 223 = 32 ∧ lowV 36 255 = 0 := by decide +kernel
/-- says one more level: told by the reference, told by the class -/
theorem ch_more {n : Nat} {lv st le : Nat → Nat} {sh : Nat → Nat → Nat} {L kn : Nat} (hL1 : 1 ≤ L) (hL : L ≤ 3) (hlv : ∀ j, j < n → 1 ≤ lv j ∧ lv j ≤ 3) (h0 : ¬ fN n (laC z0 L kn) 81 lv st le sh = 0) : (fN n (laC z0 L kn) 81 lv st le sh = 27) ∧ (lowV (fO n (laC z0 L kn) 81 lv st le sh) (fZ n (laC z0 L kn) 81 lv st le sh) = 4 ↔ fO n (laC z0 L kn) 81 lv st le sh % 256 = 4 ∧ fZ n (laC z0 L kn) 81 lv st le sh % 256 = 4 ^^^ 255) := by
  have hr := ch_R (n := n) (st := st) (le := le) (sh := sh) (kn := kn) hL1 hL hlv
  have hl := ch_low (B := fB (laC z0 L kn) 81 lv st le sh) (C := fC (laC z0 L kn) 81 lv st le sh) n (fun j hj => (hr j hj).imp id (fun h => h.imp (fun h => ⟨h.1, h.2.1⟩) id))
  obtain ⟨v1, v2, v3⟩ := lowV_3
  have e255 : 4 ^^^ 255 = 251 := by decide
  rcases hl with ⟨l1, -, -⟩ | ⟨l1, l2⟩
  · exact absurd l1 h0
  · refine ⟨l1, ?_⟩
    rw [lowV_mod, e255]
    unfold fO fZ
    rcases l2 with ⟨a, b⟩ | ⟨a, b⟩ | ⟨a, b⟩ <;> rw [a, b]
    · rw [v1]; decide
    · rw [v2]; decide
    · rw [v3]; decide
