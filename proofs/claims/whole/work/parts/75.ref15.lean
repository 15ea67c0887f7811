/-! rows that are laid out octet by octet -/
def oc (rb : Nat → Nat) (i v : Nat) : Prop := vaN rb (9 * i) 8 = v ∧ prN v 8 = rb (9 * i + 8)
theorem vaN_cg {rb rb2 : Nat → Nat} {fm : Nat} : ∀ {n : Nat}, (∀ j, j < n → rb (fm + j) = rb2 (fm + j)) → vaN rb fm n = vaN rb2 fm n
  | 0, _ => rfl
  | n + 1, h => by simp only [vaN]; rw [vaN_cg (n := n) (fun j hj => h j (by omega)), h n (by omega)]
theorem oc_new {rb : Nat → Nat} {i v : Nat} (hv : v < 256) : oc (apO rb (9 * i) v) i v := by
  have ho := octB_lt hv
  have hb : ∀ k, k < 9 → apO rb (9 * i) v (9 * i + k) = octB v / 2 ^ k % 2 := fun k hk => by
    unfold apO apB
    rw [if_pos (by omega), Nat.add_sub_cancel_left, bitI_n (by omega)]
  have e1 : vaN (apO rb (9 * i) v) (9 * i) 8 = v % 2 ^ 8 := vaN_of (fun k hk => by rw [hb k (by omega), prN_o v hv k (by omega), if_pos hk])
  refine ⟨e1.trans (Nat.mod_eq_of_lt hv), ?_⟩
  rw [hb 8 (by decide), prN_o v hv 8 (by decide)]
  rfl
theorem oc_apB {rb : Nat → Nat} {j w size n : Nat} {v : Int32} (h : oc rb j w) (hj : 9 * j + 9 ≤ size) : oc (apB rb size v n) j w := by
  have hb : ∀ k, k < 9 → apB rb size v n (9 * j + k) = rb (9 * j + k) := fun k hk => by
    unfold apB
    rw [if_neg (by omega)]
  exact ⟨(vaN_cg (fun k hk => hb k (by omega))).trans h.1, h.2.trans (hb 8 (by decide)).symm⟩
theorem oc_old {rb : Nat → Nat} {j w size v : Nat} (h : oc rb j w) (hj : 9 * j + 9 ≤ size) : oc (apO rb size v) j w := oc_apB h hj
theorem begN_oc {rb : Nat → Nat} {size : Nat} (h01 : ∀ j, rb j < 2) : ∀ n, 9 * n ≤ size → (∀ i, i < n → ∃ v, oc rb i v) → begN rb size n = true
  | 0, _, _ => rfl
  | n + 1, hs, h => by
    have ih := begN_oc (size := size) h01 n (by omega) (fun i hi => h i (by omega))
    rw [begN_s h01 (by omega) ih]
    obtain ⟨v, h1, h2⟩ := h n (by omega)
    exact decide_eq_true (by rw [h1]; exact h2)
theorem laK_oc {rb : Nat → Nat} {L v kn : Nat} (hL : L ≤ 3) (hv : v < 256) : ∀ i, oc (laK rb L v kn i) 0 (145 + 2 * L) ∧ oc (laK rb L v kn i) 1 v ∧ ∀ j, j < i → oc (laK rb L v kn i) (2 + j) (kn / 2 ^ (8 * j) % 256)
  | 0 => ⟨oc_old (oc_new (i := 0) (by omega)) (by decide), oc_new (i := 1) hv, fun j hj => absurd hj (Nat.not_lt_zero _)⟩
  | i + 1 => by
    have ih := laK_oc (rb := rb) (kn := kn) hL hv i
    refine ⟨oc_old ih.1 (by omega), oc_old ih.2.1 (by omega), fun j hj => ?_⟩
    by_cases e : j = i
    · subst e
      exact oc_new (i := 2 + j) (Nat.mod_lt _ (by decide))
    · exact oc_old (ih.2.2 j (by omega)) (by omega)
theorem laK_beg {rb : Nat → Nat} (h01 : ∀ j, rb j < 2) {L v kn : Nat} (hL : L ≤ 3) (hv : v < 256) (i : Nat) : begN (laK rb L v kn i) (9 * (2 + i)) (2 + i) = true := by
  have h := laK_oc (rb := rb) (kn := kn) hL hv i
  refine begN_oc (laK_01 h01 _ _ _ _) _ (Nat.le_refl _) (fun k hk => ?_)
  rcases k with _ | _ | k
  · exact ⟨_, h.1⟩
  · exact ⟨_, h.2.1⟩
  · exact ⟨_, by rw [show k + 1 + 1 = 2 + k by omega]; exact h.2.2 k (by omega)⟩
theorem lvOf_L : ∀ L, 1 ≤ L → L ≤ 3 → lvOf (145 + 2 * L) = L := by
  intro L h1 h3
  have h : L = 1 ∨ L = 2 ∨ L = 3 := by omega
  rcases h with rfl | rfl | rfl <;> rfl
theorem z0_01 : ∀ j, z0 j < 2 := fun _ => Nat.zero_lt_two
/-- a laid out SEARCH means one -/
theorem se_K {L kn kc : Nat} (hL1 : 1 ≤ L) (hL : L ≤ 3) (hkc : kc < 40) : rdK (laS z0 L kn kc) (laZ kc) = 3 ∧ rdC (laS z0 L kn kc) (laZ kc) = kc := by
  have hv : laV kc < 256 := by unfold laV; omega
  have h := laK_oc (rb := z0) (kn := kn) hL hv (kc / 8)
  have h01 := laS_01 z0_01 L kn kc
  have e9 : laZ kc / 9 = 2 + kc / 8 := by unfold laZ; omega
  have em : laZ kc % 9 = kc % 8 := by unfold laZ; omega
  have hz : laZ kc = 9 * (2 + kc / 8) + kc % 8 := rfl
  have o0 : oc (laS z0 L kn kc) 0 (145 + 2 * L) := oc_apB h.1 (by omega)
  have o1 : oc (laS z0 L kn kc) 1 (laV kc) := oc_apB h.2.1 (by omega)
  have hg : begN (laS z0 L kn kc) (laZ kc) (laZ kc / 9) = true := by
    rw [e9]
    refine begN_oc h01 _ (by omega) (fun k hk => ?_)
    rcases k with _ | _ | k
    · exact ⟨_, o0⟩
    · exact ⟨_, o1⟩
    · exact ⟨_, by rw [show k + 1 + 1 = 2 + k by omega]; exact oc_apB (h.2.2 k (by omega)) (by omega)⟩
  have hK : rdK (laS z0 L kn kc) (laZ kc) = 3 := by
    rw [rdK_g (F := 145 + 2 * L) (S2 := laV kc) (by omega) (by omega) hg o0.1.symm o1.1.symm, e9, em, if_pos ⟨by rw [lvOf_L L hL1 hL]; omega, by omega, by omega, by unfold laV; omega⟩]
  refine ⟨hK, ?_⟩
  unfold rdC
  rw [if_pos hK, e9, em]
  omega
/-- a SEARCH is answered by the rest, or not at all -/
theorem se_len {n : Nat} {lv st le : Nat → Nat} {sh : Nat → Nat → Nat} {L kn kc : Nat} (hL1 : 1 ≤ L) (hL : L ≤ 3) (hkc : kc < 40) : fN n (laS z0 L kn kc) (laZ kc) lv st le sh = 0 ∨ fN n (laS z0 L kn kc) (laZ kc) lv st le sh = 45 - (kc + kc / 8) := by
  obtain ⟨hK, hC⟩ := se_K (kn := kn) hL1 hL hkc
  have key : ∀ j, fC (laS z0 L kn kc) (laZ kc) lv st le sh j = 0 ∨ fC (laS z0 L kn kc) (laZ kc) lv st le sh j = 45 - (kc + kc / 8) := fun j => by
    have hr : ∀ mine mt a b c, hrR 3 mine mt a b c = 0 ∨ hrR 3 mine mt a b c = 2 := fun mine mt a b c => by
      unfold hrR
      repeat' split
      all_goals (first | exact Or.inl rfl | exact Or.inr rfl | (exfalso; omega))
    unfold fC tgN tgR
    rw [hK, hC]
    rcases hr (decide (lvOf (valN (laS z0 L kn kc) (laZ kc) 0 8) = le j)) (mtN (sh j (le j - 1)) (rdT (laS z0 L kn kc) (laZ kc)) kc) (lv j) (st j) (le j) with h | h <;> rw [h]
    · exact Or.inl rfl
    · exact Or.inr rfl
  unfold fN
  induction n with
  | zero => exact Or.inl rfl
  | succ n ih =>
    simp only [anL]
    have := key n
    omega
