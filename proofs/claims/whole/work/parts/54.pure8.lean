/-! the field's changes as one word each; rounds -/
def setB (f : Nat → Bool) (k : Nat) (v : Bool) : Nat → Bool := fun j => if j = k then v else f j
def setS (f : Nat → Nat → Nat) (k : Nat) (v : Nat → Nat) : Nat → Nat → Nat := fun j => if j = k then v else f j
theorem AW.move {X : hp_X} {μ z : hp_M} {ar l1 f1 mc q n sent : Nat} {on : Bool} {f : Nat → Option Nat} {ta sa lv st le : Nat → Nat} {aw : Nat → Bool} {sh : Nat → Nat → Nat} (h : AW X μ ar l1 f1 mc q n on sent f ta sa lv aw st le sh) (hinj : ∀ i j, i < n → j < n → ta i = ta j → i = j) {i v : Nat} {is : Bool} (hi : i < n) (hz : z (ta i) = some (hp_o 5 [.int (nI (lv i)), .ref (sa i), .int (nB is), .int (nI v), .int (nI (le i))])) (fe : hp_eq [ta i] z μ) : AW X z ar l1 f1 mc q n on sent f ta sa lv (setB aw i is) (setN st i v) le sh := by
  obtain ⟨h1, h2, h3, h4, h5, k1, lv1, se1, td1, tc1, h6⟩ := h
  have ht := h4 i hi
  refine ⟨(hp_e1 fe (hp_ne h1 ht (by simp [hTG]))).trans h1, (hp_e1 fe (hp_ne h2 ht (by simp [hTG]))).trans h2, h3.keep (fun h => hp_e1 fe (hp_ne h ht (by simp [hTG]))), ?_, fun j hj => (hp_e1 fe (hp_ne (h5 j hj) ht (by simp [hTG]))).trans (h5 j hj), k1, lv1, se1, td1, tc1, (hp_e1 fe (hp_ne h6 ht (by simp [hTG]))).trans h6⟩
  intro j hj
  by_cases ej : j = i
  · subst ej
    unfold hTG setB setN
    rw [if_pos rfl, if_pos rfl]
    exact hz
  · rw [hp_e1 fe (fun q9 => ej (hinj j i hj hi q9)), h4 j hj]
    unfold hTG setB setN
    rw [if_neg ej, if_neg ej]
theorem AW.more {X : hp_X} {μ z : hp_M} {ar l1 f1 mc q n sent : Nat} {on : Bool} {f : Nat → Option Nat} {ta sa lv st le : Nat → Nat} {aw : Nat → Bool} {sh : Nat → Nat → Nat} (h : AW X μ ar l1 f1 mc q n on sent f ta sa lv aw st le sh) {q' t2 s2 lv2 v : Nat} {f' : Nat → Option Nat} {aw2 : Bool} {sh2 : Nat → Nat} {le2 : Nat}
    (hl : z l1 = some (hp_o 8 [.int (nI (mc + 1)), .ref q', .int (nI (n + 1))])) (hla : hLA X z l1 q' (n + 1) f' (setN ta n t2)) (ht : z t2 = some (hp_o 5 [.int (nI lv2), .ref s2, .int (nB aw2), .int (nI v), .int (nI le2)])) (hs : z s2 = some (hp_m X 3 sh2)) (hk : ∀ c e, μ c = some e → c ≠ l1 → (0 < n → c ≠ q) → z c = μ c) : AW X z ar l1 f1 (mc + 1) q' (n + 1) on sent f' (setN ta n t2) (setN sa n s2) (setN lv n lv2) (setB aw n aw2) (setN st n v) (setN le n le2) (setS sh n sh2) := by
  obtain ⟨h1, h2, h3, h4, h5, k1, lv1, se1, td1, tc1, h6⟩ := h
  have hqn : ∀ {c : Nat} {e : va_E}, μ c = some e → (∀ g, e ≠ hp_q X (capN n) g) → 0 < n → c ≠ q := fun hc he h0 => hp_ne hc (h3.resolve_left (by omega)).2.1 (he _)
  refine ⟨(hk _ _ h1 (hp_ne h1 h2 (by simp)) (hqn h1 (by simp))).trans h1, hl, hla, ?_, ?_, k1, lv1, se1, td1, tc1, (hk _ _ h6 (hp_ne h6 h2 (by simp)) (hqn h6 (by simp))).trans h6⟩
  · intro j hj
    unfold hTG setB setN
    by_cases ej : j = n
    · subst ej
      simp only [if_true]
      exact ht
    · simp only [if_neg ej]
      have hj' : j < n := by omega
      exact (hk _ _ (h4 j hj') (hp_ne (h4 j hj') h2 (by simp [hTG])) (hqn (h4 j hj') (by simp [hTG]))).trans (h4 j hj')
  · intro j hj
    unfold setS setN
    by_cases ej : j = n
    · subst ej
      simp only [if_true]
      exact hs
    · simp only [if_neg ej]
      have hj' : j < n := by omega
      exact (hk _ _ (h5 j hj') (hp_ne (h5 j hj') h2 (by simp)) (hqn (h5 j hj') (by simp))).trans (h5 j hj')
theorem c_X9_init (l : Launch) (X : hp_X) {μ : hp_M} {nx : Nat} {t lv : Nat} {a b c1 : Int32} (h1 : 1 ≤ lv) (h3 : lv ≤ 3) (f_t : μ t = some (hp_o 5 [.int (nI 0), .null, .int (nB false), .int (nI 0), .int (nI 0)])) : Ct l X yX9_init cX9_init 6 (none : Option Jvm.ClassFile.FieldType) 2 80 1 3 [.ref t, .int (nI (3 * lv + 1)), .int a, .int b, .int c1] μ nx (hq_v X (po_v (nx + 1) (fun z => z t = some (hp_o 5 [.int (nI lv), .ref nx, .int (nB false), .int (nI 0), .int (nI 1)]) ∧ z nx = some (hp_m X 3 (shA a b c1 lv)) ∧ hp_eq [t, nx] z μ))) := by
  have hl : lv = 1 ∨ lv = 2 ∨ lv = 3 := by omega
  rcases hl with rfl | rfl | rfl
  · exact c_X9_init_4 l X f_t
  · exact c_X9_init_7 l X f_t
  · exact c_X9_init_10 l X f_t
theorem foL_in {n : Nat} {lv : Nat → Nat} {sh : Nat → Nat → Nat} {cnt : Nat} (hlv : ∀ j, j < n → 1 ≤ lv j ∧ lv j ≤ 3) : ∀ (f L : Nat) (st le : Nat → Nat) (sent : Nat) (nb sz : Nat → Nat), f + L ≤ 4 → 1 ≤ L → (∀ j, j < n → st j < 8) → (∀ j, j < n → 1 ≤ le j ∧ le j ≤ 3) → (∀ j, j < cnt → sz j ≤ 10) → sz cnt ≤ 3 * (L - 1) → ∀ ok st9 le9 sent9 nb9 sz9 cnt9, foL n lv sh cnt f L st le sent nb sz = (ok, st9, le9, sent9, nb9, sz9, cnt9) → (∀ j, j < n → st9 j < 8) ∧ (∀ j, j < n → 1 ≤ le9 j ∧ le9 j ≤ 3) ∧ sent9 ≤ sent + 41 * f + 1 ∧ cnt9 ≤ cnt + 1 ∧ (∀ j, j < cnt9 → sz9 j ≤ 10) ∧ (ok = true → cnt9 = cnt + 1) ∧ (ok = false → cnt9 = cnt)
  | 0, L, st, le, sent, nb, sz, h1, h2, h3, h4, h5, h6, ok, st9, le9, sent9, nb9, sz9, cnt9, h => by
    simp only [foL] at h
    cases h
    exact ⟨h3, h4, by omega, by omega, h5, fun e => (nomatch e), fun _ => rfl⟩
  | f + 1, L, st, le, sent, nb, sz, h1, h2, h3, h4, h5, h6, ok, st9, le9, sent9, nb9, sz9, cnt9, h => by
    simp only [foL] at h
    rcases hse : seN n lv sh L 40 st le sent 0 0 with ⟨ok2, st2, le2, sent2, kn2, kc2⟩
    have hin := seN_in hlv 40 _ _ _ _ _ h3 h4 (by decide) (by decide) _ _ _ _ _ _ hse
    rw [hse] at h
    simp only at h
    have e1 := hin.2.2.1
    by_cases c1 : ok2 = true
    · rw [if_pos c1] at h
      by_cases c2 : fN n (laC z0 L kn2) 81 lv st2 le2 sh = 0
      · rw [if_pos c2] at h
        cases h
        exact ⟨fS_lt _ _ _ _ hin.1, fL_in _ _ _ _ hlv hin.2.1, by omega, by omega, h5, fun e => (nomatch e), fun _ => rfl⟩
      · rw [if_neg c2] at h
        by_cases c3 : fO n (laC z0 L kn2) 81 lv st2 le2 sh % 256 = 4 ∧ fZ n (laC z0 L kn2) 81 lv st2 le2 sh % 256 = 4 ^^^ 255
        · rw [if_pos c3] at h
          have ih := foL_in hlv f (L + 1) _ _ _ _ _ (by omega) (by omega) (fS_lt _ _ _ _ hin.1) (fL_in _ _ _ _ hlv hin.2.1) (fun j hj => by rw [setN_o (by omega)]; exact h5 j hj) (by rw [setN_s]; omega) _ _ _ _ _ _ _ h
          exact ⟨ih.1, ih.2.1, by have := ih.2.2.1; omega, ih.2.2.2⟩
        · rw [if_neg c3] at h
          cases h
          refine ⟨fS_lt _ _ _ _ (fS_lt _ _ _ _ hin.1), fL_in _ _ _ _ hlv (fL_in _ _ _ _ hlv hin.2.1), by omega, by omega, ?_, fun _ => rfl, fun e => (nomatch e)⟩
          intro j hj
          by_cases ej : j = cnt
          · subst ej
            rw [setN_s]
            omega
          · rw [setN_o ej]
            exact h5 j (by omega)
    · rw [if_neg c1] at h
      cases h
      exact ⟨hin.1, hin.2.1, by omega, by omega, h5, fun e => (nomatch e), fun _ => rfl⟩
theorem fo1_in {n : Nat} {lv : Nat → Nat} {sh : Nat → Nat → Nat} {cnt : Nat} (hlv : ∀ j, j < n → 1 ≤ lv j ∧ lv j ≤ 3) {st le : Nat → Nat} {sent : Nat} {nb sz : Nat → Nat} (h3 : ∀ j, j < n → st j < 8) (h4 : ∀ j, j < n → 1 ≤ le j ∧ le j ≤ 3) (h5 : ∀ j, j < cnt → sz j ≤ 10) {ok : Bool} {st9 le9 : Nat → Nat} {sent9 : Nat} {nb9 sz9 : Nat → Nat} {cnt9 : Nat} (h : fo1 n lv sh st le sent nb sz cnt = (ok, st9, le9, sent9, nb9, sz9, cnt9)) : (∀ j, j < n → st9 j < 8) ∧ (∀ j, j < n → 1 ≤ le9 j ∧ le9 j ≤ 3) ∧ sent9 ≤ sent + 125 ∧ cnt9 ≤ cnt + 1 ∧ (∀ j, j < cnt9 → sz9 j ≤ 10) ∧ (ok = true → cnt9 = cnt + 1) ∧ (ok = false → cnt9 = cnt) := by
  unfold fo1 at h
  by_cases c1 : 40 ≤ cnt
  · rw [if_pos c1] at h
    cases h
    exact ⟨h3, h4, by omega, by omega, h5, fun e => (nomatch e), fun _ => rfl⟩
  · rw [if_neg c1] at h
    by_cases c2 : fN n (rqB z0) 7 lv st le sh = 0
    · rw [if_pos c2] at h
      cases h
      exact ⟨fS_lt _ _ _ _ h3, fL_in _ _ _ _ hlv h4, by omega, by omega, h5, fun e => (nomatch e), fun _ => rfl⟩
    · rw [if_neg c2] at h
      have ih := foL_in hlv 3 1 _ _ _ _ _ (by decide) (by decide) (fS_lt _ _ _ _ h3) (fL_in _ _ _ _ hlv h4) (fun j hj => by rw [setN_o (by omega)]; exact h5 j hj) (by rw [setN_s]; exact Nat.zero_le _) _ _ _ _ _ _ _ h
      exact ⟨ih.1, ih.2.1, by have := ih.2.2.1; omega, ih.2.2.2⟩
/-- a round: states, levels, sent, bytes, sizes, count -/
def rnN (n : Nat) (lv : Nat → Nat) (sh : Nat → Nat → Nat) : Nat → (Nat → Nat) → (Nat → Nat) → Nat → (Nat → Nat) → (Nat → Nat) → Nat → (Nat → Nat) × (Nat → Nat) × Nat × (Nat → Nat) × (Nat → Nat) × Nat
  | 0, st, le, sent, nb, sz, cnt => (st, le, sent, nb, sz, cnt)
  | f + 1, st, le, sent, nb, sz, cnt =>
    match fo1 n lv sh st le sent nb sz cnt with
    | (ok, st1, le1, sent1, nb1, sz1, cnt1) => if ok = true then rnN n lv sh f st1 le1 sent1 nb1 sz1 cnt1 else (st1, le1, sent1, nb1, sz1, cnt1)
theorem AW.out3 {X : hp_X} {μ : hp_M} {ar l1 f1 mc q n sent : Nat} {on : Bool} {f : Nat → Option Nat} {ta sa lv st le : Nat → Nat} {aw : Nat → Bool} {sh : Nat → Nat → Nat} (h : AW X μ ar l1 f1 mc q n on sent f ta sa lv aw st le sh) {c a rd r b nb sz : Nat} {e : va_E} (hc : μ c = some e) (he : ¬ awE e) (h1 : c ≠ a) (h2 : c ≠ rd) (h3 : c ≠ r) (h4 : c ≠ b) (h5 : c ≠ nb) (h6 : c ≠ sz) : ¬ gFP ar f1 a n ta rd r b nb sz c := by
  rintro (q | q | q)
  · exact h.out2 hc he h1 h2 h3 h4 q
  · exact h5 q
  · exact h6 q
/-- what typing, and sending what is typed, may change -/
abbrev tFP (ar f1 la n : Nat) (ta : Nat → Nat) (ty tb : Nat) : Nat → Prop := fun c9 => aFP ar f1 la n ta c9 ∨ c9 = ty ∨ c9 = tb
def ckN (tr : Nat → Nat) (tz : Nat) : Bool := decide (1 ≤ tz / 9 ∧ tz % 9 = 0) && begN tr tz (tz / 9)
theorem ckN_t {tr : Nat → Nat} {tz : Nat} (h : ckN tr tz = true) : 1 ≤ tz / 9 ∧ tz % 9 = 0 ∧ begN tr tz (tz / 9) = true := by
  unfold ckN at h
  rw [Bool.and_eq_true] at h
  exact ⟨(of_decide_eq_true h.1).1, (of_decide_eq_true h.1).2, h.2⟩
theorem ckN_f {tr : Nat → Nat} {tz : Nat} (h : ckN tr tz = false) (h1 : 1 ≤ tz / 9) (h2 : tz % 9 = 0) (h3 : begN tr tz (tz / 9) = true) : False := by
  unfold ckN at h
  rw [decide_eq_true (⟨h1, h2⟩ : 1 ≤ tz / 9 ∧ tz % 9 = 0), h3] at h
  cases h
