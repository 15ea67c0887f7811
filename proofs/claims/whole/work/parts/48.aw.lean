/-! the field as one word; sending as one contract; frames depend on their own bits alone -/
theorem Met.mono {l : Launch} {y : MethodName} {ws : List Cond} {rm : Room} {Pc : Array Value → State → Prop} {Qc Qd : Array Value → State → Outcome → State → Prop} {mc ms : Nat} {free : Addr → Prop} (h : Met l y ws rm Pc Qc mc ms free) (hq : ∀ a st o t, Qc a st o t → Qd a st o t) : Met l y ws rm Pc Qd mc ms free := by
  intro p e h1 h2 h3 s m args below h4 h5 h6 h7
  obtain ⟨n, o, a1, a2, a3, a4, a5⟩ := h p e h1 h2 h3 s m args below h4 h5 h6 h7
  exact ⟨n, o, a1, a2, a3, hq _ _ _ _ a4, a5⟩
theorem hq_i.mono {X : hp_X} {P Q : Int32 → hp_M → Nat → Prop} (h : ∀ r z n, P r z n → Q r z n) : ∀ (a : Array Value) (st : State) (o : Outcome) (t : State), hq_i X P a st o t → hq_i X Q a st o t := fun _ _ _ _ ⟨r, μ, nx, h1, h2, h3⟩ => ⟨r, μ, nx, h1, h r μ nx h2, h3⟩
def AW (X : hp_X) (μ : hp_M) (ar l1 f1 mc q n : Nat) (on : Bool) (sent : Nat) (f : Nat → Option Nat) (ta sa lv : Nat → Nat) (aw : Nat → Bool) (st le : Nat → Nat) (sh : Nat → Nat → Nat) : Prop :=
  μ ar = some (hp_o 0 [.ref l1, .ref f1, .int (nB on), .int (nI sent)]) ∧ μ l1 = some (hp_o 8 [.int (nI mc), .ref q, .int (nI n)]) ∧ hLA X μ l1 q n f ta ∧ (∀ j, j < n → μ (ta j) = some (hTG sa lv aw st le j)) ∧ (∀ j, j < n → μ (sa j) = some (hp_m X 3 (sh j))) ∧ ∃ k1 lv1 se1 td1 tc1 : Nat, μ f1 = some (hp_o 2 [.ref (X.2.2.2 k1), .int (nI lv1), .int (nI se1), .long (lN td1), .int (nI tc1)])
/-- cells of the field -/
def awE (e : va_E) : Prop := match e with
  | .inr o => o.1 = 0 ∨ o.1 = 8 ∨ o.1 = 5 ∨ o.1 = 2
  | .inl (_, _, .inl _) => False
  | .inl (_, _, .inr _) => True
theorem aw_ne {μ : hp_M} {c x : Nat} {e e2 : va_E} (hc : μ c = some e) (he : awE e) (hx : μ x = some e2) (h2 : ¬ awE e2) : c ≠ x := fun q => h2 (by subst q; cases (hc.symm.trans hx); exact he)
theorem AW.keep {X : hp_X} {μ μ1 : hp_M} {ar l1 f1 mc q n sent : Nat} {on : Bool} {f : Nat → Option Nat} {ta sa lv st le : Nat → Nat} {aw : Nat → Bool} {sh : Nat → Nat → Nat} (h : AW X μ ar l1 f1 mc q n on sent f ta sa lv aw st le sh) (hk : ∀ c e, μ c = some e → awE e → μ1 c = μ c) : AW X μ1 ar l1 f1 mc q n on sent f ta sa lv aw st le sh := by
  obtain ⟨h1, h2, h3, h4, h5, k1, lv1, se1, td1, tc1, h6⟩ := h
  exact ⟨(hk _ _ h1 (by simp [awE])).trans h1, (hk _ _ h2 (by simp [awE])).trans h2, h3.keep (fun h => hk _ _ h (by simp [awE])), fun j hj => (hk _ _ (h4 j hj) (by simp [awE])).trans (h4 j hj), fun j hj => (hk _ _ (h5 j hj) (by simp [awE])).trans (h5 j hj), k1, lv1, se1, td1, tc1, (hk _ _ h6 (by simp [awE])).trans h6⟩
/-- what sending may change -/
abbrev aFP (ar f1 a n : Nat) (ta : Nat → Nat) : Nat → Prop := fun c9 => c9 = ar ∨ c9 = f1 ∨ c9 = a ∨ ∃ j, j < n ∧ c9 = ta j
theorem AW.out {X : hp_X} {μ : hp_M} {ar l1 f1 mc q n sent : Nat} {on : Bool} {f : Nat → Option Nat} {ta sa lv st le : Nat → Nat} {aw : Nat → Bool} {sh : Nat → Nat → Nat} (h : AW X μ ar l1 f1 mc q n on sent f ta sa lv aw st le sh) {c a : Nat} {e : va_E} (hc : μ c = some e) (he : ¬ awE e) (hca : c ≠ a) : ¬ aFP ar f1 a n ta c := by
  obtain ⟨h1, h2, h3, h4, h5, k1, lv1, se1, td1, tc1, h6⟩ := h
  rintro (q9 | q9 | q9 | ⟨j, hj, q9⟩)
  · exact aw_ne h1 (by simp [awE]) hc he q9.symm
  · exact aw_ne h6 (by simp [awE]) hc he q9.symm
  · exact hca q9
  · exact aw_ne (h4 j hj) (by simp [awE]) hc he q9.symm
theorem hp_eqP.trP {P P2 : Nat → Prop} {μ2 μ1 μ : hp_M} (fe : hp_eqP P2 μ2 μ1) (fr : hp_eqP P μ1 μ) (hs : ∀ q, P2 q → P q) : hp_eqP P μ2 μ := fun q hq => (fe q (fun h => hq (hs q h))).trans (fr q hq)
/-- frames: next states, levels; the answer -/
abbrev fA (g : Nat → Nat → Nat → Nat → (Nat → Nat) → (Nat → Nat) → (Nat → Nat) → (Nat → Nat → Nat) → Nat → Nat) (rb : Nat → Nat) (size : Nat) : (Nat → Nat) → (Nat → Nat) → (Nat → Nat) → (Nat → Nat → Nat) → Nat → Nat := g (rdK rb size) (lvOf (valN rb size 0 8)) (rdT rb size) (rdC rb size)
def fS (rb : Nat → Nat) (size : Nat) (lv st le : Nat → Nat) (sh : Nat → Nat → Nat) : Nat → Nat := tgS (rdK rb size) (lvOf (valN rb size 0 8)) (rdT rb size) (rdC rb size) lv st le sh
def fL (rb : Nat → Nat) (size : Nat) (lv st le : Nat → Nat) (sh : Nat → Nat → Nat) : Nat → Nat := tgL (rdK rb size) (lvOf (valN rb size 0 8)) (rdT rb size) (rdC rb size) lv st le sh
def fB (rb : Nat → Nat) (size : Nat) (lv st le : Nat → Nat) (sh : Nat → Nat → Nat) : Nat → Nat := tgB (rdK rb size) (lvOf (valN rb size 0 8)) (valN rb size 9 8) (rdT rb size) (rdC rb size) lv st le sh
def fC (rb : Nat → Nat) (size : Nat) (lv st le : Nat → Nat) (sh : Nat → Nat → Nat) : Nat → Nat := tgN (rdK rb size) (lvOf (valN rb size 0 8)) (rdT rb size) (rdC rb size) lv st le sh
def fO (n : Nat) (rb : Nat → Nat) (size : Nat) (lv st le : Nat → Nat) (sh : Nat → Nat → Nat) : Nat := anO (fB rb size lv st le sh) (fC rb size lv st le sh) n
def fZ (n : Nat) (rb : Nat → Nat) (size : Nat) (lv st le : Nat → Nat) (sh : Nat → Nat → Nat) : Nat := anZ (fB rb size lv st le sh) (fC rb size lv st le sh) n
def fN (n : Nat) (rb : Nat → Nat) (size : Nat) (lv st le : Nat → Nat) (sh : Nat → Nat → Nat) : Nat := anL (fC rb size lv st le sh) n
theorem fC_le (rb : Nat → Nat) (size : Nat) (lv st le : Nat → Nat) (sh : Nat → Nat → Nat) (j : Nat) : fC rb size lv st le sh j ≤ 45 := saL_le _ _
theorem fO_lt (n : Nat) (rb : Nat → Nat) (size : Nat) (lv st le : Nat → Nat) (sh : Nat → Nat → Nat) : fO n rb size lv st le sh < 2 ^ 45 := anO_lt (fC_le rb size lv st le sh) n
theorem fZ_lt (n : Nat) (rb : Nat → Nat) (size : Nat) (lv st le : Nat → Nat) (sh : Nat → Nat → Nat) : fZ n rb size lv st le sh < 2 ^ 45 := anZ_lt (fC_le rb size lv st le sh) n
theorem fN_le (n : Nat) (rb : Nat → Nat) (size : Nat) (lv st le : Nat → Nat) (sh : Nat → Nat → Nat) : fN n rb size lv st le sh ≤ 45 := anL_le (fC_le rb size lv st le sh) n
theorem fS_lt {n : Nat} (rb : Nat → Nat) (size : Nat) (lv : Nat → Nat) {st le : Nat → Nat} (sh : Nat → Nat → Nat) (h : ∀ j, j < n → st j < 8) : ∀ j, j < n → fS rb size lv st le sh j < 8 := fun j hj => hrS_lt (h j hj)
theorem fL_in {n : Nat} (rb : Nat → Nat) (size : Nat) {lv : Nat → Nat} (st : Nat → Nat) {le : Nat → Nat} (sh : Nat → Nat → Nat) (hl : ∀ j, j < n → 1 ≤ lv j ∧ lv j ≤ 3) (h : ∀ j, j < n → 1 ≤ le j ∧ le j ≤ 3) : ∀ j, j < n → 1 ≤ fL rb size lv st le sh j ∧ fL rb size lv st le sh j ≤ 3 := fun j hj => hrL_in (h j hj).1 (h j hj).2 (hl j hj).2
theorem valN_congr {rb rb2 : Nat → Nat} {size : Nat} (h : ∀ j, j < size → rb j = rb2 j) (fm : Nat) : ∀ n, valN rb size fm n = valN rb2 size fm n
  | 0 => rfl
  | n + 1 => by
    simp only [valN]
    rw [valN_congr h fm n]
    by_cases e : fm + n < size
    · rw [if_pos e, if_pos e, h _ e]
    · rw [if_neg e, if_neg e]
theorem begN_congr {rb rb2 : Nat → Nat} {size : Nat} (h : ∀ j, j < size → rb j = rb2 j) : ∀ n, begN rb size n = begN rb2 size n
  | 0 => rfl
  | n + 1 => by simp only [begN]; rw [begN_congr h n, valN_congr h]
theorem crcN_congr {rb rb2 : Nat → Nat} {size : Nat} (h : ∀ j, j < size → rb j = rb2 j) : ∀ n, crcN rb size n = crcN rb2 size n
  | 0 => rfl
  | n + 1 => by simp only [crcN]; rw [crcN_congr h n, valN_congr h]
theorem tdB_congr {rb rb2 : Nat → Nat} {size : Nat} (h : ∀ j, j < size → rb j = rb2 j) : ∀ n, tdB rb size n = tdB rb2 size n
  | 0 => rfl
  | n + 1 => by simp only [tdB]; rw [tdB_congr h n, valN_congr h]
theorem rdK_congr {rb rb2 : Nat → Nat} {size : Nat} (h : ∀ j, j < size → rb j = rb2 j) : rdK rb size = rdK rb2 size := by
  unfold rdK
  rw [valN_congr h, valN_congr h, begN_congr h, crcN_congr h]
theorem rdT_congr {rb rb2 : Nat → Nat} {size : Nat} (h : ∀ j, j < size → rb j = rb2 j) : rdT rb size = rdT rb2 size := by
  unfold rdT tdN
  rw [rdK_congr h, tdB_congr h, tdB_congr h, valN_congr h, valN_congr h]
theorem rdC_congr {rb rb2 : Nat → Nat} {size : Nat} (h : ∀ j, j < size → rb j = rb2 j) : rdC rb size = rdC rb2 size := by
  unfold rdC
  rw [rdK_congr h]
theorem f_congr {rb rb2 : Nat → Nat} {size : Nat} (h : ∀ j, j < size → rb j = rb2 j) (lv st le : Nat → Nat) (sh : Nat → Nat → Nat) : fS rb size lv st le sh = fS rb2 size lv st le sh ∧ fL rb size lv st le sh = fL rb2 size lv st le sh ∧ fB rb size lv st le sh = fB rb2 size lv st le sh ∧ fC rb size lv st le sh = fC rb2 size lv st le sh := by
  unfold fS fL fB fC
  rw [rdK_congr h, rdT_congr h, rdC_congr h, valN_congr h, valN_congr h]
  exact ⟨rfl, rfl, rfl, rfl⟩
theorem apB_congr {rb rb2 : Nat → Nat} {size : Nat} (h : ∀ j, j < size → rb j = rb2 j) (v : Int32) (n : Nat) : ∀ j, j < size + n → apB rb size v n j = apB rb2 size v n j := by
  intro j hj
  unfold apB
  by_cases e : size ≤ j ∧ j < size + n
  · rw [if_pos e, if_pos e]
  · rw [if_neg e, if_neg e]
    exact h j (by omega)
/-- sending: the row's bits may be told by any others that agree up to its size -/
theorem c_send (l : Launch) (X : hp_X) {μ : hp_M} {nx : Nat} {ar l1 f1 mc q n sent : Nat} {on : Bool} {f : Nat → Option Nat} {ta sa lv st le : Nat → Nat} {aw : Nat → Bool} {sh : Nat → Nat → Nat} {r b room size a aon aze alen : Nat} {rb rb2 : Nat → Nat} (hrb : ∀ j, j < size → rb j = rb2 j) (h01 : ∀ j, rb j < 2) (hr1 : room < 2 ^ 20) (hs1 : size ≤ room) (hsent : sent < 2 ^ 30) (hn16 : n ≤ 16) (hlv : ∀ j, j < n → 1 ≤ lv j ∧ lv j ≤ 3) (hst : ∀ j, j < n → st j < 8) (hle : ∀ j, j < n → 1 ≤ le j ∧ le j ≤ 3) (hsh : ∀ j, j < n → ∀ i, sh j i < 2 ^ 40) (hinj : ∀ i j, i < n → j < n → ta i = ta j → i = j)
    (hA : AW X μ ar l1 f1 mc q n on sent f ta sa lv aw st le sh) (f_r : μ r = some (hp_o 4 [.ref b, .int (nI size)])) (f_b : μ b = some (hp_n X room rb)) (f_a : μ a = some (hp_o 1 [.long (lN aon), .long (lN aze), .int (nI alen)])) :
    Ct l X yX1_send cX1_send 5 (some FieldType.int) 4 160 0 0 [.ref ar, .ref r, .ref a] μ nx (hq_i X (po_i nx (nI (fN n rb2 size lv st le sh)) (fun z => AW X z ar l1 f1 mc q n on (sent + 1) f ta sa lv aw (fS rb2 size lv st le sh) (fL rb2 size lv st le sh) sh ∧ z a = some (hp_o 1 [.long (lN (fO n rb2 size lv st le sh)), .long (lN (fZ n rb2 size lv st le sh)), .int (nI (fN n rb2 size lv st le sh))]) ∧ hp_eqP (aFP ar f1 a n ta) z μ))) := by
  obtain ⟨h1, h2, h3, h4, h5, k1, lv1, se1, td1, tc1, h6⟩ := hA
  obtain ⟨e1, e2, e3, e4⟩ := f_congr hrb lv st le sh
  refine Met.mono (c_X1_send l X h01 hr1 hs1 hsent h3 hn16 h4 h5 hlv hst hle hsh hinj h1 h2 h6 f_r f_b f_a) (hq_i.mono (fun r9 z n9 h => ?_))
  obtain ⟨g0, g00, g1, g2, g3, g4, g5, g6, g7, g8⟩ := h
  unfold fO fZ fN
  rw [← e1, ← e2, ← e3, ← e4]
  exact ⟨g0, g00, ⟨g1, g2, g3, g4, g5, g6⟩, g7, g8⟩
