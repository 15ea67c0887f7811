/-! both sides in one world -/
abbrev MO (o n : Nat) (on : Bool) (tz se kd kl tc sd hd an fm fo kc : Nat) : va_E := hp_o 7 [.int (nI n), .ref (o + 1), .ref (o + 2), .ref (o + 3), .ref (o + 4), .ref (o + 5), .ref (o + 6), .int (nB on), .int (nI tz), .ref (o + 7), .int (nI se), .ref (o + 8), .ref (o + 9), .int (nI kd), .int (nI kl), .int (nI tc), .ref (o + 10), .int (nI sd), .ref (o + 11), .int (nI hd), .ref (o + 12), .int (nI an), .ref (o + 13), .int (nI fm), .int (nI fo), .ref (o + 14), .ref (o + 15), .int (nI kc), .ref (o + 16)]
/-- the class's side -/
def CW (X : hp_X) (μ : hp_M) (x n : Nat) (on : Bool) (sent : Nat) (ta lv : Nat → Nat) (aw : Nat → Bool) (st le : Nat → Nat) (sh : Nat → Nat → Nat) (tz : Nat) (tr : Nat → Nat) (lo lz ll cnt : Nat) (nb sz : Nat → Nat) : Prop :=
  ∃ (mc q : Nat) (f : Nat → Option Nat) (sa : Nat → Nat) (kn kc size aon aze alen : Nat) (rb : Nat → Nat), AW X μ (x + 4) (x + 5) (x + 6) mc q n on sent f ta sa lv aw st le sh ∧ μ x = some (hp_o 6 [.ref (x + 1), .ref (x + 3), .ref (x + 4), .ref (x + 7)]) ∧ μ (x + 1) = some (hp_o 4 [.ref (x + 2), .int (nI tz)]) ∧ μ (x + 2) = some (hp_n X 160 tr) ∧ μ (x + 3) = some (hp_o 1 [.long (lN lo), .long (lN lz), .int (nI ll)]) ∧ μ (x + 7) = some (hp_o 3 [.ref (x + 8), .ref (x + 10), .ref (x + 11), .ref (x + 12), .int (nI cnt), .long (lN kn), .int (nI kc)]) ∧ μ (x + 8) = some (hp_o 4 [.ref (x + 9), .int (nI size)]) ∧ μ (x + 9) = some (hp_n X 81 rb) ∧ (∀ j, rb j < 2) ∧ μ (x + 10) = some (hp_o 1 [.long (lN aon), .long (lN aze), .int (nI alen)]) ∧ μ (x + 11) = some (hp_n X 400 nb) ∧ μ (x + 12) = some (hp_n X 40 sz)
/-- the reference's side -/
def FW (X : hp_X) (μ : hp_M) (o n : Nat) (on : Bool) (sent : Nat) (lv : Nat → Nat) (aw : Nat → Bool) (st le : Nat → Nat) (sh : Nat → Nat → Nat) (tz : Nat) (tr : Nat → Nat) (lo lz ll cnt : Nat) (nb sz : Nat → Nat) : Prop :=
  ∃ (se kd kl tc sd hd kc : Nat) (Nu : Nat → Nat) (G : Nat → Bool) (sb hb ab fz kb : Nat → Nat), μ o = some (MO o n on tz se kd kl tc sd hd ll sent cnt kc) ∧ RW X μ o n lv st le sh ∧ μ (o + 2) = some (hp_n X 170 Nu) ∧ μ (o + 3) = some (hp_b X 17 G) ∧ μ (o + 7) = some (hp_n X 160 tr) ∧ μ (o + 8) = some (hp_n X 160 sb) ∧ μ (o + 12) = some (hp_n X 64 hb) ∧ μ (o + 13) = some (hp_n X 64 ab) ∧ μ (o + 14) = some (hp_n X 40 fz) ∧ μ (o + 15) = some (hp_n X 400 nb) ∧ μ (o + 16) = some (hp_n X 40 kb) ∧ (∀ j, sb j < 2) ∧ (∀ j, kb j < 2) ∧ (∀ j, Nu j < 2 ^ 20) ∧ (∀ j, j < n → G (j + 1) = aw j) ∧ (∀ j, j < ll → ab j = digN lo lz j) ∧ (∀ j, j < cnt → fz j = sz j) ∧ ∀ j, j < n → ∃ A B C : Int32, sh j = shA A B C (lv j) ∧ ∀ k, k < 3 * lv j + 1 → Nu (10 * (j + 1) + k) = nbN A B C k
/-- numbers -/
def JP (n : Nat) (on : Bool) (sent : Nat) (ta lv st le : Nat → Nat) (sh : Nat → Nat → Nat) (tz : Nat) (tr : Nat → Nat) (lo lz ll cnt : Nat) (sz : Nat → Nat) (k : Nat) : Prop :=
  n ≤ 16 ∧ tz ≤ 160 ∧ (∀ j, tr j < 2) ∧ lo < 2 ^ 45 ∧ lz < 2 ^ 45 ∧ ll ≤ 45 ∧ cnt ≤ 40 ∧ (∀ j, j < cnt → sz j ≤ 10) ∧ (∀ j, j < n → 1 ≤ lv j ∧ lv j ≤ 3) ∧ (∀ j, j < n → st j < 8) ∧ (∀ j, j < n → 1 ≤ le j ∧ le j ≤ lv j) ∧ (∀ j, j < n → ∀ i, sh j i < 2 ^ 40) ∧ (∀ i j, i < n → j < n → ta i = ta j → i = j) ∧ (on = false → ∀ j, j < n → st j = 0) ∧ sent ≤ 5200 * k
/-- both, after k calls of each -/
def JW (X : hp_X) (μ : hp_M) (x k : Nat) : Prop :=
  ∃ (n : Nat) (on : Bool) (sent : Nat) (ta lv : Nat → Nat) (aw : Nat → Bool) (st le : Nat → Nat) (sh : Nat → Nat → Nat) (tz : Nat) (tr : Nat → Nat) (lo lz ll cnt : Nat) (nb sz : Nat → Nat), CW X μ x n on sent ta lv aw st le sh tz tr lo lz ll cnt nb sz ∧ FW X μ (x + 13) n on sent lv aw st le sh tz tr lo lz ll cnt nb sz ∧ JP n on sent ta lv st le sh tz tr lo lz ll cnt sz k
/-- the reference's cells are none of the field's -/
def FC (μ : hp_M) (o : Nat) : Prop := ∀ k, k ≤ 16 → ∃ e, μ (o + k) = some e ∧ ¬ awE e
theorem FW.cells {X : hp_X} {μ : hp_M} {o n : Nat} {on : Bool} {sent : Nat} {lv : Nat → Nat} {aw : Nat → Bool} {st le : Nat → Nat} {sh : Nat → Nat → Nat} {tz : Nat} {tr : Nat → Nat} {lo lz ll cnt : Nat} {nb sz : Nat → Nat} (h : FW X μ o n on sent lv aw st le sh tz tr lo lz ll cnt nb sz) : FC μ o := by
  obtain ⟨se, kd, kl, tc, sd, hd, kc, Nu, G, sb, hb, ab, fz, kb, f0, hR, f2, f3, f7, f8, f12, f13, f14, f15, f16, -⟩ := h
  obtain ⟨Z, S, L, sh2, D, J, Bf, f1, f4, f5, f6, f9, f10, f11, -⟩ := hR
  intro k hk
  match k, hk with
  | 0, _ => exact ⟨_, f0, by simp [awE]⟩
  | 1, _ => exact ⟨_, f1, by simp [awE]⟩
  | 2, _ => exact ⟨_, f2, by simp [awE]⟩
  | 3, _ => exact ⟨_, f3, by simp [awE]⟩
  | 4, _ => exact ⟨_, f4, by simp [awE]⟩
  | 5, _ => exact ⟨_, f5, by simp [awE]⟩
  | 6, _ => exact ⟨_, f6, by simp [awE]⟩
  | 7, _ => exact ⟨_, f7, by simp [awE]⟩
  | 8, _ => exact ⟨_, f8, by simp [awE]⟩
  | 9, _ => exact ⟨_, f9, by simp [awE]⟩
  | 10, _ => exact ⟨_, f10, by simp [awE]⟩
  | 11, _ => exact ⟨_, f11, by simp [awE]⟩
  | 12, _ => exact ⟨_, f12, by simp [awE]⟩
  | 13, _ => exact ⟨_, f13, by simp [awE]⟩
  | 14, _ => exact ⟨_, f14, by simp [awE]⟩
  | 15, _ => exact ⟨_, f15, by simp [awE]⟩
  | 16, _ => exact ⟨_, f16, by simp [awE]⟩
  | k + 17, hk => exact absurd hk (by omega)
theorem FW.keep {X : hp_X} {μ z : hp_M} {o n : Nat} {on : Bool} {sent : Nat} {lv : Nat → Nat} {aw : Nat → Bool} {st le : Nat → Nat} {sh : Nat → Nat → Nat} {tz : Nat} {tr : Nat → Nat} {lo lz ll cnt : Nat} {nb sz : Nat → Nat} (h : FW X μ o n on sent lv aw st le sh tz tr lo lz ll cnt nb sz) (hk : ∀ k, k ≤ 16 → z (o + k) = μ (o + k)) : FW X z o n on sent lv aw st le sh tz tr lo lz ll cnt nb sz := by
  obtain ⟨se, kd, kl, tc, sd, hd, kc, Nu, G, sb, hb, ab, fz, kb, f0, hR, f2, f3, f7, f8, f12, f13, f14, f15, f16, hp⟩ := h
  obtain ⟨Z, S, L, sh2, D, J, Bf, f1, f4, f5, f6, f9, f10, f11, hq⟩ := hR
  have t : ∀ (k : Nat) {e : va_E}, k ≤ 16 → μ (o + k) = some e → z (o + k) = some e := fun k e h1 h2 => (hk k h1).trans h2
  exact ⟨se, kd, kl, tc, sd, hd, kc, Nu, G, sb, hb, ab, fz, kb, t 0 (by decide) f0, ⟨Z, S, L, sh2, D, J, Bf, t 1 (by decide) f1, t 4 (by decide) f4, t 5 (by decide) f5, t 6 (by decide) f6, t 9 (by decide) f9, t 10 (by decide) f10, t 11 (by decide) f11, hq⟩, t 2 (by decide) f2, t 3 (by decide) f3, t 7 (by decide) f7, t 8 (by decide) f8, t 12 (by decide) f12, t 13 (by decide) f13, t 14 (by decide) f14, t 15 (by decide) f15, t 16 (by decide) f16, hp⟩
theorem CW.keep {X : hp_X} {μ z : hp_M} {x n : Nat} {on : Bool} {sent : Nat} {ta lv : Nat → Nat} {aw : Nat → Bool} {st le : Nat → Nat} {sh : Nat → Nat → Nat} {tz : Nat} {tr : Nat → Nat} {lo lz ll cnt : Nat} {nb sz : Nat → Nat} {S : List Nat} (h : CW X μ x n on sent ta lv aw st le sh tz tr lo lz ll cnt nb sz) (hF : FC μ (x + 13)) (fe : hp_eqM S (x + 13) z μ) (hS : ∀ k, k ∈ S → k ≤ 16) : CW X z x n on sent ta lv aw st le sh tz tr lo lz ll cnt nb sz := by
  obtain ⟨mc, q, f, sa, kn, kc, size, aon, aze, alen, rb, hA, f0, f1, f2, f3, f7, f8, f9, h01, f10, f11, f12⟩ := h
  have t : ∀ (k : Nat) {e : va_E}, k ≤ 12 → μ (x + k) = some e → z (x + k) = some e := fun k e h1 h2 => (fe _ (fun j _ => by omega)).trans h2
  refine ⟨mc, q, f, sa, kn, kc, size, aon, aze, alen, rb, hA.keep (fun c e hc he => fe c (fun j hj => ?_)), t 0 (by decide) f0, t 1 (by decide) f1, t 2 (by decide) f2, t 3 (by decide) f3, t 7 (by decide) f7, t 8 (by decide) f8, t 9 (by decide) f9, h01, t 10 (by decide) f10, t 11 (by decide) f11, t 12 (by decide) f12⟩
  obtain ⟨e2, h2, h3⟩ := hF j (hS j hj)
  exact aw_ne hc he h2 h3
theorem JW.x {X : hp_X} {μ : hp_M} {x k : Nat} (h : JW X μ x k) : μ x = some (hp_o 6 [.ref (x + 1), .ref (x + 3), .ref (x + 4), .ref (x + 7)]) := by
  obtain ⟨n, on, sent, ta, lv, aw, st, le, sh, tz, tr, lo, lz, ll, cnt, nb, sz, hC, -⟩ := h
  obtain ⟨mc, q, f, sa, kn, kc, size, aon, aze, alen, rb, hA, f0, -⟩ := hC
  exact f0
theorem FW.o {X : hp_X} {μ : hp_M} {o n : Nat} {on : Bool} {sent : Nat} {lv : Nat → Nat} {aw : Nat → Bool} {st le : Nat → Nat} {sh : Nat → Nat → Nat} {tz : Nat} {tr : Nat → Nat} {lo lz ll cnt : Nat} {nb sz : Nat → Nat} (h : FW X μ o n on sent lv aw st le sh tz tr lo lz ll cnt nb sz) : ∃ fs, μ o = some (.inr (7, fs)) := by
  obtain ⟨se, kd, kl, tc, sd, hd, kc, Nu, G, sb, hb, ab, fz, kb, f0, -⟩ := h
  exact ⟨_, f0⟩
theorem JP.more {n : Nat} {on : Bool} {sent : Nat} {ta lv st le : Nat → Nat} {sh : Nat → Nat → Nat} {tz : Nat} {tr : Nat → Nat} {lo lz ll cnt : Nat} {sz : Nat → Nat} {k : Nat} (h : JP n on sent ta lv st le sh tz tr lo lz ll cnt sz k) : JP n on sent ta lv st le sh tz tr lo lz ll cnt sz (k + 1) := by
  obtain ⟨h1, h2, h3, h4, h5, h6, h7, h8, h9, h10, h11, h12, h13, h14, h15⟩ := h
  exact ⟨h1, h2, h3, h4, h5, h6, h7, h8, h9, h10, h11, h12, h13, h14, by omega⟩
theorem JW.more {X : hp_X} {μ : hp_M} {x k : Nat} (h : JW X μ x k) : JW X μ x (k + 1) := by
  obtain ⟨n, on, sent, ta, lv, aw, st, le, sh, tz, tr, lo, lz, ll, cnt, nb, sz, hC, hF, hP⟩ := h
  exact ⟨n, on, sent, ta, lv, aw, st, le, sh, tz, tr, lo, lz, ll, cnt, nb, sz, hC, hF, hP.more⟩
/-- one call of each: the same answer, and both in one world again -/
def Pr (l : Launch) (X : hp_X) (x k : Nat) (y1 : MethodName) (c1 : ByteArray) (L1 : Nat) (y2 : MethodName) (c2 : ByteArray) (L2 : Nat) (As : List Value) (μ : hp_M) (nx : Nat) : Prop :=
  ∃ (fr lo mc ms NX : Nat) (E : Int32) (P : hp_M → Prop), fr ≤ 8 ∧ lo ≤ 320 ∧ mc ≤ 3 ∧ ms ≤ 30 ∧ Ct l X y1 c1 L1 (some FieldType.int) fr lo mc ms (.ref x :: As) μ nx (hq_i X (po_i NX E P)) ∧ ∀ z, P z → (∃ fs, z (x + 13) = some (.inr (7, fs))) ∧ ∃ (fr2 lo2 : Nat), fr2 ≤ 8 ∧ lo2 ≤ 320 ∧ Ct l X y2 c2 L2 (some FieldType.int) fr2 lo2 0 0 (.ref (x + 13) :: As) z NX (hq_i X (po_i NX E (fun w => JW X w x (k + 1))))
/-- one call of each that changes nothing -/
theorem Pr.same {l : Launch} {X : hp_X} {x k : Nat} {y1 : MethodName} {c1 : ByteArray} {L1 : Nat} {y2 : MethodName} {c2 : ByteArray} {L2 : Nat} {As : List Value} {μ : hp_M} {nx : Nat} (hJ : JW X μ x k) {fr lo fr2 lo2 : Nat} {E : Int32} (h1 : Ct l X y1 c1 L1 (some FieldType.int) fr lo 0 0 (.ref x :: As) μ nx (hq_i X (po_i nx E (fun z => z = μ)))) (h2 : Ct l X y2 c2 L2 (some FieldType.int) fr2 lo2 0 0 (.ref (x + 13) :: As) μ nx (hq_i X (po_i nx E (fun z => z = μ)))) (hfr : fr ≤ 8 := by decide) (hlo : lo ≤ 320 := by decide) (hfr2 : fr2 ≤ 8 := by decide) (hlo2 : lo2 ≤ 320 := by decide) : Pr l X x k y1 c1 L1 y2 c2 L2 As μ nx := by
  refine ⟨fr, lo, 0, 0, nx, E, _, hfr, hlo, by decide, by decide, h1, fun z hz => ?_⟩
  cases hz
  refine ⟨?_, fr2, lo2, hfr2, hlo2, Met.mono h2 (hq_i.mono (fun r w n h => ⟨h.1, h.2.1, ?_⟩))⟩
  · obtain ⟨n, on, sent, ta, lv, aw, st, le, sh, tz, tr, lo, lz, ll, cnt, nb, sz, hC, hF, hP⟩ := hJ
    exact hF.o
  · rw [h.2.2]
    exact hJ.more
theorem tg_ix (x : Int32) {n : Nat} (hn : n < 2 ^ 30) : (x < nI 1 ∨ nI n < x) ∨ ∃ j : Nat, j < n ∧ x = nI (j + 1) := by
  by_cases h : x < 0
  · exact Or.inl (Or.inl (by have h2 : x.toInt < 0 := Int32.lt_iff_toInt_lt.mp h
                             exact Int32.lt_iff_toInt_lt.mpr (by rw [nI_toInt (by decide)]; omega)))
  · obtain ⟨j, hj, rfl⟩ := nI_of h
    rcases j with _ | j
    · exact Or.inl (Or.inl ((nI_ltI (by decide) (by decide)).mpr (by decide)))
    · by_cases h2 : j < n
      · exact Or.inr ⟨j, h2, rfl⟩
      · exact Or.inl (Or.inr ((nI_ltI (by omega) hj).mpr (by omega)))
