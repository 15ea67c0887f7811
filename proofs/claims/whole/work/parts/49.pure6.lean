/-! pure words of the reader: frames that it lays out, what it learns, a search, a round -/
theorem z_l2i (q : Nat) : (lN q).toInt32 &&& nI 255 = nI (q % 256) := by
  rw [lN_i, pk_and _ 8 (by decide)]
  congr 1
  show (BitVec.ofNat 32 q).toNat % 256 = q % 256
  rw [BitVec.toNat_ofNat]
  exact Nat.mod_mod_of_dvd q (by decide)
def apO (rb : Nat → Nat) (size v : Nat) : Nat → Nat := apB rb size (nI (octB v)) 9
theorem apO_01 {rb : Nat → Nat} (h : ∀ j, rb j < 2) (size v : Nat) : ∀ j, apO rb size v j < 2 := apB_01 h size _ 9
def laK (rb : Nat → Nat) (L v kn : Nat) : Nat → Nat → Nat
  | 0 => apO (apO rb 0 (145 + 2 * L)) 9 v
  | i + 1 => apO (laK rb L v kn i) (9 * (2 + i)) (kn / 2 ^ (8 * i) % 256)
theorem laK_01 {rb : Nat → Nat} (h : ∀ j, rb j < 2) (L v kn : Nat) : ∀ i j, laK rb L v kn i j < 2
  | 0 => apO_01 (apO_01 h _ _) _ _
  | i + 1 => apO_01 (laK_01 h L v kn i) _ _
def laV (kc : Nat) : Nat := 32 + 16 * (kc / 8) + kc % 8
def laS (rb : Nat → Nat) (L kn kc : Nat) : Nat → Nat := apB (laK rb L (laV kc) kn (kc / 8)) (9 * (2 + kc / 8)) (nI (kn / 2 ^ (8 * (kc / 8)) % 256)) (kc % 8)
def laZ (kc : Nat) : Nat := 9 * (2 + kc / 8) + kc % 8
def laX (rb : Nat → Nat) (size : Nat) : Nat → Nat := apB (apB rb size (nI (octB (crcN rb size (size / 9) % 256))) 9) (size + 9) (nI (octB (crcN rb size (size / 9) / 256))) 9
def laC (rb : Nat → Nat) (L kn : Nat) : Nat → Nat := laX (laK rb L 112 kn 5) 63
def laH (rb : Nat → Nat) : Nat → Nat := laX (apO (apO rb 0 80) 9 0) 18
def z0 : Nat → Nat := fun _ => 0
theorem apO_congr {rb rb2 : Nat → Nat} {size : Nat} (h : ∀ j, j < size → rb j = rb2 j) (v : Nat) : ∀ j, j < size + 9 → apO rb size v j = apO rb2 size v j := apB_congr h _ 9
theorem laK_congr (rb rb2 : Nat → Nat) (L v kn : Nat) : ∀ i j, j < 9 * (2 + i) → laK rb L v kn i j = laK rb2 L v kn i j
  | 0 => apO_congr (apO_congr (fun j h => absurd h (Nat.not_lt_zero _)) _) _
  | i + 1 => fun j hj => apO_congr (laK_congr rb rb2 L v kn i) _ j (by omega)
theorem laS_congr (rb rb2 : Nat → Nat) (L kn kc : Nat) : ∀ j, j < laZ kc → laS rb L kn kc j = laS rb2 L kn kc j := apB_congr (laK_congr rb rb2 L _ kn _) _ _
theorem laX_congr {rb rb2 : Nat → Nat} {size : Nat} (h : ∀ j, j < size → rb j = rb2 j) : ∀ j, j < size + 18 → laX rb size j = laX rb2 size j := by
  unfold laX
  rw [crcN_congr h]
  exact apB_congr (apB_congr h _ 9) _ 9
theorem laC_congr (rb rb2 : Nat → Nat) (L kn : Nat) : ∀ j, j < 81 → laC rb L kn j = laC rb2 L kn j := laX_congr (laK_congr rb rb2 L _ kn 5)
theorem laH_congr (rb rb2 : Nat → Nat) : ∀ j, j < 36 → laH rb j = laH rb2 j := laX_congr (apO_congr (apO_congr (fun j h => absurd h (Nat.not_lt_zero _)) _) _)
theorem laX_01 {rb : Nat → Nat} (h : ∀ j, rb j < 2) (size : Nat) : ∀ j, laX rb size j < 2 := apB_01 (apB_01 h _ _ _) _ _ _
theorem laS_01 {rb : Nat → Nat} (h : ∀ j, rb j < 2) (L kn kc : Nat) : ∀ j, laS rb L kn kc j < 2 := apB_01 (laK_01 h _ _ _ _) _ _ _
def dgN (on ze len i : Nat) : Nat := if i < len then digN on ze i else 0
theorem digN_le (on ze i : Nat) : digN on ze i ≤ 2 := by unfold digN; split <;> (try split) <;> omega
def lrn (on ze len pa : Nat) : Nat → Nat → Nat → Nat × Nat
  | 0, kn, kc => (kn, kc)
  | f + 1, kn, kc => if kc < 40 then (if dgN on ze len (kc + kc / 8 - pa) = 2 then (kn + 2 ^ kc, kc + 1) else lrn on ze len pa f (if dgN on ze len (kc + kc / 8 - pa) = 1 then kn + 2 ^ kc else kn) (kc + 1)) else (kn, kc)
/-- what the reader learns of an answer to the search with kn, kc -/
def leR (on ze len kn kc : Nat) : Nat × Nat := lrn on ze len (kc + kc / 8) 40 kn kc
theorem lrn_in {on ze len pa : Nat} : ∀ f kn kc, kn < 2 ^ kc → kc ≤ 40 → (lrn on ze len pa f kn kc).1 < 2 ^ (lrn on ze len pa f kn kc).2 ∧ kc ≤ (lrn on ze len pa f kn kc).2 ∧ (lrn on ze len pa f kn kc).2 ≤ 40
  | 0, kn, kc, h, h2 => ⟨h, Nat.le_refl _, h2⟩
  | f + 1, kn, kc, h, h2 => by
    simp only [lrn]
    by_cases e : kc < 40
    · rw [if_pos e]
      by_cases e2 : dgN on ze len (kc + kc / 8 - pa) = 2
      · rw [if_pos e2]
        refine ⟨?_, by show kc ≤ kc + 1; omega, by show kc + 1 ≤ 40; omega⟩
        show kn + 2 ^ kc < 2 ^ (kc + 1)
        rw [Nat.pow_succ]; omega
      · rw [if_neg e2]
        have ih := lrn_in (on := on) (ze := ze) (len := len) (pa := pa) f (if dgN on ze len (kc + kc / 8 - pa) = 1 then kn + 2 ^ kc else kn) (kc + 1) (by split <;> rw [Nat.pow_succ] <;> omega) (by omega)
        exact ⟨ih.1, by omega, ih.2.2⟩
    · rw [if_neg e]
      exact ⟨h, Nat.le_refl _, h2⟩
theorem leR_in {on ze len kn kc : Nat} (h : kn < 2 ^ kc) (h2 : kc ≤ 40) : (leR on ze len kn kc).1 < 2 ^ (leR on ze len kn kc).2 ∧ kc ≤ (leR on ze len kn kc).2 ∧ (leR on ze len kn kc).2 ≤ 40 := lrn_in 40 kn kc h h2
/-- a search at a level: answered to the end?; states, levels, frames sent, known bits, how many -/
def seN (n : Nat) (lv : Nat → Nat) (sh : Nat → Nat → Nat) (L : Nat) : Nat → (Nat → Nat) → (Nat → Nat) → Nat → Nat → Nat → Bool × (Nat → Nat) × (Nat → Nat) × Nat × Nat × Nat
  | 0, st, le, sent, kn, kc => (true, st, le, sent, kn, kc)
  | f + 1, st, le, sent, kn, kc =>
    if 40 ≤ kc then (true, st, le, sent, kn, kc)
    else if fN n (laS z0 L kn kc) (laZ kc) lv st le sh = 0 then (false, fS (laS z0 L kn kc) (laZ kc) lv st le sh, fL (laS z0 L kn kc) (laZ kc) lv st le sh, sent + 1, kn, kc)
    else seN n lv sh L f (fS (laS z0 L kn kc) (laZ kc) lv st le sh) (fL (laS z0 L kn kc) (laZ kc) lv st le sh) (sent + 1)
      (leR (fO n (laS z0 L kn kc) (laZ kc) lv st le sh) (fZ n (laS z0 L kn kc) (laZ kc) lv st le sh) (fN n (laS z0 L kn kc) (laZ kc) lv st le sh) kn kc).1
      (leR (fO n (laS z0 L kn kc) (laZ kc) lv st le sh) (fZ n (laS z0 L kn kc) (laZ kc) lv st le sh) (fN n (laS z0 L kn kc) (laZ kc) lv st le sh) kn kc).2
