/-! numbers, frames of change, arrays of naturals -/
theorem hp_ne {μ : hp_M} {a b : Nat} {e1 e2 : va_E} (h1 : μ a = some e1) (h2 : μ b = some e2) (h : e1 ≠ e2) : a ≠ b := fun e => h (Option.some.inj (h1.symm.trans (e ▸ h2)))
def hp_eq (S : List Nat) (μ1 μ : hp_M) : Prop := ∀ q, q ∉ S → μ1 q = μ q
theorem hp_e1 {a c : Nat} {μ1 μ : hp_M} (h : hp_eq [a] μ1 μ) (n1 : c ≠ a) : μ1 c = μ c := h c (by simp [n1])
theorem hp_e2 {a b c : Nat} {μ1 μ : hp_M} (h : hp_eq [a, b] μ1 μ) (n1 : c ≠ a) (n2 : c ≠ b) : μ1 c = μ c := h c (by simp [n1, n2])
theorem hp_e3 {a b d c : Nat} {μ1 μ : hp_M} (h : hp_eq [a, b, d] μ1 μ) (n1 : c ≠ a) (n2 : c ≠ b) (n3 : c ≠ d) : μ1 c = μ c := h c (by simp [n1, n2, n3])
theorem hp_e4 {a b d f c : Nat} {μ1 μ : hp_M} (h : hp_eq [a, b, d, f] μ1 μ) (n1 : c ≠ a) (n2 : c ≠ b) (n3 : c ≠ d) (n4 : c ≠ f) : μ1 c = μ c := h c (by simp [n1, n2, n3, n4])
theorem hp_eq.put {S : List Nat} {μ2 μ1 μ : hp_M} {a : Nat} (h : hp_eq S μ1 μ) (ha : a ∈ S) (hn : ∀ q, q ≠ a → μ2 q = μ1 q) : hp_eq S μ2 μ := fun q hq => (hn q (fun e => hq (e ▸ ha))).trans (h q hq)
theorem hp_eq.tr {S S' : List Nat} {μ2 μ1 μ : hp_M} (fe : hp_eq S' μ2 μ1) (fr : hp_eq S μ1 μ) (hs : ∀ q ∈ S', q ∈ S) : hp_eq S μ2 μ := fun q hq => (fe q (fun h => hq (hs q h))).trans (fr q hq)
theorem hp_eq.tr1 {S : List Nat} {a : Nat} {μ2 μ1 μ : hp_M} (fe : hp_eq [a] μ2 μ1) (fr : hp_eq S μ1 μ) (ha : a ∈ S) : hp_eq S μ2 μ := fe.tr fr (by simp [ha])
theorem hp_eq.tr2 {S : List Nat} {a b : Nat} {μ2 μ1 μ : hp_M} (fe : hp_eq [a, b] μ2 μ1) (fr : hp_eq S μ1 μ) (ha : a ∈ S) (hb : b ∈ S) : hp_eq S μ2 μ := fe.tr fr (by simp [ha, hb])
theorem hp_eq.tr3 {S : List Nat} {a b d : Nat} {μ2 μ1 μ : hp_M} (fe : hp_eq [a, b, d] μ2 μ1) (fr : hp_eq S μ1 μ) (ha : a ∈ S) (hb : b ∈ S) (hd : d ∈ S) : hp_eq S μ2 μ := fe.tr fr (by simp [ha, hb, hd])
theorem hp_eq.tr4 {S : List Nat} {a b d f : Nat} {μ2 μ1 μ : hp_M} (fe : hp_eq [a, b, d, f] μ2 μ1) (fr : hp_eq S μ1 μ) (ha : a ∈ S) (hb : b ∈ S) (hd : d ∈ S) (hf : f ∈ S) : hp_eq S μ2 μ := fe.tr fr (by simp [ha, hb, hd, hf])
def nB (b : Bool) : Int32 := if b then 1 else 0
theorem nB_nar (b : Bool) : narrow .boolean (.int (nB b)) = .int (nB b) := by cases b <;> rfl
theorem nB_fit (b : Bool) : fits .boolean (.int (nB b)) = true := by cases b <;> rfl
theorem nB_0 {b : Bool} (h : nB b = 0) : b = false := by
  cases b with
  | false => rfl
  | true => exact absurd h (by decide)
theorem nB_n {b : Bool} (h : ¬ nB b = 0) : b = true := by
  cases b with
  | false => exact absurd rfl h
  | true => rfl
theorem nz_0 {n : Nat} (hn : n < 2 ^ 31) (h : nI n = 0) : n = 0 := (nI_eq hn (by decide)).mp (h.trans nI_0.symm)
theorem nz_n {n : Nat} (_ : n < 2 ^ 31) (h : ¬ nI n = 0) : ¬ (n = 0) := fun e => h (by rw [e]; exact nI_0)
theorem nz_gt {n : Nat} (hn : n < 2 ^ 31) (h : 0 < nI n) : 0 < n := (nI_ltI (by decide) hn).mp (by rw [nI_0]; exact h)
theorem nz_ngt {n : Nat} (hn : n < 2 ^ 31) (h : ¬ 0 < nI n) : n = 0 := by
  rcases Nat.eq_zero_or_pos n with e | e
  · exact e
  · exact absurd (by have := (nI_ltI (a := 0) (by decide) hn).mpr e; rw [nI_0] at this; exact this) h
theorem nz_le {n : Nat} (hn : n < 2 ^ 31) (h : nI n ≤ 0) : n = 0 := by
  have := (nI_leI (b := 0) hn (by decide)).mp (by rw [nI_0]; exact h)
  omega
theorem nz_nle {n : Nat} (hn : n < 2 ^ 31) (h : ¬ nI n ≤ 0) : 0 < n := by
  rcases Nat.eq_zero_or_pos n with e | e
  · exact absurd (by rw [e, nI_0]; decide) h
  · exact e
def setN (f : Nat → Nat) (k v : Nat) : Nat → Nat := fun j => if j = k then v else f j
def setL (f : Nat → Int64) (k : Nat) (v : Int64) : Nat → Int64 := fun j => if j = k then v else f j
/-- an int array that holds naturals -/
abbrev hp_n (X : hp_X) (n : Nat) (f : Nat → Nat) : va_E := hp_i X n (fun j => nI (f j))
section HPN
variable {p : Program} {l : Launch} {e : Env} {R : Room} {s : State} {m : MethodId} {args : Array Value} {below : List Frame} {meth : Method} {c : Code} {H : Heap} {locs : List Loc} {cells slots : Nat} {Q : State → Prop}
variable {cc : ByteArray} {pc : Nat} {ls : Array Slot} {rest : List Value} {X : hp_X} {cl : List vw_C} {a nx : Nat} {μ : hp_M}
theorem hp_ialdN (hexec : p.tables.exec = Jvm.exec) (hb : c.code = cc) (hA : ArrOfT s (X.2.2.1 0) .int) (hH : hp_w X cl μ nx H locs) {n i : Nat} {f : Nat → Nat} (hμ : μ a = some (hp_n X n f)) (hi : i < n) (hn : n < 2 ^ 31) (hdg : decode cc pc = .ok (.iaload, 1))
    (kk : W p l e R s m args below meth c H locs cells slots Q (F0 m (pc + 1) ls (.int (nI (f i)) :: rest))) : W p l e R s m args below meth c H locs cells slots Q (F0 m pc ls (.int (nI i) :: .ref a :: rest)) := by
  refine hp_iald hexec hb hA hH hμ (vp_in_nI hi hn) hdg ?_
  rw [nI_clamp (Nat.lt_trans hi hn)]
  exact kk
theorem hp_laldN (hexec : p.tables.exec = Jvm.exec) (hb : c.code = cc) (hA : ArrOfT s (X.2.2.1 1) .long) (hH : hp_w X cl μ nx H locs) {n i : Nat} {f : Nat → Int64} (hμ : μ a = some (hp_l X n f)) (hi : i < n) (hn : n < 2 ^ 31) (hdg : decode cc pc = .ok (.laload, 1))
    (kk : W p l e R s m args below meth c H locs cells slots Q (F0 m (pc + 1) ls (.long (f i) :: rest))) : W p l e R s m args below meth c H locs cells slots Q (F0 m pc ls (.int (nI i) :: .ref a :: rest)) := by
  refine hp_lald hexec hb hA hH hμ (vp_in_nI hi hn) hdg ?_
  rw [nI_clamp (Nat.lt_trans hi hn)]
  exact kk
theorem hp_iastN (hexec : p.tables.exec = Jvm.exec) (hb : c.code = cc) (hA : ArrOfT s (X.2.2.1 0) .int) (hH : hp_w X cl μ nx H locs) {n i v : Nat} {f : Nat → Nat} (hμ : μ a = some (hp_n X n f)) (hi : i < n) (hn : n < 2 ^ 31) (hdg : decode cc pc = .ok (.iastore, 1))
    (kk : ∀ (H1 : Heap) (locs1 : List Loc) (μ1 : hp_M), μ1 a = some (hp_n X n (setN f i v)) → (∀ q, q ≠ a → μ1 q = μ q) → hp_w X cl μ1 nx H1 locs1 → W p l e R s m args below meth c H1 locs1 cells slots Q (F0 m (pc + 1) ls rest)) : W p l e R s m args below meth c H locs cells slots Q (F0 m pc ls (.int (nI v) :: .int (nI i) :: .ref a :: rest)) := by
  refine hp_iast hexec hb hA hH hμ (vp_in_nI hi hn) hdg (fun H1 locs1 μ1 h1 h2 h3 => kk H1 locs1 μ1 ?_ h2 h3)
  rw [h1, nI_clamp (Nat.lt_trans hi hn)]
  congr 4
  funext j
  simp only [upd, setN]
  split <;> rfl
theorem hp_lastN (hexec : p.tables.exec = Jvm.exec) (hb : c.code = cc) (hA : ArrOfT s (X.2.2.1 1) .long) (hH : hp_w X cl μ nx H locs) {n i : Nat} {v : Int64} {f : Nat → Int64} (hμ : μ a = some (hp_l X n f)) (hi : i < n) (hn : n < 2 ^ 31) (hdg : decode cc pc = .ok (.lastore, 1))
    (kk : ∀ (H1 : Heap) (locs1 : List Loc) (μ1 : hp_M), μ1 a = some (hp_l X n (setL f i v)) → (∀ q, q ≠ a → μ1 q = μ q) → hp_w X cl μ1 nx H1 locs1 → W p l e R s m args below meth c H1 locs1 cells slots Q (F0 m (pc + 1) ls rest)) : W p l e R s m args below meth c H locs cells slots Q (F0 m pc ls (.long v :: .int (nI i) :: .ref a :: rest)) := by
  refine hp_last hexec hb hA hH hμ (vp_in_nI hi hn) hdg (fun H1 locs1 μ1 h1 h2 h3 => kk H1 locs1 μ1 ?_ h2 h3)
  rw [h1, nI_clamp (Nat.lt_trans hi hn)]
  rfl
theorem hp_acmp_eq (hexec : p.tables.exec = Jvm.exec) (hb : c.code = cc) {x y : Nat} {off : Int} {tgt : Nat} (hdg : decode cc pc = .ok (.if_acmp .eq off, 3)) (ht : (pc : Int) + off = (tgt : Int))
    (kt : x = y → W p l e R s m args below meth c H locs cells slots Q (F0 m tgt ls rest)) (kf : ¬ x = y → W p l e R s m args below meth c H locs cells slots Q (F0 m (pc + 3) ls rest)) : W p l e R s m args below meth c H locs cells slots Q (F0 m pc ls (.ref y :: .ref x :: rest)) :=
  lv_acmp_eq (rx := some x) (ry := some y) hexec hb hdg ht (fun h => kt (Option.some.inj h)) (fun h => kf (fun q => h (congrArg some q)))
theorem hp_acmp_ne (hexec : p.tables.exec = Jvm.exec) (hb : c.code = cc) {x y : Nat} {off : Int} {tgt : Nat} (hdg : decode cc pc = .ok (.if_acmp .ne off, 3)) (ht : (pc : Int) + off = (tgt : Int))
    (kt : ¬ x = y → W p l e R s m args below meth c H locs cells slots Q (F0 m tgt ls rest)) (kf : x = y → W p l e R s m args below meth c H locs cells slots Q (F0 m (pc + 3) ls rest)) : W p l e R s m args below meth c H locs cells slots Q (F0 m pc ls (.ref y :: .ref x :: rest)) :=
  lv_acmp_ne (rx := some x) (ry := some y) hexec hb hdg ht (fun h => kt (fun q => h (congrArg some q))) (fun h => kf (Option.some.inj h))
end HPN
/-- bit k of an int -/
def bitI (v : Int32) (k : Nat) : Nat := v.toBitVec.toNat / 2 ^ k % 2
theorem bitI_lt (v : Int32) (k : Nat) : bitI v k < 2 := Nat.mod_lt _ (by decide)
theorem z_cnt : ∀ i, i < 32 → (((nI i).toUInt32 &&& Int32.toUInt32 31).toBitVec % 32).toNat = i := by decide +kernel
theorem z_bit {v : Int32} {i : Nat} (hi : i < 32) : ((v.toUInt32 >>> ((nI i).toUInt32 &&& Int32.toUInt32 31)).toInt32 &&& nI 1) = nI (bitI v i) := by
  rw [pk_and _ 1 (by decide), pk_ushr v (nI i) i (z_cnt i hi)]
  rfl
