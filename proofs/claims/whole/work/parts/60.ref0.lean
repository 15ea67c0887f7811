/-! the reference: boolean arrays; which of its cells a call changes -/
abbrev hp_b (X : hp_X) (n : Nat) (f : Nat → Bool) : va_E := .inl (X.2.2.1 3, n, .inl (fun j => nB (f j)))
section HPB
variable {p : Program} {l : Launch} {e : Env} {R : Room} {s : State} {m : MethodId} {args : Array Value} {below : List Frame} {meth : Method} {c : Code} {H : Heap} {locs : List Loc} {cells slots : Nat} {Q : State → Prop}
variable {cc : ByteArray} {pc : Nat} {ls : Array Slot} {rest : List Value} {X : hp_X} {cl : List vw_C} {a nx : Nat} {μ : hp_M}
theorem hp_zald (hexec : p.tables.exec = Jvm.exec) (hb : c.code = cc) (hA : ArrOfT s (X.2.2.1 3) .boolean) (hH : hp_w X cl μ nx H locs) {n i : Nat} {f : Nat → Bool} (hμ : μ a = some (hp_b X n f)) (hi : i < n) (hn : n < 2 ^ 31) (hdg : decode cc pc = .ok (.baload, 1))
    (kk : W p l e R s m args below meth c H locs cells slots Q (F0 m (pc + 1) ls (.int (nB (f i)) :: rest))) : W p l e R s m args below meth c H locs cells slots Q (F0 m pc ls (.int (nI i) :: .ref a :: rest)) := by
  have hc : (nI i).toNatClampNeg = i := nI_clamp (by omega)
  have hin := vp_in_nI hi hn
  have hlt : (nI i).toNatClampNeg < n := by rw [hc]; exact hi
  refine W.zald (v := .int (nB (f i))) hexec hb (hH.2.2.2.1 a _ hμ).2 (hA n (fun j => .int (nB (f j)))) (fun q => by cases q) (by show ¬ (nI i < 0 ∨ (arrV _ _ _).slots.size ≤ _); rw [arrV_size]; exact hin) (by show (arrV _ _ _).slots[_]? = _; rw [arrV_read _ _ hlt, hc]) rfl rfl hdg kk
theorem hp_zast (hexec : p.tables.exec = Jvm.exec) (hb : c.code = cc) (hA : ArrOfT s (X.2.2.1 3) .boolean) (hH : hp_w X cl μ nx H locs) {n i : Nat} {f : Nat → Bool} {v : Bool} (hμ : μ a = some (hp_b X n f)) (hi : i < n) (hn : n < 2 ^ 31) (hdg : decode cc pc = .ok (.bastore, 1))
    (kk : ∀ (H1 : Heap) (locs1 : List Loc) (μ1 : hp_M), μ1 a = some (hp_b X n (setB f i v)) → (∀ q, q ≠ a → μ1 q = μ q) → hp_w X cl μ1 nx H1 locs1 → W p l e R s m args below meth c H1 locs1 cells slots Q (F0 m (pc + 1) ls rest)) : W p l e R s m args below meth c H locs cells slots Q (F0 m pc ls (.int (nB v) :: .int (nI i) :: .ref a :: rest)) := by
  have hc : (nI i).toNatClampNeg = i := nI_clamp (by omega)
  have hin := vp_in_nI hi hn
  refine W.zast hexec hb (hH.2.2.2.1 a _ hμ).2 (hA n (fun j => .int (nB (f j)))) (fun q => by cases q) (by show ¬ (nI i < 0 ∨ (arrV _ _ _).slots.size ≤ _); rw [arrV_size]; exact hin) rfl rfl hdg fun H1 e z oq => ?_
  refine kk H1 _ _ (hp_up_s _ _ _) (fun q h => hp_up_n h) (hH.set hμ ?_ z oq)
  show H1[a]? = some (vp_cell _ _)
  rw [e, hc]
  rw [vp_cell_i, vp_cell_i, arrV_store]
  congr 2
  funext q
  by_cases hq : q = i
  · subst hq
    have := nB_nar v
    simp [updV, setB]
    simpa using this
  · simp [updV, setB, hq]
theorem hp_newb (hexec : p.tables.exec = Jvm.exec) (hb : c.code = cc) (harr : (Cond.arrayClass .boolean).before args s = true) (hR : s.vm.findClass "[Z" = some (X.2.2.1 3)) (hH : hp_w X cl μ nx H locs) {n : Int32} {N : Nat} (hn : ¬ n < 0) (hN : n.toNatClampNeg = N) (hbytes : N * 1 ≤ 536870912) (hcells : cells + 1 ≤ R.cells) (hslots : slots + N ≤ R.slots) (hdg : decode cc pc = .ok (.newarray .boolean, 2))
    (kk : ∀ (H1 : Heap) (μ1 : hp_M), μ1 nx = some (hp_b X N (fun _ => false)) → (∀ q, q ≠ nx → μ1 q = μ q) → hp_w X cl μ1 (nx + 1) H1 locs → W p l e R s m args below meth c H1 locs (cells + 1) (slots + N) Q (F0 m (pc + 2) ls (.ref nx :: rest))) : W p l e R s m args below meth c H locs cells slots Q (F0 m pc ls (.int n :: rest)) := by
  refine va_newaK (atype := .boolean) hexec hb harr rfl hdg rfl hn hN hbytes hcells hslots hH.1 fun H1 cA e1 z1 o1 hAr hNm => ?_
  have hcA : cA = X.2.2.1 3 := Option.some.inj (hNm.symm.trans hR)
  subst hcA
  exact kk H1 _ (hp_up_s _ _ _) (fun q h => hp_up_n h) (hH.push (show H1[nx]? = some (vp_cell _ _) from e1) z1 o1)
end HPB
/-- changes only the cells of the reference m that are told by their places -/
def hp_eqM (S : List Nat) (m : Nat) (z μ : hp_M) : Prop := ∀ q, (∀ k, k ∈ S → q ≠ m + k) → z q = μ q
theorem hp_eqM.at {S : List Nat} {m : Nat} {z μ : hp_M} (h : hp_eqM S m z μ) (j : Nat) (hj : j ∉ S) : z (m + j) = μ (m + j) := h _ (fun k hk e => hj (by rw [show j = k by omega]; exact hk))
theorem hp_eqM.at0 {S : List Nat} {m : Nat} {z μ : hp_M} (h : hp_eqM S m z μ) (hj : 0 ∉ S) : z m = μ m := h.at 0 hj
theorem hp_eqM.put {S : List Nat} {m k : Nat} {μ2 μ1 μ : hp_M} (fr : hp_eqM S m μ1 μ) (hk : k ∈ S) (fn : ∀ q, q ≠ m + k → μ2 q = μ1 q) : hp_eqM S m μ2 μ := fun q hq => (fn q (hq k hk)).trans (fr q hq)
theorem hp_eqM.tr {S S2 : List Nat} {m : Nat} {μ2 μ1 μ : hp_M} (fe : hp_eqM S2 m μ2 μ1) (fr : hp_eqM S m μ1 μ) (hs : ∀ k, k ∈ S2 → k ∈ S) : hp_eqM S m μ2 μ := fun q hq => (fe q (fun k hk => hq k (hs k hk))).trans (fr q hq)
theorem hp_eqM.mono {S S2 : List Nat} {m : Nat} {z μ : hp_M} (fe : hp_eqM S2 m z μ) (hs : ∀ k, k ∈ S2 → k ∈ S) : hp_eqM S m z μ := fun q hq => fe q (fun k hk => hq k (hs k hk))
/-- bit k of an int, by a shift with the sign -/
theorem z_sbI {v : Int32} {k : Nat} (hk : k < 32) : (v >>> (nI k &&& 31)) &&& nI 1 = nI (bitI v k) := by
  rw [pk_and _ 1 (by decide)]
  congr 1
  unfold bitI
  have h1 := pk_shr v (nI k &&& 31) k (z_scnt k hk)
  generalize v >>> (nI k &&& 31) = w at h1
  have e1 : ∀ u : Int32, (u.toBitVec.toNat : Int) % 2 = u.toInt % 2 := fun u => by
    have := u.toInt_toBitVec
    rw [show u.toInt = u.toBitVec.toInt from rfl, BitVec.toInt_eq_toNat_cond]
    split <;> omega
  have key : v.toInt / ((2 ^ k : Nat) : Int) % 2 = ((v.toBitVec.toNat / 2 ^ k : Nat) : Int) % 2 := by
    have h4 : v.toInt = (v.toBitVec.toNat : Int) ∨ v.toInt = (v.toBitVec.toNat : Int) - 2 ^ 32 := by
      rw [show v.toInt = v.toBitVec.toInt from rfl, BitVec.toInt_eq_toNat_cond]
      split
      · exact Or.inl rfl
      · exact Or.inr rfl
    rw [Int.natCast_ediv]
    rcases h4 with h4 | h4
    · rw [h4]
    · rw [h4]
      have h5 : (2 : Int) ^ 32 = ((2 ^ k : Nat) : Int) * (2 * ((2 ^ (31 - k) : Nat) : Int)) := by
        have h6 : (2 : Nat) ^ 32 = 2 ^ k * (2 * 2 ^ (31 - k)) := by
          rw [← Nat.pow_succ', ← Nat.pow_add]
          congr 1
          omega
        have h7 := congrArg (fun n : Nat => (n : Int)) h6
        simpa using h7
      have h7 : ((2 ^ k : Nat) : Int) ≠ 0 := by
        have := Nat.two_pow_pos k
        omega
      rw [h5, Int.sub_eq_add_neg, ← Int.mul_neg, Int.add_mul_ediv_left _ _ h7]
      omega
  have h8 := e1 w
  rw [h1, Int.shiftRight_eq_div_pow, key] at h8
  rw [Nat.pow_one]
  generalize v.toBitVec.toNat / 2 ^ k = B at h8 ⊢
  omega
theorem bitI_n {v : Nat} (hv : v < 2 ^ 32) (k : Nat) : bitI (nI v) k = v / 2 ^ k % 2 := by
  unfold bitI
  rw [pk_tn hv]
/-- the parity that makes a byte odd, by its steps -/
def prN (v : Nat) : Nat → Nat
  | 0 => 1
  | k + 1 => prN v k ^^^ v / 2 ^ k % 2
theorem prN_o : ∀ v, v < 256 → ∀ k, k < 9 → octB v / 2 ^ k % 2 = if k < 8 then v / 2 ^ k % 2 else prN v 8 := by decide +kernel
theorem prN_lt : ∀ v, v < 256 → prN v 8 < 2 := by decide +kernel
theorem apO_mk (rb : Nat → Nat) (size : Nat) {v : Nat} (hv : v < 256) : setN (apB rb size (nI v) 8) (size + 8) (prN v 8) = apO rb size v := by
  funext j
  unfold setN apO apB
  have ho := octB_lt hv
  by_cases h : j = size + 8
  · subst h
    rw [if_pos rfl, if_pos (by omega), Nat.add_sub_cancel_left, bitI_n (by omega), prN_o v hv 8 (by decide)]
    rfl
  · rw [if_neg h]
    by_cases h2 : size ≤ j ∧ j < size + 8
    · rw [if_pos h2, if_pos (by omega), bitI_n (by omega), bitI_n (by omega), prN_o v hv _ (by omega), if_pos (by omega)]
    · rw [if_neg h2, if_neg (by omega)]
