/-! the reference: arrays of ints; what a frame means, by its steps -/
def setI (f : Nat → Int32) (k : Nat) (v : Int32) : Nat → Int32 := fun j => if j = k then v else f j
theorem setI_s (f : Nat → Int32) (k : Nat) (v : Int32) : setI f k v k = v := if_pos rfl
theorem setI_o {f : Nat → Int32} {k : Nat} {v : Int32} {j : Nat} (h : j ≠ k) : setI f k v j = f j := if_neg h
section HPI
variable {p : Program} {l : Launch} {e : Env} {R : Room} {s : State} {m : MethodId} {args : Array Value} {below : List Frame} {meth : Method} {c : Code} {H : Heap} {locs : List Loc} {cells slots : Nat} {Q : State → Prop}
variable {cc : ByteArray} {pc : Nat} {ls : Array Slot} {rest : List Value} {X : hp_X} {cl : List vw_C} {a nx : Nat} {μ : hp_M}
theorem hp_ialdI (hexec : p.tables.exec = Jvm.exec) (hb : c.code = cc) (hA : ArrOfT s (X.2.2.1 0) .int) (hH : hp_w X cl μ nx H locs) {n i : Nat} {f : Nat → Int32} (hμ : μ a = some (hp_i X n f)) (hi : i < n) (hn : n < 2 ^ 31) (hdg : decode cc pc = .ok (.iaload, 1))
    (kk : W p l e R s m args below meth c H locs cells slots Q (F0 m (pc + 1) ls (.int (f i) :: rest))) : W p l e R s m args below meth c H locs cells slots Q (F0 m pc ls (.int (nI i) :: .ref a :: rest)) := by
  refine hp_iald hexec hb hA hH hμ (vp_in_nI hi hn) hdg ?_
  rw [nI_clamp (Nat.lt_trans hi hn)]
  exact kk
theorem hp_iastI (hexec : p.tables.exec = Jvm.exec) (hb : c.code = cc) (hA : ArrOfT s (X.2.2.1 0) .int) (hH : hp_w X cl μ nx H locs) {n i : Nat} {v : Int32} {f : Nat → Int32} (hμ : μ a = some (hp_i X n f)) (hi : i < n) (hn : n < 2 ^ 31) (hdg : decode cc pc = .ok (.iastore, 1))
    (kk : ∀ (H1 : Heap) (locs1 : List Loc) (μ1 : hp_M), μ1 a = some (hp_i X n (setI f i v)) → (∀ q, q ≠ a → μ1 q = μ q) → hp_w X cl μ1 nx H1 locs1 → W p l e R s m args below meth c H1 locs1 cells slots Q (F0 m (pc + 1) ls rest)) : W p l e R s m args below meth c H locs cells slots Q (F0 m pc ls (.int v :: .int (nI i) :: .ref a :: rest)) := by
  refine hp_iast hexec hb hA hH hμ (vp_in_nI hi hn) hdg (fun H1 locs1 μ1 h1 h2 h3 => kk H1 locs1 μ1 ?_ h2 h3)
  rw [h1, nI_clamp (Nat.lt_trans hi hn)]
  rfl
end HPI
theorem rdK_7 {sb : Nat → Nat} {se : Nat} (h : se = 7) : rdK sb se = kdS (vaN sb 0 7) := by
  subst h
  unfold rdK
  rw [if_pos rfl, valN_stop (i := 7) (by decide) 8 (by decide), valN_va 7 (by decide)]
theorem rdK_bad {sb : Nat → Nat} {se i : Nat} (h7 : ¬ se = 7) (hb : begN sb se i = false) (hi : i ≤ se / 9) : rdK sb se = 0 := by
  unfold rdK
  rw [if_neg h7, if_pos (Or.inr (begN_false hb _ hi))]
theorem rdK_few {sb : Nat → Nat} {se : Nat} (h7 : ¬ se = 7) (h : se / 9 < 2) : rdK sb se = 0 := by
  unfold rdK
  rw [if_neg h7, if_pos (Or.inl h)]
theorem rdK_g {sb : Nat → Nat} {se F S2 : Nat} (h7 : ¬ se = 7) (h2 : 2 ≤ se / 9) (hg : begN sb se (se / 9) = true) (hF : F = vaN sb 0 8) (hS : S2 = vaN sb 9 8) : rdK sb se = if 0 < lvOf F ∧ se / 9 ≤ 6 ∧ se % 9 ≤ 7 ∧ S2 = 16 * (se / 9) + se % 9 then 3 else if 0 < se % 9 ∨ ¬ crcN sb se (se / 9) = 0 then 0 else if 0 < lvOf F ∧ se / 9 = 9 ∧ S2 = 112 then 4 else kdC F (se / 9) S2 := by
  unfold rdK
  rw [if_neg h7, if_neg (by rw [hg]; intro h; rcases h with h | h; omega; cases h), valN_va 8 (by omega), valN_va 8 (by omega), ← hF, ← hS]
theorem crcN_own {sb : Nat → Nat} {se k : Nat} (h01 : ∀ j, sb j < 2) (hk : 9 * (k + 2) ≤ se) : crcN sb se (k + 2) = 0 ↔ vaN sb (9 * k) 8 = crcN sb se k % 256 ∧ vaN sb (9 * (k + 1)) 8 = crcN sb se k / 256 := by
  show crcS (crcS (crcN sb se k) (valN sb se (9 * k) 8)) (valN sb se (9 * (k + 1)) 8) = 0 ↔ _
  rw [valN_va 8 (by omega), valN_va 8 (by omega)]
  exact crc_own (crcN_lt _ _ _) (vaN_lt (n := 8) (fun j _ => h01 _)) (vaN_lt (n := 8) (fun j _ => h01 _))
/-- bits of what a tag shows, with its parities -/
theorem oct_dat {sl k : Nat} (hk : k < 40) : octN sl 5 / 2 ^ (k + k / 8) % 2 = sl / 2 ^ k % 2 := by
  rw [show k + k / 8 = 9 * (k / 8) + k % 8 by omega, octN_bit sl 5 (k / 8) (k % 8) (by omega) (by omega), prN_o _ (Nat.mod_lt _ (by decide)) _ (by omega), if_pos (by omega), bt_byte (by omega), show 8 * (k / 8) + k % 8 = k by omega]
theorem oct_par {sl i : Nat} (hi : i < 5) : octN sl 5 / 2 ^ (9 * i + 8) % 2 = prN (sl / 2 ^ (8 * i) % 256) 8 := by
  rw [octN_bit sl 5 i 8 hi (by decide), prN_o _ (Nat.mod_lt _ (by decide)) 8 (by decide)]
  rfl
theorem setN_01 {f : Nat → Nat} (h : ∀ j, f j < 2) {k v : Nat} (hv : v < 2) : ∀ j, setN f k v j < 2 := fun j => by unfold setN; split; exact hv; exact h j
