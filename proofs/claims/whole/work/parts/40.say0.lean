/-! Enum.ordinal of a reply, the table of the switch; what a tag says -/
def xOrd : MethodName := ⟨"TagField$Reply", "ordinal", "()I"⟩
set_option maxRecDepth 20000 in
theorem wo_link : Cond.methodLink RX9 138 xOrd ∈ tb := tb_of (List.mem_of_getElem? (i := 559) rfl) rfl
set_option maxRecDepth 20000 in
theorem wo_same : Cond.sameMethod "TagField$Reply" "java/lang/Enum" "ordinal" "()I" ∈ tb := tb_of (List.mem_of_getElem? (i := 560) rfl) rfl
set_option maxRecDepth 20000 in
theorem wo_sel : Cond.selects RX7 xOrd yJx29ce0_ordinal_8abf5 ∈ tb := tb_of (List.mem_of_getElem? (i := 562) rfl) rfl
set_option maxRecDepth 20000 in
theorem wo_inst : Cond.instanceMethod yJx29ce0_ordinal_8abf5 ∈ tb := tb_of (List.mem_of_getElem? (i := 563) rfl) rfl
set_option maxRecDepth 20000 in
theorem wo_code : Cond.code yJx29ce0_ordinal_8abf5 cJx29ce0_ordinal_8abf5 1 (some .int) ∈ tb := tb_of (List.mem_of_getElem? (i := 564) rfl) rfl
set_option maxRecDepth 20000 in
theorem wo_fl : Cond.fieldLink RJx29ce0 7 "java/lang/Enum" "ordinal" "I" ∈ tb := tb_of (List.mem_of_getElem? (i := 919) rfl) rfl
theorem wo_init : Cond.initialized "java/lang/Enum" ∈ tb := tb_of (List.mem_of_getElem? (i := 49) rfl) rfl
section HPY
variable {p : Program} {l : Launch} {e : Env} {R : Room} {s : State} {m : MethodId} {args : Array Value} {below : List Frame} {meth : Method} {c : Code} {H : Heap} {locs : List Loc} {cells slots : Nat} {Q : State → Prop}
variable {cc : ByteArray} {pc : Nat} {ls : Array Slot} {rest : List Value} {X : hp_X} {nx nL index : Nat} {own : String} {μ : hp_M}
theorem hp_getO (hx : p.tables.exec = Jvm.exec) (hb : c.code = cc) {o n d : String} {v : Value} {t : Nat} (hO : va_OF o n d v t (hp_A X) s X.2.1) (hH : hp_w X cls μ nx H locs) (hown : s.vm.findClass own = some m.cls) (hk : Cond.fieldLink own index o n d ∈ tb) (hS : KS X s) (hdg : decode cc pc = .ok (.getfield index, 3))
    (kk : W p l e R s m args below meth c H locs cells slots Q (F0 m (pc + 3) ls (v :: rest))) : W p l e R s m args below meth c H locs cells slots Q (F0 m pc ls (.ref t :: rest)) := by
  obtain ⟨cf, k, fi, f, cell, h1, h2, h3, h4, h5, h6⟩ := hO
  exact W.getf hx hb hown (hS.1 _ hk _) h1 h2 (by rw [hH.2.2.1 t (Nat.not_le.mp h6)]; exact h3) h4 (v := v) h5 rfl rfl hdg kk
theorem KS.ord {X : hp_X} {s : State} (h : KS X s) {j : Nat} (hj : j < 7) : va_OF "java/lang/Enum" "ordinal" "I" (.int (nI j)) (X.2.2.2 (8 + j)) (hp_A X) s X.2.1 := by
  have h1 := (h.2.2.2.1.1 j hj).2.2 _ (List.mem_singleton.mpr rfl)
  have h2 : ∀ j, j < 7 → ([0, 1, 2, 3, 4, 5, 6] : List Int32).getD j 0 = nI j := by decide +kernel
  have h3 := h2 j hj
  dsimp only at h1
  rw [h3] at h1
  exact h1
theorem hp_ti (hx : p.tables.exec = Jvm.exec) (hb : c.code = cc) {N j t : Nat} {f : Nat → Value} (hT : va_T .int t N f (hp_A X) s X.2.1) (hH : hp_w X cls μ nx H locs) (hj : j < N) (hN : N < 2 ^ 31) {v : Value} (hv : f j = v) (hdg : decode cc pc = .ok (.iaload, 1))
    (kk : W p l e R s m args below meth c H locs cells slots Q (F0 m (pc + 1) ls (v :: rest))) : W p l e R s m args below meth c H locs cells slots Q (F0 m pc ls (.int (nI j) :: .ref t :: rest)) := by
  obtain ⟨cell, h1, h2, h3, h4, h5, h6, h7⟩ := hT
  have hc : (nI j).toNatClampNeg = j := nI_clamp (by omega)
  have hin : ¬ (nI j < 0 ∨ cell.slots.size ≤ (nI j).toNatClampNeg) := by
    rw [hc]
    intro q
    rcases q with q | q
    · exact absurd q (nI_pos (by omega))
    · omega
  exact W.iald (v := v) hx hb (by rw [hH.2.2.1 t (Nat.not_le.mp h7)]; exact h1) h2 h3 hin (by rw [hc, h6 _ hj, hv]) rfl rfl hdg kk
end HPY
set_option maxHeartbeats 4000000 in
theorem c_ordinal (l : Launch) (X : hp_X) {μ : hp_M} {nx j : Nat} (hj : j < 7) : Ct l X yJx29ce0_ordinal_8abf5 cJx29ce0_ordinal_8abf5 1 (some .int) 0 0 0 0 [.ref (X.2.2.2 (8 + j))] μ nx (hq_i X (po_i nx (nI j) (fun z => z = μ))) := by
  refine hp_met (by decide) (Nat.le_of_ble_eq_true rfl) ?_
  intro p e s m below meth c ls hx hb hml hr hlocks hown hin hS hH hl
  have hl : lv_has ls 1 [(0, .ref (X.2.2.2 (8 + j)))] := hl
  refine lv_aload_n hx hb dJx29ce0_ordinal_8abf5_0 rfl (lv_at hl 0 rfl) ?_
  refine hp_getO hx hb (hS.ord hj) hH hown wo_fl hS dJx29ce0_ordinal_8abf5_1 ?_
  exact hp_ri hx hb hr hlocks hS hH ⟨rfl, rfl, rfl⟩ dJx29ce0_ordinal_8abf5_4
section HPZ
variable {p : Program} {l : Launch} {e : Env} {R : Room} {s : State} {m : MethodId} {args : Array Value} {below : List Frame} {meth : Method} {c : Code} {H : Heap} {locs : List Loc} {cells slots : Nat} {Q : State → Prop}
variable {cc : ByteArray} {pc : Nat} {ls : Array Slot} {rest : List Value} {X : hp_X} {nx nL : Nat} {μ : hp_M}
theorem hp_ord (hx : p.tables.exec = Jvm.exec) (hb : c.code = cc) (hml : c.maxLocals = nL) (hown : s.vm.findClass RX9 = some m.cls) (hS : KS X s) (hH : hp_w X cls μ nx H locs) {j : Nat} (hj : j < 7) (hsz : ls.size = nL) (hroom : (rest.map fun v => v.category).sum ≤ 8) (hdg : decode cc pc = .ok (.invokevirtual 138, 3)) (hR : 0 + 1 ≤ R.frames ∧ 8 + (1 + 11) + 0 ≤ R.locals) (hf : cells + 0 ≤ R.cells ∧ slots + 0 ≤ R.slots)
    (kk : ∀ (H1 : Heap) (locs1 : List Loc), hp_w X cls μ nx H1 locs1 → W p l e R s m args below meth c H1 locs1 (cells + 0) (slots + 0) Q (F0 m (pc + 3) ls (.int (nI j) :: rest))) : W p l e R s m args below meth c H locs cells slots Q (F0 m pc ls (.ref (X.2.2.2 (8 + j)) :: rest)) := by
  have ok : ∀ {w : Cond}, w ∈ tb → w.before args s = true := fun h => hS.1 _ h args
  obtain ⟨cell, o1, o2, o3, o4⟩ := (hS.2.2.2.1.1 j hj).2.1
  have hp : PreV s H RX7 (X.2.2.2 (8 + j)) (va_Pc [.ref (X.2.2.2 (8 + j))] (hp_Wd X μ nx)) [] := ⟨hp_blind, ⟨cell, by rw [hH.2.2.1 _ (Nat.not_le.mp o4)]; exact o1, o2, o3⟩, (hp_pre hS hH).2⟩
  refine hp_kip (va_runU (Ts := tb) (C := RX7) (owner := "java/lang/Enum") (x := xOrd) (As := []) (n := 0) ⟨hx, hb, hml, hown, fun w h => hS.1 w h args⟩ (c_ordinal l X (μ := μ) (nx := nx) hj) ⟨⟨rfl, rfl, hR.1, hR.2, hp_words hS wo_code, List.mem_singleton.mpr rfl⟩, ok wo_code, ok wo_init, ⟨by decide, by decide⟩, fun sig h => ?_, ok wo_link, ok wo_same, va_Decl.of (ok wo_inst) (ok wo_code), ok wo_sel, ok wo_inst⟩ hp rfl rfl hsz rfl (lv_room hroom) hdg hf) hH kk
  have h2 : (parseMethodDescriptor xOrd.desc).map (fun d => d.parameters.length) = some 0 := by decide +kernel
  rw [h] at h2
  exact (Option.some.inj h2).symm
end HPZ
def saL (j tc : Nat) : Nat := if j = 1 then 18 else if j = 2 then 45 - (tc + tc / 8) else if j = 5 then 45 else if j = 0 then 0 else 27
def saB (j lv sl se tc : Nat) : Nat :=
  if j = 1 then octN (4 + 64 * (lv - 1)) 2
  else if j = 2 then octN sl 5 / 2 ^ (tc + tc / 8)
  else if j = 3 then octN (4 + crcB 4 1 * 2 ^ (8 * 1)) (1 + 2)
  else if j = 4 then octN (32 + crcB 32 1 * 2 ^ (8 * 1)) (1 + 2)
  else if j = 5 then octN (515 + se * 65536 + crcB (515 + se * 65536) 3 * 2 ^ (8 * 3)) (3 + 2)
  else if j = 6 then octN (194 + crcB 194 1 * 2 ^ (8 * 1)) (1 + 2) else 0
theorem oct64 (B n : Nat) (hn : n ≤ 7) : octN B n < 2 ^ 64 := Nat.lt_of_lt_of_le (octN_lt B n) (Nat.pow_le_pow_right (by decide) (by omega))
theorem z_515 {se : Nat} (h : se < 256) : nI 515 ||| (nI se <<< (nI 16 &&& 31)) = nI (515 + se * 65536) := by
  rw [pk_shlN _ 16 (by decide) (by omega), nx_or]
  congr 1
  rw [Nat.or_comm, ← Nat.shiftLeft_eq, ← Nat.shiftLeft_add_eq_or_of_lt (by decide), Nat.add_comm, Nat.shiftLeft_eq]
