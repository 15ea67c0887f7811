theorem wi_oi : Cond.instanceMethod objectInit ∈ tb := tb_of (List.mem_of_getElem? (i := 71) rfl) rfl
theorem wi_oc : Cond.code objectInit ⟨#[0xb1]⟩ 1 none ∈ tb := tb_of (List.mem_of_getElem? (i := 72) rfl) rfl
theorem ol_X10_1 : Cond.methodLink RX10 1 objectInit ∈ tb := tb_of (List.mem_of_getElem? (i := 70) rfl) rfl
theorem ol_X8_3 : Cond.methodLink RX8 3 objectInit ∈ tb := tb_of (List.mem_of_getElem? (i := 78) rfl) rfl
theorem ol_X2_3 : Cond.methodLink RX2 3 objectInit ∈ tb := tb_of (List.mem_of_getElem? (i := 94) rfl) rfl
theorem ol_X1_1 : Cond.methodLink RX1 1 objectInit ∈ tb := tb_of (List.mem_of_getElem? (i := 111) rfl) rfl
theorem ol_Jxa1e45_1 : Cond.methodLink RJxa1e45 1 objectInit ∈ tb := tb_of (List.mem_of_getElem? (i := 123) rfl) rfl
theorem ol_X4_3 : Cond.methodLink RX4 3 objectInit ∈ tb := tb_of (List.mem_of_getElem? (i := 143) rfl) rfl
theorem ol_X6_3 : Cond.methodLink RX6 3 objectInit ∈ tb := tb_of (List.mem_of_getElem? (i := 186) rfl) rfl
theorem ol_X9_3 : Cond.methodLink RX9 3 objectInit ∈ tb := tb_of (List.mem_of_getElem? (i := 236) rfl) rfl
set_option maxRecDepth 20000 in
theorem ol_X11_1 : Cond.methodLink RX11 1 objectInit ∈ tb := tb_of (List.mem_of_getElem? (i := 673) rfl) rfl
section HPO
variable {p : Program} {l : Launch} {e : Env} {R : Room} {s : State} {m : MethodId} {args : Array Value} {below : List Frame} {meth : Method} {c : Code} {H : Heap} {locs : List Loc} {cells slots : Nat} {Q : State → Prop}
variable {cc : ByteArray} {pc : Nat} {ls : Array Slot} {rest : List Value} {X : hp_X} {a nL index : Nat} {own : String}
theorem hp_obj (hx : p.tables.exec = Jvm.exec) (hb : c.code = cc) (hml : c.maxLocals = nL) (hown : s.vm.findClass own = some m.cls) (hS : KS X s) (hk : Cond.methodLink own index objectInit ∈ tb) (hsz : ls.size = nL) (hdg : decode cc pc = .ok (.invokespecial index, 3)) (hfr : 1 ≤ R.frames) (hlo : (rest.map fun v => v.category).sum ≤ 8) (hlo2 : 20 ≤ R.locals)
    (kk : W p l e R s m args below meth c H locs cells slots Q (F0 m (pc + 3) ls rest)) : W p l e R s m args below meth c H locs cells slots Q (F0 m pc ls (.ref a :: rest)) := by
  refine W.objInit hx hb hown (hS.1 _ hk _) (hS.1 _ wi_oi _) (hS.1 _ wi_oc _) rfl (by rw [hml]; exact hsz) rfl hdg hfr ?_ kk
  have h1 := lv_room (m := m) (pc := pc) (ls := ls) (rest := rest) hlo
  exact Nat.le_trans (Nat.add_le_add_right h1 12) hlo2
end HPO
def sN (own : String) (index ci N : Nat) (fs : List Value) : Prop :=
  ∃ (C : String) (T : u_T) (ty : Nat → FieldType), cls[ci]? = some (C, T, N) ∧ (∀ w ∈ u_ws C T N, w ∈ tb) ∧ (∀ k, k < N → parseFieldDescriptor (T k).2.2.1 = some (ty k)) ∧ Cond.classLink own index C ∈ tb ∧ Cond.instantiable C N ∈ tb ∧ Cond.initialized C ∈ tb ∧ ∀ j, j < N → defaultValue (ty j) = vp_V fs j
theorem sN.use {own : String} {index ci N : Nat} {fs : List Value} (h : sN own index ci N fs) {X : hp_X} {s : State} (hS : KS X s) {args : Array Value} : hp_N cls s args own index ci N fs := by
  obtain ⟨C, T, ty, h1, h2, h3, h4, h5, h6, h7⟩ := h
  exact ⟨C, T, ty, h1, fun w hw => hS.1 w (h2 w hw) args, h3, hS.1 _ h4 args, hS.1 _ h5 args, hS.1 _ h6 args, h7⟩
theorem N_L_7 : sN RL 7 6 4 [.null, .null, .null, .null] := ⟨RX10, TX10, tyX10, rfl, lay_X10, tyX10_ok, NL_L_7, NI_X10.1, NI_X10.2, by decide +kernel⟩
theorem N_X10_7 : sN RX10 7 4 2 [.null, .int (nI 0)] := ⟨RX8, TX8, tyX8, rfl, lay_X8, tyX8_ok, NL_X10_7, NI_X8.1, NI_X8.2, by decide +kernel⟩
theorem N_X10_18 : sN RX10 18 1 3 [.long (lN 0), .long (lN 0), .int (nI 0)] := ⟨RX2, TX2, tyX2, rfl, lay_X2, tyX2_ok, NL_X10_18, NI_X2.1, NI_X2.2, by decide +kernel⟩
theorem N_X10_25 : sN RX10 25 0 4 [.null, .null, .int (nB false), .int (nI 0)] := ⟨RX1, TX1, tyX1, rfl, lay_X1, tyX1_ok, NL_X10_25, NI_X1.1, NI_X1.2, by decide +kernel⟩
theorem N_X1_7 : sN RX1 7 8 3 [.int (nI 0), .null, .int (nI 0)] := ⟨RJx4a65c, TJx4a65c, tyJx4a65c, rfl, lay_Jx4a65c, tyJx4a65c_ok, NL_X1_7, NI_Jx4a65c.1, NI_Jx4a65c.2, by decide +kernel⟩
theorem N_X1_16 : sN RX1 16 2 5 [.null, .int (nI 0), .int (nI 0), .long (lN 0), .int (nI 0)] := ⟨RX4, TX4, tyX4, rfl, lay_X4, tyX4_ok, NL_X1_16, NI_X4.1, NI_X4.2, by decide +kernel⟩
theorem N_X10_32 : sN RX10 32 3 7 [.null, .null, .null, .null, .int (nI 0), .long (lN 0), .int (nI 0)] := ⟨RX6, TX6, tyX6, rfl, lay_X6, tyX6_ok, NL_X10_32, NI_X6.1, NI_X6.2, by decide +kernel⟩
theorem N_X6_9 : sN RX6 9 4 2 [.null, .int (nI 0)] := ⟨RX8, TX8, tyX8, rfl, lay_X8, tyX8_ok, NL_X6_9, NI_X8.1, NI_X8.2, by decide +kernel⟩
theorem N_X6_20 : sN RX6 20 1 3 [.long (lN 0), .long (lN 0), .int (nI 0)] := ⟨RX2, TX2, tyX2, rfl, lay_X2, tyX2_ok, NL_X6_20, NI_X2.1, NI_X2.2, by decide +kernel⟩
theorem N_X10_39 : sN RX10 39 5 5 [.int (nI 0), .null, .int (nB false), .int (nI 0), .int (nI 0)] := ⟨RX9, TX9, tyX9, rfl, lay_X9, tyX9_ok, NL_X10_39, NI_X9.1, NI_X9.2, by decide +kernel⟩
theorem N_X1_35 : sN RX1 35 5 5 [.int (nI 0), .null, .int (nB false), .int (nI 0), .int (nI 0)] := ⟨RX9, TX9, tyX9, rfl, lay_X9, tyX9_ok, NL_X1_35, NI_X9.1, NI_X9.2, by decide +kernel⟩
theorem N_L_10 : sN RL 10 7 29 [.int (nI 0), .null, .null, .null, .null, .null, .null, .int (nB false), .int (nI 0), .null, .int (nI 0), .null, .null, .int (nI 0), .int (nI 0), .int (nI 0), .null, .int (nI 0), .null, .int (nI 0), .null, .int (nI 0), .null, .int (nI 0), .int (nI 0), .null, .null, .int (nI 0), .null] := ⟨RX11, TX11, tyX11, rfl, lay_X11, tyX11_ok, NL_L_10, NI_X11.1, NI_X11.2, by decide +kernel⟩
