section HPG
variable {p : Program} {l : Launch} {e : Env} {R : Room} {s : State} {m : MethodId} {args : Array Value} {below : List Frame} {meth : Method} {c : Code} {H : Heap} {locs : List Loc} {cells slots : Nat} {Q : State → Prop}
variable {cc : ByteArray} {pc : Nat} {ls : Array Slot} {rest : List Value} {X : hp_X} {nx index : Nat} {own : String} {μ : hp_M}
theorem hp_gets (hx : p.tables.exec = Jvm.exec) (hb : c.code = cc) {C n d : String} {v : Value} (hZ : va_Z C n d v (hp_A X) s X.2.1) (hH : hp_w X cls μ nx H locs) (hown : s.vm.findClass own = some m.cls) (hk : Cond.fieldLink own index C n d ∈ tb) (hS : KS X s) (hdg : decode cc pc = .ok (.getstatic index, 3))
    (kk : W p l e R s m args below meth c H locs cells slots Q (F0 m (pc + 3) ls (v :: rest))) : W p l e R s m args below meth c H locs cells slots Q (F0 m pc ls rest) := by
  obtain ⟨cf, kf, fi, f, a, cell, h1, h2, h3, h4, h5, h6, h7, h8⟩ := hZ
  exact W.gets hx hb hown (hS.1 _ hk _) h1 h2 h3 h4 (by rw [hH.2.2.1 a (Nat.not_le.mp h8)]; exact h5) (fun e => by rw [e] at h6; cases h6) h7 rfl hdg kk
end HPG
theorem KS.k0 {X : hp_X} {s : State} (h : KS X s) : va_Z RX5 "BAD" "LTagField$Kind;" (.ref (X.2.2.2 0)) (hp_A X) s X.2.1 := (h.2.2.1.1 0 (by decide)).1
theorem KS.k1 {X : hp_X} {s : State} (h : KS X s) : va_Z RX5 "REQUEST" "LTagField$Kind;" (.ref (X.2.2.2 1)) (hp_A X) s X.2.1 := (h.2.2.1.1 1 (by decide)).1
theorem KS.k2 {X : hp_X} {s : State} (h : KS X s) : va_Z RX5 "WAKE" "LTagField$Kind;" (.ref (X.2.2.2 2)) (hp_A X) s X.2.1 := (h.2.2.1.1 2 (by decide)).1
theorem KS.k3 {X : hp_X} {s : State} (h : KS X s) : va_Z RX5 "SEARCH" "LTagField$Kind;" (.ref (X.2.2.2 3)) (hp_A X) s X.2.1 := (h.2.2.1.1 3 (by decide)).1
theorem KS.k4 {X : hp_X} {s : State} (h : KS X s) : va_Z RX5 "CHOOSE" "LTagField$Kind;" (.ref (X.2.2.2 4)) (hp_A X) s X.2.1 := (h.2.2.1.1 4 (by decide)).1
theorem KS.k5 {X : hp_X} {s : State} (h : KS X s) : va_Z RX5 "HALT" "LTagField$Kind;" (.ref (X.2.2.2 5)) (hp_A X) s X.2.1 := (h.2.2.1.1 5 (by decide)).1
theorem KS.k6 {X : hp_X} {s : State} (h : KS X s) : va_Z RX5 "ACTIVATE" "LTagField$Kind;" (.ref (X.2.2.2 6)) (hp_A X) s X.2.1 := (h.2.2.1.1 6 (by decide)).1
theorem KS.k7 {X : hp_X} {s : State} (h : KS X s) : va_Z RX5 "RELEASE" "LTagField$Kind;" (.ref (X.2.2.2 7)) (hp_A X) s X.2.1 := (h.2.2.1.1 7 (by decide)).1
theorem KS.r0 {X : hp_X} {s : State} (h : KS X s) : va_Z RX7 "NOTHING" "LTagField$Reply;" (.ref (X.2.2.2 8)) (hp_A X) s X.2.1 := (h.2.2.2.1.1 0 (by decide)).1
theorem KS.r1 {X : hp_X} {s : State} (h : KS X s) : va_Z RX7 "A" "LTagField$Reply;" (.ref (X.2.2.2 9)) (hp_A X) s X.2.1 := (h.2.2.2.1.1 1 (by decide)).1
theorem KS.r2 {X : hp_X} {s : State} (h : KS X s) : va_Z RX7 "REST" "LTagField$Reply;" (.ref (X.2.2.2 10)) (hp_A X) s X.2.1 := (h.2.2.2.1.1 2 (by decide)).1
theorem KS.r3 {X : hp_X} {s : State} (h : KS X s) : va_Z RX7 "B_MORE" "LTagField$Reply;" (.ref (X.2.2.2 11)) (hp_A X) s X.2.1 := (h.2.2.2.1.1 3 (by decide)).1
theorem KS.r4 {X : hp_X} {s : State} (h : KS X s) : va_Z RX7 "B_LAST" "LTagField$Reply;" (.ref (X.2.2.2 12)) (hp_A X) s X.2.1 := (h.2.2.2.1.1 4 (by decide)).1
theorem KS.r5 {X : hp_X} {s : State} (h : KS X s) : va_Z RX7 "C" "LTagField$Reply;" (.ref (X.2.2.2 13)) (hp_A X) s X.2.1 := (h.2.2.2.1.1 5 (by decide)).1
theorem KS.r6 {X : hp_X} {s : State} (h : KS X s) : va_Z RX7 "D" "LTagField$Reply;" (.ref (X.2.2.2 14)) (hp_A X) s X.2.1 := (h.2.2.2.1.1 6 (by decide)).1
theorem KS.sw {X : hp_X} {s : State} (h : KS X s) : va_Z RX0 "$SwitchMap$TagField$Reply" "[I" (.ref (X.2.2.2 15)) (hp_A X) s X.2.1 := h.2.2.2.2.1
theorem KS.em {X : hp_X} {s : State} (h : KS X s) : va_Z RJx4a65c "DEFAULTCAPACITY_EMPTY_ELEMENTDATA" "[Ljava/lang/Object;" (.ref (X.2.2.2 16)) (hp_A X) s X.2.1 := h.2.2.2.2.2.2.1
theorem KS.ki {X : hp_X} {s : State} (h : KS X s) {i j : Nat} (hi : i < 8) (hj : j < 8) (e : X.2.2.2 i = X.2.2.2 j) : i = j := h.2.2.1.2 i j hi hj e
theorem G_Jx4a65c_39 : Cond.fieldLink RJx4a65c 39 RJx4a65c "DEFAULTCAPACITY_EMPTY_ELEMENTDATA" "[Ljava/lang/Object;" ∈ tb := tb_of (List.mem_of_getElem? (i := 124) rfl) rfl
theorem G_X4_9 : Cond.fieldLink RX4 9 RX5 "BAD" "LTagField$Kind;" ∈ tb := tb_of (List.mem_of_getElem? (i := 144) rfl) rfl
set_option maxRecDepth 20000 in
theorem G_X4_65 : Cond.fieldLink RX4 65 RX5 "REQUEST" "LTagField$Kind;" ∈ tb := tb_of (List.mem_of_getElem? (i := 476) rfl) rfl
set_option maxRecDepth 20000 in
theorem G_X4_68 : Cond.fieldLink RX4 68 RX5 "WAKE" "LTagField$Kind;" ∈ tb := tb_of (List.mem_of_getElem? (i := 478) rfl) rfl
set_option maxRecDepth 20000 in
theorem G_X4_48 : Cond.fieldLink RX4 48 RX5 "SEARCH" "LTagField$Kind;" ∈ tb := tb_of (List.mem_of_getElem? (i := 481) rfl) rfl
set_option maxRecDepth 20000 in
theorem G_X4_58 : Cond.fieldLink RX4 58 RX5 "CHOOSE" "LTagField$Kind;" ∈ tb := tb_of (List.mem_of_getElem? (i := 488) rfl) rfl
set_option maxRecDepth 20000 in
theorem G_X4_71 : Cond.fieldLink RX4 71 RX5 "HALT" "LTagField$Kind;" ∈ tb := tb_of (List.mem_of_getElem? (i := 494) rfl) rfl
set_option maxRecDepth 20000 in
theorem G_X4_74 : Cond.fieldLink RX4 74 RX5 "ACTIVATE" "LTagField$Kind;" ∈ tb := tb_of (List.mem_of_getElem? (i := 496) rfl) rfl
set_option maxRecDepth 20000 in
theorem G_X4_77 : Cond.fieldLink RX4 77 RX5 "RELEASE" "LTagField$Kind;" ∈ tb := tb_of (List.mem_of_getElem? (i := 498) rfl) rfl
set_option maxRecDepth 20000 in
theorem G_X9_51 : Cond.fieldLink RX9 51 RX5 "REQUEST" "LTagField$Kind;" ∈ tb := tb_of (List.mem_of_getElem? (i := 504) rfl) rfl
set_option maxRecDepth 20000 in
theorem G_X9_56 : Cond.fieldLink RX9 56 RX5 "WAKE" "LTagField$Kind;" ∈ tb := tb_of (List.mem_of_getElem? (i := 505) rfl) rfl
set_option maxRecDepth 20000 in
theorem G_X9_86 : Cond.fieldLink RX9 86 RX7 "A" "LTagField$Reply;" ∈ tb := tb_of (List.mem_of_getElem? (i := 510) rfl) rfl
set_option maxRecDepth 20000 in
theorem G_X9_63 : Cond.fieldLink RX9 63 RX7 "NOTHING" "LTagField$Reply;" ∈ tb := tb_of (List.mem_of_getElem? (i := 516) rfl) rfl
set_option maxRecDepth 20000 in
theorem G_X9_90 : Cond.fieldLink RX9 90 RX5 "SEARCH" "LTagField$Kind;" ∈ tb := tb_of (List.mem_of_getElem? (i := 522) rfl) rfl
set_option maxRecDepth 20000 in
theorem G_X9_97 : Cond.fieldLink RX9 97 RX7 "REST" "LTagField$Reply;" ∈ tb := tb_of (List.mem_of_getElem? (i := 527) rfl) rfl
set_option maxRecDepth 20000 in
theorem G_X9_100 : Cond.fieldLink RX9 100 RX5 "CHOOSE" "LTagField$Kind;" ∈ tb := tb_of (List.mem_of_getElem? (i := 529) rfl) rfl
set_option maxRecDepth 20000 in
theorem G_X9_117 : Cond.fieldLink RX9 117 RX7 "B_MORE" "LTagField$Reply;" ∈ tb := tb_of (List.mem_of_getElem? (i := 534) rfl) rfl
set_option maxRecDepth 20000 in
theorem G_X9_120 : Cond.fieldLink RX9 120 RX7 "B_LAST" "LTagField$Reply;" ∈ tb := tb_of (List.mem_of_getElem? (i := 536) rfl) rfl
set_option maxRecDepth 20000 in
theorem G_X9_123 : Cond.fieldLink RX9 123 RX5 "HALT" "LTagField$Kind;" ∈ tb := tb_of (List.mem_of_getElem? (i := 546) rfl) rfl
set_option maxRecDepth 20000 in
theorem G_X9_126 : Cond.fieldLink RX9 126 RX5 "ACTIVATE" "LTagField$Kind;" ∈ tb := tb_of (List.mem_of_getElem? (i := 547) rfl) rfl
set_option maxRecDepth 20000 in
theorem G_X9_129 : Cond.fieldLink RX9 129 RX7 "C" "LTagField$Reply;" ∈ tb := tb_of (List.mem_of_getElem? (i := 548) rfl) rfl
set_option maxRecDepth 20000 in
theorem G_X9_76 : Cond.fieldLink RX9 76 RX5 "RELEASE" "LTagField$Kind;" ∈ tb := tb_of (List.mem_of_getElem? (i := 550) rfl) rfl
set_option maxRecDepth 20000 in
theorem G_X9_79 : Cond.fieldLink RX9 79 RX7 "D" "LTagField$Reply;" ∈ tb := tb_of (List.mem_of_getElem? (i := 551) rfl) rfl
set_option maxRecDepth 20000 in
theorem G_X9_132 : Cond.fieldLink RX9 132 RX0 "$SwitchMap$TagField$Reply" "[I" ∈ tb := tb_of (List.mem_of_getElem? (i := 557) rfl) rfl
