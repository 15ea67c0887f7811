/-! THE CLAIM OUT OF ONE WALK OF THE LAW'S BODY. Your part is whole_start (and what it stands on); all else here is the same for every law, but numbers. -/
def R_law : String := "TagFieldLaw"
def lw_P (b : Addr) (xs : List Int32) (args : Array Value) (s : State) : Prop := args = #[.ref b] ∧ s.IntsAt b xs ∧ xs.length ≤ 2560 ∧ (Jvm.Cond.and given_1 narrow_1).before args s = true
def lw_Q (_ : Array Value) (s : State) (o : Outcome) (t : State) : Prop := o = .returned (some (.int 1)) ∧ Framed s o t [] 600000 7302250
def lw_Z (below : List Frame) (a : Array Value) (s : State) : State → Prop := fun t => ∃ o, t.status = .running ∧ Ended t below o ∧ lw_Q a s o t
/-- the law's own end, with 1 on the stack, nothing written that was there before, its room as the claim has it -/
theorem lw_ret {p : Program} {l : Launch} {e : Env} {s : State} {m : MethodId} {below : List Frame} {meth : Method} {c : Code} {b : Nat} (hx : p.tables.exec = Jvm.exec) (hb : c.code = code) (hr : meth.sig.returnType = ret) (hlocks : meth.locks = false) {pc : Nat} {H : Heap} {ls : Array Slot} (hdg : decode code pc = .ok (.ireturn, 1)) : W p l e room_1 s m #[Value.ref b] below meth c H [] 600000 7302250 (lw_Z below #[Value.ref b] s) (F0 m pc ls [.int 1]) := by
  intro T hT X
  obtain ⟨fs, hret, hrun, hended, hW, hframe⟩ := X.leave (v := some (.int 1)) (hlocks := hlocks) (fun h => by rw [hr] at h; cases h)
  have hmeth' : T.vm.method? m = some meth := X.method'
  refine ⟨T.setFrames fs, ?_, .returned (some (.int 1)), hrun, hended, rfl, ⟨_, rfl⟩, hW, hframe⟩
  jvm_step X.here [X.here.top, hx, hb, hdg, hmeth', hr, ret, narrow_b1]
  (try refine ⟨rfl, ?_⟩); (try refine ⟨rfl, ?_⟩)
  first | (intro acts; rw [hret _ acts rfl rfl rfl]) | rw [hret _ _ rfl rfl rfl]
  exact Steps.refl _
/-- what holds at the law's entry: the machine, the code, the tables' words (any of lw_tbl by 'hts w (by decide +kernel)'), the script of L ints xs at the cell b, what the Statement gives of the start (any of its parts by flat_of_before) -/
def lw_At (p : Program) (s : State) (m : MethodId) (meth : Method) (c : Code) (b L : Nat) (xs : Nat → Int32) : Prop :=
  p.tables.exec = Jvm.exec ∧ c.code = code ∧ meth.sig.returnType = ret ∧ c.maxLocals = 4 ∧ s.vm.findClass R_law = some m.cls ∧ (∀ w ∈ lw_tbl, w.before #[Value.ref b] s = true) ∧ va_X b L xs s s.heap ∧ b < s.heap.size ∧ meth.locks = false ∧ (Jvm.Cond.and given_1 narrow_1).before #[Value.ref b] s = true
/-! what holds at the start -/
set_option maxRecDepth 40000 in
set_option maxRecDepth 40000 in
theorem st_lK0 : Cond.laysStatic "TagField$Kind" "BAD" "LTagField$Kind;" ∈ lw_tbl := List.mem_of_getElem? (i := 145) rfl
set_option maxRecDepth 40000 in
theorem st_lK1 : Cond.laysStatic "TagField$Kind" "REQUEST" "LTagField$Kind;" ∈ lw_tbl := List.mem_of_getElem? (i := 477) rfl
set_option maxRecDepth 40000 in
theorem st_lK2 : Cond.laysStatic "TagField$Kind" "WAKE" "LTagField$Kind;" ∈ lw_tbl := List.mem_of_getElem? (i := 479) rfl
set_option maxRecDepth 40000 in
theorem st_lK3 : Cond.laysStatic "TagField$Kind" "SEARCH" "LTagField$Kind;" ∈ lw_tbl := List.mem_of_getElem? (i := 482) rfl
set_option maxRecDepth 40000 in
theorem st_lK4 : Cond.laysStatic "TagField$Kind" "CHOOSE" "LTagField$Kind;" ∈ lw_tbl := List.mem_of_getElem? (i := 489) rfl
set_option maxRecDepth 40000 in
theorem st_lK5 : Cond.laysStatic "TagField$Kind" "HALT" "LTagField$Kind;" ∈ lw_tbl := List.mem_of_getElem? (i := 495) rfl
set_option maxRecDepth 40000 in
theorem st_lK6 : Cond.laysStatic "TagField$Kind" "ACTIVATE" "LTagField$Kind;" ∈ lw_tbl := List.mem_of_getElem? (i := 497) rfl
set_option maxRecDepth 40000 in
theorem st_lK7 : Cond.laysStatic "TagField$Kind" "RELEASE" "LTagField$Kind;" ∈ lw_tbl := List.mem_of_getElem? (i := 499) rfl
set_option maxRecDepth 40000 in
theorem st_iK : Cond.initialized "TagField$Kind" ∈ lw_tbl := List.mem_of_getElem? (i := 50) rfl
set_option maxRecDepth 40000 in
theorem st_lR0 : Cond.laysStatic "TagField$Reply" "NOTHING" "LTagField$Reply;" ∈ lw_tbl := List.mem_of_getElem? (i := 517) rfl
set_option maxRecDepth 40000 in
theorem st_lR1 : Cond.laysStatic "TagField$Reply" "A" "LTagField$Reply;" ∈ lw_tbl := List.mem_of_getElem? (i := 511) rfl
set_option maxRecDepth 40000 in
theorem st_lR2 : Cond.laysStatic "TagField$Reply" "REST" "LTagField$Reply;" ∈ lw_tbl := List.mem_of_getElem? (i := 528) rfl
set_option maxRecDepth 40000 in
theorem st_lR3 : Cond.laysStatic "TagField$Reply" "B_MORE" "LTagField$Reply;" ∈ lw_tbl := List.mem_of_getElem? (i := 535) rfl
set_option maxRecDepth 40000 in
theorem st_lR4 : Cond.laysStatic "TagField$Reply" "B_LAST" "LTagField$Reply;" ∈ lw_tbl := List.mem_of_getElem? (i := 537) rfl
set_option maxRecDepth 40000 in
theorem st_lR5 : Cond.laysStatic "TagField$Reply" "C" "LTagField$Reply;" ∈ lw_tbl := List.mem_of_getElem? (i := 549) rfl
set_option maxRecDepth 40000 in
theorem st_lR6 : Cond.laysStatic "TagField$Reply" "D" "LTagField$Reply;" ∈ lw_tbl := List.mem_of_getElem? (i := 552) rfl
set_option maxRecDepth 40000 in
theorem st_iR : Cond.initialized "TagField$Reply" ∈ lw_tbl := List.mem_of_getElem? (i := 63) rfl
set_option maxRecDepth 40000 in
theorem st_lS : Cond.laysStatic "TagField$1" "$SwitchMap$TagField$Reply" "[I" ∈ lw_tbl := List.mem_of_getElem? (i := 558) rfl
set_option maxRecDepth 40000 in
theorem st_iS : Cond.initialized "TagField$1" ∈ lw_tbl := List.mem_of_getElem? (i := 64) rfl
set_option maxRecDepth 40000 in
theorem st_lE : Cond.laysStatic "java/util/ArrayList" "DEFAULTCAPACITY_EMPTY_ELEMENTDATA" "[Ljava/lang/Object;" ∈ lw_tbl := List.mem_of_getElem? (i := 125) rfl
set_option maxRecDepth 40000 in
theorem st_iE : Cond.initialized "java/util/ArrayList" ∈ lw_tbl := List.mem_of_getElem? (i := 47) rfl
set_option maxRecDepth 40000 in
theorem st_a_int : Cond.arrayClass .int ∈ lw_tbl := List.mem_of_getElem? (i := 88) rfl
set_option maxRecDepth 40000 in
theorem st_a_long : Cond.arrayClass .long ∈ lw_tbl := List.mem_of_getElem? (i := 261) rfl
set_option maxRecDepth 40000 in
theorem st_a_boolean : Cond.arrayClass .boolean ∈ lw_tbl := List.mem_of_getElem? (i := 762) rfl
set_option maxRecDepth 40000 in
theorem st_a_object : Cond.arrayOver (.object "java/lang/Object") ∈ lw_tbl := List.mem_of_getElem? (i := 353) rfl
abbrev NC : List Cond := flatC (Jvm.Cond.and given_1 narrow_1)
theorem st_arr {ty : FieldType} {args : Array Value} {s : State} (h : (Cond.arrayClass ty).before args s = true) : ∃ cA : ClassId, ArrOfT s cA ty ∧ s.vm.findClass ("[" ++ ty.toString) = some cA := by
  obtain ⟨c, k, comp, h1, h2, h3⟩ := Cond.arrayClass_spec h
  exact ⟨c, fun n z => ⟨fun k h => (by cases h), k, h2, comp, h3⟩, h1⟩
theorem st_arO {C : String} {args : Array Value} {s : State} (h : (Cond.arrayOver (.object C)).before args s = true) : ∃ cA : ClassId, ArrOfT s cA (.object C) ∧ va_RA s cA (.object C) := by
  obtain ⟨comp, c, k, h1, h2, h3, h4, h5⟩ := Cond.arrayOver_spec h
  exact ⟨c, fun n z => ⟨fun k h => (by cases h), k, h3, comp, h4⟩, k, comp, h3, h4, h1, h5⟩
theorem st_int {t : Term} {v : Int32} {args : Array Value} {s : State} (h : (Cond.eq t (.int v)).before args s = true) : t.eval args s none [] s = some (.int v) := by
  simp only [Cond.before, Cond.holds, Cond.value] at h
  cases ht : t.eval args s none [] s with
  | none => simp [ht, Term.eval] at h
  | some w =>
    cases w with
    | int x => simp [ht, Term.eval] at h; rw [h]
    | _ => simp [ht, Term.eval] at h
set_option maxRecDepth 40000 in
theorem st_exK : ∀ i, i < 8 → Cond.exactly (.static "TagField$Kind" (nmK.getD i "") "LTagField$Kind;") "TagField$Kind" ∈ NC := by decide +kernel
set_option maxRecDepth 40000 in
theorem st_neK : ∀ i, i < 8 → ∀ j, j < 8 → i ≠ j → Cond.not (.eq (.static "TagField$Kind" (nmK.getD i "") "LTagField$Kind;") (.static "TagField$Kind" (nmK.getD j "") "LTagField$Kind;")) ∈ NC ∨ Cond.not (.eq (.static "TagField$Kind" (nmK.getD j "") "LTagField$Kind;") (.static "TagField$Kind" (nmK.getD i "") "LTagField$Kind;")) ∈ NC := by decide +kernel
set_option maxRecDepth 40000 in
theorem st_exR : ∀ i, i < 7 → Cond.exactly (.static "TagField$Reply" (nmR.getD i "") "LTagField$Reply;") "TagField$Reply" ∈ NC := by decide +kernel
set_option maxRecDepth 40000 in
theorem st_fdR : ∀ i, i < 7 → Cond.eq (.field (.static "TagField$Reply" (nmR.getD i "") "LTagField$Reply;") "java/lang/Enum" "ordinal" "I") (.int (([0, 1, 2, 3, 4, 5, 6] : List Int32).getD i 0)) ∈ NC := by decide +kernel
set_option maxRecDepth 40000 in
theorem st_neR : ∀ i, i < 7 → ∀ j, j < 7 → i ≠ j → Cond.not (.eq (.static "TagField$Reply" (nmR.getD i "") "LTagField$Reply;") (.static "TagField$Reply" (nmR.getD j "") "LTagField$Reply;")) ∈ NC ∨ Cond.not (.eq (.static "TagField$Reply" (nmR.getD j "") "LTagField$Reply;") (.static "TagField$Reply" (nmR.getD i "") "LTagField$Reply;")) ∈ NC := by decide +kernel
set_option maxRecDepth 40000 in
theorem st_sw : ∀ j, j < 7 → Cond.eq (.elem (.static "TagField$1" "$SwitchMap$TagField$Reply" "[I") (.int (Int32.ofNat j))) (.int (nI j)) ∈ NC := by decide +kernel
set_option maxRecDepth 40000 in
theorem st_rest : Cond.arrayOf (.static "TagField$1" "$SwitchMap$TagField$Reply" "[I") .int ∈ NC ∧ Cond.eq (.length (.static "TagField$1" "$SwitchMap$TagField$Reply" "[I")) (.int 7) ∈ NC ∧ Cond.arrayOf (.static "java/util/ArrayList" "DEFAULTCAPACITY_EMPTY_ELEMENTDATA" "[Ljava/lang/Object;") (.object "java/lang/Object") ∈ NC ∧ Cond.eq (.length (.static "java/util/ArrayList" "DEFAULTCAPACITY_EMPTY_ELEMENTDATA" "[Ljava/lang/Object;")) (.int 0) ∈ NC ∧ Cond.isRef (.mirror "[Ljava/lang/Object;") ∈ NC := by decide +kernel
set_option maxHeartbeats 4000000 in
set_option maxRecDepth 40000 in
/-- the constants of the start, and the words, as one -/
theorem st_KS {s : State} {b : Nat} (hts : ∀ w ∈ lw_tbl, w.before #[Value.ref b] s = true) (hgv : (Jvm.Cond.and given_1 narrow_1).before #[Value.ref b] s = true) : ∃ X : hp_X, X.2.1 = s.heap ∧ KS X s := by
  have hs := flat_of_before _ hgv
  have hA : ∀ a : Nat, a < s.heap.size → ¬ (fun q : Nat => s.heap.size ≤ q) a := fun a h => Nat.not_le.mpr h
  have hkn : ∀ k : Nat, ∃ (cC : ClassId) (iS : Nat → Nat), ∀ q : vw_C, cls[k]? = some q → u_Kn s q.1 q.2.1 q.2.2 cC iS := by
    intro k
    match k with
    | 0 =>
      obtain ⟨cC, iS, h⟩ := u_known (C := RX1) (T := TX1) (N := 4) (ws := tb) (fun w hw => hts w (List.mem_filter.mp hw).1) lay_X1 (hts _ (List.mem_filter.mp NI_X1.1).1)
      exact ⟨cC, iS, fun q hq => by cases hq; exact h⟩
    | 1 =>
      obtain ⟨cC, iS, h⟩ := u_known (C := RX2) (T := TX2) (N := 3) (ws := tb) (fun w hw => hts w (List.mem_filter.mp hw).1) lay_X2 (hts _ (List.mem_filter.mp NI_X2.1).1)
      exact ⟨cC, iS, fun q hq => by cases hq; exact h⟩
    | 2 =>
      obtain ⟨cC, iS, h⟩ := u_known (C := RX4) (T := TX4) (N := 5) (ws := tb) (fun w hw => hts w (List.mem_filter.mp hw).1) lay_X4 (hts _ (List.mem_filter.mp NI_X4.1).1)
      exact ⟨cC, iS, fun q hq => by cases hq; exact h⟩
    | 3 =>
      obtain ⟨cC, iS, h⟩ := u_known (C := RX6) (T := TX6) (N := 7) (ws := tb) (fun w hw => hts w (List.mem_filter.mp hw).1) lay_X6 (hts _ (List.mem_filter.mp NI_X6.1).1)
      exact ⟨cC, iS, fun q hq => by cases hq; exact h⟩
    | 4 =>
      obtain ⟨cC, iS, h⟩ := u_known (C := RX8) (T := TX8) (N := 2) (ws := tb) (fun w hw => hts w (List.mem_filter.mp hw).1) lay_X8 (hts _ (List.mem_filter.mp NI_X8.1).1)
      exact ⟨cC, iS, fun q hq => by cases hq; exact h⟩
    | 5 =>
      obtain ⟨cC, iS, h⟩ := u_known (C := RX9) (T := TX9) (N := 5) (ws := tb) (fun w hw => hts w (List.mem_filter.mp hw).1) lay_X9 (hts _ (List.mem_filter.mp NI_X9.1).1)
      exact ⟨cC, iS, fun q hq => by cases hq; exact h⟩
    | 6 =>
      obtain ⟨cC, iS, h⟩ := u_known (C := RX10) (T := TX10) (N := 4) (ws := tb) (fun w hw => hts w (List.mem_filter.mp hw).1) lay_X10 (hts _ (List.mem_filter.mp NI_X10.1).1)
      exact ⟨cC, iS, fun q hq => by cases hq; exact h⟩
    | 7 =>
      obtain ⟨cC, iS, h⟩ := u_known (C := RX11) (T := TX11) (N := 29) (ws := tb) (fun w hw => hts w (List.mem_filter.mp hw).1) lay_X11 (hts _ (List.mem_filter.mp NI_X11.1).1)
      exact ⟨cC, iS, fun q hq => by cases hq; exact h⟩
    | 8 =>
      obtain ⟨cC, iS, h⟩ := u_known (C := RJx4a65c) (T := TJx4a65c) (N := 3) (ws := tb) (fun w hw => hts w (List.mem_filter.mp hw).1) lay_Jx4a65c (hts _ (List.mem_filter.mp NI_Jx4a65c.1).1)
      exact ⟨cC, iS, fun q hq => by cases hq; exact h⟩
    | k + 9 => exact ⟨0, fun _ => 0, fun q hq => by simp [cls] at hq⟩
  obtain ⟨dC, hd⟩ := Classical.axiomOfChoice hkn
  obtain ⟨dI, hd⟩ := Classical.axiomOfChoice hd
  obtain ⟨c0, a0, n0⟩ := st_arr (hts _ st_a_int)
  obtain ⟨c1, a1, n1⟩ := st_arr (hts _ st_a_long)
  obtain ⟨c2, a2, n2⟩ := st_arO (hts _ st_a_object)
  obtain ⟨c3, a3, n3⟩ := st_arr (hts _ st_a_boolean)
  obtain ⟨adK, hK⟩ := va_Enof (E := RX5) (d := "LTagField$Kind;") (nm := nmK) (F := []) (A := fun q : Nat => s.heap.size ≤ q) (s := s) (args := #[Value.ref b]) (fun i hi => by
    match i, hi with
    | 0, _ => exact hts _ st_lK0
    | 1, _ => exact hts _ st_lK1
    | 2, _ => exact hts _ st_lK2
    | 3, _ => exact hts _ st_lK3
    | 4, _ => exact hts _ st_lK4
    | 5, _ => exact hts _ st_lK5
    | 6, _ => exact hts _ st_lK6
    | 7, _ => exact hts _ st_lK7
    | i + 8, hi => exact absurd hi (by simp [nmK])) (hts _ st_iK) (fun i hi => hs _ (st_exK i hi)) (fun q hq => by cases hq) (fun i j hi hj hij => (st_neK i hi j hj hij).imp (hs _) (hs _)) hA
  obtain ⟨adR, hR⟩ := va_Enof (E := RX7) (d := "LTagField$Reply;") (nm := nmR) (F := fdR) (A := fun q : Nat => s.heap.size ≤ q) (s := s) (args := #[Value.ref b]) (fun i hi => by
    match i, hi with
    | 0, _ => exact hts _ st_lR0
    | 1, _ => exact hts _ st_lR1
    | 2, _ => exact hts _ st_lR2
    | 3, _ => exact hts _ st_lR3
    | 4, _ => exact hts _ st_lR4
    | 5, _ => exact hts _ st_lR5
    | 6, _ => exact hts _ st_lR6
    | i + 7, hi => exact absurd hi (by simp [nmR])) (hts _ st_iR) (fun i hi => hs _ (st_exR i hi)) (fun q hq i hi => by
      rw [List.mem_singleton.mp hq]
      exact hs _ (st_fdR i hi)) (fun i j hi hj hij => (st_neR i hi j hj hij).imp (hs _) (hs _)) hA
  obtain ⟨tS, eS, hT⟩ := va_Tof (ty := .int) (N := 7) (f := fun j => .int (nI j)) (A := fun q : Nat => s.heap.size ≤ q) (by decide) (hs _ st_rest.1) (st_int (hs _ st_rest.2.1)) (fun j hj => st_int (hs _ (st_sw j hj))) hA
  obtain ⟨tE, eE, hE⟩ := va_Tof (ty := .object "java/lang/Object") (N := 0) (f := fun _ => .null) (A := fun q : Nat => s.heap.size ≤ q) (by decide) (hs _ st_rest.2.2.1) (st_int (hs _ st_rest.2.2.2.1)) (fun j hj => absurd hj (Nat.not_lt_zero _)) hA
  obtain ⟨mi, hM⟩ := va_Mi.of (hs _ st_rest.2.2.2.2)
  have hZS := va_Zof (A := fun q : Nat => s.heap.size ≤ q) (hts _ st_lS) (hts _ st_iS) eS hA
  have hZE := va_Zof (A := fun q : Nat => s.heap.size ≤ q) (hts _ st_lE) (hts _ st_iE) eE hA
  refine ⟨((fun k => dC k, fun k => dI k), s.heap, (fun k => if k = 0 then c0 else if k = 1 then c1 else if k = 2 then c2 else c3), fun k => if k < 8 then adK k else if k < 15 then adR (k - 8) else if k = 15 then tS else if k = 16 then tE else mi), rfl, kw.of hts, ⟨fun k q hq => hd k q hq, ?_⟩, ?_, ?_, hZS, hT, hZE, hE, hM⟩
  · intro k q hq
    match k, hq with
    | 0, hq => cases hq; exact ⟨a0, n0⟩
    | 1, hq => cases hq; exact ⟨a1, n1⟩
    | 2, hq => cases hq; exact ⟨a2, n2⟩
    | 3, hq => cases hq; exact ⟨a3, n3⟩
    | k + 4, hq => simp at hq
  · refine ⟨fun i hi => ?_, fun i j hi hj hij => ?_⟩
    · have h8 : i < 8 := hi
      simp only [if_pos h8]
      exact hK.1 i hi
    · have h8 : i < 8 := hi
      have h9 : j < 8 := hj
      simp only [if_pos h8, if_pos h9] at hij
      exact hK.2 i j hi hj hij
  · refine ⟨fun i hi => ?_, fun i j hi hj hij => ?_⟩
    · have h8 : i < 7 := hi
      simp only [if_neg (show ¬ 8 + i < 8 by omega), if_pos (show 8 + i < 15 by omega), Nat.add_sub_cancel_left]
      exact hR.1 i hi
    · have h8 : i < 7 := hi
      have h9 : j < 7 := hj
      simp only [if_neg (show ¬ 8 + i < 8 by omega), if_pos (show 8 + i < 15 by omega), if_neg (show ¬ 8 + j < 8 by omega), if_pos (show 8 + j < 15 by omega), Nat.add_sub_cancel_left] at hij
      exact hR.2 i j hi hj hij
