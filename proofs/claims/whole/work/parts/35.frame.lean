set_option maxHeartbeats 4000000 in
set_option maxRecDepth 100000 in
theorem c_X4_levelByte (l : Launch) (X : hp_X) {μ : hp_M} {nx : Nat} {v : Nat}  : Ct l X yX4_levelByte cX4_levelByte 1 (some FieldType.int) 0 0 0 0 [.int (nI v)] μ nx (hq_i X (po_i nx (nI (145 + 2 * v)) (fun z => z = μ))) := by
  refine hp_met (by decide) (Nat.le_of_ble_eq_true rfl) ?_
  intro p e s m below meth c ls hx hb hml hr hlocks hown hin hS hH hl
  have hl : lv_has ls 1 [(0, .int (nI v))] := hl
  refine lv_sipush (v := nI 145) hx hb dX4_levelByte_0 (by decide) ?_
  refine lv_iconst (v := nI 2) hx hb dX4_levelByte_3 (by decide) ?_
  refine lv_iload_n hx hb dX4_levelByte_4 rfl (lv_at hl 0 rfl) ?_
  refine lv_imul hx hb dX4_levelByte_5 ?_
  refine hp_eqi (z := nI (2 * v)) (pk_mul _ _) ?_
  refine lv_iadd hx hb dX4_levelByte_6 ?_
  refine hp_eqi (z := nI (145 + (2 * v))) (nI_add _ _) ?_
  exact hp_ri hx hb hr hlocks hS hH (⟨rfl, rfl, rfl⟩) dX4_levelByte_7

set_option maxHeartbeats 4000000 in
set_option maxRecDepth 100000 in
theorem c_X4_levelOf (l : Launch) (X : hp_X) {μ : hp_M} {nx : Nat} {v : Nat} (hv : v < 2 ^ 30)  : Ct l X yX4_levelOf cX4_levelOf 2 (some FieldType.int) 1 40 0 0 [.int (nI v)] μ nx (hq_i X (po_i nx (nI (lvOf v)) (fun z => z = μ))) := by
  refine hp_met (by decide) (Nat.le_of_ble_eq_true rfl) ?_
  intro p e s m below meth c ls hx hb hml hr hlocks hown hin hS hH hl
  have hl : lv_has ls 2 [(0, .int (nI v))] := hl
  refine lv_iconst (v := nI 1) hx hb dX4_levelOf_0 (by decide) ?_
  refine lv_istore_n (lv' := [(1, .int (nI 1)), (0, .int (nI v))]) hx hb dX4_levelOf_1 rfl hl (by decide) rfl (fun ls hl => ?_)
  refine lv_iload_n hx hb dX4_levelOf_2 rfl (lv_at hl 0 rfl) ?_
  refine lv_iconst (v := nI 3) hx hb dX4_levelOf_3 (by decide) ?_
  refine lv_icmp_gt (tgt := 23) hx hb dX4_levelOf_4 (by decide) (fun c_4 => ?_) (fun c_4 => ?_)
  · exact absurd c_4 (by decide)
  · have c_4 : ¬ (3 < 1) := fun z => c_4 ((nI_ltI (by omega) (by omega)).mpr z)
    refine lv_iload_n hx hb dX4_levelOf_7 rfl (lv_at hl 1 rfl) ?_
    refine lv_iload_n hx hb dX4_levelOf_8 rfl (lv_at hl 0 rfl) ?_
    refine hp_kip (hp_runS (As := [.int (nI 1)]) (rest := [.int (nI v)]) hx hb hml hown hS hH (c_X4_levelByte l X (v := 1)) M_X4_87 S_X4_levelByte rfl hl.1 rfl (Nat.le_of_ble_eq_true rfl) dX4_levelOf_9 ⟨Nat.le_of_ble_eq_true rfl, Nat.le_of_ble_eq_true rfl⟩ ⟨Nat.le_of_ble_eq_true rfl, Nat.le_of_ble_eq_true rfl⟩) hH (fun H locs hH => ?_)
    refine hp_eqi (z := nI 147) rfl ?_
    refine lv_icmp_ne (tgt := 17) hx hb dX4_levelOf_12 (by decide) (fun c_12 => ?_) (fun c_12 => ?_)
    · have c_12 : ¬ (v = 147) := fun z => c_12 ((nI_eq (by omega) (by omega)).mpr z)
      have e1 := c_12
      refine lv_iinc (v := nI 2) (lv' := [(1, .int (nI 2)), (0, .int (nI v))]) hx hb dX4_levelOf_17 hl (k := 0) rfl (nI_add _ 1) (by decide) rfl (fun ls hl => ?_)
      refine lv_goto (tgt := 2) hx hb dX4_levelOf_20 (by decide) ?_
      refine lv_iload_n hx hb dX4_levelOf_2 rfl (lv_at hl 0 rfl) ?_
      refine lv_iconst (v := nI 3) hx hb dX4_levelOf_3 (by decide) ?_
      refine lv_icmp_gt (tgt := 23) hx hb dX4_levelOf_4 (by decide) (fun c_4 => ?_) (fun c_4 => ?_)
      · exact absurd c_4 (by decide)
      · have c_4 : ¬ (3 < 2) := fun z => c_4 ((nI_ltI (by omega) (by omega)).mpr z)
        refine lv_iload_n hx hb dX4_levelOf_7 rfl (lv_at hl 1 rfl) ?_
        refine lv_iload_n hx hb dX4_levelOf_8 rfl (lv_at hl 0 rfl) ?_
        refine hp_kip (hp_runS (As := [.int (nI 2)]) (rest := [.int (nI v)]) hx hb hml hown hS hH (c_X4_levelByte l X (v := 2)) M_X4_87 S_X4_levelByte rfl hl.1 rfl (Nat.le_of_ble_eq_true rfl) dX4_levelOf_9 ⟨Nat.le_of_ble_eq_true rfl, Nat.le_of_ble_eq_true rfl⟩ ⟨Nat.le_of_ble_eq_true rfl, Nat.le_of_ble_eq_true rfl⟩) hH (fun H locs hH => ?_)
        refine hp_eqi (z := nI 149) rfl ?_
        refine lv_icmp_ne (tgt := 17) hx hb dX4_levelOf_12 (by decide) (fun c_12 => ?_) (fun c_12 => ?_)
        · have c_12 : ¬ (v = 149) := fun z => c_12 ((nI_eq (by omega) (by omega)).mpr z)
          have e2 := c_12
          refine lv_iinc (v := nI 3) (lv' := [(1, .int (nI 3)), (0, .int (nI v))]) hx hb dX4_levelOf_17 hl (k := 0) rfl (nI_add _ 1) (by decide) rfl (fun ls hl => ?_)
          refine lv_goto (tgt := 2) hx hb dX4_levelOf_20 (by decide) ?_
          refine lv_iload_n hx hb dX4_levelOf_2 rfl (lv_at hl 0 rfl) ?_
          refine lv_iconst (v := nI 3) hx hb dX4_levelOf_3 (by decide) ?_
          refine lv_icmp_gt (tgt := 23) hx hb dX4_levelOf_4 (by decide) (fun c_4 => ?_) (fun c_4 => ?_)
          · exact absurd c_4 (by decide)
          · have c_4 : ¬ (3 < 3) := fun z => c_4 ((nI_ltI (by omega) (by omega)).mpr z)
            refine lv_iload_n hx hb dX4_levelOf_7 rfl (lv_at hl 1 rfl) ?_
            refine lv_iload_n hx hb dX4_levelOf_8 rfl (lv_at hl 0 rfl) ?_
            refine hp_kip (hp_runS (As := [.int (nI 3)]) (rest := [.int (nI v)]) hx hb hml hown hS hH (c_X4_levelByte l X (v := 3)) M_X4_87 S_X4_levelByte rfl hl.1 rfl (Nat.le_of_ble_eq_true rfl) dX4_levelOf_9 ⟨Nat.le_of_ble_eq_true rfl, Nat.le_of_ble_eq_true rfl⟩ ⟨Nat.le_of_ble_eq_true rfl, Nat.le_of_ble_eq_true rfl⟩) hH (fun H locs hH => ?_)
            refine hp_eqi (z := nI 151) rfl ?_
            refine lv_icmp_ne (tgt := 17) hx hb dX4_levelOf_12 (by decide) (fun c_12 => ?_) (fun c_12 => ?_)
            · have c_12 : ¬ (v = 151) := fun z => c_12 ((nI_eq (by omega) (by omega)).mpr z)
              have e3 := c_12
              refine lv_iinc (v := nI 4) (lv' := [(1, .int (nI 4)), (0, .int (nI v))]) hx hb dX4_levelOf_17 hl (k := 0) rfl (nI_add _ 1) (by decide) rfl (fun ls hl => ?_)
              refine lv_goto (tgt := 2) hx hb dX4_levelOf_20 (by decide) ?_
              refine lv_iload_n hx hb dX4_levelOf_2 rfl (lv_at hl 0 rfl) ?_
              refine lv_iconst (v := nI 3) hx hb dX4_levelOf_3 (by decide) ?_
              refine lv_icmp_gt (tgt := 23) hx hb dX4_levelOf_4 (by decide) (fun c_4 => ?_) (fun c_4 => ?_)
              · have c_4 : 3 < 4 := (nI_ltI (by omega) (by omega)).mp c_4
                refine lv_iconst (v := nI 0) hx hb dX4_levelOf_23 (by decide) ?_
                exact hp_ri hx hb hr hlocks hS hH (⟨rfl, congrArg nI (Eq.symm (by unfold lvOf; simp [e1, e2, e3])), rfl⟩) dX4_levelOf_24
              · exact absurd c_4 (by decide)
            · have c_12 : v = 151 := (nI_eq (by omega) (by omega)).mp c_12
              have e3 := c_12
              refine lv_iload_n hx hb dX4_levelOf_15 rfl (lv_at hl 0 rfl) ?_
              exact hp_ri hx hb hr hlocks hS hH (⟨rfl, congrArg nI (Eq.symm (by unfold lvOf; simp [e1, e2, e3])), rfl⟩) dX4_levelOf_16
        · have c_12 : v = 149 := (nI_eq (by omega) (by omega)).mp c_12
          have e2 := c_12
          refine lv_iload_n hx hb dX4_levelOf_15 rfl (lv_at hl 0 rfl) ?_
          exact hp_ri hx hb hr hlocks hS hH (⟨rfl, congrArg nI (Eq.symm (by unfold lvOf; simp [e1, e2])), rfl⟩) dX4_levelOf_16
    · have c_12 : v = 147 := (nI_eq (by omega) (by omega)).mp c_12
      have e1 := c_12
      refine lv_iload_n hx hb dX4_levelOf_15 rfl (lv_at hl 0 rfl) ?_
      exact hp_ri hx hb hr hlocks hS hH (⟨rfl, congrArg nI (Eq.symm (by unfold lvOf; simp [e1])), rfl⟩) dX4_levelOf_16

set_option maxHeartbeats 4000000 in
set_option maxRecDepth 100000 in
theorem c_X4_kindOfShort (l : Launch) (X : hp_X) {μ : hp_M} {nx : Nat} {v : Nat} (hv : v < 2 ^ 30)  : Ct l X yX4_kindOfShort cX4_kindOfShort 1 (some (FieldType.object "TagField$Kind")) 0 0 0 0 [.int (nI v)] μ nx (hq_r X (po_r nx (X.2.2.2 (kdS v)) (fun z => z = μ))) := by
  refine hp_met (by decide) (Nat.le_of_ble_eq_true rfl) ?_
  intro p e s m below meth c ls hx hb hml hr hlocks hown hin hS hH hl
  have hl : lv_has ls 1 [(0, .int (nI v))] := hl
  refine lv_iload_n hx hb dX4_kindOfShort_0 rfl (lv_at hl 0 rfl) ?_
  refine lv_bipush (v := nI 38) hx hb dX4_kindOfShort_1 (by decide) ?_
  refine lv_icmp_ne (tgt := 10) hx hb dX4_kindOfShort_3 (by decide) (fun c_3 => ?_) (fun c_3 => ?_)
  · have c_3 : ¬ (v = 38) := fun z => c_3 ((nI_eq (by omega) (by omega)).mpr z)
    refine lv_iload_n hx hb dX4_kindOfShort_10 rfl (lv_at hl 0 rfl) ?_
    refine lv_bipush (v := nI 82) hx hb dX4_kindOfShort_11 (by decide) ?_
    refine lv_icmp_ne (tgt := 22) hx hb dX4_kindOfShort_13 (by decide) (fun c_13 => ?_) (fun c_13 => ?_)
    · have c_13 : ¬ (v = 82) := fun z => c_13 ((nI_eq (by omega) (by omega)).mpr z)
      refine hp_gets hx hb hS.k0 hH hown G_X4_9 hS dX4_kindOfShort_22 ?_
      exact hp_rr hx hb hr (Or.inl ⟨_, rfl⟩) hlocks hS hH (⟨rfl, congrArg X.2.2.2 (Eq.symm (by unfold kdS; simp [c_3, c_13])), rfl⟩) dX4_kindOfShort_25
    · have c_13 : v = 82 := (nI_eq (by omega) (by omega)).mp c_13
      refine hp_gets hx hb hS.k2 hH hown G_X4_68 hS dX4_kindOfShort_16 ?_
      refine lv_goto (tgt := 25) hx hb dX4_kindOfShort_19 (by decide) ?_
      exact hp_rr hx hb hr (Or.inl ⟨_, rfl⟩) hlocks hS hH (⟨rfl, congrArg X.2.2.2 (Eq.symm (by unfold kdS; simp [c_3, c_13])), rfl⟩) dX4_kindOfShort_25
  · have c_3 : v = 38 := (nI_eq (by omega) (by omega)).mp c_3
    refine hp_gets hx hb hS.k1 hH hown G_X4_65 hS dX4_kindOfShort_6 ?_
    exact hp_rr hx hb hr (Or.inl ⟨_, rfl⟩) hlocks hS hH (⟨rfl, congrArg X.2.2.2 (Eq.symm (by unfold kdS; simp [c_3])), rfl⟩) dX4_kindOfShort_9

set_option maxHeartbeats 4000000 in
set_option maxRecDepth 100000 in
theorem c_X4_kindOfCommand (l : Launch) (X : hp_X) {μ : hp_M} {nx : Nat} {f k0 lv0 se0 td0 tc0 : Nat} {fi oc : Nat} (hv : fi < 2 ^ 30) (ho : oc < 2 ^ 30) (hse : se0 < 2 ^ 30) (f_f : μ f = some (hp_o 2 [.ref (X.2.2.2 k0), .int (nI lv0), .int (nI se0), .long (lN td0), .int (nI tc0)])) : Ct l X yX4_kindOfCommand cX4_kindOfCommand 3 (some (FieldType.object "TagField$Kind")) 0 0 0 0 [.ref f, .int (nI fi), .int (nI oc)] μ nx (hq_r X (po_r nx (X.2.2.2 (kdC fi oc se0)) (fun z => z = μ))) := by
  refine hp_met (by decide) (Nat.le_of_ble_eq_true rfl) ?_
  intro p e s m below meth c ls hx hb hml hr hlocks hown hin hS hH hl
  have hl : lv_has ls 3 [(0, .ref f), (1, .int (nI fi)), (2, .int (nI oc))] := hl
  refine lv_iload_n hx hb dX4_kindOfCommand_0 rfl (lv_at hl 1 rfl) ?_
  refine lv_bipush (v := nI 80) hx hb dX4_kindOfCommand_1 (by decide) ?_
  refine lv_icmp_ne (tgt := 22) hx hb dX4_kindOfCommand_3 (by decide) (fun c_3 => ?_) (fun c_3 => ?_)
  · have c_3 : ¬ (fi = 80) := fun z => c_3 ((nI_eq (by omega) (by omega)).mpr z)
    refine lv_iload_n hx hb dX4_kindOfCommand_22 rfl (lv_at hl 1 rfl) ?_
    refine lv_sipush (v := nI 224) hx hb dX4_kindOfCommand_23 (by decide) ?_
    refine lv_icmp_ne (tgt := 38) hx hb dX4_kindOfCommand_26 (by decide) (fun c_26 => ?_) (fun c_26 => ?_)
    · have c_26 : ¬ (fi = 224) := fun z => c_26 ((nI_eq (by omega) (by omega)).mpr z)
      refine lv_iload_n hx hb dX4_kindOfCommand_38 rfl (lv_at hl 1 rfl) ?_
      refine lv_sipush (v := nI 194) hx hb dX4_kindOfCommand_39 (by decide) ?_
      refine lv_icmp_ne (tgt := 56) hx hb dX4_kindOfCommand_42 (by decide) (fun c_42 => ?_) (fun c_42 => ?_)
      · have c_42 : ¬ (fi = 194) := fun z => c_42 ((nI_eq (by omega) (by omega)).mpr z)
        refine hp_gets hx hb hS.k0 hH hown G_X4_9 hS dX4_kindOfCommand_56 ?_
        exact hp_rr hx hb hr (Or.inl ⟨_, rfl⟩) hlocks hS hH (⟨rfl, congrArg X.2.2.2 (Eq.symm (by unfold kdC; (split <;> (try split) <;> (try split)) <;> omega)), rfl⟩) dX4_kindOfCommand_59
      · have c_42 : fi = 194 := (nI_eq (by omega) (by omega)).mp c_42
        refine lv_iload_n hx hb dX4_kindOfCommand_45 rfl (lv_at hl 2 rfl) ?_
        refine lv_iconst (v := nI 3) hx hb dX4_kindOfCommand_46 (by decide) ?_
        refine lv_icmp_ne (tgt := 56) hx hb dX4_kindOfCommand_47 (by decide) (fun c_47 => ?_) (fun c_47 => ?_)
        · have c_47 : ¬ (oc = 3) := fun z => c_47 ((nI_eq (by omega) (by omega)).mpr z)
          refine hp_gets hx hb hS.k0 hH hown G_X4_9 hS dX4_kindOfCommand_56 ?_
          exact hp_rr hx hb hr (Or.inl ⟨_, rfl⟩) hlocks hS hH (⟨rfl, congrArg X.2.2.2 (Eq.symm (by unfold kdC; (split <;> (try split) <;> (try split)) <;> omega)), rfl⟩) dX4_kindOfCommand_59
        · have c_47 : oc = 3 := (nI_eq (by omega) (by omega)).mp c_47
          refine hp_gets hx hb hS.k7 hH hown G_X4_77 hS dX4_kindOfCommand_50 ?_
          refine lv_goto (tgt := 59) hx hb dX4_kindOfCommand_53 (by decide) ?_
          exact hp_rr hx hb hr (Or.inl ⟨_, rfl⟩) hlocks hS hH (⟨rfl, congrArg X.2.2.2 (Eq.symm (by unfold kdC; (split <;> (try split) <;> (try split)) <;> omega)), rfl⟩) dX4_kindOfCommand_59
    · have c_26 : fi = 224 := (nI_eq (by omega) (by omega)).mp c_26
      refine lv_iload_n hx hb dX4_kindOfCommand_29 rfl (lv_at hl 2 rfl) ?_
      refine lv_iconst (v := nI 4) hx hb dX4_kindOfCommand_30 (by decide) ?_
      refine lv_icmp_ne (tgt := 38) hx hb dX4_kindOfCommand_31 (by decide) (fun c_31 => ?_) (fun c_31 => ?_)
      · have c_31 : ¬ (oc = 4) := fun z => c_31 ((nI_eq (by omega) (by omega)).mpr z)
        refine lv_iload_n hx hb dX4_kindOfCommand_38 rfl (lv_at hl 1 rfl) ?_
        refine lv_sipush (v := nI 194) hx hb dX4_kindOfCommand_39 (by decide) ?_
        refine lv_icmp_ne (tgt := 56) hx hb dX4_kindOfCommand_42 (by decide) (fun c_42 => ?_) (fun c_42 => ?_)
        · have c_42 : ¬ (fi = 194) := fun z => c_42 ((nI_eq (by omega) (by omega)).mpr z)
          refine hp_gets hx hb hS.k0 hH hown G_X4_9 hS dX4_kindOfCommand_56 ?_
          exact hp_rr hx hb hr (Or.inl ⟨_, rfl⟩) hlocks hS hH (⟨rfl, congrArg X.2.2.2 (Eq.symm (by unfold kdC; (split <;> (try split) <;> (try split)) <;> omega)), rfl⟩) dX4_kindOfCommand_59
        · have c_42 : fi = 194 := (nI_eq (by omega) (by omega)).mp c_42
          refine lv_iload_n hx hb dX4_kindOfCommand_45 rfl (lv_at hl 2 rfl) ?_
          refine lv_iconst (v := nI 3) hx hb dX4_kindOfCommand_46 (by decide) ?_
          refine lv_icmp_ne (tgt := 56) hx hb dX4_kindOfCommand_47 (by decide) (fun c_47 => ?_) (fun c_47 => ?_)
          · have c_47 : ¬ (oc = 3) := fun z => c_47 ((nI_eq (by omega) (by omega)).mpr z)
            refine hp_gets hx hb hS.k0 hH hown G_X4_9 hS dX4_kindOfCommand_56 ?_
            exact hp_rr hx hb hr (Or.inl ⟨_, rfl⟩) hlocks hS hH (⟨rfl, congrArg X.2.2.2 (Eq.symm (by unfold kdC; (split <;> (try split) <;> (try split)) <;> omega)), rfl⟩) dX4_kindOfCommand_59
          · have c_47 : oc = 3 := (nI_eq (by omega) (by omega)).mp c_47
            refine hp_gets hx hb hS.k7 hH hown G_X4_77 hS dX4_kindOfCommand_50 ?_
            refine lv_goto (tgt := 59) hx hb dX4_kindOfCommand_53 (by decide) ?_
            exact hp_rr hx hb hr (Or.inl ⟨_, rfl⟩) hlocks hS hH (⟨rfl, congrArg X.2.2.2 (Eq.symm (by unfold kdC; (split <;> (try split) <;> (try split)) <;> omega)), rfl⟩) dX4_kindOfCommand_59
      · have c_31 : oc = 4 := (nI_eq (by omega) (by omega)).mp c_31
        refine hp_gets hx hb hS.k6 hH hown G_X4_74 hS dX4_kindOfCommand_34 ?_
        exact hp_rr hx hb hr (Or.inl ⟨_, rfl⟩) hlocks hS hH (⟨rfl, congrArg X.2.2.2 (Eq.symm (by unfold kdC; (split <;> (try split) <;> (try split)) <;> omega)), rfl⟩) dX4_kindOfCommand_37
  · have c_3 : fi = 80 := (nI_eq (by omega) (by omega)).mp c_3
    refine lv_iload_n hx hb dX4_kindOfCommand_6 rfl (lv_at hl 2 rfl) ?_
    refine lv_iconst (v := nI 4) hx hb dX4_kindOfCommand_7 (by decide) ?_
    refine lv_icmp_ne (tgt := 22) hx hb dX4_kindOfCommand_8 (by decide) (fun c_8 => ?_) (fun c_8 => ?_)
    · have c_8 : ¬ (oc = 4) := fun z => c_8 ((nI_eq (by omega) (by omega)).mpr z)
      refine lv_iload_n hx hb dX4_kindOfCommand_22 rfl (lv_at hl 1 rfl) ?_
      refine lv_sipush (v := nI 224) hx hb dX4_kindOfCommand_23 (by decide) ?_
      refine lv_icmp_ne (tgt := 38) hx hb dX4_kindOfCommand_26 (by decide) (fun c_26 => ?_) (fun c_26 => ?_)
      · have c_26 : ¬ (fi = 224) := fun z => c_26 ((nI_eq (by omega) (by omega)).mpr z)
        refine lv_iload_n hx hb dX4_kindOfCommand_38 rfl (lv_at hl 1 rfl) ?_
        refine lv_sipush (v := nI 194) hx hb dX4_kindOfCommand_39 (by decide) ?_
        refine lv_icmp_ne (tgt := 56) hx hb dX4_kindOfCommand_42 (by decide) (fun c_42 => ?_) (fun c_42 => ?_)
        · have c_42 : ¬ (fi = 194) := fun z => c_42 ((nI_eq (by omega) (by omega)).mpr z)
          refine hp_gets hx hb hS.k0 hH hown G_X4_9 hS dX4_kindOfCommand_56 ?_
          exact hp_rr hx hb hr (Or.inl ⟨_, rfl⟩) hlocks hS hH (⟨rfl, congrArg X.2.2.2 (Eq.symm (by unfold kdC; (split <;> (try split) <;> (try split)) <;> omega)), rfl⟩) dX4_kindOfCommand_59
        · have c_42 : fi = 194 := (nI_eq (by omega) (by omega)).mp c_42
          refine lv_iload_n hx hb dX4_kindOfCommand_45 rfl (lv_at hl 2 rfl) ?_
          refine lv_iconst (v := nI 3) hx hb dX4_kindOfCommand_46 (by decide) ?_
          refine lv_icmp_ne (tgt := 56) hx hb dX4_kindOfCommand_47 (by decide) (fun c_47 => ?_) (fun c_47 => ?_)
          · have c_47 : ¬ (oc = 3) := fun z => c_47 ((nI_eq (by omega) (by omega)).mpr z)
            refine hp_gets hx hb hS.k0 hH hown G_X4_9 hS dX4_kindOfCommand_56 ?_
            exact hp_rr hx hb hr (Or.inl ⟨_, rfl⟩) hlocks hS hH (⟨rfl, congrArg X.2.2.2 (Eq.symm (by unfold kdC; (split <;> (try split) <;> (try split)) <;> omega)), rfl⟩) dX4_kindOfCommand_59
          · have c_47 : oc = 3 := (nI_eq (by omega) (by omega)).mp c_47
            refine hp_gets hx hb hS.k7 hH hown G_X4_77 hS dX4_kindOfCommand_50 ?_
            refine lv_goto (tgt := 59) hx hb dX4_kindOfCommand_53 (by decide) ?_
            exact hp_rr hx hb hr (Or.inl ⟨_, rfl⟩) hlocks hS hH (⟨rfl, congrArg X.2.2.2 (Eq.symm (by unfold kdC; (split <;> (try split) <;> (try split)) <;> omega)), rfl⟩) dX4_kindOfCommand_59
      · have c_26 : fi = 224 := (nI_eq (by omega) (by omega)).mp c_26
        refine lv_iload_n hx hb dX4_kindOfCommand_29 rfl (lv_at hl 2 rfl) ?_
        refine lv_iconst (v := nI 4) hx hb dX4_kindOfCommand_30 (by decide) ?_
        refine lv_icmp_ne (tgt := 38) hx hb dX4_kindOfCommand_31 (by decide) (fun c_31 => ?_) (fun c_31 => ?_)
        · have c_31 : ¬ (oc = 4) := fun z => c_31 ((nI_eq (by omega) (by omega)).mpr z)
          refine lv_iload_n hx hb dX4_kindOfCommand_38 rfl (lv_at hl 1 rfl) ?_
          refine lv_sipush (v := nI 194) hx hb dX4_kindOfCommand_39 (by decide) ?_
          refine lv_icmp_ne (tgt := 56) hx hb dX4_kindOfCommand_42 (by decide) (fun c_42 => ?_) (fun c_42 => ?_)
          · have c_42 : ¬ (fi = 194) := fun z => c_42 ((nI_eq (by omega) (by omega)).mpr z)
            refine hp_gets hx hb hS.k0 hH hown G_X4_9 hS dX4_kindOfCommand_56 ?_
            exact hp_rr hx hb hr (Or.inl ⟨_, rfl⟩) hlocks hS hH (⟨rfl, congrArg X.2.2.2 (Eq.symm (by unfold kdC; (split <;> (try split) <;> (try split)) <;> omega)), rfl⟩) dX4_kindOfCommand_59
          · have c_42 : fi = 194 := (nI_eq (by omega) (by omega)).mp c_42
            refine lv_iload_n hx hb dX4_kindOfCommand_45 rfl (lv_at hl 2 rfl) ?_
            refine lv_iconst (v := nI 3) hx hb dX4_kindOfCommand_46 (by decide) ?_
            refine lv_icmp_ne (tgt := 56) hx hb dX4_kindOfCommand_47 (by decide) (fun c_47 => ?_) (fun c_47 => ?_)
            · have c_47 : ¬ (oc = 3) := fun z => c_47 ((nI_eq (by omega) (by omega)).mpr z)
              refine hp_gets hx hb hS.k0 hH hown G_X4_9 hS dX4_kindOfCommand_56 ?_
              exact hp_rr hx hb hr (Or.inl ⟨_, rfl⟩) hlocks hS hH (⟨rfl, congrArg X.2.2.2 (Eq.symm (by unfold kdC; (split <;> (try split) <;> (try split)) <;> omega)), rfl⟩) dX4_kindOfCommand_59
            · have c_47 : oc = 3 := (nI_eq (by omega) (by omega)).mp c_47
              refine hp_gets hx hb hS.k7 hH hown G_X4_77 hS dX4_kindOfCommand_50 ?_
              refine lv_goto (tgt := 59) hx hb dX4_kindOfCommand_53 (by decide) ?_
              exact hp_rr hx hb hr (Or.inl ⟨_, rfl⟩) hlocks hS hH (⟨rfl, congrArg X.2.2.2 (Eq.symm (by unfold kdC; (split <;> (try split) <;> (try split)) <;> omega)), rfl⟩) dX4_kindOfCommand_59
        · have c_31 : oc = 4 := (nI_eq (by omega) (by omega)).mp c_31
          refine hp_gets hx hb hS.k6 hH hown G_X4_74 hS dX4_kindOfCommand_34 ?_
          exact hp_rr hx hb hr (Or.inl ⟨_, rfl⟩) hlocks hS hH (⟨rfl, congrArg X.2.2.2 (Eq.symm (by unfold kdC; (split <;> (try split) <;> (try split)) <;> omega)), rfl⟩) dX4_kindOfCommand_37
    · have c_8 : oc = 4 := (nI_eq (by omega) (by omega)).mp c_8
      refine lv_aload_n hx hb dX4_kindOfCommand_11 rfl (lv_at hl 0 rfl) ?_
      refine hp_get hx hb hown hS.2.1 hH (F_X4_30.use hS) f_f rfl dX4_kindOfCommand_12 ?_
      refine lv_if_ne (tgt := 22) hx hb dX4_kindOfCommand_15 (by decide) (fun c_15 => ?_) (fun c_15 => ?_)
      · have c_15 : ¬ (se0 = 0) := nz_n (by omega) c_15
        refine lv_iload_n hx hb dX4_kindOfCommand_22 rfl (lv_at hl 1 rfl) ?_
        refine lv_sipush (v := nI 224) hx hb dX4_kindOfCommand_23 (by decide) ?_
        refine lv_icmp_ne (tgt := 38) hx hb dX4_kindOfCommand_26 (by decide) (fun c_26 => ?_) (fun c_26 => ?_)
        · have c_26 : ¬ (fi = 224) := fun z => c_26 ((nI_eq (by omega) (by omega)).mpr z)
          refine lv_iload_n hx hb dX4_kindOfCommand_38 rfl (lv_at hl 1 rfl) ?_
          refine lv_sipush (v := nI 194) hx hb dX4_kindOfCommand_39 (by decide) ?_
          refine lv_icmp_ne (tgt := 56) hx hb dX4_kindOfCommand_42 (by decide) (fun c_42 => ?_) (fun c_42 => ?_)
          · have c_42 : ¬ (fi = 194) := fun z => c_42 ((nI_eq (by omega) (by omega)).mpr z)
            refine hp_gets hx hb hS.k0 hH hown G_X4_9 hS dX4_kindOfCommand_56 ?_
            exact hp_rr hx hb hr (Or.inl ⟨_, rfl⟩) hlocks hS hH (⟨rfl, congrArg X.2.2.2 (Eq.symm (by unfold kdC; (split <;> (try split) <;> (try split)) <;> omega)), rfl⟩) dX4_kindOfCommand_59
          · have c_42 : fi = 194 := (nI_eq (by omega) (by omega)).mp c_42
            refine lv_iload_n hx hb dX4_kindOfCommand_45 rfl (lv_at hl 2 rfl) ?_
            refine lv_iconst (v := nI 3) hx hb dX4_kindOfCommand_46 (by decide) ?_
            refine lv_icmp_ne (tgt := 56) hx hb dX4_kindOfCommand_47 (by decide) (fun c_47 => ?_) (fun c_47 => ?_)
            · have c_47 : ¬ (oc = 3) := fun z => c_47 ((nI_eq (by omega) (by omega)).mpr z)
              refine hp_gets hx hb hS.k0 hH hown G_X4_9 hS dX4_kindOfCommand_56 ?_
              exact hp_rr hx hb hr (Or.inl ⟨_, rfl⟩) hlocks hS hH (⟨rfl, congrArg X.2.2.2 (Eq.symm (by unfold kdC; (split <;> (try split) <;> (try split)) <;> omega)), rfl⟩) dX4_kindOfCommand_59
            · have c_47 : oc = 3 := (nI_eq (by omega) (by omega)).mp c_47
              refine hp_gets hx hb hS.k7 hH hown G_X4_77 hS dX4_kindOfCommand_50 ?_
              refine lv_goto (tgt := 59) hx hb dX4_kindOfCommand_53 (by decide) ?_
              exact hp_rr hx hb hr (Or.inl ⟨_, rfl⟩) hlocks hS hH (⟨rfl, congrArg X.2.2.2 (Eq.symm (by unfold kdC; (split <;> (try split) <;> (try split)) <;> omega)), rfl⟩) dX4_kindOfCommand_59
        · have c_26 : fi = 224 := (nI_eq (by omega) (by omega)).mp c_26
          refine lv_iload_n hx hb dX4_kindOfCommand_29 rfl (lv_at hl 2 rfl) ?_
          refine lv_iconst (v := nI 4) hx hb dX4_kindOfCommand_30 (by decide) ?_
          refine lv_icmp_ne (tgt := 38) hx hb dX4_kindOfCommand_31 (by decide) (fun c_31 => ?_) (fun c_31 => ?_)
          · have c_31 : ¬ (oc = 4) := fun z => c_31 ((nI_eq (by omega) (by omega)).mpr z)
            refine lv_iload_n hx hb dX4_kindOfCommand_38 rfl (lv_at hl 1 rfl) ?_
            refine lv_sipush (v := nI 194) hx hb dX4_kindOfCommand_39 (by decide) ?_
            refine lv_icmp_ne (tgt := 56) hx hb dX4_kindOfCommand_42 (by decide) (fun c_42 => ?_) (fun c_42 => ?_)
            · have c_42 : ¬ (fi = 194) := fun z => c_42 ((nI_eq (by omega) (by omega)).mpr z)
              refine hp_gets hx hb hS.k0 hH hown G_X4_9 hS dX4_kindOfCommand_56 ?_
              exact hp_rr hx hb hr (Or.inl ⟨_, rfl⟩) hlocks hS hH (⟨rfl, congrArg X.2.2.2 (Eq.symm (by unfold kdC; (split <;> (try split) <;> (try split)) <;> omega)), rfl⟩) dX4_kindOfCommand_59
            · have c_42 : fi = 194 := (nI_eq (by omega) (by omega)).mp c_42
              refine lv_iload_n hx hb dX4_kindOfCommand_45 rfl (lv_at hl 2 rfl) ?_
              refine lv_iconst (v := nI 3) hx hb dX4_kindOfCommand_46 (by decide) ?_
              refine lv_icmp_ne (tgt := 56) hx hb dX4_kindOfCommand_47 (by decide) (fun c_47 => ?_) (fun c_47 => ?_)
              · have c_47 : ¬ (oc = 3) := fun z => c_47 ((nI_eq (by omega) (by omega)).mpr z)
                refine hp_gets hx hb hS.k0 hH hown G_X4_9 hS dX4_kindOfCommand_56 ?_
                exact hp_rr hx hb hr (Or.inl ⟨_, rfl⟩) hlocks hS hH (⟨rfl, congrArg X.2.2.2 (Eq.symm (by unfold kdC; (split <;> (try split) <;> (try split)) <;> omega)), rfl⟩) dX4_kindOfCommand_59
              · have c_47 : oc = 3 := (nI_eq (by omega) (by omega)).mp c_47
                refine hp_gets hx hb hS.k7 hH hown G_X4_77 hS dX4_kindOfCommand_50 ?_
                refine lv_goto (tgt := 59) hx hb dX4_kindOfCommand_53 (by decide) ?_
                exact hp_rr hx hb hr (Or.inl ⟨_, rfl⟩) hlocks hS hH (⟨rfl, congrArg X.2.2.2 (Eq.symm (by unfold kdC; (split <;> (try split) <;> (try split)) <;> omega)), rfl⟩) dX4_kindOfCommand_59
          · have c_31 : oc = 4 := (nI_eq (by omega) (by omega)).mp c_31
            refine hp_gets hx hb hS.k6 hH hown G_X4_74 hS dX4_kindOfCommand_34 ?_
            exact hp_rr hx hb hr (Or.inl ⟨_, rfl⟩) hlocks hS hH (⟨rfl, congrArg X.2.2.2 (Eq.symm (by unfold kdC; (split <;> (try split) <;> (try split)) <;> omega)), rfl⟩) dX4_kindOfCommand_37
      · have c_15 : se0 = 0 := nz_0 (by omega) c_15
        refine hp_gets hx hb hS.k5 hH hown G_X4_71 hS dX4_kindOfCommand_18 ?_
        exact hp_rr hx hb hr (Or.inl ⟨_, rfl⟩) hlocks hS hH (⟨rfl, congrArg X.2.2.2 (Eq.symm (by unfold kdC; (split <;> (try split) <;> (try split)) <;> omega)), rfl⟩) dX4_kindOfCommand_21

set_option maxHeartbeats 4000000 in
set_option maxRecDepth 100000 in
theorem c_X4_readTold (l : Launch) (X : hp_X) {μ : hp_M} {nx : Nat} {f k0 lv0 se0 td0 tc0 : Nat} {r b room size : Nat} {rb : Nat → Nat} {by1 ov : Nat} (h01 : ∀ j, rb j < 2) (hr1 : room < 2 ^ 30) (hs1 : size ≤ room) (hb1 : by1 ≤ 5) (ho1 : ov ≤ 7) (f_f : μ f = some (hp_o 2 [.ref (X.2.2.2 k0), .int (nI lv0), .int (nI se0), .long (lN td0), .int (nI tc0)])) (f_r : μ r = some (hp_o 4 [.ref b, .int (nI size)])) (f_b : μ b = some (hp_n X room rb)) : Ct l X yX4_readTold cX4_readTold 5 (none : Option Jvm.ClassFile.FieldType) 1 40 0 0 [.ref f, .ref r, .int (nI by1), .int (nI ov)] μ nx (hq_v X (po_v nx (fun z => z f = some (hp_o 2 [.ref (X.2.2.2 k0), .int (nI lv0), .int (nI se0), .long (lN (tdN rb size by1 ov)), .int (nI (8 * by1 + ov))]) ∧ hp_eq [f] z μ))) := by
  refine hp_met (by decide) (Nat.le_of_ble_eq_true rfl) ?_
  intro p e s m below meth c ls hx hb hml hr hlocks hown hin hS hH hl
  have hl : lv_has ls 5 [(0, .ref f), (1, .ref r), (2, .int (nI by1)), (3, .int (nI ov))] := hl
  have fr : hp_eq [f] μ μ := fun _ _ => rfl
  refine lv_aload_n hx hb dX4_readTold_0 rfl (lv_at hl 0 rfl) ?_
  refine lv_lconst (v := lN 0) hx hb dX4_readTold_1 rfl ?_
  refine hp_put hx hb hown hS.2.1 hH (P_X4_80.use hS) f_f rfl rfl (Nat.le_of_ble_eq_true rfl) dX4_readTold_2 (fun H locs μ1 fz fn hH => ?_)
  have f_r := (fn _ (hp_ne f_r f_f (by simp))).trans f_r
  have f_b := (fn _ (hp_ne f_b f_f (by simp))).trans f_b
  have f_f : μ1 f = some (hp_o 2 [.ref (X.2.2.2 k0), .int (nI lv0), .int (nI se0), .long (lN 0), .int (nI tc0)]) := fz
  have fr := hp_eq.put fr (by simp) fn
  clear fz fn
  refine lv_iconst (v := nI 0) hx hb dX4_readTold_5 (by decide) ?_
  refine lv_istore (lv' := [(4, .int (nI 0)), (0, .ref f), (1, .ref r), (2, .int (nI by1)), (3, .int (nI ov))]) hx hb dX4_readTold_6 hl (by decide) rfl (fun ls hl => ?_)
  have lp_8 : ∀ (kk : Nat) (i : Nat), (i ≤ by1) → (by1 - i) < kk → ∀ (μ1 : hp_M) (H : Heap) (locs : List Loc) (ls : Array Slot), (μ1 f = some (hp_o 2 [.ref (X.2.2.2 k0), .int (nI lv0), .int (nI se0), .long (lN (tdB rb size i)), .int (nI tc0)])) → (μ1 r = some (hp_o 4 [.ref b, .int (nI size)])) → (μ1 b = some (hp_n X room rb)) → hp_eq [f] μ1 μ → hp_w X cls μ1 nx H locs → lv_has ls 5 [(0, .ref f), (1, .ref r), (2, .int (nI by1)), (3, .int (nI ov)), (4, .int (nI i))] → W p l e { frames := 1, cells := 0, slots := 0, locals := 40 } s m [.ref f, .ref r, .int (nI by1), .int (nI ov)].toArray below meth c H locs 0 0 (MQ below (hq_v X (po_v nx (fun z => z f = some (hp_o 2 [.ref (X.2.2.2 k0), .int (nI lv0), .int (nI se0), .long (lN (tdN rb size by1 ov)), .int (nI (8 * by1 + ov))]) ∧ hp_eq [f] z μ))) [.ref f, .ref r, .int (nI by1), .int (nI ov)].toArray s 0 0 (hp_A X)) (F0 m 8 ls []) := by
    intro kk
    induction kk with
    | zero =>
      intro i hi hkk
      exact absurd hkk (Nat.not_lt_zero _)
    | succ kk ih =>
      intro i hi hkk μ1 H locs ls f_f f_r f_b fr hH hl
      refine lv_iload hx hb dX4_readTold_8 (lv_at hl 4 rfl) ?_
      refine lv_iload_n hx hb dX4_readTold_10 rfl (lv_at hl 2 rfl) ?_
      refine lv_icmp_ge (tgt := 49) hx hb dX4_readTold_11 (by decide) (fun c_11 => ?_) (fun c_11 => ?_)
      · have c_11 : by1 ≤ i := (nI_leI (by omega) (by omega)).mp c_11
        have hin : i = by1 := by omega
        rw [hin] at f_f
        refine lv_aload_n hx hb dX4_readTold_49 rfl (lv_at hl 0 rfl) ?_
        refine lv_dup hx hb dX4_readTold_50 rfl ?_
        refine hp_get hx hb hown hS.2.1 hH (F_X4_80.use hS) f_f rfl dX4_readTold_51 ?_
        refine lv_aload_n hx hb dX4_readTold_54 rfl (lv_at hl 1 rfl) ?_
        refine lv_bipush (v := nI 9) hx hb dX4_readTold_55 (by decide) ?_
        refine lv_iconst (v := nI 2) hx hb dX4_readTold_57 (by decide) ?_
        refine lv_iload_n hx hb dX4_readTold_58 rfl (lv_at hl 2 rfl) ?_
        refine lv_iadd hx hb dX4_readTold_59 ?_
        refine hp_eqi (z := nI (2 + by1)) (nI_add _ _) ?_
        refine lv_imul hx hb dX4_readTold_60 ?_
        refine hp_eqi (z := nI (9 * (2 + by1))) (pk_mul _ _) ?_
        refine lv_iload_n hx hb dX4_readTold_61 rfl (lv_at hl 3 rfl) ?_
        refine hp_kip (hp_runV (As := [.int (nI (9 * (2 + by1))), .int (nI ov)]) (rest := [.long (lN (tdB rb size by1)), .ref f]) hx hb hml hown hS hH (c_X8_valueAt l X (fm := 9 * (2 + by1)) (n := ov) h01 hr1 (by omega) (by omega) hs1 f_r f_b) M_X4_26 I_X8_valueAt V_X8_valueAt (ci := 4) rfl rfl f_r rfl hl.1 rfl (Nat.le_of_ble_eq_true rfl) dX4_readTold_62 ⟨Nat.le_of_ble_eq_true rfl, Nat.le_of_ble_eq_true rfl⟩ ⟨Nat.le_of_ble_eq_true rfl, Nat.le_of_ble_eq_true rfl⟩) hH (fun H locs hH => ?_)
        have hvl := valN_lt h01 size (9 * (2 + by1)) ov
        have hvp : (2 : Nat) ^ ov ≤ 2 ^ 8 := Nat.pow_le_pow_right (by decide) (by omega)
        refine lv_i2l hx hb dX4_readTold_65 rfl ?_
        refine hp_eql (z := lN (valN rb size (9 * (2 + by1)) ov)) (nI_l (by omega)) ?_
        refine lv_bipush (v := nI 8) hx hb dX4_readTold_66 (by decide) ?_
        refine lv_iload_n hx hb dX4_readTold_68 rfl (lv_at hl 2 rfl) ?_
        refine lv_imul hx hb dX4_readTold_69 ?_
        refine hp_eqi (z := nI (8 * by1)) (pk_mul _ _) ?_
        refine lv_lshl hx hb dX4_readTold_70 rfl ?_
        refine hp_eql (z := lN (valN rb size (9 * (2 + by1)) ov * 2 ^ (8 * by1))) (wb_shl _ (by omega)) ?_
        refine lv_lor hx hb dX4_readTold_71 ?_
        refine hp_eql (z := lN (tdN rb size by1 ov)) (by rw [g_or' (k := 8 * by1) rfl (tdB_lt h01 size by1) (Nat.lt_of_lt_of_le (tdN_lt h01 size by1 ov) (Nat.pow_le_pow_right (by decide) (by omega)))]; rfl) ?_
        refine hp_put hx hb hown hS.2.1 hH (P_X4_80.use hS) f_f rfl rfl (Nat.le_of_ble_eq_true rfl) dX4_readTold_72 (fun H locs μ1 fz fn hH => ?_)
        have f_r := (fn _ (hp_ne f_r f_f (by simp))).trans f_r
        have f_b := (fn _ (hp_ne f_b f_f (by simp))).trans f_b
        have f_f : μ1 f = some (hp_o 2 [.ref (X.2.2.2 k0), .int (nI lv0), .int (nI se0), .long (lN (tdN rb size by1 ov)), .int (nI tc0)]) := fz
        have fr := hp_eq.put fr (by simp) fn
        clear fz fn
        refine lv_aload_n hx hb dX4_readTold_75 rfl (lv_at hl 0 rfl) ?_
        refine lv_bipush (v := nI 8) hx hb dX4_readTold_76 (by decide) ?_
        refine lv_iload_n hx hb dX4_readTold_78 rfl (lv_at hl 2 rfl) ?_
        refine lv_imul hx hb dX4_readTold_79 ?_
        refine hp_eqi (z := nI (8 * by1)) (pk_mul _ _) ?_
        refine lv_iload_n hx hb dX4_readTold_80 rfl (lv_at hl 3 rfl) ?_
        refine lv_iadd hx hb dX4_readTold_81 ?_
        refine hp_eqi (z := nI ((8 * by1) + ov)) (nI_add _ _) ?_
        refine hp_put hx hb hown hS.2.1 hH (P_X4_84.use hS) f_f rfl rfl (Nat.le_of_ble_eq_true rfl) dX4_readTold_82 (fun H locs μ1 fz fn hH => ?_)
        have f_r := (fn _ (hp_ne f_r f_f (by simp))).trans f_r
        have f_b := (fn _ (hp_ne f_b f_f (by simp))).trans f_b
        have f_f : μ1 f = some (hp_o 2 [.ref (X.2.2.2 k0), .int (nI lv0), .int (nI se0), .long (lN (tdN rb size by1 ov)), .int (nI ((8 * by1) + ov))]) := fz
        have fr := hp_eq.put fr (by simp) fn
        clear fz fn
        exact hp_rv hx hb hr hlocks hS hH (⟨rfl, f_f, fr⟩) dX4_readTold_85
      · have c_11 : ¬ (by1 ≤ i) := fun z => c_11 ((nI_leI (by omega) (by omega)).mpr z)
        refine lv_aload_n hx hb dX4_readTold_14 rfl (lv_at hl 0 rfl) ?_
        refine lv_dup hx hb dX4_readTold_15 rfl ?_
        refine hp_get hx hb hown hS.2.1 hH (F_X4_80.use hS) f_f rfl dX4_readTold_16 ?_
        refine lv_aload_n hx hb dX4_readTold_19 rfl (lv_at hl 1 rfl) ?_
        refine lv_bipush (v := nI 9) hx hb dX4_readTold_20 (by decide) ?_
        refine lv_iconst (v := nI 2) hx hb dX4_readTold_22 (by decide) ?_
        refine lv_iload hx hb dX4_readTold_23 (lv_at hl 4 rfl) ?_
        refine lv_iadd hx hb dX4_readTold_25 ?_
        refine hp_eqi (z := nI (2 + i)) (nI_add _ _) ?_
        refine lv_imul hx hb dX4_readTold_26 ?_
        refine hp_eqi (z := nI (9 * (2 + i))) (pk_mul _ _) ?_
        refine lv_bipush (v := nI 8) hx hb dX4_readTold_27 (by decide) ?_
        refine hp_kip (hp_runV (As := [.int (nI (9 * (2 + i))), .int (nI 8)]) (rest := [.long (lN (tdB rb size i)), .ref f]) hx hb hml hown hS hH (c_X8_valueAt l X (fm := 9 * (2 + i)) (n := 8) h01 hr1 (by omega) (by omega) hs1 f_r f_b) M_X4_26 I_X8_valueAt V_X8_valueAt (ci := 4) rfl rfl f_r rfl hl.1 rfl (Nat.le_of_ble_eq_true rfl) dX4_readTold_29 ⟨Nat.le_of_ble_eq_true rfl, Nat.le_of_ble_eq_true rfl⟩ ⟨Nat.le_of_ble_eq_true rfl, Nat.le_of_ble_eq_true rfl⟩) hH (fun H locs hH => ?_)
        have hvl := valN_lt h01 size (9 * (2 + i)) 8
        refine lv_i2l hx hb dX4_readTold_32 rfl ?_
        refine hp_eql (z := lN (valN rb size (9 * (2 + i)) 8)) (nI_l (by omega)) ?_
        refine lv_bipush (v := nI 8) hx hb dX4_readTold_33 (by decide) ?_
        refine lv_iload hx hb dX4_readTold_35 (lv_at hl 4 rfl) ?_
        refine lv_imul hx hb dX4_readTold_37 ?_
        refine hp_eqi (z := nI (8 * i)) (pk_mul _ _) ?_
        refine lv_lshl hx hb dX4_readTold_38 rfl ?_
        refine hp_eql (z := lN (valN rb size (9 * (2 + i)) 8 * 2 ^ (8 * i))) (wb_shl _ (by omega)) ?_
        refine lv_lor hx hb dX4_readTold_39 ?_
        refine hp_eql (z := lN (tdB rb size (i + 1))) (by rw [g_or' (k := 8 * i) rfl (tdB_lt h01 size i) (Nat.lt_of_lt_of_le (tdB_lt h01 size (i + 1)) (Nat.pow_le_pow_right (by decide) (by omega)))]; rfl) ?_
        refine hp_put hx hb hown hS.2.1 hH (P_X4_80.use hS) f_f rfl rfl (Nat.le_of_ble_eq_true rfl) dX4_readTold_40 (fun H locs μ1 fz fn hH => ?_)
        have f_r := (fn _ (hp_ne f_r f_f (by simp))).trans f_r
        have f_b := (fn _ (hp_ne f_b f_f (by simp))).trans f_b
        have f_f : μ1 f = some (hp_o 2 [.ref (X.2.2.2 k0), .int (nI lv0), .int (nI se0), .long (lN (tdB rb size (i + 1))), .int (nI tc0)]) := fz
        have fr := hp_eq.put fr (by simp) fn
        clear fz fn
        refine lv_iinc (v := nI (i + 1)) (lv' := [(4, .int (nI (i + 1))), (0, .ref f), (1, .ref r), (2, .int (nI by1)), (3, .int (nI ov))]) hx hb dX4_readTold_43 hl (k := 4) rfl (nI_add _ 1) (by decide) rfl (fun ls hl => ?_)
        refine lv_goto (tgt := 8) hx hb dX4_readTold_46 (by decide) ?_
        exact ih (i + 1) (by omega) (by omega) _ _ _ _ f_f f_r f_b fr hH (lv_sub hl [1, 2, 3, 4, 0] rfl)
  exact lp_8 ((by1 - 0) + 1) 0 (Nat.zero_le _) (Nat.lt_succ_self _) _ _ _ _ f_f f_r f_b fr hH (lv_sub hl [1, 2, 3, 4, 0] rfl)

set_option maxHeartbeats 4000000 in
set_option maxRecDepth 100000 in
theorem c_X4_init (l : Launch) (X : hp_X) {μ : hp_M} {nx : Nat} {f : Nat} (f_f : μ f = some (hp_o 2 [.null, .int (nI 0), .int (nI 0), .long (lN 0), .int (nI 0)])) : Ct l X yX4_init cX4_init 1 (none : Option Jvm.ClassFile.FieldType) 1 40 0 0 [.ref f] μ nx (hq_v X (po_v nx (fun z => z f = some (hp_o 2 [.ref (X.2.2.2 0), .int (nI 0), .int (nI 0), .long (lN 0), .int (nI 0)]) ∧ hp_eq [f] z μ))) := by
  refine hp_met (by decide) (Nat.le_of_ble_eq_true rfl) ?_
  intro p e s m below meth c ls hx hb hml hr hlocks hown hin hS hH hl
  have hl : lv_has ls 1 [(0, .ref f)] := hl
  have fr : hp_eq [f] μ μ := fun _ _ => rfl
  refine lv_aload_n hx hb dX4_init_0 rfl (lv_at hl 0 rfl) ?_
  refine hp_obj hx hb hml hown hS ol_X4_3 hl.1 dX4_init_1 (Nat.le_of_ble_eq_true rfl) (Nat.le_of_ble_eq_true rfl) (Nat.le_of_ble_eq_true rfl) ?_
  refine lv_aload_n hx hb dX4_init_4 rfl (lv_at hl 0 rfl) ?_
  refine hp_gets hx hb hS.k0 hH hown G_X4_9 hS dX4_init_5 ?_
  refine hp_put hx hb hown hS.2.1 hH (P_X4_15.use hS) f_f rfl rfl (Nat.le_of_ble_eq_true rfl) dX4_init_8 (fun H locs μ1 fz fn hH => ?_)
  have f_f : μ1 f = some (hp_o 2 [.ref (X.2.2.2 0), .int (nI 0), .int (nI 0), .long (lN 0), .int (nI 0)]) := fz
  have fr := hp_eq.put fr (by simp) fn
  clear fz fn
  exact hp_rv hx hb hr hlocks hS hH (⟨rfl, f_f, fr⟩) dX4_init_11
