set_option maxHeartbeats 4000000 in
set_option maxRecDepth 100000 in
theorem c_X10_bits_out (l : Launch) (X : hp_X) {μ : hp_M} {nx : Nat} {x ty la ar rd tb tz : Nat} {tr : Nat → Nat} {v n : Int32} (hn : n < nI 1 ∨ nI 32 < n) (f_x : μ x = some (hp_o 6 [.ref ty, .ref la, .ref ar, .ref rd])) (f_ty : μ ty = some (hp_o 4 [.ref tb, .int (nI tz)])) (f_tb : μ tb = some (hp_n X 160 tr)) : Ct l X yX10_bits cX10_bits 3 (some FieldType.int) 1 40 0 0 [.ref x, .int v, .int n] μ nx (hq_i X (po_i nx (-12) (fun z => z = μ))) := by
  refine hp_met (by decide) (Nat.le_of_ble_eq_true rfl) ?_
  intro p e s m below meth c ls hx hb hml hr hlocks hown hin hS hH hl
  have hl : lv_has ls 3 [(0, .ref x), (1, .int v), (2, .int n)] := hl
  refine lv_iload_n hx hb dX10_bits_0 rfl (lv_at hl 2 rfl) ?_
  refine lv_iconst (v := nI 1) hx hb dX10_bits_1 (by decide) ?_
  refine lv_icmp_lt (tgt := 11) hx hb dX10_bits_2 (by decide) (fun c_2 => ?_) (fun c_2 => ?_)
  · refine lv_bipush (v := (-12)) hx hb dX10_bits_11 (by decide) ?_
    exact hp_ri hx hb hr hlocks hS hH (⟨rfl, rfl, rfl⟩) dX10_bits_13
  · refine lv_iload_n hx hb dX10_bits_5 rfl (lv_at hl 2 rfl) ?_
    refine lv_bipush (v := nI 32) hx hb dX10_bits_6 (by decide) ?_
    refine lv_icmp_le (tgt := 14) hx hb dX10_bits_8 (by decide) (fun c_8 => ?_) (fun c_8 => ?_)
    · exact hn.elim (fun h9 => absurd h9 c_2) (fun h9 => absurd c_8 (Int32.not_le.mpr h9))
    · refine lv_bipush (v := (-12)) hx hb dX10_bits_11 (by decide) ?_
      exact hp_ri hx hb hr hlocks hS hH (⟨rfl, rfl, rfl⟩) dX10_bits_13

set_option maxHeartbeats 4000000 in
set_option maxRecDepth 100000 in
theorem c_X10_bits_room (l : Launch) (X : hp_X) {μ : hp_M} {nx : Nat} {x ty la ar rd tb tz : Nat} {tr : Nat → Nat} {v : Int32} {k : Nat} (hk1 : 1 ≤ k) (hk2 : k ≤ 32) (htz : tz ≤ 160) (hroom : tz + k ≤ 160) (f_x : μ x = some (hp_o 6 [.ref ty, .ref la, .ref ar, .ref rd])) (f_ty : μ ty = some (hp_o 4 [.ref tb, .int (nI tz)])) (f_tb : μ tb = some (hp_n X 160 tr)) : Ct l X yX10_bits cX10_bits 3 (some FieldType.int) 1 40 0 0 [.ref x, .int v, .int (nI k)] μ nx (hq_i X (po_i nx (nI (tz + k)) (fun z => z ty = some (hp_o 4 [.ref tb, .int (nI (tz + k))]) ∧ z tb = some (hp_n X 160 (apB tr tz v k)) ∧ hp_eq [ty, tb] z μ))) := by
  refine hp_met (by decide) (Nat.le_of_ble_eq_true rfl) ?_
  intro p e s m below meth c ls hx hb hml hr hlocks hown hin hS hH hl
  have hl : lv_has ls 3 [(0, .ref x), (1, .int v), (2, .int (nI k))] := hl
  have fr : hp_eq [ty, tb] μ μ := fun _ _ => rfl
  refine lv_iload_n hx hb dX10_bits_0 rfl (lv_at hl 2 rfl) ?_
  refine lv_iconst (v := nI 1) hx hb dX10_bits_1 (by decide) ?_
  refine lv_icmp_lt (tgt := 11) hx hb dX10_bits_2 (by decide) (fun c_2 => ?_) (fun c_2 => ?_)
  · have c_2 : k < 1 := (nI_ltI (by omega) (by omega)).mp c_2
    exact absurd c_2 (by omega)
  · have c_2 : ¬ (k < 1) := fun z => c_2 ((nI_ltI (by omega) (by omega)).mpr z)
    refine lv_iload_n hx hb dX10_bits_5 rfl (lv_at hl 2 rfl) ?_
    refine lv_bipush (v := nI 32) hx hb dX10_bits_6 (by decide) ?_
    refine lv_icmp_le (tgt := 14) hx hb dX10_bits_8 (by decide) (fun c_8 => ?_) (fun c_8 => ?_)
    · have c_8 : k ≤ 32 := (nI_leI (by omega) (by omega)).mp c_8
      refine lv_aload_n hx hb dX10_bits_14 rfl (lv_at hl 0 rfl) ?_
      refine hp_get hx hb hown hS.2.1 hH (F_X10_14.use hS) f_x rfl dX10_bits_15 ?_
      refine lv_iload_n hx hb dX10_bits_18 rfl (lv_at hl 2 rfl) ?_
      refine hp_kip (hp_runV (As := [.int (nI k)]) (rest := []) hx hb hml hown hS hH (c_X8_hasRoomFor l X (by decide) (by omega) (by omega) f_ty f_tb) M_X10_72 I_X8_hasRoomFor V_X8_hasRoomFor (ci := 4) rfl rfl f_ty rfl hl.1 rfl (Nat.le_of_ble_eq_true rfl) dX10_bits_19 ⟨Nat.le_of_ble_eq_true rfl, Nat.le_of_ble_eq_true rfl⟩ ⟨Nat.le_of_ble_eq_true rfl, Nat.le_of_ble_eq_true rfl⟩) hH (fun H locs hH => ?_)
      refine lv_if_ne (tgt := 28) hx hb dX10_bits_22 (by decide) (fun c_22 => ?_) (fun c_22 => ?_)
      · have c_22 : (decide (tz + k ≤ 160)) = true := nB_n c_22
        refine lv_aload_n hx hb dX10_bits_28 rfl (lv_at hl 0 rfl) ?_
        refine hp_get hx hb hown hS.2.1 hH (F_X10_14.use hS) f_x rfl dX10_bits_29 ?_
        refine lv_iload_n hx hb dX10_bits_32 rfl (lv_at hl 1 rfl) ?_
        refine lv_iload_n hx hb dX10_bits_33 rfl (lv_at hl 2 rfl) ?_
        refine hp_kvm (hp_runV (As := [.int v, .int (nI k)]) (rest := []) hx hb hml hown hS hH (c_X8_addBits l X (by decide) (by omega) hroom f_ty f_tb) M_X10_75 I_X8_addBits V_X8_addBits (ci := 4) rfl rfl f_ty rfl hl.1 rfl (Nat.le_of_ble_eq_true rfl) dX10_bits_34 ⟨Nat.le_of_ble_eq_true rfl, Nat.le_of_ble_eq_true rfl⟩ ⟨Nat.le_of_ble_eq_true rfl, Nat.le_of_ble_eq_true rfl⟩) hH (fun μ1 H locs hp hH => ?_)
        obtain ⟨fz0, fz1, fe⟩ := hp
        have f_x := (hp_e2 fe (hp_ne f_x f_ty (by simp)) (hp_ne f_x f_tb (by simp))).trans f_x
        have f_ty : μ1 ty = some (hp_o 4 [.ref tb, .int (nI (tz + k))]) := fz0
        have f_tb : μ1 tb = some (hp_n X 160 (apB tr tz v k)) := fz1
        have fr := hp_eq.tr2 fe fr (by simp) (by simp)
        clear fe fz0 fz1
        refine lv_aload_n hx hb dX10_bits_37 rfl (lv_at hl 0 rfl) ?_
        refine hp_get hx hb hown hS.2.1 hH (F_X10_14.use hS) f_x rfl dX10_bits_38 ?_
        refine hp_get hx hb hown hS.2.1 hH (F_X10_79.use hS) f_ty rfl dX10_bits_41 ?_
        exact hp_ri hx hb hr hlocks hS hH (⟨rfl, rfl, f_ty, f_tb, fr⟩) dX10_bits_44
      · have c_22 : (decide (tz + k ≤ 160)) = false := nB_0 c_22
        exact absurd hroom (by have := of_decide_eq_false c_22; omega)
    · have c_8 : ¬ (k ≤ 32) := fun z => c_8 ((nI_leI (by omega) (by omega)).mpr z)
      exact absurd c_8 (by omega)

set_option maxHeartbeats 4000000 in
set_option maxRecDepth 100000 in
theorem c_X10_bits_full (l : Launch) (X : hp_X) {μ : hp_M} {nx : Nat} {x ty la ar rd tb tz : Nat} {tr : Nat → Nat} {v : Int32} {k : Nat} (hk1 : 1 ≤ k) (hk2 : k ≤ 32) (htz : tz ≤ 160) (hroom : 160 < tz + k) (f_x : μ x = some (hp_o 6 [.ref ty, .ref la, .ref ar, .ref rd])) (f_ty : μ ty = some (hp_o 4 [.ref tb, .int (nI tz)])) (f_tb : μ tb = some (hp_n X 160 tr)) : Ct l X yX10_bits cX10_bits 3 (some FieldType.int) 1 40 0 0 [.ref x, .int v, .int (nI k)] μ nx (hq_i X (po_i nx (-14) (fun z => z = μ))) := by
  refine hp_met (by decide) (Nat.le_of_ble_eq_true rfl) ?_
  intro p e s m below meth c ls hx hb hml hr hlocks hown hin hS hH hl
  have hl : lv_has ls 3 [(0, .ref x), (1, .int v), (2, .int (nI k))] := hl
  refine lv_iload_n hx hb dX10_bits_0 rfl (lv_at hl 2 rfl) ?_
  refine lv_iconst (v := nI 1) hx hb dX10_bits_1 (by decide) ?_
  refine lv_icmp_lt (tgt := 11) hx hb dX10_bits_2 (by decide) (fun c_2 => ?_) (fun c_2 => ?_)
  · have c_2 : k < 1 := (nI_ltI (by omega) (by omega)).mp c_2
    exact absurd c_2 (by omega)
  · have c_2 : ¬ (k < 1) := fun z => c_2 ((nI_ltI (by omega) (by omega)).mpr z)
    refine lv_iload_n hx hb dX10_bits_5 rfl (lv_at hl 2 rfl) ?_
    refine lv_bipush (v := nI 32) hx hb dX10_bits_6 (by decide) ?_
    refine lv_icmp_le (tgt := 14) hx hb dX10_bits_8 (by decide) (fun c_8 => ?_) (fun c_8 => ?_)
    · have c_8 : k ≤ 32 := (nI_leI (by omega) (by omega)).mp c_8
      refine lv_aload_n hx hb dX10_bits_14 rfl (lv_at hl 0 rfl) ?_
      refine hp_get hx hb hown hS.2.1 hH (F_X10_14.use hS) f_x rfl dX10_bits_15 ?_
      refine lv_iload_n hx hb dX10_bits_18 rfl (lv_at hl 2 rfl) ?_
      refine hp_kip (hp_runV (As := [.int (nI k)]) (rest := []) hx hb hml hown hS hH (c_X8_hasRoomFor l X (by decide) (by omega) (by omega) f_ty f_tb) M_X10_72 I_X8_hasRoomFor V_X8_hasRoomFor (ci := 4) rfl rfl f_ty rfl hl.1 rfl (Nat.le_of_ble_eq_true rfl) dX10_bits_19 ⟨Nat.le_of_ble_eq_true rfl, Nat.le_of_ble_eq_true rfl⟩ ⟨Nat.le_of_ble_eq_true rfl, Nat.le_of_ble_eq_true rfl⟩) hH (fun H locs hH => ?_)
      refine lv_if_ne (tgt := 28) hx hb dX10_bits_22 (by decide) (fun c_22 => ?_) (fun c_22 => ?_)
      · have c_22 : (decide (tz + k ≤ 160)) = true := nB_n c_22
        exact absurd hroom (by have := of_decide_eq_true c_22; omega)
      · have c_22 : (decide (tz + k ≤ 160)) = false := nB_0 c_22
        refine lv_bipush (v := (-14)) hx hb dX10_bits_25 (by decide) ?_
        exact hp_ri hx hb hr hlocks hS hH (⟨rfl, rfl, rfl⟩) dX10_bits_27
    · have c_8 : ¬ (k ≤ 32) := fun z => c_8 ((nI_leI (by omega) (by omega)).mpr z)
      exact absurd c_8 (by omega)

set_option maxHeartbeats 4000000 in
set_option maxRecDepth 100000 in
theorem c_X10_octet_room (l : Launch) (X : hp_X) {μ : hp_M} {nx : Nat} {x ty la ar rd tb tz : Nat} {tr : Nat → Nat} {v : Int32} (htz : tz ≤ 160) (hroom : tz + 9 ≤ 160) (f_x : μ x = some (hp_o 6 [.ref ty, .ref la, .ref ar, .ref rd])) (f_ty : μ ty = some (hp_o 4 [.ref tb, .int (nI tz)])) (f_tb : μ tb = some (hp_n X 160 tr)) : Ct l X yX10_octet cX10_octet 2 (some FieldType.int) 3 120 0 0 [.ref x, .int v] μ nx (hq_i X (po_i nx (nI (tz + 9)) (fun z => z ty = some (hp_o 4 [.ref tb, .int (nI (tz + 9))]) ∧ z tb = some (hp_n X 160 (apB tr tz (nI (octB (byI v))) 9)) ∧ hp_eq [ty, tb] z μ))) := by
  refine hp_met (by decide) (Nat.le_of_ble_eq_true rfl) ?_
  intro p e s m below meth c ls hx hb hml hr hlocks hown hin hS hH hl
  have hl : lv_has ls 2 [(0, .ref x), (1, .int v)] := hl
  have fr : hp_eq [ty, tb] μ μ := fun _ _ => rfl
  refine lv_aload_n hx hb dX10_octet_0 rfl (lv_at hl 0 rfl) ?_
  refine hp_get hx hb hown hS.2.1 hH (F_X10_14.use hS) f_x rfl dX10_octet_1 ?_
  refine lv_bipush (v := nI 9) hx hb dX10_octet_4 (by decide) ?_
  refine hp_kip (hp_runV (As := [.int (nI 9)]) (rest := []) hx hb hml hown hS hH (c_X8_hasRoomFor l X (n := 9) (by decide) (by decide) (by omega) f_ty f_tb) M_X10_72 I_X8_hasRoomFor V_X8_hasRoomFor (ci := 4) rfl rfl f_ty rfl hl.1 rfl (Nat.le_of_ble_eq_true rfl) dX10_octet_6 ⟨Nat.le_of_ble_eq_true rfl, Nat.le_of_ble_eq_true rfl⟩ ⟨Nat.le_of_ble_eq_true rfl, Nat.le_of_ble_eq_true rfl⟩) hH (fun H locs hH => ?_)
  refine lv_if_ne (tgt := 15) hx hb dX10_octet_9 (by decide) (fun c_9 => ?_) (fun c_9 => ?_)
  · have c_9 : (decide (tz + 9 ≤ 160)) = true := nB_n c_9
    refine lv_aload_n hx hb dX10_octet_15 rfl (lv_at hl 0 rfl) ?_
    refine hp_get hx hb hown hS.2.1 hH (F_X10_14.use hS) f_x rfl dX10_octet_16 ?_
    refine lv_iload_n hx hb dX10_octet_19 rfl (lv_at hl 1 rfl) ?_
    refine hp_kvm (hp_runV (As := [.int v]) (rest := []) hx hb hml hown hS hH (c_X8_addOctet l X (by decide) hroom f_ty f_tb) M_X10_83 I_X8_addOctet V_X8_addOctet (ci := 4) rfl rfl f_ty rfl hl.1 rfl (Nat.le_of_ble_eq_true rfl) dX10_octet_20 ⟨Nat.le_of_ble_eq_true rfl, Nat.le_of_ble_eq_true rfl⟩ ⟨Nat.le_of_ble_eq_true rfl, Nat.le_of_ble_eq_true rfl⟩) hH (fun μ1 H locs hp hH => ?_)
    obtain ⟨fz0, fz1, fe⟩ := hp
    have f_x := (hp_e2 fe (hp_ne f_x f_ty (by simp)) (hp_ne f_x f_tb (by simp))).trans f_x
    have f_ty : μ1 ty = some (hp_o 4 [.ref tb, .int (nI (tz + 9))]) := fz0
    have f_tb : μ1 tb = some (hp_n X 160 (apB tr tz (nI (octB (byI v))) 9)) := fz1
    have fr := hp_eq.tr2 fe fr (by simp) (by simp)
    clear fe fz0 fz1
    refine lv_aload_n hx hb dX10_octet_23 rfl (lv_at hl 0 rfl) ?_
    refine hp_get hx hb hown hS.2.1 hH (F_X10_14.use hS) f_x rfl dX10_octet_24 ?_
    refine hp_get hx hb hown hS.2.1 hH (F_X10_79.use hS) f_ty rfl dX10_octet_27 ?_
    exact hp_ri hx hb hr hlocks hS hH (⟨rfl, rfl, f_ty, f_tb, fr⟩) dX10_octet_30
  · have c_9 : (decide (tz + 9 ≤ 160)) = false := nB_0 c_9
    exact absurd hroom (by have := of_decide_eq_false c_9; omega)

set_option maxHeartbeats 4000000 in
set_option maxRecDepth 100000 in
theorem c_X10_octet_full (l : Launch) (X : hp_X) {μ : hp_M} {nx : Nat} {x ty la ar rd tb tz : Nat} {tr : Nat → Nat} {v : Int32} (htz : tz ≤ 160) (hroom : 160 < tz + 9) (f_x : μ x = some (hp_o 6 [.ref ty, .ref la, .ref ar, .ref rd])) (f_ty : μ ty = some (hp_o 4 [.ref tb, .int (nI tz)])) (f_tb : μ tb = some (hp_n X 160 tr)) : Ct l X yX10_octet cX10_octet 2 (some FieldType.int) 3 120 0 0 [.ref x, .int v] μ nx (hq_i X (po_i nx (-14) (fun z => z = μ))) := by
  refine hp_met (by decide) (Nat.le_of_ble_eq_true rfl) ?_
  intro p e s m below meth c ls hx hb hml hr hlocks hown hin hS hH hl
  have hl : lv_has ls 2 [(0, .ref x), (1, .int v)] := hl
  refine lv_aload_n hx hb dX10_octet_0 rfl (lv_at hl 0 rfl) ?_
  refine hp_get hx hb hown hS.2.1 hH (F_X10_14.use hS) f_x rfl dX10_octet_1 ?_
  refine lv_bipush (v := nI 9) hx hb dX10_octet_4 (by decide) ?_
  refine hp_kip (hp_runV (As := [.int (nI 9)]) (rest := []) hx hb hml hown hS hH (c_X8_hasRoomFor l X (n := 9) (by decide) (by decide) (by omega) f_ty f_tb) M_X10_72 I_X8_hasRoomFor V_X8_hasRoomFor (ci := 4) rfl rfl f_ty rfl hl.1 rfl (Nat.le_of_ble_eq_true rfl) dX10_octet_6 ⟨Nat.le_of_ble_eq_true rfl, Nat.le_of_ble_eq_true rfl⟩ ⟨Nat.le_of_ble_eq_true rfl, Nat.le_of_ble_eq_true rfl⟩) hH (fun H locs hH => ?_)
  refine lv_if_ne (tgt := 15) hx hb dX10_octet_9 (by decide) (fun c_9 => ?_) (fun c_9 => ?_)
  · have c_9 : (decide (tz + 9 ≤ 160)) = true := nB_n c_9
    exact absurd hroom (by have := of_decide_eq_true c_9; omega)
  · have c_9 : (decide (tz + 9 ≤ 160)) = false := nB_0 c_9
    refine lv_bipush (v := (-14)) hx hb dX10_octet_12 (by decide) ?_
    exact hp_ri hx hb hr hlocks hS hH (⟨rfl, rfl, rfl⟩) dX10_octet_14

set_option maxHeartbeats 4000000 in
set_option maxRecDepth 100000 in
theorem c_X10_check_bad (l : Launch) (X : hp_X) {μ : hp_M} {nx : Nat} {x ty la ar rd tb tz : Nat} {tr : Nat → Nat} (h01 : ∀ j, tr j < 2) (htz : tz ≤ 160) (hck : ckN tr tz = false) (f_x : μ x = some (hp_o 6 [.ref ty, .ref la, .ref ar, .ref rd])) (f_ty : μ ty = some (hp_o 4 [.ref tb, .int (nI tz)])) (f_tb : μ tb = some (hp_n X 160 tr)) : Ct l X yX10_check cX10_check 2 (some FieldType.int) 4 160 0 0 [.ref x] μ nx (hq_i X (po_i nx (-13) (fun z => z = μ))) := by
  refine hp_met (by decide) (Nat.le_of_ble_eq_true rfl) ?_
  intro p e s m below meth c ls hx hb hml hr hlocks hown hin hS hH hl
  have hl : lv_has ls 2 [(0, .ref x)] := hl
  refine lv_aload_n hx hb dX10_check_0 rfl (lv_at hl 0 rfl) ?_
  refine hp_get hx hb hown hS.2.1 hH (F_X10_14.use hS) f_x rfl dX10_check_1 ?_
  refine hp_get hx hb hown hS.2.1 hH (F_X10_79.use hS) f_ty rfl dX10_check_4 ?_
  refine lv_bipush (v := nI 9) hx hb dX10_check_7 (by decide) ?_
  refine lv_idiv hx hb dX10_check_9 (nI_ne0 (by omega) (by omega)) ?_
  refine hp_eqi (z := nI (tz / 9)) (pk_div (by omega) (by omega) (by omega)) ?_
  refine lv_istore_n (lv' := [(1, .int (nI (tz / 9))), (0, .ref x)]) hx hb dX10_check_10 rfl hl (by decide) rfl (fun ls hl => ?_)
  refine lv_iload_n hx hb dX10_check_11 rfl (lv_at hl 0 rfl) ?_
  refine lv_iconst (v := nI 1) hx hb dX10_check_12 (by decide) ?_
  refine lv_icmp_lt (tgt := 40) hx hb dX10_check_13 (by decide) (fun c_13 => ?_) (fun c_13 => ?_)
  · have c_13 : (tz / 9) < 1 := (nI_ltI (by omega) (by omega)).mp c_13
    refine lv_bipush (v := (-13)) hx hb dX10_check_40 (by decide) ?_
    exact hp_ri hx hb hr hlocks hS hH (⟨rfl, rfl, rfl⟩) dX10_check_42
  · have c_13 : ¬ ((tz / 9) < 1) := fun z => c_13 ((nI_ltI (by omega) (by omega)).mpr z)
    refine lv_aload_n hx hb dX10_check_16 rfl (lv_at hl 1 rfl) ?_
    refine hp_get hx hb hown hS.2.1 hH (F_X10_14.use hS) f_x rfl dX10_check_17 ?_
    refine hp_get hx hb hown hS.2.1 hH (F_X10_79.use hS) f_ty rfl dX10_check_20 ?_
    refine lv_bipush (v := nI 9) hx hb dX10_check_23 (by decide) ?_
    refine lv_irem hx hb dX10_check_25 (nI_ne0 (by omega) (by omega)) ?_
    refine hp_eqi (z := nI (tz % 9)) (pk_rem (by omega) (by omega) (by omega)) ?_
    refine lv_if_ne (tgt := 40) hx hb dX10_check_26 (by decide) (fun c_26 => ?_) (fun c_26 => ?_)
    · have c_26 : ¬ (tz % 9 = 0) := nz_n (by omega) c_26
      refine lv_bipush (v := (-13)) hx hb dX10_check_40 (by decide) ?_
      exact hp_ri hx hb hr hlocks hS hH (⟨rfl, rfl, rfl⟩) dX10_check_42
    · have c_26 : (tz % 9) = 0 := nz_0 (by omega) c_26
      refine lv_aload_n hx hb dX10_check_29 rfl (lv_at hl 1 rfl) ?_
      refine hp_get hx hb hown hS.2.1 hH (F_X10_14.use hS) f_x rfl dX10_check_30 ?_
      refine lv_iload_n hx hb dX10_check_33 rfl (lv_at hl 0 rfl) ?_
      refine hp_kip (hp_runV (As := [.int (nI (tz / 9))]) (rest := []) hx hb hml hown hS hH (c_X8_beginsWithOctets l X h01 (by decide) (by omega) htz f_ty f_tb) M_X10_86 I_X8_beginsWithOctets V_X8_beginsWithOctets (ci := 4) rfl rfl f_ty rfl hl.1 rfl (Nat.le_of_ble_eq_true rfl) dX10_check_34 ⟨Nat.le_of_ble_eq_true rfl, Nat.le_of_ble_eq_true rfl⟩ ⟨Nat.le_of_ble_eq_true rfl, Nat.le_of_ble_eq_true rfl⟩) hH (fun H locs hH => ?_)
      refine lv_if_ne (tgt := 43) hx hb dX10_check_37 (by decide) (fun c_37 => ?_) (fun c_37 => ?_)
      · have c_37 : (begN tr tz (tz / 9)) = true := nB_n c_37
        exact (ckN_f hck (by omega) c_26 c_37).elim
      · have c_37 : (begN tr tz (tz / 9)) = false := nB_0 c_37
        refine lv_bipush (v := (-13)) hx hb dX10_check_40 (by decide) ?_
        exact hp_ri hx hb hr hlocks hS hH (⟨rfl, rfl, rfl⟩) dX10_check_42

set_option maxHeartbeats 4000000 in
set_option maxRecDepth 100000 in
theorem c_X10_check_ok (l : Launch) (X : hp_X) {μ : hp_M} {nx : Nat} {x ty la ar rd tb tz : Nat} {tr : Nat → Nat} (h01 : ∀ j, tr j < 2) (htz : tz ≤ 160) (hck : ckN tr tz = true) (hroom : tz + 18 ≤ 160) (f_x : μ x = some (hp_o 6 [.ref ty, .ref la, .ref ar, .ref rd])) (f_ty : μ ty = some (hp_o 4 [.ref tb, .int (nI tz)])) (f_tb : μ tb = some (hp_n X 160 tr)) : Ct l X yX10_check cX10_check 2 (some FieldType.int) 4 160 0 0 [.ref x] μ nx (hq_i X (po_i nx (nI (tz + 9 + 9)) (fun z => z ty = some (hp_o 4 [.ref tb, .int (nI (tz + 9 + 9))]) ∧ z tb = some (hp_n X 160 (laX tr tz)) ∧ hp_eq [ty, tb] z μ))) := by
  refine hp_met (by decide) (Nat.le_of_ble_eq_true rfl) ?_
  intro p e s m below meth c ls hx hb hml hr hlocks hown hin hS hH hl
  have hl : lv_has ls 2 [(0, .ref x)] := hl
  have fr : hp_eq [ty, tb] μ μ := fun _ _ => rfl
  refine lv_aload_n hx hb dX10_check_0 rfl (lv_at hl 0 rfl) ?_
  refine hp_get hx hb hown hS.2.1 hH (F_X10_14.use hS) f_x rfl dX10_check_1 ?_
  refine hp_get hx hb hown hS.2.1 hH (F_X10_79.use hS) f_ty rfl dX10_check_4 ?_
  refine lv_bipush (v := nI 9) hx hb dX10_check_7 (by decide) ?_
  refine lv_idiv hx hb dX10_check_9 (nI_ne0 (by omega) (by omega)) ?_
  refine hp_eqi (z := nI (tz / 9)) (pk_div (by omega) (by omega) (by omega)) ?_
  refine lv_istore_n (lv' := [(1, .int (nI (tz / 9))), (0, .ref x)]) hx hb dX10_check_10 rfl hl (by decide) rfl (fun ls hl => ?_)
  refine lv_iload_n hx hb dX10_check_11 rfl (lv_at hl 0 rfl) ?_
  refine lv_iconst (v := nI 1) hx hb dX10_check_12 (by decide) ?_
  refine lv_icmp_lt (tgt := 40) hx hb dX10_check_13 (by decide) (fun c_13 => ?_) (fun c_13 => ?_)
  · have c_13 : (tz / 9) < 1 := (nI_ltI (by omega) (by omega)).mp c_13
    exfalso
    obtain ⟨g1, g2, g3⟩ := ckN_t hck
    first | omega | (rw [g3] at c_37; exact absurd c_37 (by decide))
  · have c_13 : ¬ ((tz / 9) < 1) := fun z => c_13 ((nI_ltI (by omega) (by omega)).mpr z)
    refine lv_aload_n hx hb dX10_check_16 rfl (lv_at hl 1 rfl) ?_
    refine hp_get hx hb hown hS.2.1 hH (F_X10_14.use hS) f_x rfl dX10_check_17 ?_
    refine hp_get hx hb hown hS.2.1 hH (F_X10_79.use hS) f_ty rfl dX10_check_20 ?_
    refine lv_bipush (v := nI 9) hx hb dX10_check_23 (by decide) ?_
    refine lv_irem hx hb dX10_check_25 (nI_ne0 (by omega) (by omega)) ?_
    refine hp_eqi (z := nI (tz % 9)) (pk_rem (by omega) (by omega) (by omega)) ?_
    refine lv_if_ne (tgt := 40) hx hb dX10_check_26 (by decide) (fun c_26 => ?_) (fun c_26 => ?_)
    · have c_26 : ¬ (tz % 9 = 0) := nz_n (by omega) c_26
      exfalso
      obtain ⟨g1, g2, g3⟩ := ckN_t hck
      first | omega | (rw [g3] at c_37; exact absurd c_37 (by decide))
    · have c_26 : (tz % 9) = 0 := nz_0 (by omega) c_26
      refine lv_aload_n hx hb dX10_check_29 rfl (lv_at hl 1 rfl) ?_
      refine hp_get hx hb hown hS.2.1 hH (F_X10_14.use hS) f_x rfl dX10_check_30 ?_
      refine lv_iload_n hx hb dX10_check_33 rfl (lv_at hl 0 rfl) ?_
      refine hp_kip (hp_runV (As := [.int (nI (tz / 9))]) (rest := []) hx hb hml hown hS hH (c_X8_beginsWithOctets l X h01 (by decide) (by omega) htz f_ty f_tb) M_X10_86 I_X8_beginsWithOctets V_X8_beginsWithOctets (ci := 4) rfl rfl f_ty rfl hl.1 rfl (Nat.le_of_ble_eq_true rfl) dX10_check_34 ⟨Nat.le_of_ble_eq_true rfl, Nat.le_of_ble_eq_true rfl⟩ ⟨Nat.le_of_ble_eq_true rfl, Nat.le_of_ble_eq_true rfl⟩) hH (fun H locs hH => ?_)
      refine lv_if_ne (tgt := 43) hx hb dX10_check_37 (by decide) (fun c_37 => ?_) (fun c_37 => ?_)
      · have c_37 : (begN tr tz (tz / 9)) = true := nB_n c_37
        refine lv_aload_n hx hb dX10_check_43 rfl (lv_at hl 1 rfl) ?_
        refine hp_get hx hb hown hS.2.1 hH (F_X10_14.use hS) f_x rfl dX10_check_44 ?_
        refine lv_bipush (v := nI 18) hx hb dX10_check_47 (by decide) ?_
        refine hp_kip (hp_runV (As := [.int (nI 18)]) (rest := []) hx hb hml hown hS hH (c_X8_hasRoomFor l X (n := 18) (by decide) (by decide) (by omega) f_ty f_tb) M_X10_72 I_X8_hasRoomFor V_X8_hasRoomFor (ci := 4) rfl rfl f_ty rfl hl.1 rfl (Nat.le_of_ble_eq_true rfl) dX10_check_49 ⟨Nat.le_of_ble_eq_true rfl, Nat.le_of_ble_eq_true rfl⟩ ⟨Nat.le_of_ble_eq_true rfl, Nat.le_of_ble_eq_true rfl⟩) hH (fun H locs hH => ?_)
        refine lv_if_ne (tgt := 58) hx hb dX10_check_52 (by decide) (fun c_52 => ?_) (fun c_52 => ?_)
        · have c_52 : (decide (tz + 18 ≤ 160)) = true := nB_n c_52
          refine lv_aload_n hx hb dX10_check_58 rfl (lv_at hl 1 rfl) ?_
          refine hp_get hx hb hown hS.2.1 hH (F_X10_14.use hS) f_x rfl dX10_check_59 ?_
          refine hp_kvm (hp_runV (As := []) (rest := []) hx hb hml hown hS hH (c_X8_addCheck l X h01 (by decide) hroom f_ty f_tb) M_X10_89 I_X8_addCheck V_X8_addCheck (ci := 4) rfl rfl f_ty rfl hl.1 rfl (Nat.le_of_ble_eq_true rfl) dX10_check_62 ⟨Nat.le_of_ble_eq_true rfl, Nat.le_of_ble_eq_true rfl⟩ ⟨Nat.le_of_ble_eq_true rfl, Nat.le_of_ble_eq_true rfl⟩) hH (fun μ1 H locs hp hH => ?_)
          obtain ⟨fz0, fz1, fe⟩ := hp
          have f_x := (hp_e2 fe (hp_ne f_x f_ty (by simp)) (hp_ne f_x f_tb (by simp))).trans f_x
          have f_ty : μ1 ty = some (hp_o 4 [.ref tb, .int (nI (tz + 9 + 9))]) := fz0
          have f_tb : μ1 tb = some (hp_n X 160 (laX tr tz)) := fz1
          have fr := hp_eq.tr2 fe fr (by simp) (by simp)
          clear fe fz0 fz1
          refine lv_aload_n hx hb dX10_check_65 rfl (lv_at hl 1 rfl) ?_
          refine hp_get hx hb hown hS.2.1 hH (F_X10_14.use hS) f_x rfl dX10_check_66 ?_
          refine hp_get hx hb hown hS.2.1 hH (F_X10_79.use hS) f_ty rfl dX10_check_69 ?_
          exact hp_ri hx hb hr hlocks hS hH (⟨rfl, rfl, f_ty, f_tb, fr⟩) dX10_check_72
        · have c_52 : (decide (tz + 18 ≤ 160)) = false := nB_0 c_52
          exact absurd hroom (by have := of_decide_eq_false c_52; omega)
      · have c_37 : (begN tr tz (tz / 9)) = false := nB_0 c_37
        exfalso
        obtain ⟨g1, g2, g3⟩ := ckN_t hck
        first | omega | (rw [g3] at c_37; exact absurd c_37 (by decide))

set_option maxHeartbeats 4000000 in
set_option maxRecDepth 100000 in
theorem c_X10_check_full (l : Launch) (X : hp_X) {μ : hp_M} {nx : Nat} {x ty la ar rd tb tz : Nat} {tr : Nat → Nat} (h01 : ∀ j, tr j < 2) (htz : tz ≤ 160) (hck : ckN tr tz = true) (hroom : 160 < tz + 18) (f_x : μ x = some (hp_o 6 [.ref ty, .ref la, .ref ar, .ref rd])) (f_ty : μ ty = some (hp_o 4 [.ref tb, .int (nI tz)])) (f_tb : μ tb = some (hp_n X 160 tr)) : Ct l X yX10_check cX10_check 2 (some FieldType.int) 4 160 0 0 [.ref x] μ nx (hq_i X (po_i nx (-14) (fun z => z = μ))) := by
  refine hp_met (by decide) (Nat.le_of_ble_eq_true rfl) ?_
  intro p e s m below meth c ls hx hb hml hr hlocks hown hin hS hH hl
  have hl : lv_has ls 2 [(0, .ref x)] := hl
  refine lv_aload_n hx hb dX10_check_0 rfl (lv_at hl 0 rfl) ?_
  refine hp_get hx hb hown hS.2.1 hH (F_X10_14.use hS) f_x rfl dX10_check_1 ?_
  refine hp_get hx hb hown hS.2.1 hH (F_X10_79.use hS) f_ty rfl dX10_check_4 ?_
  refine lv_bipush (v := nI 9) hx hb dX10_check_7 (by decide) ?_
  refine lv_idiv hx hb dX10_check_9 (nI_ne0 (by omega) (by omega)) ?_
  refine hp_eqi (z := nI (tz / 9)) (pk_div (by omega) (by omega) (by omega)) ?_
  refine lv_istore_n (lv' := [(1, .int (nI (tz / 9))), (0, .ref x)]) hx hb dX10_check_10 rfl hl (by decide) rfl (fun ls hl => ?_)
  refine lv_iload_n hx hb dX10_check_11 rfl (lv_at hl 0 rfl) ?_
  refine lv_iconst (v := nI 1) hx hb dX10_check_12 (by decide) ?_
  refine lv_icmp_lt (tgt := 40) hx hb dX10_check_13 (by decide) (fun c_13 => ?_) (fun c_13 => ?_)
  · have c_13 : (tz / 9) < 1 := (nI_ltI (by omega) (by omega)).mp c_13
    exfalso
    obtain ⟨g1, g2, g3⟩ := ckN_t hck
    first | omega | (rw [g3] at c_37; exact absurd c_37 (by decide))
  · have c_13 : ¬ ((tz / 9) < 1) := fun z => c_13 ((nI_ltI (by omega) (by omega)).mpr z)
    refine lv_aload_n hx hb dX10_check_16 rfl (lv_at hl 1 rfl) ?_
    refine hp_get hx hb hown hS.2.1 hH (F_X10_14.use hS) f_x rfl dX10_check_17 ?_
    refine hp_get hx hb hown hS.2.1 hH (F_X10_79.use hS) f_ty rfl dX10_check_20 ?_
    refine lv_bipush (v := nI 9) hx hb dX10_check_23 (by decide) ?_
    refine lv_irem hx hb dX10_check_25 (nI_ne0 (by omega) (by omega)) ?_
    refine hp_eqi (z := nI (tz % 9)) (pk_rem (by omega) (by omega) (by omega)) ?_
    refine lv_if_ne (tgt := 40) hx hb dX10_check_26 (by decide) (fun c_26 => ?_) (fun c_26 => ?_)
    · have c_26 : ¬ (tz % 9 = 0) := nz_n (by omega) c_26
      exfalso
      obtain ⟨g1, g2, g3⟩ := ckN_t hck
      first | omega | (rw [g3] at c_37; exact absurd c_37 (by decide))
    · have c_26 : (tz % 9) = 0 := nz_0 (by omega) c_26
      refine lv_aload_n hx hb dX10_check_29 rfl (lv_at hl 1 rfl) ?_
      refine hp_get hx hb hown hS.2.1 hH (F_X10_14.use hS) f_x rfl dX10_check_30 ?_
      refine lv_iload_n hx hb dX10_check_33 rfl (lv_at hl 0 rfl) ?_
      refine hp_kip (hp_runV (As := [.int (nI (tz / 9))]) (rest := []) hx hb hml hown hS hH (c_X8_beginsWithOctets l X h01 (by decide) (by omega) htz f_ty f_tb) M_X10_86 I_X8_beginsWithOctets V_X8_beginsWithOctets (ci := 4) rfl rfl f_ty rfl hl.1 rfl (Nat.le_of_ble_eq_true rfl) dX10_check_34 ⟨Nat.le_of_ble_eq_true rfl, Nat.le_of_ble_eq_true rfl⟩ ⟨Nat.le_of_ble_eq_true rfl, Nat.le_of_ble_eq_true rfl⟩) hH (fun H locs hH => ?_)
      refine lv_if_ne (tgt := 43) hx hb dX10_check_37 (by decide) (fun c_37 => ?_) (fun c_37 => ?_)
      · have c_37 : (begN tr tz (tz / 9)) = true := nB_n c_37
        refine lv_aload_n hx hb dX10_check_43 rfl (lv_at hl 1 rfl) ?_
        refine hp_get hx hb hown hS.2.1 hH (F_X10_14.use hS) f_x rfl dX10_check_44 ?_
        refine lv_bipush (v := nI 18) hx hb dX10_check_47 (by decide) ?_
        refine hp_kip (hp_runV (As := [.int (nI 18)]) (rest := []) hx hb hml hown hS hH (c_X8_hasRoomFor l X (n := 18) (by decide) (by decide) (by omega) f_ty f_tb) M_X10_72 I_X8_hasRoomFor V_X8_hasRoomFor (ci := 4) rfl rfl f_ty rfl hl.1 rfl (Nat.le_of_ble_eq_true rfl) dX10_check_49 ⟨Nat.le_of_ble_eq_true rfl, Nat.le_of_ble_eq_true rfl⟩ ⟨Nat.le_of_ble_eq_true rfl, Nat.le_of_ble_eq_true rfl⟩) hH (fun H locs hH => ?_)
        refine lv_if_ne (tgt := 58) hx hb dX10_check_52 (by decide) (fun c_52 => ?_) (fun c_52 => ?_)
        · have c_52 : (decide (tz + 18 ≤ 160)) = true := nB_n c_52
          exact absurd hroom (by have := of_decide_eq_true c_52; omega)
        · have c_52 : (decide (tz + 18 ≤ 160)) = false := nB_0 c_52
          refine lv_bipush (v := (-14)) hx hb dX10_check_55 (by decide) ?_
          exact hp_ri hx hb hr hlocks hS hH (⟨rfl, rfl, rfl⟩) dX10_check_57
      · have c_37 : (begN tr tz (tz / 9)) = false := nB_0 c_37
        exfalso
        obtain ⟨g1, g2, g3⟩ := ckN_t hck
        first | omega | (rw [g3] at c_37; exact absurd c_37 (by decide))

set_option maxHeartbeats 4000000 in
set_option maxRecDepth 100000 in
theorem c_X10_answer (l : Launch) (X : hp_X) {μ : hp_M} {nx : Nat} {x ty la ar rd lo lz ll j : Nat} (hj : j < ll) (hlo : lo < 2 ^ 45) (hlz : lz < 2 ^ 45) (hll : ll ≤ 45) (f_x : μ x = some (hp_o 6 [.ref ty, .ref la, .ref ar, .ref rd])) (f_la : μ la = some (hp_o 1 [.long (lN lo), .long (lN lz), .int (nI ll)])) : Ct l X yX10_answer cX10_answer 2 (some FieldType.int) 1 40 0 0 [.ref x, .int (nI j)] μ nx (hq_i X (po_i nx (nI (digN lo lz j)) (fun z => z = μ))) := by
  refine hp_met (by decide) (Nat.le_of_ble_eq_true rfl) ?_
  intro p e s m below meth c ls hx hb hml hr hlocks hown hin hS hH hl
  have hl : lv_has ls 2 [(0, .ref x), (1, .int (nI j))] := hl
  refine lv_aload_n hx hb dX10_answer_0 rfl (lv_at hl 0 rfl) ?_
  refine hp_get hx hb hown hS.2.1 hH (F_X10_21.use hS) f_x rfl dX10_answer_1 ?_
  refine lv_iload_n hx hb dX10_answer_4 rfl (lv_at hl 1 rfl) ?_
  refine hp_kip (hp_runV (As := [.int (nI j)]) (rest := []) hx hb hml hown hS hH (c_X2_bitAt l X hj (by omega) (by omega) (by omega) f_la) M_X10_99 I_X2_bitAt V_X2_bitAt (ci := 1) rfl rfl f_la rfl hl.1 rfl (Nat.le_of_ble_eq_true rfl) dX10_answer_5 ⟨Nat.le_of_ble_eq_true rfl, Nat.le_of_ble_eq_true rfl⟩ ⟨Nat.le_of_ble_eq_true rfl, Nat.le_of_ble_eq_true rfl⟩) hH (fun H locs hH => ?_)
  exact hp_ri hx hb hr hlocks hS hH (⟨rfl, rfl, rfl⟩) dX10_answer_8

set_option maxHeartbeats 4000000 in
set_option maxRecDepth 100000 in
theorem c_X10_answer_out (l : Launch) (X : hp_X) {μ : hp_M} {nx : Nat} {x ty la ar rd lo lz ll : Nat} {i : Int32} (hj : i < 0 ∨ nI ll ≤ i) (f_x : μ x = some (hp_o 6 [.ref ty, .ref la, .ref ar, .ref rd])) (f_la : μ la = some (hp_o 1 [.long (lN lo), .long (lN lz), .int (nI ll)])) : Ct l X yX10_answer cX10_answer 2 (some FieldType.int) 1 40 0 0 [.ref x, .int i] μ nx (hq_i X (po_i nx (-1) (fun z => z = μ))) := by
  refine hp_met (by decide) (Nat.le_of_ble_eq_true rfl) ?_
  intro p e s m below meth c ls hx hb hml hr hlocks hown hin hS hH hl
  have hl : lv_has ls 2 [(0, .ref x), (1, .int i)] := hl
  refine lv_aload_n hx hb dX10_answer_0 rfl (lv_at hl 0 rfl) ?_
  refine hp_get hx hb hown hS.2.1 hH (F_X10_21.use hS) f_x rfl dX10_answer_1 ?_
  refine lv_iload_n hx hb dX10_answer_4 rfl (lv_at hl 1 rfl) ?_
  refine hp_kip (hp_runV (As := [.int i]) (rest := []) hx hb hml hown hS hH (c_X2_bitAt_out l X hj f_la) M_X10_99 I_X2_bitAt V_X2_bitAt (ci := 1) rfl rfl f_la rfl hl.1 rfl (Nat.le_of_ble_eq_true rfl) dX10_answer_5 ⟨Nat.le_of_ble_eq_true rfl, Nat.le_of_ble_eq_true rfl⟩ ⟨Nat.le_of_ble_eq_true rfl, Nat.le_of_ble_eq_true rfl⟩) hH (fun H locs hH => ?_)
  exact hp_ri hx hb hr hlocks hS hH (⟨rfl, rfl, rfl⟩) dX10_answer_8

set_option maxHeartbeats 4000000 in
set_option maxRecDepth 100000 in
theorem c_X10_found (l : Launch) (X : hp_X) {μ : hp_M} {nx : Nat} {x ty la ar : Nat} {rd r a nb sz cnt kn kc : Nat} {nb1 sz1 : Nat → Nat} {i k : Nat} (hi : i < 2 ^ 31) (hk : k < 2 ^ 31) (hcnt : cnt ≤ 40) (hsz : ∀ j, j < cnt → sz1 j ≤ 10) (f_x : μ x = some (hp_o 6 [.ref ty, .ref la, .ref ar, .ref rd])) (f_rd : μ rd = some (hp_o 3 [.ref r, .ref a, .ref nb, .ref sz, .int (nI cnt), .long (lN kn), .int (nI kc)])) (f_nb : μ nb = some (hp_n X 400 nb1)) (f_sz : μ sz = some (hp_n X 40 sz1)) : Ct l X yX10_found cX10_found 3 (some FieldType.int) 1 40 0 0 [.ref x, .int (nI i), .int (nI k)] μ nx (hq_i X (po_i nx (if i < cnt ∧ k < sz1 i then nI (nb1 (10 * i + k)) else -1) (fun z => z = μ))) := by
  refine hp_met (by decide) (Nat.le_of_ble_eq_true rfl) ?_
  intro p e s m below meth c ls hx hb hml hr hlocks hown hin hS hH hl
  have hl : lv_has ls 3 [(0, .ref x), (1, .int (nI i)), (2, .int (nI k))] := hl
  refine lv_aload_n hx hb dX10_found_0 rfl (lv_at hl 0 rfl) ?_
  refine hp_get hx hb hown hS.2.1 hH (F_X10_35.use hS) f_x rfl dX10_found_1 ?_
  refine lv_iload_n hx hb dX10_found_4 rfl (lv_at hl 1 rfl) ?_
  refine lv_iload_n hx hb dX10_found_5 rfl (lv_at hl 2 rfl) ?_
  refine hp_kip (hp_runV (As := [.int (nI i), .int (nI k)]) (rest := []) hx hb hml hown hS hH (c_X6_byteFound l X hi hk hcnt hsz f_rd f_nb f_sz) M_X10_115 I_X6_byteFound V_X6_byteFound (ci := 3) rfl rfl f_rd rfl hl.1 rfl (Nat.le_of_ble_eq_true rfl) dX10_found_6 ⟨Nat.le_of_ble_eq_true rfl, Nat.le_of_ble_eq_true rfl⟩ ⟨Nat.le_of_ble_eq_true rfl, Nat.le_of_ble_eq_true rfl⟩) hH (fun H locs hH => ?_)
  exact hp_ri hx hb hr hlocks hS hH (⟨rfl, rfl, rfl⟩) dX10_found_9

set_option maxHeartbeats 4000000 in
set_option maxRecDepth 100000 in
theorem c_X10_found_i (l : Launch) (X : hp_X) {μ : hp_M} {nx : Nat} {x ty la ar : Nat} {rd r a nb sz cnt kn kc : Nat} {nb1 sz1 : Nat → Nat} {i k : Int32} (hi : i < 0) (f_x : μ x = some (hp_o 6 [.ref ty, .ref la, .ref ar, .ref rd])) (f_rd : μ rd = some (hp_o 3 [.ref r, .ref a, .ref nb, .ref sz, .int (nI cnt), .long (lN kn), .int (nI kc)])) (f_nb : μ nb = some (hp_n X 400 nb1)) (f_sz : μ sz = some (hp_n X 40 sz1)) : Ct l X yX10_found cX10_found 3 (some FieldType.int) 1 40 0 0 [.ref x, .int i, .int k] μ nx (hq_i X (po_i nx (-1) (fun z => z = μ))) := by
  refine hp_met (by decide) (Nat.le_of_ble_eq_true rfl) ?_
  intro p e s m below meth c ls hx hb hml hr hlocks hown hin hS hH hl
  have hl : lv_has ls 3 [(0, .ref x), (1, .int i), (2, .int k)] := hl
  refine lv_aload_n hx hb dX10_found_0 rfl (lv_at hl 0 rfl) ?_
  refine hp_get hx hb hown hS.2.1 hH (F_X10_35.use hS) f_x rfl dX10_found_1 ?_
  refine lv_iload_n hx hb dX10_found_4 rfl (lv_at hl 1 rfl) ?_
  refine lv_iload_n hx hb dX10_found_5 rfl (lv_at hl 2 rfl) ?_
  refine hp_kip (hp_runV (As := [.int i, .int k]) (rest := []) hx hb hml hown hS hH (c_X6_byteFound_i l X hi f_rd f_nb f_sz) M_X10_115 I_X6_byteFound V_X6_byteFound (ci := 3) rfl rfl f_rd rfl hl.1 rfl (Nat.le_of_ble_eq_true rfl) dX10_found_6 ⟨Nat.le_of_ble_eq_true rfl, Nat.le_of_ble_eq_true rfl⟩ ⟨Nat.le_of_ble_eq_true rfl, Nat.le_of_ble_eq_true rfl⟩) hH (fun H locs hH => ?_)
  exact hp_ri hx hb hr hlocks hS hH (⟨rfl, rfl, rfl⟩) dX10_found_9

set_option maxHeartbeats 4000000 in
set_option maxRecDepth 100000 in
theorem c_X10_found_k (l : Launch) (X : hp_X) {μ : hp_M} {nx : Nat} {x ty la ar : Nat} {rd r a nb sz cnt kn kc : Nat} {nb1 sz1 : Nat → Nat} {i : Nat} {k : Int32} (hk : k < 0) (hi : i < 2 ^ 31) (hcnt : cnt ≤ 40) (f_x : μ x = some (hp_o 6 [.ref ty, .ref la, .ref ar, .ref rd])) (f_rd : μ rd = some (hp_o 3 [.ref r, .ref a, .ref nb, .ref sz, .int (nI cnt), .long (lN kn), .int (nI kc)])) (f_nb : μ nb = some (hp_n X 400 nb1)) (f_sz : μ sz = some (hp_n X 40 sz1)) : Ct l X yX10_found cX10_found 3 (some FieldType.int) 1 40 0 0 [.ref x, .int (nI i), .int k] μ nx (hq_i X (po_i nx (-1) (fun z => z = μ))) := by
  refine hp_met (by decide) (Nat.le_of_ble_eq_true rfl) ?_
  intro p e s m below meth c ls hx hb hml hr hlocks hown hin hS hH hl
  have hl : lv_has ls 3 [(0, .ref x), (1, .int (nI i)), (2, .int k)] := hl
  refine lv_aload_n hx hb dX10_found_0 rfl (lv_at hl 0 rfl) ?_
  refine hp_get hx hb hown hS.2.1 hH (F_X10_35.use hS) f_x rfl dX10_found_1 ?_
  refine lv_iload_n hx hb dX10_found_4 rfl (lv_at hl 1 rfl) ?_
  refine lv_iload_n hx hb dX10_found_5 rfl (lv_at hl 2 rfl) ?_
  refine hp_kip (hp_runV (As := [.int (nI i), .int k]) (rest := []) hx hb hml hown hS hH (c_X6_byteFound_k l X hk hi hcnt f_rd f_nb f_sz) M_X10_115 I_X6_byteFound V_X6_byteFound (ci := 3) rfl rfl f_rd rfl hl.1 rfl (Nat.le_of_ble_eq_true rfl) dX10_found_6 ⟨Nat.le_of_ble_eq_true rfl, Nat.le_of_ble_eq_true rfl⟩ ⟨Nat.le_of_ble_eq_true rfl, Nat.le_of_ble_eq_true rfl⟩) hH (fun H locs hH => ?_)
  exact hp_ri hx hb hr hlocks hS hH (⟨rfl, rfl, rfl⟩) dX10_found_9
