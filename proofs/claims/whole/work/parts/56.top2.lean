set_option maxHeartbeats 4000000 in
set_option maxRecDepth 100000 in
theorem c_X10_frames (l : Launch) (X : hp_X) {μ : hp_M} {nx : Nat} {ar l1 f1 mc q n sent : Nat} {on : Bool} {f : Nat → Option Nat} {ta sa lv st le : Nat → Nat} {aw : Nat → Bool} {sh : Nat → Nat → Nat} {x ty la rd : Nat} (hA : AW X μ ar l1 f1 mc q n on sent f ta sa lv aw st le sh) (f_x : μ x = some (hp_o 6 [.ref ty, .ref la, .ref ar, .ref rd])) : Ct l X yX10_frames cX10_frames 1 (some FieldType.int) 1 40 0 0 [.ref x] μ nx (hq_i X (po_i nx (nI sent) (fun z => z = μ))) := by
  refine hp_met (by decide) (Nat.le_of_ble_eq_true rfl) ?_
  intro p e s m below meth c ls hx hb hml hr hlocks hown hin hS hH hl
  have hl : lv_has ls 1 [(0, .ref x)] := hl
  have hA0 := hA
  obtain ⟨f_air, f_l, hq, f_ts, f_ss, k1, lv1, se1, td1, tc1, f_f⟩ := hA
  refine lv_aload_n hx hb dX10_frames_0 rfl (lv_at hl 0 rfl) ?_
  refine hp_get hx hb hown hS.2.1 hH (F_X10_28.use hS) f_x rfl dX10_frames_1 ?_
  refine hp_get hx hb hown hS.2.1 hH (F_X10_119.use hS) f_air rfl dX10_frames_4 ?_
  exact hp_ri hx hb hr hlocks hS hH (⟨rfl, rfl, rfl⟩) dX10_frames_7

set_option maxHeartbeats 4000000 in
set_option maxRecDepth 100000 in
theorem c_X10_state_un (l : Launch) (X : hp_X) {μ : hp_M} {nx : Nat} {ar l1 f1 mc q n sent : Nat} {on : Bool} {f : Nat → Option Nat} {ta sa lv st le : Nat → Nat} {aw : Nat → Bool} {sh : Nat → Nat → Nat} {x ty la rd : Nat} {tg : Int32} (htg : tg < nI 1 ∨ nI n < tg) (hA : AW X μ ar l1 f1 mc q n on sent f ta sa lv aw st le sh) (f_x : μ x = some (hp_o 6 [.ref ty, .ref la, .ref ar, .ref rd])) : Ct l X yX10_state cX10_state 2 (some FieldType.int) 4 160 0 0 [.ref x, .int tg] μ nx (hq_i X (po_i nx (-11) (fun z => z = μ))) := by
  refine hp_met (by decide) (Nat.le_of_ble_eq_true rfl) ?_
  intro p e s m below meth c ls hx hb hml hr hlocks hown hin hS hH hl
  have hl : lv_has ls 2 [(0, .ref x), (1, .int tg)] := hl
  have hA0 := hA
  obtain ⟨f_air, f_l, hq, f_ts, f_ss, k1, lv1, se1, td1, tc1, f_f⟩ := hA
  refine lv_aload_n hx hb dX10_state_0 rfl (lv_at hl 0 rfl) ?_
  refine hp_get hx hb hown hS.2.1 hH (F_X10_28.use hS) f_x rfl dX10_state_1 ?_
  refine lv_iload_n hx hb dX10_state_4 rfl (lv_at hl 1 rfl) ?_
  refine hp_kip (hp_runV (As := [.int tg]) (rest := []) hx hb hml hown hS hH (c_X1_knows l X f_air f_l) M_X10_60 I_X1_knows V_X1_knows (ci := 0) rfl rfl f_air rfl hl.1 rfl (Nat.le_of_ble_eq_true rfl) dX10_state_5 ⟨Nat.le_of_ble_eq_true rfl, Nat.le_of_ble_eq_true rfl⟩ ⟨Nat.le_of_ble_eq_true rfl, Nat.le_of_ble_eq_true rfl⟩) hH (fun H locs hH => ?_)
  refine lv_if_eq (tgt := 22) hx hb dX10_state_8 (by decide) (fun c_8 => ?_) (fun c_8 => ?_)
  · have c_8 : (decide (nI 1 ≤ tg ∧ tg ≤ nI n)) = false := nB_0 c_8
    refine lv_bipush (v := (-11)) hx hb dX10_state_22 (by decide) ?_
    exact hp_ri hx hb hr hlocks hS hH (⟨rfl, rfl, rfl⟩) dX10_state_24
  · have c_8 : (decide (nI 1 ≤ tg ∧ tg ≤ nI n)) = true := nB_n c_8
    exact absurd (of_decide_eq_true c_8) (fun h9 => htg.elim (fun h8 => absurd h9.1 (Int32.not_le.mpr h8)) (fun h8 => absurd h9.2 (Int32.not_le.mpr h8)))

set_option maxHeartbeats 4000000 in
set_option maxRecDepth 100000 in
theorem c_X10_state (l : Launch) (X : hp_X) {μ : hp_M} {nx : Nat} {ar l1 f1 mc q n sent : Nat} {on : Bool} {f : Nat → Option Nat} {ta sa lv st le : Nat → Nat} {aw : Nat → Bool} {sh : Nat → Nat → Nat} {x ty la rd : Nat} {i : Nat} (hi : i < n) (hn16 : n ≤ 16) (hlv : ∀ j, j < n → 1 ≤ lv j ∧ lv j ≤ 3) (hst : ∀ j, j < n → st j < 8) (hle : ∀ j, j < n → 1 ≤ le j ∧ le j ≤ 3) (hsh : ∀ j, j < n → ∀ i, sh j i < 2 ^ 40) (hA : AW X μ ar l1 f1 mc q n on sent f ta sa lv aw st le sh) (f_x : μ x = some (hp_o 6 [.ref ty, .ref la, .ref ar, .ref rd])) : Ct l X yX10_state cX10_state 2 (some FieldType.int) 4 160 0 0 [.ref x, .int (nI (i + 1))] μ nx (hq_i X (po_i nx (nI (if st i = 2 ∨ st i = 5 then st i + 10 * (le i - 1) else st i)) (fun z => z = μ))) := by
  refine hp_met (by decide) (Nat.le_of_ble_eq_true rfl) ?_
  intro p e s m below meth c ls hx hb hml hr hlocks hown hin hS hH hl
  have hl : lv_has ls 2 [(0, .ref x), (1, .int (nI (i + 1)))] := hl
  have hA0 := hA
  obtain ⟨f_air, f_l, hq, f_ts, f_ss, k1, lv1, se1, td1, tc1, f_f⟩ := hA
  refine lv_aload_n hx hb dX10_state_0 rfl (lv_at hl 0 rfl) ?_
  refine hp_get hx hb hown hS.2.1 hH (F_X10_28.use hS) f_x rfl dX10_state_1 ?_
  refine lv_iload_n hx hb dX10_state_4 rfl (lv_at hl 1 rfl) ?_
  refine hp_kip (hp_runV (As := [.int (nI (i + 1))]) (rest := []) hx hb hml hown hS hH (c_X1_knows l X f_air f_l) M_X10_60 I_X1_knows V_X1_knows (ci := 0) rfl rfl f_air rfl hl.1 rfl (Nat.le_of_ble_eq_true rfl) dX10_state_5 ⟨Nat.le_of_ble_eq_true rfl, Nat.le_of_ble_eq_true rfl⟩ ⟨Nat.le_of_ble_eq_true rfl, Nat.le_of_ble_eq_true rfl⟩) hH (fun H locs hH => ?_)
  refine lv_if_eq (tgt := 22) hx hb dX10_state_8 (by decide) (fun c_8 => ?_) (fun c_8 => ?_)
  · have c_8 : (decide (nI 1 ≤ nI (i + 1) ∧ nI (i + 1) ≤ nI n)) = false := nB_0 c_8
    exact absurd c_8 (by rw [decide_eq_true (⟨(nI_leI (by omega) (by omega)).mpr (by omega), (nI_leI (by omega) (by omega)).mpr (by omega)⟩ : nI 1 ≤ nI (i + 1) ∧ nI (i + 1) ≤ nI n)]; decide)
  · have c_8 : (decide (nI 1 ≤ nI (i + 1) ∧ nI (i + 1) ≤ nI n)) = true := nB_n c_8
    refine lv_aload_n hx hb dX10_state_11 rfl (lv_at hl 0 rfl) ?_
    refine hp_get hx hb hown hS.2.1 hH (F_X10_28.use hS) f_x rfl dX10_state_12 ?_
    refine lv_iload_n hx hb dX10_state_15 rfl (lv_at hl 1 rfl) ?_
    refine hp_kip (hp_runV (As := [.int (nI (i + 1))]) (rest := []) hx hb hml hown hS hH (c_X1_stateOf l X hi hq hn16 f_ts f_ss hlv hst hle hsh f_air f_l) M_X10_103 I_X1_stateOf V_X1_stateOf (ci := 0) rfl rfl f_air rfl hl.1 rfl (Nat.le_of_ble_eq_true rfl) dX10_state_16 ⟨Nat.le_of_ble_eq_true rfl, Nat.le_of_ble_eq_true rfl⟩ ⟨Nat.le_of_ble_eq_true rfl, Nat.le_of_ble_eq_true rfl⟩) hH (fun H locs hH => ?_)
    refine lv_goto (tgt := 24) hx hb dX10_state_19 (by decide) ?_
    exact hp_ri hx hb hr hlocks hS hH (⟨rfl, rfl, rfl⟩) dX10_state_24

set_option maxHeartbeats 4000000 in
set_option maxRecDepth 100000 in
theorem c_X10_out_un (l : Launch) (X : hp_X) {μ : hp_M} {nx : Nat} {ar l1 f1 mc q n sent : Nat} {on : Bool} {f : Nat → Option Nat} {ta sa lv st le : Nat → Nat} {aw : Nat → Bool} {sh : Nat → Nat → Nat} {x ty la rd : Nat} {tg : Int32} (htg : tg < nI 1 ∨ nI n < tg) {is : Bool} (hA : AW X μ ar l1 f1 mc q n on sent f ta sa lv aw st le sh) (f_x : μ x = some (hp_o 6 [.ref ty, .ref la, .ref ar, .ref rd])) : Ct l X yX10_out cX10_out 3 (some FieldType.int) 4 160 0 0 [.ref x, .int tg, .int (nB is)] μ nx (hq_i X (po_i nx (-11) (fun z => z = μ))) := by
  refine hp_met (by decide) (Nat.le_of_ble_eq_true rfl) ?_
  intro p e s m below meth c ls hx hb hml hr hlocks hown hin hS hH hl
  have hl : lv_has ls 3 [(0, .ref x), (1, .int tg), (2, .int (nB is))] := hl
  have hA0 := hA
  obtain ⟨f_air, f_l, hq, f_ts, f_ss, k1, lv1, se1, td1, tc1, f_f⟩ := hA
  refine lv_aload_n hx hb dX10_out_0 rfl (lv_at hl 0 rfl) ?_
  refine hp_get hx hb hown hS.2.1 hH (F_X10_28.use hS) f_x rfl dX10_out_1 ?_
  refine lv_iload_n hx hb dX10_out_4 rfl (lv_at hl 1 rfl) ?_
  refine hp_kip (hp_runV (As := [.int tg]) (rest := []) hx hb hml hown hS hH (c_X1_knows l X f_air f_l) M_X10_60 I_X1_knows V_X1_knows (ci := 0) rfl rfl f_air rfl hl.1 rfl (Nat.le_of_ble_eq_true rfl) dX10_out_5 ⟨Nat.le_of_ble_eq_true rfl, Nat.le_of_ble_eq_true rfl⟩ ⟨Nat.le_of_ble_eq_true rfl, Nat.le_of_ble_eq_true rfl⟩) hH (fun H locs hH => ?_)
  refine lv_if_eq (tgt := 23) hx hb dX10_out_8 (by decide) (fun c_8 => ?_) (fun c_8 => ?_)
  · have c_8 : (decide (nI 1 ≤ tg ∧ tg ≤ nI n)) = false := nB_0 c_8
    refine lv_bipush (v := (-11)) hx hb dX10_out_23 (by decide) ?_
    exact hp_ri hx hb hr hlocks hS hH (⟨rfl, rfl, rfl⟩) dX10_out_25
  · have c_8 : (decide (nI 1 ≤ tg ∧ tg ≤ nI n)) = true := nB_n c_8
    exact absurd (of_decide_eq_true c_8) (fun h9 => htg.elim (fun h8 => absurd h9.1 (Int32.not_le.mpr h8)) (fun h8 => absurd h9.2 (Int32.not_le.mpr h8)))

set_option maxHeartbeats 4000000 in
set_option maxRecDepth 100000 in
theorem c_X10_out (l : Launch) (X : hp_X) {μ : hp_M} {nx : Nat} {ar l1 f1 mc q n sent : Nat} {on : Bool} {f : Nat → Option Nat} {ta sa lv st le : Nat → Nat} {aw : Nat → Bool} {sh : Nat → Nat → Nat} {x ty la rd : Nat} {i : Nat} {is : Bool} (hi : i < n) (hn16 : n ≤ 16) (hinj : ∀ i j, i < n → j < n → ta i = ta j → i = j) (hA : AW X μ ar l1 f1 mc q n on sent f ta sa lv aw st le sh) (f_x : μ x = some (hp_o 6 [.ref ty, .ref la, .ref ar, .ref rd])) : Ct l X yX10_out cX10_out 3 (some FieldType.int) 4 160 0 0 [.ref x, .int (nI (i + 1)), .int (nB is)] μ nx (hq_i X (po_i nx (if ¬ aw i = is then nI 1 else nI 0) (fun z => AW X z ar l1 f1 mc q n on sent f ta sa lv (setB aw i is) (setN st i (if aw i = is then st i else if on = true ∧ is = false then 1 else 0)) le sh ∧ hp_eq [ta i] z μ))) := by
  refine hp_met (by decide) (Nat.le_of_ble_eq_true rfl) ?_
  intro p e s m below meth c ls hx hb hml hr hlocks hown hin hS hH hl
  have hl : lv_has ls 3 [(0, .ref x), (1, .int (nI (i + 1))), (2, .int (nB is))] := hl
  have hA0 := hA
  obtain ⟨f_air, f_l, hq, f_ts, f_ss, k1, lv1, se1, td1, tc1, f_f⟩ := hA
  refine lv_aload_n hx hb dX10_out_0 rfl (lv_at hl 0 rfl) ?_
  refine hp_get hx hb hown hS.2.1 hH (F_X10_28.use hS) f_x rfl dX10_out_1 ?_
  refine lv_iload_n hx hb dX10_out_4 rfl (lv_at hl 1 rfl) ?_
  refine hp_kip (hp_runV (As := [.int (nI (i + 1))]) (rest := []) hx hb hml hown hS hH (c_X1_knows l X f_air f_l) M_X10_60 I_X1_knows V_X1_knows (ci := 0) rfl rfl f_air rfl hl.1 rfl (Nat.le_of_ble_eq_true rfl) dX10_out_5 ⟨Nat.le_of_ble_eq_true rfl, Nat.le_of_ble_eq_true rfl⟩ ⟨Nat.le_of_ble_eq_true rfl, Nat.le_of_ble_eq_true rfl⟩) hH (fun H locs hH => ?_)
  refine lv_if_eq (tgt := 23) hx hb dX10_out_8 (by decide) (fun c_8 => ?_) (fun c_8 => ?_)
  · have c_8 : (decide (nI 1 ≤ nI (i + 1) ∧ nI (i + 1) ≤ nI n)) = false := nB_0 c_8
    exact absurd c_8 (by rw [decide_eq_true (⟨(nI_leI (by omega) (by omega)).mpr (by omega), (nI_leI (by omega) (by omega)).mpr (by omega)⟩ : nI 1 ≤ nI (i + 1) ∧ nI (i + 1) ≤ nI n)]; decide)
  · have c_8 : (decide (nI 1 ≤ nI (i + 1) ∧ nI (i + 1) ≤ nI n)) = true := nB_n c_8
    refine lv_aload_n hx hb dX10_out_11 rfl (lv_at hl 0 rfl) ?_
    refine hp_get hx hb hown hS.2.1 hH (F_X10_28.use hS) f_x rfl dX10_out_12 ?_
    refine lv_iload_n hx hb dX10_out_15 rfl (lv_at hl 1 rfl) ?_
    refine lv_iload_n hx hb dX10_out_16 rfl (lv_at hl 2 rfl) ?_
    have f_t : μ (ta i) = some (hTG sa lv aw st le i) := f_ts i hi
    refine hp_kim (hp_runV (As := [.int (nI (i + 1)), .int (nB is)]) (rest := []) hx hb hml hown hS hH (c_X1_move l X (is := is) hi hq hn16 f_ts f_ss f_air f_l) M_X10_64 I_X1_move V_X1_move (ci := 0) rfl rfl f_air rfl hl.1 rfl (Nat.le_of_ble_eq_true rfl) dX10_out_17 ⟨Nat.le_of_ble_eq_true rfl, Nat.le_of_ble_eq_true rfl⟩ ⟨Nat.le_of_ble_eq_true rfl, Nat.le_of_ble_eq_true rfl⟩) hH (fun μ1 H locs hp hH => ?_)
    obtain ⟨fz0, fe⟩ := hp
    refine lv_goto (tgt := 25) hx hb dX10_out_20 (by decide) ?_
    exact hp_ri hx hb hr hlocks hS hH (⟨rfl, rfl, hA0.move hinj hi fz0 fe, fe⟩) dX10_out_25

set_option maxHeartbeats 4000000 in
set_option maxRecDepth 100000 in
theorem c_X10_field_same (l : Launch) (X : hp_X) {μ : hp_M} {nx : Nat} {ar l1 f1 mc q n sent : Nat} {on : Bool} {f : Nat → Option Nat} {ta sa lv st le : Nat → Nat} {aw : Nat → Bool} {sh : Nat → Nat → Nat} {x ty la rd : Nat} {to : Bool} (hto : on = to) (hA : AW X μ ar l1 f1 mc q n on sent f ta sa lv aw st le sh) (f_x : μ x = some (hp_o 6 [.ref ty, .ref la, .ref ar, .ref rd])) : Ct l X yX10_field cX10_field 2 (some FieldType.int) 4 160 0 0 [.ref x, .int (nB to)] μ nx (hq_i X (po_i nx (nI 0) (fun z => z = μ))) := by
  refine hp_met (by decide) (Nat.le_of_ble_eq_true rfl) ?_
  intro p e s m below meth c ls hx hb hml hr hlocks hown hin hS hH hl
  have hl : lv_has ls 2 [(0, .ref x), (1, .int (nB to))] := hl
  have hA0 := hA
  obtain ⟨f_air, f_l, hq, f_ts, f_ss, k1, lv1, se1, td1, tc1, f_f⟩ := hA
  refine lv_aload_n hx hb dX10_field_0 rfl (lv_at hl 0 rfl) ?_
  refine hp_get hx hb hown hS.2.1 hH (F_X10_28.use hS) f_x rfl dX10_field_1 ?_
  refine lv_iload_n hx hb dX10_field_4 rfl (lv_at hl 1 rfl) ?_
  refine hp_kip (hp_runV (As := [.int (nB to)]) (rest := []) hx hb hml hown hS hH (c_X1_turn_same l X hto f_air f_l) M_X10_68 I_X1_turn V_X1_turn (ci := 0) rfl rfl f_air rfl hl.1 rfl (Nat.le_of_ble_eq_true rfl) dX10_field_5 ⟨Nat.le_of_ble_eq_true rfl, Nat.le_of_ble_eq_true rfl⟩ ⟨Nat.le_of_ble_eq_true rfl, Nat.le_of_ble_eq_true rfl⟩) hH (fun H locs hH => ?_)
  exact hp_ri hx hb hr hlocks hS hH (⟨rfl, rfl, rfl⟩) dX10_field_8

set_option maxHeartbeats 4000000 in
set_option maxRecDepth 100000 in
theorem c_X10_field (l : Launch) (X : hp_X) {μ : hp_M} {nx : Nat} {ar l1 f1 mc q n sent : Nat} {on : Bool} {f : Nat → Option Nat} {ta sa lv st le : Nat → Nat} {aw : Nat → Bool} {sh : Nat → Nat → Nat} {x ty la rd : Nat} {to : Bool} (hto : ¬ on = to) (hn16 : n ≤ 16) (hinj : ∀ i j, i < n → j < n → ta i = ta j → i = j) (hA : AW X μ ar l1 f1 mc q n on sent f ta sa lv aw st le sh) (f_x : μ x = some (hp_o 6 [.ref ty, .ref la, .ref ar, .ref rd])) : Ct l X yX10_field cX10_field 2 (some FieldType.int) 4 160 0 0 [.ref x, .int (nB to)] μ nx (hq_i X (po_i nx (nI 1) (fun z => AW X z ar l1 f1 mc q n to sent f ta sa lv aw (fun j => if to = true ∧ aw j = false then 1 else 0) le sh ∧ hp_eqP (fun c9 => c9 = ar ∨ ∃ j, j < n ∧ c9 = ta j) z μ))) := by
  refine hp_met (by decide) (Nat.le_of_ble_eq_true rfl) ?_
  intro p e s m below meth c ls hx hb hml hr hlocks hown hin hS hH hl
  have hl : lv_has ls 2 [(0, .ref x), (1, .int (nB to))] := hl
  have hA0 := hA
  obtain ⟨f_air, f_l, hq, f_ts, f_ss, k1, lv1, se1, td1, tc1, f_f⟩ := hA
  refine lv_aload_n hx hb dX10_field_0 rfl (lv_at hl 0 rfl) ?_
  refine hp_get hx hb hown hS.2.1 hH (F_X10_28.use hS) f_x rfl dX10_field_1 ?_
  refine lv_iload_n hx hb dX10_field_4 rfl (lv_at hl 1 rfl) ?_
  refine hp_kim (hp_runV (As := [.int (nB to)]) (rest := []) hx hb hml hown hS hH (c_X1_turn l X hto hq hn16 f_ts f_ss hinj f_air f_l) M_X10_68 I_X1_turn V_X1_turn (ci := 0) rfl rfl f_air rfl hl.1 rfl (Nat.le_of_ble_eq_true rfl) dX10_field_5 ⟨Nat.le_of_ble_eq_true rfl, Nat.le_of_ble_eq_true rfl⟩ ⟨Nat.le_of_ble_eq_true rfl, Nat.le_of_ble_eq_true rfl⟩) hH (fun μ1 H locs hp hH => ?_)
  obtain ⟨g1, g2, g3, g4, g5, fe⟩ := hp
  have g6 := (fe f1 (by rintro (e9 | ⟨j, hj, e9⟩); exact hp_ne f_f f_air (by simp) e9; exact hp_ne f_f (f_ts j hj) (by simp [hTG]) e9)).trans f_f
  exact hp_ri hx hb hr hlocks hS hH (⟨rfl, rfl, ⟨g1, g2, g3, g4, g5, _, _, _, _, _, g6⟩, fe⟩) dX10_field_8

set_option maxHeartbeats 4000000 in
set_option maxRecDepth 100000 in
theorem c_X10_go (l : Launch) (X : hp_X) {μ : hp_M} {nx : Nat} {ar l1 f1 mc q n sent : Nat} {on : Bool} {f : Nat → Option Nat} {ta sa lv st le : Nat → Nat} {aw : Nat → Bool} {sh : Nat → Nat → Nat} {x ty la rd : Nat} {tb tz lo lz ll : Nat} {tr : Nat → Nat} (h01 : ∀ j, tr j < 2) (htz : tz ≤ 160) (hsent : sent < 2 ^ 30) (hn16 : n ≤ 16) (hlv : ∀ j, j < n → 1 ≤ lv j ∧ lv j ≤ 3) (hst : ∀ j, j < n → st j < 8) (hle : ∀ j, j < n → 1 ≤ le j ∧ le j ≤ 3) (hsh : ∀ j, j < n → ∀ i, sh j i < 2 ^ 40) (hinj : ∀ i j, i < n → j < n → ta i = ta j → i = j) (hA : AW X μ ar l1 f1 mc q n on sent f ta sa lv aw st le sh) (f_x : μ x = some (hp_o 6 [.ref ty, .ref la, .ref ar, .ref rd])) (f_ty : μ ty = some (hp_o 4 [.ref tb, .int (nI tz)])) (f_tb : μ tb = some (hp_n X 160 tr)) (f_la : μ la = some (hp_o 1 [.long (lN lo), .long (lN lz), .int (nI ll)])) : Ct l X yX10_go cX10_go 2 (some FieldType.int) 5 200 0 0 [.ref x] μ nx (hq_i X (po_i nx (nI (fN n tr tz lv st le sh)) (fun z => AW X z ar l1 f1 mc q n on (sent + 1) f ta sa lv aw (fS tr tz lv st le sh) (fL tr tz lv st le sh) sh ∧ z la = some (hp_o 1 [.long (lN (fO n tr tz lv st le sh)), .long (lN (fZ n tr tz lv st le sh)), .int (nI (fN n tr tz lv st le sh))]) ∧ z ty = some (hp_o 4 [.ref tb, .int (nI 0)]) ∧ z tb = some (hp_n X 160 tr) ∧ hp_eqP (tFP ar f1 la n ta ty tb) z μ))) := by
  refine hp_met (by decide) (Nat.le_of_ble_eq_true rfl) ?_
  intro p e s m below meth c ls hx hb hml hr hlocks hown hin hS hH hl
  have hl : lv_has ls 2 [(0, .ref x)] := hl
  have fr : hp_eqP (tFP ar f1 la n ta ty tb) μ μ := fun _ _ => rfl
  refine lv_aload_n hx hb dX10_go_0 rfl (lv_at hl 0 rfl) ?_
  refine hp_get hx hb hown hS.2.1 hH (F_X10_28.use hS) f_x rfl dX10_go_1 ?_
  refine lv_aload_n hx hb dX10_go_4 rfl (lv_at hl 0 rfl) ?_
  refine hp_get hx hb hown hS.2.1 hH (F_X10_14.use hS) f_x rfl dX10_go_5 ?_
  refine lv_aload_n hx hb dX10_go_8 rfl (lv_at hl 0 rfl) ?_
  refine hp_get hx hb hown hS.2.1 hH (F_X10_21.use hS) f_x rfl dX10_go_9 ?_
  have f_air := hA.1
  refine hp_kim (hp_runV (As := [.ref ty, .ref la]) (rest := []) hx hb hml hown hS hH (c_send l X (rb2 := tr) (fun _ _ => rfl) h01 (by decide) htz hsent hn16 hlv hst hle hsh hinj hA f_ty f_tb f_la) M_X10_92 I_X1_send V_X1_send (ci := 0) rfl rfl f_air rfl hl.1 rfl (Nat.le_of_ble_eq_true rfl) dX10_go_12 ⟨Nat.le_of_ble_eq_true rfl, Nat.le_of_ble_eq_true rfl⟩ ⟨Nat.le_of_ble_eq_true rfl, Nat.le_of_ble_eq_true rfl⟩) hH (fun μ1 H locs hp hH => ?_)
  obtain ⟨hA1, fz0, fe⟩ := hp
  have f_x := (fe _ (hA.out f_x (by simp [awE]) (hp_ne f_x f_la (by simp)))).trans f_x
  have f_ty := (fe _ (hA.out f_ty (by simp [awE]) (hp_ne f_ty f_la (by simp)))).trans f_ty
  have f_tb := (fe _ (hA.out f_tb (by simp [awE]) (hp_ne f_tb f_la (by simp)))).trans f_tb
  have hA := hA1
  have f_la : μ1 la = some (hp_o 1 [.long (lN (fO n tr tz lv st le sh)), .long (lN (fZ n tr tz lv st le sh)), .int (nI (fN n tr tz lv st le sh))]) := fz0
  have fr := hp_eqP.trP fe fr (fun q9 h9 => Or.inl h9)
  clear fe fz0 hA1 f_air
  refine lv_istore_n (lv' := [(1, .int (nI (fN n tr tz lv st le sh))), (0, .ref x)]) hx hb dX10_go_15 rfl hl (by decide) rfl (fun ls hl => ?_)
  refine lv_aload_n hx hb dX10_go_16 rfl (lv_at hl 1 rfl) ?_
  refine hp_get hx hb hown hS.2.1 hH (F_X10_14.use hS) f_x rfl dX10_go_17 ?_
  refine hp_kvm (hp_runV (As := []) (rest := []) hx hb hml hown hS hH (c_X8_clear l X f_ty) M_X10_96 I_X8_clear V_X8_clear (ci := 4) rfl rfl f_ty rfl hl.1 rfl (Nat.le_of_ble_eq_true rfl) dX10_go_20 ⟨Nat.le_of_ble_eq_true rfl, Nat.le_of_ble_eq_true rfl⟩ ⟨Nat.le_of_ble_eq_true rfl, Nat.le_of_ble_eq_true rfl⟩) hH (fun μ1 H locs hp hH => ?_)
  obtain ⟨fz0, fe⟩ := hp
  have hA := hA.keep (fun c9 e9 hc9 he9 => hp_e1 fe (aw_ne hc9 he9 f_ty (by simp [awE])))
  have f_x := (hp_e1 fe (hp_ne f_x f_ty (by simp))).trans f_x
  have f_tb := (hp_e1 fe (hp_ne f_tb f_ty (by simp))).trans f_tb
  have f_la := (hp_e1 fe (hp_ne f_la f_ty (by simp))).trans f_la
  have f_ty : μ1 ty = some (hp_o 4 [.ref tb, .int (nI 0)]) := fz0
  have fr := hp_eqP.tr fe fr (fun q9 hq9 => by rw [List.mem_singleton.mp hq9]; simp [tFP])
  clear fe fz0
  refine lv_iload_n hx hb dX10_go_23 rfl (lv_at hl 0 rfl) ?_
  exact hp_ri hx hb hr hlocks hS hH (⟨rfl, rfl, hA, f_la, f_ty, f_tb, fr⟩) dX10_go_24

set_option maxHeartbeats 4000000 in
set_option maxRecDepth 100000 in
theorem c_X10_round (l : Launch) (X : hp_X) {μ : hp_M} {nx : Nat} {x ty la : Nat} {rd r b a nb sz cnt kn kc size : Nat} {rb : Nat → Nat} {ar l1 f1 mc q n sent : Nat} {on : Bool} {f : Nat → Option Nat} {ta sa lv st le : Nat → Nat} {aw : Nat → Bool} {sh : Nat → Nat → Nat} {aon aze alen : Nat} {nb1 sz1 : Nat → Nat} {st9 le9 nb9 sz9 : Nat → Nat} {sent9 cnt9 : Nat} (hsent : sent + 5200 < 2 ^ 30) (h01 : ∀ j, rb j < 2) (hn16 : n ≤ 16) (hlv : ∀ j, j < n → 1 ≤ lv j ∧ lv j ≤ 3) (hst : ∀ j, j < n → st j < 8) (hle : ∀ j, j < n → 1 ≤ le j ∧ le j ≤ 3) (hsh : ∀ j, j < n → ∀ i, sh j i < 2 ^ 40) (hinj : ∀ i j, i < n → j < n → ta i = ta j → i = j) (hA : AW X μ ar l1 f1 mc q n on sent f ta sa lv aw st le sh) (hres : rnN n lv sh 40 st le sent nb1 sz1 0 = (st9, le9, sent9, nb9, sz9, cnt9)) (f_x : μ x = some (hp_o 6 [.ref ty, .ref la, .ref ar, .ref rd])) (f_rd : μ rd = some (hp_o 3 [.ref r, .ref a, .ref nb, .ref sz, .int (nI cnt), .long (lN kn), .int (nI kc)])) (f_r : μ r = some (hp_o 4 [.ref b, .int (nI size)])) (f_b : μ b = some (hp_n X 81 rb)) (f_a : μ a = some (hp_o 1 [.long (lN aon), .long (lN aze), .int (nI alen)])) (f_nb : μ nb = some (hp_n X 400 nb1)) (f_sz : μ sz = some (hp_n X 40 sz1)) : Ct l X yX10_round cX10_round 2 (some FieldType.int) 7 280 0 0 [.ref x] μ nx (hq_i X (po_i nx (nI cnt9) (fun z => ∃ (size9 on9 ze9 len9 kn9 kc9 : Nat) (rb9 : Nat → Nat), (∀ j, rb9 j < 2) ∧ z rd = some (hp_o 3 [.ref r, .ref a, .ref nb, .ref sz, .int (nI cnt9), .long (lN kn9), .int (nI kc9)]) ∧ z r = some (hp_o 4 [.ref b, .int (nI size9)]) ∧ z b = some (hp_n X 81 rb9) ∧ z a = some (hp_o 1 [.long (lN on9), .long (lN ze9), .int (nI len9)]) ∧ z nb = some (hp_n X 400 nb9) ∧ z sz = some (hp_n X 40 sz9) ∧ AW X z ar l1 f1 mc q n on sent9 f ta sa lv aw st9 le9 sh ∧ hp_eqP (gFP ar f1 a n ta rd r b nb sz) z μ))) := by
  refine hp_met (by decide) (Nat.le_of_ble_eq_true rfl) ?_
  intro p e s m below meth c ls hx hb hml hr hlocks hown hin hS hH hl
  have hl : lv_has ls 2 [(0, .ref x)] := hl
  have fr : hp_eqP (gFP ar f1 a n ta rd r b nb sz) μ μ := fun _ _ => rfl
  refine lv_aload_n hx hb dX10_round_0 rfl (lv_at hl 0 rfl) ?_
  refine hp_get hx hb hown hS.2.1 hH (F_X10_35.use hS) f_x rfl dX10_round_1 ?_
  refine hp_kvm (hp_runV (As := []) (rest := []) hx hb hml hown hS hH (c_X6_forget l X f_rd) M_X10_106 I_X6_forget V_X6_forget (ci := 3) rfl rfl f_rd rfl hl.1 rfl (Nat.le_of_ble_eq_true rfl) dX10_round_4 ⟨Nat.le_of_ble_eq_true rfl, Nat.le_of_ble_eq_true rfl⟩ ⟨Nat.le_of_ble_eq_true rfl, Nat.le_of_ble_eq_true rfl⟩) hH (fun μ1 H locs hp hH => ?_)
  obtain ⟨fz0, fe⟩ := hp
  have hA := hA.keep (fun c9 e9 hc9 he9 => hp_e1 fe (aw_ne hc9 he9 f_rd (by simp [awE])))
  have f_x := (hp_e1 fe (hp_ne f_x f_rd (by simp))).trans f_x
  have f_r := (hp_e1 fe (hp_ne f_r f_rd (by simp))).trans f_r
  have f_b := (hp_e1 fe (hp_ne f_b f_rd (by simp))).trans f_b
  have f_a := (hp_e1 fe (hp_ne f_a f_rd (by simp))).trans f_a
  have f_nb := (hp_e1 fe (hp_ne f_nb f_rd (by simp))).trans f_nb
  have f_sz := (hp_e1 fe (hp_ne f_sz f_rd (by simp))).trans f_sz
  have f_rd : μ1 rd = some (hp_o 3 [.ref r, .ref a, .ref nb, .ref sz, .int (nI 0), .long (lN kn), .int (nI kc)]) := fz0
  have fr := hp_eqP.tr fe fr (fun q9 hq9 => by rw [List.mem_singleton.mp hq9]; simp [gFP, rFP])
  clear fe fz0
  refine lv_iconst (v := nI 0) hx hb dX10_round_7 (by decide) ?_
  refine lv_istore_n (lv' := [(1, .int (nI 0)), (0, .ref x)]) hx hb dX10_round_8 rfl hl (by decide) rfl (fun ls hl => ?_)
  have lp_9 : ∀ (kk : Nat) (i : Nat) (st1 : Nat → Nat) (le1 : Nat → Nat) (sent1 : Nat) (nb2 : Nat → Nat) (sz2 : Nat → Nat) (cnt1 : Nat) (kn1 : Nat) (kc1 : Nat) (size1 : Nat) (rb1 : Nat → Nat) (on1 : Nat) (ze1 : Nat) (len1 : Nat), (i ≤ 40) → (cnt1 ≤ i) → (sent1 ≤ sent + 125 * i) → (∀ j, rb1 j < 2) → (∀ j, j < n → st1 j < 8) → (∀ j, j < n → 1 ≤ le1 j ∧ le1 j ≤ 3) → (∀ j, j < cnt1 → sz2 j ≤ 10) → (rnN n lv sh (40 - i) st1 le1 sent1 nb2 sz2 cnt1 = (st9, le9, sent9, nb9, sz9, cnt9)) → (40 - i) < kk → ∀ (μ1 : hp_M) (H : Heap) (locs : List Loc) (ls : Array Slot), (μ1 x = some (hp_o 6 [.ref ty, .ref la, .ref ar, .ref rd])) → (μ1 rd = some (hp_o 3 [.ref r, .ref a, .ref nb, .ref sz, .int (nI cnt1), .long (lN kn1), .int (nI kc1)])) → (μ1 r = some (hp_o 4 [.ref b, .int (nI size1)])) → (μ1 b = some (hp_n X 81 rb1)) → (μ1 a = some (hp_o 1 [.long (lN on1), .long (lN ze1), .int (nI len1)])) → (μ1 nb = some (hp_n X 400 nb2)) → (μ1 sz = some (hp_n X 40 sz2)) → (AW X μ1 ar l1 f1 mc q n on sent1 f ta sa lv aw st1 le1 sh) → hp_eqP (gFP ar f1 a n ta rd r b nb sz) μ1 μ → hp_w X cls μ1 nx H locs → lv_has ls 2 [(0, .ref x), (1, .int (nI i))] → W p l e { frames := 7, cells := 0, slots := 0, locals := 280 } s m [.ref x].toArray below meth c H locs 0 0 (MQ below (hq_i X (po_i nx (nI cnt9) (fun z => ∃ (size9 on9 ze9 len9 kn9 kc9 : Nat) (rb9 : Nat → Nat), (∀ j, rb9 j < 2) ∧ z rd = some (hp_o 3 [.ref r, .ref a, .ref nb, .ref sz, .int (nI cnt9), .long (lN kn9), .int (nI kc9)]) ∧ z r = some (hp_o 4 [.ref b, .int (nI size9)]) ∧ z b = some (hp_n X 81 rb9) ∧ z a = some (hp_o 1 [.long (lN on9), .long (lN ze9), .int (nI len9)]) ∧ z nb = some (hp_n X 400 nb9) ∧ z sz = some (hp_n X 40 sz9) ∧ AW X z ar l1 f1 mc q n on sent9 f ta sa lv aw st9 le9 sh ∧ hp_eqP (gFP ar f1 a n ta rd r b nb sz) z μ))) [.ref x].toArray s 0 0 (hp_A X)) (F0 m 9 ls []) := by
    intro kk
    induction kk with
    | zero =>
      intro i st1 le1 sent1 nb2 sz2 cnt1 kn1 kc1 size1 rb1 on1 ze1 len1 hi hc1 hs1 h011 hst1 hle1 hsz1 hres1 hkk
      exact absurd hkk (Nat.not_lt_zero _)
    | succ kk ih =>
      intro i st1 le1 sent1 nb2 sz2 cnt1 kn1 kc1 size1 rb1 on1 ze1 len1 hi hc1 hs1 h011 hst1 hle1 hsz1 hres1 hkk μ1 H locs ls f_x f_rd f_r f_b f_a f_nb f_sz hA fr hH hl
      refine lv_iload_n hx hb dX10_round_9 rfl (lv_at hl 1 rfl) ?_
      refine lv_bipush (v := nI 40) hx hb dX10_round_10 (by decide) ?_
      refine lv_icmp_ge (tgt := 38) hx hb dX10_round_12 (by decide) (fun c_12 => ?_) (fun c_12 => ?_)
      · have c_12 : 40 ≤ i := (nI_leI (by omega) (by omega)).mp c_12
        refine lv_aload_n hx hb dX10_round_38 rfl (lv_at hl 0 rfl) ?_
        refine hp_get hx hb hown hS.2.1 hH (F_X10_35.use hS) f_x rfl dX10_round_39 ?_
        refine hp_get hx hb hown hS.2.1 hH (F_X10_113.use hS) f_rd rfl dX10_round_42 ?_
        rw [show 40 - i = 0 by omega] at hres1
        simp only [rnN] at hres1
        cases hres1
        exact hp_ri hx hb hr hlocks hS hH (⟨rfl, rfl, _, _, _, _, _, _, _, h011, f_rd, f_r, f_b, f_a, f_nb, f_sz, hA, fr⟩) dX10_round_45
      · have c_12 : ¬ (40 ≤ i) := fun z => c_12 ((nI_leI (by omega) (by omega)).mpr z)
        refine lv_aload_n hx hb dX10_round_15 rfl (lv_at hl 0 rfl) ?_
        refine hp_get hx hb hown hS.2.1 hH (F_X10_35.use hS) f_x rfl dX10_round_16 ?_
        refine lv_aload_n hx hb dX10_round_19 rfl (lv_at hl 0 rfl) ?_
        refine hp_get hx hb hown hS.2.1 hH (F_X10_28.use hS) f_x rfl dX10_round_20 ?_
        obtain ⟨f9, ef9⟩ : ∃ f9, 40 - i = f9 + 1 := ⟨40 - i - 1, by omega⟩
        rw [ef9] at hres1
        simp only [rnN] at hres1
        rcases hse : fo1 n lv sh st1 le1 sent1 nb2 sz2 cnt1 with ⟨ok2, st2, le2, sent2, nb3, sz3, cnt2⟩
        have hin := fo1_in hlv hst1 hle1 hsz1 hse
        rw [hse] at hres1
        simp only at hres1
        refine hp_kim (hp_runV (As := [.ref ar]) (rest := []) hx hb hml hown hS hH (c_X6_findOne l X (by omega) (by omega) h011 hn16 hlv hst1 hle1 hsh hinj hA hse f_rd f_r f_b f_a f_nb f_sz) M_X10_109 I_X6_findOne V_X6_findOne (ci := 3) rfl rfl f_rd rfl hl.1 rfl (Nat.le_of_ble_eq_true rfl) dX10_round_23 ⟨Nat.le_of_ble_eq_true rfl, Nat.le_of_ble_eq_true rfl⟩ ⟨Nat.le_of_ble_eq_true rfl, Nat.le_of_ble_eq_true rfl⟩) hH (fun μ1 H locs hp hH => ?_)
        obtain ⟨size2, on2, ze2, len2, kn2, kc2, rb2, h012, fz0, fz1, fz2, fz3, fz4, fz5, hA1, fe⟩ := hp
        have f_x := (fe _ (hA.out3 f_x (by simp [awE]) (hp_ne f_x f_a (by simp)) (hp_ne f_x f_rd (by simp)) (hp_ne f_x f_r (by simp)) (hp_ne f_x f_b (by simp)) (hp_ne f_x f_nb (by simp)) (hp_ne f_x f_sz (by simp)))).trans f_x
        have hA := hA1
        have f_rd : μ1 rd = some (hp_o 3 [.ref r, .ref a, .ref nb, .ref sz, .int (nI cnt2), .long (lN kn2), .int (nI kc2)]) := fz0
        have f_r : μ1 r = some (hp_o 4 [.ref b, .int (nI size2)]) := fz1
        have f_b : μ1 b = some (hp_n X 81 rb2) := fz2
        have f_a : μ1 a = some (hp_o 1 [.long (lN on2), .long (lN ze2), .int (nI len2)]) := fz3
        have f_nb : μ1 nb = some (hp_n X 400 nb3) := fz4
        have f_sz : μ1 sz = some (hp_n X 40 sz3) := fz5
        have fr := hp_eqP.trP fe fr (fun q9 h9 => h9)
        clear fe hA1 fz0 fz1 fz2 fz3 fz4 fz5
        refine lv_if_ne (tgt := 32) hx hb dX10_round_26 (by decide) (fun c_26 => ?_) (fun c_26 => ?_)
        · have c_26 : ok2 = true := nB_n c_26
          rw [if_pos c_26] at hres1
          refine lv_iinc (v := nI (i + 1)) (lv' := [(1, .int (nI (i + 1))), (0, .ref x)]) hx hb dX10_round_32 hl (k := 1) rfl (nI_add _ 1) (by decide) rfl (fun ls hl => ?_)
          refine lv_goto (tgt := 9) hx hb dX10_round_35 (by decide) ?_
          exact ih (i + 1) st2 le2 sent2 nb3 sz3 cnt2 kn2 kc2 size2 rb2 on2 ze2 len2 (by omega) (by have := hin.2.2.2.1; omega) (by have := hin.2.2.1; omega) h012 hin.1 hin.2.1 hin.2.2.2.2.1 (by rw [show 40 - (i + 1) = f9 by omega]; exact hres1) (by omega) _ _ _ _ f_x f_rd f_r f_b f_a f_nb f_sz hA fr hH (lv_sub hl [1, 0] rfl)
        · have c_26 : ok2 = false := nB_0 c_26
          rw [if_neg (by rw [c_26]; decide)] at hres1
          refine lv_goto (tgt := 38) hx hb dX10_round_29 (by decide) ?_
          refine lv_aload_n hx hb dX10_round_38 rfl (lv_at hl 0 rfl) ?_
          refine hp_get hx hb hown hS.2.1 hH (F_X10_35.use hS) f_x rfl dX10_round_39 ?_
          refine hp_get hx hb hown hS.2.1 hH (F_X10_113.use hS) f_rd rfl dX10_round_42 ?_
          cases hres1
          exact hp_ri hx hb hr hlocks hS hH (⟨rfl, rfl, _, _, _, _, _, _, _, h012, f_rd, f_r, f_b, f_a, f_nb, f_sz, hA, fr⟩) dX10_round_45
  exact lp_9 ((40 - 0) + 1) 0 st le sent nb1 sz1 0 kn kc size rb aon aze alen (by decide) (by decide) (by omega) h01 hst hle (fun j hj => absurd hj (Nat.not_lt_zero _)) hres (Nat.lt_succ_self _) _ _ _ _ f_x f_rd f_r f_b f_a f_nb f_sz hA fr hH (lv_sub hl [1, 0] rfl)
