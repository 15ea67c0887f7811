set_option maxHeartbeats 4000000 in
set_option maxRecDepth 100000 in
theorem c_X10_tag_out (l : Launch) (X : hp_X) {μ : hp_M} {nx : Nat} {x ty la ar rd : Nat} {n a b c1 : Int32} (h1 : n ≠ nI 4) (h2 : n ≠ nI 7) (h3 : n ≠ nI 10) (f_x : μ x = some (hp_o 6 [.ref ty, .ref la, .ref ar, .ref rd])) : Ct l X yX10_tag cX10_tag 6 (some FieldType.int) 8 320 0 0 [.ref x, .int n, .int a, .int b, .int c1] μ nx (hq_i X (po_i nx (-12) (fun z => z = μ))) := by
  refine hp_met (by decide) (Nat.le_of_ble_eq_true rfl) ?_
  intro p e s m below meth c ls hx hb hml hr hlocks hown hin hS hH hl
  have hl : lv_has ls 6 [(0, .ref x), (1, .int n), (2, .int a), (3, .int b), (4, .int c1)] := hl
  refine lv_iload_n hx hb dX10_tag_0 rfl (lv_at hl 1 rfl) ?_
  refine lv_iconst (v := nI 4) hx hb dX10_tag_1 (by decide) ?_
  refine lv_icmp_eq (tgt := 20) hx hb dX10_tag_2 (by decide) (fun c_2 => ?_) (fun c_2 => ?_)
  · exact absurd c_2 h1
  · refine lv_iload_n hx hb dX10_tag_5 rfl (lv_at hl 1 rfl) ?_
    refine lv_bipush (v := nI 7) hx hb dX10_tag_6 (by decide) ?_
    refine lv_icmp_eq (tgt := 20) hx hb dX10_tag_8 (by decide) (fun c_8 => ?_) (fun c_8 => ?_)
    · exact absurd c_8 h2
    · refine lv_iload_n hx hb dX10_tag_11 rfl (lv_at hl 1 rfl) ?_
      refine lv_bipush (v := nI 10) hx hb dX10_tag_12 (by decide) ?_
      refine lv_icmp_eq (tgt := 20) hx hb dX10_tag_14 (by decide) (fun c_14 => ?_) (fun c_14 => ?_)
      · exact absurd c_14 h3
      · refine lv_bipush (v := (-12)) hx hb dX10_tag_17 (by decide) ?_
        exact hp_ri hx hb hr hlocks hS hH (⟨rfl, rfl, rfl⟩) dX10_tag_19

set_option maxHeartbeats 4000000 in
set_option maxRecDepth 100000 in
theorem c_X10_tag_unf (l : Launch) (X : hp_X) {μ : hp_M} {nx : Nat} {ar l1 f1 mc q n sent : Nat} {on : Bool} {f : Nat → Option Nat} {ta sa lv st le : Nat → Nat} {aw : Nat → Bool} {sh : Nat → Nat → Nat} {x ty la rd : Nat} {lv2 : Nat} {a b c1 : Int32} (hl1 : 1 ≤ lv2) (hl3 : lv2 ≤ 3) (hunf : shA a b c1 lv2 (lv2 - 1) % 256 = 136) (hn16 : n ≤ 16) (hlv : ∀ j, j < n → 1 ≤ lv j ∧ lv j ≤ 3) (hst : ∀ j, j < n → st j < 8) (hle : ∀ j, j < n → 1 ≤ le j ∧ le j ≤ 3) (hsh : ∀ j, j < n → ∀ i, sh j i < 2 ^ 40) (hA : AW X μ ar l1 f1 mc q n on sent f ta sa lv aw st le sh) (f_x : μ x = some (hp_o 6 [.ref ty, .ref la, .ref ar, .ref rd])) : Ct l X yX10_tag cX10_tag 6 (some FieldType.int) 8 320 2 8 [.ref x, .int (nI (3 * lv2 + 1)), .int a, .int b, .int c1] μ nx (hq_i X (po_i (nx + 2) (-13) (fun z => ∀ c9, c9 < nx → z c9 = μ c9))) := by
  refine hp_met (by decide) (Nat.le_of_ble_eq_true rfl) ?_
  intro p e s m below meth c ls hx hb hml hr hlocks hown hin hS hH hl
  have hl : lv_has ls 6 [(0, .ref x), (1, .int (nI (3 * lv2 + 1))), (2, .int a), (3, .int b), (4, .int c1)] := hl
  have fr : hp_eq [nx, nx + 1] μ μ := fun _ _ => rfl
  have hA0 := hA
  obtain ⟨f_air, f_l, hq, f_ts, f_ss, k1, lv1, se1, td1, tc1, f_f⟩ := hA
  have hlt_ts : ∀ j, j < n → ta j < nx := fun j hj => hH.lt (f_ts j hj)
  have hlt_ss : ∀ j, j < n → sa j < nx := fun j hj => hH.lt (f_ss j hj)
  have hlt_l := hH.lt f_l
  have hlt_a := hH.lt f_air
  have hlt_x := hH.lt f_x
  have hW0 : ∀ c e, μ c = some e → c < nx := fun c e hc => hH.lt hc
  refine lv_iload_n hx hb dX10_tag_0 rfl (lv_at hl 1 rfl) ?_
  refine lv_iconst (v := nI 4) hx hb dX10_tag_1 (by decide) ?_
  refine lv_icmp_eq (tgt := 20) hx hb dX10_tag_2 (by decide) (fun c_2 => ?_) (fun c_2 => ?_)
  · have c_2 : (3 * lv2 + 1) = 4 := (nI_eq (by omega) (by omega)).mp c_2
    have hO := hH
    refine hp_new hx hb hown hS.2.1 hH (N_X10_39.use hS) (Nat.le_of_ble_eq_true rfl) (Nat.le_of_ble_eq_true rfl) dX10_tag_20 (fun H μ1 fz fn hH => ?_)
    have f_ts := fun j hj => (fn _ (Nat.ne_of_lt (hlt_ts j hj))).trans (f_ts j hj)
    have f_ss := fun j hj => (fn _ (Nat.ne_of_lt (hO.lt (f_ss j hj)))).trans (f_ss j hj)
    have hq := hq.keep (fun h9 => fn _ (Nat.ne_of_lt (hO.lt h9)))
    have f_x := (fn _ (Nat.ne_of_lt (hO.lt f_x))).trans f_x
    have f_air := (fn _ (Nat.ne_of_lt (hO.lt f_air))).trans f_air
    have f_l := (fn _ (Nat.ne_of_lt (hO.lt f_l))).trans f_l
    have f_n0 : μ1 nx = some (hp_o 5 [.int (nI 0), .null, .int (nB false), .int (nI 0), .int (nI 0)]) := fz
    have fr := hp_eq.put fr (by simp) fn
    clear fz fn hO
    refine lv_dup hx hb dX10_tag_23 rfl ?_
    refine lv_iload_n hx hb dX10_tag_24 rfl (lv_at hl 1 rfl) ?_
    refine lv_iload_n hx hb dX10_tag_25 rfl (lv_at hl 2 rfl) ?_
    refine lv_iload_n hx hb dX10_tag_26 rfl (lv_at hl 3 rfl) ?_
    refine lv_iload hx hb dX10_tag_27 (lv_at hl 4 rfl) ?_
    have hO := hH
    refine hp_kvm (hp_runI (As := [.int (nI (3 * lv2 + 1)), .int a, .int b, .int c1]) (rest := [.ref nx]) hx hb hml hown hS hH (c_X9_init l X (lv := lv2) hl1 hl3 f_n0) M_X10_41 I_X9_init rfl rfl hl.1 rfl (Nat.le_of_ble_eq_true rfl) dX10_tag_29 ⟨Nat.le_of_ble_eq_true rfl, Nat.le_of_ble_eq_true rfl⟩ ⟨Nat.le_of_ble_eq_true rfl, Nat.le_of_ble_eq_true rfl⟩) hH (fun μ1 H locs hp hH => ?_)
    obtain ⟨fz0, fz1, fe⟩ := hp
    have f_ts := fun j hj => (hp_e2 fe (Nat.ne_of_lt (hlt_ts j hj)) (Nat.ne_of_lt (hO.lt (f_ts j hj)))).trans (f_ts j hj)
    have f_ss := fun j hj => (hp_e2 fe (hp_ne (f_ss j hj) f_n0 (by simp)) (Nat.ne_of_lt (hO.lt (f_ss j hj)))).trans (f_ss j hj)
    have hq := hq.keep (fun h9 => hp_e2 fe (hp_ne h9 f_n0 (by simp)) (Nat.ne_of_lt (hO.lt h9)))
    have f_x := (hp_e2 fe (by omega) (Nat.ne_of_lt (hO.lt f_x))).trans f_x
    have f_air := (hp_e2 fe (by omega) (Nat.ne_of_lt (hO.lt f_air))).trans f_air
    have f_l := (hp_e2 fe (by omega) (Nat.ne_of_lt (hO.lt f_l))).trans f_l
    have f_n0 : μ1 nx = some (hp_o 5 [.int (nI lv2), .ref (nx + 1), .int (nB false), .int (nI 0), .int (nI 1)]) := fz0
    have f_n1 : μ1 (nx + 1) = some (hp_m X 3 (shA a b c1 lv2)) := fz1
    have fr := hp_eq.tr2 fe fr (by simp) (by simp)
    clear fe fz0 fz1 hO
    refine lv_astore (lv' := [(5, .ref nx), (0, .ref x), (1, .int (nI (3 * lv2 + 1))), (2, .int a), (3, .int b), (4, .int c1)]) hx hb dX10_tag_32 hl (by decide) rfl (fun ls hl => ?_)
    refine lv_aload hx hb dX10_tag_34 (lv_at hl 0 rfl) ?_
    refine hp_kip (hp_runV (As := []) (rest := []) hx hb hml hown hS hH (c_X9_looksUnfinished l X (shA_lt a b c1 lv2) hl1 hl3 f_n0 f_n1) M_X10_44 I_X9_looksUnfinished V_X9_looksUnfinished (ci := 5) rfl rfl f_n0 rfl hl.1 rfl (Nat.le_of_ble_eq_true rfl) dX10_tag_36 ⟨Nat.le_of_ble_eq_true rfl, Nat.le_of_ble_eq_true rfl⟩ ⟨Nat.le_of_ble_eq_true rfl, Nat.le_of_ble_eq_true rfl⟩) hH (fun H locs hH => ?_)
    refine lv_if_ne (tgt := 54) hx hb dX10_tag_39 (by decide) (fun c_39 => ?_) (fun c_39 => ?_)
    · have c_39 : (decide (shA a b c1 lv2 (lv2 - 1) % 256 = 136)) = true := nB_n c_39
      refine lv_bipush (v := (-13)) hx hb dX10_tag_54 (by decide) ?_
      exact hp_ri hx hb hr hlocks hS hH (⟨rfl, rfl, fun c9 h9 => fr c9 (by simp; omega)⟩) dX10_tag_56
    · have c_39 : (decide (shA a b c1 lv2 (lv2 - 1) % 256 = 136)) = false := nB_0 c_39
      exact absurd hunf (of_decide_eq_false c_39)
  · have c_2 : ¬ ((3 * lv2 + 1) = 4) := fun z => c_2 ((nI_eq (by omega) (by omega)).mpr z)
    refine lv_iload_n hx hb dX10_tag_5 rfl (lv_at hl 1 rfl) ?_
    refine lv_bipush (v := nI 7) hx hb dX10_tag_6 (by decide) ?_
    refine lv_icmp_eq (tgt := 20) hx hb dX10_tag_8 (by decide) (fun c_8 => ?_) (fun c_8 => ?_)
    · have c_8 : (3 * lv2 + 1) = 7 := (nI_eq (by omega) (by omega)).mp c_8
      have hO := hH
      refine hp_new hx hb hown hS.2.1 hH (N_X10_39.use hS) (Nat.le_of_ble_eq_true rfl) (Nat.le_of_ble_eq_true rfl) dX10_tag_20 (fun H μ1 fz fn hH => ?_)
      have f_ts := fun j hj => (fn _ (Nat.ne_of_lt (hlt_ts j hj))).trans (f_ts j hj)
      have f_ss := fun j hj => (fn _ (Nat.ne_of_lt (hO.lt (f_ss j hj)))).trans (f_ss j hj)
      have hq := hq.keep (fun h9 => fn _ (Nat.ne_of_lt (hO.lt h9)))
      have f_x := (fn _ (Nat.ne_of_lt (hO.lt f_x))).trans f_x
      have f_air := (fn _ (Nat.ne_of_lt (hO.lt f_air))).trans f_air
      have f_l := (fn _ (Nat.ne_of_lt (hO.lt f_l))).trans f_l
      have f_n0 : μ1 nx = some (hp_o 5 [.int (nI 0), .null, .int (nB false), .int (nI 0), .int (nI 0)]) := fz
      have fr := hp_eq.put fr (by simp) fn
      clear fz fn hO
      refine lv_dup hx hb dX10_tag_23 rfl ?_
      refine lv_iload_n hx hb dX10_tag_24 rfl (lv_at hl 1 rfl) ?_
      refine lv_iload_n hx hb dX10_tag_25 rfl (lv_at hl 2 rfl) ?_
      refine lv_iload_n hx hb dX10_tag_26 rfl (lv_at hl 3 rfl) ?_
      refine lv_iload hx hb dX10_tag_27 (lv_at hl 4 rfl) ?_
      have hO := hH
      refine hp_kvm (hp_runI (As := [.int (nI (3 * lv2 + 1)), .int a, .int b, .int c1]) (rest := [.ref nx]) hx hb hml hown hS hH (c_X9_init l X (lv := lv2) hl1 hl3 f_n0) M_X10_41 I_X9_init rfl rfl hl.1 rfl (Nat.le_of_ble_eq_true rfl) dX10_tag_29 ⟨Nat.le_of_ble_eq_true rfl, Nat.le_of_ble_eq_true rfl⟩ ⟨Nat.le_of_ble_eq_true rfl, Nat.le_of_ble_eq_true rfl⟩) hH (fun μ1 H locs hp hH => ?_)
      obtain ⟨fz0, fz1, fe⟩ := hp
      have f_ts := fun j hj => (hp_e2 fe (Nat.ne_of_lt (hlt_ts j hj)) (Nat.ne_of_lt (hO.lt (f_ts j hj)))).trans (f_ts j hj)
      have f_ss := fun j hj => (hp_e2 fe (hp_ne (f_ss j hj) f_n0 (by simp)) (Nat.ne_of_lt (hO.lt (f_ss j hj)))).trans (f_ss j hj)
      have hq := hq.keep (fun h9 => hp_e2 fe (hp_ne h9 f_n0 (by simp)) (Nat.ne_of_lt (hO.lt h9)))
      have f_x := (hp_e2 fe (by omega) (Nat.ne_of_lt (hO.lt f_x))).trans f_x
      have f_air := (hp_e2 fe (by omega) (Nat.ne_of_lt (hO.lt f_air))).trans f_air
      have f_l := (hp_e2 fe (by omega) (Nat.ne_of_lt (hO.lt f_l))).trans f_l
      have f_n0 : μ1 nx = some (hp_o 5 [.int (nI lv2), .ref (nx + 1), .int (nB false), .int (nI 0), .int (nI 1)]) := fz0
      have f_n1 : μ1 (nx + 1) = some (hp_m X 3 (shA a b c1 lv2)) := fz1
      have fr := hp_eq.tr2 fe fr (by simp) (by simp)
      clear fe fz0 fz1 hO
      refine lv_astore (lv' := [(5, .ref nx), (0, .ref x), (1, .int (nI (3 * lv2 + 1))), (2, .int a), (3, .int b), (4, .int c1)]) hx hb dX10_tag_32 hl (by decide) rfl (fun ls hl => ?_)
      refine lv_aload hx hb dX10_tag_34 (lv_at hl 0 rfl) ?_
      refine hp_kip (hp_runV (As := []) (rest := []) hx hb hml hown hS hH (c_X9_looksUnfinished l X (shA_lt a b c1 lv2) hl1 hl3 f_n0 f_n1) M_X10_44 I_X9_looksUnfinished V_X9_looksUnfinished (ci := 5) rfl rfl f_n0 rfl hl.1 rfl (Nat.le_of_ble_eq_true rfl) dX10_tag_36 ⟨Nat.le_of_ble_eq_true rfl, Nat.le_of_ble_eq_true rfl⟩ ⟨Nat.le_of_ble_eq_true rfl, Nat.le_of_ble_eq_true rfl⟩) hH (fun H locs hH => ?_)
      refine lv_if_ne (tgt := 54) hx hb dX10_tag_39 (by decide) (fun c_39 => ?_) (fun c_39 => ?_)
      · have c_39 : (decide (shA a b c1 lv2 (lv2 - 1) % 256 = 136)) = true := nB_n c_39
        refine lv_bipush (v := (-13)) hx hb dX10_tag_54 (by decide) ?_
        exact hp_ri hx hb hr hlocks hS hH (⟨rfl, rfl, fun c9 h9 => fr c9 (by simp; omega)⟩) dX10_tag_56
      · have c_39 : (decide (shA a b c1 lv2 (lv2 - 1) % 256 = 136)) = false := nB_0 c_39
        exact absurd hunf (of_decide_eq_false c_39)
    · have c_8 : ¬ ((3 * lv2 + 1) = 7) := fun z => c_8 ((nI_eq (by omega) (by omega)).mpr z)
      refine lv_iload_n hx hb dX10_tag_11 rfl (lv_at hl 1 rfl) ?_
      refine lv_bipush (v := nI 10) hx hb dX10_tag_12 (by decide) ?_
      refine lv_icmp_eq (tgt := 20) hx hb dX10_tag_14 (by decide) (fun c_14 => ?_) (fun c_14 => ?_)
      · have c_14 : (3 * lv2 + 1) = 10 := (nI_eq (by omega) (by omega)).mp c_14
        have hO := hH
        refine hp_new hx hb hown hS.2.1 hH (N_X10_39.use hS) (Nat.le_of_ble_eq_true rfl) (Nat.le_of_ble_eq_true rfl) dX10_tag_20 (fun H μ1 fz fn hH => ?_)
        have f_ts := fun j hj => (fn _ (Nat.ne_of_lt (hlt_ts j hj))).trans (f_ts j hj)
        have f_ss := fun j hj => (fn _ (Nat.ne_of_lt (hO.lt (f_ss j hj)))).trans (f_ss j hj)
        have hq := hq.keep (fun h9 => fn _ (Nat.ne_of_lt (hO.lt h9)))
        have f_x := (fn _ (Nat.ne_of_lt (hO.lt f_x))).trans f_x
        have f_air := (fn _ (Nat.ne_of_lt (hO.lt f_air))).trans f_air
        have f_l := (fn _ (Nat.ne_of_lt (hO.lt f_l))).trans f_l
        have f_n0 : μ1 nx = some (hp_o 5 [.int (nI 0), .null, .int (nB false), .int (nI 0), .int (nI 0)]) := fz
        have fr := hp_eq.put fr (by simp) fn
        clear fz fn hO
        refine lv_dup hx hb dX10_tag_23 rfl ?_
        refine lv_iload_n hx hb dX10_tag_24 rfl (lv_at hl 1 rfl) ?_
        refine lv_iload_n hx hb dX10_tag_25 rfl (lv_at hl 2 rfl) ?_
        refine lv_iload_n hx hb dX10_tag_26 rfl (lv_at hl 3 rfl) ?_
        refine lv_iload hx hb dX10_tag_27 (lv_at hl 4 rfl) ?_
        have hO := hH
        refine hp_kvm (hp_runI (As := [.int (nI (3 * lv2 + 1)), .int a, .int b, .int c1]) (rest := [.ref nx]) hx hb hml hown hS hH (c_X9_init l X (lv := lv2) hl1 hl3 f_n0) M_X10_41 I_X9_init rfl rfl hl.1 rfl (Nat.le_of_ble_eq_true rfl) dX10_tag_29 ⟨Nat.le_of_ble_eq_true rfl, Nat.le_of_ble_eq_true rfl⟩ ⟨Nat.le_of_ble_eq_true rfl, Nat.le_of_ble_eq_true rfl⟩) hH (fun μ1 H locs hp hH => ?_)
        obtain ⟨fz0, fz1, fe⟩ := hp
        have f_ts := fun j hj => (hp_e2 fe (Nat.ne_of_lt (hlt_ts j hj)) (Nat.ne_of_lt (hO.lt (f_ts j hj)))).trans (f_ts j hj)
        have f_ss := fun j hj => (hp_e2 fe (hp_ne (f_ss j hj) f_n0 (by simp)) (Nat.ne_of_lt (hO.lt (f_ss j hj)))).trans (f_ss j hj)
        have hq := hq.keep (fun h9 => hp_e2 fe (hp_ne h9 f_n0 (by simp)) (Nat.ne_of_lt (hO.lt h9)))
        have f_x := (hp_e2 fe (by omega) (Nat.ne_of_lt (hO.lt f_x))).trans f_x
        have f_air := (hp_e2 fe (by omega) (Nat.ne_of_lt (hO.lt f_air))).trans f_air
        have f_l := (hp_e2 fe (by omega) (Nat.ne_of_lt (hO.lt f_l))).trans f_l
        have f_n0 : μ1 nx = some (hp_o 5 [.int (nI lv2), .ref (nx + 1), .int (nB false), .int (nI 0), .int (nI 1)]) := fz0
        have f_n1 : μ1 (nx + 1) = some (hp_m X 3 (shA a b c1 lv2)) := fz1
        have fr := hp_eq.tr2 fe fr (by simp) (by simp)
        clear fe fz0 fz1 hO
        refine lv_astore (lv' := [(5, .ref nx), (0, .ref x), (1, .int (nI (3 * lv2 + 1))), (2, .int a), (3, .int b), (4, .int c1)]) hx hb dX10_tag_32 hl (by decide) rfl (fun ls hl => ?_)
        refine lv_aload hx hb dX10_tag_34 (lv_at hl 0 rfl) ?_
        refine hp_kip (hp_runV (As := []) (rest := []) hx hb hml hown hS hH (c_X9_looksUnfinished l X (shA_lt a b c1 lv2) hl1 hl3 f_n0 f_n1) M_X10_44 I_X9_looksUnfinished V_X9_looksUnfinished (ci := 5) rfl rfl f_n0 rfl hl.1 rfl (Nat.le_of_ble_eq_true rfl) dX10_tag_36 ⟨Nat.le_of_ble_eq_true rfl, Nat.le_of_ble_eq_true rfl⟩ ⟨Nat.le_of_ble_eq_true rfl, Nat.le_of_ble_eq_true rfl⟩) hH (fun H locs hH => ?_)
        refine lv_if_ne (tgt := 54) hx hb dX10_tag_39 (by decide) (fun c_39 => ?_) (fun c_39 => ?_)
        · have c_39 : (decide (shA a b c1 lv2 (lv2 - 1) % 256 = 136)) = true := nB_n c_39
          refine lv_bipush (v := (-13)) hx hb dX10_tag_54 (by decide) ?_
          exact hp_ri hx hb hr hlocks hS hH (⟨rfl, rfl, fun c9 h9 => fr c9 (by simp; omega)⟩) dX10_tag_56
        · have c_39 : (decide (shA a b c1 lv2 (lv2 - 1) % 256 = 136)) = false := nB_0 c_39
          exact absurd hunf (of_decide_eq_false c_39)
      · have c_14 : ¬ ((3 * lv2 + 1) = 10) := fun z => c_14 ((nI_eq (by omega) (by omega)).mpr z)
        exact absurd c_14 (by omega)

set_option maxHeartbeats 4000000 in
set_option maxRecDepth 100000 in
theorem c_X10_tag_known (l : Launch) (X : hp_X) {μ : hp_M} {nx : Nat} {ar l1 f1 mc q n sent : Nat} {on : Bool} {f : Nat → Option Nat} {ta sa lv st le : Nat → Nat} {aw : Nat → Bool} {sh : Nat → Nat → Nat} {x ty la rd : Nat} {lv2 : Nat} {a b c1 : Int32} (hl1 : 1 ≤ lv2) (hl3 : lv2 ≤ 3) (hunf : ¬ shA a b c1 lv2 (lv2 - 1) % 256 = 136) (hkn : knB n lv sh lv2 (shA a b c1 lv2) = true) (hn16 : n ≤ 16) (hlv : ∀ j, j < n → 1 ≤ lv j ∧ lv j ≤ 3) (hst : ∀ j, j < n → st j < 8) (hle : ∀ j, j < n → 1 ≤ le j ∧ le j ≤ 3) (hsh : ∀ j, j < n → ∀ i, sh j i < 2 ^ 40) (hA : AW X μ ar l1 f1 mc q n on sent f ta sa lv aw st le sh) (f_x : μ x = some (hp_o 6 [.ref ty, .ref la, .ref ar, .ref rd])) : Ct l X yX10_tag cX10_tag 6 (some FieldType.int) 8 320 2 8 [.ref x, .int (nI (3 * lv2 + 1)), .int a, .int b, .int c1] μ nx (hq_i X (po_i (nx + 2) (-13) (fun z => ∀ c9, c9 < nx → z c9 = μ c9))) := by
  refine hp_met (by decide) (Nat.le_of_ble_eq_true rfl) ?_
  intro p e s m below meth c ls hx hb hml hr hlocks hown hin hS hH hl
  have hl : lv_has ls 6 [(0, .ref x), (1, .int (nI (3 * lv2 + 1))), (2, .int a), (3, .int b), (4, .int c1)] := hl
  have fr : hp_eq [nx, nx + 1] μ μ := fun _ _ => rfl
  have hA0 := hA
  obtain ⟨f_air, f_l, hq, f_ts, f_ss, k1, lv1, se1, td1, tc1, f_f⟩ := hA
  have hlt_ts : ∀ j, j < n → ta j < nx := fun j hj => hH.lt (f_ts j hj)
  have hlt_ss : ∀ j, j < n → sa j < nx := fun j hj => hH.lt (f_ss j hj)
  have hlt_l := hH.lt f_l
  have hlt_a := hH.lt f_air
  have hlt_x := hH.lt f_x
  have hW0 : ∀ c e, μ c = some e → c < nx := fun c e hc => hH.lt hc
  refine lv_iload_n hx hb dX10_tag_0 rfl (lv_at hl 1 rfl) ?_
  refine lv_iconst (v := nI 4) hx hb dX10_tag_1 (by decide) ?_
  refine lv_icmp_eq (tgt := 20) hx hb dX10_tag_2 (by decide) (fun c_2 => ?_) (fun c_2 => ?_)
  · have c_2 : (3 * lv2 + 1) = 4 := (nI_eq (by omega) (by omega)).mp c_2
    have hO := hH
    refine hp_new hx hb hown hS.2.1 hH (N_X10_39.use hS) (Nat.le_of_ble_eq_true rfl) (Nat.le_of_ble_eq_true rfl) dX10_tag_20 (fun H μ1 fz fn hH => ?_)
    have f_ts := fun j hj => (fn _ (Nat.ne_of_lt (hlt_ts j hj))).trans (f_ts j hj)
    have f_ss := fun j hj => (fn _ (Nat.ne_of_lt (hO.lt (f_ss j hj)))).trans (f_ss j hj)
    have hq := hq.keep (fun h9 => fn _ (Nat.ne_of_lt (hO.lt h9)))
    have f_x := (fn _ (Nat.ne_of_lt (hO.lt f_x))).trans f_x
    have f_air := (fn _ (Nat.ne_of_lt (hO.lt f_air))).trans f_air
    have f_l := (fn _ (Nat.ne_of_lt (hO.lt f_l))).trans f_l
    have f_n0 : μ1 nx = some (hp_o 5 [.int (nI 0), .null, .int (nB false), .int (nI 0), .int (nI 0)]) := fz
    have fr := hp_eq.put fr (by simp) fn
    clear fz fn hO
    refine lv_dup hx hb dX10_tag_23 rfl ?_
    refine lv_iload_n hx hb dX10_tag_24 rfl (lv_at hl 1 rfl) ?_
    refine lv_iload_n hx hb dX10_tag_25 rfl (lv_at hl 2 rfl) ?_
    refine lv_iload_n hx hb dX10_tag_26 rfl (lv_at hl 3 rfl) ?_
    refine lv_iload hx hb dX10_tag_27 (lv_at hl 4 rfl) ?_
    have hO := hH
    refine hp_kvm (hp_runI (As := [.int (nI (3 * lv2 + 1)), .int a, .int b, .int c1]) (rest := [.ref nx]) hx hb hml hown hS hH (c_X9_init l X (lv := lv2) hl1 hl3 f_n0) M_X10_41 I_X9_init rfl rfl hl.1 rfl (Nat.le_of_ble_eq_true rfl) dX10_tag_29 ⟨Nat.le_of_ble_eq_true rfl, Nat.le_of_ble_eq_true rfl⟩ ⟨Nat.le_of_ble_eq_true rfl, Nat.le_of_ble_eq_true rfl⟩) hH (fun μ1 H locs hp hH => ?_)
    obtain ⟨fz0, fz1, fe⟩ := hp
    have f_ts := fun j hj => (hp_e2 fe (Nat.ne_of_lt (hlt_ts j hj)) (Nat.ne_of_lt (hO.lt (f_ts j hj)))).trans (f_ts j hj)
    have f_ss := fun j hj => (hp_e2 fe (hp_ne (f_ss j hj) f_n0 (by simp)) (Nat.ne_of_lt (hO.lt (f_ss j hj)))).trans (f_ss j hj)
    have hq := hq.keep (fun h9 => hp_e2 fe (hp_ne h9 f_n0 (by simp)) (Nat.ne_of_lt (hO.lt h9)))
    have f_x := (hp_e2 fe (by omega) (Nat.ne_of_lt (hO.lt f_x))).trans f_x
    have f_air := (hp_e2 fe (by omega) (Nat.ne_of_lt (hO.lt f_air))).trans f_air
    have f_l := (hp_e2 fe (by omega) (Nat.ne_of_lt (hO.lt f_l))).trans f_l
    have f_n0 : μ1 nx = some (hp_o 5 [.int (nI lv2), .ref (nx + 1), .int (nB false), .int (nI 0), .int (nI 1)]) := fz0
    have f_n1 : μ1 (nx + 1) = some (hp_m X 3 (shA a b c1 lv2)) := fz1
    have fr := hp_eq.tr2 fe fr (by simp) (by simp)
    clear fe fz0 fz1 hO
    refine lv_astore (lv' := [(5, .ref nx), (0, .ref x), (1, .int (nI (3 * lv2 + 1))), (2, .int a), (3, .int b), (4, .int c1)]) hx hb dX10_tag_32 hl (by decide) rfl (fun ls hl => ?_)
    refine lv_aload hx hb dX10_tag_34 (lv_at hl 0 rfl) ?_
    refine hp_kip (hp_runV (As := []) (rest := []) hx hb hml hown hS hH (c_X9_looksUnfinished l X (shA_lt a b c1 lv2) hl1 hl3 f_n0 f_n1) M_X10_44 I_X9_looksUnfinished V_X9_looksUnfinished (ci := 5) rfl rfl f_n0 rfl hl.1 rfl (Nat.le_of_ble_eq_true rfl) dX10_tag_36 ⟨Nat.le_of_ble_eq_true rfl, Nat.le_of_ble_eq_true rfl⟩ ⟨Nat.le_of_ble_eq_true rfl, Nat.le_of_ble_eq_true rfl⟩) hH (fun H locs hH => ?_)
    refine lv_if_ne (tgt := 54) hx hb dX10_tag_39 (by decide) (fun c_39 => ?_) (fun c_39 => ?_)
    · have c_39 : (decide (shA a b c1 lv2 (lv2 - 1) % 256 = 136)) = true := nB_n c_39
      exact absurd (of_decide_eq_true c_39) hunf
    · have c_39 : (decide (shA a b c1 lv2 (lv2 - 1) % 256 = 136)) = false := nB_0 c_39
      refine lv_aload_n hx hb dX10_tag_42 rfl (lv_at hl 1 rfl) ?_
      refine hp_get hx hb hown hS.2.1 hH (F_X10_28.use hS) f_x rfl dX10_tag_43 ?_
      refine lv_aload hx hb dX10_tag_46 (lv_at hl 0 rfl) ?_
      refine hp_kip (hp_runV (As := [.ref nx]) (rest := []) hx hb hml hown hS hH (c_X1_knowsNumberOf l X hq hn16 f_ts f_ss hlv hst hle hsh (shA_lt a b c1 lv2) hl3 f_air f_l f_n0 f_n1) M_X10_48 I_X1_knowsNumberOf V_X1_knowsNumberOf (ci := 0) rfl rfl f_air rfl hl.1 rfl (Nat.le_of_ble_eq_true rfl) dX10_tag_48 ⟨Nat.le_of_ble_eq_true rfl, Nat.le_of_ble_eq_true rfl⟩ ⟨Nat.le_of_ble_eq_true rfl, Nat.le_of_ble_eq_true rfl⟩) hH (fun H locs hH => ?_)
      refine lv_if_eq (tgt := 57) hx hb dX10_tag_51 (by decide) (fun c_51 => ?_) (fun c_51 => ?_)
      · have c_51 : (knB n lv sh lv2 (shA a b c1 lv2)) = false := nB_0 c_51
        exact absurd c_51 (by rw [hkn]; decide)
      · have c_51 : (knB n lv sh lv2 (shA a b c1 lv2)) = true := nB_n c_51
        refine lv_bipush (v := (-13)) hx hb dX10_tag_54 (by decide) ?_
        exact hp_ri hx hb hr hlocks hS hH (⟨rfl, rfl, fun c9 h9 => fr c9 (by simp; omega)⟩) dX10_tag_56
  · have c_2 : ¬ ((3 * lv2 + 1) = 4) := fun z => c_2 ((nI_eq (by omega) (by omega)).mpr z)
    refine lv_iload_n hx hb dX10_tag_5 rfl (lv_at hl 1 rfl) ?_
    refine lv_bipush (v := nI 7) hx hb dX10_tag_6 (by decide) ?_
    refine lv_icmp_eq (tgt := 20) hx hb dX10_tag_8 (by decide) (fun c_8 => ?_) (fun c_8 => ?_)
    · have c_8 : (3 * lv2 + 1) = 7 := (nI_eq (by omega) (by omega)).mp c_8
      have hO := hH
      refine hp_new hx hb hown hS.2.1 hH (N_X10_39.use hS) (Nat.le_of_ble_eq_true rfl) (Nat.le_of_ble_eq_true rfl) dX10_tag_20 (fun H μ1 fz fn hH => ?_)
      have f_ts := fun j hj => (fn _ (Nat.ne_of_lt (hlt_ts j hj))).trans (f_ts j hj)
      have f_ss := fun j hj => (fn _ (Nat.ne_of_lt (hO.lt (f_ss j hj)))).trans (f_ss j hj)
      have hq := hq.keep (fun h9 => fn _ (Nat.ne_of_lt (hO.lt h9)))
      have f_x := (fn _ (Nat.ne_of_lt (hO.lt f_x))).trans f_x
      have f_air := (fn _ (Nat.ne_of_lt (hO.lt f_air))).trans f_air
      have f_l := (fn _ (Nat.ne_of_lt (hO.lt f_l))).trans f_l
      have f_n0 : μ1 nx = some (hp_o 5 [.int (nI 0), .null, .int (nB false), .int (nI 0), .int (nI 0)]) := fz
      have fr := hp_eq.put fr (by simp) fn
      clear fz fn hO
      refine lv_dup hx hb dX10_tag_23 rfl ?_
      refine lv_iload_n hx hb dX10_tag_24 rfl (lv_at hl 1 rfl) ?_
      refine lv_iload_n hx hb dX10_tag_25 rfl (lv_at hl 2 rfl) ?_
      refine lv_iload_n hx hb dX10_tag_26 rfl (lv_at hl 3 rfl) ?_
      refine lv_iload hx hb dX10_tag_27 (lv_at hl 4 rfl) ?_
      have hO := hH
      refine hp_kvm (hp_runI (As := [.int (nI (3 * lv2 + 1)), .int a, .int b, .int c1]) (rest := [.ref nx]) hx hb hml hown hS hH (c_X9_init l X (lv := lv2) hl1 hl3 f_n0) M_X10_41 I_X9_init rfl rfl hl.1 rfl (Nat.le_of_ble_eq_true rfl) dX10_tag_29 ⟨Nat.le_of_ble_eq_true rfl, Nat.le_of_ble_eq_true rfl⟩ ⟨Nat.le_of_ble_eq_true rfl, Nat.le_of_ble_eq_true rfl⟩) hH (fun μ1 H locs hp hH => ?_)
      obtain ⟨fz0, fz1, fe⟩ := hp
      have f_ts := fun j hj => (hp_e2 fe (Nat.ne_of_lt (hlt_ts j hj)) (Nat.ne_of_lt (hO.lt (f_ts j hj)))).trans (f_ts j hj)
      have f_ss := fun j hj => (hp_e2 fe (hp_ne (f_ss j hj) f_n0 (by simp)) (Nat.ne_of_lt (hO.lt (f_ss j hj)))).trans (f_ss j hj)
      have hq := hq.keep (fun h9 => hp_e2 fe (hp_ne h9 f_n0 (by simp)) (Nat.ne_of_lt (hO.lt h9)))
      have f_x := (hp_e2 fe (by omega) (Nat.ne_of_lt (hO.lt f_x))).trans f_x
      have f_air := (hp_e2 fe (by omega) (Nat.ne_of_lt (hO.lt f_air))).trans f_air
      have f_l := (hp_e2 fe (by omega) (Nat.ne_of_lt (hO.lt f_l))).trans f_l
      have f_n0 : μ1 nx = some (hp_o 5 [.int (nI lv2), .ref (nx + 1), .int (nB false), .int (nI 0), .int (nI 1)]) := fz0
      have f_n1 : μ1 (nx + 1) = some (hp_m X 3 (shA a b c1 lv2)) := fz1
      have fr := hp_eq.tr2 fe fr (by simp) (by simp)
      clear fe fz0 fz1 hO
      refine lv_astore (lv' := [(5, .ref nx), (0, .ref x), (1, .int (nI (3 * lv2 + 1))), (2, .int a), (3, .int b), (4, .int c1)]) hx hb dX10_tag_32 hl (by decide) rfl (fun ls hl => ?_)
      refine lv_aload hx hb dX10_tag_34 (lv_at hl 0 rfl) ?_
      refine hp_kip (hp_runV (As := []) (rest := []) hx hb hml hown hS hH (c_X9_looksUnfinished l X (shA_lt a b c1 lv2) hl1 hl3 f_n0 f_n1) M_X10_44 I_X9_looksUnfinished V_X9_looksUnfinished (ci := 5) rfl rfl f_n0 rfl hl.1 rfl (Nat.le_of_ble_eq_true rfl) dX10_tag_36 ⟨Nat.le_of_ble_eq_true rfl, Nat.le_of_ble_eq_true rfl⟩ ⟨Nat.le_of_ble_eq_true rfl, Nat.le_of_ble_eq_true rfl⟩) hH (fun H locs hH => ?_)
      refine lv_if_ne (tgt := 54) hx hb dX10_tag_39 (by decide) (fun c_39 => ?_) (fun c_39 => ?_)
      · have c_39 : (decide (shA a b c1 lv2 (lv2 - 1) % 256 = 136)) = true := nB_n c_39
        exact absurd (of_decide_eq_true c_39) hunf
      · have c_39 : (decide (shA a b c1 lv2 (lv2 - 1) % 256 = 136)) = false := nB_0 c_39
        refine lv_aload_n hx hb dX10_tag_42 rfl (lv_at hl 1 rfl) ?_
        refine hp_get hx hb hown hS.2.1 hH (F_X10_28.use hS) f_x rfl dX10_tag_43 ?_
        refine lv_aload hx hb dX10_tag_46 (lv_at hl 0 rfl) ?_
        refine hp_kip (hp_runV (As := [.ref nx]) (rest := []) hx hb hml hown hS hH (c_X1_knowsNumberOf l X hq hn16 f_ts f_ss hlv hst hle hsh (shA_lt a b c1 lv2) hl3 f_air f_l f_n0 f_n1) M_X10_48 I_X1_knowsNumberOf V_X1_knowsNumberOf (ci := 0) rfl rfl f_air rfl hl.1 rfl (Nat.le_of_ble_eq_true rfl) dX10_tag_48 ⟨Nat.le_of_ble_eq_true rfl, Nat.le_of_ble_eq_true rfl⟩ ⟨Nat.le_of_ble_eq_true rfl, Nat.le_of_ble_eq_true rfl⟩) hH (fun H locs hH => ?_)
        refine lv_if_eq (tgt := 57) hx hb dX10_tag_51 (by decide) (fun c_51 => ?_) (fun c_51 => ?_)
        · have c_51 : (knB n lv sh lv2 (shA a b c1 lv2)) = false := nB_0 c_51
          exact absurd c_51 (by rw [hkn]; decide)
        · have c_51 : (knB n lv sh lv2 (shA a b c1 lv2)) = true := nB_n c_51
          refine lv_bipush (v := (-13)) hx hb dX10_tag_54 (by decide) ?_
          exact hp_ri hx hb hr hlocks hS hH (⟨rfl, rfl, fun c9 h9 => fr c9 (by simp; omega)⟩) dX10_tag_56
    · have c_8 : ¬ ((3 * lv2 + 1) = 7) := fun z => c_8 ((nI_eq (by omega) (by omega)).mpr z)
      refine lv_iload_n hx hb dX10_tag_11 rfl (lv_at hl 1 rfl) ?_
      refine lv_bipush (v := nI 10) hx hb dX10_tag_12 (by decide) ?_
      refine lv_icmp_eq (tgt := 20) hx hb dX10_tag_14 (by decide) (fun c_14 => ?_) (fun c_14 => ?_)
      · have c_14 : (3 * lv2 + 1) = 10 := (nI_eq (by omega) (by omega)).mp c_14
        have hO := hH
        refine hp_new hx hb hown hS.2.1 hH (N_X10_39.use hS) (Nat.le_of_ble_eq_true rfl) (Nat.le_of_ble_eq_true rfl) dX10_tag_20 (fun H μ1 fz fn hH => ?_)
        have f_ts := fun j hj => (fn _ (Nat.ne_of_lt (hlt_ts j hj))).trans (f_ts j hj)
        have f_ss := fun j hj => (fn _ (Nat.ne_of_lt (hO.lt (f_ss j hj)))).trans (f_ss j hj)
        have hq := hq.keep (fun h9 => fn _ (Nat.ne_of_lt (hO.lt h9)))
        have f_x := (fn _ (Nat.ne_of_lt (hO.lt f_x))).trans f_x
        have f_air := (fn _ (Nat.ne_of_lt (hO.lt f_air))).trans f_air
        have f_l := (fn _ (Nat.ne_of_lt (hO.lt f_l))).trans f_l
        have f_n0 : μ1 nx = some (hp_o 5 [.int (nI 0), .null, .int (nB false), .int (nI 0), .int (nI 0)]) := fz
        have fr := hp_eq.put fr (by simp) fn
        clear fz fn hO
        refine lv_dup hx hb dX10_tag_23 rfl ?_
        refine lv_iload_n hx hb dX10_tag_24 rfl (lv_at hl 1 rfl) ?_
        refine lv_iload_n hx hb dX10_tag_25 rfl (lv_at hl 2 rfl) ?_
        refine lv_iload_n hx hb dX10_tag_26 rfl (lv_at hl 3 rfl) ?_
        refine lv_iload hx hb dX10_tag_27 (lv_at hl 4 rfl) ?_
        have hO := hH
        refine hp_kvm (hp_runI (As := [.int (nI (3 * lv2 + 1)), .int a, .int b, .int c1]) (rest := [.ref nx]) hx hb hml hown hS hH (c_X9_init l X (lv := lv2) hl1 hl3 f_n0) M_X10_41 I_X9_init rfl rfl hl.1 rfl (Nat.le_of_ble_eq_true rfl) dX10_tag_29 ⟨Nat.le_of_ble_eq_true rfl, Nat.le_of_ble_eq_true rfl⟩ ⟨Nat.le_of_ble_eq_true rfl, Nat.le_of_ble_eq_true rfl⟩) hH (fun μ1 H locs hp hH => ?_)
        obtain ⟨fz0, fz1, fe⟩ := hp
        have f_ts := fun j hj => (hp_e2 fe (Nat.ne_of_lt (hlt_ts j hj)) (Nat.ne_of_lt (hO.lt (f_ts j hj)))).trans (f_ts j hj)
        have f_ss := fun j hj => (hp_e2 fe (hp_ne (f_ss j hj) f_n0 (by simp)) (Nat.ne_of_lt (hO.lt (f_ss j hj)))).trans (f_ss j hj)
        have hq := hq.keep (fun h9 => hp_e2 fe (hp_ne h9 f_n0 (by simp)) (Nat.ne_of_lt (hO.lt h9)))
        have f_x := (hp_e2 fe (by omega) (Nat.ne_of_lt (hO.lt f_x))).trans f_x
        have f_air := (hp_e2 fe (by omega) (Nat.ne_of_lt (hO.lt f_air))).trans f_air
        have f_l := (hp_e2 fe (by omega) (Nat.ne_of_lt (hO.lt f_l))).trans f_l
        have f_n0 : μ1 nx = some (hp_o 5 [.int (nI lv2), .ref (nx + 1), .int (nB false), .int (nI 0), .int (nI 1)]) := fz0
        have f_n1 : μ1 (nx + 1) = some (hp_m X 3 (shA a b c1 lv2)) := fz1
        have fr := hp_eq.tr2 fe fr (by simp) (by simp)
        clear fe fz0 fz1 hO
        refine lv_astore (lv' := [(5, .ref nx), (0, .ref x), (1, .int (nI (3 * lv2 + 1))), (2, .int a), (3, .int b), (4, .int c1)]) hx hb dX10_tag_32 hl (by decide) rfl (fun ls hl => ?_)
        refine lv_aload hx hb dX10_tag_34 (lv_at hl 0 rfl) ?_
        refine hp_kip (hp_runV (As := []) (rest := []) hx hb hml hown hS hH (c_X9_looksUnfinished l X (shA_lt a b c1 lv2) hl1 hl3 f_n0 f_n1) M_X10_44 I_X9_looksUnfinished V_X9_looksUnfinished (ci := 5) rfl rfl f_n0 rfl hl.1 rfl (Nat.le_of_ble_eq_true rfl) dX10_tag_36 ⟨Nat.le_of_ble_eq_true rfl, Nat.le_of_ble_eq_true rfl⟩ ⟨Nat.le_of_ble_eq_true rfl, Nat.le_of_ble_eq_true rfl⟩) hH (fun H locs hH => ?_)
        refine lv_if_ne (tgt := 54) hx hb dX10_tag_39 (by decide) (fun c_39 => ?_) (fun c_39 => ?_)
        · have c_39 : (decide (shA a b c1 lv2 (lv2 - 1) % 256 = 136)) = true := nB_n c_39
          exact absurd (of_decide_eq_true c_39) hunf
        · have c_39 : (decide (shA a b c1 lv2 (lv2 - 1) % 256 = 136)) = false := nB_0 c_39
          refine lv_aload_n hx hb dX10_tag_42 rfl (lv_at hl 1 rfl) ?_
          refine hp_get hx hb hown hS.2.1 hH (F_X10_28.use hS) f_x rfl dX10_tag_43 ?_
          refine lv_aload hx hb dX10_tag_46 (lv_at hl 0 rfl) ?_
          refine hp_kip (hp_runV (As := [.ref nx]) (rest := []) hx hb hml hown hS hH (c_X1_knowsNumberOf l X hq hn16 f_ts f_ss hlv hst hle hsh (shA_lt a b c1 lv2) hl3 f_air f_l f_n0 f_n1) M_X10_48 I_X1_knowsNumberOf V_X1_knowsNumberOf (ci := 0) rfl rfl f_air rfl hl.1 rfl (Nat.le_of_ble_eq_true rfl) dX10_tag_48 ⟨Nat.le_of_ble_eq_true rfl, Nat.le_of_ble_eq_true rfl⟩ ⟨Nat.le_of_ble_eq_true rfl, Nat.le_of_ble_eq_true rfl⟩) hH (fun H locs hH => ?_)
          refine lv_if_eq (tgt := 57) hx hb dX10_tag_51 (by decide) (fun c_51 => ?_) (fun c_51 => ?_)
          · have c_51 : (knB n lv sh lv2 (shA a b c1 lv2)) = false := nB_0 c_51
            exact absurd c_51 (by rw [hkn]; decide)
          · have c_51 : (knB n lv sh lv2 (shA a b c1 lv2)) = true := nB_n c_51
            refine lv_bipush (v := (-13)) hx hb dX10_tag_54 (by decide) ?_
            exact hp_ri hx hb hr hlocks hS hH (⟨rfl, rfl, fun c9 h9 => fr c9 (by simp; omega)⟩) dX10_tag_56
      · have c_14 : ¬ ((3 * lv2 + 1) = 10) := fun z => c_14 ((nI_eq (by omega) (by omega)).mpr z)
        exact absurd c_14 (by omega)

set_option maxHeartbeats 4000000 in
set_option maxRecDepth 100000 in
theorem c_X10_tag_full (l : Launch) (X : hp_X) {μ : hp_M} {nx : Nat} {ar l1 f1 mc q n sent : Nat} {on : Bool} {f : Nat → Option Nat} {ta sa lv st le : Nat → Nat} {aw : Nat → Bool} {sh : Nat → Nat → Nat} {x ty la rd : Nat} {lv2 : Nat} {a b c1 : Int32} (hl1 : 1 ≤ lv2) (hl3 : lv2 ≤ 3) (hunf : ¬ shA a b c1 lv2 (lv2 - 1) % 256 = 136) (hkn : knB n lv sh lv2 (shA a b c1 lv2) = false) (hfull : 16 ≤ n) (hn16 : n ≤ 16) (hlv : ∀ j, j < n → 1 ≤ lv j ∧ lv j ≤ 3) (hst : ∀ j, j < n → st j < 8) (hle : ∀ j, j < n → 1 ≤ le j ∧ le j ≤ 3) (hsh : ∀ j, j < n → ∀ i, sh j i < 2 ^ 40) (hA : AW X μ ar l1 f1 mc q n on sent f ta sa lv aw st le sh) (f_x : μ x = some (hp_o 6 [.ref ty, .ref la, .ref ar, .ref rd])) : Ct l X yX10_tag cX10_tag 6 (some FieldType.int) 8 320 2 8 [.ref x, .int (nI (3 * lv2 + 1)), .int a, .int b, .int c1] μ nx (hq_i X (po_i (nx + 2) (-14) (fun z => ∀ c9, c9 < nx → z c9 = μ c9))) := by
  refine hp_met (by decide) (Nat.le_of_ble_eq_true rfl) ?_
  intro p e s m below meth c ls hx hb hml hr hlocks hown hin hS hH hl
  have hl : lv_has ls 6 [(0, .ref x), (1, .int (nI (3 * lv2 + 1))), (2, .int a), (3, .int b), (4, .int c1)] := hl
  have fr : hp_eq [nx, nx + 1] μ μ := fun _ _ => rfl
  have hA0 := hA
  obtain ⟨f_air, f_l, hq, f_ts, f_ss, k1, lv1, se1, td1, tc1, f_f⟩ := hA
  have hlt_ts : ∀ j, j < n → ta j < nx := fun j hj => hH.lt (f_ts j hj)
  have hlt_ss : ∀ j, j < n → sa j < nx := fun j hj => hH.lt (f_ss j hj)
  have hlt_l := hH.lt f_l
  have hlt_a := hH.lt f_air
  have hlt_x := hH.lt f_x
  have hW0 : ∀ c e, μ c = some e → c < nx := fun c e hc => hH.lt hc
  refine lv_iload_n hx hb dX10_tag_0 rfl (lv_at hl 1 rfl) ?_
  refine lv_iconst (v := nI 4) hx hb dX10_tag_1 (by decide) ?_
  refine lv_icmp_eq (tgt := 20) hx hb dX10_tag_2 (by decide) (fun c_2 => ?_) (fun c_2 => ?_)
  · have c_2 : (3 * lv2 + 1) = 4 := (nI_eq (by omega) (by omega)).mp c_2
    have hO := hH
    refine hp_new hx hb hown hS.2.1 hH (N_X10_39.use hS) (Nat.le_of_ble_eq_true rfl) (Nat.le_of_ble_eq_true rfl) dX10_tag_20 (fun H μ1 fz fn hH => ?_)
    have f_ts := fun j hj => (fn _ (Nat.ne_of_lt (hlt_ts j hj))).trans (f_ts j hj)
    have f_ss := fun j hj => (fn _ (Nat.ne_of_lt (hO.lt (f_ss j hj)))).trans (f_ss j hj)
    have hq := hq.keep (fun h9 => fn _ (Nat.ne_of_lt (hO.lt h9)))
    have f_x := (fn _ (Nat.ne_of_lt (hO.lt f_x))).trans f_x
    have f_air := (fn _ (Nat.ne_of_lt (hO.lt f_air))).trans f_air
    have f_l := (fn _ (Nat.ne_of_lt (hO.lt f_l))).trans f_l
    have f_n0 : μ1 nx = some (hp_o 5 [.int (nI 0), .null, .int (nB false), .int (nI 0), .int (nI 0)]) := fz
    have fr := hp_eq.put fr (by simp) fn
    clear fz fn hO
    refine lv_dup hx hb dX10_tag_23 rfl ?_
    refine lv_iload_n hx hb dX10_tag_24 rfl (lv_at hl 1 rfl) ?_
    refine lv_iload_n hx hb dX10_tag_25 rfl (lv_at hl 2 rfl) ?_
    refine lv_iload_n hx hb dX10_tag_26 rfl (lv_at hl 3 rfl) ?_
    refine lv_iload hx hb dX10_tag_27 (lv_at hl 4 rfl) ?_
    have hO := hH
    refine hp_kvm (hp_runI (As := [.int (nI (3 * lv2 + 1)), .int a, .int b, .int c1]) (rest := [.ref nx]) hx hb hml hown hS hH (c_X9_init l X (lv := lv2) hl1 hl3 f_n0) M_X10_41 I_X9_init rfl rfl hl.1 rfl (Nat.le_of_ble_eq_true rfl) dX10_tag_29 ⟨Nat.le_of_ble_eq_true rfl, Nat.le_of_ble_eq_true rfl⟩ ⟨Nat.le_of_ble_eq_true rfl, Nat.le_of_ble_eq_true rfl⟩) hH (fun μ1 H locs hp hH => ?_)
    obtain ⟨fz0, fz1, fe⟩ := hp
    have f_ts := fun j hj => (hp_e2 fe (Nat.ne_of_lt (hlt_ts j hj)) (Nat.ne_of_lt (hO.lt (f_ts j hj)))).trans (f_ts j hj)
    have f_ss := fun j hj => (hp_e2 fe (hp_ne (f_ss j hj) f_n0 (by simp)) (Nat.ne_of_lt (hO.lt (f_ss j hj)))).trans (f_ss j hj)
    have hq := hq.keep (fun h9 => hp_e2 fe (hp_ne h9 f_n0 (by simp)) (Nat.ne_of_lt (hO.lt h9)))
    have f_x := (hp_e2 fe (by omega) (Nat.ne_of_lt (hO.lt f_x))).trans f_x
    have f_air := (hp_e2 fe (by omega) (Nat.ne_of_lt (hO.lt f_air))).trans f_air
    have f_l := (hp_e2 fe (by omega) (Nat.ne_of_lt (hO.lt f_l))).trans f_l
    have f_n0 : μ1 nx = some (hp_o 5 [.int (nI lv2), .ref (nx + 1), .int (nB false), .int (nI 0), .int (nI 1)]) := fz0
    have f_n1 : μ1 (nx + 1) = some (hp_m X 3 (shA a b c1 lv2)) := fz1
    have fr := hp_eq.tr2 fe fr (by simp) (by simp)
    clear fe fz0 fz1 hO
    refine lv_astore (lv' := [(5, .ref nx), (0, .ref x), (1, .int (nI (3 * lv2 + 1))), (2, .int a), (3, .int b), (4, .int c1)]) hx hb dX10_tag_32 hl (by decide) rfl (fun ls hl => ?_)
    refine lv_aload hx hb dX10_tag_34 (lv_at hl 0 rfl) ?_
    refine hp_kip (hp_runV (As := []) (rest := []) hx hb hml hown hS hH (c_X9_looksUnfinished l X (shA_lt a b c1 lv2) hl1 hl3 f_n0 f_n1) M_X10_44 I_X9_looksUnfinished V_X9_looksUnfinished (ci := 5) rfl rfl f_n0 rfl hl.1 rfl (Nat.le_of_ble_eq_true rfl) dX10_tag_36 ⟨Nat.le_of_ble_eq_true rfl, Nat.le_of_ble_eq_true rfl⟩ ⟨Nat.le_of_ble_eq_true rfl, Nat.le_of_ble_eq_true rfl⟩) hH (fun H locs hH => ?_)
    refine lv_if_ne (tgt := 54) hx hb dX10_tag_39 (by decide) (fun c_39 => ?_) (fun c_39 => ?_)
    · have c_39 : (decide (shA a b c1 lv2 (lv2 - 1) % 256 = 136)) = true := nB_n c_39
      exact absurd (of_decide_eq_true c_39) hunf
    · have c_39 : (decide (shA a b c1 lv2 (lv2 - 1) % 256 = 136)) = false := nB_0 c_39
      refine lv_aload_n hx hb dX10_tag_42 rfl (lv_at hl 1 rfl) ?_
      refine hp_get hx hb hown hS.2.1 hH (F_X10_28.use hS) f_x rfl dX10_tag_43 ?_
      refine lv_aload hx hb dX10_tag_46 (lv_at hl 0 rfl) ?_
      refine hp_kip (hp_runV (As := [.ref nx]) (rest := []) hx hb hml hown hS hH (c_X1_knowsNumberOf l X hq hn16 f_ts f_ss hlv hst hle hsh (shA_lt a b c1 lv2) hl3 f_air f_l f_n0 f_n1) M_X10_48 I_X1_knowsNumberOf V_X1_knowsNumberOf (ci := 0) rfl rfl f_air rfl hl.1 rfl (Nat.le_of_ble_eq_true rfl) dX10_tag_48 ⟨Nat.le_of_ble_eq_true rfl, Nat.le_of_ble_eq_true rfl⟩ ⟨Nat.le_of_ble_eq_true rfl, Nat.le_of_ble_eq_true rfl⟩) hH (fun H locs hH => ?_)
      refine lv_if_eq (tgt := 57) hx hb dX10_tag_51 (by decide) (fun c_51 => ?_) (fun c_51 => ?_)
      · have c_51 : (knB n lv sh lv2 (shA a b c1 lv2)) = false := nB_0 c_51
        refine lv_aload_n hx hb dX10_tag_57 rfl (lv_at hl 1 rfl) ?_
        refine hp_get hx hb hown hS.2.1 hH (F_X10_28.use hS) f_x rfl dX10_tag_58 ?_
        refine hp_kip (hp_runV (As := []) (rest := []) hx hb hml hown hS hH (c_X1_count l X f_air f_l) M_X10_52 I_X1_count V_X1_count (ci := 0) rfl rfl f_air rfl hl.1 rfl (Nat.le_of_ble_eq_true rfl) dX10_tag_61 ⟨Nat.le_of_ble_eq_true rfl, Nat.le_of_ble_eq_true rfl⟩ ⟨Nat.le_of_ble_eq_true rfl, Nat.le_of_ble_eq_true rfl⟩) hH (fun H locs hH => ?_)
        refine lv_bipush (v := nI 16) hx hb dX10_tag_64 (by decide) ?_
        refine lv_icmp_ge (tgt := 81) hx hb dX10_tag_66 (by decide) (fun c_66 => ?_) (fun c_66 => ?_)
        · have c_66 : 16 ≤ n := (nI_leI (by omega) (by omega)).mp c_66
          refine lv_bipush (v := (-14)) hx hb dX10_tag_81 (by decide) ?_
          exact hp_ri hx hb hr hlocks hS hH (⟨rfl, rfl, fun c9 h9 => fr c9 (by simp; omega)⟩) dX10_tag_83
        · have c_66 : ¬ (16 ≤ n) := fun z => c_66 ((nI_leI (by omega) (by omega)).mpr z)
          exact absurd c_66 (by omega)
      · have c_51 : (knB n lv sh lv2 (shA a b c1 lv2)) = true := nB_n c_51
        exact absurd c_51 (by rw [hkn]; decide)
  · have c_2 : ¬ ((3 * lv2 + 1) = 4) := fun z => c_2 ((nI_eq (by omega) (by omega)).mpr z)
    refine lv_iload_n hx hb dX10_tag_5 rfl (lv_at hl 1 rfl) ?_
    refine lv_bipush (v := nI 7) hx hb dX10_tag_6 (by decide) ?_
    refine lv_icmp_eq (tgt := 20) hx hb dX10_tag_8 (by decide) (fun c_8 => ?_) (fun c_8 => ?_)
    · have c_8 : (3 * lv2 + 1) = 7 := (nI_eq (by omega) (by omega)).mp c_8
      have hO := hH
      refine hp_new hx hb hown hS.2.1 hH (N_X10_39.use hS) (Nat.le_of_ble_eq_true rfl) (Nat.le_of_ble_eq_true rfl) dX10_tag_20 (fun H μ1 fz fn hH => ?_)
      have f_ts := fun j hj => (fn _ (Nat.ne_of_lt (hlt_ts j hj))).trans (f_ts j hj)
      have f_ss := fun j hj => (fn _ (Nat.ne_of_lt (hO.lt (f_ss j hj)))).trans (f_ss j hj)
      have hq := hq.keep (fun h9 => fn _ (Nat.ne_of_lt (hO.lt h9)))
      have f_x := (fn _ (Nat.ne_of_lt (hO.lt f_x))).trans f_x
      have f_air := (fn _ (Nat.ne_of_lt (hO.lt f_air))).trans f_air
      have f_l := (fn _ (Nat.ne_of_lt (hO.lt f_l))).trans f_l
      have f_n0 : μ1 nx = some (hp_o 5 [.int (nI 0), .null, .int (nB false), .int (nI 0), .int (nI 0)]) := fz
      have fr := hp_eq.put fr (by simp) fn
      clear fz fn hO
      refine lv_dup hx hb dX10_tag_23 rfl ?_
      refine lv_iload_n hx hb dX10_tag_24 rfl (lv_at hl 1 rfl) ?_
      refine lv_iload_n hx hb dX10_tag_25 rfl (lv_at hl 2 rfl) ?_
      refine lv_iload_n hx hb dX10_tag_26 rfl (lv_at hl 3 rfl) ?_
      refine lv_iload hx hb dX10_tag_27 (lv_at hl 4 rfl) ?_
      have hO := hH
      refine hp_kvm (hp_runI (As := [.int (nI (3 * lv2 + 1)), .int a, .int b, .int c1]) (rest := [.ref nx]) hx hb hml hown hS hH (c_X9_init l X (lv := lv2) hl1 hl3 f_n0) M_X10_41 I_X9_init rfl rfl hl.1 rfl (Nat.le_of_ble_eq_true rfl) dX10_tag_29 ⟨Nat.le_of_ble_eq_true rfl, Nat.le_of_ble_eq_true rfl⟩ ⟨Nat.le_of_ble_eq_true rfl, Nat.le_of_ble_eq_true rfl⟩) hH (fun μ1 H locs hp hH => ?_)
      obtain ⟨fz0, fz1, fe⟩ := hp
      have f_ts := fun j hj => (hp_e2 fe (Nat.ne_of_lt (hlt_ts j hj)) (Nat.ne_of_lt (hO.lt (f_ts j hj)))).trans (f_ts j hj)
      have f_ss := fun j hj => (hp_e2 fe (hp_ne (f_ss j hj) f_n0 (by simp)) (Nat.ne_of_lt (hO.lt (f_ss j hj)))).trans (f_ss j hj)
      have hq := hq.keep (fun h9 => hp_e2 fe (hp_ne h9 f_n0 (by simp)) (Nat.ne_of_lt (hO.lt h9)))
      have f_x := (hp_e2 fe (by omega) (Nat.ne_of_lt (hO.lt f_x))).trans f_x
      have f_air := (hp_e2 fe (by omega) (Nat.ne_of_lt (hO.lt f_air))).trans f_air
      have f_l := (hp_e2 fe (by omega) (Nat.ne_of_lt (hO.lt f_l))).trans f_l
      have f_n0 : μ1 nx = some (hp_o 5 [.int (nI lv2), .ref (nx + 1), .int (nB false), .int (nI 0), .int (nI 1)]) := fz0
      have f_n1 : μ1 (nx + 1) = some (hp_m X 3 (shA a b c1 lv2)) := fz1
      have fr := hp_eq.tr2 fe fr (by simp) (by simp)
      clear fe fz0 fz1 hO
      refine lv_astore (lv' := [(5, .ref nx), (0, .ref x), (1, .int (nI (3 * lv2 + 1))), (2, .int a), (3, .int b), (4, .int c1)]) hx hb dX10_tag_32 hl (by decide) rfl (fun ls hl => ?_)
      refine lv_aload hx hb dX10_tag_34 (lv_at hl 0 rfl) ?_
      refine hp_kip (hp_runV (As := []) (rest := []) hx hb hml hown hS hH (c_X9_looksUnfinished l X (shA_lt a b c1 lv2) hl1 hl3 f_n0 f_n1) M_X10_44 I_X9_looksUnfinished V_X9_looksUnfinished (ci := 5) rfl rfl f_n0 rfl hl.1 rfl (Nat.le_of_ble_eq_true rfl) dX10_tag_36 ⟨Nat.le_of_ble_eq_true rfl, Nat.le_of_ble_eq_true rfl⟩ ⟨Nat.le_of_ble_eq_true rfl, Nat.le_of_ble_eq_true rfl⟩) hH (fun H locs hH => ?_)
      refine lv_if_ne (tgt := 54) hx hb dX10_tag_39 (by decide) (fun c_39 => ?_) (fun c_39 => ?_)
      · have c_39 : (decide (shA a b c1 lv2 (lv2 - 1) % 256 = 136)) = true := nB_n c_39
        exact absurd (of_decide_eq_true c_39) hunf
      · have c_39 : (decide (shA a b c1 lv2 (lv2 - 1) % 256 = 136)) = false := nB_0 c_39
        refine lv_aload_n hx hb dX10_tag_42 rfl (lv_at hl 1 rfl) ?_
        refine hp_get hx hb hown hS.2.1 hH (F_X10_28.use hS) f_x rfl dX10_tag_43 ?_
        refine lv_aload hx hb dX10_tag_46 (lv_at hl 0 rfl) ?_
        refine hp_kip (hp_runV (As := [.ref nx]) (rest := []) hx hb hml hown hS hH (c_X1_knowsNumberOf l X hq hn16 f_ts f_ss hlv hst hle hsh (shA_lt a b c1 lv2) hl3 f_air f_l f_n0 f_n1) M_X10_48 I_X1_knowsNumberOf V_X1_knowsNumberOf (ci := 0) rfl rfl f_air rfl hl.1 rfl (Nat.le_of_ble_eq_true rfl) dX10_tag_48 ⟨Nat.le_of_ble_eq_true rfl, Nat.le_of_ble_eq_true rfl⟩ ⟨Nat.le_of_ble_eq_true rfl, Nat.le_of_ble_eq_true rfl⟩) hH (fun H locs hH => ?_)
        refine lv_if_eq (tgt := 57) hx hb dX10_tag_51 (by decide) (fun c_51 => ?_) (fun c_51 => ?_)
        · have c_51 : (knB n lv sh lv2 (shA a b c1 lv2)) = false := nB_0 c_51
          refine lv_aload_n hx hb dX10_tag_57 rfl (lv_at hl 1 rfl) ?_
          refine hp_get hx hb hown hS.2.1 hH (F_X10_28.use hS) f_x rfl dX10_tag_58 ?_
          refine hp_kip (hp_runV (As := []) (rest := []) hx hb hml hown hS hH (c_X1_count l X f_air f_l) M_X10_52 I_X1_count V_X1_count (ci := 0) rfl rfl f_air rfl hl.1 rfl (Nat.le_of_ble_eq_true rfl) dX10_tag_61 ⟨Nat.le_of_ble_eq_true rfl, Nat.le_of_ble_eq_true rfl⟩ ⟨Nat.le_of_ble_eq_true rfl, Nat.le_of_ble_eq_true rfl⟩) hH (fun H locs hH => ?_)
          refine lv_bipush (v := nI 16) hx hb dX10_tag_64 (by decide) ?_
          refine lv_icmp_ge (tgt := 81) hx hb dX10_tag_66 (by decide) (fun c_66 => ?_) (fun c_66 => ?_)
          · have c_66 : 16 ≤ n := (nI_leI (by omega) (by omega)).mp c_66
            refine lv_bipush (v := (-14)) hx hb dX10_tag_81 (by decide) ?_
            exact hp_ri hx hb hr hlocks hS hH (⟨rfl, rfl, fun c9 h9 => fr c9 (by simp; omega)⟩) dX10_tag_83
          · have c_66 : ¬ (16 ≤ n) := fun z => c_66 ((nI_leI (by omega) (by omega)).mpr z)
            exact absurd c_66 (by omega)
        · have c_51 : (knB n lv sh lv2 (shA a b c1 lv2)) = true := nB_n c_51
          exact absurd c_51 (by rw [hkn]; decide)
    · have c_8 : ¬ ((3 * lv2 + 1) = 7) := fun z => c_8 ((nI_eq (by omega) (by omega)).mpr z)
      refine lv_iload_n hx hb dX10_tag_11 rfl (lv_at hl 1 rfl) ?_
      refine lv_bipush (v := nI 10) hx hb dX10_tag_12 (by decide) ?_
      refine lv_icmp_eq (tgt := 20) hx hb dX10_tag_14 (by decide) (fun c_14 => ?_) (fun c_14 => ?_)
      · have c_14 : (3 * lv2 + 1) = 10 := (nI_eq (by omega) (by omega)).mp c_14
        have hO := hH
        refine hp_new hx hb hown hS.2.1 hH (N_X10_39.use hS) (Nat.le_of_ble_eq_true rfl) (Nat.le_of_ble_eq_true rfl) dX10_tag_20 (fun H μ1 fz fn hH => ?_)
        have f_ts := fun j hj => (fn _ (Nat.ne_of_lt (hlt_ts j hj))).trans (f_ts j hj)
        have f_ss := fun j hj => (fn _ (Nat.ne_of_lt (hO.lt (f_ss j hj)))).trans (f_ss j hj)
        have hq := hq.keep (fun h9 => fn _ (Nat.ne_of_lt (hO.lt h9)))
        have f_x := (fn _ (Nat.ne_of_lt (hO.lt f_x))).trans f_x
        have f_air := (fn _ (Nat.ne_of_lt (hO.lt f_air))).trans f_air
        have f_l := (fn _ (Nat.ne_of_lt (hO.lt f_l))).trans f_l
        have f_n0 : μ1 nx = some (hp_o 5 [.int (nI 0), .null, .int (nB false), .int (nI 0), .int (nI 0)]) := fz
        have fr := hp_eq.put fr (by simp) fn
        clear fz fn hO
        refine lv_dup hx hb dX10_tag_23 rfl ?_
        refine lv_iload_n hx hb dX10_tag_24 rfl (lv_at hl 1 rfl) ?_
        refine lv_iload_n hx hb dX10_tag_25 rfl (lv_at hl 2 rfl) ?_
        refine lv_iload_n hx hb dX10_tag_26 rfl (lv_at hl 3 rfl) ?_
        refine lv_iload hx hb dX10_tag_27 (lv_at hl 4 rfl) ?_
        have hO := hH
        refine hp_kvm (hp_runI (As := [.int (nI (3 * lv2 + 1)), .int a, .int b, .int c1]) (rest := [.ref nx]) hx hb hml hown hS hH (c_X9_init l X (lv := lv2) hl1 hl3 f_n0) M_X10_41 I_X9_init rfl rfl hl.1 rfl (Nat.le_of_ble_eq_true rfl) dX10_tag_29 ⟨Nat.le_of_ble_eq_true rfl, Nat.le_of_ble_eq_true rfl⟩ ⟨Nat.le_of_ble_eq_true rfl, Nat.le_of_ble_eq_true rfl⟩) hH (fun μ1 H locs hp hH => ?_)
        obtain ⟨fz0, fz1, fe⟩ := hp
        have f_ts := fun j hj => (hp_e2 fe (Nat.ne_of_lt (hlt_ts j hj)) (Nat.ne_of_lt (hO.lt (f_ts j hj)))).trans (f_ts j hj)
        have f_ss := fun j hj => (hp_e2 fe (hp_ne (f_ss j hj) f_n0 (by simp)) (Nat.ne_of_lt (hO.lt (f_ss j hj)))).trans (f_ss j hj)
        have hq := hq.keep (fun h9 => hp_e2 fe (hp_ne h9 f_n0 (by simp)) (Nat.ne_of_lt (hO.lt h9)))
        have f_x := (hp_e2 fe (by omega) (Nat.ne_of_lt (hO.lt f_x))).trans f_x
        have f_air := (hp_e2 fe (by omega) (Nat.ne_of_lt (hO.lt f_air))).trans f_air
        have f_l := (hp_e2 fe (by omega) (Nat.ne_of_lt (hO.lt f_l))).trans f_l
        have f_n0 : μ1 nx = some (hp_o 5 [.int (nI lv2), .ref (nx + 1), .int (nB false), .int (nI 0), .int (nI 1)]) := fz0
        have f_n1 : μ1 (nx + 1) = some (hp_m X 3 (shA a b c1 lv2)) := fz1
        have fr := hp_eq.tr2 fe fr (by simp) (by simp)
        clear fe fz0 fz1 hO
        refine lv_astore (lv' := [(5, .ref nx), (0, .ref x), (1, .int (nI (3 * lv2 + 1))), (2, .int a), (3, .int b), (4, .int c1)]) hx hb dX10_tag_32 hl (by decide) rfl (fun ls hl => ?_)
        refine lv_aload hx hb dX10_tag_34 (lv_at hl 0 rfl) ?_
        refine hp_kip (hp_runV (As := []) (rest := []) hx hb hml hown hS hH (c_X9_looksUnfinished l X (shA_lt a b c1 lv2) hl1 hl3 f_n0 f_n1) M_X10_44 I_X9_looksUnfinished V_X9_looksUnfinished (ci := 5) rfl rfl f_n0 rfl hl.1 rfl (Nat.le_of_ble_eq_true rfl) dX10_tag_36 ⟨Nat.le_of_ble_eq_true rfl, Nat.le_of_ble_eq_true rfl⟩ ⟨Nat.le_of_ble_eq_true rfl, Nat.le_of_ble_eq_true rfl⟩) hH (fun H locs hH => ?_)
        refine lv_if_ne (tgt := 54) hx hb dX10_tag_39 (by decide) (fun c_39 => ?_) (fun c_39 => ?_)
        · have c_39 : (decide (shA a b c1 lv2 (lv2 - 1) % 256 = 136)) = true := nB_n c_39
          exact absurd (of_decide_eq_true c_39) hunf
        · have c_39 : (decide (shA a b c1 lv2 (lv2 - 1) % 256 = 136)) = false := nB_0 c_39
          refine lv_aload_n hx hb dX10_tag_42 rfl (lv_at hl 1 rfl) ?_
          refine hp_get hx hb hown hS.2.1 hH (F_X10_28.use hS) f_x rfl dX10_tag_43 ?_
          refine lv_aload hx hb dX10_tag_46 (lv_at hl 0 rfl) ?_
          refine hp_kip (hp_runV (As := [.ref nx]) (rest := []) hx hb hml hown hS hH (c_X1_knowsNumberOf l X hq hn16 f_ts f_ss hlv hst hle hsh (shA_lt a b c1 lv2) hl3 f_air f_l f_n0 f_n1) M_X10_48 I_X1_knowsNumberOf V_X1_knowsNumberOf (ci := 0) rfl rfl f_air rfl hl.1 rfl (Nat.le_of_ble_eq_true rfl) dX10_tag_48 ⟨Nat.le_of_ble_eq_true rfl, Nat.le_of_ble_eq_true rfl⟩ ⟨Nat.le_of_ble_eq_true rfl, Nat.le_of_ble_eq_true rfl⟩) hH (fun H locs hH => ?_)
          refine lv_if_eq (tgt := 57) hx hb dX10_tag_51 (by decide) (fun c_51 => ?_) (fun c_51 => ?_)
          · have c_51 : (knB n lv sh lv2 (shA a b c1 lv2)) = false := nB_0 c_51
            refine lv_aload_n hx hb dX10_tag_57 rfl (lv_at hl 1 rfl) ?_
            refine hp_get hx hb hown hS.2.1 hH (F_X10_28.use hS) f_x rfl dX10_tag_58 ?_
            refine hp_kip (hp_runV (As := []) (rest := []) hx hb hml hown hS hH (c_X1_count l X f_air f_l) M_X10_52 I_X1_count V_X1_count (ci := 0) rfl rfl f_air rfl hl.1 rfl (Nat.le_of_ble_eq_true rfl) dX10_tag_61 ⟨Nat.le_of_ble_eq_true rfl, Nat.le_of_ble_eq_true rfl⟩ ⟨Nat.le_of_ble_eq_true rfl, Nat.le_of_ble_eq_true rfl⟩) hH (fun H locs hH => ?_)
            refine lv_bipush (v := nI 16) hx hb dX10_tag_64 (by decide) ?_
            refine lv_icmp_ge (tgt := 81) hx hb dX10_tag_66 (by decide) (fun c_66 => ?_) (fun c_66 => ?_)
            · have c_66 : 16 ≤ n := (nI_leI (by omega) (by omega)).mp c_66
              refine lv_bipush (v := (-14)) hx hb dX10_tag_81 (by decide) ?_
              exact hp_ri hx hb hr hlocks hS hH (⟨rfl, rfl, fun c9 h9 => fr c9 (by simp; omega)⟩) dX10_tag_83
            · have c_66 : ¬ (16 ≤ n) := fun z => c_66 ((nI_leI (by omega) (by omega)).mpr z)
              exact absurd c_66 (by omega)
          · have c_51 : (knB n lv sh lv2 (shA a b c1 lv2)) = true := nB_n c_51
            exact absurd c_51 (by rw [hkn]; decide)
      · have c_14 : ¬ ((3 * lv2 + 1) = 10) := fun z => c_14 ((nI_eq (by omega) (by omega)).mpr z)
        exact absurd c_14 (by omega)

set_option maxHeartbeats 4000000 in
set_option maxRecDepth 100000 in
theorem c_X10_tag_room (l : Launch) (X : hp_X) {μ : hp_M} {nx : Nat} {ar l1 f1 mc q n sent : Nat} {on : Bool} {f : Nat → Option Nat} {ta sa lv st le : Nat → Nat} {aw : Nat → Bool} {sh : Nat → Nat → Nat} {x ty la rd : Nat} {lv2 : Nat} {a b c1 : Int32} (hl1 : 1 ≤ lv2) (hl3 : lv2 ≤ 3) (hunf : ¬ shA a b c1 lv2 (lv2 - 1) % 256 = 136) (hkn : knB n lv sh lv2 (shA a b c1 lv2) = false) (hnp0 : 0 < n) (hn : n < 16) (h10 : n ≠ 10) (h15 : n ≠ 15) (hn16 : n ≤ 16) (hlv : ∀ j, j < n → 1 ≤ lv j ∧ lv j ≤ 3) (hst : ∀ j, j < n → st j < 8) (hle : ∀ j, j < n → 1 ≤ le j ∧ le j ≤ 3) (hsh : ∀ j, j < n → ∀ i, sh j i < 2 ^ 40) (hA : AW X μ ar l1 f1 mc q n on sent f ta sa lv aw st le sh) (f_x : μ x = some (hp_o 6 [.ref ty, .ref la, .ref ar, .ref rd])) : Ct l X yX10_tag cX10_tag 6 (some FieldType.int) 8 320 2 8 [.ref x, .int (nI (3 * lv2 + 1)), .int a, .int b, .int c1] μ nx (hq_i X (po_i (nx + 2) (nI (n + 1)) (fun z => ∃ (q' : Nat) (f' : Nat → Option Nat), AW X z ar l1 f1 (mc + 1) q' (n + 1) on sent f' (setN ta n nx) (setN sa n (nx + 1)) (setN lv n lv2) (setB aw n false) (setN st n (if on = true ∧ false = false then 1 else 0)) (setN le n 1) (setS sh n (shA a b c1 lv2)) ∧ ∀ c9 e9, μ c9 = some e9 → c9 ≠ l1 → (0 < n → c9 ≠ q) → z c9 = μ c9))) := by
  refine hp_met (by decide) (Nat.le_of_ble_eq_true rfl) ?_
  intro p e s m below meth c ls hx hb hml hr hlocks hown hin hS hH hl
  have hl : lv_has ls 6 [(0, .ref x), (1, .int (nI (3 * lv2 + 1))), (2, .int a), (3, .int b), (4, .int c1)] := hl
  have fr : hp_eq [nx, nx + 1] μ μ := fun _ _ => rfl
  have hA0 := hA
  obtain ⟨f_air, f_l, hq, f_ts, f_ss, k1, lv1, se1, td1, tc1, f_f⟩ := hA
  have hlt_ts : ∀ j, j < n → ta j < nx := fun j hj => hH.lt (f_ts j hj)
  have hlt_ss : ∀ j, j < n → sa j < nx := fun j hj => hH.lt (f_ss j hj)
  have hlt_l := hH.lt f_l
  have hlt_a := hH.lt f_air
  have hlt_x := hH.lt f_x
  have hW0 : ∀ c e, μ c = some e → c < nx := fun c e hc => hH.lt hc
  refine lv_iload_n hx hb dX10_tag_0 rfl (lv_at hl 1 rfl) ?_
  refine lv_iconst (v := nI 4) hx hb dX10_tag_1 (by decide) ?_
  refine lv_icmp_eq (tgt := 20) hx hb dX10_tag_2 (by decide) (fun c_2 => ?_) (fun c_2 => ?_)
  · have c_2 : (3 * lv2 + 1) = 4 := (nI_eq (by omega) (by omega)).mp c_2
    have hO := hH
    refine hp_new hx hb hown hS.2.1 hH (N_X10_39.use hS) (Nat.le_of_ble_eq_true rfl) (Nat.le_of_ble_eq_true rfl) dX10_tag_20 (fun H μ1 fz fn hH => ?_)
    have f_ts := fun j hj => (fn _ (Nat.ne_of_lt (hlt_ts j hj))).trans (f_ts j hj)
    have f_ss := fun j hj => (fn _ (Nat.ne_of_lt (hO.lt (f_ss j hj)))).trans (f_ss j hj)
    have hq := hq.keep (fun h9 => fn _ (Nat.ne_of_lt (hO.lt h9)))
    have f_x := (fn _ (Nat.ne_of_lt (hO.lt f_x))).trans f_x
    have f_air := (fn _ (Nat.ne_of_lt (hO.lt f_air))).trans f_air
    have f_l := (fn _ (Nat.ne_of_lt (hO.lt f_l))).trans f_l
    have f_n0 : μ1 nx = some (hp_o 5 [.int (nI 0), .null, .int (nB false), .int (nI 0), .int (nI 0)]) := fz
    have fr := hp_eq.put fr (by simp) fn
    clear fz fn hO
    refine lv_dup hx hb dX10_tag_23 rfl ?_
    refine lv_iload_n hx hb dX10_tag_24 rfl (lv_at hl 1 rfl) ?_
    refine lv_iload_n hx hb dX10_tag_25 rfl (lv_at hl 2 rfl) ?_
    refine lv_iload_n hx hb dX10_tag_26 rfl (lv_at hl 3 rfl) ?_
    refine lv_iload hx hb dX10_tag_27 (lv_at hl 4 rfl) ?_
    have hO := hH
    refine hp_kvm (hp_runI (As := [.int (nI (3 * lv2 + 1)), .int a, .int b, .int c1]) (rest := [.ref nx]) hx hb hml hown hS hH (c_X9_init l X (lv := lv2) hl1 hl3 f_n0) M_X10_41 I_X9_init rfl rfl hl.1 rfl (Nat.le_of_ble_eq_true rfl) dX10_tag_29 ⟨Nat.le_of_ble_eq_true rfl, Nat.le_of_ble_eq_true rfl⟩ ⟨Nat.le_of_ble_eq_true rfl, Nat.le_of_ble_eq_true rfl⟩) hH (fun μ1 H locs hp hH => ?_)
    obtain ⟨fz0, fz1, fe⟩ := hp
    have f_ts := fun j hj => (hp_e2 fe (Nat.ne_of_lt (hlt_ts j hj)) (Nat.ne_of_lt (hO.lt (f_ts j hj)))).trans (f_ts j hj)
    have f_ss := fun j hj => (hp_e2 fe (hp_ne (f_ss j hj) f_n0 (by simp)) (Nat.ne_of_lt (hO.lt (f_ss j hj)))).trans (f_ss j hj)
    have hq := hq.keep (fun h9 => hp_e2 fe (hp_ne h9 f_n0 (by simp)) (Nat.ne_of_lt (hO.lt h9)))
    have f_x := (hp_e2 fe (by omega) (Nat.ne_of_lt (hO.lt f_x))).trans f_x
    have f_air := (hp_e2 fe (by omega) (Nat.ne_of_lt (hO.lt f_air))).trans f_air
    have f_l := (hp_e2 fe (by omega) (Nat.ne_of_lt (hO.lt f_l))).trans f_l
    have f_n0 : μ1 nx = some (hp_o 5 [.int (nI lv2), .ref (nx + 1), .int (nB false), .int (nI 0), .int (nI 1)]) := fz0
    have f_n1 : μ1 (nx + 1) = some (hp_m X 3 (shA a b c1 lv2)) := fz1
    have fr := hp_eq.tr2 fe fr (by simp) (by simp)
    clear fe fz0 fz1 hO
    refine lv_astore (lv' := [(5, .ref nx), (0, .ref x), (1, .int (nI (3 * lv2 + 1))), (2, .int a), (3, .int b), (4, .int c1)]) hx hb dX10_tag_32 hl (by decide) rfl (fun ls hl => ?_)
    refine lv_aload hx hb dX10_tag_34 (lv_at hl 0 rfl) ?_
    refine hp_kip (hp_runV (As := []) (rest := []) hx hb hml hown hS hH (c_X9_looksUnfinished l X (shA_lt a b c1 lv2) hl1 hl3 f_n0 f_n1) M_X10_44 I_X9_looksUnfinished V_X9_looksUnfinished (ci := 5) rfl rfl f_n0 rfl hl.1 rfl (Nat.le_of_ble_eq_true rfl) dX10_tag_36 ⟨Nat.le_of_ble_eq_true rfl, Nat.le_of_ble_eq_true rfl⟩ ⟨Nat.le_of_ble_eq_true rfl, Nat.le_of_ble_eq_true rfl⟩) hH (fun H locs hH => ?_)
    refine lv_if_ne (tgt := 54) hx hb dX10_tag_39 (by decide) (fun c_39 => ?_) (fun c_39 => ?_)
    · have c_39 : (decide (shA a b c1 lv2 (lv2 - 1) % 256 = 136)) = true := nB_n c_39
      exact absurd (of_decide_eq_true c_39) hunf
    · have c_39 : (decide (shA a b c1 lv2 (lv2 - 1) % 256 = 136)) = false := nB_0 c_39
      refine lv_aload_n hx hb dX10_tag_42 rfl (lv_at hl 1 rfl) ?_
      refine hp_get hx hb hown hS.2.1 hH (F_X10_28.use hS) f_x rfl dX10_tag_43 ?_
      refine lv_aload hx hb dX10_tag_46 (lv_at hl 0 rfl) ?_
      refine hp_kip (hp_runV (As := [.ref nx]) (rest := []) hx hb hml hown hS hH (c_X1_knowsNumberOf l X hq hn16 f_ts f_ss hlv hst hle hsh (shA_lt a b c1 lv2) hl3 f_air f_l f_n0 f_n1) M_X10_48 I_X1_knowsNumberOf V_X1_knowsNumberOf (ci := 0) rfl rfl f_air rfl hl.1 rfl (Nat.le_of_ble_eq_true rfl) dX10_tag_48 ⟨Nat.le_of_ble_eq_true rfl, Nat.le_of_ble_eq_true rfl⟩ ⟨Nat.le_of_ble_eq_true rfl, Nat.le_of_ble_eq_true rfl⟩) hH (fun H locs hH => ?_)
      refine lv_if_eq (tgt := 57) hx hb dX10_tag_51 (by decide) (fun c_51 => ?_) (fun c_51 => ?_)
      · have c_51 : (knB n lv sh lv2 (shA a b c1 lv2)) = false := nB_0 c_51
        refine lv_aload_n hx hb dX10_tag_57 rfl (lv_at hl 1 rfl) ?_
        refine hp_get hx hb hown hS.2.1 hH (F_X10_28.use hS) f_x rfl dX10_tag_58 ?_
        refine hp_kip (hp_runV (As := []) (rest := []) hx hb hml hown hS hH (c_X1_count l X f_air f_l) M_X10_52 I_X1_count V_X1_count (ci := 0) rfl rfl f_air rfl hl.1 rfl (Nat.le_of_ble_eq_true rfl) dX10_tag_61 ⟨Nat.le_of_ble_eq_true rfl, Nat.le_of_ble_eq_true rfl⟩ ⟨Nat.le_of_ble_eq_true rfl, Nat.le_of_ble_eq_true rfl⟩) hH (fun H locs hH => ?_)
        refine lv_bipush (v := nI 16) hx hb dX10_tag_64 (by decide) ?_
        refine lv_icmp_ge (tgt := 81) hx hb dX10_tag_66 (by decide) (fun c_66 => ?_) (fun c_66 => ?_)
        · have c_66 : 16 ≤ n := (nI_leI (by omega) (by omega)).mp c_66
          exact absurd c_66 (by omega)
        · have c_66 : ¬ (16 ≤ n) := fun z => c_66 ((nI_leI (by omega) (by omega)).mpr z)
          refine lv_aload_n hx hb dX10_tag_69 rfl (lv_at hl 1 rfl) ?_
          refine hp_get hx hb hown hS.2.1 hH (F_X10_28.use hS) f_x rfl dX10_tag_70 ?_
          refine lv_aload hx hb dX10_tag_73 (lv_at hl 0 rfl) ?_
          obtain ⟨hnp, f_q, hf⟩ := hq.resolve_left (by omega)
          have hlt_q := hH.lt f_q
          refine hp_kim (hp_runV (As := [.ref nx]) (rest := []) hx hb hml hown hS hH (c_X1_bring_room l X (fun j hj => Nat.ne_of_lt (hlt_ts j hj)) f_ts hf hnp (by omega) h10 h15 f_air f_l f_q f_n0) M_X10_56 I_X1_bring V_X1_bring (ci := 0) rfl rfl f_air rfl hl.1 rfl (Nat.le_of_ble_eq_true rfl) dX10_tag_75 ⟨Nat.le_of_ble_eq_true rfl, Nat.le_of_ble_eq_true rfl⟩ ⟨Nat.le_of_ble_eq_true rfl, Nat.le_of_ble_eq_true rfl⟩) hH (fun μ1 H locs hp hH => ?_)
          obtain ⟨q', f', g1, g2, g3, g4⟩ := hp
          have hK : ∀ c e, μ c = some e → c ≠ l1 → (0 < n → c ≠ q) → μ1 c = μ c := fun c e hc h8 h9 => by
            have hcn := hW0 c e hc
            rw [g4 c h8 (by omega) (h9 (by omega)) (by omega)]
            exact fr c (by simp; omega)
          have g5 := (g4 (nx + 1) (by omega) (by omega) (fun e9 => by have := hp_ne f_n1 f_q (by simp); exact this e9) (by omega)).trans f_n1
          refine lv_goto (tgt := 83) hx hb dX10_tag_78 (by decide) ?_
          exact hp_ri hx hb hr hlocks hS hH (⟨rfl, rfl, q', f', AW.more (aw2 := false) hA0 g1 g2 g3 g5 hK, fun c9 e9 h9 => hK c9 e9 h9⟩) dX10_tag_83
      · have c_51 : (knB n lv sh lv2 (shA a b c1 lv2)) = true := nB_n c_51
        exact absurd c_51 (by rw [hkn]; decide)
  · have c_2 : ¬ ((3 * lv2 + 1) = 4) := fun z => c_2 ((nI_eq (by omega) (by omega)).mpr z)
    refine lv_iload_n hx hb dX10_tag_5 rfl (lv_at hl 1 rfl) ?_
    refine lv_bipush (v := nI 7) hx hb dX10_tag_6 (by decide) ?_
    refine lv_icmp_eq (tgt := 20) hx hb dX10_tag_8 (by decide) (fun c_8 => ?_) (fun c_8 => ?_)
    · have c_8 : (3 * lv2 + 1) = 7 := (nI_eq (by omega) (by omega)).mp c_8
      have hO := hH
      refine hp_new hx hb hown hS.2.1 hH (N_X10_39.use hS) (Nat.le_of_ble_eq_true rfl) (Nat.le_of_ble_eq_true rfl) dX10_tag_20 (fun H μ1 fz fn hH => ?_)
      have f_ts := fun j hj => (fn _ (Nat.ne_of_lt (hlt_ts j hj))).trans (f_ts j hj)
      have f_ss := fun j hj => (fn _ (Nat.ne_of_lt (hO.lt (f_ss j hj)))).trans (f_ss j hj)
      have hq := hq.keep (fun h9 => fn _ (Nat.ne_of_lt (hO.lt h9)))
      have f_x := (fn _ (Nat.ne_of_lt (hO.lt f_x))).trans f_x
      have f_air := (fn _ (Nat.ne_of_lt (hO.lt f_air))).trans f_air
      have f_l := (fn _ (Nat.ne_of_lt (hO.lt f_l))).trans f_l
      have f_n0 : μ1 nx = some (hp_o 5 [.int (nI 0), .null, .int (nB false), .int (nI 0), .int (nI 0)]) := fz
      have fr := hp_eq.put fr (by simp) fn
      clear fz fn hO
      refine lv_dup hx hb dX10_tag_23 rfl ?_
      refine lv_iload_n hx hb dX10_tag_24 rfl (lv_at hl 1 rfl) ?_
      refine lv_iload_n hx hb dX10_tag_25 rfl (lv_at hl 2 rfl) ?_
      refine lv_iload_n hx hb dX10_tag_26 rfl (lv_at hl 3 rfl) ?_
      refine lv_iload hx hb dX10_tag_27 (lv_at hl 4 rfl) ?_
      have hO := hH
      refine hp_kvm (hp_runI (As := [.int (nI (3 * lv2 + 1)), .int a, .int b, .int c1]) (rest := [.ref nx]) hx hb hml hown hS hH (c_X9_init l X (lv := lv2) hl1 hl3 f_n0) M_X10_41 I_X9_init rfl rfl hl.1 rfl (Nat.le_of_ble_eq_true rfl) dX10_tag_29 ⟨Nat.le_of_ble_eq_true rfl, Nat.le_of_ble_eq_true rfl⟩ ⟨Nat.le_of_ble_eq_true rfl, Nat.le_of_ble_eq_true rfl⟩) hH (fun μ1 H locs hp hH => ?_)
      obtain ⟨fz0, fz1, fe⟩ := hp
      have f_ts := fun j hj => (hp_e2 fe (Nat.ne_of_lt (hlt_ts j hj)) (Nat.ne_of_lt (hO.lt (f_ts j hj)))).trans (f_ts j hj)
      have f_ss := fun j hj => (hp_e2 fe (hp_ne (f_ss j hj) f_n0 (by simp)) (Nat.ne_of_lt (hO.lt (f_ss j hj)))).trans (f_ss j hj)
      have hq := hq.keep (fun h9 => hp_e2 fe (hp_ne h9 f_n0 (by simp)) (Nat.ne_of_lt (hO.lt h9)))
      have f_x := (hp_e2 fe (by omega) (Nat.ne_of_lt (hO.lt f_x))).trans f_x
      have f_air := (hp_e2 fe (by omega) (Nat.ne_of_lt (hO.lt f_air))).trans f_air
      have f_l := (hp_e2 fe (by omega) (Nat.ne_of_lt (hO.lt f_l))).trans f_l
      have f_n0 : μ1 nx = some (hp_o 5 [.int (nI lv2), .ref (nx + 1), .int (nB false), .int (nI 0), .int (nI 1)]) := fz0
      have f_n1 : μ1 (nx + 1) = some (hp_m X 3 (shA a b c1 lv2)) := fz1
      have fr := hp_eq.tr2 fe fr (by simp) (by simp)
      clear fe fz0 fz1 hO
      refine lv_astore (lv' := [(5, .ref nx), (0, .ref x), (1, .int (nI (3 * lv2 + 1))), (2, .int a), (3, .int b), (4, .int c1)]) hx hb dX10_tag_32 hl (by decide) rfl (fun ls hl => ?_)
      refine lv_aload hx hb dX10_tag_34 (lv_at hl 0 rfl) ?_
      refine hp_kip (hp_runV (As := []) (rest := []) hx hb hml hown hS hH (c_X9_looksUnfinished l X (shA_lt a b c1 lv2) hl1 hl3 f_n0 f_n1) M_X10_44 I_X9_looksUnfinished V_X9_looksUnfinished (ci := 5) rfl rfl f_n0 rfl hl.1 rfl (Nat.le_of_ble_eq_true rfl) dX10_tag_36 ⟨Nat.le_of_ble_eq_true rfl, Nat.le_of_ble_eq_true rfl⟩ ⟨Nat.le_of_ble_eq_true rfl, Nat.le_of_ble_eq_true rfl⟩) hH (fun H locs hH => ?_)
      refine lv_if_ne (tgt := 54) hx hb dX10_tag_39 (by decide) (fun c_39 => ?_) (fun c_39 => ?_)
      · have c_39 : (decide (shA a b c1 lv2 (lv2 - 1) % 256 = 136)) = true := nB_n c_39
        exact absurd (of_decide_eq_true c_39) hunf
      · have c_39 : (decide (shA a b c1 lv2 (lv2 - 1) % 256 = 136)) = false := nB_0 c_39
        refine lv_aload_n hx hb dX10_tag_42 rfl (lv_at hl 1 rfl) ?_
        refine hp_get hx hb hown hS.2.1 hH (F_X10_28.use hS) f_x rfl dX10_tag_43 ?_
        refine lv_aload hx hb dX10_tag_46 (lv_at hl 0 rfl) ?_
        refine hp_kip (hp_runV (As := [.ref nx]) (rest := []) hx hb hml hown hS hH (c_X1_knowsNumberOf l X hq hn16 f_ts f_ss hlv hst hle hsh (shA_lt a b c1 lv2) hl3 f_air f_l f_n0 f_n1) M_X10_48 I_X1_knowsNumberOf V_X1_knowsNumberOf (ci := 0) rfl rfl f_air rfl hl.1 rfl (Nat.le_of_ble_eq_true rfl) dX10_tag_48 ⟨Nat.le_of_ble_eq_true rfl, Nat.le_of_ble_eq_true rfl⟩ ⟨Nat.le_of_ble_eq_true rfl, Nat.le_of_ble_eq_true rfl⟩) hH (fun H locs hH => ?_)
        refine lv_if_eq (tgt := 57) hx hb dX10_tag_51 (by decide) (fun c_51 => ?_) (fun c_51 => ?_)
        · have c_51 : (knB n lv sh lv2 (shA a b c1 lv2)) = false := nB_0 c_51
          refine lv_aload_n hx hb dX10_tag_57 rfl (lv_at hl 1 rfl) ?_
          refine hp_get hx hb hown hS.2.1 hH (F_X10_28.use hS) f_x rfl dX10_tag_58 ?_
          refine hp_kip (hp_runV (As := []) (rest := []) hx hb hml hown hS hH (c_X1_count l X f_air f_l) M_X10_52 I_X1_count V_X1_count (ci := 0) rfl rfl f_air rfl hl.1 rfl (Nat.le_of_ble_eq_true rfl) dX10_tag_61 ⟨Nat.le_of_ble_eq_true rfl, Nat.le_of_ble_eq_true rfl⟩ ⟨Nat.le_of_ble_eq_true rfl, Nat.le_of_ble_eq_true rfl⟩) hH (fun H locs hH => ?_)
          refine lv_bipush (v := nI 16) hx hb dX10_tag_64 (by decide) ?_
          refine lv_icmp_ge (tgt := 81) hx hb dX10_tag_66 (by decide) (fun c_66 => ?_) (fun c_66 => ?_)
          · have c_66 : 16 ≤ n := (nI_leI (by omega) (by omega)).mp c_66
            exact absurd c_66 (by omega)
          · have c_66 : ¬ (16 ≤ n) := fun z => c_66 ((nI_leI (by omega) (by omega)).mpr z)
            refine lv_aload_n hx hb dX10_tag_69 rfl (lv_at hl 1 rfl) ?_
            refine hp_get hx hb hown hS.2.1 hH (F_X10_28.use hS) f_x rfl dX10_tag_70 ?_
            refine lv_aload hx hb dX10_tag_73 (lv_at hl 0 rfl) ?_
            obtain ⟨hnp, f_q, hf⟩ := hq.resolve_left (by omega)
            have hlt_q := hH.lt f_q
            refine hp_kim (hp_runV (As := [.ref nx]) (rest := []) hx hb hml hown hS hH (c_X1_bring_room l X (fun j hj => Nat.ne_of_lt (hlt_ts j hj)) f_ts hf hnp (by omega) h10 h15 f_air f_l f_q f_n0) M_X10_56 I_X1_bring V_X1_bring (ci := 0) rfl rfl f_air rfl hl.1 rfl (Nat.le_of_ble_eq_true rfl) dX10_tag_75 ⟨Nat.le_of_ble_eq_true rfl, Nat.le_of_ble_eq_true rfl⟩ ⟨Nat.le_of_ble_eq_true rfl, Nat.le_of_ble_eq_true rfl⟩) hH (fun μ1 H locs hp hH => ?_)
            obtain ⟨q', f', g1, g2, g3, g4⟩ := hp
            have hK : ∀ c e, μ c = some e → c ≠ l1 → (0 < n → c ≠ q) → μ1 c = μ c := fun c e hc h8 h9 => by
              have hcn := hW0 c e hc
              rw [g4 c h8 (by omega) (h9 (by omega)) (by omega)]
              exact fr c (by simp; omega)
            have g5 := (g4 (nx + 1) (by omega) (by omega) (fun e9 => by have := hp_ne f_n1 f_q (by simp); exact this e9) (by omega)).trans f_n1
            refine lv_goto (tgt := 83) hx hb dX10_tag_78 (by decide) ?_
            exact hp_ri hx hb hr hlocks hS hH (⟨rfl, rfl, q', f', AW.more (aw2 := false) hA0 g1 g2 g3 g5 hK, fun c9 e9 h9 => hK c9 e9 h9⟩) dX10_tag_83
        · have c_51 : (knB n lv sh lv2 (shA a b c1 lv2)) = true := nB_n c_51
          exact absurd c_51 (by rw [hkn]; decide)
    · have c_8 : ¬ ((3 * lv2 + 1) = 7) := fun z => c_8 ((nI_eq (by omega) (by omega)).mpr z)
      refine lv_iload_n hx hb dX10_tag_11 rfl (lv_at hl 1 rfl) ?_
      refine lv_bipush (v := nI 10) hx hb dX10_tag_12 (by decide) ?_
      refine lv_icmp_eq (tgt := 20) hx hb dX10_tag_14 (by decide) (fun c_14 => ?_) (fun c_14 => ?_)
      · have c_14 : (3 * lv2 + 1) = 10 := (nI_eq (by omega) (by omega)).mp c_14
        have hO := hH
        refine hp_new hx hb hown hS.2.1 hH (N_X10_39.use hS) (Nat.le_of_ble_eq_true rfl) (Nat.le_of_ble_eq_true rfl) dX10_tag_20 (fun H μ1 fz fn hH => ?_)
        have f_ts := fun j hj => (fn _ (Nat.ne_of_lt (hlt_ts j hj))).trans (f_ts j hj)
        have f_ss := fun j hj => (fn _ (Nat.ne_of_lt (hO.lt (f_ss j hj)))).trans (f_ss j hj)
        have hq := hq.keep (fun h9 => fn _ (Nat.ne_of_lt (hO.lt h9)))
        have f_x := (fn _ (Nat.ne_of_lt (hO.lt f_x))).trans f_x
        have f_air := (fn _ (Nat.ne_of_lt (hO.lt f_air))).trans f_air
        have f_l := (fn _ (Nat.ne_of_lt (hO.lt f_l))).trans f_l
        have f_n0 : μ1 nx = some (hp_o 5 [.int (nI 0), .null, .int (nB false), .int (nI 0), .int (nI 0)]) := fz
        have fr := hp_eq.put fr (by simp) fn
        clear fz fn hO
        refine lv_dup hx hb dX10_tag_23 rfl ?_
        refine lv_iload_n hx hb dX10_tag_24 rfl (lv_at hl 1 rfl) ?_
        refine lv_iload_n hx hb dX10_tag_25 rfl (lv_at hl 2 rfl) ?_
        refine lv_iload_n hx hb dX10_tag_26 rfl (lv_at hl 3 rfl) ?_
        refine lv_iload hx hb dX10_tag_27 (lv_at hl 4 rfl) ?_
        have hO := hH
        refine hp_kvm (hp_runI (As := [.int (nI (3 * lv2 + 1)), .int a, .int b, .int c1]) (rest := [.ref nx]) hx hb hml hown hS hH (c_X9_init l X (lv := lv2) hl1 hl3 f_n0) M_X10_41 I_X9_init rfl rfl hl.1 rfl (Nat.le_of_ble_eq_true rfl) dX10_tag_29 ⟨Nat.le_of_ble_eq_true rfl, Nat.le_of_ble_eq_true rfl⟩ ⟨Nat.le_of_ble_eq_true rfl, Nat.le_of_ble_eq_true rfl⟩) hH (fun μ1 H locs hp hH => ?_)
        obtain ⟨fz0, fz1, fe⟩ := hp
        have f_ts := fun j hj => (hp_e2 fe (Nat.ne_of_lt (hlt_ts j hj)) (Nat.ne_of_lt (hO.lt (f_ts j hj)))).trans (f_ts j hj)
        have f_ss := fun j hj => (hp_e2 fe (hp_ne (f_ss j hj) f_n0 (by simp)) (Nat.ne_of_lt (hO.lt (f_ss j hj)))).trans (f_ss j hj)
        have hq := hq.keep (fun h9 => hp_e2 fe (hp_ne h9 f_n0 (by simp)) (Nat.ne_of_lt (hO.lt h9)))
        have f_x := (hp_e2 fe (by omega) (Nat.ne_of_lt (hO.lt f_x))).trans f_x
        have f_air := (hp_e2 fe (by omega) (Nat.ne_of_lt (hO.lt f_air))).trans f_air
        have f_l := (hp_e2 fe (by omega) (Nat.ne_of_lt (hO.lt f_l))).trans f_l
        have f_n0 : μ1 nx = some (hp_o 5 [.int (nI lv2), .ref (nx + 1), .int (nB false), .int (nI 0), .int (nI 1)]) := fz0
        have f_n1 : μ1 (nx + 1) = some (hp_m X 3 (shA a b c1 lv2)) := fz1
        have fr := hp_eq.tr2 fe fr (by simp) (by simp)
        clear fe fz0 fz1 hO
        refine lv_astore (lv' := [(5, .ref nx), (0, .ref x), (1, .int (nI (3 * lv2 + 1))), (2, .int a), (3, .int b), (4, .int c1)]) hx hb dX10_tag_32 hl (by decide) rfl (fun ls hl => ?_)
        refine lv_aload hx hb dX10_tag_34 (lv_at hl 0 rfl) ?_
        refine hp_kip (hp_runV (As := []) (rest := []) hx hb hml hown hS hH (c_X9_looksUnfinished l X (shA_lt a b c1 lv2) hl1 hl3 f_n0 f_n1) M_X10_44 I_X9_looksUnfinished V_X9_looksUnfinished (ci := 5) rfl rfl f_n0 rfl hl.1 rfl (Nat.le_of_ble_eq_true rfl) dX10_tag_36 ⟨Nat.le_of_ble_eq_true rfl, Nat.le_of_ble_eq_true rfl⟩ ⟨Nat.le_of_ble_eq_true rfl, Nat.le_of_ble_eq_true rfl⟩) hH (fun H locs hH => ?_)
        refine lv_if_ne (tgt := 54) hx hb dX10_tag_39 (by decide) (fun c_39 => ?_) (fun c_39 => ?_)
        · have c_39 : (decide (shA a b c1 lv2 (lv2 - 1) % 256 = 136)) = true := nB_n c_39
          exact absurd (of_decide_eq_true c_39) hunf
        · have c_39 : (decide (shA a b c1 lv2 (lv2 - 1) % 256 = 136)) = false := nB_0 c_39
          refine lv_aload_n hx hb dX10_tag_42 rfl (lv_at hl 1 rfl) ?_
          refine hp_get hx hb hown hS.2.1 hH (F_X10_28.use hS) f_x rfl dX10_tag_43 ?_
          refine lv_aload hx hb dX10_tag_46 (lv_at hl 0 rfl) ?_
          refine hp_kip (hp_runV (As := [.ref nx]) (rest := []) hx hb hml hown hS hH (c_X1_knowsNumberOf l X hq hn16 f_ts f_ss hlv hst hle hsh (shA_lt a b c1 lv2) hl3 f_air f_l f_n0 f_n1) M_X10_48 I_X1_knowsNumberOf V_X1_knowsNumberOf (ci := 0) rfl rfl f_air rfl hl.1 rfl (Nat.le_of_ble_eq_true rfl) dX10_tag_48 ⟨Nat.le_of_ble_eq_true rfl, Nat.le_of_ble_eq_true rfl⟩ ⟨Nat.le_of_ble_eq_true rfl, Nat.le_of_ble_eq_true rfl⟩) hH (fun H locs hH => ?_)
          refine lv_if_eq (tgt := 57) hx hb dX10_tag_51 (by decide) (fun c_51 => ?_) (fun c_51 => ?_)
          · have c_51 : (knB n lv sh lv2 (shA a b c1 lv2)) = false := nB_0 c_51
            refine lv_aload_n hx hb dX10_tag_57 rfl (lv_at hl 1 rfl) ?_
            refine hp_get hx hb hown hS.2.1 hH (F_X10_28.use hS) f_x rfl dX10_tag_58 ?_
            refine hp_kip (hp_runV (As := []) (rest := []) hx hb hml hown hS hH (c_X1_count l X f_air f_l) M_X10_52 I_X1_count V_X1_count (ci := 0) rfl rfl f_air rfl hl.1 rfl (Nat.le_of_ble_eq_true rfl) dX10_tag_61 ⟨Nat.le_of_ble_eq_true rfl, Nat.le_of_ble_eq_true rfl⟩ ⟨Nat.le_of_ble_eq_true rfl, Nat.le_of_ble_eq_true rfl⟩) hH (fun H locs hH => ?_)
            refine lv_bipush (v := nI 16) hx hb dX10_tag_64 (by decide) ?_
            refine lv_icmp_ge (tgt := 81) hx hb dX10_tag_66 (by decide) (fun c_66 => ?_) (fun c_66 => ?_)
            · have c_66 : 16 ≤ n := (nI_leI (by omega) (by omega)).mp c_66
              exact absurd c_66 (by omega)
            · have c_66 : ¬ (16 ≤ n) := fun z => c_66 ((nI_leI (by omega) (by omega)).mpr z)
              refine lv_aload_n hx hb dX10_tag_69 rfl (lv_at hl 1 rfl) ?_
              refine hp_get hx hb hown hS.2.1 hH (F_X10_28.use hS) f_x rfl dX10_tag_70 ?_
              refine lv_aload hx hb dX10_tag_73 (lv_at hl 0 rfl) ?_
              obtain ⟨hnp, f_q, hf⟩ := hq.resolve_left (by omega)
              have hlt_q := hH.lt f_q
              refine hp_kim (hp_runV (As := [.ref nx]) (rest := []) hx hb hml hown hS hH (c_X1_bring_room l X (fun j hj => Nat.ne_of_lt (hlt_ts j hj)) f_ts hf hnp (by omega) h10 h15 f_air f_l f_q f_n0) M_X10_56 I_X1_bring V_X1_bring (ci := 0) rfl rfl f_air rfl hl.1 rfl (Nat.le_of_ble_eq_true rfl) dX10_tag_75 ⟨Nat.le_of_ble_eq_true rfl, Nat.le_of_ble_eq_true rfl⟩ ⟨Nat.le_of_ble_eq_true rfl, Nat.le_of_ble_eq_true rfl⟩) hH (fun μ1 H locs hp hH => ?_)
              obtain ⟨q', f', g1, g2, g3, g4⟩ := hp
              have hK : ∀ c e, μ c = some e → c ≠ l1 → (0 < n → c ≠ q) → μ1 c = μ c := fun c e hc h8 h9 => by
                have hcn := hW0 c e hc
                rw [g4 c h8 (by omega) (h9 (by omega)) (by omega)]
                exact fr c (by simp; omega)
              have g5 := (g4 (nx + 1) (by omega) (by omega) (fun e9 => by have := hp_ne f_n1 f_q (by simp); exact this e9) (by omega)).trans f_n1
              refine lv_goto (tgt := 83) hx hb dX10_tag_78 (by decide) ?_
              exact hp_ri hx hb hr hlocks hS hH (⟨rfl, rfl, q', f', AW.more (aw2 := false) hA0 g1 g2 g3 g5 hK, fun c9 e9 h9 => hK c9 e9 h9⟩) dX10_tag_83
          · have c_51 : (knB n lv sh lv2 (shA a b c1 lv2)) = true := nB_n c_51
            exact absurd c_51 (by rw [hkn]; decide)
      · have c_14 : ¬ ((3 * lv2 + 1) = 10) := fun z => c_14 ((nI_eq (by omega) (by omega)).mpr z)
        exact absurd c_14 (by omega)

set_option maxHeartbeats 4000000 in
set_option maxRecDepth 100000 in
theorem c_X10_tag_first (l : Launch) (X : hp_X) {μ : hp_M} {nx : Nat} {ar l1 f1 mc q n sent : Nat} {on : Bool} {f : Nat → Option Nat} {ta sa lv st le : Nat → Nat} {aw : Nat → Bool} {sh : Nat → Nat → Nat} {x ty la rd : Nat} {lv2 : Nat} {a b c1 : Int32} (hl1 : 1 ≤ lv2) (hl3 : lv2 ≤ 3) (hunf : ¬ shA a b c1 lv2 (lv2 - 1) % 256 = 136) (hkn : knB n lv sh lv2 (shA a b c1 lv2) = false) (hn0 : n = 0) (hn16 : n ≤ 16) (hlv : ∀ j, j < n → 1 ≤ lv j ∧ lv j ≤ 3) (hst : ∀ j, j < n → st j < 8) (hle : ∀ j, j < n → 1 ≤ le j ∧ le j ≤ 3) (hsh : ∀ j, j < n → ∀ i, sh j i < 2 ^ 40) (hA : AW X μ ar l1 f1 mc q n on sent f ta sa lv aw st le sh) (f_x : μ x = some (hp_o 6 [.ref ty, .ref la, .ref ar, .ref rd])) : Ct l X yX10_tag cX10_tag 6 (some FieldType.int) 8 320 3 18 [.ref x, .int (nI (3 * lv2 + 1)), .int a, .int b, .int c1] μ nx (hq_i X (po_i (nx + 3) (nI (n + 1)) (fun z => ∃ (q' : Nat) (f' : Nat → Option Nat), AW X z ar l1 f1 (mc + 1) q' (n + 1) on sent f' (setN ta n nx) (setN sa n (nx + 1)) (setN lv n lv2) (setB aw n false) (setN st n (if on = true ∧ false = false then 1 else 0)) (setN le n 1) (setS sh n (shA a b c1 lv2)) ∧ ∀ c9 e9, μ c9 = some e9 → c9 ≠ l1 → (0 < n → c9 ≠ q) → z c9 = μ c9))) := by
  refine hp_met (by decide) (Nat.le_of_ble_eq_true rfl) ?_
  intro p e s m below meth c ls hx hb hml hr hlocks hown hin hS hH hl
  have hl : lv_has ls 6 [(0, .ref x), (1, .int (nI (3 * lv2 + 1))), (2, .int a), (3, .int b), (4, .int c1)] := hl
  have fr : hp_eq [nx, nx + 1] μ μ := fun _ _ => rfl
  have hA0 := hA
  obtain ⟨f_air, f_l, hq, f_ts, f_ss, k1, lv1, se1, td1, tc1, f_f⟩ := hA
  have hlt_ts : ∀ j, j < n → ta j < nx := fun j hj => hH.lt (f_ts j hj)
  have hlt_ss : ∀ j, j < n → sa j < nx := fun j hj => hH.lt (f_ss j hj)
  have hlt_l := hH.lt f_l
  have hlt_a := hH.lt f_air
  have hlt_x := hH.lt f_x
  have hW0 : ∀ c e, μ c = some e → c < nx := fun c e hc => hH.lt hc
  refine lv_iload_n hx hb dX10_tag_0 rfl (lv_at hl 1 rfl) ?_
  refine lv_iconst (v := nI 4) hx hb dX10_tag_1 (by decide) ?_
  refine lv_icmp_eq (tgt := 20) hx hb dX10_tag_2 (by decide) (fun c_2 => ?_) (fun c_2 => ?_)
  · have c_2 : (3 * lv2 + 1) = 4 := (nI_eq (by omega) (by omega)).mp c_2
    have hO := hH
    refine hp_new hx hb hown hS.2.1 hH (N_X10_39.use hS) (Nat.le_of_ble_eq_true rfl) (Nat.le_of_ble_eq_true rfl) dX10_tag_20 (fun H μ1 fz fn hH => ?_)
    have f_ts := fun j hj => (fn _ (Nat.ne_of_lt (hlt_ts j hj))).trans (f_ts j hj)
    have f_ss := fun j hj => (fn _ (Nat.ne_of_lt (hO.lt (f_ss j hj)))).trans (f_ss j hj)
    have hq := hq.keep (fun h9 => fn _ (Nat.ne_of_lt (hO.lt h9)))
    have f_x := (fn _ (Nat.ne_of_lt (hO.lt f_x))).trans f_x
    have f_air := (fn _ (Nat.ne_of_lt (hO.lt f_air))).trans f_air
    have f_l := (fn _ (Nat.ne_of_lt (hO.lt f_l))).trans f_l
    have f_n0 : μ1 nx = some (hp_o 5 [.int (nI 0), .null, .int (nB false), .int (nI 0), .int (nI 0)]) := fz
    have fr := hp_eq.put fr (by simp) fn
    clear fz fn hO
    refine lv_dup hx hb dX10_tag_23 rfl ?_
    refine lv_iload_n hx hb dX10_tag_24 rfl (lv_at hl 1 rfl) ?_
    refine lv_iload_n hx hb dX10_tag_25 rfl (lv_at hl 2 rfl) ?_
    refine lv_iload_n hx hb dX10_tag_26 rfl (lv_at hl 3 rfl) ?_
    refine lv_iload hx hb dX10_tag_27 (lv_at hl 4 rfl) ?_
    have hO := hH
    refine hp_kvm (hp_runI (As := [.int (nI (3 * lv2 + 1)), .int a, .int b, .int c1]) (rest := [.ref nx]) hx hb hml hown hS hH (c_X9_init l X (lv := lv2) hl1 hl3 f_n0) M_X10_41 I_X9_init rfl rfl hl.1 rfl (Nat.le_of_ble_eq_true rfl) dX10_tag_29 ⟨Nat.le_of_ble_eq_true rfl, Nat.le_of_ble_eq_true rfl⟩ ⟨Nat.le_of_ble_eq_true rfl, Nat.le_of_ble_eq_true rfl⟩) hH (fun μ1 H locs hp hH => ?_)
    obtain ⟨fz0, fz1, fe⟩ := hp
    have f_ts := fun j hj => (hp_e2 fe (Nat.ne_of_lt (hlt_ts j hj)) (Nat.ne_of_lt (hO.lt (f_ts j hj)))).trans (f_ts j hj)
    have f_ss := fun j hj => (hp_e2 fe (hp_ne (f_ss j hj) f_n0 (by simp)) (Nat.ne_of_lt (hO.lt (f_ss j hj)))).trans (f_ss j hj)
    have hq := hq.keep (fun h9 => hp_e2 fe (hp_ne h9 f_n0 (by simp)) (Nat.ne_of_lt (hO.lt h9)))
    have f_x := (hp_e2 fe (by omega) (Nat.ne_of_lt (hO.lt f_x))).trans f_x
    have f_air := (hp_e2 fe (by omega) (Nat.ne_of_lt (hO.lt f_air))).trans f_air
    have f_l := (hp_e2 fe (by omega) (Nat.ne_of_lt (hO.lt f_l))).trans f_l
    have f_n0 : μ1 nx = some (hp_o 5 [.int (nI lv2), .ref (nx + 1), .int (nB false), .int (nI 0), .int (nI 1)]) := fz0
    have f_n1 : μ1 (nx + 1) = some (hp_m X 3 (shA a b c1 lv2)) := fz1
    have fr := hp_eq.tr2 fe fr (by simp) (by simp)
    clear fe fz0 fz1 hO
    refine lv_astore (lv' := [(5, .ref nx), (0, .ref x), (1, .int (nI (3 * lv2 + 1))), (2, .int a), (3, .int b), (4, .int c1)]) hx hb dX10_tag_32 hl (by decide) rfl (fun ls hl => ?_)
    refine lv_aload hx hb dX10_tag_34 (lv_at hl 0 rfl) ?_
    refine hp_kip (hp_runV (As := []) (rest := []) hx hb hml hown hS hH (c_X9_looksUnfinished l X (shA_lt a b c1 lv2) hl1 hl3 f_n0 f_n1) M_X10_44 I_X9_looksUnfinished V_X9_looksUnfinished (ci := 5) rfl rfl f_n0 rfl hl.1 rfl (Nat.le_of_ble_eq_true rfl) dX10_tag_36 ⟨Nat.le_of_ble_eq_true rfl, Nat.le_of_ble_eq_true rfl⟩ ⟨Nat.le_of_ble_eq_true rfl, Nat.le_of_ble_eq_true rfl⟩) hH (fun H locs hH => ?_)
    refine lv_if_ne (tgt := 54) hx hb dX10_tag_39 (by decide) (fun c_39 => ?_) (fun c_39 => ?_)
    · have c_39 : (decide (shA a b c1 lv2 (lv2 - 1) % 256 = 136)) = true := nB_n c_39
      exact absurd (of_decide_eq_true c_39) hunf
    · have c_39 : (decide (shA a b c1 lv2 (lv2 - 1) % 256 = 136)) = false := nB_0 c_39
      refine lv_aload_n hx hb dX10_tag_42 rfl (lv_at hl 1 rfl) ?_
      refine hp_get hx hb hown hS.2.1 hH (F_X10_28.use hS) f_x rfl dX10_tag_43 ?_
      refine lv_aload hx hb dX10_tag_46 (lv_at hl 0 rfl) ?_
      refine hp_kip (hp_runV (As := [.ref nx]) (rest := []) hx hb hml hown hS hH (c_X1_knowsNumberOf l X hq hn16 f_ts f_ss hlv hst hle hsh (shA_lt a b c1 lv2) hl3 f_air f_l f_n0 f_n1) M_X10_48 I_X1_knowsNumberOf V_X1_knowsNumberOf (ci := 0) rfl rfl f_air rfl hl.1 rfl (Nat.le_of_ble_eq_true rfl) dX10_tag_48 ⟨Nat.le_of_ble_eq_true rfl, Nat.le_of_ble_eq_true rfl⟩ ⟨Nat.le_of_ble_eq_true rfl, Nat.le_of_ble_eq_true rfl⟩) hH (fun H locs hH => ?_)
      refine lv_if_eq (tgt := 57) hx hb dX10_tag_51 (by decide) (fun c_51 => ?_) (fun c_51 => ?_)
      · have c_51 : (knB n lv sh lv2 (shA a b c1 lv2)) = false := nB_0 c_51
        refine lv_aload_n hx hb dX10_tag_57 rfl (lv_at hl 1 rfl) ?_
        refine hp_get hx hb hown hS.2.1 hH (F_X10_28.use hS) f_x rfl dX10_tag_58 ?_
        refine hp_kip (hp_runV (As := []) (rest := []) hx hb hml hown hS hH (c_X1_count l X f_air f_l) M_X10_52 I_X1_count V_X1_count (ci := 0) rfl rfl f_air rfl hl.1 rfl (Nat.le_of_ble_eq_true rfl) dX10_tag_61 ⟨Nat.le_of_ble_eq_true rfl, Nat.le_of_ble_eq_true rfl⟩ ⟨Nat.le_of_ble_eq_true rfl, Nat.le_of_ble_eq_true rfl⟩) hH (fun H locs hH => ?_)
        refine lv_bipush (v := nI 16) hx hb dX10_tag_64 (by decide) ?_
        refine lv_icmp_ge (tgt := 81) hx hb dX10_tag_66 (by decide) (fun c_66 => ?_) (fun c_66 => ?_)
        · have c_66 : 16 ≤ n := (nI_leI (by omega) (by omega)).mp c_66
          exact absurd c_66 (by omega)
        · have c_66 : ¬ (16 ≤ n) := fun z => c_66 ((nI_leI (by omega) (by omega)).mpr z)
          refine lv_aload_n hx hb dX10_tag_69 rfl (lv_at hl 1 rfl) ?_
          refine hp_get hx hb hown hS.2.1 hH (F_X10_28.use hS) f_x rfl dX10_tag_70 ?_
          refine lv_aload hx hb dX10_tag_73 (lv_at hl 0 rfl) ?_
          have en : n = 0 := hn0
          subst en
          have eq9 : q = X.2.2.2 16 := hq.elim (fun h => h.2) (fun h => absurd h.1 (Nat.lt_irrefl _))
          subst eq9
          refine hp_kim (hp_runV (As := [.ref nx]) (rest := []) hx hb hml hown hS hH (c_X1_bring_first l X (ta := ta) f_air f_l f_n0) M_X10_56 I_X1_bring V_X1_bring (ci := 0) rfl rfl f_air rfl hl.1 rfl (Nat.le_of_ble_eq_true rfl) dX10_tag_75 ⟨Nat.le_of_ble_eq_true rfl, Nat.le_of_ble_eq_true rfl⟩ ⟨Nat.le_of_ble_eq_true rfl, Nat.le_of_ble_eq_true rfl⟩) hH (fun μ1 H locs hp hH => ?_)
          obtain ⟨q', f', g1, g2, g3, g4⟩ := hp
          have hK : ∀ c e, μ c = some e → c ≠ l1 → (0 < 0 → c ≠ X.2.2.2 16) → μ1 c = μ c := fun c e hc h8 h9 => by
            have hcn := hW0 c e hc
            rw [g4 c h8 (by omega) (by omega)]
            exact fr c (by simp; omega)
          have g5 := (g4 (nx + 1) (by omega) (by omega) (by omega)).trans f_n1
          refine lv_goto (tgt := 83) hx hb dX10_tag_78 (by decide) ?_
          exact hp_ri hx hb hr hlocks hS hH (⟨rfl, rfl, q', f', AW.more (aw2 := false) hA0 g1 g2 g3 g5 hK, fun c9 e9 h9 => hK c9 e9 h9⟩) dX10_tag_83
      · have c_51 : (knB n lv sh lv2 (shA a b c1 lv2)) = true := nB_n c_51
        exact absurd c_51 (by rw [hkn]; decide)
  · have c_2 : ¬ ((3 * lv2 + 1) = 4) := fun z => c_2 ((nI_eq (by omega) (by omega)).mpr z)
    refine lv_iload_n hx hb dX10_tag_5 rfl (lv_at hl 1 rfl) ?_
    refine lv_bipush (v := nI 7) hx hb dX10_tag_6 (by decide) ?_
    refine lv_icmp_eq (tgt := 20) hx hb dX10_tag_8 (by decide) (fun c_8 => ?_) (fun c_8 => ?_)
    · have c_8 : (3 * lv2 + 1) = 7 := (nI_eq (by omega) (by omega)).mp c_8
      have hO := hH
      refine hp_new hx hb hown hS.2.1 hH (N_X10_39.use hS) (Nat.le_of_ble_eq_true rfl) (Nat.le_of_ble_eq_true rfl) dX10_tag_20 (fun H μ1 fz fn hH => ?_)
      have f_ts := fun j hj => (fn _ (Nat.ne_of_lt (hlt_ts j hj))).trans (f_ts j hj)
      have f_ss := fun j hj => (fn _ (Nat.ne_of_lt (hO.lt (f_ss j hj)))).trans (f_ss j hj)
      have hq := hq.keep (fun h9 => fn _ (Nat.ne_of_lt (hO.lt h9)))
      have f_x := (fn _ (Nat.ne_of_lt (hO.lt f_x))).trans f_x
      have f_air := (fn _ (Nat.ne_of_lt (hO.lt f_air))).trans f_air
      have f_l := (fn _ (Nat.ne_of_lt (hO.lt f_l))).trans f_l
      have f_n0 : μ1 nx = some (hp_o 5 [.int (nI 0), .null, .int (nB false), .int (nI 0), .int (nI 0)]) := fz
      have fr := hp_eq.put fr (by simp) fn
      clear fz fn hO
      refine lv_dup hx hb dX10_tag_23 rfl ?_
      refine lv_iload_n hx hb dX10_tag_24 rfl (lv_at hl 1 rfl) ?_
      refine lv_iload_n hx hb dX10_tag_25 rfl (lv_at hl 2 rfl) ?_
      refine lv_iload_n hx hb dX10_tag_26 rfl (lv_at hl 3 rfl) ?_
      refine lv_iload hx hb dX10_tag_27 (lv_at hl 4 rfl) ?_
      have hO := hH
      refine hp_kvm (hp_runI (As := [.int (nI (3 * lv2 + 1)), .int a, .int b, .int c1]) (rest := [.ref nx]) hx hb hml hown hS hH (c_X9_init l X (lv := lv2) hl1 hl3 f_n0) M_X10_41 I_X9_init rfl rfl hl.1 rfl (Nat.le_of_ble_eq_true rfl) dX10_tag_29 ⟨Nat.le_of_ble_eq_true rfl, Nat.le_of_ble_eq_true rfl⟩ ⟨Nat.le_of_ble_eq_true rfl, Nat.le_of_ble_eq_true rfl⟩) hH (fun μ1 H locs hp hH => ?_)
      obtain ⟨fz0, fz1, fe⟩ := hp
      have f_ts := fun j hj => (hp_e2 fe (Nat.ne_of_lt (hlt_ts j hj)) (Nat.ne_of_lt (hO.lt (f_ts j hj)))).trans (f_ts j hj)
      have f_ss := fun j hj => (hp_e2 fe (hp_ne (f_ss j hj) f_n0 (by simp)) (Nat.ne_of_lt (hO.lt (f_ss j hj)))).trans (f_ss j hj)
      have hq := hq.keep (fun h9 => hp_e2 fe (hp_ne h9 f_n0 (by simp)) (Nat.ne_of_lt (hO.lt h9)))
      have f_x := (hp_e2 fe (by omega) (Nat.ne_of_lt (hO.lt f_x))).trans f_x
      have f_air := (hp_e2 fe (by omega) (Nat.ne_of_lt (hO.lt f_air))).trans f_air
      have f_l := (hp_e2 fe (by omega) (Nat.ne_of_lt (hO.lt f_l))).trans f_l
      have f_n0 : μ1 nx = some (hp_o 5 [.int (nI lv2), .ref (nx + 1), .int (nB false), .int (nI 0), .int (nI 1)]) := fz0
      have f_n1 : μ1 (nx + 1) = some (hp_m X 3 (shA a b c1 lv2)) := fz1
      have fr := hp_eq.tr2 fe fr (by simp) (by simp)
      clear fe fz0 fz1 hO
      refine lv_astore (lv' := [(5, .ref nx), (0, .ref x), (1, .int (nI (3 * lv2 + 1))), (2, .int a), (3, .int b), (4, .int c1)]) hx hb dX10_tag_32 hl (by decide) rfl (fun ls hl => ?_)
      refine lv_aload hx hb dX10_tag_34 (lv_at hl 0 rfl) ?_
      refine hp_kip (hp_runV (As := []) (rest := []) hx hb hml hown hS hH (c_X9_looksUnfinished l X (shA_lt a b c1 lv2) hl1 hl3 f_n0 f_n1) M_X10_44 I_X9_looksUnfinished V_X9_looksUnfinished (ci := 5) rfl rfl f_n0 rfl hl.1 rfl (Nat.le_of_ble_eq_true rfl) dX10_tag_36 ⟨Nat.le_of_ble_eq_true rfl, Nat.le_of_ble_eq_true rfl⟩ ⟨Nat.le_of_ble_eq_true rfl, Nat.le_of_ble_eq_true rfl⟩) hH (fun H locs hH => ?_)
      refine lv_if_ne (tgt := 54) hx hb dX10_tag_39 (by decide) (fun c_39 => ?_) (fun c_39 => ?_)
      · have c_39 : (decide (shA a b c1 lv2 (lv2 - 1) % 256 = 136)) = true := nB_n c_39
        exact absurd (of_decide_eq_true c_39) hunf
      · have c_39 : (decide (shA a b c1 lv2 (lv2 - 1) % 256 = 136)) = false := nB_0 c_39
        refine lv_aload_n hx hb dX10_tag_42 rfl (lv_at hl 1 rfl) ?_
        refine hp_get hx hb hown hS.2.1 hH (F_X10_28.use hS) f_x rfl dX10_tag_43 ?_
        refine lv_aload hx hb dX10_tag_46 (lv_at hl 0 rfl) ?_
        refine hp_kip (hp_runV (As := [.ref nx]) (rest := []) hx hb hml hown hS hH (c_X1_knowsNumberOf l X hq hn16 f_ts f_ss hlv hst hle hsh (shA_lt a b c1 lv2) hl3 f_air f_l f_n0 f_n1) M_X10_48 I_X1_knowsNumberOf V_X1_knowsNumberOf (ci := 0) rfl rfl f_air rfl hl.1 rfl (Nat.le_of_ble_eq_true rfl) dX10_tag_48 ⟨Nat.le_of_ble_eq_true rfl, Nat.le_of_ble_eq_true rfl⟩ ⟨Nat.le_of_ble_eq_true rfl, Nat.le_of_ble_eq_true rfl⟩) hH (fun H locs hH => ?_)
        refine lv_if_eq (tgt := 57) hx hb dX10_tag_51 (by decide) (fun c_51 => ?_) (fun c_51 => ?_)
        · have c_51 : (knB n lv sh lv2 (shA a b c1 lv2)) = false := nB_0 c_51
          refine lv_aload_n hx hb dX10_tag_57 rfl (lv_at hl 1 rfl) ?_
          refine hp_get hx hb hown hS.2.1 hH (F_X10_28.use hS) f_x rfl dX10_tag_58 ?_
          refine hp_kip (hp_runV (As := []) (rest := []) hx hb hml hown hS hH (c_X1_count l X f_air f_l) M_X10_52 I_X1_count V_X1_count (ci := 0) rfl rfl f_air rfl hl.1 rfl (Nat.le_of_ble_eq_true rfl) dX10_tag_61 ⟨Nat.le_of_ble_eq_true rfl, Nat.le_of_ble_eq_true rfl⟩ ⟨Nat.le_of_ble_eq_true rfl, Nat.le_of_ble_eq_true rfl⟩) hH (fun H locs hH => ?_)
          refine lv_bipush (v := nI 16) hx hb dX10_tag_64 (by decide) ?_
          refine lv_icmp_ge (tgt := 81) hx hb dX10_tag_66 (by decide) (fun c_66 => ?_) (fun c_66 => ?_)
          · have c_66 : 16 ≤ n := (nI_leI (by omega) (by omega)).mp c_66
            exact absurd c_66 (by omega)
          · have c_66 : ¬ (16 ≤ n) := fun z => c_66 ((nI_leI (by omega) (by omega)).mpr z)
            refine lv_aload_n hx hb dX10_tag_69 rfl (lv_at hl 1 rfl) ?_
            refine hp_get hx hb hown hS.2.1 hH (F_X10_28.use hS) f_x rfl dX10_tag_70 ?_
            refine lv_aload hx hb dX10_tag_73 (lv_at hl 0 rfl) ?_
            have en : n = 0 := hn0
            subst en
            have eq9 : q = X.2.2.2 16 := hq.elim (fun h => h.2) (fun h => absurd h.1 (Nat.lt_irrefl _))
            subst eq9
            refine hp_kim (hp_runV (As := [.ref nx]) (rest := []) hx hb hml hown hS hH (c_X1_bring_first l X (ta := ta) f_air f_l f_n0) M_X10_56 I_X1_bring V_X1_bring (ci := 0) rfl rfl f_air rfl hl.1 rfl (Nat.le_of_ble_eq_true rfl) dX10_tag_75 ⟨Nat.le_of_ble_eq_true rfl, Nat.le_of_ble_eq_true rfl⟩ ⟨Nat.le_of_ble_eq_true rfl, Nat.le_of_ble_eq_true rfl⟩) hH (fun μ1 H locs hp hH => ?_)
            obtain ⟨q', f', g1, g2, g3, g4⟩ := hp
            have hK : ∀ c e, μ c = some e → c ≠ l1 → (0 < 0 → c ≠ X.2.2.2 16) → μ1 c = μ c := fun c e hc h8 h9 => by
              have hcn := hW0 c e hc
              rw [g4 c h8 (by omega) (by omega)]
              exact fr c (by simp; omega)
            have g5 := (g4 (nx + 1) (by omega) (by omega) (by omega)).trans f_n1
            refine lv_goto (tgt := 83) hx hb dX10_tag_78 (by decide) ?_
            exact hp_ri hx hb hr hlocks hS hH (⟨rfl, rfl, q', f', AW.more (aw2 := false) hA0 g1 g2 g3 g5 hK, fun c9 e9 h9 => hK c9 e9 h9⟩) dX10_tag_83
        · have c_51 : (knB n lv sh lv2 (shA a b c1 lv2)) = true := nB_n c_51
          exact absurd c_51 (by rw [hkn]; decide)
    · have c_8 : ¬ ((3 * lv2 + 1) = 7) := fun z => c_8 ((nI_eq (by omega) (by omega)).mpr z)
      refine lv_iload_n hx hb dX10_tag_11 rfl (lv_at hl 1 rfl) ?_
      refine lv_bipush (v := nI 10) hx hb dX10_tag_12 (by decide) ?_
      refine lv_icmp_eq (tgt := 20) hx hb dX10_tag_14 (by decide) (fun c_14 => ?_) (fun c_14 => ?_)
      · have c_14 : (3 * lv2 + 1) = 10 := (nI_eq (by omega) (by omega)).mp c_14
        have hO := hH
        refine hp_new hx hb hown hS.2.1 hH (N_X10_39.use hS) (Nat.le_of_ble_eq_true rfl) (Nat.le_of_ble_eq_true rfl) dX10_tag_20 (fun H μ1 fz fn hH => ?_)
        have f_ts := fun j hj => (fn _ (Nat.ne_of_lt (hlt_ts j hj))).trans (f_ts j hj)
        have f_ss := fun j hj => (fn _ (Nat.ne_of_lt (hO.lt (f_ss j hj)))).trans (f_ss j hj)
        have hq := hq.keep (fun h9 => fn _ (Nat.ne_of_lt (hO.lt h9)))
        have f_x := (fn _ (Nat.ne_of_lt (hO.lt f_x))).trans f_x
        have f_air := (fn _ (Nat.ne_of_lt (hO.lt f_air))).trans f_air
        have f_l := (fn _ (Nat.ne_of_lt (hO.lt f_l))).trans f_l
        have f_n0 : μ1 nx = some (hp_o 5 [.int (nI 0), .null, .int (nB false), .int (nI 0), .int (nI 0)]) := fz
        have fr := hp_eq.put fr (by simp) fn
        clear fz fn hO
        refine lv_dup hx hb dX10_tag_23 rfl ?_
        refine lv_iload_n hx hb dX10_tag_24 rfl (lv_at hl 1 rfl) ?_
        refine lv_iload_n hx hb dX10_tag_25 rfl (lv_at hl 2 rfl) ?_
        refine lv_iload_n hx hb dX10_tag_26 rfl (lv_at hl 3 rfl) ?_
        refine lv_iload hx hb dX10_tag_27 (lv_at hl 4 rfl) ?_
        have hO := hH
        refine hp_kvm (hp_runI (As := [.int (nI (3 * lv2 + 1)), .int a, .int b, .int c1]) (rest := [.ref nx]) hx hb hml hown hS hH (c_X9_init l X (lv := lv2) hl1 hl3 f_n0) M_X10_41 I_X9_init rfl rfl hl.1 rfl (Nat.le_of_ble_eq_true rfl) dX10_tag_29 ⟨Nat.le_of_ble_eq_true rfl, Nat.le_of_ble_eq_true rfl⟩ ⟨Nat.le_of_ble_eq_true rfl, Nat.le_of_ble_eq_true rfl⟩) hH (fun μ1 H locs hp hH => ?_)
        obtain ⟨fz0, fz1, fe⟩ := hp
        have f_ts := fun j hj => (hp_e2 fe (Nat.ne_of_lt (hlt_ts j hj)) (Nat.ne_of_lt (hO.lt (f_ts j hj)))).trans (f_ts j hj)
        have f_ss := fun j hj => (hp_e2 fe (hp_ne (f_ss j hj) f_n0 (by simp)) (Nat.ne_of_lt (hO.lt (f_ss j hj)))).trans (f_ss j hj)
        have hq := hq.keep (fun h9 => hp_e2 fe (hp_ne h9 f_n0 (by simp)) (Nat.ne_of_lt (hO.lt h9)))
        have f_x := (hp_e2 fe (by omega) (Nat.ne_of_lt (hO.lt f_x))).trans f_x
        have f_air := (hp_e2 fe (by omega) (Nat.ne_of_lt (hO.lt f_air))).trans f_air
        have f_l := (hp_e2 fe (by omega) (Nat.ne_of_lt (hO.lt f_l))).trans f_l
        have f_n0 : μ1 nx = some (hp_o 5 [.int (nI lv2), .ref (nx + 1), .int (nB false), .int (nI 0), .int (nI 1)]) := fz0
        have f_n1 : μ1 (nx + 1) = some (hp_m X 3 (shA a b c1 lv2)) := fz1
        have fr := hp_eq.tr2 fe fr (by simp) (by simp)
        clear fe fz0 fz1 hO
        refine lv_astore (lv' := [(5, .ref nx), (0, .ref x), (1, .int (nI (3 * lv2 + 1))), (2, .int a), (3, .int b), (4, .int c1)]) hx hb dX10_tag_32 hl (by decide) rfl (fun ls hl => ?_)
        refine lv_aload hx hb dX10_tag_34 (lv_at hl 0 rfl) ?_
        refine hp_kip (hp_runV (As := []) (rest := []) hx hb hml hown hS hH (c_X9_looksUnfinished l X (shA_lt a b c1 lv2) hl1 hl3 f_n0 f_n1) M_X10_44 I_X9_looksUnfinished V_X9_looksUnfinished (ci := 5) rfl rfl f_n0 rfl hl.1 rfl (Nat.le_of_ble_eq_true rfl) dX10_tag_36 ⟨Nat.le_of_ble_eq_true rfl, Nat.le_of_ble_eq_true rfl⟩ ⟨Nat.le_of_ble_eq_true rfl, Nat.le_of_ble_eq_true rfl⟩) hH (fun H locs hH => ?_)
        refine lv_if_ne (tgt := 54) hx hb dX10_tag_39 (by decide) (fun c_39 => ?_) (fun c_39 => ?_)
        · have c_39 : (decide (shA a b c1 lv2 (lv2 - 1) % 256 = 136)) = true := nB_n c_39
          exact absurd (of_decide_eq_true c_39) hunf
        · have c_39 : (decide (shA a b c1 lv2 (lv2 - 1) % 256 = 136)) = false := nB_0 c_39
          refine lv_aload_n hx hb dX10_tag_42 rfl (lv_at hl 1 rfl) ?_
          refine hp_get hx hb hown hS.2.1 hH (F_X10_28.use hS) f_x rfl dX10_tag_43 ?_
          refine lv_aload hx hb dX10_tag_46 (lv_at hl 0 rfl) ?_
          refine hp_kip (hp_runV (As := [.ref nx]) (rest := []) hx hb hml hown hS hH (c_X1_knowsNumberOf l X hq hn16 f_ts f_ss hlv hst hle hsh (shA_lt a b c1 lv2) hl3 f_air f_l f_n0 f_n1) M_X10_48 I_X1_knowsNumberOf V_X1_knowsNumberOf (ci := 0) rfl rfl f_air rfl hl.1 rfl (Nat.le_of_ble_eq_true rfl) dX10_tag_48 ⟨Nat.le_of_ble_eq_true rfl, Nat.le_of_ble_eq_true rfl⟩ ⟨Nat.le_of_ble_eq_true rfl, Nat.le_of_ble_eq_true rfl⟩) hH (fun H locs hH => ?_)
          refine lv_if_eq (tgt := 57) hx hb dX10_tag_51 (by decide) (fun c_51 => ?_) (fun c_51 => ?_)
          · have c_51 : (knB n lv sh lv2 (shA a b c1 lv2)) = false := nB_0 c_51
            refine lv_aload_n hx hb dX10_tag_57 rfl (lv_at hl 1 rfl) ?_
            refine hp_get hx hb hown hS.2.1 hH (F_X10_28.use hS) f_x rfl dX10_tag_58 ?_
            refine hp_kip (hp_runV (As := []) (rest := []) hx hb hml hown hS hH (c_X1_count l X f_air f_l) M_X10_52 I_X1_count V_X1_count (ci := 0) rfl rfl f_air rfl hl.1 rfl (Nat.le_of_ble_eq_true rfl) dX10_tag_61 ⟨Nat.le_of_ble_eq_true rfl, Nat.le_of_ble_eq_true rfl⟩ ⟨Nat.le_of_ble_eq_true rfl, Nat.le_of_ble_eq_true rfl⟩) hH (fun H locs hH => ?_)
            refine lv_bipush (v := nI 16) hx hb dX10_tag_64 (by decide) ?_
            refine lv_icmp_ge (tgt := 81) hx hb dX10_tag_66 (by decide) (fun c_66 => ?_) (fun c_66 => ?_)
            · have c_66 : 16 ≤ n := (nI_leI (by omega) (by omega)).mp c_66
              exact absurd c_66 (by omega)
            · have c_66 : ¬ (16 ≤ n) := fun z => c_66 ((nI_leI (by omega) (by omega)).mpr z)
              refine lv_aload_n hx hb dX10_tag_69 rfl (lv_at hl 1 rfl) ?_
              refine hp_get hx hb hown hS.2.1 hH (F_X10_28.use hS) f_x rfl dX10_tag_70 ?_
              refine lv_aload hx hb dX10_tag_73 (lv_at hl 0 rfl) ?_
              have en : n = 0 := hn0
              subst en
              have eq9 : q = X.2.2.2 16 := hq.elim (fun h => h.2) (fun h => absurd h.1 (Nat.lt_irrefl _))
              subst eq9
              refine hp_kim (hp_runV (As := [.ref nx]) (rest := []) hx hb hml hown hS hH (c_X1_bring_first l X (ta := ta) f_air f_l f_n0) M_X10_56 I_X1_bring V_X1_bring (ci := 0) rfl rfl f_air rfl hl.1 rfl (Nat.le_of_ble_eq_true rfl) dX10_tag_75 ⟨Nat.le_of_ble_eq_true rfl, Nat.le_of_ble_eq_true rfl⟩ ⟨Nat.le_of_ble_eq_true rfl, Nat.le_of_ble_eq_true rfl⟩) hH (fun μ1 H locs hp hH => ?_)
              obtain ⟨q', f', g1, g2, g3, g4⟩ := hp
              have hK : ∀ c e, μ c = some e → c ≠ l1 → (0 < 0 → c ≠ X.2.2.2 16) → μ1 c = μ c := fun c e hc h8 h9 => by
                have hcn := hW0 c e hc
                rw [g4 c h8 (by omega) (by omega)]
                exact fr c (by simp; omega)
              have g5 := (g4 (nx + 1) (by omega) (by omega) (by omega)).trans f_n1
              refine lv_goto (tgt := 83) hx hb dX10_tag_78 (by decide) ?_
              exact hp_ri hx hb hr hlocks hS hH (⟨rfl, rfl, q', f', AW.more (aw2 := false) hA0 g1 g2 g3 g5 hK, fun c9 e9 h9 => hK c9 e9 h9⟩) dX10_tag_83
          · have c_51 : (knB n lv sh lv2 (shA a b c1 lv2)) = true := nB_n c_51
            exact absurd c_51 (by rw [hkn]; decide)
      · have c_14 : ¬ ((3 * lv2 + 1) = 10) := fun z => c_14 ((nI_eq (by omega) (by omega)).mpr z)
        exact absurd c_14 (by omega)

set_option maxHeartbeats 4000000 in
set_option maxRecDepth 100000 in
theorem c_X10_tag_10 (l : Launch) (X : hp_X) {μ : hp_M} {nx : Nat} {ar l1 f1 mc q n sent : Nat} {on : Bool} {f : Nat → Option Nat} {ta sa lv st le : Nat → Nat} {aw : Nat → Bool} {sh : Nat → Nat → Nat} {x ty la rd : Nat} {lv2 : Nat} {a b c1 : Int32} (hl1 : 1 ≤ lv2) (hl3 : lv2 ≤ 3) (hunf : ¬ shA a b c1 lv2 (lv2 - 1) % 256 = 136) (hkn : knB n lv sh lv2 (shA a b c1 lv2) = false) (hn0 : n = 10) (hn16 : n ≤ 16) (hlv : ∀ j, j < n → 1 ≤ lv j ∧ lv j ≤ 3) (hst : ∀ j, j < n → st j < 8) (hle : ∀ j, j < n → 1 ≤ le j ∧ le j ≤ 3) (hsh : ∀ j, j < n → ∀ i, sh j i < 2 ^ 40) (hA : AW X μ ar l1 f1 mc q n on sent f ta sa lv aw st le sh) (f_x : μ x = some (hp_o 6 [.ref ty, .ref la, .ref ar, .ref rd])) : Ct l X yX10_tag cX10_tag 6 (some FieldType.int) 8 320 3 23 [.ref x, .int (nI (3 * lv2 + 1)), .int a, .int b, .int c1] μ nx (hq_i X (po_i (nx + 3) (nI (n + 1)) (fun z => ∃ (q' : Nat) (f' : Nat → Option Nat), AW X z ar l1 f1 (mc + 1) q' (n + 1) on sent f' (setN ta n nx) (setN sa n (nx + 1)) (setN lv n lv2) (setB aw n false) (setN st n (if on = true ∧ false = false then 1 else 0)) (setN le n 1) (setS sh n (shA a b c1 lv2)) ∧ ∀ c9 e9, μ c9 = some e9 → c9 ≠ l1 → (0 < n → c9 ≠ q) → z c9 = μ c9))) := by
  refine hp_met (by decide) (Nat.le_of_ble_eq_true rfl) ?_
  intro p e s m below meth c ls hx hb hml hr hlocks hown hin hS hH hl
  have hl : lv_has ls 6 [(0, .ref x), (1, .int (nI (3 * lv2 + 1))), (2, .int a), (3, .int b), (4, .int c1)] := hl
  have fr : hp_eq [nx, nx + 1] μ μ := fun _ _ => rfl
  have hA0 := hA
  obtain ⟨f_air, f_l, hq, f_ts, f_ss, k1, lv1, se1, td1, tc1, f_f⟩ := hA
  have hlt_ts : ∀ j, j < n → ta j < nx := fun j hj => hH.lt (f_ts j hj)
  have hlt_ss : ∀ j, j < n → sa j < nx := fun j hj => hH.lt (f_ss j hj)
  have hlt_l := hH.lt f_l
  have hlt_a := hH.lt f_air
  have hlt_x := hH.lt f_x
  have hW0 : ∀ c e, μ c = some e → c < nx := fun c e hc => hH.lt hc
  refine lv_iload_n hx hb dX10_tag_0 rfl (lv_at hl 1 rfl) ?_
  refine lv_iconst (v := nI 4) hx hb dX10_tag_1 (by decide) ?_
  refine lv_icmp_eq (tgt := 20) hx hb dX10_tag_2 (by decide) (fun c_2 => ?_) (fun c_2 => ?_)
  · have c_2 : (3 * lv2 + 1) = 4 := (nI_eq (by omega) (by omega)).mp c_2
    have hO := hH
    refine hp_new hx hb hown hS.2.1 hH (N_X10_39.use hS) (Nat.le_of_ble_eq_true rfl) (Nat.le_of_ble_eq_true rfl) dX10_tag_20 (fun H μ1 fz fn hH => ?_)
    have f_ts := fun j hj => (fn _ (Nat.ne_of_lt (hlt_ts j hj))).trans (f_ts j hj)
    have f_ss := fun j hj => (fn _ (Nat.ne_of_lt (hO.lt (f_ss j hj)))).trans (f_ss j hj)
    have hq := hq.keep (fun h9 => fn _ (Nat.ne_of_lt (hO.lt h9)))
    have f_x := (fn _ (Nat.ne_of_lt (hO.lt f_x))).trans f_x
    have f_air := (fn _ (Nat.ne_of_lt (hO.lt f_air))).trans f_air
    have f_l := (fn _ (Nat.ne_of_lt (hO.lt f_l))).trans f_l
    have f_n0 : μ1 nx = some (hp_o 5 [.int (nI 0), .null, .int (nB false), .int (nI 0), .int (nI 0)]) := fz
    have fr := hp_eq.put fr (by simp) fn
    clear fz fn hO
    refine lv_dup hx hb dX10_tag_23 rfl ?_
    refine lv_iload_n hx hb dX10_tag_24 rfl (lv_at hl 1 rfl) ?_
    refine lv_iload_n hx hb dX10_tag_25 rfl (lv_at hl 2 rfl) ?_
    refine lv_iload_n hx hb dX10_tag_26 rfl (lv_at hl 3 rfl) ?_
    refine lv_iload hx hb dX10_tag_27 (lv_at hl 4 rfl) ?_
    have hO := hH
    refine hp_kvm (hp_runI (As := [.int (nI (3 * lv2 + 1)), .int a, .int b, .int c1]) (rest := [.ref nx]) hx hb hml hown hS hH (c_X9_init l X (lv := lv2) hl1 hl3 f_n0) M_X10_41 I_X9_init rfl rfl hl.1 rfl (Nat.le_of_ble_eq_true rfl) dX10_tag_29 ⟨Nat.le_of_ble_eq_true rfl, Nat.le_of_ble_eq_true rfl⟩ ⟨Nat.le_of_ble_eq_true rfl, Nat.le_of_ble_eq_true rfl⟩) hH (fun μ1 H locs hp hH => ?_)
    obtain ⟨fz0, fz1, fe⟩ := hp
    have f_ts := fun j hj => (hp_e2 fe (Nat.ne_of_lt (hlt_ts j hj)) (Nat.ne_of_lt (hO.lt (f_ts j hj)))).trans (f_ts j hj)
    have f_ss := fun j hj => (hp_e2 fe (hp_ne (f_ss j hj) f_n0 (by simp)) (Nat.ne_of_lt (hO.lt (f_ss j hj)))).trans (f_ss j hj)
    have hq := hq.keep (fun h9 => hp_e2 fe (hp_ne h9 f_n0 (by simp)) (Nat.ne_of_lt (hO.lt h9)))
    have f_x := (hp_e2 fe (by omega) (Nat.ne_of_lt (hO.lt f_x))).trans f_x
    have f_air := (hp_e2 fe (by omega) (Nat.ne_of_lt (hO.lt f_air))).trans f_air
    have f_l := (hp_e2 fe (by omega) (Nat.ne_of_lt (hO.lt f_l))).trans f_l
    have f_n0 : μ1 nx = some (hp_o 5 [.int (nI lv2), .ref (nx + 1), .int (nB false), .int (nI 0), .int (nI 1)]) := fz0
    have f_n1 : μ1 (nx + 1) = some (hp_m X 3 (shA a b c1 lv2)) := fz1
    have fr := hp_eq.tr2 fe fr (by simp) (by simp)
    clear fe fz0 fz1 hO
    refine lv_astore (lv' := [(5, .ref nx), (0, .ref x), (1, .int (nI (3 * lv2 + 1))), (2, .int a), (3, .int b), (4, .int c1)]) hx hb dX10_tag_32 hl (by decide) rfl (fun ls hl => ?_)
    refine lv_aload hx hb dX10_tag_34 (lv_at hl 0 rfl) ?_
    refine hp_kip (hp_runV (As := []) (rest := []) hx hb hml hown hS hH (c_X9_looksUnfinished l X (shA_lt a b c1 lv2) hl1 hl3 f_n0 f_n1) M_X10_44 I_X9_looksUnfinished V_X9_looksUnfinished (ci := 5) rfl rfl f_n0 rfl hl.1 rfl (Nat.le_of_ble_eq_true rfl) dX10_tag_36 ⟨Nat.le_of_ble_eq_true rfl, Nat.le_of_ble_eq_true rfl⟩ ⟨Nat.le_of_ble_eq_true rfl, Nat.le_of_ble_eq_true rfl⟩) hH (fun H locs hH => ?_)
    refine lv_if_ne (tgt := 54) hx hb dX10_tag_39 (by decide) (fun c_39 => ?_) (fun c_39 => ?_)
    · have c_39 : (decide (shA a b c1 lv2 (lv2 - 1) % 256 = 136)) = true := nB_n c_39
      exact absurd (of_decide_eq_true c_39) hunf
    · have c_39 : (decide (shA a b c1 lv2 (lv2 - 1) % 256 = 136)) = false := nB_0 c_39
      refine lv_aload_n hx hb dX10_tag_42 rfl (lv_at hl 1 rfl) ?_
      refine hp_get hx hb hown hS.2.1 hH (F_X10_28.use hS) f_x rfl dX10_tag_43 ?_
      refine lv_aload hx hb dX10_tag_46 (lv_at hl 0 rfl) ?_
      refine hp_kip (hp_runV (As := [.ref nx]) (rest := []) hx hb hml hown hS hH (c_X1_knowsNumberOf l X hq hn16 f_ts f_ss hlv hst hle hsh (shA_lt a b c1 lv2) hl3 f_air f_l f_n0 f_n1) M_X10_48 I_X1_knowsNumberOf V_X1_knowsNumberOf (ci := 0) rfl rfl f_air rfl hl.1 rfl (Nat.le_of_ble_eq_true rfl) dX10_tag_48 ⟨Nat.le_of_ble_eq_true rfl, Nat.le_of_ble_eq_true rfl⟩ ⟨Nat.le_of_ble_eq_true rfl, Nat.le_of_ble_eq_true rfl⟩) hH (fun H locs hH => ?_)
      refine lv_if_eq (tgt := 57) hx hb dX10_tag_51 (by decide) (fun c_51 => ?_) (fun c_51 => ?_)
      · have c_51 : (knB n lv sh lv2 (shA a b c1 lv2)) = false := nB_0 c_51
        refine lv_aload_n hx hb dX10_tag_57 rfl (lv_at hl 1 rfl) ?_
        refine hp_get hx hb hown hS.2.1 hH (F_X10_28.use hS) f_x rfl dX10_tag_58 ?_
        refine hp_kip (hp_runV (As := []) (rest := []) hx hb hml hown hS hH (c_X1_count l X f_air f_l) M_X10_52 I_X1_count V_X1_count (ci := 0) rfl rfl f_air rfl hl.1 rfl (Nat.le_of_ble_eq_true rfl) dX10_tag_61 ⟨Nat.le_of_ble_eq_true rfl, Nat.le_of_ble_eq_true rfl⟩ ⟨Nat.le_of_ble_eq_true rfl, Nat.le_of_ble_eq_true rfl⟩) hH (fun H locs hH => ?_)
        refine lv_bipush (v := nI 16) hx hb dX10_tag_64 (by decide) ?_
        refine lv_icmp_ge (tgt := 81) hx hb dX10_tag_66 (by decide) (fun c_66 => ?_) (fun c_66 => ?_)
        · have c_66 : 16 ≤ n := (nI_leI (by omega) (by omega)).mp c_66
          exact absurd c_66 (by omega)
        · have c_66 : ¬ (16 ≤ n) := fun z => c_66 ((nI_leI (by omega) (by omega)).mpr z)
          refine lv_aload_n hx hb dX10_tag_69 rfl (lv_at hl 1 rfl) ?_
          refine hp_get hx hb hown hS.2.1 hH (F_X10_28.use hS) f_x rfl dX10_tag_70 ?_
          refine lv_aload hx hb dX10_tag_73 (lv_at hl 0 rfl) ?_
          have en : n = 10 := hn0
          subst en
          obtain ⟨hnp, f_q, hf⟩ := hq.resolve_left (by omega)
          have hlt_q := hH.lt f_q
          refine hp_kim (hp_runV (As := [.ref nx]) (rest := []) hx hb hml hown hS hH (c_X1_bring_10 l X (fun j hj => Nat.ne_of_lt (hlt_ts j hj)) f_ts hf f_air f_l f_q f_n0) M_X10_56 I_X1_bring V_X1_bring (ci := 0) rfl rfl f_air rfl hl.1 rfl (Nat.le_of_ble_eq_true rfl) dX10_tag_75 ⟨Nat.le_of_ble_eq_true rfl, Nat.le_of_ble_eq_true rfl⟩ ⟨Nat.le_of_ble_eq_true rfl, Nat.le_of_ble_eq_true rfl⟩) hH (fun μ1 H locs hp hH => ?_)
          obtain ⟨q', f', g1, g2, g3, g4⟩ := hp
          have hK : ∀ c e, μ c = some e → c ≠ l1 → (0 < 10 → c ≠ q) → μ1 c = μ c := fun c e hc h8 h9 => by
            have hcn := hW0 c e hc
            rw [g4 c h8 (by omega) (h9 (by omega)) (by omega)]
            exact fr c (by simp; omega)
          have g5 := (g4 (nx + 1) (by omega) (by omega) (fun e9 => by have := hp_ne f_n1 f_q (by simp); exact this e9) (by omega)).trans f_n1
          refine lv_goto (tgt := 83) hx hb dX10_tag_78 (by decide) ?_
          exact hp_ri hx hb hr hlocks hS hH (⟨rfl, rfl, q', f', AW.more (aw2 := false) hA0 g1 g2 g3 g5 hK, fun c9 e9 h9 => hK c9 e9 h9⟩) dX10_tag_83
      · have c_51 : (knB n lv sh lv2 (shA a b c1 lv2)) = true := nB_n c_51
        exact absurd c_51 (by rw [hkn]; decide)
  · have c_2 : ¬ ((3 * lv2 + 1) = 4) := fun z => c_2 ((nI_eq (by omega) (by omega)).mpr z)
    refine lv_iload_n hx hb dX10_tag_5 rfl (lv_at hl 1 rfl) ?_
    refine lv_bipush (v := nI 7) hx hb dX10_tag_6 (by decide) ?_
    refine lv_icmp_eq (tgt := 20) hx hb dX10_tag_8 (by decide) (fun c_8 => ?_) (fun c_8 => ?_)
    · have c_8 : (3 * lv2 + 1) = 7 := (nI_eq (by omega) (by omega)).mp c_8
      have hO := hH
      refine hp_new hx hb hown hS.2.1 hH (N_X10_39.use hS) (Nat.le_of_ble_eq_true rfl) (Nat.le_of_ble_eq_true rfl) dX10_tag_20 (fun H μ1 fz fn hH => ?_)
      have f_ts := fun j hj => (fn _ (Nat.ne_of_lt (hlt_ts j hj))).trans (f_ts j hj)
      have f_ss := fun j hj => (fn _ (Nat.ne_of_lt (hO.lt (f_ss j hj)))).trans (f_ss j hj)
      have hq := hq.keep (fun h9 => fn _ (Nat.ne_of_lt (hO.lt h9)))
      have f_x := (fn _ (Nat.ne_of_lt (hO.lt f_x))).trans f_x
      have f_air := (fn _ (Nat.ne_of_lt (hO.lt f_air))).trans f_air
      have f_l := (fn _ (Nat.ne_of_lt (hO.lt f_l))).trans f_l
      have f_n0 : μ1 nx = some (hp_o 5 [.int (nI 0), .null, .int (nB false), .int (nI 0), .int (nI 0)]) := fz
      have fr := hp_eq.put fr (by simp) fn
      clear fz fn hO
      refine lv_dup hx hb dX10_tag_23 rfl ?_
      refine lv_iload_n hx hb dX10_tag_24 rfl (lv_at hl 1 rfl) ?_
      refine lv_iload_n hx hb dX10_tag_25 rfl (lv_at hl 2 rfl) ?_
      refine lv_iload_n hx hb dX10_tag_26 rfl (lv_at hl 3 rfl) ?_
      refine lv_iload hx hb dX10_tag_27 (lv_at hl 4 rfl) ?_
      have hO := hH
      refine hp_kvm (hp_runI (As := [.int (nI (3 * lv2 + 1)), .int a, .int b, .int c1]) (rest := [.ref nx]) hx hb hml hown hS hH (c_X9_init l X (lv := lv2) hl1 hl3 f_n0) M_X10_41 I_X9_init rfl rfl hl.1 rfl (Nat.le_of_ble_eq_true rfl) dX10_tag_29 ⟨Nat.le_of_ble_eq_true rfl, Nat.le_of_ble_eq_true rfl⟩ ⟨Nat.le_of_ble_eq_true rfl, Nat.le_of_ble_eq_true rfl⟩) hH (fun μ1 H locs hp hH => ?_)
      obtain ⟨fz0, fz1, fe⟩ := hp
      have f_ts := fun j hj => (hp_e2 fe (Nat.ne_of_lt (hlt_ts j hj)) (Nat.ne_of_lt (hO.lt (f_ts j hj)))).trans (f_ts j hj)
      have f_ss := fun j hj => (hp_e2 fe (hp_ne (f_ss j hj) f_n0 (by simp)) (Nat.ne_of_lt (hO.lt (f_ss j hj)))).trans (f_ss j hj)
      have hq := hq.keep (fun h9 => hp_e2 fe (hp_ne h9 f_n0 (by simp)) (Nat.ne_of_lt (hO.lt h9)))
      have f_x := (hp_e2 fe (by omega) (Nat.ne_of_lt (hO.lt f_x))).trans f_x
      have f_air := (hp_e2 fe (by omega) (Nat.ne_of_lt (hO.lt f_air))).trans f_air
      have f_l := (hp_e2 fe (by omega) (Nat.ne_of_lt (hO.lt f_l))).trans f_l
      have f_n0 : μ1 nx = some (hp_o 5 [.int (nI lv2), .ref (nx + 1), .int (nB false), .int (nI 0), .int (nI 1)]) := fz0
      have f_n1 : μ1 (nx + 1) = some (hp_m X 3 (shA a b c1 lv2)) := fz1
      have fr := hp_eq.tr2 fe fr (by simp) (by simp)
      clear fe fz0 fz1 hO
      refine lv_astore (lv' := [(5, .ref nx), (0, .ref x), (1, .int (nI (3 * lv2 + 1))), (2, .int a), (3, .int b), (4, .int c1)]) hx hb dX10_tag_32 hl (by decide) rfl (fun ls hl => ?_)
      refine lv_aload hx hb dX10_tag_34 (lv_at hl 0 rfl) ?_
      refine hp_kip (hp_runV (As := []) (rest := []) hx hb hml hown hS hH (c_X9_looksUnfinished l X (shA_lt a b c1 lv2) hl1 hl3 f_n0 f_n1) M_X10_44 I_X9_looksUnfinished V_X9_looksUnfinished (ci := 5) rfl rfl f_n0 rfl hl.1 rfl (Nat.le_of_ble_eq_true rfl) dX10_tag_36 ⟨Nat.le_of_ble_eq_true rfl, Nat.le_of_ble_eq_true rfl⟩ ⟨Nat.le_of_ble_eq_true rfl, Nat.le_of_ble_eq_true rfl⟩) hH (fun H locs hH => ?_)
      refine lv_if_ne (tgt := 54) hx hb dX10_tag_39 (by decide) (fun c_39 => ?_) (fun c_39 => ?_)
      · have c_39 : (decide (shA a b c1 lv2 (lv2 - 1) % 256 = 136)) = true := nB_n c_39
        exact absurd (of_decide_eq_true c_39) hunf
      · have c_39 : (decide (shA a b c1 lv2 (lv2 - 1) % 256 = 136)) = false := nB_0 c_39
        refine lv_aload_n hx hb dX10_tag_42 rfl (lv_at hl 1 rfl) ?_
        refine hp_get hx hb hown hS.2.1 hH (F_X10_28.use hS) f_x rfl dX10_tag_43 ?_
        refine lv_aload hx hb dX10_tag_46 (lv_at hl 0 rfl) ?_
        refine hp_kip (hp_runV (As := [.ref nx]) (rest := []) hx hb hml hown hS hH (c_X1_knowsNumberOf l X hq hn16 f_ts f_ss hlv hst hle hsh (shA_lt a b c1 lv2) hl3 f_air f_l f_n0 f_n1) M_X10_48 I_X1_knowsNumberOf V_X1_knowsNumberOf (ci := 0) rfl rfl f_air rfl hl.1 rfl (Nat.le_of_ble_eq_true rfl) dX10_tag_48 ⟨Nat.le_of_ble_eq_true rfl, Nat.le_of_ble_eq_true rfl⟩ ⟨Nat.le_of_ble_eq_true rfl, Nat.le_of_ble_eq_true rfl⟩) hH (fun H locs hH => ?_)
        refine lv_if_eq (tgt := 57) hx hb dX10_tag_51 (by decide) (fun c_51 => ?_) (fun c_51 => ?_)
        · have c_51 : (knB n lv sh lv2 (shA a b c1 lv2)) = false := nB_0 c_51
          refine lv_aload_n hx hb dX10_tag_57 rfl (lv_at hl 1 rfl) ?_
          refine hp_get hx hb hown hS.2.1 hH (F_X10_28.use hS) f_x rfl dX10_tag_58 ?_
          refine hp_kip (hp_runV (As := []) (rest := []) hx hb hml hown hS hH (c_X1_count l X f_air f_l) M_X10_52 I_X1_count V_X1_count (ci := 0) rfl rfl f_air rfl hl.1 rfl (Nat.le_of_ble_eq_true rfl) dX10_tag_61 ⟨Nat.le_of_ble_eq_true rfl, Nat.le_of_ble_eq_true rfl⟩ ⟨Nat.le_of_ble_eq_true rfl, Nat.le_of_ble_eq_true rfl⟩) hH (fun H locs hH => ?_)
          refine lv_bipush (v := nI 16) hx hb dX10_tag_64 (by decide) ?_
          refine lv_icmp_ge (tgt := 81) hx hb dX10_tag_66 (by decide) (fun c_66 => ?_) (fun c_66 => ?_)
          · have c_66 : 16 ≤ n := (nI_leI (by omega) (by omega)).mp c_66
            exact absurd c_66 (by omega)
          · have c_66 : ¬ (16 ≤ n) := fun z => c_66 ((nI_leI (by omega) (by omega)).mpr z)
            refine lv_aload_n hx hb dX10_tag_69 rfl (lv_at hl 1 rfl) ?_
            refine hp_get hx hb hown hS.2.1 hH (F_X10_28.use hS) f_x rfl dX10_tag_70 ?_
            refine lv_aload hx hb dX10_tag_73 (lv_at hl 0 rfl) ?_
            have en : n = 10 := hn0
            subst en
            obtain ⟨hnp, f_q, hf⟩ := hq.resolve_left (by omega)
            have hlt_q := hH.lt f_q
            refine hp_kim (hp_runV (As := [.ref nx]) (rest := []) hx hb hml hown hS hH (c_X1_bring_10 l X (fun j hj => Nat.ne_of_lt (hlt_ts j hj)) f_ts hf f_air f_l f_q f_n0) M_X10_56 I_X1_bring V_X1_bring (ci := 0) rfl rfl f_air rfl hl.1 rfl (Nat.le_of_ble_eq_true rfl) dX10_tag_75 ⟨Nat.le_of_ble_eq_true rfl, Nat.le_of_ble_eq_true rfl⟩ ⟨Nat.le_of_ble_eq_true rfl, Nat.le_of_ble_eq_true rfl⟩) hH (fun μ1 H locs hp hH => ?_)
            obtain ⟨q', f', g1, g2, g3, g4⟩ := hp
            have hK : ∀ c e, μ c = some e → c ≠ l1 → (0 < 10 → c ≠ q) → μ1 c = μ c := fun c e hc h8 h9 => by
              have hcn := hW0 c e hc
              rw [g4 c h8 (by omega) (h9 (by omega)) (by omega)]
              exact fr c (by simp; omega)
            have g5 := (g4 (nx + 1) (by omega) (by omega) (fun e9 => by have := hp_ne f_n1 f_q (by simp); exact this e9) (by omega)).trans f_n1
            refine lv_goto (tgt := 83) hx hb dX10_tag_78 (by decide) ?_
            exact hp_ri hx hb hr hlocks hS hH (⟨rfl, rfl, q', f', AW.more (aw2 := false) hA0 g1 g2 g3 g5 hK, fun c9 e9 h9 => hK c9 e9 h9⟩) dX10_tag_83
        · have c_51 : (knB n lv sh lv2 (shA a b c1 lv2)) = true := nB_n c_51
          exact absurd c_51 (by rw [hkn]; decide)
    · have c_8 : ¬ ((3 * lv2 + 1) = 7) := fun z => c_8 ((nI_eq (by omega) (by omega)).mpr z)
      refine lv_iload_n hx hb dX10_tag_11 rfl (lv_at hl 1 rfl) ?_
      refine lv_bipush (v := nI 10) hx hb dX10_tag_12 (by decide) ?_
      refine lv_icmp_eq (tgt := 20) hx hb dX10_tag_14 (by decide) (fun c_14 => ?_) (fun c_14 => ?_)
      · have c_14 : (3 * lv2 + 1) = 10 := (nI_eq (by omega) (by omega)).mp c_14
        have hO := hH
        refine hp_new hx hb hown hS.2.1 hH (N_X10_39.use hS) (Nat.le_of_ble_eq_true rfl) (Nat.le_of_ble_eq_true rfl) dX10_tag_20 (fun H μ1 fz fn hH => ?_)
        have f_ts := fun j hj => (fn _ (Nat.ne_of_lt (hlt_ts j hj))).trans (f_ts j hj)
        have f_ss := fun j hj => (fn _ (Nat.ne_of_lt (hO.lt (f_ss j hj)))).trans (f_ss j hj)
        have hq := hq.keep (fun h9 => fn _ (Nat.ne_of_lt (hO.lt h9)))
        have f_x := (fn _ (Nat.ne_of_lt (hO.lt f_x))).trans f_x
        have f_air := (fn _ (Nat.ne_of_lt (hO.lt f_air))).trans f_air
        have f_l := (fn _ (Nat.ne_of_lt (hO.lt f_l))).trans f_l
        have f_n0 : μ1 nx = some (hp_o 5 [.int (nI 0), .null, .int (nB false), .int (nI 0), .int (nI 0)]) := fz
        have fr := hp_eq.put fr (by simp) fn
        clear fz fn hO
        refine lv_dup hx hb dX10_tag_23 rfl ?_
        refine lv_iload_n hx hb dX10_tag_24 rfl (lv_at hl 1 rfl) ?_
        refine lv_iload_n hx hb dX10_tag_25 rfl (lv_at hl 2 rfl) ?_
        refine lv_iload_n hx hb dX10_tag_26 rfl (lv_at hl 3 rfl) ?_
        refine lv_iload hx hb dX10_tag_27 (lv_at hl 4 rfl) ?_
        have hO := hH
        refine hp_kvm (hp_runI (As := [.int (nI (3 * lv2 + 1)), .int a, .int b, .int c1]) (rest := [.ref nx]) hx hb hml hown hS hH (c_X9_init l X (lv := lv2) hl1 hl3 f_n0) M_X10_41 I_X9_init rfl rfl hl.1 rfl (Nat.le_of_ble_eq_true rfl) dX10_tag_29 ⟨Nat.le_of_ble_eq_true rfl, Nat.le_of_ble_eq_true rfl⟩ ⟨Nat.le_of_ble_eq_true rfl, Nat.le_of_ble_eq_true rfl⟩) hH (fun μ1 H locs hp hH => ?_)
        obtain ⟨fz0, fz1, fe⟩ := hp
        have f_ts := fun j hj => (hp_e2 fe (Nat.ne_of_lt (hlt_ts j hj)) (Nat.ne_of_lt (hO.lt (f_ts j hj)))).trans (f_ts j hj)
        have f_ss := fun j hj => (hp_e2 fe (hp_ne (f_ss j hj) f_n0 (by simp)) (Nat.ne_of_lt (hO.lt (f_ss j hj)))).trans (f_ss j hj)
        have hq := hq.keep (fun h9 => hp_e2 fe (hp_ne h9 f_n0 (by simp)) (Nat.ne_of_lt (hO.lt h9)))
        have f_x := (hp_e2 fe (by omega) (Nat.ne_of_lt (hO.lt f_x))).trans f_x
        have f_air := (hp_e2 fe (by omega) (Nat.ne_of_lt (hO.lt f_air))).trans f_air
        have f_l := (hp_e2 fe (by omega) (Nat.ne_of_lt (hO.lt f_l))).trans f_l
        have f_n0 : μ1 nx = some (hp_o 5 [.int (nI lv2), .ref (nx + 1), .int (nB false), .int (nI 0), .int (nI 1)]) := fz0
        have f_n1 : μ1 (nx + 1) = some (hp_m X 3 (shA a b c1 lv2)) := fz1
        have fr := hp_eq.tr2 fe fr (by simp) (by simp)
        clear fe fz0 fz1 hO
        refine lv_astore (lv' := [(5, .ref nx), (0, .ref x), (1, .int (nI (3 * lv2 + 1))), (2, .int a), (3, .int b), (4, .int c1)]) hx hb dX10_tag_32 hl (by decide) rfl (fun ls hl => ?_)
        refine lv_aload hx hb dX10_tag_34 (lv_at hl 0 rfl) ?_
        refine hp_kip (hp_runV (As := []) (rest := []) hx hb hml hown hS hH (c_X9_looksUnfinished l X (shA_lt a b c1 lv2) hl1 hl3 f_n0 f_n1) M_X10_44 I_X9_looksUnfinished V_X9_looksUnfinished (ci := 5) rfl rfl f_n0 rfl hl.1 rfl (Nat.le_of_ble_eq_true rfl) dX10_tag_36 ⟨Nat.le_of_ble_eq_true rfl, Nat.le_of_ble_eq_true rfl⟩ ⟨Nat.le_of_ble_eq_true rfl, Nat.le_of_ble_eq_true rfl⟩) hH (fun H locs hH => ?_)
        refine lv_if_ne (tgt := 54) hx hb dX10_tag_39 (by decide) (fun c_39 => ?_) (fun c_39 => ?_)
        · have c_39 : (decide (shA a b c1 lv2 (lv2 - 1) % 256 = 136)) = true := nB_n c_39
          exact absurd (of_decide_eq_true c_39) hunf
        · have c_39 : (decide (shA a b c1 lv2 (lv2 - 1) % 256 = 136)) = false := nB_0 c_39
          refine lv_aload_n hx hb dX10_tag_42 rfl (lv_at hl 1 rfl) ?_
          refine hp_get hx hb hown hS.2.1 hH (F_X10_28.use hS) f_x rfl dX10_tag_43 ?_
          refine lv_aload hx hb dX10_tag_46 (lv_at hl 0 rfl) ?_
          refine hp_kip (hp_runV (As := [.ref nx]) (rest := []) hx hb hml hown hS hH (c_X1_knowsNumberOf l X hq hn16 f_ts f_ss hlv hst hle hsh (shA_lt a b c1 lv2) hl3 f_air f_l f_n0 f_n1) M_X10_48 I_X1_knowsNumberOf V_X1_knowsNumberOf (ci := 0) rfl rfl f_air rfl hl.1 rfl (Nat.le_of_ble_eq_true rfl) dX10_tag_48 ⟨Nat.le_of_ble_eq_true rfl, Nat.le_of_ble_eq_true rfl⟩ ⟨Nat.le_of_ble_eq_true rfl, Nat.le_of_ble_eq_true rfl⟩) hH (fun H locs hH => ?_)
          refine lv_if_eq (tgt := 57) hx hb dX10_tag_51 (by decide) (fun c_51 => ?_) (fun c_51 => ?_)
          · have c_51 : (knB n lv sh lv2 (shA a b c1 lv2)) = false := nB_0 c_51
            refine lv_aload_n hx hb dX10_tag_57 rfl (lv_at hl 1 rfl) ?_
            refine hp_get hx hb hown hS.2.1 hH (F_X10_28.use hS) f_x rfl dX10_tag_58 ?_
            refine hp_kip (hp_runV (As := []) (rest := []) hx hb hml hown hS hH (c_X1_count l X f_air f_l) M_X10_52 I_X1_count V_X1_count (ci := 0) rfl rfl f_air rfl hl.1 rfl (Nat.le_of_ble_eq_true rfl) dX10_tag_61 ⟨Nat.le_of_ble_eq_true rfl, Nat.le_of_ble_eq_true rfl⟩ ⟨Nat.le_of_ble_eq_true rfl, Nat.le_of_ble_eq_true rfl⟩) hH (fun H locs hH => ?_)
            refine lv_bipush (v := nI 16) hx hb dX10_tag_64 (by decide) ?_
            refine lv_icmp_ge (tgt := 81) hx hb dX10_tag_66 (by decide) (fun c_66 => ?_) (fun c_66 => ?_)
            · have c_66 : 16 ≤ n := (nI_leI (by omega) (by omega)).mp c_66
              exact absurd c_66 (by omega)
            · have c_66 : ¬ (16 ≤ n) := fun z => c_66 ((nI_leI (by omega) (by omega)).mpr z)
              refine lv_aload_n hx hb dX10_tag_69 rfl (lv_at hl 1 rfl) ?_
              refine hp_get hx hb hown hS.2.1 hH (F_X10_28.use hS) f_x rfl dX10_tag_70 ?_
              refine lv_aload hx hb dX10_tag_73 (lv_at hl 0 rfl) ?_
              have en : n = 10 := hn0
              subst en
              obtain ⟨hnp, f_q, hf⟩ := hq.resolve_left (by omega)
              have hlt_q := hH.lt f_q
              refine hp_kim (hp_runV (As := [.ref nx]) (rest := []) hx hb hml hown hS hH (c_X1_bring_10 l X (fun j hj => Nat.ne_of_lt (hlt_ts j hj)) f_ts hf f_air f_l f_q f_n0) M_X10_56 I_X1_bring V_X1_bring (ci := 0) rfl rfl f_air rfl hl.1 rfl (Nat.le_of_ble_eq_true rfl) dX10_tag_75 ⟨Nat.le_of_ble_eq_true rfl, Nat.le_of_ble_eq_true rfl⟩ ⟨Nat.le_of_ble_eq_true rfl, Nat.le_of_ble_eq_true rfl⟩) hH (fun μ1 H locs hp hH => ?_)
              obtain ⟨q', f', g1, g2, g3, g4⟩ := hp
              have hK : ∀ c e, μ c = some e → c ≠ l1 → (0 < 10 → c ≠ q) → μ1 c = μ c := fun c e hc h8 h9 => by
                have hcn := hW0 c e hc
                rw [g4 c h8 (by omega) (h9 (by omega)) (by omega)]
                exact fr c (by simp; omega)
              have g5 := (g4 (nx + 1) (by omega) (by omega) (fun e9 => by have := hp_ne f_n1 f_q (by simp); exact this e9) (by omega)).trans f_n1
              refine lv_goto (tgt := 83) hx hb dX10_tag_78 (by decide) ?_
              exact hp_ri hx hb hr hlocks hS hH (⟨rfl, rfl, q', f', AW.more (aw2 := false) hA0 g1 g2 g3 g5 hK, fun c9 e9 h9 => hK c9 e9 h9⟩) dX10_tag_83
          · have c_51 : (knB n lv sh lv2 (shA a b c1 lv2)) = true := nB_n c_51
            exact absurd c_51 (by rw [hkn]; decide)
      · have c_14 : ¬ ((3 * lv2 + 1) = 10) := fun z => c_14 ((nI_eq (by omega) (by omega)).mpr z)
        exact absurd c_14 (by omega)

set_option maxHeartbeats 4000000 in
set_option maxRecDepth 100000 in
theorem c_X10_tag_15 (l : Launch) (X : hp_X) {μ : hp_M} {nx : Nat} {ar l1 f1 mc q n sent : Nat} {on : Bool} {f : Nat → Option Nat} {ta sa lv st le : Nat → Nat} {aw : Nat → Bool} {sh : Nat → Nat → Nat} {x ty la rd : Nat} {lv2 : Nat} {a b c1 : Int32} (hl1 : 1 ≤ lv2) (hl3 : lv2 ≤ 3) (hunf : ¬ shA a b c1 lv2 (lv2 - 1) % 256 = 136) (hkn : knB n lv sh lv2 (shA a b c1 lv2) = false) (hn0 : n = 15) (hn16 : n ≤ 16) (hlv : ∀ j, j < n → 1 ≤ lv j ∧ lv j ≤ 3) (hst : ∀ j, j < n → st j < 8) (hle : ∀ j, j < n → 1 ≤ le j ∧ le j ≤ 3) (hsh : ∀ j, j < n → ∀ i, sh j i < 2 ^ 40) (hA : AW X μ ar l1 f1 mc q n on sent f ta sa lv aw st le sh) (f_x : μ x = some (hp_o 6 [.ref ty, .ref la, .ref ar, .ref rd])) : Ct l X yX10_tag cX10_tag 6 (some FieldType.int) 8 320 3 30 [.ref x, .int (nI (3 * lv2 + 1)), .int a, .int b, .int c1] μ nx (hq_i X (po_i (nx + 3) (nI (n + 1)) (fun z => ∃ (q' : Nat) (f' : Nat → Option Nat), AW X z ar l1 f1 (mc + 1) q' (n + 1) on sent f' (setN ta n nx) (setN sa n (nx + 1)) (setN lv n lv2) (setB aw n false) (setN st n (if on = true ∧ false = false then 1 else 0)) (setN le n 1) (setS sh n (shA a b c1 lv2)) ∧ ∀ c9 e9, μ c9 = some e9 → c9 ≠ l1 → (0 < n → c9 ≠ q) → z c9 = μ c9))) := by
  refine hp_met (by decide) (Nat.le_of_ble_eq_true rfl) ?_
  intro p e s m below meth c ls hx hb hml hr hlocks hown hin hS hH hl
  have hl : lv_has ls 6 [(0, .ref x), (1, .int (nI (3 * lv2 + 1))), (2, .int a), (3, .int b), (4, .int c1)] := hl
  have fr : hp_eq [nx, nx + 1] μ μ := fun _ _ => rfl
  have hA0 := hA
  obtain ⟨f_air, f_l, hq, f_ts, f_ss, k1, lv1, se1, td1, tc1, f_f⟩ := hA
  have hlt_ts : ∀ j, j < n → ta j < nx := fun j hj => hH.lt (f_ts j hj)
  have hlt_ss : ∀ j, j < n → sa j < nx := fun j hj => hH.lt (f_ss j hj)
  have hlt_l := hH.lt f_l
  have hlt_a := hH.lt f_air
  have hlt_x := hH.lt f_x
  have hW0 : ∀ c e, μ c = some e → c < nx := fun c e hc => hH.lt hc
  refine lv_iload_n hx hb dX10_tag_0 rfl (lv_at hl 1 rfl) ?_
  refine lv_iconst (v := nI 4) hx hb dX10_tag_1 (by decide) ?_
  refine lv_icmp_eq (tgt := 20) hx hb dX10_tag_2 (by decide) (fun c_2 => ?_) (fun c_2 => ?_)
  · have c_2 : (3 * lv2 + 1) = 4 := (nI_eq (by omega) (by omega)).mp c_2
    have hO := hH
    refine hp_new hx hb hown hS.2.1 hH (N_X10_39.use hS) (Nat.le_of_ble_eq_true rfl) (Nat.le_of_ble_eq_true rfl) dX10_tag_20 (fun H μ1 fz fn hH => ?_)
    have f_ts := fun j hj => (fn _ (Nat.ne_of_lt (hlt_ts j hj))).trans (f_ts j hj)
    have f_ss := fun j hj => (fn _ (Nat.ne_of_lt (hO.lt (f_ss j hj)))).trans (f_ss j hj)
    have hq := hq.keep (fun h9 => fn _ (Nat.ne_of_lt (hO.lt h9)))
    have f_x := (fn _ (Nat.ne_of_lt (hO.lt f_x))).trans f_x
    have f_air := (fn _ (Nat.ne_of_lt (hO.lt f_air))).trans f_air
    have f_l := (fn _ (Nat.ne_of_lt (hO.lt f_l))).trans f_l
    have f_n0 : μ1 nx = some (hp_o 5 [.int (nI 0), .null, .int (nB false), .int (nI 0), .int (nI 0)]) := fz
    have fr := hp_eq.put fr (by simp) fn
    clear fz fn hO
    refine lv_dup hx hb dX10_tag_23 rfl ?_
    refine lv_iload_n hx hb dX10_tag_24 rfl (lv_at hl 1 rfl) ?_
    refine lv_iload_n hx hb dX10_tag_25 rfl (lv_at hl 2 rfl) ?_
    refine lv_iload_n hx hb dX10_tag_26 rfl (lv_at hl 3 rfl) ?_
    refine lv_iload hx hb dX10_tag_27 (lv_at hl 4 rfl) ?_
    have hO := hH
    refine hp_kvm (hp_runI (As := [.int (nI (3 * lv2 + 1)), .int a, .int b, .int c1]) (rest := [.ref nx]) hx hb hml hown hS hH (c_X9_init l X (lv := lv2) hl1 hl3 f_n0) M_X10_41 I_X9_init rfl rfl hl.1 rfl (Nat.le_of_ble_eq_true rfl) dX10_tag_29 ⟨Nat.le_of_ble_eq_true rfl, Nat.le_of_ble_eq_true rfl⟩ ⟨Nat.le_of_ble_eq_true rfl, Nat.le_of_ble_eq_true rfl⟩) hH (fun μ1 H locs hp hH => ?_)
    obtain ⟨fz0, fz1, fe⟩ := hp
    have f_ts := fun j hj => (hp_e2 fe (Nat.ne_of_lt (hlt_ts j hj)) (Nat.ne_of_lt (hO.lt (f_ts j hj)))).trans (f_ts j hj)
    have f_ss := fun j hj => (hp_e2 fe (hp_ne (f_ss j hj) f_n0 (by simp)) (Nat.ne_of_lt (hO.lt (f_ss j hj)))).trans (f_ss j hj)
    have hq := hq.keep (fun h9 => hp_e2 fe (hp_ne h9 f_n0 (by simp)) (Nat.ne_of_lt (hO.lt h9)))
    have f_x := (hp_e2 fe (by omega) (Nat.ne_of_lt (hO.lt f_x))).trans f_x
    have f_air := (hp_e2 fe (by omega) (Nat.ne_of_lt (hO.lt f_air))).trans f_air
    have f_l := (hp_e2 fe (by omega) (Nat.ne_of_lt (hO.lt f_l))).trans f_l
    have f_n0 : μ1 nx = some (hp_o 5 [.int (nI lv2), .ref (nx + 1), .int (nB false), .int (nI 0), .int (nI 1)]) := fz0
    have f_n1 : μ1 (nx + 1) = some (hp_m X 3 (shA a b c1 lv2)) := fz1
    have fr := hp_eq.tr2 fe fr (by simp) (by simp)
    clear fe fz0 fz1 hO
    refine lv_astore (lv' := [(5, .ref nx), (0, .ref x), (1, .int (nI (3 * lv2 + 1))), (2, .int a), (3, .int b), (4, .int c1)]) hx hb dX10_tag_32 hl (by decide) rfl (fun ls hl => ?_)
    refine lv_aload hx hb dX10_tag_34 (lv_at hl 0 rfl) ?_
    refine hp_kip (hp_runV (As := []) (rest := []) hx hb hml hown hS hH (c_X9_looksUnfinished l X (shA_lt a b c1 lv2) hl1 hl3 f_n0 f_n1) M_X10_44 I_X9_looksUnfinished V_X9_looksUnfinished (ci := 5) rfl rfl f_n0 rfl hl.1 rfl (Nat.le_of_ble_eq_true rfl) dX10_tag_36 ⟨Nat.le_of_ble_eq_true rfl, Nat.le_of_ble_eq_true rfl⟩ ⟨Nat.le_of_ble_eq_true rfl, Nat.le_of_ble_eq_true rfl⟩) hH (fun H locs hH => ?_)
    refine lv_if_ne (tgt := 54) hx hb dX10_tag_39 (by decide) (fun c_39 => ?_) (fun c_39 => ?_)
    · have c_39 : (decide (shA a b c1 lv2 (lv2 - 1) % 256 = 136)) = true := nB_n c_39
      exact absurd (of_decide_eq_true c_39) hunf
    · have c_39 : (decide (shA a b c1 lv2 (lv2 - 1) % 256 = 136)) = false := nB_0 c_39
      refine lv_aload_n hx hb dX10_tag_42 rfl (lv_at hl 1 rfl) ?_
      refine hp_get hx hb hown hS.2.1 hH (F_X10_28.use hS) f_x rfl dX10_tag_43 ?_
      refine lv_aload hx hb dX10_tag_46 (lv_at hl 0 rfl) ?_
      refine hp_kip (hp_runV (As := [.ref nx]) (rest := []) hx hb hml hown hS hH (c_X1_knowsNumberOf l X hq hn16 f_ts f_ss hlv hst hle hsh (shA_lt a b c1 lv2) hl3 f_air f_l f_n0 f_n1) M_X10_48 I_X1_knowsNumberOf V_X1_knowsNumberOf (ci := 0) rfl rfl f_air rfl hl.1 rfl (Nat.le_of_ble_eq_true rfl) dX10_tag_48 ⟨Nat.le_of_ble_eq_true rfl, Nat.le_of_ble_eq_true rfl⟩ ⟨Nat.le_of_ble_eq_true rfl, Nat.le_of_ble_eq_true rfl⟩) hH (fun H locs hH => ?_)
      refine lv_if_eq (tgt := 57) hx hb dX10_tag_51 (by decide) (fun c_51 => ?_) (fun c_51 => ?_)
      · have c_51 : (knB n lv sh lv2 (shA a b c1 lv2)) = false := nB_0 c_51
        refine lv_aload_n hx hb dX10_tag_57 rfl (lv_at hl 1 rfl) ?_
        refine hp_get hx hb hown hS.2.1 hH (F_X10_28.use hS) f_x rfl dX10_tag_58 ?_
        refine hp_kip (hp_runV (As := []) (rest := []) hx hb hml hown hS hH (c_X1_count l X f_air f_l) M_X10_52 I_X1_count V_X1_count (ci := 0) rfl rfl f_air rfl hl.1 rfl (Nat.le_of_ble_eq_true rfl) dX10_tag_61 ⟨Nat.le_of_ble_eq_true rfl, Nat.le_of_ble_eq_true rfl⟩ ⟨Nat.le_of_ble_eq_true rfl, Nat.le_of_ble_eq_true rfl⟩) hH (fun H locs hH => ?_)
        refine lv_bipush (v := nI 16) hx hb dX10_tag_64 (by decide) ?_
        refine lv_icmp_ge (tgt := 81) hx hb dX10_tag_66 (by decide) (fun c_66 => ?_) (fun c_66 => ?_)
        · have c_66 : 16 ≤ n := (nI_leI (by omega) (by omega)).mp c_66
          exact absurd c_66 (by omega)
        · have c_66 : ¬ (16 ≤ n) := fun z => c_66 ((nI_leI (by omega) (by omega)).mpr z)
          refine lv_aload_n hx hb dX10_tag_69 rfl (lv_at hl 1 rfl) ?_
          refine hp_get hx hb hown hS.2.1 hH (F_X10_28.use hS) f_x rfl dX10_tag_70 ?_
          refine lv_aload hx hb dX10_tag_73 (lv_at hl 0 rfl) ?_
          have en : n = 15 := hn0
          subst en
          obtain ⟨hnp, f_q, hf⟩ := hq.resolve_left (by omega)
          have hlt_q := hH.lt f_q
          refine hp_kim (hp_runV (As := [.ref nx]) (rest := []) hx hb hml hown hS hH (c_X1_bring_15 l X (fun j hj => Nat.ne_of_lt (hlt_ts j hj)) f_ts hf f_air f_l f_q f_n0) M_X10_56 I_X1_bring V_X1_bring (ci := 0) rfl rfl f_air rfl hl.1 rfl (Nat.le_of_ble_eq_true rfl) dX10_tag_75 ⟨Nat.le_of_ble_eq_true rfl, Nat.le_of_ble_eq_true rfl⟩ ⟨Nat.le_of_ble_eq_true rfl, Nat.le_of_ble_eq_true rfl⟩) hH (fun μ1 H locs hp hH => ?_)
          obtain ⟨q', f', g1, g2, g3, g4⟩ := hp
          have hK : ∀ c e, μ c = some e → c ≠ l1 → (0 < 15 → c ≠ q) → μ1 c = μ c := fun c e hc h8 h9 => by
            have hcn := hW0 c e hc
            rw [g4 c h8 (by omega) (h9 (by omega)) (by omega)]
            exact fr c (by simp; omega)
          have g5 := (g4 (nx + 1) (by omega) (by omega) (fun e9 => by have := hp_ne f_n1 f_q (by simp); exact this e9) (by omega)).trans f_n1
          refine lv_goto (tgt := 83) hx hb dX10_tag_78 (by decide) ?_
          exact hp_ri hx hb hr hlocks hS hH (⟨rfl, rfl, q', f', AW.more (aw2 := false) hA0 g1 g2 g3 g5 hK, fun c9 e9 h9 => hK c9 e9 h9⟩) dX10_tag_83
      · have c_51 : (knB n lv sh lv2 (shA a b c1 lv2)) = true := nB_n c_51
        exact absurd c_51 (by rw [hkn]; decide)
  · have c_2 : ¬ ((3 * lv2 + 1) = 4) := fun z => c_2 ((nI_eq (by omega) (by omega)).mpr z)
    refine lv_iload_n hx hb dX10_tag_5 rfl (lv_at hl 1 rfl) ?_
    refine lv_bipush (v := nI 7) hx hb dX10_tag_6 (by decide) ?_
    refine lv_icmp_eq (tgt := 20) hx hb dX10_tag_8 (by decide) (fun c_8 => ?_) (fun c_8 => ?_)
    · have c_8 : (3 * lv2 + 1) = 7 := (nI_eq (by omega) (by omega)).mp c_8
      have hO := hH
      refine hp_new hx hb hown hS.2.1 hH (N_X10_39.use hS) (Nat.le_of_ble_eq_true rfl) (Nat.le_of_ble_eq_true rfl) dX10_tag_20 (fun H μ1 fz fn hH => ?_)
      have f_ts := fun j hj => (fn _ (Nat.ne_of_lt (hlt_ts j hj))).trans (f_ts j hj)
      have f_ss := fun j hj => (fn _ (Nat.ne_of_lt (hO.lt (f_ss j hj)))).trans (f_ss j hj)
      have hq := hq.keep (fun h9 => fn _ (Nat.ne_of_lt (hO.lt h9)))
      have f_x := (fn _ (Nat.ne_of_lt (hO.lt f_x))).trans f_x
      have f_air := (fn _ (Nat.ne_of_lt (hO.lt f_air))).trans f_air
      have f_l := (fn _ (Nat.ne_of_lt (hO.lt f_l))).trans f_l
      have f_n0 : μ1 nx = some (hp_o 5 [.int (nI 0), .null, .int (nB false), .int (nI 0), .int (nI 0)]) := fz
      have fr := hp_eq.put fr (by simp) fn
      clear fz fn hO
      refine lv_dup hx hb dX10_tag_23 rfl ?_
      refine lv_iload_n hx hb dX10_tag_24 rfl (lv_at hl 1 rfl) ?_
      refine lv_iload_n hx hb dX10_tag_25 rfl (lv_at hl 2 rfl) ?_
      refine lv_iload_n hx hb dX10_tag_26 rfl (lv_at hl 3 rfl) ?_
      refine lv_iload hx hb dX10_tag_27 (lv_at hl 4 rfl) ?_
      have hO := hH
      refine hp_kvm (hp_runI (As := [.int (nI (3 * lv2 + 1)), .int a, .int b, .int c1]) (rest := [.ref nx]) hx hb hml hown hS hH (c_X9_init l X (lv := lv2) hl1 hl3 f_n0) M_X10_41 I_X9_init rfl rfl hl.1 rfl (Nat.le_of_ble_eq_true rfl) dX10_tag_29 ⟨Nat.le_of_ble_eq_true rfl, Nat.le_of_ble_eq_true rfl⟩ ⟨Nat.le_of_ble_eq_true rfl, Nat.le_of_ble_eq_true rfl⟩) hH (fun μ1 H locs hp hH => ?_)
      obtain ⟨fz0, fz1, fe⟩ := hp
      have f_ts := fun j hj => (hp_e2 fe (Nat.ne_of_lt (hlt_ts j hj)) (Nat.ne_of_lt (hO.lt (f_ts j hj)))).trans (f_ts j hj)
      have f_ss := fun j hj => (hp_e2 fe (hp_ne (f_ss j hj) f_n0 (by simp)) (Nat.ne_of_lt (hO.lt (f_ss j hj)))).trans (f_ss j hj)
      have hq := hq.keep (fun h9 => hp_e2 fe (hp_ne h9 f_n0 (by simp)) (Nat.ne_of_lt (hO.lt h9)))
      have f_x := (hp_e2 fe (by omega) (Nat.ne_of_lt (hO.lt f_x))).trans f_x
      have f_air := (hp_e2 fe (by omega) (Nat.ne_of_lt (hO.lt f_air))).trans f_air
      have f_l := (hp_e2 fe (by omega) (Nat.ne_of_lt (hO.lt f_l))).trans f_l
      have f_n0 : μ1 nx = some (hp_o 5 [.int (nI lv2), .ref (nx + 1), .int (nB false), .int (nI 0), .int (nI 1)]) := fz0
      have f_n1 : μ1 (nx + 1) = some (hp_m X 3 (shA a b c1 lv2)) := fz1
      have fr := hp_eq.tr2 fe fr (by simp) (by simp)
      clear fe fz0 fz1 hO
      refine lv_astore (lv' := [(5, .ref nx), (0, .ref x), (1, .int (nI (3 * lv2 + 1))), (2, .int a), (3, .int b), (4, .int c1)]) hx hb dX10_tag_32 hl (by decide) rfl (fun ls hl => ?_)
      refine lv_aload hx hb dX10_tag_34 (lv_at hl 0 rfl) ?_
      refine hp_kip (hp_runV (As := []) (rest := []) hx hb hml hown hS hH (c_X9_looksUnfinished l X (shA_lt a b c1 lv2) hl1 hl3 f_n0 f_n1) M_X10_44 I_X9_looksUnfinished V_X9_looksUnfinished (ci := 5) rfl rfl f_n0 rfl hl.1 rfl (Nat.le_of_ble_eq_true rfl) dX10_tag_36 ⟨Nat.le_of_ble_eq_true rfl, Nat.le_of_ble_eq_true rfl⟩ ⟨Nat.le_of_ble_eq_true rfl, Nat.le_of_ble_eq_true rfl⟩) hH (fun H locs hH => ?_)
      refine lv_if_ne (tgt := 54) hx hb dX10_tag_39 (by decide) (fun c_39 => ?_) (fun c_39 => ?_)
      · have c_39 : (decide (shA a b c1 lv2 (lv2 - 1) % 256 = 136)) = true := nB_n c_39
        exact absurd (of_decide_eq_true c_39) hunf
      · have c_39 : (decide (shA a b c1 lv2 (lv2 - 1) % 256 = 136)) = false := nB_0 c_39
        refine lv_aload_n hx hb dX10_tag_42 rfl (lv_at hl 1 rfl) ?_
        refine hp_get hx hb hown hS.2.1 hH (F_X10_28.use hS) f_x rfl dX10_tag_43 ?_
        refine lv_aload hx hb dX10_tag_46 (lv_at hl 0 rfl) ?_
        refine hp_kip (hp_runV (As := [.ref nx]) (rest := []) hx hb hml hown hS hH (c_X1_knowsNumberOf l X hq hn16 f_ts f_ss hlv hst hle hsh (shA_lt a b c1 lv2) hl3 f_air f_l f_n0 f_n1) M_X10_48 I_X1_knowsNumberOf V_X1_knowsNumberOf (ci := 0) rfl rfl f_air rfl hl.1 rfl (Nat.le_of_ble_eq_true rfl) dX10_tag_48 ⟨Nat.le_of_ble_eq_true rfl, Nat.le_of_ble_eq_true rfl⟩ ⟨Nat.le_of_ble_eq_true rfl, Nat.le_of_ble_eq_true rfl⟩) hH (fun H locs hH => ?_)
        refine lv_if_eq (tgt := 57) hx hb dX10_tag_51 (by decide) (fun c_51 => ?_) (fun c_51 => ?_)
        · have c_51 : (knB n lv sh lv2 (shA a b c1 lv2)) = false := nB_0 c_51
          refine lv_aload_n hx hb dX10_tag_57 rfl (lv_at hl 1 rfl) ?_
          refine hp_get hx hb hown hS.2.1 hH (F_X10_28.use hS) f_x rfl dX10_tag_58 ?_
          refine hp_kip (hp_runV (As := []) (rest := []) hx hb hml hown hS hH (c_X1_count l X f_air f_l) M_X10_52 I_X1_count V_X1_count (ci := 0) rfl rfl f_air rfl hl.1 rfl (Nat.le_of_ble_eq_true rfl) dX10_tag_61 ⟨Nat.le_of_ble_eq_true rfl, Nat.le_of_ble_eq_true rfl⟩ ⟨Nat.le_of_ble_eq_true rfl, Nat.le_of_ble_eq_true rfl⟩) hH (fun H locs hH => ?_)
          refine lv_bipush (v := nI 16) hx hb dX10_tag_64 (by decide) ?_
          refine lv_icmp_ge (tgt := 81) hx hb dX10_tag_66 (by decide) (fun c_66 => ?_) (fun c_66 => ?_)
          · have c_66 : 16 ≤ n := (nI_leI (by omega) (by omega)).mp c_66
            exact absurd c_66 (by omega)
          · have c_66 : ¬ (16 ≤ n) := fun z => c_66 ((nI_leI (by omega) (by omega)).mpr z)
            refine lv_aload_n hx hb dX10_tag_69 rfl (lv_at hl 1 rfl) ?_
            refine hp_get hx hb hown hS.2.1 hH (F_X10_28.use hS) f_x rfl dX10_tag_70 ?_
            refine lv_aload hx hb dX10_tag_73 (lv_at hl 0 rfl) ?_
            have en : n = 15 := hn0
            subst en
            obtain ⟨hnp, f_q, hf⟩ := hq.resolve_left (by omega)
            have hlt_q := hH.lt f_q
            refine hp_kim (hp_runV (As := [.ref nx]) (rest := []) hx hb hml hown hS hH (c_X1_bring_15 l X (fun j hj => Nat.ne_of_lt (hlt_ts j hj)) f_ts hf f_air f_l f_q f_n0) M_X10_56 I_X1_bring V_X1_bring (ci := 0) rfl rfl f_air rfl hl.1 rfl (Nat.le_of_ble_eq_true rfl) dX10_tag_75 ⟨Nat.le_of_ble_eq_true rfl, Nat.le_of_ble_eq_true rfl⟩ ⟨Nat.le_of_ble_eq_true rfl, Nat.le_of_ble_eq_true rfl⟩) hH (fun μ1 H locs hp hH => ?_)
            obtain ⟨q', f', g1, g2, g3, g4⟩ := hp
            have hK : ∀ c e, μ c = some e → c ≠ l1 → (0 < 15 → c ≠ q) → μ1 c = μ c := fun c e hc h8 h9 => by
              have hcn := hW0 c e hc
              rw [g4 c h8 (by omega) (h9 (by omega)) (by omega)]
              exact fr c (by simp; omega)
            have g5 := (g4 (nx + 1) (by omega) (by omega) (fun e9 => by have := hp_ne f_n1 f_q (by simp); exact this e9) (by omega)).trans f_n1
            refine lv_goto (tgt := 83) hx hb dX10_tag_78 (by decide) ?_
            exact hp_ri hx hb hr hlocks hS hH (⟨rfl, rfl, q', f', AW.more (aw2 := false) hA0 g1 g2 g3 g5 hK, fun c9 e9 h9 => hK c9 e9 h9⟩) dX10_tag_83
        · have c_51 : (knB n lv sh lv2 (shA a b c1 lv2)) = true := nB_n c_51
          exact absurd c_51 (by rw [hkn]; decide)
    · have c_8 : ¬ ((3 * lv2 + 1) = 7) := fun z => c_8 ((nI_eq (by omega) (by omega)).mpr z)
      refine lv_iload_n hx hb dX10_tag_11 rfl (lv_at hl 1 rfl) ?_
      refine lv_bipush (v := nI 10) hx hb dX10_tag_12 (by decide) ?_
      refine lv_icmp_eq (tgt := 20) hx hb dX10_tag_14 (by decide) (fun c_14 => ?_) (fun c_14 => ?_)
      · have c_14 : (3 * lv2 + 1) = 10 := (nI_eq (by omega) (by omega)).mp c_14
        have hO := hH
        refine hp_new hx hb hown hS.2.1 hH (N_X10_39.use hS) (Nat.le_of_ble_eq_true rfl) (Nat.le_of_ble_eq_true rfl) dX10_tag_20 (fun H μ1 fz fn hH => ?_)
        have f_ts := fun j hj => (fn _ (Nat.ne_of_lt (hlt_ts j hj))).trans (f_ts j hj)
        have f_ss := fun j hj => (fn _ (Nat.ne_of_lt (hO.lt (f_ss j hj)))).trans (f_ss j hj)
        have hq := hq.keep (fun h9 => fn _ (Nat.ne_of_lt (hO.lt h9)))
        have f_x := (fn _ (Nat.ne_of_lt (hO.lt f_x))).trans f_x
        have f_air := (fn _ (Nat.ne_of_lt (hO.lt f_air))).trans f_air
        have f_l := (fn _ (Nat.ne_of_lt (hO.lt f_l))).trans f_l
        have f_n0 : μ1 nx = some (hp_o 5 [.int (nI 0), .null, .int (nB false), .int (nI 0), .int (nI 0)]) := fz
        have fr := hp_eq.put fr (by simp) fn
        clear fz fn hO
        refine lv_dup hx hb dX10_tag_23 rfl ?_
        refine lv_iload_n hx hb dX10_tag_24 rfl (lv_at hl 1 rfl) ?_
        refine lv_iload_n hx hb dX10_tag_25 rfl (lv_at hl 2 rfl) ?_
        refine lv_iload_n hx hb dX10_tag_26 rfl (lv_at hl 3 rfl) ?_
        refine lv_iload hx hb dX10_tag_27 (lv_at hl 4 rfl) ?_
        have hO := hH
        refine hp_kvm (hp_runI (As := [.int (nI (3 * lv2 + 1)), .int a, .int b, .int c1]) (rest := [.ref nx]) hx hb hml hown hS hH (c_X9_init l X (lv := lv2) hl1 hl3 f_n0) M_X10_41 I_X9_init rfl rfl hl.1 rfl (Nat.le_of_ble_eq_true rfl) dX10_tag_29 ⟨Nat.le_of_ble_eq_true rfl, Nat.le_of_ble_eq_true rfl⟩ ⟨Nat.le_of_ble_eq_true rfl, Nat.le_of_ble_eq_true rfl⟩) hH (fun μ1 H locs hp hH => ?_)
        obtain ⟨fz0, fz1, fe⟩ := hp
        have f_ts := fun j hj => (hp_e2 fe (Nat.ne_of_lt (hlt_ts j hj)) (Nat.ne_of_lt (hO.lt (f_ts j hj)))).trans (f_ts j hj)
        have f_ss := fun j hj => (hp_e2 fe (hp_ne (f_ss j hj) f_n0 (by simp)) (Nat.ne_of_lt (hO.lt (f_ss j hj)))).trans (f_ss j hj)
        have hq := hq.keep (fun h9 => hp_e2 fe (hp_ne h9 f_n0 (by simp)) (Nat.ne_of_lt (hO.lt h9)))
        have f_x := (hp_e2 fe (by omega) (Nat.ne_of_lt (hO.lt f_x))).trans f_x
        have f_air := (hp_e2 fe (by omega) (Nat.ne_of_lt (hO.lt f_air))).trans f_air
        have f_l := (hp_e2 fe (by omega) (Nat.ne_of_lt (hO.lt f_l))).trans f_l
        have f_n0 : μ1 nx = some (hp_o 5 [.int (nI lv2), .ref (nx + 1), .int (nB false), .int (nI 0), .int (nI 1)]) := fz0
        have f_n1 : μ1 (nx + 1) = some (hp_m X 3 (shA a b c1 lv2)) := fz1
        have fr := hp_eq.tr2 fe fr (by simp) (by simp)
        clear fe fz0 fz1 hO
        refine lv_astore (lv' := [(5, .ref nx), (0, .ref x), (1, .int (nI (3 * lv2 + 1))), (2, .int a), (3, .int b), (4, .int c1)]) hx hb dX10_tag_32 hl (by decide) rfl (fun ls hl => ?_)
        refine lv_aload hx hb dX10_tag_34 (lv_at hl 0 rfl) ?_
        refine hp_kip (hp_runV (As := []) (rest := []) hx hb hml hown hS hH (c_X9_looksUnfinished l X (shA_lt a b c1 lv2) hl1 hl3 f_n0 f_n1) M_X10_44 I_X9_looksUnfinished V_X9_looksUnfinished (ci := 5) rfl rfl f_n0 rfl hl.1 rfl (Nat.le_of_ble_eq_true rfl) dX10_tag_36 ⟨Nat.le_of_ble_eq_true rfl, Nat.le_of_ble_eq_true rfl⟩ ⟨Nat.le_of_ble_eq_true rfl, Nat.le_of_ble_eq_true rfl⟩) hH (fun H locs hH => ?_)
        refine lv_if_ne (tgt := 54) hx hb dX10_tag_39 (by decide) (fun c_39 => ?_) (fun c_39 => ?_)
        · have c_39 : (decide (shA a b c1 lv2 (lv2 - 1) % 256 = 136)) = true := nB_n c_39
          exact absurd (of_decide_eq_true c_39) hunf
        · have c_39 : (decide (shA a b c1 lv2 (lv2 - 1) % 256 = 136)) = false := nB_0 c_39
          refine lv_aload_n hx hb dX10_tag_42 rfl (lv_at hl 1 rfl) ?_
          refine hp_get hx hb hown hS.2.1 hH (F_X10_28.use hS) f_x rfl dX10_tag_43 ?_
          refine lv_aload hx hb dX10_tag_46 (lv_at hl 0 rfl) ?_
          refine hp_kip (hp_runV (As := [.ref nx]) (rest := []) hx hb hml hown hS hH (c_X1_knowsNumberOf l X hq hn16 f_ts f_ss hlv hst hle hsh (shA_lt a b c1 lv2) hl3 f_air f_l f_n0 f_n1) M_X10_48 I_X1_knowsNumberOf V_X1_knowsNumberOf (ci := 0) rfl rfl f_air rfl hl.1 rfl (Nat.le_of_ble_eq_true rfl) dX10_tag_48 ⟨Nat.le_of_ble_eq_true rfl, Nat.le_of_ble_eq_true rfl⟩ ⟨Nat.le_of_ble_eq_true rfl, Nat.le_of_ble_eq_true rfl⟩) hH (fun H locs hH => ?_)
          refine lv_if_eq (tgt := 57) hx hb dX10_tag_51 (by decide) (fun c_51 => ?_) (fun c_51 => ?_)
          · have c_51 : (knB n lv sh lv2 (shA a b c1 lv2)) = false := nB_0 c_51
            refine lv_aload_n hx hb dX10_tag_57 rfl (lv_at hl 1 rfl) ?_
            refine hp_get hx hb hown hS.2.1 hH (F_X10_28.use hS) f_x rfl dX10_tag_58 ?_
            refine hp_kip (hp_runV (As := []) (rest := []) hx hb hml hown hS hH (c_X1_count l X f_air f_l) M_X10_52 I_X1_count V_X1_count (ci := 0) rfl rfl f_air rfl hl.1 rfl (Nat.le_of_ble_eq_true rfl) dX10_tag_61 ⟨Nat.le_of_ble_eq_true rfl, Nat.le_of_ble_eq_true rfl⟩ ⟨Nat.le_of_ble_eq_true rfl, Nat.le_of_ble_eq_true rfl⟩) hH (fun H locs hH => ?_)
            refine lv_bipush (v := nI 16) hx hb dX10_tag_64 (by decide) ?_
            refine lv_icmp_ge (tgt := 81) hx hb dX10_tag_66 (by decide) (fun c_66 => ?_) (fun c_66 => ?_)
            · have c_66 : 16 ≤ n := (nI_leI (by omega) (by omega)).mp c_66
              exact absurd c_66 (by omega)
            · have c_66 : ¬ (16 ≤ n) := fun z => c_66 ((nI_leI (by omega) (by omega)).mpr z)
              refine lv_aload_n hx hb dX10_tag_69 rfl (lv_at hl 1 rfl) ?_
              refine hp_get hx hb hown hS.2.1 hH (F_X10_28.use hS) f_x rfl dX10_tag_70 ?_
              refine lv_aload hx hb dX10_tag_73 (lv_at hl 0 rfl) ?_
              have en : n = 15 := hn0
              subst en
              obtain ⟨hnp, f_q, hf⟩ := hq.resolve_left (by omega)
              have hlt_q := hH.lt f_q
              refine hp_kim (hp_runV (As := [.ref nx]) (rest := []) hx hb hml hown hS hH (c_X1_bring_15 l X (fun j hj => Nat.ne_of_lt (hlt_ts j hj)) f_ts hf f_air f_l f_q f_n0) M_X10_56 I_X1_bring V_X1_bring (ci := 0) rfl rfl f_air rfl hl.1 rfl (Nat.le_of_ble_eq_true rfl) dX10_tag_75 ⟨Nat.le_of_ble_eq_true rfl, Nat.le_of_ble_eq_true rfl⟩ ⟨Nat.le_of_ble_eq_true rfl, Nat.le_of_ble_eq_true rfl⟩) hH (fun μ1 H locs hp hH => ?_)
              obtain ⟨q', f', g1, g2, g3, g4⟩ := hp
              have hK : ∀ c e, μ c = some e → c ≠ l1 → (0 < 15 → c ≠ q) → μ1 c = μ c := fun c e hc h8 h9 => by
                have hcn := hW0 c e hc
                rw [g4 c h8 (by omega) (h9 (by omega)) (by omega)]
                exact fr c (by simp; omega)
              have g5 := (g4 (nx + 1) (by omega) (by omega) (fun e9 => by have := hp_ne f_n1 f_q (by simp); exact this e9) (by omega)).trans f_n1
              refine lv_goto (tgt := 83) hx hb dX10_tag_78 (by decide) ?_
              exact hp_ri hx hb hr hlocks hS hH (⟨rfl, rfl, q', f', AW.more (aw2 := false) hA0 g1 g2 g3 g5 hK, fun c9 e9 h9 => hK c9 e9 h9⟩) dX10_tag_83
          · have c_51 : (knB n lv sh lv2 (shA a b c1 lv2)) = true := nB_n c_51
            exact absurd c_51 (by rw [hkn]; decide)
      · have c_14 : ¬ ((3 * lv2 + 1) = 10) := fun z => c_14 ((nI_eq (by omega) (by omega)).mpr z)
        exact absurd c_14 (by omega)

set_option maxHeartbeats 4000000 in
set_option maxRecDepth 100000 in
theorem c_X10_init (l : Launch) (X : hp_X) {μ : hp_M} {nx : Nat} {x : Nat} (f_x : μ x = some (hp_o 6 [.null, .null, .null, .null])) : Ct l X yX10_init cX10_init 1 (none : Option Jvm.ClassFile.FieldType) 5 200 12 710 [.ref x] μ nx (hq_v X (po_v (nx + 12) (fun z => z x = some (hp_o 6 [.ref nx, .ref (nx + 2), .ref (nx + 3), .ref (nx + 6)]) ∧ z nx = some (hp_o 4 [.ref (nx + 1), .int (nI 0)]) ∧ z (nx + 1) = some (hp_n X 160 (fun _ => 0)) ∧ z (nx + 2) = some (hp_o 1 [.long (lN 0), .long (lN 0), .int (nI 0)]) ∧ z (nx + 3) = some (hp_o 0 [.ref (nx + 4), .ref (nx + 5), .int (nB true), .int (nI 0)]) ∧ z (nx + 4) = some (hp_o 8 [.int (nI 0), .ref (X.2.2.2 16), .int (nI 0)]) ∧ z (nx + 5) = some (hp_o 2 [.ref (X.2.2.2 0), .int (nI 0), .int (nI 0), .long (lN 0), .int (nI 0)]) ∧ z (nx + 6) = some (hp_o 3 [.ref (nx + 7), .ref (nx + 9), .ref (nx + 10), .ref (nx + 11), .int (nI 0), .long (lN 0), .int (nI 0)]) ∧ z (nx + 7) = some (hp_o 4 [.ref (nx + 8), .int (nI 0)]) ∧ z (nx + 8) = some (hp_n X 81 (fun _ => 0)) ∧ z (nx + 9) = some (hp_o 1 [.long (lN 0), .long (lN 0), .int (nI 0)]) ∧ z (nx + 10) = some (hp_n X 400 (fun _ => 0)) ∧ z (nx + 11) = some (hp_n X 40 (fun _ => 0)) ∧ hp_eq [x, nx, nx + 1, nx + 2, nx + 3, nx + 4, nx + 5, nx + 6, nx + 7, nx + 8, nx + 9, nx + 10, nx + 11] z μ))) := by
  refine hp_met (by decide) (Nat.le_of_ble_eq_true rfl) ?_
  intro p e s m below meth c ls hx hb hml hr hlocks hown hin hS hH hl
  have hl : lv_has ls 1 [(0, .ref x)] := hl
  have fr : hp_eq [x, nx, nx + 1, nx + 2, nx + 3, nx + 4, nx + 5, nx + 6, nx + 7, nx + 8, nx + 9, nx + 10, nx + 11] μ μ := fun _ _ => rfl
  have hlt_x := hH.lt f_x
  refine lv_aload_n hx hb dX10_init_0 rfl (lv_at hl 0 rfl) ?_
  refine hp_obj hx hb hml hown hS ol_X10_1 hl.1 dX10_init_1 (Nat.le_of_ble_eq_true rfl) (Nat.le_of_ble_eq_true rfl) (Nat.le_of_ble_eq_true rfl) ?_
  refine lv_aload_n hx hb dX10_init_4 rfl (lv_at hl 0 rfl) ?_
  have hO := hH
  refine hp_new hx hb hown hS.2.1 hH (N_X10_7.use hS) (Nat.le_of_ble_eq_true rfl) (Nat.le_of_ble_eq_true rfl) dX10_init_5 (fun H μ1 fz fn hH => ?_)
  have f_x := (fn _ (Nat.ne_of_lt (hO.lt f_x))).trans f_x
  have f_n0 : μ1 nx = some (hp_o 4 [.null, .int (nI 0)]) := fz
  have fr := hp_eq.put fr (by simp) fn
  clear fz fn hO
  refine lv_dup hx hb dX10_init_8 rfl ?_
  refine lv_sipush (v := nI 160) hx hb dX10_init_9 (by decide) ?_
  have hO := hH
  refine hp_kvm (hp_runI (As := [.int (nI 160)]) (rest := [.ref nx, .ref x]) hx hb hml hown hS hH (c_X8_init l X (room := 160) (by decide) f_n0) M_X10_11 I_X8_init rfl rfl hl.1 rfl (Nat.le_of_ble_eq_true rfl) dX10_init_12 ⟨Nat.le_of_ble_eq_true rfl, Nat.le_of_ble_eq_true rfl⟩ ⟨Nat.le_of_ble_eq_true rfl, Nat.le_of_ble_eq_true rfl⟩) hH (fun μ1 H locs hp hH => ?_)
  obtain ⟨fz0, fz1, fe⟩ := hp
  have f_x := (hp_e2 fe (by omega) (Nat.ne_of_lt (hO.lt f_x))).trans f_x
  have f_n0 : μ1 nx = some (hp_o 4 [.ref (nx + 1), .int (nI 0)]) := fz0
  have f_n1 : μ1 (nx + 1) = some (hp_n X 160 (fun _ => 0)) := fz1
  have fr := hp_eq.tr2 fe fr (by simp) (by simp)
  clear fe fz0 fz1 hO
  refine hp_putF hx hb hown hS.2.1 hH (P_X10_14.use hS) hin f_x rfl rfl (Nat.le_of_ble_eq_true rfl) dX10_init_15 (fun H locs μ1 fz fn hH => ?_)
  have f_n0 := (fn _ (by omega)).trans f_n0
  have f_n1 := (fn _ (by omega)).trans f_n1
  have f_x : μ1 x = some (hp_o 6 [.ref nx, .null, .null, .null]) := fz
  have fr := hp_eq.put fr (by simp) fn
  clear fz fn
  refine lv_aload_n hx hb dX10_init_18 rfl (lv_at hl 0 rfl) ?_
  have hO := hH
  refine hp_new hx hb hown hS.2.1 hH (N_X10_18.use hS) (Nat.le_of_ble_eq_true rfl) (Nat.le_of_ble_eq_true rfl) dX10_init_19 (fun H μ1 fz fn hH => ?_)
  have f_x := (fn _ (Nat.ne_of_lt (hO.lt f_x))).trans f_x
  have f_n0 := (fn _ (Nat.ne_of_lt (hO.lt f_n0))).trans f_n0
  have f_n1 := (fn _ (Nat.ne_of_lt (hO.lt f_n1))).trans f_n1
  have f_n2 : μ1 (nx + 2) = some (hp_o 1 [.long (lN 0), .long (lN 0), .int (nI 0)]) := fz
  have fr := hp_eq.put fr (by simp) fn
  clear fz fn hO
  refine lv_dup hx hb dX10_init_22 rfl ?_
  refine hp_kvp (hp_runI (As := []) (rest := [.ref (nx + 2), .ref x]) hx hb hml hown hS hH (c_X2_init l X) M_X10_20 I_X2_init rfl rfl hl.1 rfl (Nat.le_of_ble_eq_true rfl) dX10_init_23 ⟨Nat.le_of_ble_eq_true rfl, Nat.le_of_ble_eq_true rfl⟩ ⟨Nat.le_of_ble_eq_true rfl, Nat.le_of_ble_eq_true rfl⟩) hH (fun H locs hH => ?_)
  refine hp_putF hx hb hown hS.2.1 hH (P_X10_21.use hS) hin f_x rfl rfl (Nat.le_of_ble_eq_true rfl) dX10_init_26 (fun H locs μ1 fz fn hH => ?_)
  have f_n0 := (fn _ (by omega)).trans f_n0
  have f_n1 := (fn _ (by omega)).trans f_n1
  have f_n2 := (fn _ (by omega)).trans f_n2
  have f_x : μ1 x = some (hp_o 6 [.ref nx, .ref (nx + 2), .null, .null]) := fz
  have fr := hp_eq.put fr (by simp) fn
  clear fz fn
  refine lv_aload_n hx hb dX10_init_29 rfl (lv_at hl 0 rfl) ?_
  have hO := hH
  refine hp_new hx hb hown hS.2.1 hH (N_X10_25.use hS) (Nat.le_of_ble_eq_true rfl) (Nat.le_of_ble_eq_true rfl) dX10_init_30 (fun H μ1 fz fn hH => ?_)
  have f_x := (fn _ (Nat.ne_of_lt (hO.lt f_x))).trans f_x
  have f_n0 := (fn _ (Nat.ne_of_lt (hO.lt f_n0))).trans f_n0
  have f_n1 := (fn _ (Nat.ne_of_lt (hO.lt f_n1))).trans f_n1
  have f_n2 := (fn _ (Nat.ne_of_lt (hO.lt f_n2))).trans f_n2
  have f_n3 : μ1 (nx + 3) = some (hp_o 0 [.null, .null, .int (nB false), .int (nI 0)]) := fz
  have fr := hp_eq.put fr (by simp) fn
  clear fz fn hO
  refine lv_dup hx hb dX10_init_33 rfl ?_
  have hO := hH
  refine hp_kvm (hp_runI (As := []) (rest := [.ref (nx + 3), .ref x]) hx hb hml hown hS hH (c_X1_init l X f_n3) M_X10_27 I_X1_init rfl rfl hl.1 rfl (Nat.le_of_ble_eq_true rfl) dX10_init_34 ⟨Nat.le_of_ble_eq_true rfl, Nat.le_of_ble_eq_true rfl⟩ ⟨Nat.le_of_ble_eq_true rfl, Nat.le_of_ble_eq_true rfl⟩) hH (fun μ1 H locs hp hH => ?_)
  obtain ⟨fz0, fz1, fz2, fe⟩ := hp
  have hl9 := hO.lt f_x
  have hn9 : x ≠ nx + 3 := (by omega)
  have f_x := (fe _ (by simp only [List.mem_cons, List.not_mem_nil, or_false]; omega)).trans f_x
  clear hl9 hn9
  have hl9 := hO.lt f_n0
  have hn9 : nx ≠ nx + 3 := (by omega)
  have f_n0 := (fe _ (by simp only [List.mem_cons, List.not_mem_nil, or_false]; omega)).trans f_n0
  clear hl9 hn9
  have hl9 := hO.lt f_n1
  have hn9 : nx + 1 ≠ nx + 3 := (by omega)
  have f_n1 := (fe _ (by simp only [List.mem_cons, List.not_mem_nil, or_false]; omega)).trans f_n1
  clear hl9 hn9
  have hl9 := hO.lt f_n2
  have hn9 : nx + 2 ≠ nx + 3 := (by omega)
  have f_n2 := (fe _ (by simp only [List.mem_cons, List.not_mem_nil, or_false]; omega)).trans f_n2
  clear hl9 hn9
  have f_n3 : μ1 (nx + 3) = some (hp_o 0 [.ref (nx + 4), .ref (nx + 5), .int (nB true), .int (nI 0)]) := fz0
  have f_n4 : μ1 (nx + 4) = some (hp_o 8 [.int (nI 0), .ref (X.2.2.2 16), .int (nI 0)]) := fz1
  have f_n5 : μ1 (nx + 5) = some (hp_o 2 [.ref (X.2.2.2 0), .int (nI 0), .int (nI 0), .long (lN 0), .int (nI 0)]) := fz2
  have fr : hp_eq [x, nx, nx + 1, nx + 2, nx + 3, nx + 4, nx + 5, nx + 6, nx + 7, nx + 8, nx + 9, nx + 10, nx + 11] μ1 μ := fun q9 hq9 => (fe q9 (fun h9 => hq9 (by simp only [List.mem_cons, List.not_mem_nil, or_false] at h9 ⊢; omega))).trans (fr q9 hq9)
  clear fe fz0 fz1 fz2 hO
  refine hp_putF hx hb hown hS.2.1 hH (P_X10_28.use hS) hin f_x rfl rfl (Nat.le_of_ble_eq_true rfl) dX10_init_37 (fun H locs μ1 fz fn hH => ?_)
  have f_n0 := (fn _ (by omega)).trans f_n0
  have f_n1 := (fn _ (by omega)).trans f_n1
  have f_n2 := (fn _ (by omega)).trans f_n2
  have f_n3 := (fn _ (by omega)).trans f_n3
  have f_n4 := (fn _ (by omega)).trans f_n4
  have f_n5 := (fn _ (by omega)).trans f_n5
  have f_x : μ1 x = some (hp_o 6 [.ref nx, .ref (nx + 2), .ref (nx + 3), .null]) := fz
  have fr := hp_eq.put fr (by simp) fn
  clear fz fn
  refine lv_aload_n hx hb dX10_init_40 rfl (lv_at hl 0 rfl) ?_
  have hO := hH
  refine hp_new hx hb hown hS.2.1 hH (N_X10_32.use hS) (Nat.le_of_ble_eq_true rfl) (Nat.le_of_ble_eq_true rfl) dX10_init_41 (fun H μ1 fz fn hH => ?_)
  have f_x := (fn _ (Nat.ne_of_lt (hO.lt f_x))).trans f_x
  have f_n0 := (fn _ (Nat.ne_of_lt (hO.lt f_n0))).trans f_n0
  have f_n1 := (fn _ (Nat.ne_of_lt (hO.lt f_n1))).trans f_n1
  have f_n2 := (fn _ (Nat.ne_of_lt (hO.lt f_n2))).trans f_n2
  have f_n3 := (fn _ (Nat.ne_of_lt (hO.lt f_n3))).trans f_n3
  have f_n4 := (fn _ (Nat.ne_of_lt (hO.lt f_n4))).trans f_n4
  have f_n5 := (fn _ (Nat.ne_of_lt (hO.lt f_n5))).trans f_n5
  have f_n6 : μ1 (nx + 6) = some (hp_o 3 [.null, .null, .null, .null, .int (nI 0), .long (lN 0), .int (nI 0)]) := fz
  have fr := hp_eq.put fr (by simp) fn
  clear fz fn hO
  refine lv_dup hx hb dX10_init_44 rfl ?_
  have hO := hH
  refine hp_kvm (hp_runI (As := []) (rest := [.ref (nx + 6), .ref x]) hx hb hml hown hS hH (c_X6_init l X f_n6) M_X10_34 I_X6_init rfl rfl hl.1 rfl (Nat.le_of_ble_eq_true rfl) dX10_init_45 ⟨Nat.le_of_ble_eq_true rfl, Nat.le_of_ble_eq_true rfl⟩ ⟨Nat.le_of_ble_eq_true rfl, Nat.le_of_ble_eq_true rfl⟩) hH (fun μ1 H locs hp hH => ?_)
  obtain ⟨fz0, fz1, fz2, fz3, fz4, fz5, fe⟩ := hp
  have hl9 := hO.lt f_x
  have hn9 : x ≠ nx + 6 := (by omega)
  have f_x := (fe _ (by simp only [List.mem_cons, List.not_mem_nil, or_false]; omega)).trans f_x
  clear hl9 hn9
  have hl9 := hO.lt f_n0
  have hn9 : nx ≠ nx + 6 := (by omega)
  have f_n0 := (fe _ (by simp only [List.mem_cons, List.not_mem_nil, or_false]; omega)).trans f_n0
  clear hl9 hn9
  have hl9 := hO.lt f_n1
  have hn9 : nx + 1 ≠ nx + 6 := (by omega)
  have f_n1 := (fe _ (by simp only [List.mem_cons, List.not_mem_nil, or_false]; omega)).trans f_n1
  clear hl9 hn9
  have hl9 := hO.lt f_n2
  have hn9 : nx + 2 ≠ nx + 6 := (by omega)
  have f_n2 := (fe _ (by simp only [List.mem_cons, List.not_mem_nil, or_false]; omega)).trans f_n2
  clear hl9 hn9
  have hl9 := hO.lt f_n3
  have hn9 : nx + 3 ≠ nx + 6 := (by omega)
  have f_n3 := (fe _ (by simp only [List.mem_cons, List.not_mem_nil, or_false]; omega)).trans f_n3
  clear hl9 hn9
  have hl9 := hO.lt f_n4
  have hn9 : nx + 4 ≠ nx + 6 := (by omega)
  have f_n4 := (fe _ (by simp only [List.mem_cons, List.not_mem_nil, or_false]; omega)).trans f_n4
  clear hl9 hn9
  have hl9 := hO.lt f_n5
  have hn9 : nx + 5 ≠ nx + 6 := (by omega)
  have f_n5 := (fe _ (by simp only [List.mem_cons, List.not_mem_nil, or_false]; omega)).trans f_n5
  clear hl9 hn9
  have f_n6 : μ1 (nx + 6) = some (hp_o 3 [.ref (nx + 7), .ref (nx + 9), .ref (nx + 10), .ref (nx + 11), .int (nI 0), .long (lN 0), .int (nI 0)]) := fz0
  have f_n7 : μ1 (nx + 7) = some (hp_o 4 [.ref (nx + 8), .int (nI 0)]) := fz1
  have f_n8 : μ1 (nx + 8) = some (hp_n X 81 (fun _ => 0)) := fz2
  have f_n9 : μ1 (nx + 9) = some (hp_o 1 [.long (lN 0), .long (lN 0), .int (nI 0)]) := fz3
  have f_n10 : μ1 (nx + 10) = some (hp_n X 400 (fun _ => 0)) := fz4
  have f_n11 : μ1 (nx + 11) = some (hp_n X 40 (fun _ => 0)) := fz5
  have fr : hp_eq [x, nx, nx + 1, nx + 2, nx + 3, nx + 4, nx + 5, nx + 6, nx + 7, nx + 8, nx + 9, nx + 10, nx + 11] μ1 μ := fun q9 hq9 => (fe q9 (fun h9 => hq9 (by simp only [List.mem_cons, List.not_mem_nil, or_false] at h9 ⊢; omega))).trans (fr q9 hq9)
  clear fe fz0 fz1 fz2 fz3 fz4 fz5 hO
  refine hp_putF hx hb hown hS.2.1 hH (P_X10_35.use hS) hin f_x rfl rfl (Nat.le_of_ble_eq_true rfl) dX10_init_48 (fun H locs μ1 fz fn hH => ?_)
  have f_n0 := (fn _ (by omega)).trans f_n0
  have f_n1 := (fn _ (by omega)).trans f_n1
  have f_n2 := (fn _ (by omega)).trans f_n2
  have f_n3 := (fn _ (by omega)).trans f_n3
  have f_n4 := (fn _ (by omega)).trans f_n4
  have f_n5 := (fn _ (by omega)).trans f_n5
  have f_n6 := (fn _ (by omega)).trans f_n6
  have f_n7 := (fn _ (by omega)).trans f_n7
  have f_n8 := (fn _ (by omega)).trans f_n8
  have f_n9 := (fn _ (by omega)).trans f_n9
  have f_n10 := (fn _ (by omega)).trans f_n10
  have f_n11 := (fn _ (by omega)).trans f_n11
  have f_x : μ1 x = some (hp_o 6 [.ref nx, .ref (nx + 2), .ref (nx + 3), .ref (nx + 6)]) := fz
  have fr := hp_eq.put fr (by simp) fn
  clear fz fn
  refine W.widen (k := 12) (n := 710) (by decide) (by decide) ?_
  exact hp_rv hx hb hr hlocks hS hH (⟨rfl, f_x, f_n0, f_n1, f_n2, f_n3, f_n4, f_n5, f_n6, f_n7, f_n8, f_n9, f_n10, f_n11, fr⟩) dX10_init_51
