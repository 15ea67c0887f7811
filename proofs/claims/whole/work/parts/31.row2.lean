set_option maxHeartbeats 4000000 in
set_option maxRecDepth 100000 in
theorem c_X3_octetsOf (l : Launch) (X : hp_X) {μ : hp_M} {nx : Nat} {B n : Nat} (hB : B < 2 ^ 64) (hn1 : n ≤ 7)  : Ct l X yX3_octetsOf cX3_octetsOf 10 (some FieldType.long) 1 40 0 0 [.long (lN B), .int (nI n)] μ nx (hq_l X (po_l nx (lN (octN B n)) (fun z => z = μ))) := by
  refine hp_met (by decide) (Nat.le_of_ble_eq_true rfl) ?_
  intro p e s m below meth c ls hx hb hml hr hlocks hown hin hS hH hl
  have hl : lv_has ls 10 [(0, .long (lN B)), (2, .int (nI n))] := hl
  refine lv_lconst (v := lN 0) hx hb dX3_octetsOf_0 rfl ?_
  refine lv_lstore_n (lv' := [(3, .long (lN 0)), (0, .long (lN B)), (2, .int (nI n))]) hx hb dX3_octetsOf_1 rfl hl (by decide) rfl (fun ls hl => ?_)
  refine lv_iconst (v := nI 0) hx hb dX3_octetsOf_2 (by decide) ?_
  refine lv_istore (lv' := [(5, .int (nI 0)), (3, .long (lN 0)), (0, .long (lN B)), (2, .int (nI n))]) hx hb dX3_octetsOf_3 hl (by decide) rfl (fun ls hl => ?_)
  have lp_5 : ∀ (kk : Nat) (i : Nat), (i ≤ n) → (n - i) < kk → ∀ (H : Heap) (locs : List Loc) (ls : Array Slot), hp_w X cls μ nx H locs → lv_has ls 10 [(0, .long (lN B)), (2, .int (nI n)), (3, .long (lN (octN B i))), (5, .int (nI i))] → W p l e { frames := 1, cells := 0, slots := 0, locals := 40 } s m [.long (lN B), .int (nI n)].toArray below meth c H locs 0 0 (MQ below (hq_l X (po_l nx (lN (octN B n)) (fun z => z = μ))) [.long (lN B), .int (nI n)].toArray s 0 0 (hp_A X)) (F0 m 5 ls []) := by
    intro kk
    induction kk with
    | zero =>
      intro i hi hkk
      exact absurd hkk (Nat.not_lt_zero _)
    | succ kk ih =>
      intro i hi hkk H locs ls  hH hl
      refine lv_iload hx hb dX3_octetsOf_5 (lv_at hl 3 rfl) ?_
      refine lv_iload_n hx hb dX3_octetsOf_7 rfl (lv_at hl 1 rfl) ?_
      refine lv_icmp_ge (tgt := 59) hx hb dX3_octetsOf_8 (by decide) (fun c_8 => ?_) (fun c_8 => ?_)
      · have c_8 : n ≤ i := (nI_leI (by omega) (by omega)).mp c_8
        refine lv_lload_n hx hb dX3_octetsOf_59 rfl (lv_at hl 2 rfl) ?_
        have hin : i = n := by omega
        subst hin
        exact hp_rl hx hb hr hlocks hS hH (⟨rfl, rfl, rfl⟩) dX3_octetsOf_60
      · have c_8 : ¬ (n ≤ i) := fun z => c_8 ((nI_leI (by omega) (by omega)).mpr z)
        refine lv_lload_n hx hb dX3_octetsOf_11 rfl (lv_at hl 0 rfl) ?_
        refine lv_bipush (v := nI 8) hx hb dX3_octetsOf_12 (by decide) ?_
        refine lv_iload hx hb dX3_octetsOf_14 (lv_at hl 3 rfl) ?_
        refine lv_imul hx hb dX3_octetsOf_16 ?_
        refine hp_eqi (z := nI (8 * i)) (pk_mul _ _) ?_
        refine lv_lushr hx hb dX3_octetsOf_17 rfl ?_
        refine hp_eql (z := lN (B / 2 ^ (8 * i))) (wb_shr hB (by omega)) ?_
        refine lv_ldc2 hx hb hown (hS.1 _ wi_411 _) dX3_octetsOf_18 ?_
        refine hp_eql (z := lN 255) (by decide) ?_
        refine lv_land hx hb dX3_octetsOf_21 ?_
        refine hp_eql (z := lN (B / 2 ^ (8 * i) % 256)) (wb_mask (k := 8) (Nat.lt_of_le_of_lt (Nat.div_le_self _ _) hB) (by decide)) ?_
        refine lv_lstore (lv' := [(6, .long (lN (B / 2 ^ (8 * i) % 256))), (0, .long (lN B)), (2, .int (nI n)), (3, .long (lN (octN B i))), (5, .int (nI i))]) hx hb dX3_octetsOf_22 hl (by decide) rfl (fun ls hl => ?_)
        refine lv_iconst (v := nI 1) hx hb dX3_octetsOf_24 (by decide) ?_
        refine lv_lload hx hb dX3_octetsOf_25 (lv_at hl 0 rfl) ?_
        refine hp_kip (hp_runS (As := [.long (lN (B / 2 ^ (8 * i) % 256))]) (rest := [.int (nI 1)]) hx hb hml hown hS hH (c_J13_bitCount_95d88 l X (v := B / 2 ^ (8 * i) % 256) (Nat.mod_lt _ (by decide))) M_X3_11 S_J13_bitCount_95d88 rfl hl.1 rfl (Nat.le_of_ble_eq_true rfl) dX3_octetsOf_27 ⟨Nat.le_of_ble_eq_true rfl, Nat.le_of_ble_eq_true rfl⟩ ⟨Nat.le_of_ble_eq_true rfl, Nat.le_of_ble_eq_true rfl⟩) hH (fun H locs hH => ?_)
        have hpo := popN_le 8 (B / 2 ^ (8 * i) % 256)
        refine lv_iconst (v := nI 2) hx hb dX3_octetsOf_30 (by decide) ?_
        refine lv_irem hx hb dX3_octetsOf_31 (nI_ne0 (by omega) (by omega)) ?_
        refine hp_eqi (z := nI ((popN 8 (B / 2 ^ (8 * i) % 256)) % 2)) (pk_rem (by omega) (by omega) (by omega)) ?_
        refine lv_isub hx hb dX3_octetsOf_32 ?_
        refine hp_eqi (z := nI (1 - ((popN 8 (B / 2 ^ (8 * i) % 256)) % 2))) (pk_sub (by omega)) ?_
        refine lv_i2l hx hb dX3_octetsOf_33 rfl ?_
        refine hp_eql (z := lN (1 - popN 8 (B / 2 ^ (8 * i) % 256) % 2)) (nI_l (by omega)) ?_
        refine lv_lstore (lv' := [(8, .long (lN (1 - popN 8 (B / 2 ^ (8 * i) % 256) % 2))), (6, .long (lN (B / 2 ^ (8 * i) % 256))), (0, .long (lN B)), (2, .int (nI n)), (3, .long (lN (octN B i))), (5, .int (nI i))]) hx hb dX3_octetsOf_34 hl (by decide) rfl (fun ls hl => ?_)
        refine lv_lload_n hx hb dX3_octetsOf_36 rfl (lv_at hl 4 rfl) ?_
        refine lv_lload hx hb dX3_octetsOf_37 (lv_at hl 1 rfl) ?_
        refine lv_lload hx hb dX3_octetsOf_39 (lv_at hl 0 rfl) ?_
        refine lv_bipush (v := nI 8) hx hb dX3_octetsOf_41 (by decide) ?_
        refine lv_lshl hx hb dX3_octetsOf_43 rfl ?_
        refine hp_eql (z := lN ((1 - popN 8 (B / 2 ^ (8 * i) % 256) % 2) * 2 ^ 8)) (wb_shl _ (by decide)) ?_
        refine lv_lor hx hb dX3_octetsOf_44 ?_
        refine hp_eql (z := lN (octB (B / 2 ^ (8 * i) % 256))) (by rw [g_or' (k := 8) rfl (Nat.mod_lt _ (by decide)) (by omega)]; unfold octB; congr 1; omega) ?_
        refine lv_bipush (v := nI 9) hx hb dX3_octetsOf_45 (by decide) ?_
        refine lv_iload hx hb dX3_octetsOf_47 (lv_at hl 5 rfl) ?_
        refine lv_imul hx hb dX3_octetsOf_49 ?_
        refine hp_eqi (z := nI (9 * i)) (pk_mul _ _) ?_
        refine lv_lshl hx hb dX3_octetsOf_50 rfl ?_
        refine hp_eql (z := lN (octB (B / 2 ^ (8 * i) % 256) * 2 ^ (9 * i))) (wb_shl _ (by omega)) ?_
        refine lv_lor hx hb dX3_octetsOf_51 ?_
        refine hp_eql (z := lN (octN B (i + 1))) (by rw [g_or' (k := 9 * i) rfl (octN_lt B i) (Nat.lt_of_lt_of_le (octN_lt B (i + 1)) (Nat.pow_le_pow_right (by decide) (by omega)))]; rfl) ?_
        refine lv_lstore_n (lv' := [(3, .long (lN (octN B (i + 1)))), (8, .long (lN (1 - popN 8 (B / 2 ^ (8 * i) % 256) % 2))), (6, .long (lN (B / 2 ^ (8 * i) % 256))), (0, .long (lN B)), (2, .int (nI n)), (5, .int (nI i))]) hx hb dX3_octetsOf_52 rfl hl (by decide) rfl (fun ls hl => ?_)
        refine lv_iinc (v := nI (i + 1)) (lv' := [(5, .int (nI (i + 1))), (3, .long (lN (octN B (i + 1)))), (8, .long (lN (1 - popN 8 (B / 2 ^ (8 * i) % 256) % 2))), (6, .long (lN (B / 2 ^ (8 * i) % 256))), (0, .long (lN B)), (2, .int (nI n))]) hx hb dX3_octetsOf_53 hl (k := 5) rfl (nI_add _ 1) (by decide) rfl (fun ls hl => ?_)
        refine lv_goto (tgt := 5) hx hb dX3_octetsOf_56 (by decide) ?_
        exact ih (i + 1) (by omega) (by omega) _ _ _  hH (lv_sub hl [4, 5, 1, 0] rfl)
  exact lp_5 ((n - 0) + 1) 0 (Nat.zero_le _) (Nat.lt_succ_self _) _ _ _  hH (lv_sub hl [2, 3, 1, 0] rfl)

set_option maxHeartbeats 4000000 in
set_option maxRecDepth 100000 in
theorem c_X3_checkedOctetsOf (l : Launch) (X : hp_X) {μ : hp_M} {nx : Nat} {B n : Nat} (hn1 : n ≤ 3) (hB : B < 2 ^ (8 * n)) (hB2 : B < 2 ^ 32)  : Ct l X yX3_checkedOctetsOf cX3_checkedOctetsOf 5 (some FieldType.long) 2 80 0 0 [.long (lN B), .int (nI n)] μ nx (hq_l X (po_l nx (lN (octN (B + crcB B n * 2 ^ (8 * n)) (n + 2))) (fun z => z = μ))) := by
  refine hp_met (by decide) (Nat.le_of_ble_eq_true rfl) ?_
  intro p e s m below meth c ls hx hb hml hr hlocks hown hin hS hH hl
  have hl : lv_has ls 5 [(0, .long (lN B)), (2, .int (nI n))] := hl
  refine lv_sipush (v := nI 25443) hx hb dX3_checkedOctetsOf_0 (by decide) ?_
  refine lv_istore_n (lv' := [(3, .int (nI 25443)), (0, .long (lN B)), (2, .int (nI n))]) hx hb dX3_checkedOctetsOf_3 rfl hl (by decide) rfl (fun ls hl => ?_)
  refine lv_iconst (v := nI 0) hx hb dX3_checkedOctetsOf_4 (by decide) ?_
  refine lv_istore (lv' := [(4, .int (nI 0)), (3, .int (nI 25443)), (0, .long (lN B)), (2, .int (nI n))]) hx hb dX3_checkedOctetsOf_5 hl (by decide) rfl (fun ls hl => ?_)
  have lp_7 : ∀ (kk : Nat) (i : Nat), (i ≤ n) → (n - i) < kk → ∀ (H : Heap) (locs : List Loc) (ls : Array Slot), hp_w X cls μ nx H locs → lv_has ls 5 [(0, .long (lN B)), (2, .int (nI n)), (3, .int (nI (crcB B i))), (4, .int (nI i))] → W p l e { frames := 2, cells := 0, slots := 0, locals := 80 } s m [.long (lN B), .int (nI n)].toArray below meth c H locs 0 0 (MQ below (hq_l X (po_l nx (lN (octN (B + crcB B n * 2 ^ (8 * n)) (n + 2))) (fun z => z = μ))) [.long (lN B), .int (nI n)].toArray s 0 0 (hp_A X)) (F0 m 7 ls []) := by
    intro kk
    induction kk with
    | zero =>
      intro i hi hkk
      exact absurd hkk (Nat.not_lt_zero _)
    | succ kk ih =>
      intro i hi hkk H locs ls  hH hl
      refine lv_iload hx hb dX3_checkedOctetsOf_7 (lv_at hl 3 rfl) ?_
      refine lv_iload_n hx hb dX3_checkedOctetsOf_9 rfl (lv_at hl 1 rfl) ?_
      refine lv_icmp_ge (tgt := 36) hx hb dX3_checkedOctetsOf_10 (by decide) (fun c_10 => ?_) (fun c_10 => ?_)
      · have c_10 : n ≤ i := (nI_leI (by omega) (by omega)).mp c_10
        have hin : i = n := by omega
        subst hin
        have hcl := crcB_lt B i
        have hpw : (2 : Nat) ^ (8 * i) ≤ 2 ^ 24 := Nat.pow_le_pow_right (by decide) (by omega)
        have hml2 : crcB B i * 2 ^ (8 * i) ≤ 65535 * 2 ^ (8 * i) := Nat.mul_le_mul_right _ (by omega)
        refine lv_lload_n hx hb dX3_checkedOctetsOf_36 rfl (lv_at hl 0 rfl) ?_
        refine lv_iload_n hx hb dX3_checkedOctetsOf_37 rfl (lv_at hl 2 rfl) ?_
        refine lv_i2l hx hb dX3_checkedOctetsOf_38 rfl ?_
        refine hp_eql (z := lN (crcB B i)) (nI_l (by omega)) ?_
        refine lv_bipush (v := nI 8) hx hb dX3_checkedOctetsOf_39 (by decide) ?_
        refine lv_iload_n hx hb dX3_checkedOctetsOf_41 rfl (lv_at hl 1 rfl) ?_
        refine lv_imul hx hb dX3_checkedOctetsOf_42 ?_
        refine hp_eqi (z := nI (8 * i)) (pk_mul _ _) ?_
        refine lv_lshl hx hb dX3_checkedOctetsOf_43 rfl ?_
        refine hp_eql (z := lN (crcB B i * 2 ^ (8 * i))) (wb_shl _ (by omega)) ?_
        refine lv_lor hx hb dX3_checkedOctetsOf_44 ?_
        refine hp_eql (z := lN (B + crcB B i * 2 ^ (8 * i))) (g_or' (k := 8 * i) rfl hB (by omega)) ?_
        refine lv_iload_n hx hb dX3_checkedOctetsOf_45 rfl (lv_at hl 1 rfl) ?_
        refine lv_iconst (v := nI 2) hx hb dX3_checkedOctetsOf_46 (by decide) ?_
        refine lv_iadd hx hb dX3_checkedOctetsOf_47 ?_
        refine hp_eqi (z := nI (i + 2)) (nI_add _ _) ?_
        refine hp_klp (hp_runS (As := [.long (lN (B + crcB B i * 2 ^ (8 * i))), .int (nI (i + 2))]) (rest := []) hx hb hml hown hS hH (c_X3_octetsOf l X (B := B + crcB B i * 2 ^ (8 * i)) (n := i + 2) (by omega) (by omega)) M_X3_24 S_X3_octetsOf rfl hl.1 rfl (Nat.le_of_ble_eq_true rfl) dX3_checkedOctetsOf_48 ⟨Nat.le_of_ble_eq_true rfl, Nat.le_of_ble_eq_true rfl⟩ ⟨Nat.le_of_ble_eq_true rfl, Nat.le_of_ble_eq_true rfl⟩) hH (fun H locs hH => ?_)
        exact hp_rl hx hb hr hlocks hS hH (⟨rfl, rfl, rfl⟩) dX3_checkedOctetsOf_51
      · have c_10 : ¬ (n ≤ i) := fun z => c_10 ((nI_leI (by omega) (by omega)).mpr z)
        refine lv_iload_n hx hb dX3_checkedOctetsOf_13 rfl (lv_at hl 2 rfl) ?_
        refine lv_lload_n hx hb dX3_checkedOctetsOf_14 rfl (lv_at hl 0 rfl) ?_
        refine lv_bipush (v := nI 8) hx hb dX3_checkedOctetsOf_15 (by decide) ?_
        refine lv_iload hx hb dX3_checkedOctetsOf_17 (lv_at hl 3 rfl) ?_
        refine lv_imul hx hb dX3_checkedOctetsOf_19 ?_
        refine hp_eqi (z := nI (8 * i)) (pk_mul _ _) ?_
        refine lv_lushr hx hb dX3_checkedOctetsOf_20 rfl ?_
        refine hp_eql (z := lN (B / 2 ^ (8 * i))) (wb_shr (Nat.lt_trans hB2 (by decide)) (by omega)) ?_
        refine lv_l2i hx hb dX3_checkedOctetsOf_21 rfl ?_
        refine hp_eqi (z := nI (B / 2 ^ (8 * i))) (lN_i _) ?_
        refine lv_sipush (v := nI 255) hx hb dX3_checkedOctetsOf_22 (by decide) ?_
        refine lv_iand hx hb dX3_checkedOctetsOf_25 ?_
        refine hp_eqi (z := nI (B / 2 ^ (8 * i) % 256)) (pk_andN (Nat.lt_of_le_of_lt (Nat.div_le_self _ _) hB2) 8 (by decide)) ?_
        refine hp_kip (hp_runS (As := [.int (nI (crcB B i)), .int (nI (B / 2 ^ (8 * i) % 256))]) (rest := []) hx hb hml hown hS hH (c_X3_checkStep l X (x := crcB B i) (b := B / 2 ^ (8 * i) % 256) (crcB_lt B i) (Nat.mod_lt _ (by decide))) M_X3_20 S_X3_checkStep rfl hl.1 rfl (Nat.le_of_ble_eq_true rfl) dX3_checkedOctetsOf_26 ⟨Nat.le_of_ble_eq_true rfl, Nat.le_of_ble_eq_true rfl⟩ ⟨Nat.le_of_ble_eq_true rfl, Nat.le_of_ble_eq_true rfl⟩) hH (fun H locs hH => ?_)
        refine lv_istore_n (lv' := [(3, .int (nI (crcB B (i + 1)))), (0, .long (lN B)), (2, .int (nI n)), (4, .int (nI i))]) hx hb dX3_checkedOctetsOf_29 rfl hl (by decide) rfl (fun ls hl => ?_)
        refine lv_iinc (v := nI (i + 1)) (lv' := [(4, .int (nI (i + 1))), (3, .int (nI (crcB B (i + 1)))), (0, .long (lN B)), (2, .int (nI n))]) hx hb dX3_checkedOctetsOf_30 hl (k := 3) rfl (nI_add _ 1) (by decide) rfl (fun ls hl => ?_)
        refine lv_goto (tgt := 7) hx hb dX3_checkedOctetsOf_33 (by decide) ?_
        exact ih (i + 1) (by omega) (by omega) _ _ _  hH (lv_sub hl [2, 3, 1, 0] rfl)
  exact lp_7 ((n - 0) + 1) 0 (Nat.zero_le _) (Nat.lt_succ_self _) _ _ _  hH (lv_sub hl [2, 3, 1, 0] rfl)

set_option maxHeartbeats 4000000 in
set_option maxRecDepth 100000 in
theorem c_X8_beginsWithOctets (l : Launch) (X : hp_X) {μ : hp_M} {nx : Nat} {r b room size : Nat} {rb : Nat → Nat} {n : Nat} (h01 : ∀ j, rb j < 2) (hr1 : room < 2 ^ 30) (hn1 : n < 2 ^ 20) (hs1 : size ≤ room) (f_r : μ r = some (hp_o 4 [.ref b, .int (nI size)])) (f_b : μ b = some (hp_n X room rb)) : Ct l X yX8_beginsWithOctets cX8_beginsWithOctets 3 (some FieldType.boolean) 1 40 0 0 [.ref r, .int (nI n)] μ nx (hq_i X (po_i nx (nB (begN rb size n)) (fun z => z = μ))) := by
  refine hp_met (by decide) (Nat.le_of_ble_eq_true rfl) ?_
  intro p e s m below meth c ls hx hb hml hr hlocks hown hin hS hH hl
  have hl : lv_has ls 3 [(0, .ref r), (1, .int (nI n))] := hl
  refine lv_iconst (v := nI 0) hx hb dX8_beginsWithOctets_0 (by decide) ?_
  refine lv_istore_n (lv' := [(2, .int (nI 0)), (0, .ref r), (1, .int (nI n))]) hx hb dX8_beginsWithOctets_1 rfl hl (by decide) rfl (fun ls hl => ?_)
  have lp_2 : ∀ (kk : Nat) (i : Nat), (i ≤ n) → (begN rb size i = true) → (n - i) < kk → ∀ (H : Heap) (locs : List Loc) (ls : Array Slot), hp_w X cls μ nx H locs → lv_has ls 3 [(0, .ref r), (1, .int (nI n)), (2, .int (nI i))] → W p l e { frames := 1, cells := 0, slots := 0, locals := 40 } s m [.ref r, .int (nI n)].toArray below meth c H locs 0 0 (MQ below (hq_i X (po_i nx (nB (begN rb size n)) (fun z => z = μ))) [.ref r, .int (nI n)].toArray s 0 0 (hp_A X)) (F0 m 2 ls []) := by
    intro kk
    induction kk with
    | zero =>
      intro i hi hbg hkk
      exact absurd hkk (Nat.not_lt_zero _)
    | succ kk ih =>
      intro i hi hbg hkk H locs ls  hH hl
      refine lv_iload_n hx hb dX8_beginsWithOctets_2 rfl (lv_at hl 2 rfl) ?_
      refine lv_iload_n hx hb dX8_beginsWithOctets_3 rfl (lv_at hl 1 rfl) ?_
      refine lv_icmp_ge (tgt := 33) hx hb dX8_beginsWithOctets_4 (by decide) (fun c_4 => ?_) (fun c_4 => ?_)
      · have c_4 : n ≤ i := (nI_leI (by omega) (by omega)).mp c_4
        refine lv_iconst (v := nI 1) hx hb dX8_beginsWithOctets_33 (by decide) ?_
        refine hp_eqi (z := nB true) (by decide) ?_
        exact hp_rz hx hb hr hlocks hS hH (nB_nar _) (⟨rfl, congrArg nB (by rw [← hbg, show i = n by omega]), rfl⟩) dX8_beginsWithOctets_34
      · have c_4 : ¬ (n ≤ i) := fun z => c_4 ((nI_leI (by omega) (by omega)).mpr z)
        refine lv_aload_n hx hb dX8_beginsWithOctets_7 rfl (lv_at hl 0 rfl) ?_
        refine lv_bipush (v := nI 9) hx hb dX8_beginsWithOctets_8 (by decide) ?_
        refine lv_iload_n hx hb dX8_beginsWithOctets_10 rfl (lv_at hl 2 rfl) ?_
        refine lv_imul hx hb dX8_beginsWithOctets_11 ?_
        refine hp_eqi (z := nI (9 * i)) (pk_mul _ _) ?_
        refine lv_bipush (v := nI 9) hx hb dX8_beginsWithOctets_12 (by decide) ?_
        refine hp_kip (hp_runV (As := [.int (nI (9 * i)), .int (nI 9)]) (rest := []) hx hb hml hown hS hH (c_X8_valueAt l X (fm := 9 * i) (n := 9) h01 hr1 (by omega) (by omega) hs1 f_r f_b) M_X8_37 I_X8_valueAt V_X8_valueAt (ci := 4) rfl rfl f_r rfl hl.1 rfl (Nat.le_of_ble_eq_true rfl) dX8_beginsWithOctets_14 ⟨Nat.le_of_ble_eq_true rfl, Nat.le_of_ble_eq_true rfl⟩ ⟨Nat.le_of_ble_eq_true rfl, Nat.le_of_ble_eq_true rfl⟩) hH (fun H locs hH => ?_)
        refine hp_kip (hp_runS (As := [.int (nI (valN rb size (9 * i) 9))]) (rest := []) hx hb hml hown hS hH (c_J6_bitCount_0f7a4 l X (v := valN rb size (9 * i) 9) (valN_lt h01 _ _ 9)) M_X8_41 S_J6_bitCount_0f7a4 rfl hl.1 rfl (Nat.le_of_ble_eq_true rfl) dX8_beginsWithOctets_17 ⟨Nat.le_of_ble_eq_true rfl, Nat.le_of_ble_eq_true rfl⟩ ⟨Nat.le_of_ble_eq_true rfl, Nat.le_of_ble_eq_true rfl⟩) hH (fun H locs hH => ?_)
        have hpo := popN_le 9 (valN rb size (9 * i) 9)
        refine lv_iconst (v := nI 2) hx hb dX8_beginsWithOctets_20 (by decide) ?_
        refine lv_irem hx hb dX8_beginsWithOctets_21 (nI_ne0 (by omega) (by omega)) ?_
        refine hp_eqi (z := nI ((popN 9 (valN rb size (9 * i) 9)) % 2)) (pk_rem (by omega) (by omega) (by omega)) ?_
        refine lv_if_ne (tgt := 27) hx hb dX8_beginsWithOctets_22 (by decide) (fun c_22 => ?_) (fun c_22 => ?_)
        · have c_22 : ¬ ((popN 9 (valN rb size (9 * i) 9)) % 2 = 0) := nz_n (by omega) c_22
          refine lv_iinc (v := nI (i + 1)) (lv' := [(2, .int (nI (i + 1))), (0, .ref r), (1, .int (nI n))]) hx hb dX8_beginsWithOctets_27 hl (k := 2) rfl (nI_add _ 1) (by decide) rfl (fun ls hl => ?_)
          refine lv_goto (tgt := 2) hx hb dX8_beginsWithOctets_30 (by decide) ?_
          exact ih (i + 1) (by omega) (by simp only [begN, hbg, Bool.true_and, decide_eq_true_eq]; omega) (by omega) _ _ _  hH (lv_sub hl [1, 2, 0] rfl)
        · have c_22 : ((popN 9 (valN rb size (9 * i) 9)) % 2) = 0 := nz_0 (by omega) c_22
          refine lv_iconst (v := nI 0) hx hb dX8_beginsWithOctets_25 (by decide) ?_
          refine hp_eqi (z := nB false) (by decide) ?_
          exact hp_rz hx hb hr hlocks hS hH (nB_nar _) (⟨rfl, congrArg nB (Eq.symm (begN_false (i := i + 1) (by simp only [begN, hbg, Bool.true_and]; simp [c_22]) n (by omega))), rfl⟩) dX8_beginsWithOctets_26
  exact lp_2 ((n - 0) + 1) 0 (Nat.zero_le _) rfl (Nat.lt_succ_self _) _ _ _  hH (lv_sub hl [1, 2, 0] rfl)

set_option maxHeartbeats 4000000 in
set_option maxRecDepth 100000 in
theorem c_X8_checkOf (l : Launch) (X : hp_X) {μ : hp_M} {nx : Nat} {r b room size : Nat} {rb : Nat → Nat} {n : Nat} (h01 : ∀ j, rb j < 2) (hr1 : room < 2 ^ 30) (hn1 : n < 2 ^ 20) (hs1 : size ≤ room) (f_r : μ r = some (hp_o 4 [.ref b, .int (nI size)])) (f_b : μ b = some (hp_n X room rb)) : Ct l X yX8_checkOf cX8_checkOf 4 (some FieldType.int) 1 40 0 0 [.ref r, .int (nI n)] μ nx (hq_i X (po_i nx (nI (crcN rb size n)) (fun z => z = μ))) := by
  refine hp_met (by decide) (Nat.le_of_ble_eq_true rfl) ?_
  intro p e s m below meth c ls hx hb hml hr hlocks hown hin hS hH hl
  have hl : lv_has ls 4 [(0, .ref r), (1, .int (nI n))] := hl
  refine lv_sipush (v := nI 25443) hx hb dX8_checkOf_0 (by decide) ?_
  refine lv_istore_n (lv' := [(2, .int (nI 25443)), (0, .ref r), (1, .int (nI n))]) hx hb dX8_checkOf_3 rfl hl (by decide) rfl (fun ls hl => ?_)
  refine lv_iconst (v := nI 0) hx hb dX8_checkOf_4 (by decide) ?_
  refine lv_istore_n (lv' := [(3, .int (nI 0)), (2, .int (nI 25443)), (0, .ref r), (1, .int (nI n))]) hx hb dX8_checkOf_5 rfl hl (by decide) rfl (fun ls hl => ?_)
  have lp_6 : ∀ (kk : Nat) (i : Nat), (i ≤ n) → (n - i) < kk → ∀ (H : Heap) (locs : List Loc) (ls : Array Slot), hp_w X cls μ nx H locs → lv_has ls 4 [(0, .ref r), (1, .int (nI n)), (2, .int (nI (crcN rb size i))), (3, .int (nI i))] → W p l e { frames := 1, cells := 0, slots := 0, locals := 40 } s m [.ref r, .int (nI n)].toArray below meth c H locs 0 0 (MQ below (hq_i X (po_i nx (nI (crcN rb size n)) (fun z => z = μ))) [.ref r, .int (nI n)].toArray s 0 0 (hp_A X)) (F0 m 6 ls []) := by
    intro kk
    induction kk with
    | zero =>
      intro i hi hkk
      exact absurd hkk (Nat.not_lt_zero _)
    | succ kk ih =>
      intro i hi hkk H locs ls  hH hl
      refine lv_iload_n hx hb dX8_checkOf_6 rfl (lv_at hl 3 rfl) ?_
      refine lv_iload_n hx hb dX8_checkOf_7 rfl (lv_at hl 1 rfl) ?_
      refine lv_icmp_ge (tgt := 32) hx hb dX8_checkOf_8 (by decide) (fun c_8 => ?_) (fun c_8 => ?_)
      · have c_8 : n ≤ i := (nI_leI (by omega) (by omega)).mp c_8
        refine lv_iload_n hx hb dX8_checkOf_32 rfl (lv_at hl 2 rfl) ?_
        exact hp_ri hx hb hr hlocks hS hH (⟨rfl, by rw [show i = n by omega], rfl⟩) dX8_checkOf_33
      · have c_8 : ¬ (n ≤ i) := fun z => c_8 ((nI_leI (by omega) (by omega)).mpr z)
        refine lv_iload_n hx hb dX8_checkOf_11 rfl (lv_at hl 2 rfl) ?_
        refine lv_aload_n hx hb dX8_checkOf_12 rfl (lv_at hl 0 rfl) ?_
        refine lv_bipush (v := nI 9) hx hb dX8_checkOf_13 (by decide) ?_
        refine lv_iload_n hx hb dX8_checkOf_15 rfl (lv_at hl 3 rfl) ?_
        refine lv_imul hx hb dX8_checkOf_16 ?_
        refine hp_eqi (z := nI (9 * i)) (pk_mul _ _) ?_
        refine lv_bipush (v := nI 8) hx hb dX8_checkOf_17 (by decide) ?_
        refine hp_kip (hp_runV (As := [.int (nI (9 * i)), .int (nI 8)]) (rest := [.int (nI (crcN rb size i))]) hx hb hml hown hS hH (c_X8_valueAt l X (fm := 9 * i) (n := 8) h01 hr1 (by omega) (by omega) hs1 f_r f_b) M_X8_37 I_X8_valueAt V_X8_valueAt (ci := 4) rfl rfl f_r rfl hl.1 rfl (Nat.le_of_ble_eq_true rfl) dX8_checkOf_19 ⟨Nat.le_of_ble_eq_true rfl, Nat.le_of_ble_eq_true rfl⟩ ⟨Nat.le_of_ble_eq_true rfl, Nat.le_of_ble_eq_true rfl⟩) hH (fun H locs hH => ?_)
        refine hp_kip (hp_runS (As := [.int (nI (crcN rb size i)), .int (nI (valN rb size (9 * i) 8))]) (rest := []) hx hb hml hown hS hH (c_X3_checkStep l X (crcN_lt rb size i) (valN_lt h01 _ _ 8)) M_X8_46 S_X3_checkStep rfl hl.1 rfl (Nat.le_of_ble_eq_true rfl) dX8_checkOf_22 ⟨Nat.le_of_ble_eq_true rfl, Nat.le_of_ble_eq_true rfl⟩ ⟨Nat.le_of_ble_eq_true rfl, Nat.le_of_ble_eq_true rfl⟩) hH (fun H locs hH => ?_)
        refine lv_istore_n (lv' := [(2, .int (nI (crcN rb size (i + 1)))), (0, .ref r), (1, .int (nI n)), (3, .int (nI i))]) hx hb dX8_checkOf_25 rfl hl (by decide) rfl (fun ls hl => ?_)
        refine lv_iinc (v := nI (i + 1)) (lv' := [(3, .int (nI (i + 1))), (2, .int (nI (crcN rb size (i + 1)))), (0, .ref r), (1, .int (nI n))]) hx hb dX8_checkOf_26 hl (k := 3) rfl (nI_add _ 1) (by decide) rfl (fun ls hl => ?_)
        refine lv_goto (tgt := 6) hx hb dX8_checkOf_29 (by decide) ?_
        exact ih (i + 1) (by omega) (by omega) _ _ _  hH (lv_sub hl [2, 3, 1, 0] rfl)
  exact lp_6 ((n - 0) + 1) 0 (Nat.zero_le _) (Nat.lt_succ_self _) _ _ _  hH (lv_sub hl [2, 3, 1, 0] rfl)

set_option maxHeartbeats 4000000 in
set_option maxRecDepth 100000 in
theorem c_X8_addOctet (l : Launch) (X : hp_X) {μ : hp_M} {nx : Nat} {r b room size : Nat} {rb : Nat → Nat} {v : Int32} (hr1 : room < 2 ^ 30) (hs1 : size + 9 ≤ room) (f_r : μ r = some (hp_o 4 [.ref b, .int (nI size)])) (f_b : μ b = some (hp_n X room rb)) : Ct l X yX8_addOctet cX8_addOctet 2 (none : Option Jvm.ClassFile.FieldType) 2 80 0 0 [.ref r, .int v] μ nx (hq_v X (po_v nx (fun z => z r = some (hp_o 4 [.ref b, .int (nI (size + 9))]) ∧ z b = some (hp_n X room (apB rb size (nI (octB (byI v))) 9)) ∧ hp_eq [r, b] z μ))) := by
  refine hp_met (by decide) (Nat.le_of_ble_eq_true rfl) ?_
  intro p e s m below meth c ls hx hb hml hr hlocks hown hin hS hH hl
  have hl : lv_has ls 2 [(0, .ref r), (1, .int v)] := hl
  have fr : hp_eq [r, b] μ μ := fun _ _ => rfl
  refine lv_aload_n hx hb dX8_addOctet_0 rfl (lv_at hl 0 rfl) ?_
  refine lv_iload_n hx hb dX8_addOctet_1 rfl (lv_at hl 1 rfl) ?_
  obtain ⟨B, hB, eB, hm⟩ := z_i2l v
  refine lv_i2l hx hb dX8_addOctet_2 rfl ?_
  refine hp_eql (z := lN B) (eB) ?_
  refine lv_iconst (v := nI 1) hx hb dX8_addOctet_3 (by decide) ?_
  refine hp_klp (hp_runS (As := [.long (lN B), .int (nI 1)]) (rest := [.ref r]) hx hb hml hown hS hH (c_X3_octetsOf l X (B := B) (n := 1) hB (by decide)) M_X8_19 S_X3_octetsOf rfl hl.1 rfl (Nat.le_of_ble_eq_true rfl) dX8_addOctet_4 ⟨Nat.le_of_ble_eq_true rfl, Nat.le_of_ble_eq_true rfl⟩ ⟨Nat.le_of_ble_eq_true rfl, Nat.le_of_ble_eq_true rfl⟩) hH (fun H locs hH => ?_)
  refine lv_l2i hx hb dX8_addOctet_7 rfl ?_
  refine hp_eqi (z := nI (octB (byI v))) (by rw [lN_i, ← hm]; simp [octN]) ?_
  refine lv_bipush (v := nI 9) hx hb dX8_addOctet_8 (by decide) ?_
  refine hp_kvm (hp_runV (As := [.int (nI (octB (byI v))), .int (nI 9)]) (rest := []) hx hb hml hown hS hH (c_X8_addBits l X (n := 9) hr1 (by decide) hs1 f_r f_b) M_X8_25 I_X8_addBits V_X8_addBits (ci := 4) rfl rfl f_r rfl hl.1 rfl (Nat.le_of_ble_eq_true rfl) dX8_addOctet_10 ⟨Nat.le_of_ble_eq_true rfl, Nat.le_of_ble_eq_true rfl⟩ ⟨Nat.le_of_ble_eq_true rfl, Nat.le_of_ble_eq_true rfl⟩) hH (fun μ1 H locs hp hH => ?_)
  obtain ⟨fz0, fz1, fe⟩ := hp
  have f_r : μ1 r = some (hp_o 4 [.ref b, .int (nI (size + 9))]) := fz0
  have f_b : μ1 b = some (hp_n X room (apB rb size (nI (octB (byI v))) 9)) := fz1
  have fr := hp_eq.tr2 fe fr (by simp) (by simp)
  clear fe fz0 fz1
  exact hp_rv hx hb hr hlocks hS hH (⟨rfl, f_r, f_b, fr⟩) dX8_addOctet_13

set_option maxHeartbeats 4000000 in
set_option maxRecDepth 100000 in
theorem c_X8_addCheck (l : Launch) (X : hp_X) {μ : hp_M} {nx : Nat} {r b room size : Nat} {rb : Nat → Nat} (h01 : ∀ j, rb j < 2) (hr1 : room < 2 ^ 20) (hs1 : size + 18 ≤ room) (f_r : μ r = some (hp_o 4 [.ref b, .int (nI size)])) (f_b : μ b = some (hp_n X room rb)) : Ct l X yX8_addCheck cX8_addCheck 2 (none : Option Jvm.ClassFile.FieldType) 3 120 0 0 [.ref r] μ nx (hq_v X (po_v nx (fun z => z r = some (hp_o 4 [.ref b, .int (nI (size + 9 + 9))]) ∧ z b = some (hp_n X room (apB (apB rb size (nI (octB (crcN rb size (size / 9) % 256))) 9) (size + 9) (nI (octB (crcN rb size (size / 9) / 256))) 9)) ∧ hp_eq [r, b] z μ))) := by
  refine hp_met (by decide) (Nat.le_of_ble_eq_true rfl) ?_
  intro p e s m below meth c ls hx hb hml hr hlocks hown hin hS hH hl
  have hl : lv_has ls 2 [(0, .ref r)] := hl
  have fr : hp_eq [r, b] μ μ := fun _ _ => rfl
  have hr1 : room < 2 ^ 30 := by omega
  refine lv_aload_n hx hb dX8_addCheck_0 rfl (lv_at hl 0 rfl) ?_
  refine lv_aload_n hx hb dX8_addCheck_1 rfl (lv_at hl 0 rfl) ?_
  refine hp_get hx hb hown hS.2.1 hH (F_X8_15.use hS) f_r rfl dX8_addCheck_2 ?_
  refine lv_bipush (v := nI 9) hx hb dX8_addCheck_5 (by decide) ?_
  refine lv_idiv hx hb dX8_addCheck_7 (nI_ne0 (by omega) (by omega)) ?_
  refine hp_eqi (z := nI (size / 9)) (pk_div (by omega) (by omega) (by omega)) ?_
  refine hp_kip (hp_runV (As := [.int (nI (size / 9))]) (rest := []) hx hb hml hown hS hH (c_X8_checkOf l X (n := size / 9) h01 hr1 (by omega) (by omega) f_r f_b) M_X8_29 I_X8_checkOf V_X8_checkOf (ci := 4) rfl rfl f_r rfl hl.1 rfl (Nat.le_of_ble_eq_true rfl) dX8_addCheck_8 ⟨Nat.le_of_ble_eq_true rfl, Nat.le_of_ble_eq_true rfl⟩ ⟨Nat.le_of_ble_eq_true rfl, Nat.le_of_ble_eq_true rfl⟩) hH (fun H locs hH => ?_)
  have hcl := crcN_lt rb size (size / 9)
  refine lv_istore_n (lv' := [(1, .int (nI (crcN rb size (size / 9)))), (0, .ref r)]) hx hb dX8_addCheck_11 rfl hl (by decide) rfl (fun ls hl => ?_)
  refine lv_aload_n hx hb dX8_addCheck_12 rfl (lv_at hl 1 rfl) ?_
  refine lv_iload_n hx hb dX8_addCheck_13 rfl (lv_at hl 0 rfl) ?_
  refine hp_kvm (hp_runV (As := [.int (nI (crcN rb size (size / 9)))]) (rest := []) hx hb hml hown hS hH (c_X8_addOctet l X hr1 (by omega) f_r f_b) M_X8_33 I_X8_addOctet V_X8_addOctet (ci := 4) rfl rfl f_r rfl hl.1 rfl (Nat.le_of_ble_eq_true rfl) dX8_addCheck_14 ⟨Nat.le_of_ble_eq_true rfl, Nat.le_of_ble_eq_true rfl⟩ ⟨Nat.le_of_ble_eq_true rfl, Nat.le_of_ble_eq_true rfl⟩) hH (fun μ1 H locs hp hH => ?_)
  obtain ⟨fz0, fz1, fe⟩ := hp
  have f_r : μ1 r = some (hp_o 4 [.ref b, .int (nI (size + 9))]) := fz0
  have f_b : μ1 b = some (hp_n X room (apB rb size (nI (octB (byI (nI (crcN rb size (size / 9)))))) 9)) := fz1
  have fr := hp_eq.tr2 fe fr (by simp) (by simp)
  clear fe fz0 fz1
  have f_b := f_b.trans (congrArg (fun g => some (hp_n X room g)) (show apB rb size (nI (octB (byI (nI (crcN rb size (size / 9)))))) 9 = apB rb size (nI (octB (crcN rb size (size / 9) % 256))) 9 from by rw [byI_n (by omega)]))
  refine lv_aload_n hx hb dX8_addCheck_17 rfl (lv_at hl 1 rfl) ?_
  refine lv_iload_n hx hb dX8_addCheck_18 rfl (lv_at hl 0 rfl) ?_
  refine lv_bipush (v := nI 8) hx hb dX8_addCheck_19 (by decide) ?_
  refine lv_iushr hx hb dX8_addCheck_21 rfl ?_
  refine hp_eqi (z := nI (crcN rb size (size / 9) / 256)) (pk_ushrN (by omega) _ 8 (by decide)) ?_
  refine hp_kvm (hp_runV (As := [.int (nI (crcN rb size (size / 9) / 256))]) (rest := []) hx hb hml hown hS hH (c_X8_addOctet l X hr1 (by omega) f_r f_b) M_X8_33 I_X8_addOctet V_X8_addOctet (ci := 4) rfl rfl f_r rfl hl.1 rfl (Nat.le_of_ble_eq_true rfl) dX8_addCheck_22 ⟨Nat.le_of_ble_eq_true rfl, Nat.le_of_ble_eq_true rfl⟩ ⟨Nat.le_of_ble_eq_true rfl, Nat.le_of_ble_eq_true rfl⟩) hH (fun μ1 H locs hp hH => ?_)
  obtain ⟨fz0, fz1, fe⟩ := hp
  have f_r : μ1 r = some (hp_o 4 [.ref b, .int (nI (size + 9 + 9))]) := fz0
  have f_b : μ1 b = some (hp_n X room (apB (apB rb size (nI (octB (crcN rb size (size / 9) % 256))) 9) (size + 9) (nI (octB (byI (nI (crcN rb size (size / 9) / 256))))) 9)) := fz1
  have fr := hp_eq.tr2 fe fr (by simp) (by simp)
  clear fe fz0 fz1
  have f_b := f_b.trans (congrArg (fun g => some (hp_n X room g)) (show apB (apB rb size (nI (octB (crcN rb size (size / 9) % 256))) 9) (size + 9) (nI (octB (byI (nI (crcN rb size (size / 9) / 256))))) 9 = apB (apB rb size (nI (octB (crcN rb size (size / 9) % 256))) 9) (size + 9) (nI (octB (crcN rb size (size / 9) / 256))) 9 from by rw [show byI (nI (crcN rb size (size / 9) / 256)) = crcN rb size (size / 9) / 256 from by rw [byI_n (by omega)]; omega]))
  exact hp_rv hx hb hr hlocks hS hH (⟨rfl, f_r, f_b, fr⟩) dX8_addCheck_25

set_option maxHeartbeats 4000000 in
set_option maxRecDepth 100000 in
theorem c_X8_init (l : Launch) (X : hp_X) {μ : hp_M} {nx : Nat} {r room : Nat} (hr1 : room < 2 ^ 20) (f_r : μ r = some (hp_o 4 [.null, .int (nI 0)])) : Ct l X yX8_init cX8_init 2 (none : Option Jvm.ClassFile.FieldType) 1 40 1 room [.ref r, .int (nI room)] μ nx (hq_v X (po_v (nx + 1) (fun z => z r = some (hp_o 4 [.ref nx, .int (nI 0)]) ∧ z nx = some (hp_n X room (fun _ => 0)) ∧ hp_eq [r, nx] z μ))) := by
  refine hp_met (by decide) (Nat.le_of_ble_eq_true rfl) ?_
  intro p e s m below meth c ls hx hb hml hr hlocks hown hin hS hH hl
  have hl : lv_has ls 2 [(0, .ref r), (1, .int (nI room))] := hl
  have fr : hp_eq [r, nx] μ μ := fun _ _ => rfl
  have hlt_r := hH.lt f_r
  refine lv_aload_n hx hb dX8_init_0 rfl (lv_at hl 0 rfl) ?_
  refine hp_obj hx hb hml hown hS ol_X8_3 hl.1 dX8_init_1 (Nat.le_of_ble_eq_true rfl) (Nat.le_of_ble_eq_true rfl) (Nat.le_of_ble_eq_true rfl) ?_
  refine lv_aload_n hx hb dX8_init_4 rfl (lv_at hl 0 rfl) ?_
  refine lv_iload_n hx hb dX8_init_5 rfl (lv_at hl 1 rfl) ?_
  have hO := hH
  refine hp_newi hx hb (hS.1 _ wi_88 _) hS.ni hH (nI_pos (by omega)) (nI_clamp (by omega)) (by omega) (Nat.le_of_ble_eq_true rfl) (by show 0 + room ≤ room; omega) dX8_init_6 (fun H μ1 fz fn hH => ?_)
  have f_r := (fn _ (Nat.ne_of_lt (hO.lt f_r))).trans f_r
  have f_n0 : μ1 nx = some (hp_n X room (fun _ => 0)) := fz
  have fr := hp_eq.put fr (by simp) fn
  clear fz fn hO
  refine hp_putF hx hb hown hS.2.1 hH (P_X8_9.use hS) hin f_r rfl rfl (Nat.le_of_ble_eq_true rfl) dX8_init_8 (fun H locs μ1 fz fn hH => ?_)
  have f_n0 := (fn _ (by omega)).trans f_n0
  have f_r : μ1 r = some (hp_o 4 [.ref nx, .int (nI 0)]) := fz
  have fr := hp_eq.put fr (by simp) fn
  clear fz fn
  refine W.widen (k := 1) (n := room) (by omega) (by omega) ?_
  exact hp_rv hx hb hr hlocks hS hH (⟨rfl, f_r, f_n0, fr⟩) dX8_init_11
