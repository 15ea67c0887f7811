set_option maxHeartbeats 4000000 in
set_option maxRecDepth 100000 in
theorem c_X9_numberByte (l : Launch) (X : hp_X) {μ : hp_M} {nx : Nat} {k : Nat} {a b c1 : Int32} (hk : k < 12)  : Ct l X yX9_numberByte cX9_numberByte 5 (some FieldType.int) 0 0 0 0 [.int (nI k), .int a, .int b, .int c1] μ nx (hq_i X (po_i nx (nI (nbN a b c1 k)) (fun z => z = μ))) := by
  refine hp_met (by decide) (Nat.le_of_ble_eq_true rfl) ?_
  intro p e s m below meth c ls hx hb hml hr hlocks hown hin hS hH hl
  have hl : lv_has ls 5 [(0, .int (nI k)), (1, .int a), (2, .int b), (3, .int c1)] := hl
  refine lv_iload_n hx hb dX9_numberByte_0 rfl (lv_at hl 0 rfl) ?_
  refine lv_iconst (v := nI 4) hx hb dX9_numberByte_1 (by decide) ?_
  refine lv_icmp_ge (tgt := 9) hx hb dX9_numberByte_2 (by decide) (fun c_2 => ?_) (fun c_2 => ?_)
  · have c_2 : 4 ≤ k := (nI_leI (by omega) (by omega)).mp c_2
    have c_2 : ¬ k < 4 := by omega
    refine lv_iload_n hx hb dX9_numberByte_9 rfl (lv_at hl 0 rfl) ?_
    refine lv_bipush (v := nI 8) hx hb dX9_numberByte_10 (by decide) ?_
    refine lv_icmp_ge (tgt := 19) hx hb dX9_numberByte_12 (by decide) (fun c_12 => ?_) (fun c_12 => ?_)
    · have c_12 : 8 ≤ k := (nI_leI (by omega) (by omega)).mp c_12
      have c_12 : ¬ k < 8 := by omega
      refine lv_iload_n hx hb dX9_numberByte_19 rfl (lv_at hl 3 rfl) ?_
      refine lv_istore (lv' := [(4, .int c1), (0, .int (nI k)), (1, .int a), (2, .int b), (3, .int c1)]) hx hb dX9_numberByte_20 hl (by decide) rfl (fun ls hl => ?_)
      refine lv_iload hx hb dX9_numberByte_22 (lv_at hl 0 rfl) ?_
      refine lv_bipush (v := nI 24) hx hb dX9_numberByte_24 (by decide) ?_
      refine lv_bipush (v := nI 8) hx hb dX9_numberByte_26 (by decide) ?_
      refine lv_iload_n hx hb dX9_numberByte_28 rfl (lv_at hl 1 rfl) ?_
      refine lv_iconst (v := nI 4) hx hb dX9_numberByte_29 (by decide) ?_
      refine lv_irem hx hb dX9_numberByte_30 (nI_ne0 (by omega) (by omega)) ?_
      refine hp_eqi (z := nI (k % 4)) (pk_rem (by omega) (by omega) (by omega)) ?_
      refine lv_imul hx hb dX9_numberByte_31 ?_
      refine hp_eqi (z := nI (8 * (k % 4))) (pk_mul _ _) ?_
      refine lv_isub hx hb dX9_numberByte_32 ?_
      refine hp_eqi (z := nI (24 - (8 * (k % 4)))) (pk_sub (by omega)) ?_
      refine lv_iushr hx hb dX9_numberByte_33 rfl ?_
      refine lv_sipush (v := nI 255) hx hb dX9_numberByte_34 (by decide) ?_
      refine lv_iand hx hb dX9_numberByte_37 ?_
      refine hp_eqi (z := nI (c1.toBitVec.toNat / 2 ^ (24 - 8 * (k % 4)) % 256)) (z_byte (by omega)) ?_
      exact hp_ri hx hb hr hlocks hS hH (⟨rfl, congrArg nI (Eq.symm (by unfold nbN; rw [if_neg c_2, if_neg c_12])), rfl⟩) dX9_numberByte_38
    · have c_12 : ¬ (8 ≤ k) := fun z => c_12 ((nI_leI (by omega) (by omega)).mpr z)
      have c_12 : k < 8 := by omega
      refine lv_iload_n hx hb dX9_numberByte_15 rfl (lv_at hl 2 rfl) ?_
      refine lv_goto (tgt := 20) hx hb dX9_numberByte_16 (by decide) ?_
      refine lv_istore (lv' := [(4, .int b), (0, .int (nI k)), (1, .int a), (2, .int b), (3, .int c1)]) hx hb dX9_numberByte_20 hl (by decide) rfl (fun ls hl => ?_)
      refine lv_iload hx hb dX9_numberByte_22 (lv_at hl 0 rfl) ?_
      refine lv_bipush (v := nI 24) hx hb dX9_numberByte_24 (by decide) ?_
      refine lv_bipush (v := nI 8) hx hb dX9_numberByte_26 (by decide) ?_
      refine lv_iload_n hx hb dX9_numberByte_28 rfl (lv_at hl 1 rfl) ?_
      refine lv_iconst (v := nI 4) hx hb dX9_numberByte_29 (by decide) ?_
      refine lv_irem hx hb dX9_numberByte_30 (nI_ne0 (by omega) (by omega)) ?_
      refine hp_eqi (z := nI (k % 4)) (pk_rem (by omega) (by omega) (by omega)) ?_
      refine lv_imul hx hb dX9_numberByte_31 ?_
      refine hp_eqi (z := nI (8 * (k % 4))) (pk_mul _ _) ?_
      refine lv_isub hx hb dX9_numberByte_32 ?_
      refine hp_eqi (z := nI (24 - (8 * (k % 4)))) (pk_sub (by omega)) ?_
      refine lv_iushr hx hb dX9_numberByte_33 rfl ?_
      refine lv_sipush (v := nI 255) hx hb dX9_numberByte_34 (by decide) ?_
      refine lv_iand hx hb dX9_numberByte_37 ?_
      refine hp_eqi (z := nI (b.toBitVec.toNat / 2 ^ (24 - 8 * (k % 4)) % 256)) (z_byte (by omega)) ?_
      exact hp_ri hx hb hr hlocks hS hH (⟨rfl, congrArg nI (Eq.symm (by unfold nbN; rw [if_neg c_2, if_pos c_12])), rfl⟩) dX9_numberByte_38
  · have c_2 : ¬ (4 ≤ k) := fun z => c_2 ((nI_leI (by omega) (by omega)).mpr z)
    have c_2 : k < 4 := by omega
    refine lv_iload_n hx hb dX9_numberByte_5 rfl (lv_at hl 1 rfl) ?_
    refine lv_goto (tgt := 20) hx hb dX9_numberByte_6 (by decide) ?_
    refine lv_istore (lv' := [(4, .int a), (0, .int (nI k)), (1, .int a), (2, .int b), (3, .int c1)]) hx hb dX9_numberByte_20 hl (by decide) rfl (fun ls hl => ?_)
    refine lv_iload hx hb dX9_numberByte_22 (lv_at hl 0 rfl) ?_
    refine lv_bipush (v := nI 24) hx hb dX9_numberByte_24 (by decide) ?_
    refine lv_bipush (v := nI 8) hx hb dX9_numberByte_26 (by decide) ?_
    refine lv_iload_n hx hb dX9_numberByte_28 rfl (lv_at hl 1 rfl) ?_
    refine lv_iconst (v := nI 4) hx hb dX9_numberByte_29 (by decide) ?_
    refine lv_irem hx hb dX9_numberByte_30 (nI_ne0 (by omega) (by omega)) ?_
    refine hp_eqi (z := nI (k % 4)) (pk_rem (by omega) (by omega) (by omega)) ?_
    refine lv_imul hx hb dX9_numberByte_31 ?_
    refine hp_eqi (z := nI (8 * (k % 4))) (pk_mul _ _) ?_
    refine lv_isub hx hb dX9_numberByte_32 ?_
    refine hp_eqi (z := nI (24 - (8 * (k % 4)))) (pk_sub (by omega)) ?_
    refine lv_iushr hx hb dX9_numberByte_33 rfl ?_
    refine lv_sipush (v := nI 255) hx hb dX9_numberByte_34 (by decide) ?_
    refine lv_iand hx hb dX9_numberByte_37 ?_
    refine hp_eqi (z := nI (a.toBitVec.toNat / 2 ^ (24 - 8 * (k % 4)) % 256)) (z_byte (by omega)) ?_
    exact hp_ri hx hb hr hlocks hS hH (⟨rfl, congrArg nI (Eq.symm (by unfold nbN; rw [if_pos c_2])), rfl⟩) dX9_numberByte_38

set_option maxHeartbeats 4000000 in
set_option maxRecDepth 100000 in
theorem c_X9_shownAt_true (l : Launch) (X : hp_X) {μ : hp_M} {nx : Nat} {i : Nat} {a b c1 : Int32} (hi : i < 3)  : Ct l X yX9_shownAt cX9_shownAt 10 (some FieldType.long) 1 40 0 0 [.int (nI i), .int (nB true), .int a, .int b, .int c1] μ nx (hq_l X (po_l nx (lN (shV (shF a b c1 i true))) (fun z => z = μ))) := by
  refine hp_met (by decide) (Nat.le_of_ble_eq_true rfl) ?_
  intro p e s m below meth c ls hx hb hml hr hlocks hown hin hS hH hl
  have hl : lv_has ls 10 [(0, .int (nI i)), (1, .int (nB true)), (2, .int a), (3, .int b), (4, .int c1)] := hl
  refine lv_iload_n hx hb dX9_shownAt_0 rfl (lv_at hl 1 rfl) ?_
  refine lv_if_eq (tgt := 8) hx hb dX9_shownAt_1 (by decide) (fun c_1 => ?_) (fun c_1 => ?_)
  · exact absurd c_1 (by decide)
  · have c_1 : true = true := nB_n c_1
    refine lv_lconst (v := lN 0) hx hb dX9_shownAt_4 rfl ?_
    refine lv_goto (tgt := 11) hx hb dX9_shownAt_5 (by decide) ?_
    refine lv_lstore (lv' := [(5, .long (lN 0)), (0, .int (nI i)), (1, .int (nB true)), (2, .int a), (3, .int b), (4, .int c1)]) hx hb dX9_shownAt_11 hl (by decide) rfl (fun ls hl => ?_)
    refine lv_iload_n hx hb dX9_shownAt_13 rfl (lv_at hl 2 rfl) ?_
    refine lv_if_eq (tgt := 21) hx hb dX9_shownAt_14 (by decide) (fun c_14 => ?_) (fun c_14 => ?_)
    · exact absurd c_14 (by decide)
    · have c_14 : true = true := nB_n c_14
      refine lv_iconst (v := nI 0) hx hb dX9_shownAt_17 (by decide) ?_
      refine lv_goto (tgt := 22) hx hb dX9_shownAt_18 (by decide) ?_
      refine lv_istore (lv' := [(7, .int (nI 0)), (5, .long (lN 0)), (0, .int (nI i)), (1, .int (nB true)), (2, .int a), (3, .int b), (4, .int c1)]) hx hb dX9_shownAt_22 hl (by decide) rfl (fun ls hl => ?_)
      refine lv_iconst (v := nI 0) hx hb dX9_shownAt_24 (by decide) ?_
      refine lv_istore (lv' := [(8, .int (nI 0)), (7, .int (nI 0)), (5, .long (lN 0)), (0, .int (nI i)), (1, .int (nB true)), (2, .int a), (3, .int b), (4, .int c1)]) hx hb dX9_shownAt_25 hl (by decide) rfl (fun ls hl => ?_)
      refine lv_iload hx hb dX9_shownAt_27 (lv_at hl 1 rfl) ?_
      refine lv_iload hx hb dX9_shownAt_29 (lv_at hl 0 rfl) ?_
      refine lv_iadd hx hb dX9_shownAt_31 ?_
      refine hp_eqi (z := nI 0) (nI_add _ _) ?_
      refine lv_iconst (v := nI 4) hx hb dX9_shownAt_32 (by decide) ?_
      refine lv_icmp_ge (tgt := 70) hx hb dX9_shownAt_33 (by decide) (fun c_33 => ?_) (fun c_33 => ?_)
      · exact absurd c_33 (by decide)
      · have c_33 : ¬ (4 ≤ 0) := fun z => c_33 ((nI_leI (by omega) (by omega)).mpr z)
        refine lv_lload hx hb dX9_shownAt_36 (lv_at hl 2 rfl) ?_
        refine lv_iconst (v := nI 3) hx hb dX9_shownAt_38 (by decide) ?_
        refine lv_iload_n hx hb dX9_shownAt_39 rfl (lv_at hl 3 rfl) ?_
        refine lv_imul hx hb dX9_shownAt_40 ?_
        refine hp_eqi (z := nI (3 * i)) (pk_mul _ _) ?_
        refine lv_iload hx hb dX9_shownAt_41 (lv_at hl 0 rfl) ?_
        refine lv_iadd hx hb dX9_shownAt_43 ?_
        refine hp_eqi (z := nI ((3 * i) + 0)) (nI_add _ _) ?_
        refine lv_iload_n hx hb dX9_shownAt_44 rfl (lv_at hl 5 rfl) ?_
        refine lv_iload_n hx hb dX9_shownAt_45 rfl (lv_at hl 6 rfl) ?_
        refine lv_iload hx hb dX9_shownAt_46 (lv_at hl 7 rfl) ?_
        refine hp_kip (hp_runS (As := [.int (nI ((3 * i) + 0)), .int a, .int b, .int c1]) (rest := [.long (lN 0)]) hx hb hml hown hS hH (c_X9_numberByte l X (k := 3 * i + 0) (a := a) (b := b) (c1 := c1) (by omega)) M_X9_35 S_X9_numberByte rfl hl.1 rfl (Nat.le_of_ble_eq_true rfl) dX9_shownAt_48 ⟨Nat.le_of_ble_eq_true rfl, Nat.le_of_ble_eq_true rfl⟩ ⟨Nat.le_of_ble_eq_true rfl, Nat.le_of_ble_eq_true rfl⟩) hH (fun H locs hH => ?_)
        have hb0 := nbN_lt a b c1 (3 * i + 0)
        refine lv_i2l hx hb dX9_shownAt_51 rfl ?_
        refine hp_eql (z := lN (nbN a b c1 (3 * i + 0))) (nI_l (by omega)) ?_
        refine lv_bipush (v := nI 8) hx hb dX9_shownAt_52 (by decide) ?_
        refine lv_iload hx hb dX9_shownAt_54 (lv_at hl 1 rfl) ?_
        refine lv_iload hx hb dX9_shownAt_56 (lv_at hl 0 rfl) ?_
        refine lv_iadd hx hb dX9_shownAt_58 ?_
        refine hp_eqi (z := nI 0) (nI_add _ _) ?_
        refine lv_imul hx hb dX9_shownAt_59 ?_
        refine hp_eqi (z := nI 0) (pk_mul _ _) ?_
        refine lv_lshl hx hb dX9_shownAt_60 rfl ?_
        refine hp_eql (z := lN (nbN a b c1 (3 * i + 0) * 1)) (wb_shl _ (by decide)) ?_
        refine lv_lor hx hb dX9_shownAt_61 ?_
        refine hp_eql (z := lN (nbN a b c1 (3 * i + 0))) ((g_or' (k := 0) (p := 1) (by decide) (by decide) (by omega)).trans (by rw [Nat.zero_add, Nat.mul_one])) ?_
        refine lv_lstore (lv' := [(5, .long (lN (nbN a b c1 (3 * i + 0)))), (8, .int (nI 0)), (7, .int (nI 0)), (0, .int (nI i)), (1, .int (nB true)), (2, .int a), (3, .int b), (4, .int c1)]) hx hb dX9_shownAt_62 hl (by decide) rfl (fun ls hl => ?_)
        refine lv_iinc (v := nI 1) (lv' := [(8, .int (nI 1)), (5, .long (lN (nbN a b c1 (3 * i + 0)))), (7, .int (nI 0)), (0, .int (nI i)), (1, .int (nB true)), (2, .int a), (3, .int b), (4, .int c1)]) hx hb dX9_shownAt_64 hl (k := 1) rfl (nI_add _ 1) (by decide) rfl (fun ls hl => ?_)
        refine lv_goto (tgt := 27) hx hb dX9_shownAt_67 (by decide) ?_
        refine lv_iload hx hb dX9_shownAt_27 (lv_at hl 2 rfl) ?_
        refine lv_iload hx hb dX9_shownAt_29 (lv_at hl 0 rfl) ?_
        refine lv_iadd hx hb dX9_shownAt_31 ?_
        refine hp_eqi (z := nI 1) (nI_add _ _) ?_
        refine lv_iconst (v := nI 4) hx hb dX9_shownAt_32 (by decide) ?_
        refine lv_icmp_ge (tgt := 70) hx hb dX9_shownAt_33 (by decide) (fun c_33 => ?_) (fun c_33 => ?_)
        · exact absurd c_33 (by decide)
        · have c_33 : ¬ (4 ≤ 1) := fun z => c_33 ((nI_leI (by omega) (by omega)).mpr z)
          refine lv_lload hx hb dX9_shownAt_36 (lv_at hl 1 rfl) ?_
          refine lv_iconst (v := nI 3) hx hb dX9_shownAt_38 (by decide) ?_
          refine lv_iload_n hx hb dX9_shownAt_39 rfl (lv_at hl 3 rfl) ?_
          refine lv_imul hx hb dX9_shownAt_40 ?_
          refine hp_eqi (z := nI (3 * i)) (pk_mul _ _) ?_
          refine lv_iload hx hb dX9_shownAt_41 (lv_at hl 0 rfl) ?_
          refine lv_iadd hx hb dX9_shownAt_43 ?_
          refine hp_eqi (z := nI ((3 * i) + 1)) (nI_add _ _) ?_
          refine lv_iload_n hx hb dX9_shownAt_44 rfl (lv_at hl 5 rfl) ?_
          refine lv_iload_n hx hb dX9_shownAt_45 rfl (lv_at hl 6 rfl) ?_
          refine lv_iload hx hb dX9_shownAt_46 (lv_at hl 7 rfl) ?_
          refine hp_kip (hp_runS (As := [.int (nI ((3 * i) + 1)), .int a, .int b, .int c1]) (rest := [.long (lN (nbN a b c1 (3 * i + 0)))]) hx hb hml hown hS hH (c_X9_numberByte l X (k := 3 * i + 1) (a := a) (b := b) (c1 := c1) (by omega)) M_X9_35 S_X9_numberByte rfl hl.1 rfl (Nat.le_of_ble_eq_true rfl) dX9_shownAt_48 ⟨Nat.le_of_ble_eq_true rfl, Nat.le_of_ble_eq_true rfl⟩ ⟨Nat.le_of_ble_eq_true rfl, Nat.le_of_ble_eq_true rfl⟩) hH (fun H locs hH => ?_)
          have hb1 := nbN_lt a b c1 (3 * i + 1)
          refine lv_i2l hx hb dX9_shownAt_51 rfl ?_
          refine hp_eql (z := lN (nbN a b c1 (3 * i + 1))) (nI_l (by omega)) ?_
          refine lv_bipush (v := nI 8) hx hb dX9_shownAt_52 (by decide) ?_
          refine lv_iload hx hb dX9_shownAt_54 (lv_at hl 2 rfl) ?_
          refine lv_iload hx hb dX9_shownAt_56 (lv_at hl 0 rfl) ?_
          refine lv_iadd hx hb dX9_shownAt_58 ?_
          refine hp_eqi (z := nI 1) (nI_add _ _) ?_
          refine lv_imul hx hb dX9_shownAt_59 ?_
          refine hp_eqi (z := nI 8) (pk_mul _ _) ?_
          refine lv_lshl hx hb dX9_shownAt_60 rfl ?_
          refine hp_eql (z := lN (nbN a b c1 (3 * i + 1) * 256)) (wb_shl _ (by decide)) ?_
          refine lv_lor hx hb dX9_shownAt_61 ?_
          refine hp_eql (z := lN (nbN a b c1 (3 * i + 0) + nbN a b c1 (3 * i + 1) * 256)) (g_or' (k := 8) (p := 256) (by decide) (by omega) (by omega)) ?_
          refine lv_lstore (lv' := [(5, .long (lN (nbN a b c1 (3 * i + 0) + nbN a b c1 (3 * i + 1) * 256))), (8, .int (nI 1)), (7, .int (nI 0)), (0, .int (nI i)), (1, .int (nB true)), (2, .int a), (3, .int b), (4, .int c1)]) hx hb dX9_shownAt_62 hl (by decide) rfl (fun ls hl => ?_)
          refine lv_iinc (v := nI 2) (lv' := [(8, .int (nI 2)), (5, .long (lN (nbN a b c1 (3 * i + 0) + nbN a b c1 (3 * i + 1) * 256))), (7, .int (nI 0)), (0, .int (nI i)), (1, .int (nB true)), (2, .int a), (3, .int b), (4, .int c1)]) hx hb dX9_shownAt_64 hl (k := 1) rfl (nI_add _ 1) (by decide) rfl (fun ls hl => ?_)
          refine lv_goto (tgt := 27) hx hb dX9_shownAt_67 (by decide) ?_
          refine lv_iload hx hb dX9_shownAt_27 (lv_at hl 2 rfl) ?_
          refine lv_iload hx hb dX9_shownAt_29 (lv_at hl 0 rfl) ?_
          refine lv_iadd hx hb dX9_shownAt_31 ?_
          refine hp_eqi (z := nI 2) (nI_add _ _) ?_
          refine lv_iconst (v := nI 4) hx hb dX9_shownAt_32 (by decide) ?_
          refine lv_icmp_ge (tgt := 70) hx hb dX9_shownAt_33 (by decide) (fun c_33 => ?_) (fun c_33 => ?_)
          · exact absurd c_33 (by decide)
          · have c_33 : ¬ (4 ≤ 2) := fun z => c_33 ((nI_leI (by omega) (by omega)).mpr z)
            refine lv_lload hx hb dX9_shownAt_36 (lv_at hl 1 rfl) ?_
            refine lv_iconst (v := nI 3) hx hb dX9_shownAt_38 (by decide) ?_
            refine lv_iload_n hx hb dX9_shownAt_39 rfl (lv_at hl 3 rfl) ?_
            refine lv_imul hx hb dX9_shownAt_40 ?_
            refine hp_eqi (z := nI (3 * i)) (pk_mul _ _) ?_
            refine lv_iload hx hb dX9_shownAt_41 (lv_at hl 0 rfl) ?_
            refine lv_iadd hx hb dX9_shownAt_43 ?_
            refine hp_eqi (z := nI ((3 * i) + 2)) (nI_add _ _) ?_
            refine lv_iload_n hx hb dX9_shownAt_44 rfl (lv_at hl 5 rfl) ?_
            refine lv_iload_n hx hb dX9_shownAt_45 rfl (lv_at hl 6 rfl) ?_
            refine lv_iload hx hb dX9_shownAt_46 (lv_at hl 7 rfl) ?_
            refine hp_kip (hp_runS (As := [.int (nI ((3 * i) + 2)), .int a, .int b, .int c1]) (rest := [.long (lN (nbN a b c1 (3 * i + 0) + nbN a b c1 (3 * i + 1) * 256))]) hx hb hml hown hS hH (c_X9_numberByte l X (k := 3 * i + 2) (a := a) (b := b) (c1 := c1) (by omega)) M_X9_35 S_X9_numberByte rfl hl.1 rfl (Nat.le_of_ble_eq_true rfl) dX9_shownAt_48 ⟨Nat.le_of_ble_eq_true rfl, Nat.le_of_ble_eq_true rfl⟩ ⟨Nat.le_of_ble_eq_true rfl, Nat.le_of_ble_eq_true rfl⟩) hH (fun H locs hH => ?_)
            have hb2 := nbN_lt a b c1 (3 * i + 2)
            refine lv_i2l hx hb dX9_shownAt_51 rfl ?_
            refine hp_eql (z := lN (nbN a b c1 (3 * i + 2))) (nI_l (by omega)) ?_
            refine lv_bipush (v := nI 8) hx hb dX9_shownAt_52 (by decide) ?_
            refine lv_iload hx hb dX9_shownAt_54 (lv_at hl 2 rfl) ?_
            refine lv_iload hx hb dX9_shownAt_56 (lv_at hl 0 rfl) ?_
            refine lv_iadd hx hb dX9_shownAt_58 ?_
            refine hp_eqi (z := nI 2) (nI_add _ _) ?_
            refine lv_imul hx hb dX9_shownAt_59 ?_
            refine hp_eqi (z := nI 16) (pk_mul _ _) ?_
            refine lv_lshl hx hb dX9_shownAt_60 rfl ?_
            refine hp_eql (z := lN (nbN a b c1 (3 * i + 2) * 65536)) (wb_shl _ (by decide)) ?_
            refine lv_lor hx hb dX9_shownAt_61 ?_
            refine hp_eql (z := lN (nbN a b c1 (3 * i + 0) + nbN a b c1 (3 * i + 1) * 256 + nbN a b c1 (3 * i + 2) * 65536)) (g_or' (k := 16) (p := 65536) (by decide) (by omega) (by omega)) ?_
            refine lv_lstore (lv' := [(5, .long (lN (nbN a b c1 (3 * i + 0) + nbN a b c1 (3 * i + 1) * 256 + nbN a b c1 (3 * i + 2) * 65536))), (8, .int (nI 2)), (7, .int (nI 0)), (0, .int (nI i)), (1, .int (nB true)), (2, .int a), (3, .int b), (4, .int c1)]) hx hb dX9_shownAt_62 hl (by decide) rfl (fun ls hl => ?_)
            refine lv_iinc (v := nI 3) (lv' := [(8, .int (nI 3)), (5, .long (lN (nbN a b c1 (3 * i + 0) + nbN a b c1 (3 * i + 1) * 256 + nbN a b c1 (3 * i + 2) * 65536))), (7, .int (nI 0)), (0, .int (nI i)), (1, .int (nB true)), (2, .int a), (3, .int b), (4, .int c1)]) hx hb dX9_shownAt_64 hl (k := 1) rfl (nI_add _ 1) (by decide) rfl (fun ls hl => ?_)
            refine lv_goto (tgt := 27) hx hb dX9_shownAt_67 (by decide) ?_
            refine lv_iload hx hb dX9_shownAt_27 (lv_at hl 2 rfl) ?_
            refine lv_iload hx hb dX9_shownAt_29 (lv_at hl 0 rfl) ?_
            refine lv_iadd hx hb dX9_shownAt_31 ?_
            refine hp_eqi (z := nI 3) (nI_add _ _) ?_
            refine lv_iconst (v := nI 4) hx hb dX9_shownAt_32 (by decide) ?_
            refine lv_icmp_ge (tgt := 70) hx hb dX9_shownAt_33 (by decide) (fun c_33 => ?_) (fun c_33 => ?_)
            · exact absurd c_33 (by decide)
            · have c_33 : ¬ (4 ≤ 3) := fun z => c_33 ((nI_leI (by omega) (by omega)).mpr z)
              refine lv_lload hx hb dX9_shownAt_36 (lv_at hl 1 rfl) ?_
              refine lv_iconst (v := nI 3) hx hb dX9_shownAt_38 (by decide) ?_
              refine lv_iload_n hx hb dX9_shownAt_39 rfl (lv_at hl 3 rfl) ?_
              refine lv_imul hx hb dX9_shownAt_40 ?_
              refine hp_eqi (z := nI (3 * i)) (pk_mul _ _) ?_
              refine lv_iload hx hb dX9_shownAt_41 (lv_at hl 0 rfl) ?_
              refine lv_iadd hx hb dX9_shownAt_43 ?_
              refine hp_eqi (z := nI ((3 * i) + 3)) (nI_add _ _) ?_
              refine lv_iload_n hx hb dX9_shownAt_44 rfl (lv_at hl 5 rfl) ?_
              refine lv_iload_n hx hb dX9_shownAt_45 rfl (lv_at hl 6 rfl) ?_
              refine lv_iload hx hb dX9_shownAt_46 (lv_at hl 7 rfl) ?_
              refine hp_kip (hp_runS (As := [.int (nI ((3 * i) + 3)), .int a, .int b, .int c1]) (rest := [.long (lN (nbN a b c1 (3 * i + 0) + nbN a b c1 (3 * i + 1) * 256 + nbN a b c1 (3 * i + 2) * 65536))]) hx hb hml hown hS hH (c_X9_numberByte l X (k := 3 * i + 3) (a := a) (b := b) (c1 := c1) (by omega)) M_X9_35 S_X9_numberByte rfl hl.1 rfl (Nat.le_of_ble_eq_true rfl) dX9_shownAt_48 ⟨Nat.le_of_ble_eq_true rfl, Nat.le_of_ble_eq_true rfl⟩ ⟨Nat.le_of_ble_eq_true rfl, Nat.le_of_ble_eq_true rfl⟩) hH (fun H locs hH => ?_)
              have hb3 := nbN_lt a b c1 (3 * i + 3)
              refine lv_i2l hx hb dX9_shownAt_51 rfl ?_
              refine hp_eql (z := lN (nbN a b c1 (3 * i + 3))) (nI_l (by omega)) ?_
              refine lv_bipush (v := nI 8) hx hb dX9_shownAt_52 (by decide) ?_
              refine lv_iload hx hb dX9_shownAt_54 (lv_at hl 2 rfl) ?_
              refine lv_iload hx hb dX9_shownAt_56 (lv_at hl 0 rfl) ?_
              refine lv_iadd hx hb dX9_shownAt_58 ?_
              refine hp_eqi (z := nI 3) (nI_add _ _) ?_
              refine lv_imul hx hb dX9_shownAt_59 ?_
              refine hp_eqi (z := nI 24) (pk_mul _ _) ?_
              refine lv_lshl hx hb dX9_shownAt_60 rfl ?_
              refine hp_eql (z := lN (nbN a b c1 (3 * i + 3) * 16777216)) (wb_shl _ (by decide)) ?_
              refine lv_lor hx hb dX9_shownAt_61 ?_
              refine hp_eql (z := lN (nbN a b c1 (3 * i + 0) + nbN a b c1 (3 * i + 1) * 256 + nbN a b c1 (3 * i + 2) * 65536 + nbN a b c1 (3 * i + 3) * 16777216)) (g_or' (k := 24) (p := 16777216) (by decide) (by omega) (by omega)) ?_
              refine lv_lstore (lv' := [(5, .long (lN (nbN a b c1 (3 * i + 0) + nbN a b c1 (3 * i + 1) * 256 + nbN a b c1 (3 * i + 2) * 65536 + nbN a b c1 (3 * i + 3) * 16777216))), (8, .int (nI 3)), (7, .int (nI 0)), (0, .int (nI i)), (1, .int (nB true)), (2, .int a), (3, .int b), (4, .int c1)]) hx hb dX9_shownAt_62 hl (by decide) rfl (fun ls hl => ?_)
              refine lv_iinc (v := nI 4) (lv' := [(8, .int (nI 4)), (5, .long (lN (nbN a b c1 (3 * i + 0) + nbN a b c1 (3 * i + 1) * 256 + nbN a b c1 (3 * i + 2) * 65536 + nbN a b c1 (3 * i + 3) * 16777216))), (7, .int (nI 0)), (0, .int (nI i)), (1, .int (nB true)), (2, .int a), (3, .int b), (4, .int c1)]) hx hb dX9_shownAt_64 hl (k := 1) rfl (nI_add _ 1) (by decide) rfl (fun ls hl => ?_)
              refine lv_goto (tgt := 27) hx hb dX9_shownAt_67 (by decide) ?_
              refine lv_iload hx hb dX9_shownAt_27 (lv_at hl 2 rfl) ?_
              refine lv_iload hx hb dX9_shownAt_29 (lv_at hl 0 rfl) ?_
              refine lv_iadd hx hb dX9_shownAt_31 ?_
              refine hp_eqi (z := nI 4) (nI_add _ _) ?_
              refine lv_iconst (v := nI 4) hx hb dX9_shownAt_32 (by decide) ?_
              refine lv_icmp_ge (tgt := 70) hx hb dX9_shownAt_33 (by decide) (fun c_33 => ?_) (fun c_33 => ?_)
              · have c_33 : 4 ≤ 4 := (nI_leI (by omega) (by omega)).mp c_33
                have hF := shF_lt a b c1 i true
                refine W.eq (g2 := F0 m 70 ls []) rfl ?_
                have hl : lv_has ls 10 [(8, .int (nI 4)), (5, .long (lN (shF a b c1 i true))), (7, .int (nI 0)), (0, .int (nI i)), (1, .int (nB true)), (2, .int a), (3, .int b), (4, .int c1)] := hl
                refine lv_lload hx hb dX9_shownAt_70 (lv_at hl 1 rfl) ?_
                refine lv_lload hx hb dX9_shownAt_72 (lv_at hl 1 rfl) ?_
                refine lv_bipush (v := nI 8) hx hb dX9_shownAt_74 (by decide) ?_
                refine lv_lushr hx hb dX9_shownAt_76 rfl ?_
                refine hp_eql (z := lN (shF a b c1 i true / 256)) (wb_shr (k := 8) (by omega) (by decide)) ?_
                refine lv_lxor hx hb dX9_shownAt_77 ?_
                refine lv_lload hx hb dX9_shownAt_78 (lv_at hl 1 rfl) ?_
                refine lv_bipush (v := nI 16) hx hb dX9_shownAt_80 (by decide) ?_
                refine lv_lushr hx hb dX9_shownAt_82 rfl ?_
                refine hp_eql (z := lN (shF a b c1 i true / 65536)) (wb_shr (k := 16) (by omega) (by decide)) ?_
                refine lv_lxor hx hb dX9_shownAt_83 ?_
                refine lv_lload hx hb dX9_shownAt_84 (lv_at hl 1 rfl) ?_
                refine lv_bipush (v := nI 24) hx hb dX9_shownAt_86 (by decide) ?_
                refine lv_lushr hx hb dX9_shownAt_88 rfl ?_
                refine hp_eql (z := lN (shF a b c1 i true / 16777216)) (wb_shr (k := 24) (by omega) (by decide)) ?_
                refine lv_lxor hx hb dX9_shownAt_89 ?_
                refine lv_ldc2 hx hb hown (hS.1 _ wi_244 _) dX9_shownAt_90 ?_
                refine hp_eql (z := lN 255) (by decide) ?_
                refine lv_land hx hb dX9_shownAt_93 ?_
                refine hp_eql (z := lN (shX (shF a b c1 i true))) (z_shx hF) ?_
                refine lv_lstore (lv' := [(8, .long (lN (shX (shF a b c1 i true)))), (5, .long (lN (shF a b c1 i true))), (7, .int (nI 0)), (0, .int (nI i)), (1, .int (nB true)), (2, .int a), (3, .int b), (4, .int c1)]) hx hb dX9_shownAt_94 hl (by decide) rfl (fun ls hl => ?_)
                have hX := shX_lt (shF a b c1 i true)
                refine lv_lload hx hb dX9_shownAt_96 (lv_at hl 1 rfl) ?_
                refine lv_lload hx hb dX9_shownAt_98 (lv_at hl 0 rfl) ?_
                refine lv_bipush (v := nI 32) hx hb dX9_shownAt_100 (by decide) ?_
                refine lv_lshl hx hb dX9_shownAt_102 rfl ?_
                refine hp_eql (z := lN (shX (shF a b c1 i true) * 4294967296)) (wb_shl _ (by decide)) ?_
                refine lv_lor hx hb dX9_shownAt_103 ?_
                refine hp_eql (z := lN (shV (shF a b c1 i true))) (g_or' (k := 32) (p := 4294967296) (by decide) hF (by omega)) ?_
                exact hp_rl hx hb hr hlocks hS hH (⟨rfl, rfl, rfl⟩) dX9_shownAt_104
              · exact absurd c_33 (by decide)

set_option maxHeartbeats 4000000 in
set_option maxRecDepth 100000 in
theorem c_X9_shownAt_false (l : Launch) (X : hp_X) {μ : hp_M} {nx : Nat} {i : Nat} {a b c1 : Int32} (hi : i < 3)  : Ct l X yX9_shownAt cX9_shownAt 10 (some FieldType.long) 1 40 0 0 [.int (nI i), .int (nB false), .int a, .int b, .int c1] μ nx (hq_l X (po_l nx (lN (shV (shF a b c1 i false))) (fun z => z = μ))) := by
  refine hp_met (by decide) (Nat.le_of_ble_eq_true rfl) ?_
  intro p e s m below meth c ls hx hb hml hr hlocks hown hin hS hH hl
  have hl : lv_has ls 10 [(0, .int (nI i)), (1, .int (nB false)), (2, .int a), (3, .int b), (4, .int c1)] := hl
  refine lv_iload_n hx hb dX9_shownAt_0 rfl (lv_at hl 1 rfl) ?_
  refine lv_if_eq (tgt := 8) hx hb dX9_shownAt_1 (by decide) (fun c_1 => ?_) (fun c_1 => ?_)
  · have c_1 : false = false := nB_0 c_1
    refine lv_ldc2 hx hb hown (hS.1 _ wi_240 _) dX9_shownAt_8 ?_
    refine hp_eql (z := lN 136) (by decide) ?_
    refine lv_lstore (lv' := [(5, .long (lN 136)), (0, .int (nI i)), (1, .int (nB false)), (2, .int a), (3, .int b), (4, .int c1)]) hx hb dX9_shownAt_11 hl (by decide) rfl (fun ls hl => ?_)
    refine lv_iload_n hx hb dX9_shownAt_13 rfl (lv_at hl 2 rfl) ?_
    refine lv_if_eq (tgt := 21) hx hb dX9_shownAt_14 (by decide) (fun c_14 => ?_) (fun c_14 => ?_)
    · have c_14 : false = false := nB_0 c_14
      refine lv_iconst (v := nI 1) hx hb dX9_shownAt_21 (by decide) ?_
      refine lv_istore (lv' := [(7, .int (nI 1)), (5, .long (lN 136)), (0, .int (nI i)), (1, .int (nB false)), (2, .int a), (3, .int b), (4, .int c1)]) hx hb dX9_shownAt_22 hl (by decide) rfl (fun ls hl => ?_)
      refine lv_iconst (v := nI 0) hx hb dX9_shownAt_24 (by decide) ?_
      refine lv_istore (lv' := [(8, .int (nI 0)), (7, .int (nI 1)), (5, .long (lN 136)), (0, .int (nI i)), (1, .int (nB false)), (2, .int a), (3, .int b), (4, .int c1)]) hx hb dX9_shownAt_25 hl (by decide) rfl (fun ls hl => ?_)
      refine lv_iload hx hb dX9_shownAt_27 (lv_at hl 1 rfl) ?_
      refine lv_iload hx hb dX9_shownAt_29 (lv_at hl 0 rfl) ?_
      refine lv_iadd hx hb dX9_shownAt_31 ?_
      refine hp_eqi (z := nI 1) (nI_add _ _) ?_
      refine lv_iconst (v := nI 4) hx hb dX9_shownAt_32 (by decide) ?_
      refine lv_icmp_ge (tgt := 70) hx hb dX9_shownAt_33 (by decide) (fun c_33 => ?_) (fun c_33 => ?_)
      · exact absurd c_33 (by decide)
      · have c_33 : ¬ (4 ≤ 1) := fun z => c_33 ((nI_leI (by omega) (by omega)).mpr z)
        refine lv_lload hx hb dX9_shownAt_36 (lv_at hl 2 rfl) ?_
        refine lv_iconst (v := nI 3) hx hb dX9_shownAt_38 (by decide) ?_
        refine lv_iload_n hx hb dX9_shownAt_39 rfl (lv_at hl 3 rfl) ?_
        refine lv_imul hx hb dX9_shownAt_40 ?_
        refine hp_eqi (z := nI (3 * i)) (pk_mul _ _) ?_
        refine lv_iload hx hb dX9_shownAt_41 (lv_at hl 0 rfl) ?_
        refine lv_iadd hx hb dX9_shownAt_43 ?_
        refine hp_eqi (z := nI ((3 * i) + 0)) (nI_add _ _) ?_
        refine lv_iload_n hx hb dX9_shownAt_44 rfl (lv_at hl 5 rfl) ?_
        refine lv_iload_n hx hb dX9_shownAt_45 rfl (lv_at hl 6 rfl) ?_
        refine lv_iload hx hb dX9_shownAt_46 (lv_at hl 7 rfl) ?_
        refine hp_kip (hp_runS (As := [.int (nI ((3 * i) + 0)), .int a, .int b, .int c1]) (rest := [.long (lN 136)]) hx hb hml hown hS hH (c_X9_numberByte l X (k := 3 * i + 0) (a := a) (b := b) (c1 := c1) (by omega)) M_X9_35 S_X9_numberByte rfl hl.1 rfl (Nat.le_of_ble_eq_true rfl) dX9_shownAt_48 ⟨Nat.le_of_ble_eq_true rfl, Nat.le_of_ble_eq_true rfl⟩ ⟨Nat.le_of_ble_eq_true rfl, Nat.le_of_ble_eq_true rfl⟩) hH (fun H locs hH => ?_)
        have hb0 := nbN_lt a b c1 (3 * i + 0)
        refine lv_i2l hx hb dX9_shownAt_51 rfl ?_
        refine hp_eql (z := lN (nbN a b c1 (3 * i + 0))) (nI_l (by omega)) ?_
        refine lv_bipush (v := nI 8) hx hb dX9_shownAt_52 (by decide) ?_
        refine lv_iload hx hb dX9_shownAt_54 (lv_at hl 1 rfl) ?_
        refine lv_iload hx hb dX9_shownAt_56 (lv_at hl 0 rfl) ?_
        refine lv_iadd hx hb dX9_shownAt_58 ?_
        refine hp_eqi (z := nI 1) (nI_add _ _) ?_
        refine lv_imul hx hb dX9_shownAt_59 ?_
        refine hp_eqi (z := nI 8) (pk_mul _ _) ?_
        refine lv_lshl hx hb dX9_shownAt_60 rfl ?_
        refine hp_eql (z := lN (nbN a b c1 (3 * i + 0) * 256)) (wb_shl _ (by decide)) ?_
        refine lv_lor hx hb dX9_shownAt_61 ?_
        refine hp_eql (z := lN (136 + nbN a b c1 (3 * i + 0) * 256)) (g_or' (k := 8) (p := 256) (by decide) (by omega) (by omega)) ?_
        refine lv_lstore (lv' := [(5, .long (lN (136 + nbN a b c1 (3 * i + 0) * 256))), (8, .int (nI 0)), (7, .int (nI 1)), (0, .int (nI i)), (1, .int (nB false)), (2, .int a), (3, .int b), (4, .int c1)]) hx hb dX9_shownAt_62 hl (by decide) rfl (fun ls hl => ?_)
        refine lv_iinc (v := nI 1) (lv' := [(8, .int (nI 1)), (5, .long (lN (136 + nbN a b c1 (3 * i + 0) * 256))), (7, .int (nI 1)), (0, .int (nI i)), (1, .int (nB false)), (2, .int a), (3, .int b), (4, .int c1)]) hx hb dX9_shownAt_64 hl (k := 1) rfl (nI_add _ 1) (by decide) rfl (fun ls hl => ?_)
        refine lv_goto (tgt := 27) hx hb dX9_shownAt_67 (by decide) ?_
        refine lv_iload hx hb dX9_shownAt_27 (lv_at hl 2 rfl) ?_
        refine lv_iload hx hb dX9_shownAt_29 (lv_at hl 0 rfl) ?_
        refine lv_iadd hx hb dX9_shownAt_31 ?_
        refine hp_eqi (z := nI 2) (nI_add _ _) ?_
        refine lv_iconst (v := nI 4) hx hb dX9_shownAt_32 (by decide) ?_
        refine lv_icmp_ge (tgt := 70) hx hb dX9_shownAt_33 (by decide) (fun c_33 => ?_) (fun c_33 => ?_)
        · exact absurd c_33 (by decide)
        · have c_33 : ¬ (4 ≤ 2) := fun z => c_33 ((nI_leI (by omega) (by omega)).mpr z)
          refine lv_lload hx hb dX9_shownAt_36 (lv_at hl 1 rfl) ?_
          refine lv_iconst (v := nI 3) hx hb dX9_shownAt_38 (by decide) ?_
          refine lv_iload_n hx hb dX9_shownAt_39 rfl (lv_at hl 3 rfl) ?_
          refine lv_imul hx hb dX9_shownAt_40 ?_
          refine hp_eqi (z := nI (3 * i)) (pk_mul _ _) ?_
          refine lv_iload hx hb dX9_shownAt_41 (lv_at hl 0 rfl) ?_
          refine lv_iadd hx hb dX9_shownAt_43 ?_
          refine hp_eqi (z := nI ((3 * i) + 1)) (nI_add _ _) ?_
          refine lv_iload_n hx hb dX9_shownAt_44 rfl (lv_at hl 5 rfl) ?_
          refine lv_iload_n hx hb dX9_shownAt_45 rfl (lv_at hl 6 rfl) ?_
          refine lv_iload hx hb dX9_shownAt_46 (lv_at hl 7 rfl) ?_
          refine hp_kip (hp_runS (As := [.int (nI ((3 * i) + 1)), .int a, .int b, .int c1]) (rest := [.long (lN (136 + nbN a b c1 (3 * i + 0) * 256))]) hx hb hml hown hS hH (c_X9_numberByte l X (k := 3 * i + 1) (a := a) (b := b) (c1 := c1) (by omega)) M_X9_35 S_X9_numberByte rfl hl.1 rfl (Nat.le_of_ble_eq_true rfl) dX9_shownAt_48 ⟨Nat.le_of_ble_eq_true rfl, Nat.le_of_ble_eq_true rfl⟩ ⟨Nat.le_of_ble_eq_true rfl, Nat.le_of_ble_eq_true rfl⟩) hH (fun H locs hH => ?_)
          have hb1 := nbN_lt a b c1 (3 * i + 1)
          refine lv_i2l hx hb dX9_shownAt_51 rfl ?_
          refine hp_eql (z := lN (nbN a b c1 (3 * i + 1))) (nI_l (by omega)) ?_
          refine lv_bipush (v := nI 8) hx hb dX9_shownAt_52 (by decide) ?_
          refine lv_iload hx hb dX9_shownAt_54 (lv_at hl 2 rfl) ?_
          refine lv_iload hx hb dX9_shownAt_56 (lv_at hl 0 rfl) ?_
          refine lv_iadd hx hb dX9_shownAt_58 ?_
          refine hp_eqi (z := nI 2) (nI_add _ _) ?_
          refine lv_imul hx hb dX9_shownAt_59 ?_
          refine hp_eqi (z := nI 16) (pk_mul _ _) ?_
          refine lv_lshl hx hb dX9_shownAt_60 rfl ?_
          refine hp_eql (z := lN (nbN a b c1 (3 * i + 1) * 65536)) (wb_shl _ (by decide)) ?_
          refine lv_lor hx hb dX9_shownAt_61 ?_
          refine hp_eql (z := lN (136 + nbN a b c1 (3 * i + 0) * 256 + nbN a b c1 (3 * i + 1) * 65536)) (g_or' (k := 16) (p := 65536) (by decide) (by omega) (by omega)) ?_
          refine lv_lstore (lv' := [(5, .long (lN (136 + nbN a b c1 (3 * i + 0) * 256 + nbN a b c1 (3 * i + 1) * 65536))), (8, .int (nI 1)), (7, .int (nI 1)), (0, .int (nI i)), (1, .int (nB false)), (2, .int a), (3, .int b), (4, .int c1)]) hx hb dX9_shownAt_62 hl (by decide) rfl (fun ls hl => ?_)
          refine lv_iinc (v := nI 2) (lv' := [(8, .int (nI 2)), (5, .long (lN (136 + nbN a b c1 (3 * i + 0) * 256 + nbN a b c1 (3 * i + 1) * 65536))), (7, .int (nI 1)), (0, .int (nI i)), (1, .int (nB false)), (2, .int a), (3, .int b), (4, .int c1)]) hx hb dX9_shownAt_64 hl (k := 1) rfl (nI_add _ 1) (by decide) rfl (fun ls hl => ?_)
          refine lv_goto (tgt := 27) hx hb dX9_shownAt_67 (by decide) ?_
          refine lv_iload hx hb dX9_shownAt_27 (lv_at hl 2 rfl) ?_
          refine lv_iload hx hb dX9_shownAt_29 (lv_at hl 0 rfl) ?_
          refine lv_iadd hx hb dX9_shownAt_31 ?_
          refine hp_eqi (z := nI 3) (nI_add _ _) ?_
          refine lv_iconst (v := nI 4) hx hb dX9_shownAt_32 (by decide) ?_
          refine lv_icmp_ge (tgt := 70) hx hb dX9_shownAt_33 (by decide) (fun c_33 => ?_) (fun c_33 => ?_)
          · exact absurd c_33 (by decide)
          · have c_33 : ¬ (4 ≤ 3) := fun z => c_33 ((nI_leI (by omega) (by omega)).mpr z)
            refine lv_lload hx hb dX9_shownAt_36 (lv_at hl 1 rfl) ?_
            refine lv_iconst (v := nI 3) hx hb dX9_shownAt_38 (by decide) ?_
            refine lv_iload_n hx hb dX9_shownAt_39 rfl (lv_at hl 3 rfl) ?_
            refine lv_imul hx hb dX9_shownAt_40 ?_
            refine hp_eqi (z := nI (3 * i)) (pk_mul _ _) ?_
            refine lv_iload hx hb dX9_shownAt_41 (lv_at hl 0 rfl) ?_
            refine lv_iadd hx hb dX9_shownAt_43 ?_
            refine hp_eqi (z := nI ((3 * i) + 2)) (nI_add _ _) ?_
            refine lv_iload_n hx hb dX9_shownAt_44 rfl (lv_at hl 5 rfl) ?_
            refine lv_iload_n hx hb dX9_shownAt_45 rfl (lv_at hl 6 rfl) ?_
            refine lv_iload hx hb dX9_shownAt_46 (lv_at hl 7 rfl) ?_
            refine hp_kip (hp_runS (As := [.int (nI ((3 * i) + 2)), .int a, .int b, .int c1]) (rest := [.long (lN (136 + nbN a b c1 (3 * i + 0) * 256 + nbN a b c1 (3 * i + 1) * 65536))]) hx hb hml hown hS hH (c_X9_numberByte l X (k := 3 * i + 2) (a := a) (b := b) (c1 := c1) (by omega)) M_X9_35 S_X9_numberByte rfl hl.1 rfl (Nat.le_of_ble_eq_true rfl) dX9_shownAt_48 ⟨Nat.le_of_ble_eq_true rfl, Nat.le_of_ble_eq_true rfl⟩ ⟨Nat.le_of_ble_eq_true rfl, Nat.le_of_ble_eq_true rfl⟩) hH (fun H locs hH => ?_)
            have hb2 := nbN_lt a b c1 (3 * i + 2)
            refine lv_i2l hx hb dX9_shownAt_51 rfl ?_
            refine hp_eql (z := lN (nbN a b c1 (3 * i + 2))) (nI_l (by omega)) ?_
            refine lv_bipush (v := nI 8) hx hb dX9_shownAt_52 (by decide) ?_
            refine lv_iload hx hb dX9_shownAt_54 (lv_at hl 2 rfl) ?_
            refine lv_iload hx hb dX9_shownAt_56 (lv_at hl 0 rfl) ?_
            refine lv_iadd hx hb dX9_shownAt_58 ?_
            refine hp_eqi (z := nI 3) (nI_add _ _) ?_
            refine lv_imul hx hb dX9_shownAt_59 ?_
            refine hp_eqi (z := nI 24) (pk_mul _ _) ?_
            refine lv_lshl hx hb dX9_shownAt_60 rfl ?_
            refine hp_eql (z := lN (nbN a b c1 (3 * i + 2) * 16777216)) (wb_shl _ (by decide)) ?_
            refine lv_lor hx hb dX9_shownAt_61 ?_
            refine hp_eql (z := lN (136 + nbN a b c1 (3 * i + 0) * 256 + nbN a b c1 (3 * i + 1) * 65536 + nbN a b c1 (3 * i + 2) * 16777216)) (g_or' (k := 24) (p := 16777216) (by decide) (by omega) (by omega)) ?_
            refine lv_lstore (lv' := [(5, .long (lN (136 + nbN a b c1 (3 * i + 0) * 256 + nbN a b c1 (3 * i + 1) * 65536 + nbN a b c1 (3 * i + 2) * 16777216))), (8, .int (nI 2)), (7, .int (nI 1)), (0, .int (nI i)), (1, .int (nB false)), (2, .int a), (3, .int b), (4, .int c1)]) hx hb dX9_shownAt_62 hl (by decide) rfl (fun ls hl => ?_)
            refine lv_iinc (v := nI 3) (lv' := [(8, .int (nI 3)), (5, .long (lN (136 + nbN a b c1 (3 * i + 0) * 256 + nbN a b c1 (3 * i + 1) * 65536 + nbN a b c1 (3 * i + 2) * 16777216))), (7, .int (nI 1)), (0, .int (nI i)), (1, .int (nB false)), (2, .int a), (3, .int b), (4, .int c1)]) hx hb dX9_shownAt_64 hl (k := 1) rfl (nI_add _ 1) (by decide) rfl (fun ls hl => ?_)
            refine lv_goto (tgt := 27) hx hb dX9_shownAt_67 (by decide) ?_
            refine lv_iload hx hb dX9_shownAt_27 (lv_at hl 2 rfl) ?_
            refine lv_iload hx hb dX9_shownAt_29 (lv_at hl 0 rfl) ?_
            refine lv_iadd hx hb dX9_shownAt_31 ?_
            refine hp_eqi (z := nI 4) (nI_add _ _) ?_
            refine lv_iconst (v := nI 4) hx hb dX9_shownAt_32 (by decide) ?_
            refine lv_icmp_ge (tgt := 70) hx hb dX9_shownAt_33 (by decide) (fun c_33 => ?_) (fun c_33 => ?_)
            · have c_33 : 4 ≤ 4 := (nI_leI (by omega) (by omega)).mp c_33
              have hF := shF_lt a b c1 i false
              refine W.eq (g2 := F0 m 70 ls []) rfl ?_
              have hl : lv_has ls 10 [(8, .int (nI 3)), (5, .long (lN (shF a b c1 i false))), (7, .int (nI 1)), (0, .int (nI i)), (1, .int (nB false)), (2, .int a), (3, .int b), (4, .int c1)] := hl
              refine lv_lload hx hb dX9_shownAt_70 (lv_at hl 1 rfl) ?_
              refine lv_lload hx hb dX9_shownAt_72 (lv_at hl 1 rfl) ?_
              refine lv_bipush (v := nI 8) hx hb dX9_shownAt_74 (by decide) ?_
              refine lv_lushr hx hb dX9_shownAt_76 rfl ?_
              refine hp_eql (z := lN (shF a b c1 i false / 256)) (wb_shr (k := 8) (by omega) (by decide)) ?_
              refine lv_lxor hx hb dX9_shownAt_77 ?_
              refine lv_lload hx hb dX9_shownAt_78 (lv_at hl 1 rfl) ?_
              refine lv_bipush (v := nI 16) hx hb dX9_shownAt_80 (by decide) ?_
              refine lv_lushr hx hb dX9_shownAt_82 rfl ?_
              refine hp_eql (z := lN (shF a b c1 i false / 65536)) (wb_shr (k := 16) (by omega) (by decide)) ?_
              refine lv_lxor hx hb dX9_shownAt_83 ?_
              refine lv_lload hx hb dX9_shownAt_84 (lv_at hl 1 rfl) ?_
              refine lv_bipush (v := nI 24) hx hb dX9_shownAt_86 (by decide) ?_
              refine lv_lushr hx hb dX9_shownAt_88 rfl ?_
              refine hp_eql (z := lN (shF a b c1 i false / 16777216)) (wb_shr (k := 24) (by omega) (by decide)) ?_
              refine lv_lxor hx hb dX9_shownAt_89 ?_
              refine lv_ldc2 hx hb hown (hS.1 _ wi_244 _) dX9_shownAt_90 ?_
              refine hp_eql (z := lN 255) (by decide) ?_
              refine lv_land hx hb dX9_shownAt_93 ?_
              refine hp_eql (z := lN (shX (shF a b c1 i false))) (z_shx hF) ?_
              refine lv_lstore (lv' := [(8, .long (lN (shX (shF a b c1 i false)))), (5, .long (lN (shF a b c1 i false))), (7, .int (nI 1)), (0, .int (nI i)), (1, .int (nB false)), (2, .int a), (3, .int b), (4, .int c1)]) hx hb dX9_shownAt_94 hl (by decide) rfl (fun ls hl => ?_)
              have hX := shX_lt (shF a b c1 i false)
              refine lv_lload hx hb dX9_shownAt_96 (lv_at hl 1 rfl) ?_
              refine lv_lload hx hb dX9_shownAt_98 (lv_at hl 0 rfl) ?_
              refine lv_bipush (v := nI 32) hx hb dX9_shownAt_100 (by decide) ?_
              refine lv_lshl hx hb dX9_shownAt_102 rfl ?_
              refine hp_eql (z := lN (shX (shF a b c1 i false) * 4294967296)) (wb_shl _ (by decide)) ?_
              refine lv_lor hx hb dX9_shownAt_103 ?_
              refine hp_eql (z := lN (shV (shF a b c1 i false))) (g_or' (k := 32) (p := 4294967296) (by decide) hF (by omega)) ?_
              exact hp_rl hx hb hr hlocks hS hH (⟨rfl, rfl, rfl⟩) dX9_shownAt_104
            · exact absurd c_33 (by decide)
    · exact absurd c_14 (by decide)
  · exact absurd c_1 (by decide)

set_option maxHeartbeats 4000000 in
set_option maxRecDepth 100000 in
theorem c_X9_init_4 (l : Launch) (X : hp_X) {μ : hp_M} {nx : Nat} {t : Nat} {a b c1 : Int32} (f_t : μ t = some (hp_o 5 [.int (nI 0), .null, .int (nB false), .int (nI 0), .int (nI 0)])) : Ct l X yX9_init cX9_init 6 (none : Option Jvm.ClassFile.FieldType) 2 80 1 3 [.ref t, .int (nI 4), .int a, .int b, .int c1] μ nx (hq_v X (po_v (nx + 1) (fun z => z t = some (hp_o 5 [.int (nI 1), .ref nx, .int (nB false), .int (nI 0), .int (nI 1)]) ∧ z nx = some (hp_m X 3 (shA a b c1 1)) ∧ hp_eq [t, nx] z μ))) := by
  refine hp_met (by decide) (Nat.le_of_ble_eq_true rfl) ?_
  intro p e s m below meth c ls hx hb hml hr hlocks hown hin hS hH hl
  have hl : lv_has ls 6 [(0, .ref t), (1, .int (nI 4)), (2, .int a), (3, .int b), (4, .int c1)] := hl
  have fr : hp_eq [t, nx] μ μ := fun _ _ => rfl
  have hlt_t := hH.lt f_t
  refine lv_aload_n hx hb dX9_init_0 rfl (lv_at hl 0 rfl) ?_
  refine hp_obj hx hb hml hown hS ol_X9_3 hl.1 dX9_init_1 (Nat.le_of_ble_eq_true rfl) (Nat.le_of_ble_eq_true rfl) (Nat.le_of_ble_eq_true rfl) ?_
  refine lv_aload_n hx hb dX9_init_4 rfl (lv_at hl 0 rfl) ?_
  refine lv_iconst (v := nI 0) hx hb dX9_init_5 (by decide) ?_
  refine hp_eqi (z := nB false) (by decide) ?_
  refine hp_put hx hb hown hS.2.1 hH (P_X9_9.use hS) f_t (nB_nar _) (nB_fit _) (Nat.le_of_ble_eq_true rfl) dX9_init_6 (fun H locs μ1 fz fn hH => ?_)
  have f_t : μ1 t = some (hp_o 5 [.int (nI 0), .null, .int (nB false), .int (nI 0), .int (nI 0)]) := fz
  have fr := hp_eq.put fr (by simp) fn
  clear fz fn
  refine lv_aload_n hx hb dX9_init_9 rfl (lv_at hl 0 rfl) ?_
  refine lv_iconst (v := nI 0) hx hb dX9_init_10 (by decide) ?_
  refine hp_put hx hb hown hS.2.1 hH (P_X9_15.use hS) f_t rfl rfl (Nat.le_of_ble_eq_true rfl) dX9_init_11 (fun H locs μ1 fz fn hH => ?_)
  have f_t : μ1 t = some (hp_o 5 [.int (nI 0), .null, .int (nB false), .int (nI 0), .int (nI 0)]) := fz
  have fr := hp_eq.put fr (by simp) fn
  clear fz fn
  refine lv_aload_n hx hb dX9_init_14 rfl (lv_at hl 0 rfl) ?_
  refine lv_iconst (v := nI 1) hx hb dX9_init_15 (by decide) ?_
  refine hp_put hx hb hown hS.2.1 hH (P_X9_19.use hS) f_t rfl rfl (Nat.le_of_ble_eq_true rfl) dX9_init_16 (fun H locs μ1 fz fn hH => ?_)
  have f_t : μ1 t = some (hp_o 5 [.int (nI 0), .null, .int (nB false), .int (nI 0), .int (nI 1)]) := fz
  have fr := hp_eq.put fr (by simp) fn
  clear fz fn
  refine lv_aload_n hx hb dX9_init_19 rfl (lv_at hl 0 rfl) ?_
  refine lv_iload_n hx hb dX9_init_20 rfl (lv_at hl 1 rfl) ?_
  refine lv_iconst (v := nI 1) hx hb dX9_init_21 (by decide) ?_
  refine lv_isub hx hb dX9_init_22 ?_
  refine hp_eqi (z := nI 3) (by decide) ?_
  refine lv_iconst (v := nI 3) hx hb dX9_init_23 (by decide) ?_
  refine lv_idiv hx hb dX9_init_24 (by decide) ?_
  refine hp_eqi (z := nI 1) (by decide) ?_
  refine hp_putF hx hb hown hS.2.1 hH (P_X9_22.use hS) hin f_t rfl rfl (Nat.le_of_ble_eq_true rfl) dX9_init_25 (fun H locs μ1 fz fn hH => ?_)
  have f_t : μ1 t = some (hp_o 5 [.int (nI 1), .null, .int (nB false), .int (nI 0), .int (nI 1)]) := fz
  have fr := hp_eq.put fr (by simp) fn
  clear fz fn
  refine lv_aload_n hx hb dX9_init_28 rfl (lv_at hl 0 rfl) ?_
  refine lv_iconst (v := nI 3) hx hb dX9_init_29 (by decide) ?_
  have hO := hH
  refine hp_newl hx hb (hS.1 _ wi_261 _) hS.nl hH (nI_pos (by omega)) (nI_clamp (by omega)) (by omega) (Nat.le_of_ble_eq_true rfl) (Nat.le_of_ble_eq_true rfl) dX9_init_30 (fun H μ1 fz fn hH => ?_)
  have f_t := (fn _ (Nat.ne_of_lt (hO.lt f_t))).trans f_t
  have f_n0 : μ1 nx = some (hp_m X 3 (fun _ => 0)) := fz
  have fr := hp_eq.put fr (by simp) fn
  clear fz fn hO
  refine hp_putF hx hb hown hS.2.1 hH (P_X9_25.use hS) hin f_t rfl rfl (Nat.le_of_ble_eq_true rfl) dX9_init_32 (fun H locs μ1 fz fn hH => ?_)
  have f_n0 := (fn _ (by omega)).trans f_n0
  have f_t : μ1 t = some (hp_o 5 [.int (nI 1), .ref nx, .int (nB false), .int (nI 0), .int (nI 1)]) := fz
  have fr := hp_eq.put fr (by simp) fn
  clear fz fn
  refine lv_iconst (v := nI 0) hx hb dX9_init_35 (by decide) ?_
  refine lv_istore (lv' := [(5, .int (nI 0)), (0, .ref t), (1, .int (nI 4)), (2, .int a), (3, .int b), (4, .int c1)]) hx hb dX9_init_36 hl (by decide) rfl (fun ls hl => ?_)
  refine lv_iload hx hb dX9_init_38 (lv_at hl 0 rfl) ?_
  refine lv_aload_n hx hb dX9_init_40 rfl (lv_at hl 1 rfl) ?_
  refine hp_get hx hb hown hS.2.1 hH (F_X9_22.use hS) f_t rfl dX9_init_41 ?_
  refine lv_icmp_ge (tgt := 85) hx hb dX9_init_44 (by decide) (fun c_44 => ?_) (fun c_44 => ?_)
  · exact absurd c_44 (by decide)
  · have c_44 : ¬ (1 ≤ 0) := fun z => c_44 ((nI_leI (by omega) (by omega)).mpr z)
    refine lv_aload_n hx hb dX9_init_47 rfl (lv_at hl 1 rfl) ?_
    refine hp_get hx hb hown hS.2.1 hH (F_X9_25.use hS) f_t rfl dX9_init_48 ?_
    refine lv_iload hx hb dX9_init_51 (lv_at hl 0 rfl) ?_
    refine lv_iload hx hb dX9_init_53 (lv_at hl 0 rfl) ?_
    refine lv_iload hx hb dX9_init_55 (lv_at hl 0 rfl) ?_
    refine lv_aload_n hx hb dX9_init_57 rfl (lv_at hl 1 rfl) ?_
    refine hp_get hx hb hown hS.2.1 hH (F_X9_22.use hS) f_t rfl dX9_init_58 ?_
    refine lv_iconst (v := nI 1) hx hb dX9_init_61 (by decide) ?_
    refine lv_isub hx hb dX9_init_62 ?_
    refine hp_eqi (z := nI 0) (by decide) ?_
    refine lv_icmp_ne (tgt := 70) hx hb dX9_init_63 (by decide) (fun c_63 => ?_) (fun c_63 => ?_)
    · exact absurd c_63 (by decide)
    · have c_63 : 0 = 0 := (nI_eq (by omega) (by omega)).mp c_63
      refine lv_iconst (v := nI 1) hx hb dX9_init_66 (by decide) ?_
      refine lv_goto (tgt := 71) hx hb dX9_init_67 (by decide) ?_
      refine hp_eqi (z := nB true) (by decide) ?_
      refine lv_iload_n hx hb dX9_init_71 rfl (lv_at hl 3 rfl) ?_
      refine lv_iload_n hx hb dX9_init_72 rfl (lv_at hl 4 rfl) ?_
      refine lv_iload hx hb dX9_init_73 (lv_at hl 5 rfl) ?_
      refine hp_klp (hp_runS (As := [.int (nI 0), .int (nB true), .int a, .int b, .int c1]) (rest := [.int (nI 0), .ref nx]) hx hb hml hown hS hH (c_X9_shownAt_true l X (i := 0) (a := a) (b := b) (c1 := c1) (by decide)) M_X9_29 S_X9_shownAt rfl hl.1 rfl (Nat.le_of_ble_eq_true rfl) dX9_init_75 ⟨Nat.le_of_ble_eq_true rfl, Nat.le_of_ble_eq_true rfl⟩ ⟨Nat.le_of_ble_eq_true rfl, Nat.le_of_ble_eq_true rfl⟩) hH (fun H locs hH => ?_)
      refine hp_lastM hx hb hS.al hH f_n0 (by omega) (by omega) dX9_init_78 (fun H locs μ1 fz fn hH => ?_)
      have f_t := (fn _ (by omega)).trans f_t
      have f_n0 : μ1 nx = some (hp_m X 3 (setN (fun _ => 0) 0 (shV (shF a b c1 0 true)))) := fz
      have fr := hp_eq.put fr (by simp) fn
      clear fz fn
      refine lv_iinc (v := nI 1) (lv' := [(5, .int (nI 1)), (0, .ref t), (1, .int (nI 4)), (2, .int a), (3, .int b), (4, .int c1)]) hx hb dX9_init_79 hl (k := 0) rfl (nI_add _ 1) (by decide) rfl (fun ls hl => ?_)
      refine lv_goto (tgt := 38) hx hb dX9_init_82 (by decide) ?_
      refine lv_iload hx hb dX9_init_38 (lv_at hl 0 rfl) ?_
      refine lv_aload_n hx hb dX9_init_40 rfl (lv_at hl 1 rfl) ?_
      refine hp_get hx hb hown hS.2.1 hH (F_X9_22.use hS) f_t rfl dX9_init_41 ?_
      refine lv_icmp_ge (tgt := 85) hx hb dX9_init_44 (by decide) (fun c_44 => ?_) (fun c_44 => ?_)
      · have c_44 : 1 ≤ 1 := (nI_leI (by omega) (by omega)).mp c_44
        have f_n0 := f_n0.trans (congrArg (fun g => some (hp_m X 3 g)) (show setN (fun _ => 0) 0 (shV (shF a b c1 0 true)) = shA a b c1 1 from shA_1 a b c1))
        refine W.widen (k := 1) (n := 3) (by decide) (by decide) ?_
        exact hp_rv hx hb hr hlocks hS hH (⟨rfl, f_t, f_n0, fr⟩) dX9_init_85
      · exact absurd c_44 (by decide)

set_option maxHeartbeats 4000000 in
set_option maxRecDepth 100000 in
theorem c_X9_init_7 (l : Launch) (X : hp_X) {μ : hp_M} {nx : Nat} {t : Nat} {a b c1 : Int32} (f_t : μ t = some (hp_o 5 [.int (nI 0), .null, .int (nB false), .int (nI 0), .int (nI 0)])) : Ct l X yX9_init cX9_init 6 (none : Option Jvm.ClassFile.FieldType) 2 80 1 3 [.ref t, .int (nI 7), .int a, .int b, .int c1] μ nx (hq_v X (po_v (nx + 1) (fun z => z t = some (hp_o 5 [.int (nI 2), .ref nx, .int (nB false), .int (nI 0), .int (nI 1)]) ∧ z nx = some (hp_m X 3 (shA a b c1 2)) ∧ hp_eq [t, nx] z μ))) := by
  refine hp_met (by decide) (Nat.le_of_ble_eq_true rfl) ?_
  intro p e s m below meth c ls hx hb hml hr hlocks hown hin hS hH hl
  have hl : lv_has ls 6 [(0, .ref t), (1, .int (nI 7)), (2, .int a), (3, .int b), (4, .int c1)] := hl
  have fr : hp_eq [t, nx] μ μ := fun _ _ => rfl
  have hlt_t := hH.lt f_t
  refine lv_aload_n hx hb dX9_init_0 rfl (lv_at hl 0 rfl) ?_
  refine hp_obj hx hb hml hown hS ol_X9_3 hl.1 dX9_init_1 (Nat.le_of_ble_eq_true rfl) (Nat.le_of_ble_eq_true rfl) (Nat.le_of_ble_eq_true rfl) ?_
  refine lv_aload_n hx hb dX9_init_4 rfl (lv_at hl 0 rfl) ?_
  refine lv_iconst (v := nI 0) hx hb dX9_init_5 (by decide) ?_
  refine hp_eqi (z := nB false) (by decide) ?_
  refine hp_put hx hb hown hS.2.1 hH (P_X9_9.use hS) f_t (nB_nar _) (nB_fit _) (Nat.le_of_ble_eq_true rfl) dX9_init_6 (fun H locs μ1 fz fn hH => ?_)
  have f_t : μ1 t = some (hp_o 5 [.int (nI 0), .null, .int (nB false), .int (nI 0), .int (nI 0)]) := fz
  have fr := hp_eq.put fr (by simp) fn
  clear fz fn
  refine lv_aload_n hx hb dX9_init_9 rfl (lv_at hl 0 rfl) ?_
  refine lv_iconst (v := nI 0) hx hb dX9_init_10 (by decide) ?_
  refine hp_put hx hb hown hS.2.1 hH (P_X9_15.use hS) f_t rfl rfl (Nat.le_of_ble_eq_true rfl) dX9_init_11 (fun H locs μ1 fz fn hH => ?_)
  have f_t : μ1 t = some (hp_o 5 [.int (nI 0), .null, .int (nB false), .int (nI 0), .int (nI 0)]) := fz
  have fr := hp_eq.put fr (by simp) fn
  clear fz fn
  refine lv_aload_n hx hb dX9_init_14 rfl (lv_at hl 0 rfl) ?_
  refine lv_iconst (v := nI 1) hx hb dX9_init_15 (by decide) ?_
  refine hp_put hx hb hown hS.2.1 hH (P_X9_19.use hS) f_t rfl rfl (Nat.le_of_ble_eq_true rfl) dX9_init_16 (fun H locs μ1 fz fn hH => ?_)
  have f_t : μ1 t = some (hp_o 5 [.int (nI 0), .null, .int (nB false), .int (nI 0), .int (nI 1)]) := fz
  have fr := hp_eq.put fr (by simp) fn
  clear fz fn
  refine lv_aload_n hx hb dX9_init_19 rfl (lv_at hl 0 rfl) ?_
  refine lv_iload_n hx hb dX9_init_20 rfl (lv_at hl 1 rfl) ?_
  refine lv_iconst (v := nI 1) hx hb dX9_init_21 (by decide) ?_
  refine lv_isub hx hb dX9_init_22 ?_
  refine hp_eqi (z := nI 6) (by decide) ?_
  refine lv_iconst (v := nI 3) hx hb dX9_init_23 (by decide) ?_
  refine lv_idiv hx hb dX9_init_24 (by decide) ?_
  refine hp_eqi (z := nI 2) (by decide) ?_
  refine hp_putF hx hb hown hS.2.1 hH (P_X9_22.use hS) hin f_t rfl rfl (Nat.le_of_ble_eq_true rfl) dX9_init_25 (fun H locs μ1 fz fn hH => ?_)
  have f_t : μ1 t = some (hp_o 5 [.int (nI 2), .null, .int (nB false), .int (nI 0), .int (nI 1)]) := fz
  have fr := hp_eq.put fr (by simp) fn
  clear fz fn
  refine lv_aload_n hx hb dX9_init_28 rfl (lv_at hl 0 rfl) ?_
  refine lv_iconst (v := nI 3) hx hb dX9_init_29 (by decide) ?_
  have hO := hH
  refine hp_newl hx hb (hS.1 _ wi_261 _) hS.nl hH (nI_pos (by omega)) (nI_clamp (by omega)) (by omega) (Nat.le_of_ble_eq_true rfl) (Nat.le_of_ble_eq_true rfl) dX9_init_30 (fun H μ1 fz fn hH => ?_)
  have f_t := (fn _ (Nat.ne_of_lt (hO.lt f_t))).trans f_t
  have f_n0 : μ1 nx = some (hp_m X 3 (fun _ => 0)) := fz
  have fr := hp_eq.put fr (by simp) fn
  clear fz fn hO
  refine hp_putF hx hb hown hS.2.1 hH (P_X9_25.use hS) hin f_t rfl rfl (Nat.le_of_ble_eq_true rfl) dX9_init_32 (fun H locs μ1 fz fn hH => ?_)
  have f_n0 := (fn _ (by omega)).trans f_n0
  have f_t : μ1 t = some (hp_o 5 [.int (nI 2), .ref nx, .int (nB false), .int (nI 0), .int (nI 1)]) := fz
  have fr := hp_eq.put fr (by simp) fn
  clear fz fn
  refine lv_iconst (v := nI 0) hx hb dX9_init_35 (by decide) ?_
  refine lv_istore (lv' := [(5, .int (nI 0)), (0, .ref t), (1, .int (nI 7)), (2, .int a), (3, .int b), (4, .int c1)]) hx hb dX9_init_36 hl (by decide) rfl (fun ls hl => ?_)
  refine lv_iload hx hb dX9_init_38 (lv_at hl 0 rfl) ?_
  refine lv_aload_n hx hb dX9_init_40 rfl (lv_at hl 1 rfl) ?_
  refine hp_get hx hb hown hS.2.1 hH (F_X9_22.use hS) f_t rfl dX9_init_41 ?_
  refine lv_icmp_ge (tgt := 85) hx hb dX9_init_44 (by decide) (fun c_44 => ?_) (fun c_44 => ?_)
  · exact absurd c_44 (by decide)
  · have c_44 : ¬ (2 ≤ 0) := fun z => c_44 ((nI_leI (by omega) (by omega)).mpr z)
    refine lv_aload_n hx hb dX9_init_47 rfl (lv_at hl 1 rfl) ?_
    refine hp_get hx hb hown hS.2.1 hH (F_X9_25.use hS) f_t rfl dX9_init_48 ?_
    refine lv_iload hx hb dX9_init_51 (lv_at hl 0 rfl) ?_
    refine lv_iload hx hb dX9_init_53 (lv_at hl 0 rfl) ?_
    refine lv_iload hx hb dX9_init_55 (lv_at hl 0 rfl) ?_
    refine lv_aload_n hx hb dX9_init_57 rfl (lv_at hl 1 rfl) ?_
    refine hp_get hx hb hown hS.2.1 hH (F_X9_22.use hS) f_t rfl dX9_init_58 ?_
    refine lv_iconst (v := nI 1) hx hb dX9_init_61 (by decide) ?_
    refine lv_isub hx hb dX9_init_62 ?_
    refine hp_eqi (z := nI 1) (by decide) ?_
    refine lv_icmp_ne (tgt := 70) hx hb dX9_init_63 (by decide) (fun c_63 => ?_) (fun c_63 => ?_)
    · have c_63 : ¬ (0 = 1) := fun z => c_63 ((nI_eq (by omega) (by omega)).mpr z)
      refine lv_iconst (v := nI 0) hx hb dX9_init_70 (by decide) ?_
      refine hp_eqi (z := nB false) (by decide) ?_
      refine lv_iload_n hx hb dX9_init_71 rfl (lv_at hl 3 rfl) ?_
      refine lv_iload_n hx hb dX9_init_72 rfl (lv_at hl 4 rfl) ?_
      refine lv_iload hx hb dX9_init_73 (lv_at hl 5 rfl) ?_
      refine hp_klp (hp_runS (As := [.int (nI 0), .int (nB false), .int a, .int b, .int c1]) (rest := [.int (nI 0), .ref nx]) hx hb hml hown hS hH (c_X9_shownAt_false l X (i := 0) (a := a) (b := b) (c1 := c1) (by decide)) M_X9_29 S_X9_shownAt rfl hl.1 rfl (Nat.le_of_ble_eq_true rfl) dX9_init_75 ⟨Nat.le_of_ble_eq_true rfl, Nat.le_of_ble_eq_true rfl⟩ ⟨Nat.le_of_ble_eq_true rfl, Nat.le_of_ble_eq_true rfl⟩) hH (fun H locs hH => ?_)
      refine hp_lastM hx hb hS.al hH f_n0 (by omega) (by omega) dX9_init_78 (fun H locs μ1 fz fn hH => ?_)
      have f_t := (fn _ (by omega)).trans f_t
      have f_n0 : μ1 nx = some (hp_m X 3 (setN (fun _ => 0) 0 (shV (shF a b c1 0 false)))) := fz
      have fr := hp_eq.put fr (by simp) fn
      clear fz fn
      refine lv_iinc (v := nI 1) (lv' := [(5, .int (nI 1)), (0, .ref t), (1, .int (nI 7)), (2, .int a), (3, .int b), (4, .int c1)]) hx hb dX9_init_79 hl (k := 0) rfl (nI_add _ 1) (by decide) rfl (fun ls hl => ?_)
      refine lv_goto (tgt := 38) hx hb dX9_init_82 (by decide) ?_
      refine lv_iload hx hb dX9_init_38 (lv_at hl 0 rfl) ?_
      refine lv_aload_n hx hb dX9_init_40 rfl (lv_at hl 1 rfl) ?_
      refine hp_get hx hb hown hS.2.1 hH (F_X9_22.use hS) f_t rfl dX9_init_41 ?_
      refine lv_icmp_ge (tgt := 85) hx hb dX9_init_44 (by decide) (fun c_44 => ?_) (fun c_44 => ?_)
      · exact absurd c_44 (by decide)
      · have c_44 : ¬ (2 ≤ 1) := fun z => c_44 ((nI_leI (by omega) (by omega)).mpr z)
        refine lv_aload_n hx hb dX9_init_47 rfl (lv_at hl 1 rfl) ?_
        refine hp_get hx hb hown hS.2.1 hH (F_X9_25.use hS) f_t rfl dX9_init_48 ?_
        refine lv_iload hx hb dX9_init_51 (lv_at hl 0 rfl) ?_
        refine lv_iload hx hb dX9_init_53 (lv_at hl 0 rfl) ?_
        refine lv_iload hx hb dX9_init_55 (lv_at hl 0 rfl) ?_
        refine lv_aload_n hx hb dX9_init_57 rfl (lv_at hl 1 rfl) ?_
        refine hp_get hx hb hown hS.2.1 hH (F_X9_22.use hS) f_t rfl dX9_init_58 ?_
        refine lv_iconst (v := nI 1) hx hb dX9_init_61 (by decide) ?_
        refine lv_isub hx hb dX9_init_62 ?_
        refine hp_eqi (z := nI 1) (by decide) ?_
        refine lv_icmp_ne (tgt := 70) hx hb dX9_init_63 (by decide) (fun c_63 => ?_) (fun c_63 => ?_)
        · exact absurd c_63 (by decide)
        · have c_63 : 1 = 1 := (nI_eq (by omega) (by omega)).mp c_63
          refine lv_iconst (v := nI 1) hx hb dX9_init_66 (by decide) ?_
          refine lv_goto (tgt := 71) hx hb dX9_init_67 (by decide) ?_
          refine hp_eqi (z := nB true) (by decide) ?_
          refine lv_iload_n hx hb dX9_init_71 rfl (lv_at hl 3 rfl) ?_
          refine lv_iload_n hx hb dX9_init_72 rfl (lv_at hl 4 rfl) ?_
          refine lv_iload hx hb dX9_init_73 (lv_at hl 5 rfl) ?_
          refine hp_klp (hp_runS (As := [.int (nI 1), .int (nB true), .int a, .int b, .int c1]) (rest := [.int (nI 1), .ref nx]) hx hb hml hown hS hH (c_X9_shownAt_true l X (i := 1) (a := a) (b := b) (c1 := c1) (by decide)) M_X9_29 S_X9_shownAt rfl hl.1 rfl (Nat.le_of_ble_eq_true rfl) dX9_init_75 ⟨Nat.le_of_ble_eq_true rfl, Nat.le_of_ble_eq_true rfl⟩ ⟨Nat.le_of_ble_eq_true rfl, Nat.le_of_ble_eq_true rfl⟩) hH (fun H locs hH => ?_)
          refine hp_lastM hx hb hS.al hH f_n0 (by omega) (by omega) dX9_init_78 (fun H locs μ1 fz fn hH => ?_)
          have f_t := (fn _ (by omega)).trans f_t
          have f_n0 : μ1 nx = some (hp_m X 3 (setN (setN (fun _ => 0) 0 (shV (shF a b c1 0 false))) 1 (shV (shF a b c1 1 true)))) := fz
          have fr := hp_eq.put fr (by simp) fn
          clear fz fn
          refine lv_iinc (v := nI 2) (lv' := [(5, .int (nI 2)), (0, .ref t), (1, .int (nI 7)), (2, .int a), (3, .int b), (4, .int c1)]) hx hb dX9_init_79 hl (k := 0) rfl (nI_add _ 1) (by decide) rfl (fun ls hl => ?_)
          refine lv_goto (tgt := 38) hx hb dX9_init_82 (by decide) ?_
          refine lv_iload hx hb dX9_init_38 (lv_at hl 0 rfl) ?_
          refine lv_aload_n hx hb dX9_init_40 rfl (lv_at hl 1 rfl) ?_
          refine hp_get hx hb hown hS.2.1 hH (F_X9_22.use hS) f_t rfl dX9_init_41 ?_
          refine lv_icmp_ge (tgt := 85) hx hb dX9_init_44 (by decide) (fun c_44 => ?_) (fun c_44 => ?_)
          · have c_44 : 2 ≤ 2 := (nI_leI (by omega) (by omega)).mp c_44
            have f_n0 := f_n0.trans (congrArg (fun g => some (hp_m X 3 g)) (show setN (setN (fun _ => 0) 0 (shV (shF a b c1 0 false))) 1 (shV (shF a b c1 1 true)) = shA a b c1 2 from shA_2 a b c1))
            refine W.widen (k := 1) (n := 3) (by decide) (by decide) ?_
            exact hp_rv hx hb hr hlocks hS hH (⟨rfl, f_t, f_n0, fr⟩) dX9_init_85
          · exact absurd c_44 (by decide)
    · exact absurd c_63 (by decide)

set_option maxHeartbeats 4000000 in
set_option maxRecDepth 100000 in
theorem c_X9_init_10 (l : Launch) (X : hp_X) {μ : hp_M} {nx : Nat} {t : Nat} {a b c1 : Int32} (f_t : μ t = some (hp_o 5 [.int (nI 0), .null, .int (nB false), .int (nI 0), .int (nI 0)])) : Ct l X yX9_init cX9_init 6 (none : Option Jvm.ClassFile.FieldType) 2 80 1 3 [.ref t, .int (nI 10), .int a, .int b, .int c1] μ nx (hq_v X (po_v (nx + 1) (fun z => z t = some (hp_o 5 [.int (nI 3), .ref nx, .int (nB false), .int (nI 0), .int (nI 1)]) ∧ z nx = some (hp_m X 3 (shA a b c1 3)) ∧ hp_eq [t, nx] z μ))) := by
  refine hp_met (by decide) (Nat.le_of_ble_eq_true rfl) ?_
  intro p e s m below meth c ls hx hb hml hr hlocks hown hin hS hH hl
  have hl : lv_has ls 6 [(0, .ref t), (1, .int (nI 10)), (2, .int a), (3, .int b), (4, .int c1)] := hl
  have fr : hp_eq [t, nx] μ μ := fun _ _ => rfl
  have hlt_t := hH.lt f_t
  refine lv_aload_n hx hb dX9_init_0 rfl (lv_at hl 0 rfl) ?_
  refine hp_obj hx hb hml hown hS ol_X9_3 hl.1 dX9_init_1 (Nat.le_of_ble_eq_true rfl) (Nat.le_of_ble_eq_true rfl) (Nat.le_of_ble_eq_true rfl) ?_
  refine lv_aload_n hx hb dX9_init_4 rfl (lv_at hl 0 rfl) ?_
  refine lv_iconst (v := nI 0) hx hb dX9_init_5 (by decide) ?_
  refine hp_eqi (z := nB false) (by decide) ?_
  refine hp_put hx hb hown hS.2.1 hH (P_X9_9.use hS) f_t (nB_nar _) (nB_fit _) (Nat.le_of_ble_eq_true rfl) dX9_init_6 (fun H locs μ1 fz fn hH => ?_)
  have f_t : μ1 t = some (hp_o 5 [.int (nI 0), .null, .int (nB false), .int (nI 0), .int (nI 0)]) := fz
  have fr := hp_eq.put fr (by simp) fn
  clear fz fn
  refine lv_aload_n hx hb dX9_init_9 rfl (lv_at hl 0 rfl) ?_
  refine lv_iconst (v := nI 0) hx hb dX9_init_10 (by decide) ?_
  refine hp_put hx hb hown hS.2.1 hH (P_X9_15.use hS) f_t rfl rfl (Nat.le_of_ble_eq_true rfl) dX9_init_11 (fun H locs μ1 fz fn hH => ?_)
  have f_t : μ1 t = some (hp_o 5 [.int (nI 0), .null, .int (nB false), .int (nI 0), .int (nI 0)]) := fz
  have fr := hp_eq.put fr (by simp) fn
  clear fz fn
  refine lv_aload_n hx hb dX9_init_14 rfl (lv_at hl 0 rfl) ?_
  refine lv_iconst (v := nI 1) hx hb dX9_init_15 (by decide) ?_
  refine hp_put hx hb hown hS.2.1 hH (P_X9_19.use hS) f_t rfl rfl (Nat.le_of_ble_eq_true rfl) dX9_init_16 (fun H locs μ1 fz fn hH => ?_)
  have f_t : μ1 t = some (hp_o 5 [.int (nI 0), .null, .int (nB false), .int (nI 0), .int (nI 1)]) := fz
  have fr := hp_eq.put fr (by simp) fn
  clear fz fn
  refine lv_aload_n hx hb dX9_init_19 rfl (lv_at hl 0 rfl) ?_
  refine lv_iload_n hx hb dX9_init_20 rfl (lv_at hl 1 rfl) ?_
  refine lv_iconst (v := nI 1) hx hb dX9_init_21 (by decide) ?_
  refine lv_isub hx hb dX9_init_22 ?_
  refine hp_eqi (z := nI 9) (by decide) ?_
  refine lv_iconst (v := nI 3) hx hb dX9_init_23 (by decide) ?_
  refine lv_idiv hx hb dX9_init_24 (by decide) ?_
  refine hp_eqi (z := nI 3) (by decide) ?_
  refine hp_putF hx hb hown hS.2.1 hH (P_X9_22.use hS) hin f_t rfl rfl (Nat.le_of_ble_eq_true rfl) dX9_init_25 (fun H locs μ1 fz fn hH => ?_)
  have f_t : μ1 t = some (hp_o 5 [.int (nI 3), .null, .int (nB false), .int (nI 0), .int (nI 1)]) := fz
  have fr := hp_eq.put fr (by simp) fn
  clear fz fn
  refine lv_aload_n hx hb dX9_init_28 rfl (lv_at hl 0 rfl) ?_
  refine lv_iconst (v := nI 3) hx hb dX9_init_29 (by decide) ?_
  have hO := hH
  refine hp_newl hx hb (hS.1 _ wi_261 _) hS.nl hH (nI_pos (by omega)) (nI_clamp (by omega)) (by omega) (Nat.le_of_ble_eq_true rfl) (Nat.le_of_ble_eq_true rfl) dX9_init_30 (fun H μ1 fz fn hH => ?_)
  have f_t := (fn _ (Nat.ne_of_lt (hO.lt f_t))).trans f_t
  have f_n0 : μ1 nx = some (hp_m X 3 (fun _ => 0)) := fz
  have fr := hp_eq.put fr (by simp) fn
  clear fz fn hO
  refine hp_putF hx hb hown hS.2.1 hH (P_X9_25.use hS) hin f_t rfl rfl (Nat.le_of_ble_eq_true rfl) dX9_init_32 (fun H locs μ1 fz fn hH => ?_)
  have f_n0 := (fn _ (by omega)).trans f_n0
  have f_t : μ1 t = some (hp_o 5 [.int (nI 3), .ref nx, .int (nB false), .int (nI 0), .int (nI 1)]) := fz
  have fr := hp_eq.put fr (by simp) fn
  clear fz fn
  refine lv_iconst (v := nI 0) hx hb dX9_init_35 (by decide) ?_
  refine lv_istore (lv' := [(5, .int (nI 0)), (0, .ref t), (1, .int (nI 10)), (2, .int a), (3, .int b), (4, .int c1)]) hx hb dX9_init_36 hl (by decide) rfl (fun ls hl => ?_)
  refine lv_iload hx hb dX9_init_38 (lv_at hl 0 rfl) ?_
  refine lv_aload_n hx hb dX9_init_40 rfl (lv_at hl 1 rfl) ?_
  refine hp_get hx hb hown hS.2.1 hH (F_X9_22.use hS) f_t rfl dX9_init_41 ?_
  refine lv_icmp_ge (tgt := 85) hx hb dX9_init_44 (by decide) (fun c_44 => ?_) (fun c_44 => ?_)
  · exact absurd c_44 (by decide)
  · have c_44 : ¬ (3 ≤ 0) := fun z => c_44 ((nI_leI (by omega) (by omega)).mpr z)
    refine lv_aload_n hx hb dX9_init_47 rfl (lv_at hl 1 rfl) ?_
    refine hp_get hx hb hown hS.2.1 hH (F_X9_25.use hS) f_t rfl dX9_init_48 ?_
    refine lv_iload hx hb dX9_init_51 (lv_at hl 0 rfl) ?_
    refine lv_iload hx hb dX9_init_53 (lv_at hl 0 rfl) ?_
    refine lv_iload hx hb dX9_init_55 (lv_at hl 0 rfl) ?_
    refine lv_aload_n hx hb dX9_init_57 rfl (lv_at hl 1 rfl) ?_
    refine hp_get hx hb hown hS.2.1 hH (F_X9_22.use hS) f_t rfl dX9_init_58 ?_
    refine lv_iconst (v := nI 1) hx hb dX9_init_61 (by decide) ?_
    refine lv_isub hx hb dX9_init_62 ?_
    refine hp_eqi (z := nI 2) (by decide) ?_
    refine lv_icmp_ne (tgt := 70) hx hb dX9_init_63 (by decide) (fun c_63 => ?_) (fun c_63 => ?_)
    · have c_63 : ¬ (0 = 2) := fun z => c_63 ((nI_eq (by omega) (by omega)).mpr z)
      refine lv_iconst (v := nI 0) hx hb dX9_init_70 (by decide) ?_
      refine hp_eqi (z := nB false) (by decide) ?_
      refine lv_iload_n hx hb dX9_init_71 rfl (lv_at hl 3 rfl) ?_
      refine lv_iload_n hx hb dX9_init_72 rfl (lv_at hl 4 rfl) ?_
      refine lv_iload hx hb dX9_init_73 (lv_at hl 5 rfl) ?_
      refine hp_klp (hp_runS (As := [.int (nI 0), .int (nB false), .int a, .int b, .int c1]) (rest := [.int (nI 0), .ref nx]) hx hb hml hown hS hH (c_X9_shownAt_false l X (i := 0) (a := a) (b := b) (c1 := c1) (by decide)) M_X9_29 S_X9_shownAt rfl hl.1 rfl (Nat.le_of_ble_eq_true rfl) dX9_init_75 ⟨Nat.le_of_ble_eq_true rfl, Nat.le_of_ble_eq_true rfl⟩ ⟨Nat.le_of_ble_eq_true rfl, Nat.le_of_ble_eq_true rfl⟩) hH (fun H locs hH => ?_)
      refine hp_lastM hx hb hS.al hH f_n0 (by omega) (by omega) dX9_init_78 (fun H locs μ1 fz fn hH => ?_)
      have f_t := (fn _ (by omega)).trans f_t
      have f_n0 : μ1 nx = some (hp_m X 3 (setN (fun _ => 0) 0 (shV (shF a b c1 0 false)))) := fz
      have fr := hp_eq.put fr (by simp) fn
      clear fz fn
      refine lv_iinc (v := nI 1) (lv' := [(5, .int (nI 1)), (0, .ref t), (1, .int (nI 10)), (2, .int a), (3, .int b), (4, .int c1)]) hx hb dX9_init_79 hl (k := 0) rfl (nI_add _ 1) (by decide) rfl (fun ls hl => ?_)
      refine lv_goto (tgt := 38) hx hb dX9_init_82 (by decide) ?_
      refine lv_iload hx hb dX9_init_38 (lv_at hl 0 rfl) ?_
      refine lv_aload_n hx hb dX9_init_40 rfl (lv_at hl 1 rfl) ?_
      refine hp_get hx hb hown hS.2.1 hH (F_X9_22.use hS) f_t rfl dX9_init_41 ?_
      refine lv_icmp_ge (tgt := 85) hx hb dX9_init_44 (by decide) (fun c_44 => ?_) (fun c_44 => ?_)
      · exact absurd c_44 (by decide)
      · have c_44 : ¬ (3 ≤ 1) := fun z => c_44 ((nI_leI (by omega) (by omega)).mpr z)
        refine lv_aload_n hx hb dX9_init_47 rfl (lv_at hl 1 rfl) ?_
        refine hp_get hx hb hown hS.2.1 hH (F_X9_25.use hS) f_t rfl dX9_init_48 ?_
        refine lv_iload hx hb dX9_init_51 (lv_at hl 0 rfl) ?_
        refine lv_iload hx hb dX9_init_53 (lv_at hl 0 rfl) ?_
        refine lv_iload hx hb dX9_init_55 (lv_at hl 0 rfl) ?_
        refine lv_aload_n hx hb dX9_init_57 rfl (lv_at hl 1 rfl) ?_
        refine hp_get hx hb hown hS.2.1 hH (F_X9_22.use hS) f_t rfl dX9_init_58 ?_
        refine lv_iconst (v := nI 1) hx hb dX9_init_61 (by decide) ?_
        refine lv_isub hx hb dX9_init_62 ?_
        refine hp_eqi (z := nI 2) (by decide) ?_
        refine lv_icmp_ne (tgt := 70) hx hb dX9_init_63 (by decide) (fun c_63 => ?_) (fun c_63 => ?_)
        · have c_63 : ¬ (1 = 2) := fun z => c_63 ((nI_eq (by omega) (by omega)).mpr z)
          refine lv_iconst (v := nI 0) hx hb dX9_init_70 (by decide) ?_
          refine hp_eqi (z := nB false) (by decide) ?_
          refine lv_iload_n hx hb dX9_init_71 rfl (lv_at hl 3 rfl) ?_
          refine lv_iload_n hx hb dX9_init_72 rfl (lv_at hl 4 rfl) ?_
          refine lv_iload hx hb dX9_init_73 (lv_at hl 5 rfl) ?_
          refine hp_klp (hp_runS (As := [.int (nI 1), .int (nB false), .int a, .int b, .int c1]) (rest := [.int (nI 1), .ref nx]) hx hb hml hown hS hH (c_X9_shownAt_false l X (i := 1) (a := a) (b := b) (c1 := c1) (by decide)) M_X9_29 S_X9_shownAt rfl hl.1 rfl (Nat.le_of_ble_eq_true rfl) dX9_init_75 ⟨Nat.le_of_ble_eq_true rfl, Nat.le_of_ble_eq_true rfl⟩ ⟨Nat.le_of_ble_eq_true rfl, Nat.le_of_ble_eq_true rfl⟩) hH (fun H locs hH => ?_)
          refine hp_lastM hx hb hS.al hH f_n0 (by omega) (by omega) dX9_init_78 (fun H locs μ1 fz fn hH => ?_)
          have f_t := (fn _ (by omega)).trans f_t
          have f_n0 : μ1 nx = some (hp_m X 3 (setN (setN (fun _ => 0) 0 (shV (shF a b c1 0 false))) 1 (shV (shF a b c1 1 false)))) := fz
          have fr := hp_eq.put fr (by simp) fn
          clear fz fn
          refine lv_iinc (v := nI 2) (lv' := [(5, .int (nI 2)), (0, .ref t), (1, .int (nI 10)), (2, .int a), (3, .int b), (4, .int c1)]) hx hb dX9_init_79 hl (k := 0) rfl (nI_add _ 1) (by decide) rfl (fun ls hl => ?_)
          refine lv_goto (tgt := 38) hx hb dX9_init_82 (by decide) ?_
          refine lv_iload hx hb dX9_init_38 (lv_at hl 0 rfl) ?_
          refine lv_aload_n hx hb dX9_init_40 rfl (lv_at hl 1 rfl) ?_
          refine hp_get hx hb hown hS.2.1 hH (F_X9_22.use hS) f_t rfl dX9_init_41 ?_
          refine lv_icmp_ge (tgt := 85) hx hb dX9_init_44 (by decide) (fun c_44 => ?_) (fun c_44 => ?_)
          · exact absurd c_44 (by decide)
          · have c_44 : ¬ (3 ≤ 2) := fun z => c_44 ((nI_leI (by omega) (by omega)).mpr z)
            refine lv_aload_n hx hb dX9_init_47 rfl (lv_at hl 1 rfl) ?_
            refine hp_get hx hb hown hS.2.1 hH (F_X9_25.use hS) f_t rfl dX9_init_48 ?_
            refine lv_iload hx hb dX9_init_51 (lv_at hl 0 rfl) ?_
            refine lv_iload hx hb dX9_init_53 (lv_at hl 0 rfl) ?_
            refine lv_iload hx hb dX9_init_55 (lv_at hl 0 rfl) ?_
            refine lv_aload_n hx hb dX9_init_57 rfl (lv_at hl 1 rfl) ?_
            refine hp_get hx hb hown hS.2.1 hH (F_X9_22.use hS) f_t rfl dX9_init_58 ?_
            refine lv_iconst (v := nI 1) hx hb dX9_init_61 (by decide) ?_
            refine lv_isub hx hb dX9_init_62 ?_
            refine hp_eqi (z := nI 2) (by decide) ?_
            refine lv_icmp_ne (tgt := 70) hx hb dX9_init_63 (by decide) (fun c_63 => ?_) (fun c_63 => ?_)
            · exact absurd c_63 (by decide)
            · have c_63 : 2 = 2 := (nI_eq (by omega) (by omega)).mp c_63
              refine lv_iconst (v := nI 1) hx hb dX9_init_66 (by decide) ?_
              refine lv_goto (tgt := 71) hx hb dX9_init_67 (by decide) ?_
              refine hp_eqi (z := nB true) (by decide) ?_
              refine lv_iload_n hx hb dX9_init_71 rfl (lv_at hl 3 rfl) ?_
              refine lv_iload_n hx hb dX9_init_72 rfl (lv_at hl 4 rfl) ?_
              refine lv_iload hx hb dX9_init_73 (lv_at hl 5 rfl) ?_
              refine hp_klp (hp_runS (As := [.int (nI 2), .int (nB true), .int a, .int b, .int c1]) (rest := [.int (nI 2), .ref nx]) hx hb hml hown hS hH (c_X9_shownAt_true l X (i := 2) (a := a) (b := b) (c1 := c1) (by decide)) M_X9_29 S_X9_shownAt rfl hl.1 rfl (Nat.le_of_ble_eq_true rfl) dX9_init_75 ⟨Nat.le_of_ble_eq_true rfl, Nat.le_of_ble_eq_true rfl⟩ ⟨Nat.le_of_ble_eq_true rfl, Nat.le_of_ble_eq_true rfl⟩) hH (fun H locs hH => ?_)
              refine hp_lastM hx hb hS.al hH f_n0 (by omega) (by omega) dX9_init_78 (fun H locs μ1 fz fn hH => ?_)
              have f_t := (fn _ (by omega)).trans f_t
              have f_n0 : μ1 nx = some (hp_m X 3 (setN (setN (setN (fun _ => 0) 0 (shV (shF a b c1 0 false))) 1 (shV (shF a b c1 1 false))) 2 (shV (shF a b c1 2 true)))) := fz
              have fr := hp_eq.put fr (by simp) fn
              clear fz fn
              refine lv_iinc (v := nI 3) (lv' := [(5, .int (nI 3)), (0, .ref t), (1, .int (nI 10)), (2, .int a), (3, .int b), (4, .int c1)]) hx hb dX9_init_79 hl (k := 0) rfl (nI_add _ 1) (by decide) rfl (fun ls hl => ?_)
              refine lv_goto (tgt := 38) hx hb dX9_init_82 (by decide) ?_
              refine lv_iload hx hb dX9_init_38 (lv_at hl 0 rfl) ?_
              refine lv_aload_n hx hb dX9_init_40 rfl (lv_at hl 1 rfl) ?_
              refine hp_get hx hb hown hS.2.1 hH (F_X9_22.use hS) f_t rfl dX9_init_41 ?_
              refine lv_icmp_ge (tgt := 85) hx hb dX9_init_44 (by decide) (fun c_44 => ?_) (fun c_44 => ?_)
              · have c_44 : 3 ≤ 3 := (nI_leI (by omega) (by omega)).mp c_44
                have f_n0 := f_n0.trans (congrArg (fun g => some (hp_m X 3 g)) (show setN (setN (setN (fun _ => 0) 0 (shV (shF a b c1 0 false))) 1 (shV (shF a b c1 1 false))) 2 (shV (shF a b c1 2 true)) = shA a b c1 3 from shA_3 a b c1))
                refine W.widen (k := 1) (n := 3) (by decide) (by decide) ?_
                exact hp_rv hx hb hr hlocks hS hH (⟨rfl, f_t, f_n0, fr⟩) dX9_init_85
              · exact absurd c_44 (by decide)
        · exact absurd c_63 (by decide)
    · exact absurd c_63 (by decide)

set_option maxHeartbeats 4000000 in
set_option maxRecDepth 100000 in
theorem c_X9_looksUnfinished (l : Launch) (X : hp_X) {μ : hp_M} {nx : Nat} {t s1 lv st le : Nat} {aw : Bool} {sh : Nat → Nat} (hsh : ∀ j, sh j < 2 ^ 40) (hl1 : 1 ≤ lv) (hl3 : lv ≤ 3) (f_t : μ t = some (hp_o 5 [.int (nI lv), .ref s1, .int (nB aw), .int (nI st), .int (nI le)])) (f_s : μ s1 = some (hp_m X 3 sh)) : Ct l X yX9_looksUnfinished cX9_looksUnfinished 1 (some FieldType.boolean) 0 0 0 0 [.ref t] μ nx (hq_i X (po_i nx (nB (decide (sh (lv - 1) % 256 = 136))) (fun z => z = μ))) := by
  refine hp_met (by decide) (Nat.le_of_ble_eq_true rfl) ?_
  intro p e s m below meth c ls hx hb hml hr hlocks hown hin hS hH hl
  have hl : lv_has ls 1 [(0, .ref t)] := hl
  refine lv_aload_n hx hb dX9_looksUnfinished_0 rfl (lv_at hl 0 rfl) ?_
  refine hp_get hx hb hown hS.2.1 hH (F_X9_25.use hS) f_t rfl dX9_looksUnfinished_1 ?_
  refine lv_aload_n hx hb dX9_looksUnfinished_4 rfl (lv_at hl 0 rfl) ?_
  refine hp_get hx hb hown hS.2.1 hH (F_X9_22.use hS) f_t rfl dX9_looksUnfinished_5 ?_
  refine lv_iconst (v := nI 1) hx hb dX9_looksUnfinished_8 (by decide) ?_
  refine lv_isub hx hb dX9_looksUnfinished_9 ?_
  refine hp_eqi (z := nI (lv - 1)) (pk_sub (by omega)) ?_
  have hsl := hsh (lv - 1)
  refine hp_laldM hx hb hS.al hH f_s (by omega) (by omega) dX9_looksUnfinished_10 ?_
  refine lv_ldc2 hx hb hown (hS.1 _ wi_244 _) dX9_looksUnfinished_11 ?_
  refine hp_eql (z := lN 255) (by decide) ?_
  refine lv_land hx hb dX9_looksUnfinished_14 ?_
  refine hp_eql (z := lN (sh (lv - 1) % 256)) (wb_mask (k := 8) (by omega) (by decide)) ?_
  refine lv_ldc2 hx hb hown (hS.1 _ wi_240 _) dX9_looksUnfinished_15 ?_
  refine hp_eql (z := lN 136) (by decide) ?_
  refine W.lcmp hx hb dX9_looksUnfinished_18 ?_
  refine lv_if_ne (tgt := 26) hx hb dX9_looksUnfinished_19 (by decide) (fun c_19 => ?_) (fun c_19 => ?_)
  · have c_19 : ¬ ((sh (lv - 1) % 256) = 136) := fun q => c_19 ((lg_cmp_eq _ _).mpr ((pk_lEQ (by omega) (by omega)).mpr q))
    refine lv_iconst (v := nI 0) hx hb dX9_looksUnfinished_26 (by decide) ?_
    refine hp_eqi (z := nB false) (by decide) ?_
    exact hp_rz hx hb hr hlocks hS hH (nB_nar _) (⟨rfl, congrArg nB (Eq.symm (by simp [c_19])), rfl⟩) dX9_looksUnfinished_27
  · have c_19 : (sh (lv - 1) % 256) = 136 := (pk_lEQ (by omega) (by omega)).mp ((lg_cmp_eq _ _).mp c_19)
    refine lv_iconst (v := nI 1) hx hb dX9_looksUnfinished_22 (by decide) ?_
    refine lv_goto (tgt := 27) hx hb dX9_looksUnfinished_23 (by decide) ?_
    refine hp_eqi (z := nB true) (by decide) ?_
    exact hp_rz hx hb hr hlocks hS hH (nB_nar _) (⟨rfl, congrArg nB (Eq.symm (by simp [c_19])), rfl⟩) dX9_looksUnfinished_27

set_option maxHeartbeats 4000000 in
set_option maxRecDepth 100000 in
theorem c_X9_hasNumberOf (l : Launch) (X : hp_X) {μ : hp_M} {nx : Nat} {t s1 lv st le : Nat} {aw : Bool} {sh : Nat → Nat} {t2 s2 lv2 st2 le2 : Nat} {aw2 : Bool} {sh2 : Nat → Nat} (hsh : ∀ j, sh j < 2 ^ 40) (hsh2 : ∀ j, sh2 j < 2 ^ 40) (hl3 : lv ≤ 3) (hl4 : lv2 ≤ 3) (f_t : μ t = some (hp_o 5 [.int (nI lv), .ref s1, .int (nB aw), .int (nI st), .int (nI le)])) (f_s : μ s1 = some (hp_m X 3 sh)) (f_t2 : μ t2 = some (hp_o 5 [.int (nI lv2), .ref s2, .int (nB aw2), .int (nI st2), .int (nI le2)])) (f_s2 : μ s2 = some (hp_m X 3 sh2)) : Ct l X yX9_hasNumberOf cX9_hasNumberOf 3 (some FieldType.boolean) 0 0 0 0 [.ref t, .ref t2] μ nx (hq_i X (po_i nx (nB (decide (sh 0 = sh2 0 ∧ sh 1 = sh2 1 ∧ sh 2 = sh2 2 ∧ lv = lv2))) (fun z => z = μ))) := by
  refine hp_met (by decide) (Nat.le_of_ble_eq_true rfl) ?_
  intro p e s m below meth c ls hx hb hml hr hlocks hown hin hS hH hl
  have hl : lv_has ls 3 [(0, .ref t), (1, .ref t2)] := hl
  refine lv_iconst (v := nI 0) hx hb dX9_hasNumberOf_0 (by decide) ?_
  refine lv_istore_n (lv' := [(2, .int (nI 0)), (0, .ref t), (1, .ref t2)]) hx hb dX9_hasNumberOf_1 rfl hl (by decide) rfl (fun ls hl => ?_)
  refine lv_iload_n hx hb dX9_hasNumberOf_2 rfl (lv_at hl 0 rfl) ?_
  refine lv_iconst (v := nI 3) hx hb dX9_hasNumberOf_3 (by decide) ?_
  refine lv_icmp_ge (tgt := 31) hx hb dX9_hasNumberOf_4 (by decide) (fun c_4 => ?_) (fun c_4 => ?_)
  · exact absurd c_4 (by decide)
  · have c_4 : ¬ (3 ≤ 0) := fun z => c_4 ((nI_leI (by omega) (by omega)).mpr z)
    refine lv_aload_n hx hb dX9_hasNumberOf_7 rfl (lv_at hl 1 rfl) ?_
    refine hp_get hx hb hown hS.2.1 hH (F_X9_25.use hS) f_t rfl dX9_hasNumberOf_8 ?_
    refine lv_iload_n hx hb dX9_hasNumberOf_11 rfl (lv_at hl 0 rfl) ?_
    refine hp_laldM hx hb hS.al hH f_s (by omega) (by omega) dX9_hasNumberOf_12 ?_
    refine lv_aload_n hx hb dX9_hasNumberOf_13 rfl (lv_at hl 2 rfl) ?_
    refine hp_get hx hb hown hS.2.1 hH (F_X9_25.use hS) f_t2 rfl dX9_hasNumberOf_14 ?_
    refine lv_iload_n hx hb dX9_hasNumberOf_17 rfl (lv_at hl 0 rfl) ?_
    refine hp_laldM hx hb hS.al hH f_s2 (by omega) (by omega) dX9_hasNumberOf_18 ?_
    have hsl := hsh 0
    have hsl2 := hsh2 0
    refine W.lcmp hx hb dX9_hasNumberOf_19 ?_
    refine lv_if_eq (tgt := 25) hx hb dX9_hasNumberOf_20 (by decide) (fun c_20 => ?_) (fun c_20 => ?_)
    · have c_20 : (sh 0) = (sh2 0) := (pk_lEQ (by omega) (by omega)).mp ((lg_cmp_eq _ _).mp c_20)
      have e0 := c_20
      refine lv_iinc (v := nI 1) (lv' := [(2, .int (nI 1)), (0, .ref t), (1, .ref t2)]) hx hb dX9_hasNumberOf_25 hl (k := 0) rfl (nI_add _ 1) (by decide) rfl (fun ls hl => ?_)
      refine lv_goto (tgt := 2) hx hb dX9_hasNumberOf_28 (by decide) ?_
      refine lv_iload_n hx hb dX9_hasNumberOf_2 rfl (lv_at hl 0 rfl) ?_
      refine lv_iconst (v := nI 3) hx hb dX9_hasNumberOf_3 (by decide) ?_
      refine lv_icmp_ge (tgt := 31) hx hb dX9_hasNumberOf_4 (by decide) (fun c_4 => ?_) (fun c_4 => ?_)
      · exact absurd c_4 (by decide)
      · have c_4 : ¬ (3 ≤ 1) := fun z => c_4 ((nI_leI (by omega) (by omega)).mpr z)
        refine lv_aload_n hx hb dX9_hasNumberOf_7 rfl (lv_at hl 1 rfl) ?_
        refine hp_get hx hb hown hS.2.1 hH (F_X9_25.use hS) f_t rfl dX9_hasNumberOf_8 ?_
        refine lv_iload_n hx hb dX9_hasNumberOf_11 rfl (lv_at hl 0 rfl) ?_
        refine hp_laldM hx hb hS.al hH f_s (by omega) (by omega) dX9_hasNumberOf_12 ?_
        refine lv_aload_n hx hb dX9_hasNumberOf_13 rfl (lv_at hl 2 rfl) ?_
        refine hp_get hx hb hown hS.2.1 hH (F_X9_25.use hS) f_t2 rfl dX9_hasNumberOf_14 ?_
        refine lv_iload_n hx hb dX9_hasNumberOf_17 rfl (lv_at hl 0 rfl) ?_
        refine hp_laldM hx hb hS.al hH f_s2 (by omega) (by omega) dX9_hasNumberOf_18 ?_
        have hsl := hsh 1
        have hsl2 := hsh2 1
        refine W.lcmp hx hb dX9_hasNumberOf_19 ?_
        refine lv_if_eq (tgt := 25) hx hb dX9_hasNumberOf_20 (by decide) (fun c_20 => ?_) (fun c_20 => ?_)
        · have c_20 : (sh 1) = (sh2 1) := (pk_lEQ (by omega) (by omega)).mp ((lg_cmp_eq _ _).mp c_20)
          have e1 := c_20
          refine lv_iinc (v := nI 2) (lv' := [(2, .int (nI 2)), (0, .ref t), (1, .ref t2)]) hx hb dX9_hasNumberOf_25 hl (k := 0) rfl (nI_add _ 1) (by decide) rfl (fun ls hl => ?_)
          refine lv_goto (tgt := 2) hx hb dX9_hasNumberOf_28 (by decide) ?_
          refine lv_iload_n hx hb dX9_hasNumberOf_2 rfl (lv_at hl 0 rfl) ?_
          refine lv_iconst (v := nI 3) hx hb dX9_hasNumberOf_3 (by decide) ?_
          refine lv_icmp_ge (tgt := 31) hx hb dX9_hasNumberOf_4 (by decide) (fun c_4 => ?_) (fun c_4 => ?_)
          · exact absurd c_4 (by decide)
          · have c_4 : ¬ (3 ≤ 2) := fun z => c_4 ((nI_leI (by omega) (by omega)).mpr z)
            refine lv_aload_n hx hb dX9_hasNumberOf_7 rfl (lv_at hl 1 rfl) ?_
            refine hp_get hx hb hown hS.2.1 hH (F_X9_25.use hS) f_t rfl dX9_hasNumberOf_8 ?_
            refine lv_iload_n hx hb dX9_hasNumberOf_11 rfl (lv_at hl 0 rfl) ?_
            refine hp_laldM hx hb hS.al hH f_s (by omega) (by omega) dX9_hasNumberOf_12 ?_
            refine lv_aload_n hx hb dX9_hasNumberOf_13 rfl (lv_at hl 2 rfl) ?_
            refine hp_get hx hb hown hS.2.1 hH (F_X9_25.use hS) f_t2 rfl dX9_hasNumberOf_14 ?_
            refine lv_iload_n hx hb dX9_hasNumberOf_17 rfl (lv_at hl 0 rfl) ?_
            refine hp_laldM hx hb hS.al hH f_s2 (by omega) (by omega) dX9_hasNumberOf_18 ?_
            have hsl := hsh 2
            have hsl2 := hsh2 2
            refine W.lcmp hx hb dX9_hasNumberOf_19 ?_
            refine lv_if_eq (tgt := 25) hx hb dX9_hasNumberOf_20 (by decide) (fun c_20 => ?_) (fun c_20 => ?_)
            · have c_20 : (sh 2) = (sh2 2) := (pk_lEQ (by omega) (by omega)).mp ((lg_cmp_eq _ _).mp c_20)
              have e2 := c_20
              refine lv_iinc (v := nI 3) (lv' := [(2, .int (nI 3)), (0, .ref t), (1, .ref t2)]) hx hb dX9_hasNumberOf_25 hl (k := 0) rfl (nI_add _ 1) (by decide) rfl (fun ls hl => ?_)
              refine lv_goto (tgt := 2) hx hb dX9_hasNumberOf_28 (by decide) ?_
              refine lv_iload_n hx hb dX9_hasNumberOf_2 rfl (lv_at hl 0 rfl) ?_
              refine lv_iconst (v := nI 3) hx hb dX9_hasNumberOf_3 (by decide) ?_
              refine lv_icmp_ge (tgt := 31) hx hb dX9_hasNumberOf_4 (by decide) (fun c_4 => ?_) (fun c_4 => ?_)
              · have c_4 : 3 ≤ 3 := (nI_leI (by omega) (by omega)).mp c_4
                refine lv_aload_n hx hb dX9_hasNumberOf_31 rfl (lv_at hl 1 rfl) ?_
                refine hp_get hx hb hown hS.2.1 hH (F_X9_22.use hS) f_t rfl dX9_hasNumberOf_32 ?_
                refine lv_aload_n hx hb dX9_hasNumberOf_35 rfl (lv_at hl 2 rfl) ?_
                refine hp_get hx hb hown hS.2.1 hH (F_X9_22.use hS) f_t2 rfl dX9_hasNumberOf_36 ?_
                refine lv_icmp_ne (tgt := 46) hx hb dX9_hasNumberOf_39 (by decide) (fun c_39 => ?_) (fun c_39 => ?_)
                · have c_39 : ¬ (lv = lv2) := fun z => c_39 ((nI_eq (by omega) (by omega)).mpr z)
                  refine lv_iconst (v := nI 0) hx hb dX9_hasNumberOf_46 (by decide) ?_
                  refine hp_eqi (z := nB false) (by decide) ?_
                  exact hp_rz hx hb hr hlocks hS hH (nB_nar _) (⟨rfl, congrArg nB (Eq.symm (by simp [e0, e1, e2, c_39])), rfl⟩) dX9_hasNumberOf_47
                · have c_39 : lv = lv2 := (nI_eq (by omega) (by omega)).mp c_39
                  refine lv_iconst (v := nI 1) hx hb dX9_hasNumberOf_42 (by decide) ?_
                  refine lv_goto (tgt := 47) hx hb dX9_hasNumberOf_43 (by decide) ?_
                  refine hp_eqi (z := nB true) (by decide) ?_
                  exact hp_rz hx hb hr hlocks hS hH (nB_nar _) (⟨rfl, congrArg nB (Eq.symm (by simp [e0, e1, e2, c_39])), rfl⟩) dX9_hasNumberOf_47
              · exact absurd c_4 (by decide)
            · have c_20 : ¬ ((sh 2) = (sh2 2)) := fun q => c_20 ((lg_cmp_eq _ _).mpr ((pk_lEQ (by omega) (by omega)).mpr q))
              have e2 := c_20
              refine lv_iconst (v := nI 0) hx hb dX9_hasNumberOf_23 (by decide) ?_
              refine hp_eqi (z := nB false) (by decide) ?_
              exact hp_rz hx hb hr hlocks hS hH (nB_nar _) (⟨rfl, congrArg nB (Eq.symm (by simp [e0, e1, e2])), rfl⟩) dX9_hasNumberOf_24
        · have c_20 : ¬ ((sh 1) = (sh2 1)) := fun q => c_20 ((lg_cmp_eq _ _).mpr ((pk_lEQ (by omega) (by omega)).mpr q))
          have e1 := c_20
          refine lv_iconst (v := nI 0) hx hb dX9_hasNumberOf_23 (by decide) ?_
          refine hp_eqi (z := nB false) (by decide) ?_
          exact hp_rz hx hb hr hlocks hS hH (nB_nar _) (⟨rfl, congrArg nB (Eq.symm (by simp [e0, e1])), rfl⟩) dX9_hasNumberOf_24
    · have c_20 : ¬ ((sh 0) = (sh2 0)) := fun q => c_20 ((lg_cmp_eq _ _).mpr ((pk_lEQ (by omega) (by omega)).mpr q))
      have e0 := c_20
      refine lv_iconst (v := nI 0) hx hb dX9_hasNumberOf_23 (by decide) ?_
      refine hp_eqi (z := nB false) (by decide) ?_
      exact hp_rz hx hb hr hlocks hS hH (nB_nar _) (⟨rfl, congrArg nB (Eq.symm (by simp [e0])), rfl⟩) dX9_hasNumberOf_24

set_option maxHeartbeats 4000000 in
set_option maxRecDepth 100000 in
theorem c_X9_beginAnew (l : Launch) (X : hp_X) {μ : hp_M} {nx : Nat} {t s1 lv st le : Nat} {aw : Bool} {on : Bool} (f_t : μ t = some (hp_o 5 [.int (nI lv), .ref s1, .int (nB aw), .int (nI st), .int (nI le)])) : Ct l X yX9_beginAnew cX9_beginAnew 2 (none : Option Jvm.ClassFile.FieldType) 0 0 0 0 [.ref t, .int (nB on)] μ nx (hq_v X (po_v nx (fun z => z t = some (hp_o 5 [.int (nI lv), .ref s1, .int (nB aw), .int (nI (if on = true ∧ aw = false then 1 else 0)), .int (nI le)]) ∧ hp_eq [t] z μ))) := by
  refine hp_met (by decide) (Nat.le_of_ble_eq_true rfl) ?_
  intro p e s m below meth c ls hx hb hml hr hlocks hown hin hS hH hl
  have hl : lv_has ls 2 [(0, .ref t), (1, .int (nB on))] := hl
  have fr : hp_eq [t] μ μ := fun _ _ => rfl
  refine lv_aload_n hx hb dX9_beginAnew_0 rfl (lv_at hl 0 rfl) ?_
  refine lv_iload_n hx hb dX9_beginAnew_1 rfl (lv_at hl 1 rfl) ?_
  refine lv_if_eq (tgt := 16) hx hb dX9_beginAnew_2 (by decide) (fun c_2 => ?_) (fun c_2 => ?_)
  · have c_2 : on = false := nB_0 c_2
    refine lv_iconst (v := nI 0) hx hb dX9_beginAnew_16 (by decide) ?_
    refine hp_put hx hb hown hS.2.1 hH (P_X9_15.use hS) f_t rfl rfl (Nat.le_of_ble_eq_true rfl) dX9_beginAnew_17 (fun H locs μ1 fz fn hH => ?_)
    have f_t : μ1 t = some (hp_o 5 [.int (nI lv), .ref s1, .int (nB aw), .int (nI 0), .int (nI le)]) := fz
    have fr := hp_eq.put fr (by simp) fn
    clear fz fn
    exact hp_rv hx hb hr hlocks hS hH (⟨rfl, f_t.trans (by simp [c_2]), fr⟩) dX9_beginAnew_20
  · have c_2 : on = true := nB_n c_2
    refine lv_aload_n hx hb dX9_beginAnew_5 rfl (lv_at hl 0 rfl) ?_
    refine hp_get hx hb hown hS.2.1 hH (F_X9_9.use hS) f_t rfl dX9_beginAnew_6 ?_
    refine lv_if_ne (tgt := 16) hx hb dX9_beginAnew_9 (by decide) (fun c_9 => ?_) (fun c_9 => ?_)
    · have c_9 : aw = true := nB_n c_9
      refine lv_iconst (v := nI 0) hx hb dX9_beginAnew_16 (by decide) ?_
      refine hp_put hx hb hown hS.2.1 hH (P_X9_15.use hS) f_t rfl rfl (Nat.le_of_ble_eq_true rfl) dX9_beginAnew_17 (fun H locs μ1 fz fn hH => ?_)
      have f_t : μ1 t = some (hp_o 5 [.int (nI lv), .ref s1, .int (nB aw), .int (nI 0), .int (nI le)]) := fz
      have fr := hp_eq.put fr (by simp) fn
      clear fz fn
      exact hp_rv hx hb hr hlocks hS hH (⟨rfl, f_t.trans (by simp [c_2, c_9]), fr⟩) dX9_beginAnew_20
    · have c_9 : aw = false := nB_0 c_9
      refine lv_iconst (v := nI 1) hx hb dX9_beginAnew_12 (by decide) ?_
      refine lv_goto (tgt := 17) hx hb dX9_beginAnew_13 (by decide) ?_
      refine hp_put hx hb hown hS.2.1 hH (P_X9_15.use hS) f_t rfl rfl (Nat.le_of_ble_eq_true rfl) dX9_beginAnew_17 (fun H locs μ1 fz fn hH => ?_)
      have f_t : μ1 t = some (hp_o 5 [.int (nI lv), .ref s1, .int (nB aw), .int (nI 1), .int (nI le)]) := fz
      have fr := hp_eq.put fr (by simp) fn
      clear fz fn
      exact hp_rv hx hb hr hlocks hS hH (⟨rfl, f_t.trans (by simp [c_2, c_9]), fr⟩) dX9_beginAnew_20

set_option maxHeartbeats 4000000 in
set_option maxRecDepth 100000 in
theorem c_X9_move (l : Launch) (X : hp_X) {μ : hp_M} {nx : Nat} {t s1 lv st le : Nat} {aw : Bool} {is on : Bool} (f_t : μ t = some (hp_o 5 [.int (nI lv), .ref s1, .int (nB aw), .int (nI st), .int (nI le)])) : Ct l X yX9_move cX9_move 3 (some FieldType.boolean) 1 40 0 0 [.ref t, .int (nB is), .int (nB on)] μ nx (hq_i X (po_i nx (nB (decide (¬ aw = is))) (fun z => z t = some (hp_o 5 [.int (nI lv), .ref s1, .int (nB is), .int (nI (if aw = is then st else if on = true ∧ is = false then 1 else 0)), .int (nI le)]) ∧ hp_eq [t] z μ))) := by
  refine hp_met (by decide) (Nat.le_of_ble_eq_true rfl) ?_
  intro p e s m below meth c ls hx hb hml hr hlocks hown hin hS hH hl
  have hl : lv_has ls 3 [(0, .ref t), (1, .int (nB is)), (2, .int (nB on))] := hl
  have fr : hp_eq [t] μ μ := fun _ _ => rfl
  refine lv_aload_n hx hb dX9_move_0 rfl (lv_at hl 0 rfl) ?_
  refine hp_get hx hb hown hS.2.1 hH (F_X9_9.use hS) f_t rfl dX9_move_1 ?_
  refine lv_iload_n hx hb dX9_move_4 rfl (lv_at hl 1 rfl) ?_
  refine lv_icmp_ne (tgt := 10) hx hb dX9_move_5 (by decide) (fun c_5 => ?_) (fun c_5 => ?_)
  · have c_5 : ¬ (aw = is) := fun z => c_5 (nB_eq.mpr z)
    refine lv_aload_n hx hb dX9_move_10 rfl (lv_at hl 0 rfl) ?_
    refine lv_iload_n hx hb dX9_move_11 rfl (lv_at hl 1 rfl) ?_
    refine hp_put hx hb hown hS.2.1 hH (P_X9_9.use hS) f_t (nB_nar _) (nB_fit _) (Nat.le_of_ble_eq_true rfl) dX9_move_12 (fun H locs μ1 fz fn hH => ?_)
    have f_t : μ1 t = some (hp_o 5 [.int (nI lv), .ref s1, .int (nB is), .int (nI st), .int (nI le)]) := fz
    have fr := hp_eq.put fr (by simp) fn
    clear fz fn
    refine lv_aload_n hx hb dX9_move_15 rfl (lv_at hl 0 rfl) ?_
    refine lv_iload_n hx hb dX9_move_16 rfl (lv_at hl 2 rfl) ?_
    refine hp_kvm (hp_runV (As := [.int (nB on)]) (rest := []) hx hb hml hown hS hH (c_X9_beginAnew l X (on := on) f_t) M_X9_41 I_X9_beginAnew V_X9_beginAnew (ci := 5) rfl rfl f_t rfl hl.1 rfl (Nat.le_of_ble_eq_true rfl) dX9_move_17 ⟨Nat.le_of_ble_eq_true rfl, Nat.le_of_ble_eq_true rfl⟩ ⟨Nat.le_of_ble_eq_true rfl, Nat.le_of_ble_eq_true rfl⟩) hH (fun μ1 H locs hp hH => ?_)
    obtain ⟨fz0, fe⟩ := hp
    have f_t : μ1 t = some (hp_o 5 [.int (nI lv), .ref s1, .int (nB is), .int (nI (if on = true ∧ is = false then 1 else 0)), .int (nI le)]) := fz0
    have fr := hp_eq.tr1 fe fr (by simp)
    clear fe fz0
    refine lv_iconst (v := nI 1) hx hb dX9_move_20 (by decide) ?_
    refine hp_eqi (z := nB true) (by decide) ?_
    exact hp_rz hx hb hr hlocks hS hH (nB_nar _) (⟨rfl, congrArg nB (Eq.symm (by simp [c_5])), f_t.trans (by simp [c_5]), fr⟩) dX9_move_21
  · have c_5 : aw = is := nB_eq.mp c_5
    refine lv_iconst (v := nI 0) hx hb dX9_move_8 (by decide) ?_
    refine hp_eqi (z := nB false) (by decide) ?_
    exact hp_rz hx hb hr hlocks hS hH (nB_nar _) (⟨rfl, congrArg nB (Eq.symm (by simp [c_5])), f_t.trans (by simp [c_5]), fr⟩) dX9_move_9

set_option maxHeartbeats 4000000 in
set_option maxRecDepth 100000 in
theorem c_X9_stateAndLevel (l : Launch) (X : hp_X) {μ : hp_M} {nx : Nat} {t s1 lv st le : Nat} {aw : Bool} (hst : st < 8) (hle : 1 ≤ le) (hle3 : le ≤ 3) (f_t : μ t = some (hp_o 5 [.int (nI lv), .ref s1, .int (nB aw), .int (nI st), .int (nI le)])) : Ct l X yX9_stateAndLevel cX9_stateAndLevel 2 (some FieldType.int) 0 0 0 0 [.ref t] μ nx (hq_i X (po_i nx (nI (if st = 2 ∨ st = 5 then st + 10 * (le - 1) else st)) (fun z => z = μ))) := by
  refine hp_met (by decide) (Nat.le_of_ble_eq_true rfl) ?_
  intro p e s m below meth c ls hx hb hml hr hlocks hown hin hS hH hl
  have hl : lv_has ls 2 [(0, .ref t)] := hl
  refine lv_aload_n hx hb dX9_stateAndLevel_0 rfl (lv_at hl 0 rfl) ?_
  refine hp_get hx hb hown hS.2.1 hH (F_X9_15.use hS) f_t rfl dX9_stateAndLevel_1 ?_
  refine lv_iconst (v := nI 2) hx hb dX9_stateAndLevel_4 (by decide) ?_
  refine lv_icmp_eq (tgt := 16) hx hb dX9_stateAndLevel_5 (by decide) (fun c_5 => ?_) (fun c_5 => ?_)
  · have c_5 : st = 2 := (nI_eq (by omega) (by omega)).mp c_5
    refine lv_iconst (v := nI 1) hx hb dX9_stateAndLevel_16 (by decide) ?_
    refine lv_goto (tgt := 21) hx hb dX9_stateAndLevel_17 (by decide) ?_
    refine lv_istore_n (lv' := [(1, .int (nI 1)), (0, .ref t)]) hx hb dX9_stateAndLevel_21 rfl hl (by decide) rfl (fun ls hl => ?_)
    refine lv_iload_n hx hb dX9_stateAndLevel_22 rfl (lv_at hl 0 rfl) ?_
    refine lv_if_eq (tgt := 43) hx hb dX9_stateAndLevel_23 (by decide) (fun c_23 => ?_) (fun c_23 => ?_)
    · exact absurd c_23 (by decide)
    · have c_23 : ¬ (1 = 0) := nz_n (by omega) c_23
      refine lv_aload_n hx hb dX9_stateAndLevel_26 rfl (lv_at hl 1 rfl) ?_
      refine hp_get hx hb hown hS.2.1 hH (F_X9_15.use hS) f_t rfl dX9_stateAndLevel_27 ?_
      refine lv_bipush (v := nI 10) hx hb dX9_stateAndLevel_30 (by decide) ?_
      refine lv_aload_n hx hb dX9_stateAndLevel_32 rfl (lv_at hl 1 rfl) ?_
      refine hp_get hx hb hown hS.2.1 hH (F_X9_19.use hS) f_t rfl dX9_stateAndLevel_33 ?_
      refine lv_iconst (v := nI 1) hx hb dX9_stateAndLevel_36 (by decide) ?_
      refine lv_isub hx hb dX9_stateAndLevel_37 ?_
      refine hp_eqi (z := nI (le - 1)) (pk_sub (by omega)) ?_
      refine lv_imul hx hb dX9_stateAndLevel_38 ?_
      refine hp_eqi (z := nI (10 * (le - 1))) (pk_mul _ _) ?_
      refine lv_iadd hx hb dX9_stateAndLevel_39 ?_
      refine hp_eqi (z := nI (st + (10 * (le - 1)))) (nI_add _ _) ?_
      refine lv_goto (tgt := 47) hx hb dX9_stateAndLevel_40 (by decide) ?_
      exact hp_ri hx hb hr hlocks hS hH (⟨rfl, congrArg nI (Eq.symm (by simp [c_5, c_23])), rfl⟩) dX9_stateAndLevel_47
  · have c_5 : ¬ (st = 2) := fun z => c_5 ((nI_eq (by omega) (by omega)).mpr z)
    refine lv_aload_n hx hb dX9_stateAndLevel_8 rfl (lv_at hl 0 rfl) ?_
    refine hp_get hx hb hown hS.2.1 hH (F_X9_15.use hS) f_t rfl dX9_stateAndLevel_9 ?_
    refine lv_iconst (v := nI 5) hx hb dX9_stateAndLevel_12 (by decide) ?_
    refine lv_icmp_ne (tgt := 20) hx hb dX9_stateAndLevel_13 (by decide) (fun c_13 => ?_) (fun c_13 => ?_)
    · have c_13 : ¬ (st = 5) := fun z => c_13 ((nI_eq (by omega) (by omega)).mpr z)
      refine lv_iconst (v := nI 0) hx hb dX9_stateAndLevel_20 (by decide) ?_
      refine lv_istore_n (lv' := [(1, .int (nI 0)), (0, .ref t)]) hx hb dX9_stateAndLevel_21 rfl hl (by decide) rfl (fun ls hl => ?_)
      refine lv_iload_n hx hb dX9_stateAndLevel_22 rfl (lv_at hl 0 rfl) ?_
      refine lv_if_eq (tgt := 43) hx hb dX9_stateAndLevel_23 (by decide) (fun c_23 => ?_) (fun c_23 => ?_)
      · have c_23 : 0 = 0 := nz_0 (by omega) c_23
        refine lv_aload_n hx hb dX9_stateAndLevel_43 rfl (lv_at hl 1 rfl) ?_
        refine hp_get hx hb hown hS.2.1 hH (F_X9_15.use hS) f_t rfl dX9_stateAndLevel_44 ?_
        exact hp_ri hx hb hr hlocks hS hH (⟨rfl, congrArg nI (Eq.symm (by simp [c_5, c_13, c_23])), rfl⟩) dX9_stateAndLevel_47
      · exact absurd c_23 (by decide)
    · have c_13 : st = 5 := (nI_eq (by omega) (by omega)).mp c_13
      refine lv_iconst (v := nI 1) hx hb dX9_stateAndLevel_16 (by decide) ?_
      refine lv_goto (tgt := 21) hx hb dX9_stateAndLevel_17 (by decide) ?_
      refine lv_istore_n (lv' := [(1, .int (nI 1)), (0, .ref t)]) hx hb dX9_stateAndLevel_21 rfl hl (by decide) rfl (fun ls hl => ?_)
      refine lv_iload_n hx hb dX9_stateAndLevel_22 rfl (lv_at hl 0 rfl) ?_
      refine lv_if_eq (tgt := 43) hx hb dX9_stateAndLevel_23 (by decide) (fun c_23 => ?_) (fun c_23 => ?_)
      · exact absurd c_23 (by decide)
      · have c_23 : ¬ (1 = 0) := nz_n (by omega) c_23
        refine lv_aload_n hx hb dX9_stateAndLevel_26 rfl (lv_at hl 1 rfl) ?_
        refine hp_get hx hb hown hS.2.1 hH (F_X9_15.use hS) f_t rfl dX9_stateAndLevel_27 ?_
        refine lv_bipush (v := nI 10) hx hb dX9_stateAndLevel_30 (by decide) ?_
        refine lv_aload_n hx hb dX9_stateAndLevel_32 rfl (lv_at hl 1 rfl) ?_
        refine hp_get hx hb hown hS.2.1 hH (F_X9_19.use hS) f_t rfl dX9_stateAndLevel_33 ?_
        refine lv_iconst (v := nI 1) hx hb dX9_stateAndLevel_36 (by decide) ?_
        refine lv_isub hx hb dX9_stateAndLevel_37 ?_
        refine hp_eqi (z := nI (le - 1)) (pk_sub (by omega)) ?_
        refine lv_imul hx hb dX9_stateAndLevel_38 ?_
        refine hp_eqi (z := nI (10 * (le - 1))) (pk_mul _ _) ?_
        refine lv_iadd hx hb dX9_stateAndLevel_39 ?_
        refine hp_eqi (z := nI (st + (10 * (le - 1)))) (nI_add _ _) ?_
        refine lv_goto (tgt := 47) hx hb dX9_stateAndLevel_40 (by decide) ?_
        exact hp_ri hx hb hr hlocks hS hH (⟨rfl, congrArg nI (Eq.symm (by simp [c_5, c_13, c_23])), rfl⟩) dX9_stateAndLevel_47
