set_option maxHeartbeats 4000000 in
set_option maxRecDepth 100000 in
theorem c_J6_bitCount_0f7a4 (l : Launch) (X : hp_X) {μ : hp_M} {nx : Nat} {v : Nat} (hv : v < 512)  : Ct l X yJ6_bitCount_0f7a4 cJ6_bitCount_0f7a4 1 (some FieldType.int) 0 0 0 0 [.int (nI v)] μ nx (hq_i X (po_i nx (nI (popN 9 v)) (fun z => z = μ))) := by
  refine hp_met (by decide) (Nat.le_of_ble_eq_true rfl) ?_
  intro p e s m below meth c ls hx hb hml hr hlocks hown hin hS hH hl
  have hl : lv_has ls 1 [(0, .int (nI v))] := hl
  refine lv_iload_n hx hb dJ6_bitCount_0f7a4_0 rfl (lv_at hl 0 rfl) ?_
  refine lv_iload_n hx hb dJ6_bitCount_0f7a4_1 rfl (lv_at hl 0 rfl) ?_
  refine lv_iconst (v := nI 1) hx hb dJ6_bitCount_0f7a4_2 (by decide) ?_
  refine lv_iushr hx hb dJ6_bitCount_0f7a4_3 rfl ?_
  refine lv_ldcw hx hb hown (hS.1 _ wi_434 _) dJ6_bitCount_0f7a4_4 ?_
  refine hp_eqi (z := nI 1431655765) (by decide) ?_
  refine lv_iand hx hb dJ6_bitCount_0f7a4_7 ?_
  refine lv_isub hx hb dJ6_bitCount_0f7a4_8 ?_
  refine hp_eqi (z := bc1 (nI v)) (rfl) ?_
  refine lv_istore_n (lv' := [(0, .int (bc1 (nI v)))]) hx hb dJ6_bitCount_0f7a4_9 rfl hl (by decide) rfl (fun ls hl => ?_)
  refine lv_iload_n hx hb dJ6_bitCount_0f7a4_10 rfl (lv_at hl 0 rfl) ?_
  refine lv_ldcw hx hb hown (hS.1 _ wi_435 _) dJ6_bitCount_0f7a4_11 ?_
  refine hp_eqi (z := nI 858993459) (by decide) ?_
  refine lv_iand hx hb dJ6_bitCount_0f7a4_14 ?_
  refine lv_iload_n hx hb dJ6_bitCount_0f7a4_15 rfl (lv_at hl 0 rfl) ?_
  refine lv_iconst (v := nI 2) hx hb dJ6_bitCount_0f7a4_16 (by decide) ?_
  refine lv_iushr hx hb dJ6_bitCount_0f7a4_17 rfl ?_
  refine lv_ldcw hx hb hown (hS.1 _ wi_435 _) dJ6_bitCount_0f7a4_18 ?_
  refine hp_eqi (z := nI 858993459) (by decide) ?_
  refine lv_iand hx hb dJ6_bitCount_0f7a4_21 ?_
  refine lv_iadd hx hb dJ6_bitCount_0f7a4_22 ?_
  refine hp_eqi (z := bc2 (bc1 (nI v))) (rfl) ?_
  refine lv_istore_n (lv' := [(0, .int (bc2 (bc1 (nI v))))]) hx hb dJ6_bitCount_0f7a4_23 rfl hl (by decide) rfl (fun ls hl => ?_)
  refine lv_iload_n hx hb dJ6_bitCount_0f7a4_24 rfl (lv_at hl 0 rfl) ?_
  refine lv_iload_n hx hb dJ6_bitCount_0f7a4_25 rfl (lv_at hl 0 rfl) ?_
  refine lv_iconst (v := nI 4) hx hb dJ6_bitCount_0f7a4_26 (by decide) ?_
  refine lv_iushr hx hb dJ6_bitCount_0f7a4_27 rfl ?_
  refine lv_iadd hx hb dJ6_bitCount_0f7a4_28 ?_
  refine lv_ldcw hx hb hown (hS.1 _ wi_436 _) dJ6_bitCount_0f7a4_29 ?_
  refine hp_eqi (z := nI 252645135) (by decide) ?_
  refine lv_iand hx hb dJ6_bitCount_0f7a4_32 ?_
  refine hp_eqi (z := bc3 (bc2 (bc1 (nI v)))) (rfl) ?_
  refine lv_istore_n (lv' := [(0, .int (bc3 (bc2 (bc1 (nI v)))))]) hx hb dJ6_bitCount_0f7a4_33 rfl hl (by decide) rfl (fun ls hl => ?_)
  refine lv_iload_n hx hb dJ6_bitCount_0f7a4_34 rfl (lv_at hl 0 rfl) ?_
  refine lv_iload_n hx hb dJ6_bitCount_0f7a4_35 rfl (lv_at hl 0 rfl) ?_
  refine lv_bipush (v := nI 8) hx hb dJ6_bitCount_0f7a4_36 (by decide) ?_
  refine lv_iushr hx hb dJ6_bitCount_0f7a4_38 rfl ?_
  refine lv_iadd hx hb dJ6_bitCount_0f7a4_39 ?_
  refine hp_eqi (z := bc4 (bc3 (bc2 (bc1 (nI v))))) (rfl) ?_
  refine lv_istore_n (lv' := [(0, .int (bc4 (bc3 (bc2 (bc1 (nI v))))))]) hx hb dJ6_bitCount_0f7a4_40 rfl hl (by decide) rfl (fun ls hl => ?_)
  refine lv_iload_n hx hb dJ6_bitCount_0f7a4_41 rfl (lv_at hl 0 rfl) ?_
  refine lv_iload_n hx hb dJ6_bitCount_0f7a4_42 rfl (lv_at hl 0 rfl) ?_
  refine lv_bipush (v := nI 16) hx hb dJ6_bitCount_0f7a4_43 (by decide) ?_
  refine lv_iushr hx hb dJ6_bitCount_0f7a4_45 rfl ?_
  refine lv_iadd hx hb dJ6_bitCount_0f7a4_46 ?_
  refine hp_eqi (z := bc5 (bc4 (bc3 (bc2 (bc1 (nI v)))))) (rfl) ?_
  refine lv_istore_n (lv' := [(0, .int (bc5 (bc4 (bc3 (bc2 (bc1 (nI v)))))))]) hx hb dJ6_bitCount_0f7a4_47 rfl hl (by decide) rfl (fun ls hl => ?_)
  refine lv_iload_n hx hb dJ6_bitCount_0f7a4_48 rfl (lv_at hl 0 rfl) ?_
  refine lv_bipush (v := nI 63) hx hb dJ6_bitCount_0f7a4_49 (by decide) ?_
  refine lv_iand hx hb dJ6_bitCount_0f7a4_51 ?_
  refine hp_eqi (z := nI (popN 9 v)) (z_bc v hv) ?_
  exact hp_ri hx hb hr hlocks hS hH (⟨rfl, rfl, rfl⟩) dJ6_bitCount_0f7a4_52

set_option maxHeartbeats 4000000 in
set_option maxRecDepth 100000 in
theorem c_J13_bitCount_95d88 (l : Launch) (X : hp_X) {μ : hp_M} {nx : Nat} {v : Nat} (hv : v < 256)  : Ct l X yJ13_bitCount_95d88 cJ13_bitCount_95d88 2 (some FieldType.int) 0 0 0 0 [.long (lN v)] μ nx (hq_i X (po_i nx (nI (popN 8 v)) (fun z => z = μ))) := by
  refine hp_met (by decide) (Nat.le_of_ble_eq_true rfl) ?_
  intro p e s m below meth c ls hx hb hml hr hlocks hown hin hS hH hl
  have hl : lv_has ls 2 [(0, .long (lN v))] := hl
  refine lv_lload_n hx hb dJ13_bitCount_95d88_0 rfl (lv_at hl 0 rfl) ?_
  refine lv_lload_n hx hb dJ13_bitCount_95d88_1 rfl (lv_at hl 0 rfl) ?_
  refine lv_iconst (v := nI 1) hx hb dJ13_bitCount_95d88_2 (by decide) ?_
  refine lv_lushr hx hb dJ13_bitCount_95d88_3 rfl ?_
  refine lv_ldc2 hx hb hown (hS.1 _ wi_415 _) dJ13_bitCount_95d88_4 ?_
  refine hp_eql (z := lN 6148914691236517205) (by decide) ?_
  refine lv_land hx hb dJ13_bitCount_95d88_7 ?_
  refine lv_lsub hx hb dJ13_bitCount_95d88_8 ?_
  refine hp_eql (z := bl1 (lN v)) (rfl) ?_
  refine lv_lstore_n (lv' := [(0, .long (bl1 (lN v)))]) hx hb dJ13_bitCount_95d88_9 rfl hl (by decide) rfl (fun ls hl => ?_)
  refine lv_lload_n hx hb dJ13_bitCount_95d88_10 rfl (lv_at hl 0 rfl) ?_
  refine lv_ldc2 hx hb hown (hS.1 _ wi_416 _) dJ13_bitCount_95d88_11 ?_
  refine hp_eql (z := lN 3689348814741910323) (by decide) ?_
  refine lv_land hx hb dJ13_bitCount_95d88_14 ?_
  refine lv_lload_n hx hb dJ13_bitCount_95d88_15 rfl (lv_at hl 0 rfl) ?_
  refine lv_iconst (v := nI 2) hx hb dJ13_bitCount_95d88_16 (by decide) ?_
  refine lv_lushr hx hb dJ13_bitCount_95d88_17 rfl ?_
  refine lv_ldc2 hx hb hown (hS.1 _ wi_416 _) dJ13_bitCount_95d88_18 ?_
  refine hp_eql (z := lN 3689348814741910323) (by decide) ?_
  refine lv_land hx hb dJ13_bitCount_95d88_21 ?_
  refine lv_ladd hx hb dJ13_bitCount_95d88_22 ?_
  refine hp_eql (z := bl2 (bl1 (lN v))) (rfl) ?_
  refine lv_lstore_n (lv' := [(0, .long (bl2 (bl1 (lN v))))]) hx hb dJ13_bitCount_95d88_23 rfl hl (by decide) rfl (fun ls hl => ?_)
  refine lv_lload_n hx hb dJ13_bitCount_95d88_24 rfl (lv_at hl 0 rfl) ?_
  refine lv_lload_n hx hb dJ13_bitCount_95d88_25 rfl (lv_at hl 0 rfl) ?_
  refine lv_iconst (v := nI 4) hx hb dJ13_bitCount_95d88_26 (by decide) ?_
  refine lv_lushr hx hb dJ13_bitCount_95d88_27 rfl ?_
  refine lv_ladd hx hb dJ13_bitCount_95d88_28 ?_
  refine lv_ldc2 hx hb hown (hS.1 _ wi_417 _) dJ13_bitCount_95d88_29 ?_
  refine hp_eql (z := lN 1085102592571150095) (by decide) ?_
  refine lv_land hx hb dJ13_bitCount_95d88_32 ?_
  refine hp_eql (z := bl3 (bl2 (bl1 (lN v)))) (rfl) ?_
  refine lv_lstore_n (lv' := [(0, .long (bl3 (bl2 (bl1 (lN v)))))]) hx hb dJ13_bitCount_95d88_33 rfl hl (by decide) rfl (fun ls hl => ?_)
  refine lv_lload_n hx hb dJ13_bitCount_95d88_34 rfl (lv_at hl 0 rfl) ?_
  refine lv_lload_n hx hb dJ13_bitCount_95d88_35 rfl (lv_at hl 0 rfl) ?_
  refine lv_bipush (v := nI 8) hx hb dJ13_bitCount_95d88_36 (by decide) ?_
  refine lv_lushr hx hb dJ13_bitCount_95d88_38 rfl ?_
  refine lv_ladd hx hb dJ13_bitCount_95d88_39 ?_
  refine hp_eql (z := bl4 (bl3 (bl2 (bl1 (lN v))))) (rfl) ?_
  refine lv_lstore_n (lv' := [(0, .long (bl4 (bl3 (bl2 (bl1 (lN v))))))]) hx hb dJ13_bitCount_95d88_40 rfl hl (by decide) rfl (fun ls hl => ?_)
  refine lv_lload_n hx hb dJ13_bitCount_95d88_41 rfl (lv_at hl 0 rfl) ?_
  refine lv_lload_n hx hb dJ13_bitCount_95d88_42 rfl (lv_at hl 0 rfl) ?_
  refine lv_bipush (v := nI 16) hx hb dJ13_bitCount_95d88_43 (by decide) ?_
  refine lv_lushr hx hb dJ13_bitCount_95d88_45 rfl ?_
  refine lv_ladd hx hb dJ13_bitCount_95d88_46 ?_
  refine hp_eql (z := bl5 (bl4 (bl3 (bl2 (bl1 (lN v)))))) (rfl) ?_
  refine lv_lstore_n (lv' := [(0, .long (bl5 (bl4 (bl3 (bl2 (bl1 (lN v)))))))]) hx hb dJ13_bitCount_95d88_47 rfl hl (by decide) rfl (fun ls hl => ?_)
  refine lv_lload_n hx hb dJ13_bitCount_95d88_48 rfl (lv_at hl 0 rfl) ?_
  refine lv_lload_n hx hb dJ13_bitCount_95d88_49 rfl (lv_at hl 0 rfl) ?_
  refine lv_bipush (v := nI 32) hx hb dJ13_bitCount_95d88_50 (by decide) ?_
  refine lv_lushr hx hb dJ13_bitCount_95d88_52 rfl ?_
  refine lv_ladd hx hb dJ13_bitCount_95d88_53 ?_
  refine hp_eql (z := bl6 (bl5 (bl4 (bl3 (bl2 (bl1 (lN v))))))) (rfl) ?_
  refine lv_lstore_n (lv' := [(0, .long (bl6 (bl5 (bl4 (bl3 (bl2 (bl1 (lN v))))))))]) hx hb dJ13_bitCount_95d88_54 rfl hl (by decide) rfl (fun ls hl => ?_)
  refine lv_lload_n hx hb dJ13_bitCount_95d88_55 rfl (lv_at hl 0 rfl) ?_
  refine lv_l2i hx hb dJ13_bitCount_95d88_56 rfl ?_
  refine lv_bipush (v := nI 127) hx hb dJ13_bitCount_95d88_57 (by decide) ?_
  refine lv_iand hx hb dJ13_bitCount_95d88_59 ?_
  refine hp_eqi (z := nI (popN 8 v)) (z_bl v hv) ?_
  exact hp_ri hx hb hr hlocks hS hH (⟨rfl, rfl, rfl⟩) dJ13_bitCount_95d88_60

set_option maxHeartbeats 4000000 in
set_option maxRecDepth 100000 in
theorem c_X3_checkStep (l : Launch) (X : hp_X) {μ : hp_M} {nx : Nat} {x b : Nat} (hx1 : x < 65536) (hb1 : b < 256)  : Ct l X yX3_checkStep cX3_checkStep 3 (some FieldType.int) 0 0 0 0 [.int (nI x), .int (nI b)] μ nx (hq_i X (po_i nx (nI (crcS x b)) (fun z => z = μ))) := by
  refine hp_met (by decide) (Nat.le_of_ble_eq_true rfl) ?_
  intro p e s m below meth c ls hx hb hml hr hlocks hown hin hS hH hl
  have hl : lv_has ls 3 [(0, .int (nI x)), (1, .int (nI b))] := hl
  refine lv_iload_n hx hb dX3_checkStep_0 rfl (lv_at hl 1 rfl) ?_
  refine lv_iload_n hx hb dX3_checkStep_1 rfl (lv_at hl 0 rfl) ?_
  refine lv_sipush (v := nI 255) hx hb dX3_checkStep_2 (by decide) ?_
  refine lv_iand hx hb dX3_checkStep_5 ?_
  refine lv_ixor hx hb dX3_checkStep_6 ?_
  refine hp_eqi (z := nI (b ^^^ x % 256)) (z_cx hx1) ?_
  refine lv_istore_n (lv' := [(2, .int (nI (b ^^^ x % 256))), (0, .int (nI x)), (1, .int (nI b))]) hx hb dX3_checkStep_7 rfl hl (by decide) rfl (fun ls hl => ?_)
  refine lv_iload_n hx hb dX3_checkStep_8 rfl (lv_at hl 0 rfl) ?_
  refine lv_iload_n hx hb dX3_checkStep_9 rfl (lv_at hl 0 rfl) ?_
  refine lv_iconst (v := nI 4) hx hb dX3_checkStep_10 (by decide) ?_
  refine lv_ishl hx hb dX3_checkStep_11 ?_
  refine lv_ixor hx hb dX3_checkStep_12 ?_
  refine lv_sipush (v := nI 255) hx hb dX3_checkStep_13 (by decide) ?_
  refine lv_iand hx hb dX3_checkStep_16 ?_
  refine hp_eqi (z := nI (crcY (b ^^^ x % 256))) (z_cy (Nat.xor_lt_two_pow (n := 8) hb1 (Nat.mod_lt _ (by decide)))) ?_
  refine lv_istore_n (lv' := [(2, .int (nI (crcY (b ^^^ x % 256)))), (0, .int (nI x)), (1, .int (nI b))]) hx hb dX3_checkStep_17 rfl hl (by decide) rfl (fun ls hl => ?_)
  refine lv_iload_n hx hb dX3_checkStep_18 rfl (lv_at hl 1 rfl) ?_
  refine lv_bipush (v := nI 8) hx hb dX3_checkStep_19 (by decide) ?_
  refine lv_iushr hx hb dX3_checkStep_21 rfl ?_
  refine lv_iload_n hx hb dX3_checkStep_22 rfl (lv_at hl 0 rfl) ?_
  refine lv_bipush (v := nI 8) hx hb dX3_checkStep_23 (by decide) ?_
  refine lv_ishl hx hb dX3_checkStep_25 ?_
  refine lv_ixor hx hb dX3_checkStep_26 ?_
  refine lv_iload_n hx hb dX3_checkStep_27 rfl (lv_at hl 0 rfl) ?_
  refine lv_iconst (v := nI 3) hx hb dX3_checkStep_28 (by decide) ?_
  refine lv_ishl hx hb dX3_checkStep_29 ?_
  refine lv_ixor hx hb dX3_checkStep_30 ?_
  refine lv_iload_n hx hb dX3_checkStep_31 rfl (lv_at hl 0 rfl) ?_
  refine lv_iconst (v := nI 4) hx hb dX3_checkStep_32 (by decide) ?_
  refine lv_iushr hx hb dX3_checkStep_33 rfl ?_
  refine lv_ixor hx hb dX3_checkStep_34 ?_
  refine lv_ldc hx hb hown (hS.1 _ wi_448 _) dX3_checkStep_35 ?_
  refine hp_eqi (z := nI 65535) (by decide) ?_
  refine lv_iand hx hb dX3_checkStep_37 ?_
  refine hp_eqi (z := nI (crcS x b)) (z_cf hx1 (crcY_lt _)) ?_
  exact hp_ri hx hb hr hlocks hS hH (⟨rfl, rfl, rfl⟩) dX3_checkStep_38

set_option maxHeartbeats 4000000 in
set_option maxRecDepth 100000 in
theorem c_X8_clear (l : Launch) (X : hp_X) {μ : hp_M} {nx : Nat} {r b size : Nat} (f_r : μ r = some (hp_o 4 [.ref b, .int (nI size)])) : Ct l X yX8_clear cX8_clear 1 (none : Option Jvm.ClassFile.FieldType) 0 0 0 0 [.ref r] μ nx (hq_v X (po_v nx (fun z => z r = some (hp_o 4 [.ref b, .int (nI 0)]) ∧ hp_eq [r] z μ))) := by
  refine hp_met (by decide) (Nat.le_of_ble_eq_true rfl) ?_
  intro p e s m below meth c ls hx hb hml hr hlocks hown hin hS hH hl
  have hl : lv_has ls 1 [(0, .ref r)] := hl
  have fr : hp_eq [r] μ μ := fun _ _ => rfl
  refine lv_aload_n hx hb dX8_clear_0 rfl (lv_at hl 0 rfl) ?_
  refine lv_iconst (v := nI 0) hx hb dX8_clear_1 (by decide) ?_
  refine hp_put hx hb hown hS.2.1 hH (P_X8_15.use hS) f_r rfl rfl (Nat.le_of_ble_eq_true rfl) dX8_clear_2 (fun H locs μ1 fz fn hH => ?_)
  have f_r : μ1 r = some (hp_o 4 [.ref b, .int (nI 0)]) := fz
  have fr := hp_eq.put fr (by simp) fn
  clear fz fn
  exact hp_rv hx hb hr hlocks hS hH (⟨rfl, f_r, fr⟩) dX8_clear_5

set_option maxHeartbeats 4000000 in
set_option maxRecDepth 100000 in
theorem c_X8_hasRoomFor (l : Launch) (X : hp_X) {μ : hp_M} {nx : Nat} {r b room size : Nat} {rb : Nat → Nat} {n : Nat} (hr1 : room < 2 ^ 30) (hn1 : n < 2 ^ 30) (hs1 : size < 2 ^ 30) (f_r : μ r = some (hp_o 4 [.ref b, .int (nI size)])) (f_b : μ b = some (hp_n X room rb)) : Ct l X yX8_hasRoomFor cX8_hasRoomFor 2 (some FieldType.boolean) 0 0 0 0 [.ref r, .int (nI n)] μ nx (hq_i X (po_i nx (nB (decide (size + n ≤ room))) (fun z => z = μ))) := by
  refine hp_met (by decide) (Nat.le_of_ble_eq_true rfl) ?_
  intro p e s m below meth c ls hx hb hml hr hlocks hown hin hS hH hl
  have hl : lv_has ls 2 [(0, .ref r), (1, .int (nI n))] := hl
  refine lv_aload_n hx hb dX8_hasRoomFor_0 rfl (lv_at hl 0 rfl) ?_
  refine hp_get hx hb hown hS.2.1 hH (F_X8_15.use hS) f_r rfl dX8_hasRoomFor_1 ?_
  refine lv_iload_n hx hb dX8_hasRoomFor_4 rfl (lv_at hl 1 rfl) ?_
  refine lv_iadd hx hb dX8_hasRoomFor_5 ?_
  refine hp_eqi (z := nI (size + n)) (nI_add _ _) ?_
  refine lv_aload_n hx hb dX8_hasRoomFor_6 rfl (lv_at hl 0 rfl) ?_
  refine hp_get hx hb hown hS.2.1 hH (F_X8_9.use hS) f_r rfl dX8_hasRoomFor_7 ?_
  refine hp_alen (w := nI room) hx hb hS.ai hH f_b rfl dX8_hasRoomFor_10 ?_
  refine lv_icmp_gt (tgt := 18) hx hb dX8_hasRoomFor_11 (by decide) (fun c_11 => ?_) (fun c_11 => ?_)
  · have c_11 : room < (size + n) := (nI_ltI (by omega) (by omega)).mp c_11
    refine lv_iconst (v := nI 0) hx hb dX8_hasRoomFor_18 (by decide) ?_
    refine hp_eqi (z := nB false) (by decide) ?_
    exact hp_rz hx hb hr hlocks hS hH (nB_nar _) (⟨rfl, congrArg nB (Eq.symm (by simp; omega)), rfl⟩) dX8_hasRoomFor_19
  · have c_11 : ¬ (room < (size + n)) := fun z => c_11 ((nI_ltI (by omega) (by omega)).mpr z)
    refine lv_iconst (v := nI 1) hx hb dX8_hasRoomFor_14 (by decide) ?_
    refine lv_goto (tgt := 19) hx hb dX8_hasRoomFor_15 (by decide) ?_
    refine hp_eqi (z := nB true) (by decide) ?_
    exact hp_rz hx hb hr hlocks hS hH (nB_nar _) (⟨rfl, congrArg nB (Eq.symm (by simp; omega)), rfl⟩) dX8_hasRoomFor_19

set_option maxHeartbeats 4000000 in
set_option maxRecDepth 100000 in
theorem c_X8_addBits (l : Launch) (X : hp_X) {μ : hp_M} {nx : Nat} {r b room size : Nat} {rb : Nat → Nat} {v : Int32} {n : Nat} (hr1 : room < 2 ^ 30) (hn1 : n ≤ 32) (hs1 : size + n ≤ room) (f_r : μ r = some (hp_o 4 [.ref b, .int (nI size)])) (f_b : μ b = some (hp_n X room rb)) : Ct l X yX8_addBits cX8_addBits 4 (none : Option Jvm.ClassFile.FieldType) 0 0 0 0 [.ref r, .int v, .int (nI n)] μ nx (hq_v X (po_v nx (fun z => z r = some (hp_o 4 [.ref b, .int (nI (size + n))]) ∧ z b = some (hp_n X room (apB rb size v n)) ∧ hp_eq [r, b] z μ))) := by
  refine hp_met (by decide) (Nat.le_of_ble_eq_true rfl) ?_
  intro p e s m below meth c ls hx hb hml hr hlocks hown hin hS hH hl
  have hl : lv_has ls 4 [(0, .ref r), (1, .int v), (2, .int (nI n))] := hl
  have fr : hp_eq [r, b] μ μ := fun _ _ => rfl
  refine lv_iconst (v := nI 0) hx hb dX8_addBits_0 (by decide) ?_
  refine lv_istore_n (lv' := [(3, .int (nI 0)), (0, .ref r), (1, .int v), (2, .int (nI n))]) hx hb dX8_addBits_1 rfl hl (by decide) rfl (fun ls hl => ?_)
  have f_b : μ b = some (hp_n X room (apB rb size v 0)) := by rw [apB_0]; exact f_b
  have lp_2 : ∀ (kk : Nat) (i : Nat), (i ≤ n) → (n - i) < kk → ∀ (μ1 : hp_M) (H : Heap) (locs : List Loc) (ls : Array Slot), (μ1 r = some (hp_o 4 [.ref b, .int (nI (size + i))])) → (μ1 b = some (hp_n X room (apB rb size v i))) → hp_eq [r, b] μ1 μ → hp_w X cls μ1 nx H locs → lv_has ls 4 [(0, .ref r), (1, .int v), (2, .int (nI n)), (3, .int (nI i))] → W p l e { frames := 0, cells := 0, slots := 0, locals := 0 } s m [.ref r, .int v, .int (nI n)].toArray below meth c H locs 0 0 (MQ below (hq_v X (po_v nx (fun z => z r = some (hp_o 4 [.ref b, .int (nI (size + n))]) ∧ z b = some (hp_n X room (apB rb size v n)) ∧ hp_eq [r, b] z μ))) [.ref r, .int v, .int (nI n)].toArray s 0 0 (hp_A X)) (F0 m 2 ls []) := by
    intro kk
    induction kk with
    | zero =>
      intro i hi hkk
      exact absurd hkk (Nat.not_lt_zero _)
    | succ kk ih =>
      intro i hi hkk μ1 H locs ls f_r f_b fr hH hl
      refine lv_iload_n hx hb dX8_addBits_2 rfl (lv_at hl 3 rfl) ?_
      refine lv_iload_n hx hb dX8_addBits_3 rfl (lv_at hl 2 rfl) ?_
      refine lv_icmp_ge (tgt := 49) hx hb dX8_addBits_4 (by decide) (fun c_4 => ?_) (fun c_4 => ?_)
      · have c_4 : n ≤ i := (nI_leI (by omega) (by omega)).mp c_4
        have hin : i = n := by omega
        subst hin
        exact hp_rv hx hb hr hlocks hS hH (⟨rfl, f_r, f_b, fr⟩) dX8_addBits_49
      · have c_4 : ¬ (n ≤ i) := fun z => c_4 ((nI_leI (by omega) (by omega)).mpr z)
        refine lv_aload_n hx hb dX8_addBits_7 rfl (lv_at hl 0 rfl) ?_
        refine hp_get hx hb hown hS.2.1 hH (F_X8_15.use hS) f_r rfl dX8_addBits_8 ?_
        refine lv_aload_n hx hb dX8_addBits_11 rfl (lv_at hl 0 rfl) ?_
        refine hp_get hx hb hown hS.2.1 hH (F_X8_9.use hS) f_r rfl dX8_addBits_12 ?_
        refine hp_alen (w := nI room) hx hb hS.ai hH f_b rfl dX8_addBits_15 ?_
        refine lv_icmp_ge (tgt := 49) hx hb dX8_addBits_16 (by decide) (fun c_16 => ?_) (fun c_16 => ?_)
        · have c_16 : room ≤ (size + i) := (nI_leI (by omega) (by omega)).mp c_16
          exact absurd c_16 (by omega)
        · have c_16 : ¬ (room ≤ (size + i)) := fun z => c_16 ((nI_leI (by omega) (by omega)).mpr z)
          refine lv_aload_n hx hb dX8_addBits_19 rfl (lv_at hl 0 rfl) ?_
          refine hp_get hx hb hown hS.2.1 hH (F_X8_9.use hS) f_r rfl dX8_addBits_20 ?_
          refine lv_aload_n hx hb dX8_addBits_23 rfl (lv_at hl 0 rfl) ?_
          refine hp_get hx hb hown hS.2.1 hH (F_X8_15.use hS) f_r rfl dX8_addBits_24 ?_
          refine lv_iload_n hx hb dX8_addBits_27 rfl (lv_at hl 1 rfl) ?_
          refine lv_iload_n hx hb dX8_addBits_28 rfl (lv_at hl 3 rfl) ?_
          refine lv_iushr hx hb dX8_addBits_29 rfl ?_
          refine lv_iconst (v := nI 1) hx hb dX8_addBits_30 (by decide) ?_
          refine lv_iand hx hb dX8_addBits_31 ?_
          refine hp_eqi (z := nI (bitI v i)) (z_bit (by omega)) ?_
          refine hp_iastN hx hb hS.ai hH f_b (by omega) (by omega) dX8_addBits_32 (fun H locs μ1 fz fn hH => ?_)
          have f_r := (fn _ (hp_ne f_r f_b (by simp))).trans f_r
          have f_b : μ1 b = some (hp_n X room (setN (apB rb size v i) (size + i) (bitI v i))) := fz
          have fr := hp_eq.put fr (by simp) fn
          clear fz fn
          refine lv_aload_n hx hb dX8_addBits_33 rfl (lv_at hl 0 rfl) ?_
          refine lv_dup hx hb dX8_addBits_34 rfl ?_
          refine hp_get hx hb hown hS.2.1 hH (F_X8_15.use hS) f_r rfl dX8_addBits_35 ?_
          refine lv_iconst (v := nI 1) hx hb dX8_addBits_38 (by decide) ?_
          refine lv_iadd hx hb dX8_addBits_39 ?_
          refine hp_eqi (z := nI ((size + i) + 1)) (nI_add _ _) ?_
          refine hp_put hx hb hown hS.2.1 hH (P_X8_15.use hS) f_r rfl rfl (Nat.le_of_ble_eq_true rfl) dX8_addBits_40 (fun H locs μ1 fz fn hH => ?_)
          have f_b := (fn _ (hp_ne f_b f_r (by simp))).trans f_b
          have f_r : μ1 r = some (hp_o 4 [.ref b, .int (nI ((size + i) + 1))]) := fz
          have fr := hp_eq.put fr (by simp) fn
          clear fz fn
          refine lv_iinc (v := nI (i + 1)) (lv' := [(3, .int (nI (i + 1))), (0, .ref r), (1, .int v), (2, .int (nI n))]) hx hb dX8_addBits_43 hl (k := 3) rfl (nI_add _ 1) (by decide) rfl (fun ls hl => ?_)
          refine lv_goto (tgt := 2) hx hb dX8_addBits_46 (by decide) ?_
          have f_b := f_b.trans (congrArg (fun g => some (hp_n X room g)) (show setN (apB rb size v i) (size + i) (bitI v i) = apB rb size v (i + 1) from apB_s rb size v i))
          exact ih (i + 1) (by omega) (by omega) _ _ _ _ f_r f_b fr hH (lv_sub hl [1, 2, 3, 0] rfl)
  exact lp_2 ((n - 0) + 1) 0 (Nat.zero_le _) (Nat.lt_succ_self _) _ _ _ _ f_r f_b fr hH (lv_sub hl [1, 2, 3, 0] rfl)

set_option maxHeartbeats 4000000 in
set_option maxRecDepth 100000 in
theorem c_X8_valueAt (l : Launch) (X : hp_X) {μ : hp_M} {nx : Nat} {r b room size : Nat} {rb : Nat → Nat} {fm n : Nat} (h01 : ∀ j, rb j < 2) (hr1 : room < 2 ^ 30) (hn1 : n ≤ 30) (hf1 : fm < 2 ^ 30) (hs1 : size ≤ room) (f_r : μ r = some (hp_o 4 [.ref b, .int (nI size)])) (f_b : μ b = some (hp_n X room rb)) : Ct l X yX8_valueAt cX8_valueAt 5 (some FieldType.int) 0 0 0 0 [.ref r, .int (nI fm), .int (nI n)] μ nx (hq_i X (po_i nx (nI (valN rb size fm n)) (fun z => z = μ))) := by
  refine hp_met (by decide) (Nat.le_of_ble_eq_true rfl) ?_
  intro p e s m below meth c ls hx hb hml hr hlocks hown hin hS hH hl
  have hl : lv_has ls 5 [(0, .ref r), (1, .int (nI fm)), (2, .int (nI n))] := hl
  refine lv_iconst (v := nI 0) hx hb dX8_valueAt_0 (by decide) ?_
  refine lv_istore_n (lv' := [(3, .int (nI 0)), (0, .ref r), (1, .int (nI fm)), (2, .int (nI n))]) hx hb dX8_valueAt_1 rfl hl (by decide) rfl (fun ls hl => ?_)
  refine lv_iconst (v := nI 0) hx hb dX8_valueAt_2 (by decide) ?_
  refine lv_istore (lv' := [(4, .int (nI 0)), (3, .int (nI 0)), (0, .ref r), (1, .int (nI fm)), (2, .int (nI n))]) hx hb dX8_valueAt_3 hl (by decide) rfl (fun ls hl => ?_)
  have lp_5 : ∀ (kk : Nat) (i : Nat), (i ≤ n) → (n - i) < kk → ∀ (H : Heap) (locs : List Loc) (ls : Array Slot), hp_w X cls μ nx H locs → lv_has ls 5 [(0, .ref r), (1, .int (nI fm)), (2, .int (nI n)), (3, .int (nI (valN rb size fm i))), (4, .int (nI i))] → W p l e { frames := 0, cells := 0, slots := 0, locals := 0 } s m [.ref r, .int (nI fm), .int (nI n)].toArray below meth c H locs 0 0 (MQ below (hq_i X (po_i nx (nI (valN rb size fm n)) (fun z => z = μ))) [.ref r, .int (nI fm), .int (nI n)].toArray s 0 0 (hp_A X)) (F0 m 5 ls []) := by
    intro kk
    induction kk with
    | zero =>
      intro i hi hkk
      exact absurd hkk (Nat.not_lt_zero _)
    | succ kk ih =>
      intro i hi hkk H locs ls  hH hl
      refine lv_iload hx hb dX8_valueAt_5 (lv_at hl 4 rfl) ?_
      refine lv_iload_n hx hb dX8_valueAt_7 rfl (lv_at hl 2 rfl) ?_
      refine lv_icmp_ge (tgt := 43) hx hb dX8_valueAt_8 (by decide) (fun c_8 => ?_) (fun c_8 => ?_)
      · have c_8 : n ≤ i := (nI_leI (by omega) (by omega)).mp c_8
        refine lv_iload_n hx hb dX8_valueAt_43 rfl (lv_at hl 3 rfl) ?_
        exact hp_ri hx hb hr hlocks hS hH (⟨rfl, congrArg nI (Eq.symm (by first | (rw [show i = n by omega]) | exact valN_stop (by omega) _ hi)), rfl⟩) dX8_valueAt_44
      · have c_8 : ¬ (n ≤ i) := fun z => c_8 ((nI_leI (by omega) (by omega)).mpr z)
        refine lv_iload_n hx hb dX8_valueAt_11 rfl (lv_at hl 1 rfl) ?_
        refine lv_iload hx hb dX8_valueAt_12 (lv_at hl 4 rfl) ?_
        refine lv_iadd hx hb dX8_valueAt_14 ?_
        refine hp_eqi (z := nI (fm + i)) (nI_add _ _) ?_
        refine lv_aload_n hx hb dX8_valueAt_15 rfl (lv_at hl 0 rfl) ?_
        refine hp_get hx hb hown hS.2.1 hH (F_X8_15.use hS) f_r rfl dX8_valueAt_16 ?_
        refine lv_icmp_ge (tgt := 43) hx hb dX8_valueAt_19 (by decide) (fun c_19 => ?_) (fun c_19 => ?_)
        · have c_19 : size ≤ (fm + i) := (nI_leI (by omega) (by omega)).mp c_19
          refine lv_iload_n hx hb dX8_valueAt_43 rfl (lv_at hl 3 rfl) ?_
          exact hp_ri hx hb hr hlocks hS hH (⟨rfl, congrArg nI (Eq.symm (by first | (rw [show i = n by omega]) | exact valN_stop (by omega) _ hi)), rfl⟩) dX8_valueAt_44
        · have c_19 : ¬ (size ≤ (fm + i)) := fun z => c_19 ((nI_leI (by omega) (by omega)).mpr z)
          have c_19 : fm + i < size := by omega
          refine lv_iload_n hx hb dX8_valueAt_22 rfl (lv_at hl 3 rfl) ?_
          refine lv_aload_n hx hb dX8_valueAt_23 rfl (lv_at hl 0 rfl) ?_
          refine hp_get hx hb hown hS.2.1 hH (F_X8_9.use hS) f_r rfl dX8_valueAt_24 ?_
          refine lv_iload_n hx hb dX8_valueAt_27 rfl (lv_at hl 1 rfl) ?_
          refine lv_iload hx hb dX8_valueAt_28 (lv_at hl 4 rfl) ?_
          refine lv_iadd hx hb dX8_valueAt_30 ?_
          refine hp_eqi (z := nI (fm + i)) (nI_add _ _) ?_
          refine hp_ialdN hx hb hS.ai hH f_b (by omega) (by omega) dX8_valueAt_31 ?_
          refine lv_iload hx hb dX8_valueAt_32 (lv_at hl 4 rfl) ?_
          refine lv_ishl hx hb dX8_valueAt_34 ?_
          refine lv_ior hx hb dX8_valueAt_35 ?_
          refine hp_eqi (z := nI (valN rb size fm (i + 1))) (by rw [z_or (valN_lt h01 _ _ _) (h01 _) (by omega)]; simp only [valN]; rw [if_pos c_19]) ?_
          refine lv_istore_n (lv' := [(3, .int (nI (valN rb size fm (i + 1)))), (0, .ref r), (1, .int (nI fm)), (2, .int (nI n)), (4, .int (nI i))]) hx hb dX8_valueAt_36 rfl hl (by decide) rfl (fun ls hl => ?_)
          refine lv_iinc (v := nI (i + 1)) (lv' := [(4, .int (nI (i + 1))), (3, .int (nI (valN rb size fm (i + 1)))), (0, .ref r), (1, .int (nI fm)), (2, .int (nI n))]) hx hb dX8_valueAt_37 hl (k := 4) rfl (nI_add _ 1) (by decide) rfl (fun ls hl => ?_)
          refine lv_goto (tgt := 5) hx hb dX8_valueAt_40 (by decide) ?_
          exact ih (i + 1) (by omega) (by omega) _ _ _  hH (lv_sub hl [2, 3, 4, 1, 0] rfl)
  exact lp_5 ((n - 0) + 1) 0 (Nat.zero_le _) (Nat.lt_succ_self _) _ _ _  hH (lv_sub hl [2, 3, 4, 1, 0] rfl)
