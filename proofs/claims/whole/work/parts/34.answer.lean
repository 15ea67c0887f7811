set_option maxHeartbeats 4000000 in
set_option maxRecDepth 100000 in
theorem c_X2_init (l : Launch) (X : hp_X) {μ : hp_M} {nx : Nat} {a : Nat}  : Ct l X yX2_init cX2_init 1 (none : Option Jvm.ClassFile.FieldType) 1 40 0 0 [.ref a] μ nx (hq_v X (po_v nx (fun z => z = μ))) := by
  refine hp_met (by decide) (Nat.le_of_ble_eq_true rfl) ?_
  intro p e s m below meth c ls hx hb hml hr hlocks hown hin hS hH hl
  have hl : lv_has ls 1 [(0, .ref a)] := hl
  refine lv_aload_n hx hb dX2_init_0 rfl (lv_at hl 0 rfl) ?_
  refine hp_obj hx hb hml hown hS ol_X2_3 hl.1 dX2_init_1 (Nat.le_of_ble_eq_true rfl) (Nat.le_of_ble_eq_true rfl) (Nat.le_of_ble_eq_true rfl) ?_
  exact hp_rv hx hb hr hlocks hS hH (⟨rfl, rfl⟩) dX2_init_4

set_option maxHeartbeats 4000000 in
set_option maxRecDepth 100000 in
theorem c_X2_clear (l : Launch) (X : hp_X) {μ : hp_M} {nx : Nat} {a on ze len : Nat} (f_a : μ a = some (hp_o 1 [.long (lN on), .long (lN ze), .int (nI len)])) : Ct l X yX2_clear cX2_clear 1 (none : Option Jvm.ClassFile.FieldType) 0 0 0 0 [.ref a] μ nx (hq_v X (po_v nx (fun z => z a = some (hp_o 1 [.long (lN 0), .long (lN 0), .int (nI 0)]) ∧ hp_eq [a] z μ))) := by
  refine hp_met (by decide) (Nat.le_of_ble_eq_true rfl) ?_
  intro p e s m below meth c ls hx hb hml hr hlocks hown hin hS hH hl
  have hl : lv_has ls 1 [(0, .ref a)] := hl
  have fr : hp_eq [a] μ μ := fun _ _ => rfl
  refine lv_aload_n hx hb dX2_clear_0 rfl (lv_at hl 0 rfl) ?_
  refine lv_lconst (v := lN 0) hx hb dX2_clear_1 rfl ?_
  refine hp_put hx hb hown hS.2.1 hH (P_X2_9.use hS) f_a rfl rfl (Nat.le_of_ble_eq_true rfl) dX2_clear_2 (fun H locs μ1 fz fn hH => ?_)
  have f_a : μ1 a = some (hp_o 1 [.long (lN 0), .long (lN ze), .int (nI len)]) := fz
  have fr := hp_eq.put fr (by simp) fn
  clear fz fn
  refine lv_aload_n hx hb dX2_clear_5 rfl (lv_at hl 0 rfl) ?_
  refine lv_lconst (v := lN 0) hx hb dX2_clear_6 rfl ?_
  refine hp_put hx hb hown hS.2.1 hH (P_X2_15.use hS) f_a rfl rfl (Nat.le_of_ble_eq_true rfl) dX2_clear_7 (fun H locs μ1 fz fn hH => ?_)
  have f_a : μ1 a = some (hp_o 1 [.long (lN 0), .long (lN 0), .int (nI len)]) := fz
  have fr := hp_eq.put fr (by simp) fn
  clear fz fn
  refine lv_aload_n hx hb dX2_clear_10 rfl (lv_at hl 0 rfl) ?_
  refine lv_iconst (v := nI 0) hx hb dX2_clear_11 (by decide) ?_
  refine hp_put hx hb hown hS.2.1 hH (P_X2_18.use hS) f_a rfl rfl (Nat.le_of_ble_eq_true rfl) dX2_clear_12 (fun H locs μ1 fz fn hH => ?_)
  have f_a : μ1 a = some (hp_o 1 [.long (lN 0), .long (lN 0), .int (nI 0)]) := fz
  have fr := hp_eq.put fr (by simp) fn
  clear fz fn
  exact hp_rv hx hb hr hlocks hS hH (⟨rfl, f_a, fr⟩) dX2_clear_15

set_option maxHeartbeats 4000000 in
set_option maxRecDepth 100000 in
theorem c_X2_lay (l : Launch) (X : hp_X) {μ : hp_M} {nx : Nat} {a on ze len B n : Nat} (hB : B < 2 ^ 64) (hon : on < 2 ^ 64) (hze : ze < 2 ^ 64) (hn1 : n < 64) (hl1 : len < 2 ^ 31) (f_a : μ a = some (hp_o 1 [.long (lN on), .long (lN ze), .int (nI len)])) : Ct l X yX2_lay cX2_lay 6 (none : Option Jvm.ClassFile.FieldType) 1 40 0 0 [.ref a, .long (lN B), .int (nI n)] μ nx (hq_v X (po_v nx (fun z => z a = some (hp_o 1 [.long (lN (on ||| B % 2 ^ n)), .long (lN (ze ||| czN B n)), .int (nI (max len n))]) ∧ hp_eq [a] z μ))) := by
  refine hp_met (by decide) (Nat.le_of_ble_eq_true rfl) ?_
  intro p e s m below meth c ls hx hb hml hr hlocks hown hin hS hH hl
  have hl : lv_has ls 6 [(0, .ref a), (1, .long (lN B)), (3, .int (nI n))] := hl
  have fr : hp_eq [a] μ μ := fun _ _ => rfl
  refine lv_lconst (v := lN 1) hx hb dX2_lay_0 rfl ?_
  refine lv_iload_n hx hb dX2_lay_1 rfl (lv_at hl 2 rfl) ?_
  refine lv_lshl hx hb dX2_lay_2 rfl ?_
  refine hp_eql (z := lN (2 ^ n)) (by rw [wb_shl _ (by omega), Nat.one_mul]) ?_
  refine lv_lconst (v := lN 1) hx hb dX2_lay_3 rfl ?_
  refine lv_lsub hx hb dX2_lay_4 ?_
  refine hp_eql (z := lN (2 ^ n - 1)) (lN_sub Nat.one_le_two_pow) ?_
  refine lv_lstore (lv' := [(4, .long (lN (2 ^ n - 1))), (0, .ref a), (1, .long (lN B)), (3, .int (nI n))]) hx hb dX2_lay_5 hl (by decide) rfl (fun ls hl => ?_)
  refine lv_aload_n hx hb dX2_lay_7 rfl (lv_at hl 1 rfl) ?_
  refine lv_dup hx hb dX2_lay_8 rfl ?_
  refine hp_get hx hb hown hS.2.1 hH (F_X2_9.use hS) f_a rfl dX2_lay_9 ?_
  refine lv_lload_n hx hb dX2_lay_12 rfl (lv_at hl 2 rfl) ?_
  refine lv_lload hx hb dX2_lay_13 (lv_at hl 0 rfl) ?_
  refine lv_land hx hb dX2_lay_15 ?_
  refine hp_eql (z := lN (B % 2 ^ n)) (wb_mask hB (by omega)) ?_
  refine lv_lor hx hb dX2_lay_16 ?_
  refine hp_eql (z := lN (on ||| B % 2 ^ n)) (wb_or hon (Nat.lt_of_le_of_lt (Nat.mod_le _ _) hB)) ?_
  refine hp_put hx hb hown hS.2.1 hH (P_X2_9.use hS) f_a rfl rfl (Nat.le_of_ble_eq_true rfl) dX2_lay_17 (fun H locs μ1 fz fn hH => ?_)
  have f_a : μ1 a = some (hp_o 1 [.long (lN (on ||| B % 2 ^ n)), .long (lN ze), .int (nI len)]) := fz
  have fr := hp_eq.put fr (by simp) fn
  clear fz fn
  refine lv_aload_n hx hb dX2_lay_20 rfl (lv_at hl 1 rfl) ?_
  refine lv_dup hx hb dX2_lay_21 rfl ?_
  refine hp_get hx hb hown hS.2.1 hH (F_X2_15.use hS) f_a rfl dX2_lay_22 ?_
  refine lv_lload_n hx hb dX2_lay_25 rfl (lv_at hl 2 rfl) ?_
  refine lv_ldc2 hx hb hown (hS.1 _ wi_570 _) dX2_lay_26 ?_
  refine lv_lxor hx hb dX2_lay_29 ?_
  refine hp_eql (z := lN (2 ^ 64 - 1 - B)) (z_not hB) ?_
  refine lv_lload hx hb dX2_lay_30 (lv_at hl 0 rfl) ?_
  refine lv_land hx hb dX2_lay_32 ?_
  refine hp_eql (z := lN (czN B n)) (wb_mask (by omega) (by omega)) ?_
  refine lv_lor hx hb dX2_lay_33 ?_
  refine hp_eql (z := lN (ze ||| czN B n)) (wb_or hze (Nat.lt_of_le_of_lt (Nat.mod_le _ _) (by omega))) ?_
  refine hp_put hx hb hown hS.2.1 hH (P_X2_15.use hS) f_a rfl rfl (Nat.le_of_ble_eq_true rfl) dX2_lay_34 (fun H locs μ1 fz fn hH => ?_)
  have f_a : μ1 a = some (hp_o 1 [.long (lN (on ||| B % 2 ^ n)), .long (lN (ze ||| czN B n)), .int (nI len)]) := fz
  have fr := hp_eq.put fr (by simp) fn
  clear fz fn
  refine lv_aload_n hx hb dX2_lay_37 rfl (lv_at hl 1 rfl) ?_
  refine lv_aload_n hx hb dX2_lay_38 rfl (lv_at hl 1 rfl) ?_
  refine hp_get hx hb hown hS.2.1 hH (F_X2_18.use hS) f_a rfl dX2_lay_39 ?_
  refine lv_iload_n hx hb dX2_lay_42 rfl (lv_at hl 3 rfl) ?_
  refine va_mmax (rest := [.ref a]) hx hb (hml.trans hl.1.symm) hown (hS.1 _ wi_571 _) (hS.1 _ S_J9_max_7cf53 _) (hS.1 _ wi_57 _) (hS.1 _ wi_326 _) (Nat.le_of_ble_eq_true rfl) (Nat.le_of_ble_eq_true rfl) (Nat.zero_le _) (Nat.zero_le _) dX2_lay_43 ?_
  refine hp_eqi (z := nI (max len n)) (z_max (by omega) (by omega)) ?_
  refine hp_put hx hb hown hS.2.1 hH (P_X2_18.use hS) f_a rfl rfl (Nat.le_of_ble_eq_true rfl) dX2_lay_46 (fun H locs μ1 fz fn hH => ?_)
  have f_a : μ1 a = some (hp_o 1 [.long (lN (on ||| B % 2 ^ n)), .long (lN (ze ||| czN B n)), .int (nI (max len n))]) := fz
  have fr := hp_eq.put fr (by simp) fn
  clear fz fn
  exact hp_rv hx hb hr hlocks hS hH (⟨rfl, f_a, fr⟩) dX2_lay_49

set_option maxHeartbeats 4000000 in
set_option maxRecDepth 100000 in
theorem c_X2_bitAt (l : Launch) (X : hp_X) {μ : hp_M} {nx : Nat} {a on ze len j : Nat} (hj : j < len) (hon : on < 2 ^ 64) (hze : ze < 2 ^ 64) (hl1 : len < 64) (f_a : μ a = some (hp_o 1 [.long (lN on), .long (lN ze), .int (nI len)])) : Ct l X yX2_bitAt cX2_bitAt 4 (some FieldType.int) 0 0 0 0 [.ref a, .int (nI j)] μ nx (hq_i X (po_i nx (nI (digN on ze j)) (fun z => z = μ))) := by
  refine hp_met (by decide) (Nat.le_of_ble_eq_true rfl) ?_
  intro p e s m below meth c ls hx hb hml hr hlocks hown hin hS hH hl
  have hl : lv_has ls 4 [(0, .ref a), (1, .int (nI j))] := hl
  refine lv_iload_n hx hb dX2_bitAt_0 rfl (lv_at hl 1 rfl) ?_
  refine lv_if_lt (tgt := 12) hx hb dX2_bitAt_1 (by decide) (fun c_1 => ?_) (fun c_1 => ?_)
  · exact absurd c_1 (nI_pos (by omega))
  · refine lv_iload_n hx hb dX2_bitAt_4 rfl (lv_at hl 1 rfl) ?_
    refine lv_aload_n hx hb dX2_bitAt_5 rfl (lv_at hl 0 rfl) ?_
    refine hp_get hx hb hown hS.2.1 hH (F_X2_18.use hS) f_a rfl dX2_bitAt_6 ?_
    refine lv_icmp_lt (tgt := 14) hx hb dX2_bitAt_9 (by decide) (fun c_9 => ?_) (fun c_9 => ?_)
    · have c_9 : j < len := (nI_ltI (by omega) (by omega)).mp c_9
      refine lv_aload_n hx hb dX2_bitAt_14 rfl (lv_at hl 0 rfl) ?_
      refine hp_get hx hb hown hS.2.1 hH (F_X2_9.use hS) f_a rfl dX2_bitAt_15 ?_
      refine lv_iload_n hx hb dX2_bitAt_18 rfl (lv_at hl 1 rfl) ?_
      refine lv_lushr hx hb dX2_bitAt_19 rfl ?_
      refine hp_eql (z := lN (on / 2 ^ j)) (wb_shr hon (by omega)) ?_
      refine lv_lconst (v := lN 1) hx hb dX2_bitAt_20 rfl ?_
      refine lv_land hx hb dX2_bitAt_21 ?_
      refine hp_eql (z := lN (on / 2 ^ j % 2)) (wb_mask (k := 1) (Nat.lt_of_le_of_lt (Nat.div_le_self _ _) hon) (by decide)) ?_
      refine lv_lconst (v := lN 1) hx hb dX2_bitAt_22 rfl ?_
      refine W.lcmp hx hb dX2_bitAt_23 ?_
      refine lv_if_ne (tgt := 31) hx hb dX2_bitAt_24 (by decide) (fun c_24 => ?_) (fun c_24 => ?_)
      · have c_24 : ¬ ((on / 2 ^ j % 2) = 1) := fun q => c_24 ((lg_cmp_eq _ _).mpr ((pk_lEQ (by omega) (by omega)).mpr q))
        refine lv_iconst (v := nI 0) hx hb dX2_bitAt_31 (by decide) ?_
        refine lv_istore_n (lv' := [(2, .int (nI 0)), (0, .ref a), (1, .int (nI j))]) hx hb dX2_bitAt_32 rfl hl (by decide) rfl (fun ls hl => ?_)
        refine lv_aload_n hx hb dX2_bitAt_33 rfl (lv_at hl 1 rfl) ?_
        refine hp_get hx hb hown hS.2.1 hH (F_X2_15.use hS) f_a rfl dX2_bitAt_34 ?_
        refine lv_iload_n hx hb dX2_bitAt_37 rfl (lv_at hl 2 rfl) ?_
        refine lv_lushr hx hb dX2_bitAt_38 rfl ?_
        refine hp_eql (z := lN (ze / 2 ^ j)) (wb_shr hze (by omega)) ?_
        refine lv_lconst (v := lN 1) hx hb dX2_bitAt_39 rfl ?_
        refine lv_land hx hb dX2_bitAt_40 ?_
        refine hp_eql (z := lN (ze / 2 ^ j % 2)) (wb_mask (k := 1) (Nat.lt_of_le_of_lt (Nat.div_le_self _ _) hze) (by decide)) ?_
        refine lv_lconst (v := lN 1) hx hb dX2_bitAt_41 rfl ?_
        refine W.lcmp hx hb dX2_bitAt_42 ?_
        refine lv_if_ne (tgt := 50) hx hb dX2_bitAt_43 (by decide) (fun c_43 => ?_) (fun c_43 => ?_)
        · have c_43 : ¬ ((ze / 2 ^ j % 2) = 1) := fun q => c_43 ((lg_cmp_eq _ _).mpr ((pk_lEQ (by omega) (by omega)).mpr q))
          refine lv_iconst (v := nI 0) hx hb dX2_bitAt_50 (by decide) ?_
          refine lv_istore_n (lv' := [(3, .int (nI 0)), (2, .int (nI 0)), (0, .ref a), (1, .int (nI j))]) hx hb dX2_bitAt_51 rfl hl (by decide) rfl (fun ls hl => ?_)
          refine lv_iload_n hx hb dX2_bitAt_52 rfl (lv_at hl 1 rfl) ?_
          refine lv_if_eq (tgt := 62) hx hb dX2_bitAt_53 (by decide) (fun c_53 => ?_) (fun c_53 => ?_)
          · have c_53 : 0 = 0 := nz_0 (by omega) c_53
            refine lv_iload_n hx hb dX2_bitAt_62 rfl (lv_at hl 1 rfl) ?_
            refine lv_if_eq (tgt := 70) hx hb dX2_bitAt_63 (by decide) (fun c_63 => ?_) (fun c_63 => ?_)
            · have c_63 : 0 = 0 := nz_0 (by omega) c_63
              refine lv_iconst (v := nI 0) hx hb dX2_bitAt_70 (by decide) ?_
              exact hp_ri hx hb hr hlocks hS hH (⟨rfl, congrArg nI (Eq.symm (by unfold digN; simp [c_24, c_43])), rfl⟩) dX2_bitAt_71
            · exact absurd c_63 (by decide)
          · exact absurd c_53 (by decide)
        · have c_43 : (ze / 2 ^ j % 2) = 1 := (pk_lEQ (by omega) (by omega)).mp ((lg_cmp_eq _ _).mp c_43)
          refine lv_iconst (v := nI 1) hx hb dX2_bitAt_46 (by decide) ?_
          refine lv_goto (tgt := 51) hx hb dX2_bitAt_47 (by decide) ?_
          refine lv_istore_n (lv' := [(3, .int (nI 1)), (2, .int (nI 0)), (0, .ref a), (1, .int (nI j))]) hx hb dX2_bitAt_51 rfl hl (by decide) rfl (fun ls hl => ?_)
          refine lv_iload_n hx hb dX2_bitAt_52 rfl (lv_at hl 1 rfl) ?_
          refine lv_if_eq (tgt := 62) hx hb dX2_bitAt_53 (by decide) (fun c_53 => ?_) (fun c_53 => ?_)
          · have c_53 : 0 = 0 := nz_0 (by omega) c_53
            refine lv_iload_n hx hb dX2_bitAt_62 rfl (lv_at hl 1 rfl) ?_
            refine lv_if_eq (tgt := 70) hx hb dX2_bitAt_63 (by decide) (fun c_63 => ?_) (fun c_63 => ?_)
            · have c_63 : 0 = 0 := nz_0 (by omega) c_63
              refine lv_iconst (v := nI 0) hx hb dX2_bitAt_70 (by decide) ?_
              exact hp_ri hx hb hr hlocks hS hH (⟨rfl, congrArg nI (Eq.symm (by unfold digN; simp [c_24, c_43])), rfl⟩) dX2_bitAt_71
            · exact absurd c_63 (by decide)
          · exact absurd c_53 (by decide)
      · have c_24 : (on / 2 ^ j % 2) = 1 := (pk_lEQ (by omega) (by omega)).mp ((lg_cmp_eq _ _).mp c_24)
        refine lv_iconst (v := nI 1) hx hb dX2_bitAt_27 (by decide) ?_
        refine lv_goto (tgt := 32) hx hb dX2_bitAt_28 (by decide) ?_
        refine lv_istore_n (lv' := [(2, .int (nI 1)), (0, .ref a), (1, .int (nI j))]) hx hb dX2_bitAt_32 rfl hl (by decide) rfl (fun ls hl => ?_)
        refine lv_aload_n hx hb dX2_bitAt_33 rfl (lv_at hl 1 rfl) ?_
        refine hp_get hx hb hown hS.2.1 hH (F_X2_15.use hS) f_a rfl dX2_bitAt_34 ?_
        refine lv_iload_n hx hb dX2_bitAt_37 rfl (lv_at hl 2 rfl) ?_
        refine lv_lushr hx hb dX2_bitAt_38 rfl ?_
        refine hp_eql (z := lN (ze / 2 ^ j)) (wb_shr hze (by omega)) ?_
        refine lv_lconst (v := lN 1) hx hb dX2_bitAt_39 rfl ?_
        refine lv_land hx hb dX2_bitAt_40 ?_
        refine hp_eql (z := lN (ze / 2 ^ j % 2)) (wb_mask (k := 1) (Nat.lt_of_le_of_lt (Nat.div_le_self _ _) hze) (by decide)) ?_
        refine lv_lconst (v := lN 1) hx hb dX2_bitAt_41 rfl ?_
        refine W.lcmp hx hb dX2_bitAt_42 ?_
        refine lv_if_ne (tgt := 50) hx hb dX2_bitAt_43 (by decide) (fun c_43 => ?_) (fun c_43 => ?_)
        · have c_43 : ¬ ((ze / 2 ^ j % 2) = 1) := fun q => c_43 ((lg_cmp_eq _ _).mpr ((pk_lEQ (by omega) (by omega)).mpr q))
          refine lv_iconst (v := nI 0) hx hb dX2_bitAt_50 (by decide) ?_
          refine lv_istore_n (lv' := [(3, .int (nI 0)), (2, .int (nI 1)), (0, .ref a), (1, .int (nI j))]) hx hb dX2_bitAt_51 rfl hl (by decide) rfl (fun ls hl => ?_)
          refine lv_iload_n hx hb dX2_bitAt_52 rfl (lv_at hl 1 rfl) ?_
          refine lv_if_eq (tgt := 62) hx hb dX2_bitAt_53 (by decide) (fun c_53 => ?_) (fun c_53 => ?_)
          · exact absurd c_53 (by decide)
          · have c_53 : ¬ (1 = 0) := nz_n (by omega) c_53
            refine lv_iload_n hx hb dX2_bitAt_56 rfl (lv_at hl 0 rfl) ?_
            refine lv_if_eq (tgt := 62) hx hb dX2_bitAt_57 (by decide) (fun c_57 => ?_) (fun c_57 => ?_)
            · have c_57 : 0 = 0 := nz_0 (by omega) c_57
              refine lv_iload_n hx hb dX2_bitAt_62 rfl (lv_at hl 1 rfl) ?_
              refine lv_if_eq (tgt := 70) hx hb dX2_bitAt_63 (by decide) (fun c_63 => ?_) (fun c_63 => ?_)
              · exact absurd c_63 (by decide)
              · have c_63 : ¬ (1 = 0) := nz_n (by omega) c_63
                refine lv_iconst (v := nI 1) hx hb dX2_bitAt_66 (by decide) ?_
                refine lv_goto (tgt := 71) hx hb dX2_bitAt_67 (by decide) ?_
                exact hp_ri hx hb hr hlocks hS hH (⟨rfl, congrArg nI (Eq.symm (by unfold digN; simp [c_24, c_43])), rfl⟩) dX2_bitAt_71
            · exact absurd c_57 (by decide)
        · have c_43 : (ze / 2 ^ j % 2) = 1 := (pk_lEQ (by omega) (by omega)).mp ((lg_cmp_eq _ _).mp c_43)
          refine lv_iconst (v := nI 1) hx hb dX2_bitAt_46 (by decide) ?_
          refine lv_goto (tgt := 51) hx hb dX2_bitAt_47 (by decide) ?_
          refine lv_istore_n (lv' := [(3, .int (nI 1)), (2, .int (nI 1)), (0, .ref a), (1, .int (nI j))]) hx hb dX2_bitAt_51 rfl hl (by decide) rfl (fun ls hl => ?_)
          refine lv_iload_n hx hb dX2_bitAt_52 rfl (lv_at hl 1 rfl) ?_
          refine lv_if_eq (tgt := 62) hx hb dX2_bitAt_53 (by decide) (fun c_53 => ?_) (fun c_53 => ?_)
          · exact absurd c_53 (by decide)
          · have c_53 : ¬ (1 = 0) := nz_n (by omega) c_53
            refine lv_iload_n hx hb dX2_bitAt_56 rfl (lv_at hl 0 rfl) ?_
            refine lv_if_eq (tgt := 62) hx hb dX2_bitAt_57 (by decide) (fun c_57 => ?_) (fun c_57 => ?_)
            · exact absurd c_57 (by decide)
            · have c_57 : ¬ (1 = 0) := nz_n (by omega) c_57
              refine lv_iconst (v := nI 2) hx hb dX2_bitAt_60 (by decide) ?_
              exact hp_ri hx hb hr hlocks hS hH (⟨rfl, congrArg nI (Eq.symm (by unfold digN; simp [c_24, c_43])), rfl⟩) dX2_bitAt_61
    · have c_9 : ¬ (j < len) := fun z => c_9 ((nI_ltI (by omega) (by omega)).mpr z)
      exact absurd hj c_9

set_option maxHeartbeats 4000000 in
set_option maxRecDepth 100000 in
theorem c_X2_bitAt_out (l : Launch) (X : hp_X) {μ : hp_M} {nx : Nat} {a on ze len : Nat} {i : Int32} (hj : i < 0 ∨ nI len ≤ i) (f_a : μ a = some (hp_o 1 [.long (lN on), .long (lN ze), .int (nI len)])) : Ct l X yX2_bitAt cX2_bitAt 4 (some FieldType.int) 0 0 0 0 [.ref a, .int i] μ nx (hq_i X (po_i nx (-1) (fun z => z = μ))) := by
  refine hp_met (by decide) (Nat.le_of_ble_eq_true rfl) ?_
  intro p e s m below meth c ls hx hb hml hr hlocks hown hin hS hH hl
  have hl : lv_has ls 4 [(0, .ref a), (1, .int i)] := hl
  refine lv_iload_n hx hb dX2_bitAt_0 rfl (lv_at hl 1 rfl) ?_
  refine lv_if_lt (tgt := 12) hx hb dX2_bitAt_1 (by decide) (fun c_1 => ?_) (fun c_1 => ?_)
  · refine lv_iconst (v := (-1)) hx hb dX2_bitAt_12 (by decide) ?_
    exact hp_ri hx hb hr hlocks hS hH (⟨rfl, rfl, rfl⟩) dX2_bitAt_13
  · refine lv_iload_n hx hb dX2_bitAt_4 rfl (lv_at hl 1 rfl) ?_
    refine lv_aload_n hx hb dX2_bitAt_5 rfl (lv_at hl 0 rfl) ?_
    refine hp_get hx hb hown hS.2.1 hH (F_X2_18.use hS) f_a rfl dX2_bitAt_6 ?_
    refine lv_icmp_lt (tgt := 14) hx hb dX2_bitAt_9 (by decide) (fun c_9 => ?_) (fun c_9 => ?_)
    · exact absurd hj (fun q => q.elim c_1 (fun q => absurd (Int32.lt_of_lt_of_le c_9 q) (by simp)))
    · refine lv_iconst (v := (-1)) hx hb dX2_bitAt_12 (by decide) ?_
      exact hp_ri hx hb hr hlocks hS hH (⟨rfl, rfl, rfl⟩) dX2_bitAt_13

set_option maxHeartbeats 4000000 in
set_option maxRecDepth 100000 in
theorem c_X2_beginsWith (l : Launch) (X : hp_X) {μ : hp_M} {nx : Nat} {a on ze len b : Nat} (hon : on < 2 ^ 64) (hze : ze < 2 ^ 64) (hb1 : b < 2 ^ 8) (f_a : μ a = some (hp_o 1 [.long (lN on), .long (lN ze), .int (nI len)])) : Ct l X yX2_beginsWith cX2_beginsWith 2 (some FieldType.boolean) 0 0 0 0 [.ref a, .int (nI b)] μ nx (hq_i X (po_i nx (nB (decide (on % 256 = b ∧ ze % 256 = b ^^^ 255))) (fun z => z = μ))) := by
  refine hp_met (by decide) (Nat.le_of_ble_eq_true rfl) ?_
  intro p e s m below meth c ls hx hb hml hr hlocks hown hin hS hH hl
  have hl : lv_has ls 2 [(0, .ref a), (1, .int (nI b))] := hl
  refine lv_aload_n hx hb dX2_beginsWith_0 rfl (lv_at hl 0 rfl) ?_
  refine hp_get hx hb hown hS.2.1 hH (F_X2_9.use hS) f_a rfl dX2_beginsWith_1 ?_
  refine lv_ldc2 hx hb hown (hS.1 _ wi_647 _) dX2_beginsWith_4 ?_
  refine hp_eql (z := lN 255) (by decide) ?_
  refine lv_land hx hb dX2_beginsWith_7 ?_
  refine hp_eql (z := lN (on % 256)) (wb_mask (k := 8) hon (by decide)) ?_
  refine lv_iload_n hx hb dX2_beginsWith_8 rfl (lv_at hl 1 rfl) ?_
  refine lv_i2l hx hb dX2_beginsWith_9 rfl ?_
  refine hp_eql (z := lN b) (nI_l (by omega)) ?_
  refine W.lcmp hx hb dX2_beginsWith_10 ?_
  refine lv_if_ne (tgt := 36) hx hb dX2_beginsWith_11 (by decide) (fun c_11 => ?_) (fun c_11 => ?_)
  · have c_11 : ¬ ((on % 256) = b) := fun q => c_11 ((lg_cmp_eq _ _).mpr ((pk_lEQ (by omega) (by omega)).mpr q))
    refine lv_iconst (v := nI 0) hx hb dX2_beginsWith_36 (by decide) ?_
    refine hp_eqi (z := nB false) (by decide) ?_
    exact hp_rz hx hb hr hlocks hS hH (nB_nar _) (⟨rfl, congrArg nB (Eq.symm (by simp [c_11])), rfl⟩) dX2_beginsWith_37
  · have c_11 : (on % 256) = b := (pk_lEQ (by omega) (by omega)).mp ((lg_cmp_eq _ _).mp c_11)
    refine lv_aload_n hx hb dX2_beginsWith_14 rfl (lv_at hl 0 rfl) ?_
    refine hp_get hx hb hown hS.2.1 hH (F_X2_15.use hS) f_a rfl dX2_beginsWith_15 ?_
    refine lv_ldc2 hx hb hown (hS.1 _ wi_647 _) dX2_beginsWith_18 ?_
    refine hp_eql (z := lN 255) (by decide) ?_
    refine lv_land hx hb dX2_beginsWith_21 ?_
    refine hp_eql (z := lN (ze % 256)) (wb_mask (k := 8) hze (by decide)) ?_
    refine lv_iload_n hx hb dX2_beginsWith_22 rfl (lv_at hl 1 rfl) ?_
    refine lv_sipush (v := nI 255) hx hb dX2_beginsWith_23 (by decide) ?_
    refine lv_ixor hx hb dX2_beginsWith_26 ?_
    refine hp_eqi (z := nI (b ^^^ 255)) (nx_xor _ _) ?_
    have hxl : b ^^^ 255 < 2 ^ 8 := Nat.xor_lt_two_pow hb1 (by decide)
    refine lv_i2l hx hb dX2_beginsWith_27 rfl ?_
    refine hp_eql (z := lN (b ^^^ 255)) (nI_l (by omega)) ?_
    refine W.lcmp hx hb dX2_beginsWith_28 ?_
    refine lv_if_ne (tgt := 36) hx hb dX2_beginsWith_29 (by decide) (fun c_29 => ?_) (fun c_29 => ?_)
    · have c_29 : ¬ ((ze % 256) = (b ^^^ 255)) := fun q => c_29 ((lg_cmp_eq _ _).mpr ((pk_lEQ (by omega) (by omega)).mpr q))
      refine lv_iconst (v := nI 0) hx hb dX2_beginsWith_36 (by decide) ?_
      refine hp_eqi (z := nB false) (by decide) ?_
      exact hp_rz hx hb hr hlocks hS hH (nB_nar _) (⟨rfl, congrArg nB (Eq.symm (by simp [c_11, c_29])), rfl⟩) dX2_beginsWith_37
    · have c_29 : (ze % 256) = (b ^^^ 255) := (pk_lEQ (by omega) (by omega)).mp ((lg_cmp_eq _ _).mp c_29)
      refine lv_iconst (v := nI 1) hx hb dX2_beginsWith_32 (by decide) ?_
      refine lv_goto (tgt := 37) hx hb dX2_beginsWith_33 (by decide) ?_
      refine hp_eqi (z := nB true) (by decide) ?_
      exact hp_rz hx hb hr hlocks hS hH (nB_nar _) (⟨rfl, congrArg nB (Eq.symm (by simp [c_11, c_29])), rfl⟩) dX2_beginsWith_37
