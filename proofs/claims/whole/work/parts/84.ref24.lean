set_option maxHeartbeats 4000000 in
set_option maxRecDepth 100000 in
theorem c_X11_tag_out (l : Launch) (X : hp_X) {μ : hp_M} {nx : Nat} {o : Nat} {n a b c1 : Int32} (h1 : n ≠ nI 4) (h2 : n ≠ nI 7) (h3 : n ≠ nI 10)  : Ct l X yX11_tag cX11_tag 10 (some FieldType.int) 2 80 0 0 [.ref o, .int n, .int a, .int b, .int c1] μ nx (hq_i X (po_i nx (-12) (fun z => z = μ))) := by
  refine hp_met (by decide) (Nat.le_of_ble_eq_true rfl) ?_
  intro p e s m below meth c ls hx hb hml hr hlocks hown hin hS hH hl
  have hl : lv_has ls 10 [(0, .ref o), (1, .int n), (2, .int a), (3, .int b), (4, .int c1)] := hl
  refine lv_iload_n hx hb dX11_tag_0 rfl (lv_at hl 1 rfl) ?_
  refine lv_iconst (v := nI 4) hx hb dX11_tag_1 (by decide) ?_
  refine lv_icmp_eq (tgt := 20) hx hb dX11_tag_2 (by decide) (fun c_2 => ?_) (fun c_2 => ?_)
  · exact absurd c_2 h1
  · refine lv_iload_n hx hb dX11_tag_5 rfl (lv_at hl 1 rfl) ?_
    refine lv_bipush (v := nI 7) hx hb dX11_tag_6 (by decide) ?_
    refine lv_icmp_eq (tgt := 20) hx hb dX11_tag_8 (by decide) (fun c_8 => ?_) (fun c_8 => ?_)
    · exact absurd c_8 h2
    · refine lv_iload_n hx hb dX11_tag_11 rfl (lv_at hl 1 rfl) ?_
      refine lv_bipush (v := nI 10) hx hb dX11_tag_12 (by decide) ?_
      refine lv_icmp_eq (tgt := 20) hx hb dX11_tag_14 (by decide) (fun c_14 => ?_) (fun c_14 => ?_)
      · exact absurd c_14 h3
      · refine lv_bipush (v := (-12)) hx hb dX11_tag_17 (by decide) ?_
        exact hp_ri hx hb hr hlocks hS hH (⟨rfl, rfl, rfl⟩) dX11_tag_19

set_option maxHeartbeats 4000000 in
set_option maxRecDepth 100000 in
theorem c_X11_tag_unf (l : Launch) (X : hp_X) {μ : hp_M} {nx : Nat} {o n tz se kd kl tc sd hd an fm fo kc : Nat} {on : Bool} {lv2 : Nat} {a b c1 : Int32} {Z Nu : Nat → Nat} (hl1 : 1 ≤ lv2) (hl3 : lv2 ≤ 3) (hn16 : n ≤ 16) (hZ17 : ∀ j, j < n → Z (j + 1) < 2 ^ 20) (hN170 : ∀ j, Nu j < 2 ^ 20) (hunf : nbN a b c1 (3 * lv2 + 1 - 4) = 136) (f_o : μ o = some (hp_o 7 [.int (nI n), .ref (o + 1), .ref (o + 2), .ref (o + 3), .ref (o + 4), .ref (o + 5), .ref (o + 6), .int (nB on), .int (nI tz), .ref (o + 7), .int (nI se), .ref (o + 8), .ref (o + 9), .int (nI kd), .int (nI kl), .int (nI tc), .ref (o + 10), .int (nI sd), .ref (o + 11), .int (nI hd), .ref (o + 12), .int (nI an), .ref (o + 13), .int (nI fm), .int (nI fo), .ref (o + 14), .ref (o + 15), .int (nI kc), .ref (o + 16)])) (f_1 : μ (o + 1) = some (hp_n X 17 Z)) (f_2 : μ (o + 2) = some (hp_n X 170 Nu)) : Ct l X yX11_tag cX11_tag 10 (some FieldType.int) 2 80 0 0 [.ref o, .int (nI (3 * lv2 + 1)), .int a, .int b, .int c1] μ nx (hq_i X (po_i nx (-13) (fun z => z = μ))) := by
  refine hp_met (by decide) (Nat.le_of_ble_eq_true rfl) ?_
  intro p e s m below meth c ls hx hb hml hr hlocks hown hin hS hH hl
  have hl : lv_has ls 10 [(0, .ref o), (1, .int (nI (3 * lv2 + 1))), (2, .int a), (3, .int b), (4, .int c1)] := hl
  refine lv_iload_n hx hb dX11_tag_0 rfl (lv_at hl 1 rfl) ?_
  refine lv_iconst (v := nI 4) hx hb dX11_tag_1 (by decide) ?_
  refine lv_icmp_eq (tgt := 20) hx hb dX11_tag_2 (by decide) (fun c_2 => ?_) (fun c_2 => ?_)
  · have c_2 : (3 * lv2 + 1) = 4 := (nI_eq (by omega) (by omega)).mp c_2
    refine lv_aload_n hx hb dX11_tag_20 rfl (lv_at hl 0 rfl) ?_
    refine lv_iload_n hx hb dX11_tag_21 rfl (lv_at hl 2 rfl) ?_
    refine lv_iload_n hx hb dX11_tag_22 rfl (lv_at hl 3 rfl) ?_
    refine lv_iload hx hb dX11_tag_23 (lv_at hl 4 rfl) ?_
    refine lv_iload_n hx hb dX11_tag_25 rfl (lv_at hl 1 rfl) ?_
    refine lv_iconst (v := nI 4) hx hb dX11_tag_26 (by decide) ?_
    refine lv_isub hx hb dX11_tag_27 ?_
    refine hp_eqi (z := nI ((3 * lv2 + 1) - 4)) (pk_sub (by omega)) ?_
    refine hp_kip (hp_runV (As := [.int a, .int b, .int c1, .int (nI ((3 * lv2 + 1) - 4))]) (rest := []) hx hb hml hown hS hH (c_X11_byteFrom l X (k := (3 * lv2 + 1) - 4) (a := a) (b := b) (c1 := c1) (by omega)) M_X11_63 I_X11_byteFrom V_X11_byteFrom (ci := 7) rfl rfl f_o rfl hl.1 rfl (Nat.le_of_ble_eq_true rfl) dX11_tag_28 ⟨Nat.le_of_ble_eq_true rfl, Nat.le_of_ble_eq_true rfl⟩ ⟨Nat.le_of_ble_eq_true rfl, Nat.le_of_ble_eq_true rfl⟩) hH (fun H locs hH => ?_)
    have hnb9 := nbN_lt a b c1 ((3 * lv2 + 1) - 4)
    refine lv_sipush (v := nI 136) hx hb dX11_tag_31 (by decide) ?_
    refine lv_icmp_ne (tgt := 40) hx hb dX11_tag_34 (by decide) (fun c_34 => ?_) (fun c_34 => ?_)
    · have c_34 : ¬ ((nbN a b c1 ((3 * lv2 + 1) - 4)) = 136) := fun z => c_34 ((nI_eq (by omega) (by omega)).mpr z)
      exact absurd hunf c_34
    · have c_34 : (nbN a b c1 ((3 * lv2 + 1) - 4)) = 136 := (nI_eq (by omega) (by omega)).mp c_34
      refine lv_bipush (v := (-13)) hx hb dX11_tag_37 (by decide) ?_
      exact hp_ri hx hb hr hlocks hS hH (⟨rfl, rfl, rfl⟩) dX11_tag_39
  · have c_2 : ¬ ((3 * lv2 + 1) = 4) := fun z => c_2 ((nI_eq (by omega) (by omega)).mpr z)
    refine lv_iload_n hx hb dX11_tag_5 rfl (lv_at hl 1 rfl) ?_
    refine lv_bipush (v := nI 7) hx hb dX11_tag_6 (by decide) ?_
    refine lv_icmp_eq (tgt := 20) hx hb dX11_tag_8 (by decide) (fun c_8 => ?_) (fun c_8 => ?_)
    · have c_8 : (3 * lv2 + 1) = 7 := (nI_eq (by omega) (by omega)).mp c_8
      refine lv_aload_n hx hb dX11_tag_20 rfl (lv_at hl 0 rfl) ?_
      refine lv_iload_n hx hb dX11_tag_21 rfl (lv_at hl 2 rfl) ?_
      refine lv_iload_n hx hb dX11_tag_22 rfl (lv_at hl 3 rfl) ?_
      refine lv_iload hx hb dX11_tag_23 (lv_at hl 4 rfl) ?_
      refine lv_iload_n hx hb dX11_tag_25 rfl (lv_at hl 1 rfl) ?_
      refine lv_iconst (v := nI 4) hx hb dX11_tag_26 (by decide) ?_
      refine lv_isub hx hb dX11_tag_27 ?_
      refine hp_eqi (z := nI ((3 * lv2 + 1) - 4)) (pk_sub (by omega)) ?_
      refine hp_kip (hp_runV (As := [.int a, .int b, .int c1, .int (nI ((3 * lv2 + 1) - 4))]) (rest := []) hx hb hml hown hS hH (c_X11_byteFrom l X (k := (3 * lv2 + 1) - 4) (a := a) (b := b) (c1 := c1) (by omega)) M_X11_63 I_X11_byteFrom V_X11_byteFrom (ci := 7) rfl rfl f_o rfl hl.1 rfl (Nat.le_of_ble_eq_true rfl) dX11_tag_28 ⟨Nat.le_of_ble_eq_true rfl, Nat.le_of_ble_eq_true rfl⟩ ⟨Nat.le_of_ble_eq_true rfl, Nat.le_of_ble_eq_true rfl⟩) hH (fun H locs hH => ?_)
      have hnb9 := nbN_lt a b c1 ((3 * lv2 + 1) - 4)
      refine lv_sipush (v := nI 136) hx hb dX11_tag_31 (by decide) ?_
      refine lv_icmp_ne (tgt := 40) hx hb dX11_tag_34 (by decide) (fun c_34 => ?_) (fun c_34 => ?_)
      · have c_34 : ¬ ((nbN a b c1 ((3 * lv2 + 1) - 4)) = 136) := fun z => c_34 ((nI_eq (by omega) (by omega)).mpr z)
        exact absurd hunf c_34
      · have c_34 : (nbN a b c1 ((3 * lv2 + 1) - 4)) = 136 := (nI_eq (by omega) (by omega)).mp c_34
        refine lv_bipush (v := (-13)) hx hb dX11_tag_37 (by decide) ?_
        exact hp_ri hx hb hr hlocks hS hH (⟨rfl, rfl, rfl⟩) dX11_tag_39
    · have c_8 : ¬ ((3 * lv2 + 1) = 7) := fun z => c_8 ((nI_eq (by omega) (by omega)).mpr z)
      refine lv_iload_n hx hb dX11_tag_11 rfl (lv_at hl 1 rfl) ?_
      refine lv_bipush (v := nI 10) hx hb dX11_tag_12 (by decide) ?_
      refine lv_icmp_eq (tgt := 20) hx hb dX11_tag_14 (by decide) (fun c_14 => ?_) (fun c_14 => ?_)
      · have c_14 : (3 * lv2 + 1) = 10 := (nI_eq (by omega) (by omega)).mp c_14
        refine lv_aload_n hx hb dX11_tag_20 rfl (lv_at hl 0 rfl) ?_
        refine lv_iload_n hx hb dX11_tag_21 rfl (lv_at hl 2 rfl) ?_
        refine lv_iload_n hx hb dX11_tag_22 rfl (lv_at hl 3 rfl) ?_
        refine lv_iload hx hb dX11_tag_23 (lv_at hl 4 rfl) ?_
        refine lv_iload_n hx hb dX11_tag_25 rfl (lv_at hl 1 rfl) ?_
        refine lv_iconst (v := nI 4) hx hb dX11_tag_26 (by decide) ?_
        refine lv_isub hx hb dX11_tag_27 ?_
        refine hp_eqi (z := nI ((3 * lv2 + 1) - 4)) (pk_sub (by omega)) ?_
        refine hp_kip (hp_runV (As := [.int a, .int b, .int c1, .int (nI ((3 * lv2 + 1) - 4))]) (rest := []) hx hb hml hown hS hH (c_X11_byteFrom l X (k := (3 * lv2 + 1) - 4) (a := a) (b := b) (c1 := c1) (by omega)) M_X11_63 I_X11_byteFrom V_X11_byteFrom (ci := 7) rfl rfl f_o rfl hl.1 rfl (Nat.le_of_ble_eq_true rfl) dX11_tag_28 ⟨Nat.le_of_ble_eq_true rfl, Nat.le_of_ble_eq_true rfl⟩ ⟨Nat.le_of_ble_eq_true rfl, Nat.le_of_ble_eq_true rfl⟩) hH (fun H locs hH => ?_)
        have hnb9 := nbN_lt a b c1 ((3 * lv2 + 1) - 4)
        refine lv_sipush (v := nI 136) hx hb dX11_tag_31 (by decide) ?_
        refine lv_icmp_ne (tgt := 40) hx hb dX11_tag_34 (by decide) (fun c_34 => ?_) (fun c_34 => ?_)
        · have c_34 : ¬ ((nbN a b c1 ((3 * lv2 + 1) - 4)) = 136) := fun z => c_34 ((nI_eq (by omega) (by omega)).mpr z)
          exact absurd hunf c_34
        · have c_34 : (nbN a b c1 ((3 * lv2 + 1) - 4)) = 136 := (nI_eq (by omega) (by omega)).mp c_34
          refine lv_bipush (v := (-13)) hx hb dX11_tag_37 (by decide) ?_
          exact hp_ri hx hb hr hlocks hS hH (⟨rfl, rfl, rfl⟩) dX11_tag_39
      · have c_14 : ¬ ((3 * lv2 + 1) = 10) := fun z => c_14 ((nI_eq (by omega) (by omega)).mpr z)
        exact absurd c_14 (by omega)

set_option maxHeartbeats 4000000 in
set_option maxRecDepth 100000 in
theorem c_X11_tag_known (l : Launch) (X : hp_X) {μ : hp_M} {nx : Nat} {o n tz se kd kl tc sd hd an fm fo kc : Nat} {on : Bool} {lv2 : Nat} {a b c1 : Int32} {Z Nu : Nat → Nat} (hl1 : 1 ≤ lv2) (hl3 : lv2 ≤ 3) (hn16 : n ≤ 16) (hZ17 : ∀ j, j < n → Z (j + 1) < 2 ^ 20) (hN170 : ∀ j, Nu j < 2 ^ 20) (hunf : ¬ nbN a b c1 (3 * lv2 + 1 - 4) = 136) (hkn : ∃ j, j < n ∧ smR Z Nu lv2 a b c1 j) (f_o : μ o = some (hp_o 7 [.int (nI n), .ref (o + 1), .ref (o + 2), .ref (o + 3), .ref (o + 4), .ref (o + 5), .ref (o + 6), .int (nB on), .int (nI tz), .ref (o + 7), .int (nI se), .ref (o + 8), .ref (o + 9), .int (nI kd), .int (nI kl), .int (nI tc), .ref (o + 10), .int (nI sd), .ref (o + 11), .int (nI hd), .ref (o + 12), .int (nI an), .ref (o + 13), .int (nI fm), .int (nI fo), .ref (o + 14), .ref (o + 15), .int (nI kc), .ref (o + 16)])) (f_1 : μ (o + 1) = some (hp_n X 17 Z)) (f_2 : μ (o + 2) = some (hp_n X 170 Nu)) : Ct l X yX11_tag cX11_tag 10 (some FieldType.int) 2 80 0 0 [.ref o, .int (nI (3 * lv2 + 1)), .int a, .int b, .int c1] μ nx (hq_i X (po_i nx (-13) (fun z => z = μ))) := by
  refine hp_met (by decide) (Nat.le_of_ble_eq_true rfl) ?_
  intro p e s m below meth c ls hx hb hml hr hlocks hown hin hS hH hl
  have hl : lv_has ls 10 [(0, .ref o), (1, .int (nI (3 * lv2 + 1))), (2, .int a), (3, .int b), (4, .int c1)] := hl
  refine lv_iload_n hx hb dX11_tag_0 rfl (lv_at hl 1 rfl) ?_
  refine lv_iconst (v := nI 4) hx hb dX11_tag_1 (by decide) ?_
  refine lv_icmp_eq (tgt := 20) hx hb dX11_tag_2 (by decide) (fun c_2 => ?_) (fun c_2 => ?_)
  · have c_2 : (3 * lv2 + 1) = 4 := (nI_eq (by omega) (by omega)).mp c_2
    refine lv_aload_n hx hb dX11_tag_20 rfl (lv_at hl 0 rfl) ?_
    refine lv_iload_n hx hb dX11_tag_21 rfl (lv_at hl 2 rfl) ?_
    refine lv_iload_n hx hb dX11_tag_22 rfl (lv_at hl 3 rfl) ?_
    refine lv_iload hx hb dX11_tag_23 (lv_at hl 4 rfl) ?_
    refine lv_iload_n hx hb dX11_tag_25 rfl (lv_at hl 1 rfl) ?_
    refine lv_iconst (v := nI 4) hx hb dX11_tag_26 (by decide) ?_
    refine lv_isub hx hb dX11_tag_27 ?_
    refine hp_eqi (z := nI ((3 * lv2 + 1) - 4)) (pk_sub (by omega)) ?_
    refine hp_kip (hp_runV (As := [.int a, .int b, .int c1, .int (nI ((3 * lv2 + 1) - 4))]) (rest := []) hx hb hml hown hS hH (c_X11_byteFrom l X (k := (3 * lv2 + 1) - 4) (a := a) (b := b) (c1 := c1) (by omega)) M_X11_63 I_X11_byteFrom V_X11_byteFrom (ci := 7) rfl rfl f_o rfl hl.1 rfl (Nat.le_of_ble_eq_true rfl) dX11_tag_28 ⟨Nat.le_of_ble_eq_true rfl, Nat.le_of_ble_eq_true rfl⟩ ⟨Nat.le_of_ble_eq_true rfl, Nat.le_of_ble_eq_true rfl⟩) hH (fun H locs hH => ?_)
    have hnb9 := nbN_lt a b c1 ((3 * lv2 + 1) - 4)
    refine lv_sipush (v := nI 136) hx hb dX11_tag_31 (by decide) ?_
    refine lv_icmp_ne (tgt := 40) hx hb dX11_tag_34 (by decide) (fun c_34 => ?_) (fun c_34 => ?_)
    · have c_34 : ¬ ((nbN a b c1 ((3 * lv2 + 1) - 4)) = 136) := fun z => c_34 ((nI_eq (by omega) (by omega)).mpr z)
      refine lv_iconst (v := nI 1) hx hb dX11_tag_40 (by decide) ?_
      refine lv_istore (lv' := [(5, .int (nI 1)), (0, .ref o), (1, .int (nI (3 * lv2 + 1))), (2, .int a), (3, .int b), (4, .int c1)]) hx hb dX11_tag_41 hl (by decide) rfl (fun ls hl => ?_)
      have lp_43 : ∀ (kk43 : Nat) (i : Nat), (i ≤ n) → (∀ j, j < i → ¬ smR Z Nu lv2 a b c1 j) → (n - i) < kk43 → ∀ (H : Heap) (locs : List Loc) (ls : Array Slot), hp_w X cls μ nx H locs → lv_has ls 10 [(0, .ref o), (1, .int (nI (3 * lv2 + 1))), (2, .int a), (3, .int b), (4, .int c1), (5, .int (nI (i + 1)))] → W p l e { frames := 2, cells := 0, slots := 0, locals := 80 } s m [.ref o, .int (nI (3 * lv2 + 1)), .int a, .int b, .int c1].toArray below meth c H locs 0 0 (MQ below (hq_i X (po_i nx (-13) (fun z => z = μ))) [.ref o, .int (nI (3 * lv2 + 1)), .int a, .int b, .int c1].toArray s 0 0 (hp_A X)) (F0 m 43 ls []) := by
        intro kk43
        induction kk43 with
        | zero =>
          intro i hi hno hkk43
          exact absurd hkk43 (Nat.not_lt_zero _)
        | succ kk43 ih43 =>
          intro i hi hno hkk43 H locs ls  hH hl
          refine lv_iload hx hb dX11_tag_43 (lv_at hl 5 rfl) ?_
          refine lv_aload_n hx hb dX11_tag_45 rfl (lv_at hl 0 rfl) ?_
          refine hp_get hx hb hown hS.2.1 hH (F_X11_67.use hS) f_o rfl dX11_tag_46 ?_
          refine lv_icmp_gt (tgt := 137) hx hb dX11_tag_49 (by decide) (fun c_49 => ?_) (fun c_49 => ?_)
          · have c_49 : n < (i + 1) := (nI_ltI (by omega) (by omega)).mp c_49
            obtain ⟨j9, hj9, hs9⟩ := hkn
            exact absurd hs9 (hno j9 (by omega))
          · have c_49 : ¬ (n < (i + 1)) := fun z => c_49 ((nI_ltI (by omega) (by omega)).mpr z)
            refine lv_aload_n hx hb dX11_tag_52 rfl (lv_at hl 0 rfl) ?_
            refine hp_get hx hb hown hS.2.1 hH (F_X11_7.use hS) f_o rfl dX11_tag_53 ?_
            refine lv_iload hx hb dX11_tag_56 (lv_at hl 5 rfl) ?_
            have hZi := hZ17 i (by omega)
            refine hp_ialdN hx hb hS.ai hH f_1 (by omega) (by omega) dX11_tag_58 ?_
            refine lv_iload_n hx hb dX11_tag_59 rfl (lv_at hl 1 rfl) ?_
            refine lv_icmp_ne (tgt := 67) hx hb dX11_tag_60 (by decide) (fun c_60 => ?_) (fun c_60 => ?_)
            · have c_60 : ¬ ((Z (i + 1)) = (3 * lv2 + 1)) := fun z => c_60 ((nI_eq (by omega) (by omega)).mpr z)
              refine lv_iconst (v := nI 0) hx hb dX11_tag_67 (by decide) ?_
              refine lv_istore (lv' := [(6, .int (nI 0)), (0, .ref o), (1, .int (nI (3 * lv2 + 1))), (2, .int a), (3, .int b), (4, .int c1), (5, .int (nI (i + 1)))]) hx hb dX11_tag_68 hl (by decide) rfl (fun ls hl => ?_)
              refine lv_iconst (v := nI 0) hx hb dX11_tag_70 (by decide) ?_
              refine lv_istore (lv' := [(7, .int (nI 0)), (6, .int (nI 0)), (0, .ref o), (1, .int (nI (3 * lv2 + 1))), (2, .int a), (3, .int b), (4, .int c1), (5, .int (nI (i + 1)))]) hx hb dX11_tag_71 hl (by decide) rfl (fun ls hl => ?_)
              have lp_73 : ∀ (kk73 : Nat) (k : Nat) (sm : Bool), (k ≤ 3 * lv2 + 1) → (sm = true ↔ (Z (i + 1) = 3 * lv2 + 1 ∧ ∀ j, j < k → Nu (10 * (i + 1) + j) = nbN a b c1 j)) → (3 * lv2 + 1 - k) < kk73 → ∀ (H : Heap) (locs : List Loc) (ls : Array Slot), hp_w X cls μ nx H locs → lv_has ls 10 [(0, .ref o), (1, .int (nI (3 * lv2 + 1))), (2, .int a), (3, .int b), (4, .int c1), (5, .int (nI (i + 1))), (6, .int (nB sm)), (7, .int (nI k))] → W p l e { frames := 2, cells := 0, slots := 0, locals := 80 } s m [.ref o, .int (nI (3 * lv2 + 1)), .int a, .int b, .int c1].toArray below meth c H locs 0 0 (MQ below (hq_i X (po_i nx (-13) (fun z => z = μ))) [.ref o, .int (nI (3 * lv2 + 1)), .int a, .int b, .int c1].toArray s 0 0 (hp_A X)) (F0 m 73 ls []) := by
                intro kk73
                induction kk73 with
                | zero =>
                  intro k sm hk hsm hkk73
                  exact absurd hkk73 (Nat.not_lt_zero _)
                | succ kk73 ih73 =>
                  intro k sm hk hsm hkk73 H locs ls  hH hl
                  refine lv_iload hx hb dX11_tag_73 (lv_at hl 7 rfl) ?_
                  refine lv_iload_n hx hb dX11_tag_75 rfl (lv_at hl 1 rfl) ?_
                  refine lv_icmp_ge (tgt := 123) hx hb dX11_tag_76 (by decide) (fun c_76 => ?_) (fun c_76 => ?_)
                  · have c_76 : (3 * lv2 + 1) ≤ k := (nI_leI (by omega) (by omega)).mp c_76
                    refine lv_iload hx hb dX11_tag_123 (lv_at hl 6 rfl) ?_
                    refine lv_if_eq (tgt := 131) hx hb dX11_tag_125 (by decide) (fun c_125 => ?_) (fun c_125 => ?_)
                    · have c_125 : sm = false := nB_0 c_125
                      refine lv_iinc (v := nI (i + 1 + 1)) (lv' := [(5, .int (nI (i + 1 + 1))), (0, .ref o), (1, .int (nI (3 * lv2 + 1))), (2, .int a), (3, .int b), (4, .int c1), (6, .int (nB sm)), (7, .int (nI k))]) hx hb dX11_tag_131 hl (k := 5) rfl (nI_add _ 1) (by decide) rfl (fun ls hl => ?_)
                      refine lv_goto (tgt := 43) hx hb dX11_tag_134 (by decide) ?_
                      exact ih43 (i + 1) (by omega) (fun j hj => (Nat.lt_succ_iff_lt_or_eq.mp hj).elim (hno j) (fun h => h ▸ fun q => by have := hsm.mpr ⟨q.1, fun k9 hk9 => q.2 k9 (by omega)⟩; rw [c_125] at this; cases this)) (by omega) _ _ _  hH (lv_sub hl [1, 2, 3, 4, 5, 0] rfl)
                    · have c_125 : sm = true := nB_n c_125
                      refine lv_bipush (v := (-13)) hx hb dX11_tag_128 (by decide) ?_
                      exact hp_ri hx hb hr hlocks hS hH (⟨rfl, rfl, rfl⟩) dX11_tag_130
                  · have c_76 : ¬ ((3 * lv2 + 1) ≤ k) := fun z => c_76 ((nI_leI (by omega) (by omega)).mpr z)
                    refine lv_iload hx hb dX11_tag_79 (lv_at hl 6 rfl) ?_
                    refine lv_if_eq (tgt := 114) hx hb dX11_tag_81 (by decide) (fun c_81 => ?_) (fun c_81 => ?_)
                    · have c_81 : sm = false := nB_0 c_81
                      refine lv_iconst (v := nI 0) hx hb dX11_tag_114 (by decide) ?_
                      refine lv_istore (lv' := [(6, .int (nI 0)), (0, .ref o), (1, .int (nI (3 * lv2 + 1))), (2, .int a), (3, .int b), (4, .int c1), (5, .int (nI (i + 1))), (7, .int (nI k))]) hx hb dX11_tag_115 hl (by decide) rfl (fun ls hl => ?_)
                      refine lv_iinc (v := nI (k + 1)) (lv' := [(7, .int (nI (k + 1))), (6, .int (nI 0)), (0, .ref o), (1, .int (nI (3 * lv2 + 1))), (2, .int a), (3, .int b), (4, .int c1), (5, .int (nI (i + 1)))]) hx hb dX11_tag_117 hl (k := 7) rfl (nI_add _ 1) (by decide) rfl (fun ls hl => ?_)
                      refine lv_goto (tgt := 73) hx hb dX11_tag_120 (by decide) ?_
                      exact ih73 (k + 1) false (by omega) (⟨fun q => (nomatch q), fun q => by have := hsm.mpr ⟨q.1, fun j hj => q.2 j (by omega)⟩; rw [c_81] at this; cases this⟩) (by omega) _ _ _  hH (lv_sub hl [2, 3, 4, 5, 6, 7, 1, 0] rfl)
                    · have c_81 : sm = true := nB_n c_81
                      refine lv_aload_n hx hb dX11_tag_84 rfl (lv_at hl 0 rfl) ?_
                      refine hp_get hx hb hown hS.2.1 hH (F_X11_13.use hS) f_o rfl dX11_tag_85 ?_
                      refine lv_bipush (v := nI 10) hx hb dX11_tag_88 (by decide) ?_
                      refine lv_iload hx hb dX11_tag_90 (lv_at hl 5 rfl) ?_
                      refine lv_imul hx hb dX11_tag_92 ?_
                      refine hp_eqi (z := nI (10 * (i + 1))) (pk_mul _ _) ?_
                      refine lv_iload hx hb dX11_tag_93 (lv_at hl 7 rfl) ?_
                      refine lv_iadd hx hb dX11_tag_95 ?_
                      refine hp_eqi (z := nI ((10 * (i + 1)) + k)) (nI_add _ _) ?_
                      have hNi := hN170 (10 * (i + 1) + k)
                      refine hp_ialdN hx hb hS.ai hH f_2 (by omega) (by omega) dX11_tag_96 ?_
                      refine lv_aload_n hx hb dX11_tag_97 rfl (lv_at hl 0 rfl) ?_
                      refine lv_iload_n hx hb dX11_tag_98 rfl (lv_at hl 2 rfl) ?_
                      refine lv_iload_n hx hb dX11_tag_99 rfl (lv_at hl 3 rfl) ?_
                      refine lv_iload hx hb dX11_tag_100 (lv_at hl 4 rfl) ?_
                      refine lv_iload hx hb dX11_tag_102 (lv_at hl 7 rfl) ?_
                      refine hp_kip (hp_runV (As := [.int a, .int b, .int c1, .int (nI k)]) (rest := [.int (nI (Nu ((10 * (i + 1)) + k)))]) hx hb hml hown hS hH (c_X11_byteFrom l X (k := k) (a := a) (b := b) (c1 := c1) (by omega)) M_X11_63 I_X11_byteFrom V_X11_byteFrom (ci := 7) rfl rfl f_o rfl hl.1 rfl (Nat.le_of_ble_eq_true rfl) dX11_tag_104 ⟨Nat.le_of_ble_eq_true rfl, Nat.le_of_ble_eq_true rfl⟩ ⟨Nat.le_of_ble_eq_true rfl, Nat.le_of_ble_eq_true rfl⟩) hH (fun H locs hH => ?_)
                      have hnb9 := nbN_lt a b c1 (k)
                      refine lv_icmp_ne (tgt := 114) hx hb dX11_tag_107 (by decide) (fun c_107 => ?_) (fun c_107 => ?_)
                      · have c_107 : ¬ ((Nu ((10 * (i + 1)) + k)) = (nbN a b c1 (k))) := fun z => c_107 ((nI_eq (by omega) (by omega)).mpr z)
                        refine lv_iconst (v := nI 0) hx hb dX11_tag_114 (by decide) ?_
                        refine lv_istore (lv' := [(6, .int (nI 0)), (0, .ref o), (1, .int (nI (3 * lv2 + 1))), (2, .int a), (3, .int b), (4, .int c1), (5, .int (nI (i + 1))), (7, .int (nI k))]) hx hb dX11_tag_115 hl (by decide) rfl (fun ls hl => ?_)
                        refine lv_iinc (v := nI (k + 1)) (lv' := [(7, .int (nI (k + 1))), (6, .int (nI 0)), (0, .ref o), (1, .int (nI (3 * lv2 + 1))), (2, .int a), (3, .int b), (4, .int c1), (5, .int (nI (i + 1)))]) hx hb dX11_tag_117 hl (k := 7) rfl (nI_add _ 1) (by decide) rfl (fun ls hl => ?_)
                        refine lv_goto (tgt := 73) hx hb dX11_tag_120 (by decide) ?_
                        exact ih73 (k + 1) false (by omega) (⟨fun q => (nomatch q), fun q => absurd (q.2 k (Nat.lt_succ_self _)) c_107⟩) (by omega) _ _ _  hH (lv_sub hl [2, 3, 4, 5, 6, 7, 1, 0] rfl)
                      · have c_107 : (Nu ((10 * (i + 1)) + k)) = (nbN a b c1 (k)) := (nI_eq (by omega) (by omega)).mp c_107
                        refine lv_iconst (v := nI 1) hx hb dX11_tag_110 (by decide) ?_
                        refine lv_goto (tgt := 115) hx hb dX11_tag_111 (by decide) ?_
                        refine lv_istore (lv' := [(6, .int (nI 1)), (0, .ref o), (1, .int (nI (3 * lv2 + 1))), (2, .int a), (3, .int b), (4, .int c1), (5, .int (nI (i + 1))), (7, .int (nI k))]) hx hb dX11_tag_115 hl (by decide) rfl (fun ls hl => ?_)
                        refine lv_iinc (v := nI (k + 1)) (lv' := [(7, .int (nI (k + 1))), (6, .int (nI 1)), (0, .ref o), (1, .int (nI (3 * lv2 + 1))), (2, .int a), (3, .int b), (4, .int c1), (5, .int (nI (i + 1)))]) hx hb dX11_tag_117 hl (k := 7) rfl (nI_add _ 1) (by decide) rfl (fun ls hl => ?_)
                        refine lv_goto (tgt := 73) hx hb dX11_tag_120 (by decide) ?_
                        exact ih73 (k + 1) true (by omega) (⟨fun _ => ⟨(hsm.mp c_81).1, fun j hj => (Nat.lt_succ_iff_lt_or_eq.mp hj).elim ((hsm.mp c_81).2 j) (fun h => h ▸ c_107)⟩, fun _ => rfl⟩) (by omega) _ _ _  hH (lv_sub hl [2, 3, 4, 5, 6, 7, 1, 0] rfl)
              exact lp_73 ((3 * lv2 + 1 - 0) + 1) 0 false (Nat.zero_le _) (⟨fun q => (nomatch q), fun q => absurd q.1 c_60⟩) (Nat.lt_succ_self _) _ _ _  hH (lv_sub hl [2, 3, 4, 5, 6, 7, 1, 0] rfl)
            · have c_60 : (Z (i + 1)) = (3 * lv2 + 1) := (nI_eq (by omega) (by omega)).mp c_60
              refine lv_iconst (v := nI 1) hx hb dX11_tag_63 (by decide) ?_
              refine lv_goto (tgt := 68) hx hb dX11_tag_64 (by decide) ?_
              refine lv_istore (lv' := [(6, .int (nI 1)), (0, .ref o), (1, .int (nI (3 * lv2 + 1))), (2, .int a), (3, .int b), (4, .int c1), (5, .int (nI (i + 1)))]) hx hb dX11_tag_68 hl (by decide) rfl (fun ls hl => ?_)
              refine lv_iconst (v := nI 0) hx hb dX11_tag_70 (by decide) ?_
              refine lv_istore (lv' := [(7, .int (nI 0)), (6, .int (nI 1)), (0, .ref o), (1, .int (nI (3 * lv2 + 1))), (2, .int a), (3, .int b), (4, .int c1), (5, .int (nI (i + 1)))]) hx hb dX11_tag_71 hl (by decide) rfl (fun ls hl => ?_)
              have lp_73 : ∀ (kk73 : Nat) (k : Nat) (sm : Bool), (k ≤ 3 * lv2 + 1) → (sm = true ↔ (Z (i + 1) = 3 * lv2 + 1 ∧ ∀ j, j < k → Nu (10 * (i + 1) + j) = nbN a b c1 j)) → (3 * lv2 + 1 - k) < kk73 → ∀ (H : Heap) (locs : List Loc) (ls : Array Slot), hp_w X cls μ nx H locs → lv_has ls 10 [(0, .ref o), (1, .int (nI (3 * lv2 + 1))), (2, .int a), (3, .int b), (4, .int c1), (5, .int (nI (i + 1))), (6, .int (nB sm)), (7, .int (nI k))] → W p l e { frames := 2, cells := 0, slots := 0, locals := 80 } s m [.ref o, .int (nI (3 * lv2 + 1)), .int a, .int b, .int c1].toArray below meth c H locs 0 0 (MQ below (hq_i X (po_i nx (-13) (fun z => z = μ))) [.ref o, .int (nI (3 * lv2 + 1)), .int a, .int b, .int c1].toArray s 0 0 (hp_A X)) (F0 m 73 ls []) := by
                intro kk73
                induction kk73 with
                | zero =>
                  intro k sm hk hsm hkk73
                  exact absurd hkk73 (Nat.not_lt_zero _)
                | succ kk73 ih73 =>
                  intro k sm hk hsm hkk73 H locs ls  hH hl
                  refine lv_iload hx hb dX11_tag_73 (lv_at hl 7 rfl) ?_
                  refine lv_iload_n hx hb dX11_tag_75 rfl (lv_at hl 1 rfl) ?_
                  refine lv_icmp_ge (tgt := 123) hx hb dX11_tag_76 (by decide) (fun c_76 => ?_) (fun c_76 => ?_)
                  · have c_76 : (3 * lv2 + 1) ≤ k := (nI_leI (by omega) (by omega)).mp c_76
                    refine lv_iload hx hb dX11_tag_123 (lv_at hl 6 rfl) ?_
                    refine lv_if_eq (tgt := 131) hx hb dX11_tag_125 (by decide) (fun c_125 => ?_) (fun c_125 => ?_)
                    · have c_125 : sm = false := nB_0 c_125
                      refine lv_iinc (v := nI (i + 1 + 1)) (lv' := [(5, .int (nI (i + 1 + 1))), (0, .ref o), (1, .int (nI (3 * lv2 + 1))), (2, .int a), (3, .int b), (4, .int c1), (6, .int (nB sm)), (7, .int (nI k))]) hx hb dX11_tag_131 hl (k := 5) rfl (nI_add _ 1) (by decide) rfl (fun ls hl => ?_)
                      refine lv_goto (tgt := 43) hx hb dX11_tag_134 (by decide) ?_
                      exact ih43 (i + 1) (by omega) (fun j hj => (Nat.lt_succ_iff_lt_or_eq.mp hj).elim (hno j) (fun h => h ▸ fun q => by have := hsm.mpr ⟨q.1, fun k9 hk9 => q.2 k9 (by omega)⟩; rw [c_125] at this; cases this)) (by omega) _ _ _  hH (lv_sub hl [1, 2, 3, 4, 5, 0] rfl)
                    · have c_125 : sm = true := nB_n c_125
                      refine lv_bipush (v := (-13)) hx hb dX11_tag_128 (by decide) ?_
                      exact hp_ri hx hb hr hlocks hS hH (⟨rfl, rfl, rfl⟩) dX11_tag_130
                  · have c_76 : ¬ ((3 * lv2 + 1) ≤ k) := fun z => c_76 ((nI_leI (by omega) (by omega)).mpr z)
                    refine lv_iload hx hb dX11_tag_79 (lv_at hl 6 rfl) ?_
                    refine lv_if_eq (tgt := 114) hx hb dX11_tag_81 (by decide) (fun c_81 => ?_) (fun c_81 => ?_)
                    · have c_81 : sm = false := nB_0 c_81
                      refine lv_iconst (v := nI 0) hx hb dX11_tag_114 (by decide) ?_
                      refine lv_istore (lv' := [(6, .int (nI 0)), (0, .ref o), (1, .int (nI (3 * lv2 + 1))), (2, .int a), (3, .int b), (4, .int c1), (5, .int (nI (i + 1))), (7, .int (nI k))]) hx hb dX11_tag_115 hl (by decide) rfl (fun ls hl => ?_)
                      refine lv_iinc (v := nI (k + 1)) (lv' := [(7, .int (nI (k + 1))), (6, .int (nI 0)), (0, .ref o), (1, .int (nI (3 * lv2 + 1))), (2, .int a), (3, .int b), (4, .int c1), (5, .int (nI (i + 1)))]) hx hb dX11_tag_117 hl (k := 7) rfl (nI_add _ 1) (by decide) rfl (fun ls hl => ?_)
                      refine lv_goto (tgt := 73) hx hb dX11_tag_120 (by decide) ?_
                      exact ih73 (k + 1) false (by omega) (⟨fun q => (nomatch q), fun q => by have := hsm.mpr ⟨q.1, fun j hj => q.2 j (by omega)⟩; rw [c_81] at this; cases this⟩) (by omega) _ _ _  hH (lv_sub hl [2, 3, 4, 5, 6, 7, 1, 0] rfl)
                    · have c_81 : sm = true := nB_n c_81
                      refine lv_aload_n hx hb dX11_tag_84 rfl (lv_at hl 0 rfl) ?_
                      refine hp_get hx hb hown hS.2.1 hH (F_X11_13.use hS) f_o rfl dX11_tag_85 ?_
                      refine lv_bipush (v := nI 10) hx hb dX11_tag_88 (by decide) ?_
                      refine lv_iload hx hb dX11_tag_90 (lv_at hl 5 rfl) ?_
                      refine lv_imul hx hb dX11_tag_92 ?_
                      refine hp_eqi (z := nI (10 * (i + 1))) (pk_mul _ _) ?_
                      refine lv_iload hx hb dX11_tag_93 (lv_at hl 7 rfl) ?_
                      refine lv_iadd hx hb dX11_tag_95 ?_
                      refine hp_eqi (z := nI ((10 * (i + 1)) + k)) (nI_add _ _) ?_
                      have hNi := hN170 (10 * (i + 1) + k)
                      refine hp_ialdN hx hb hS.ai hH f_2 (by omega) (by omega) dX11_tag_96 ?_
                      refine lv_aload_n hx hb dX11_tag_97 rfl (lv_at hl 0 rfl) ?_
                      refine lv_iload_n hx hb dX11_tag_98 rfl (lv_at hl 2 rfl) ?_
                      refine lv_iload_n hx hb dX11_tag_99 rfl (lv_at hl 3 rfl) ?_
                      refine lv_iload hx hb dX11_tag_100 (lv_at hl 4 rfl) ?_
                      refine lv_iload hx hb dX11_tag_102 (lv_at hl 7 rfl) ?_
                      refine hp_kip (hp_runV (As := [.int a, .int b, .int c1, .int (nI k)]) (rest := [.int (nI (Nu ((10 * (i + 1)) + k)))]) hx hb hml hown hS hH (c_X11_byteFrom l X (k := k) (a := a) (b := b) (c1 := c1) (by omega)) M_X11_63 I_X11_byteFrom V_X11_byteFrom (ci := 7) rfl rfl f_o rfl hl.1 rfl (Nat.le_of_ble_eq_true rfl) dX11_tag_104 ⟨Nat.le_of_ble_eq_true rfl, Nat.le_of_ble_eq_true rfl⟩ ⟨Nat.le_of_ble_eq_true rfl, Nat.le_of_ble_eq_true rfl⟩) hH (fun H locs hH => ?_)
                      have hnb9 := nbN_lt a b c1 (k)
                      refine lv_icmp_ne (tgt := 114) hx hb dX11_tag_107 (by decide) (fun c_107 => ?_) (fun c_107 => ?_)
                      · have c_107 : ¬ ((Nu ((10 * (i + 1)) + k)) = (nbN a b c1 (k))) := fun z => c_107 ((nI_eq (by omega) (by omega)).mpr z)
                        refine lv_iconst (v := nI 0) hx hb dX11_tag_114 (by decide) ?_
                        refine lv_istore (lv' := [(6, .int (nI 0)), (0, .ref o), (1, .int (nI (3 * lv2 + 1))), (2, .int a), (3, .int b), (4, .int c1), (5, .int (nI (i + 1))), (7, .int (nI k))]) hx hb dX11_tag_115 hl (by decide) rfl (fun ls hl => ?_)
                        refine lv_iinc (v := nI (k + 1)) (lv' := [(7, .int (nI (k + 1))), (6, .int (nI 0)), (0, .ref o), (1, .int (nI (3 * lv2 + 1))), (2, .int a), (3, .int b), (4, .int c1), (5, .int (nI (i + 1)))]) hx hb dX11_tag_117 hl (k := 7) rfl (nI_add _ 1) (by decide) rfl (fun ls hl => ?_)
                        refine lv_goto (tgt := 73) hx hb dX11_tag_120 (by decide) ?_
                        exact ih73 (k + 1) false (by omega) (⟨fun q => (nomatch q), fun q => absurd (q.2 k (Nat.lt_succ_self _)) c_107⟩) (by omega) _ _ _  hH (lv_sub hl [2, 3, 4, 5, 6, 7, 1, 0] rfl)
                      · have c_107 : (Nu ((10 * (i + 1)) + k)) = (nbN a b c1 (k)) := (nI_eq (by omega) (by omega)).mp c_107
                        refine lv_iconst (v := nI 1) hx hb dX11_tag_110 (by decide) ?_
                        refine lv_goto (tgt := 115) hx hb dX11_tag_111 (by decide) ?_
                        refine lv_istore (lv' := [(6, .int (nI 1)), (0, .ref o), (1, .int (nI (3 * lv2 + 1))), (2, .int a), (3, .int b), (4, .int c1), (5, .int (nI (i + 1))), (7, .int (nI k))]) hx hb dX11_tag_115 hl (by decide) rfl (fun ls hl => ?_)
                        refine lv_iinc (v := nI (k + 1)) (lv' := [(7, .int (nI (k + 1))), (6, .int (nI 1)), (0, .ref o), (1, .int (nI (3 * lv2 + 1))), (2, .int a), (3, .int b), (4, .int c1), (5, .int (nI (i + 1)))]) hx hb dX11_tag_117 hl (k := 7) rfl (nI_add _ 1) (by decide) rfl (fun ls hl => ?_)
                        refine lv_goto (tgt := 73) hx hb dX11_tag_120 (by decide) ?_
                        exact ih73 (k + 1) true (by omega) (⟨fun _ => ⟨(hsm.mp c_81).1, fun j hj => (Nat.lt_succ_iff_lt_or_eq.mp hj).elim ((hsm.mp c_81).2 j) (fun h => h ▸ c_107)⟩, fun _ => rfl⟩) (by omega) _ _ _  hH (lv_sub hl [2, 3, 4, 5, 6, 7, 1, 0] rfl)
              exact lp_73 ((3 * lv2 + 1 - 0) + 1) 0 true (Nat.zero_le _) (⟨fun _ => ⟨c_60, fun j hj => absurd hj (Nat.not_lt_zero _)⟩, fun _ => rfl⟩) (Nat.lt_succ_self _) _ _ _  hH (lv_sub hl [2, 3, 4, 5, 6, 7, 1, 0] rfl)
      exact lp_43 ((n - 0) + 1) 0 (Nat.zero_le _) (fun j hj => absurd hj (Nat.not_lt_zero _)) (Nat.lt_succ_self _) _ _ _  hH (lv_sub hl [1, 2, 3, 4, 5, 0] rfl)
    · have c_34 : (nbN a b c1 ((3 * lv2 + 1) - 4)) = 136 := (nI_eq (by omega) (by omega)).mp c_34
      exact absurd c_34 hunf
  · have c_2 : ¬ ((3 * lv2 + 1) = 4) := fun z => c_2 ((nI_eq (by omega) (by omega)).mpr z)
    refine lv_iload_n hx hb dX11_tag_5 rfl (lv_at hl 1 rfl) ?_
    refine lv_bipush (v := nI 7) hx hb dX11_tag_6 (by decide) ?_
    refine lv_icmp_eq (tgt := 20) hx hb dX11_tag_8 (by decide) (fun c_8 => ?_) (fun c_8 => ?_)
    · have c_8 : (3 * lv2 + 1) = 7 := (nI_eq (by omega) (by omega)).mp c_8
      refine lv_aload_n hx hb dX11_tag_20 rfl (lv_at hl 0 rfl) ?_
      refine lv_iload_n hx hb dX11_tag_21 rfl (lv_at hl 2 rfl) ?_
      refine lv_iload_n hx hb dX11_tag_22 rfl (lv_at hl 3 rfl) ?_
      refine lv_iload hx hb dX11_tag_23 (lv_at hl 4 rfl) ?_
      refine lv_iload_n hx hb dX11_tag_25 rfl (lv_at hl 1 rfl) ?_
      refine lv_iconst (v := nI 4) hx hb dX11_tag_26 (by decide) ?_
      refine lv_isub hx hb dX11_tag_27 ?_
      refine hp_eqi (z := nI ((3 * lv2 + 1) - 4)) (pk_sub (by omega)) ?_
      refine hp_kip (hp_runV (As := [.int a, .int b, .int c1, .int (nI ((3 * lv2 + 1) - 4))]) (rest := []) hx hb hml hown hS hH (c_X11_byteFrom l X (k := (3 * lv2 + 1) - 4) (a := a) (b := b) (c1 := c1) (by omega)) M_X11_63 I_X11_byteFrom V_X11_byteFrom (ci := 7) rfl rfl f_o rfl hl.1 rfl (Nat.le_of_ble_eq_true rfl) dX11_tag_28 ⟨Nat.le_of_ble_eq_true rfl, Nat.le_of_ble_eq_true rfl⟩ ⟨Nat.le_of_ble_eq_true rfl, Nat.le_of_ble_eq_true rfl⟩) hH (fun H locs hH => ?_)
      have hnb9 := nbN_lt a b c1 ((3 * lv2 + 1) - 4)
      refine lv_sipush (v := nI 136) hx hb dX11_tag_31 (by decide) ?_
      refine lv_icmp_ne (tgt := 40) hx hb dX11_tag_34 (by decide) (fun c_34 => ?_) (fun c_34 => ?_)
      · have c_34 : ¬ ((nbN a b c1 ((3 * lv2 + 1) - 4)) = 136) := fun z => c_34 ((nI_eq (by omega) (by omega)).mpr z)
        refine lv_iconst (v := nI 1) hx hb dX11_tag_40 (by decide) ?_
        refine lv_istore (lv' := [(5, .int (nI 1)), (0, .ref o), (1, .int (nI (3 * lv2 + 1))), (2, .int a), (3, .int b), (4, .int c1)]) hx hb dX11_tag_41 hl (by decide) rfl (fun ls hl => ?_)
        have lp_43 : ∀ (kk43 : Nat) (i : Nat), (i ≤ n) → (∀ j, j < i → ¬ smR Z Nu lv2 a b c1 j) → (n - i) < kk43 → ∀ (H : Heap) (locs : List Loc) (ls : Array Slot), hp_w X cls μ nx H locs → lv_has ls 10 [(0, .ref o), (1, .int (nI (3 * lv2 + 1))), (2, .int a), (3, .int b), (4, .int c1), (5, .int (nI (i + 1)))] → W p l e { frames := 2, cells := 0, slots := 0, locals := 80 } s m [.ref o, .int (nI (3 * lv2 + 1)), .int a, .int b, .int c1].toArray below meth c H locs 0 0 (MQ below (hq_i X (po_i nx (-13) (fun z => z = μ))) [.ref o, .int (nI (3 * lv2 + 1)), .int a, .int b, .int c1].toArray s 0 0 (hp_A X)) (F0 m 43 ls []) := by
          intro kk43
          induction kk43 with
          | zero =>
            intro i hi hno hkk43
            exact absurd hkk43 (Nat.not_lt_zero _)
          | succ kk43 ih43 =>
            intro i hi hno hkk43 H locs ls  hH hl
            refine lv_iload hx hb dX11_tag_43 (lv_at hl 5 rfl) ?_
            refine lv_aload_n hx hb dX11_tag_45 rfl (lv_at hl 0 rfl) ?_
            refine hp_get hx hb hown hS.2.1 hH (F_X11_67.use hS) f_o rfl dX11_tag_46 ?_
            refine lv_icmp_gt (tgt := 137) hx hb dX11_tag_49 (by decide) (fun c_49 => ?_) (fun c_49 => ?_)
            · have c_49 : n < (i + 1) := (nI_ltI (by omega) (by omega)).mp c_49
              obtain ⟨j9, hj9, hs9⟩ := hkn
              exact absurd hs9 (hno j9 (by omega))
            · have c_49 : ¬ (n < (i + 1)) := fun z => c_49 ((nI_ltI (by omega) (by omega)).mpr z)
              refine lv_aload_n hx hb dX11_tag_52 rfl (lv_at hl 0 rfl) ?_
              refine hp_get hx hb hown hS.2.1 hH (F_X11_7.use hS) f_o rfl dX11_tag_53 ?_
              refine lv_iload hx hb dX11_tag_56 (lv_at hl 5 rfl) ?_
              have hZi := hZ17 i (by omega)
              refine hp_ialdN hx hb hS.ai hH f_1 (by omega) (by omega) dX11_tag_58 ?_
              refine lv_iload_n hx hb dX11_tag_59 rfl (lv_at hl 1 rfl) ?_
              refine lv_icmp_ne (tgt := 67) hx hb dX11_tag_60 (by decide) (fun c_60 => ?_) (fun c_60 => ?_)
              · have c_60 : ¬ ((Z (i + 1)) = (3 * lv2 + 1)) := fun z => c_60 ((nI_eq (by omega) (by omega)).mpr z)
                refine lv_iconst (v := nI 0) hx hb dX11_tag_67 (by decide) ?_
                refine lv_istore (lv' := [(6, .int (nI 0)), (0, .ref o), (1, .int (nI (3 * lv2 + 1))), (2, .int a), (3, .int b), (4, .int c1), (5, .int (nI (i + 1)))]) hx hb dX11_tag_68 hl (by decide) rfl (fun ls hl => ?_)
                refine lv_iconst (v := nI 0) hx hb dX11_tag_70 (by decide) ?_
                refine lv_istore (lv' := [(7, .int (nI 0)), (6, .int (nI 0)), (0, .ref o), (1, .int (nI (3 * lv2 + 1))), (2, .int a), (3, .int b), (4, .int c1), (5, .int (nI (i + 1)))]) hx hb dX11_tag_71 hl (by decide) rfl (fun ls hl => ?_)
                have lp_73 : ∀ (kk73 : Nat) (k : Nat) (sm : Bool), (k ≤ 3 * lv2 + 1) → (sm = true ↔ (Z (i + 1) = 3 * lv2 + 1 ∧ ∀ j, j < k → Nu (10 * (i + 1) + j) = nbN a b c1 j)) → (3 * lv2 + 1 - k) < kk73 → ∀ (H : Heap) (locs : List Loc) (ls : Array Slot), hp_w X cls μ nx H locs → lv_has ls 10 [(0, .ref o), (1, .int (nI (3 * lv2 + 1))), (2, .int a), (3, .int b), (4, .int c1), (5, .int (nI (i + 1))), (6, .int (nB sm)), (7, .int (nI k))] → W p l e { frames := 2, cells := 0, slots := 0, locals := 80 } s m [.ref o, .int (nI (3 * lv2 + 1)), .int a, .int b, .int c1].toArray below meth c H locs 0 0 (MQ below (hq_i X (po_i nx (-13) (fun z => z = μ))) [.ref o, .int (nI (3 * lv2 + 1)), .int a, .int b, .int c1].toArray s 0 0 (hp_A X)) (F0 m 73 ls []) := by
                  intro kk73
                  induction kk73 with
                  | zero =>
                    intro k sm hk hsm hkk73
                    exact absurd hkk73 (Nat.not_lt_zero _)
                  | succ kk73 ih73 =>
                    intro k sm hk hsm hkk73 H locs ls  hH hl
                    refine lv_iload hx hb dX11_tag_73 (lv_at hl 7 rfl) ?_
                    refine lv_iload_n hx hb dX11_tag_75 rfl (lv_at hl 1 rfl) ?_
                    refine lv_icmp_ge (tgt := 123) hx hb dX11_tag_76 (by decide) (fun c_76 => ?_) (fun c_76 => ?_)
                    · have c_76 : (3 * lv2 + 1) ≤ k := (nI_leI (by omega) (by omega)).mp c_76
                      refine lv_iload hx hb dX11_tag_123 (lv_at hl 6 rfl) ?_
                      refine lv_if_eq (tgt := 131) hx hb dX11_tag_125 (by decide) (fun c_125 => ?_) (fun c_125 => ?_)
                      · have c_125 : sm = false := nB_0 c_125
                        refine lv_iinc (v := nI (i + 1 + 1)) (lv' := [(5, .int (nI (i + 1 + 1))), (0, .ref o), (1, .int (nI (3 * lv2 + 1))), (2, .int a), (3, .int b), (4, .int c1), (6, .int (nB sm)), (7, .int (nI k))]) hx hb dX11_tag_131 hl (k := 5) rfl (nI_add _ 1) (by decide) rfl (fun ls hl => ?_)
                        refine lv_goto (tgt := 43) hx hb dX11_tag_134 (by decide) ?_
                        exact ih43 (i + 1) (by omega) (fun j hj => (Nat.lt_succ_iff_lt_or_eq.mp hj).elim (hno j) (fun h => h ▸ fun q => by have := hsm.mpr ⟨q.1, fun k9 hk9 => q.2 k9 (by omega)⟩; rw [c_125] at this; cases this)) (by omega) _ _ _  hH (lv_sub hl [1, 2, 3, 4, 5, 0] rfl)
                      · have c_125 : sm = true := nB_n c_125
                        refine lv_bipush (v := (-13)) hx hb dX11_tag_128 (by decide) ?_
                        exact hp_ri hx hb hr hlocks hS hH (⟨rfl, rfl, rfl⟩) dX11_tag_130
                    · have c_76 : ¬ ((3 * lv2 + 1) ≤ k) := fun z => c_76 ((nI_leI (by omega) (by omega)).mpr z)
                      refine lv_iload hx hb dX11_tag_79 (lv_at hl 6 rfl) ?_
                      refine lv_if_eq (tgt := 114) hx hb dX11_tag_81 (by decide) (fun c_81 => ?_) (fun c_81 => ?_)
                      · have c_81 : sm = false := nB_0 c_81
                        refine lv_iconst (v := nI 0) hx hb dX11_tag_114 (by decide) ?_
                        refine lv_istore (lv' := [(6, .int (nI 0)), (0, .ref o), (1, .int (nI (3 * lv2 + 1))), (2, .int a), (3, .int b), (4, .int c1), (5, .int (nI (i + 1))), (7, .int (nI k))]) hx hb dX11_tag_115 hl (by decide) rfl (fun ls hl => ?_)
                        refine lv_iinc (v := nI (k + 1)) (lv' := [(7, .int (nI (k + 1))), (6, .int (nI 0)), (0, .ref o), (1, .int (nI (3 * lv2 + 1))), (2, .int a), (3, .int b), (4, .int c1), (5, .int (nI (i + 1)))]) hx hb dX11_tag_117 hl (k := 7) rfl (nI_add _ 1) (by decide) rfl (fun ls hl => ?_)
                        refine lv_goto (tgt := 73) hx hb dX11_tag_120 (by decide) ?_
                        exact ih73 (k + 1) false (by omega) (⟨fun q => (nomatch q), fun q => by have := hsm.mpr ⟨q.1, fun j hj => q.2 j (by omega)⟩; rw [c_81] at this; cases this⟩) (by omega) _ _ _  hH (lv_sub hl [2, 3, 4, 5, 6, 7, 1, 0] rfl)
                      · have c_81 : sm = true := nB_n c_81
                        refine lv_aload_n hx hb dX11_tag_84 rfl (lv_at hl 0 rfl) ?_
                        refine hp_get hx hb hown hS.2.1 hH (F_X11_13.use hS) f_o rfl dX11_tag_85 ?_
                        refine lv_bipush (v := nI 10) hx hb dX11_tag_88 (by decide) ?_
                        refine lv_iload hx hb dX11_tag_90 (lv_at hl 5 rfl) ?_
                        refine lv_imul hx hb dX11_tag_92 ?_
                        refine hp_eqi (z := nI (10 * (i + 1))) (pk_mul _ _) ?_
                        refine lv_iload hx hb dX11_tag_93 (lv_at hl 7 rfl) ?_
                        refine lv_iadd hx hb dX11_tag_95 ?_
                        refine hp_eqi (z := nI ((10 * (i + 1)) + k)) (nI_add _ _) ?_
                        have hNi := hN170 (10 * (i + 1) + k)
                        refine hp_ialdN hx hb hS.ai hH f_2 (by omega) (by omega) dX11_tag_96 ?_
                        refine lv_aload_n hx hb dX11_tag_97 rfl (lv_at hl 0 rfl) ?_
                        refine lv_iload_n hx hb dX11_tag_98 rfl (lv_at hl 2 rfl) ?_
                        refine lv_iload_n hx hb dX11_tag_99 rfl (lv_at hl 3 rfl) ?_
                        refine lv_iload hx hb dX11_tag_100 (lv_at hl 4 rfl) ?_
                        refine lv_iload hx hb dX11_tag_102 (lv_at hl 7 rfl) ?_
                        refine hp_kip (hp_runV (As := [.int a, .int b, .int c1, .int (nI k)]) (rest := [.int (nI (Nu ((10 * (i + 1)) + k)))]) hx hb hml hown hS hH (c_X11_byteFrom l X (k := k) (a := a) (b := b) (c1 := c1) (by omega)) M_X11_63 I_X11_byteFrom V_X11_byteFrom (ci := 7) rfl rfl f_o rfl hl.1 rfl (Nat.le_of_ble_eq_true rfl) dX11_tag_104 ⟨Nat.le_of_ble_eq_true rfl, Nat.le_of_ble_eq_true rfl⟩ ⟨Nat.le_of_ble_eq_true rfl, Nat.le_of_ble_eq_true rfl⟩) hH (fun H locs hH => ?_)
                        have hnb9 := nbN_lt a b c1 (k)
                        refine lv_icmp_ne (tgt := 114) hx hb dX11_tag_107 (by decide) (fun c_107 => ?_) (fun c_107 => ?_)
                        · have c_107 : ¬ ((Nu ((10 * (i + 1)) + k)) = (nbN a b c1 (k))) := fun z => c_107 ((nI_eq (by omega) (by omega)).mpr z)
                          refine lv_iconst (v := nI 0) hx hb dX11_tag_114 (by decide) ?_
                          refine lv_istore (lv' := [(6, .int (nI 0)), (0, .ref o), (1, .int (nI (3 * lv2 + 1))), (2, .int a), (3, .int b), (4, .int c1), (5, .int (nI (i + 1))), (7, .int (nI k))]) hx hb dX11_tag_115 hl (by decide) rfl (fun ls hl => ?_)
                          refine lv_iinc (v := nI (k + 1)) (lv' := [(7, .int (nI (k + 1))), (6, .int (nI 0)), (0, .ref o), (1, .int (nI (3 * lv2 + 1))), (2, .int a), (3, .int b), (4, .int c1), (5, .int (nI (i + 1)))]) hx hb dX11_tag_117 hl (k := 7) rfl (nI_add _ 1) (by decide) rfl (fun ls hl => ?_)
                          refine lv_goto (tgt := 73) hx hb dX11_tag_120 (by decide) ?_
                          exact ih73 (k + 1) false (by omega) (⟨fun q => (nomatch q), fun q => absurd (q.2 k (Nat.lt_succ_self _)) c_107⟩) (by omega) _ _ _  hH (lv_sub hl [2, 3, 4, 5, 6, 7, 1, 0] rfl)
                        · have c_107 : (Nu ((10 * (i + 1)) + k)) = (nbN a b c1 (k)) := (nI_eq (by omega) (by omega)).mp c_107
                          refine lv_iconst (v := nI 1) hx hb dX11_tag_110 (by decide) ?_
                          refine lv_goto (tgt := 115) hx hb dX11_tag_111 (by decide) ?_
                          refine lv_istore (lv' := [(6, .int (nI 1)), (0, .ref o), (1, .int (nI (3 * lv2 + 1))), (2, .int a), (3, .int b), (4, .int c1), (5, .int (nI (i + 1))), (7, .int (nI k))]) hx hb dX11_tag_115 hl (by decide) rfl (fun ls hl => ?_)
                          refine lv_iinc (v := nI (k + 1)) (lv' := [(7, .int (nI (k + 1))), (6, .int (nI 1)), (0, .ref o), (1, .int (nI (3 * lv2 + 1))), (2, .int a), (3, .int b), (4, .int c1), (5, .int (nI (i + 1)))]) hx hb dX11_tag_117 hl (k := 7) rfl (nI_add _ 1) (by decide) rfl (fun ls hl => ?_)
                          refine lv_goto (tgt := 73) hx hb dX11_tag_120 (by decide) ?_
                          exact ih73 (k + 1) true (by omega) (⟨fun _ => ⟨(hsm.mp c_81).1, fun j hj => (Nat.lt_succ_iff_lt_or_eq.mp hj).elim ((hsm.mp c_81).2 j) (fun h => h ▸ c_107)⟩, fun _ => rfl⟩) (by omega) _ _ _  hH (lv_sub hl [2, 3, 4, 5, 6, 7, 1, 0] rfl)
                exact lp_73 ((3 * lv2 + 1 - 0) + 1) 0 false (Nat.zero_le _) (⟨fun q => (nomatch q), fun q => absurd q.1 c_60⟩) (Nat.lt_succ_self _) _ _ _  hH (lv_sub hl [2, 3, 4, 5, 6, 7, 1, 0] rfl)
              · have c_60 : (Z (i + 1)) = (3 * lv2 + 1) := (nI_eq (by omega) (by omega)).mp c_60
                refine lv_iconst (v := nI 1) hx hb dX11_tag_63 (by decide) ?_
                refine lv_goto (tgt := 68) hx hb dX11_tag_64 (by decide) ?_
                refine lv_istore (lv' := [(6, .int (nI 1)), (0, .ref o), (1, .int (nI (3 * lv2 + 1))), (2, .int a), (3, .int b), (4, .int c1), (5, .int (nI (i + 1)))]) hx hb dX11_tag_68 hl (by decide) rfl (fun ls hl => ?_)
                refine lv_iconst (v := nI 0) hx hb dX11_tag_70 (by decide) ?_
                refine lv_istore (lv' := [(7, .int (nI 0)), (6, .int (nI 1)), (0, .ref o), (1, .int (nI (3 * lv2 + 1))), (2, .int a), (3, .int b), (4, .int c1), (5, .int (nI (i + 1)))]) hx hb dX11_tag_71 hl (by decide) rfl (fun ls hl => ?_)
                have lp_73 : ∀ (kk73 : Nat) (k : Nat) (sm : Bool), (k ≤ 3 * lv2 + 1) → (sm = true ↔ (Z (i + 1) = 3 * lv2 + 1 ∧ ∀ j, j < k → Nu (10 * (i + 1) + j) = nbN a b c1 j)) → (3 * lv2 + 1 - k) < kk73 → ∀ (H : Heap) (locs : List Loc) (ls : Array Slot), hp_w X cls μ nx H locs → lv_has ls 10 [(0, .ref o), (1, .int (nI (3 * lv2 + 1))), (2, .int a), (3, .int b), (4, .int c1), (5, .int (nI (i + 1))), (6, .int (nB sm)), (7, .int (nI k))] → W p l e { frames := 2, cells := 0, slots := 0, locals := 80 } s m [.ref o, .int (nI (3 * lv2 + 1)), .int a, .int b, .int c1].toArray below meth c H locs 0 0 (MQ below (hq_i X (po_i nx (-13) (fun z => z = μ))) [.ref o, .int (nI (3 * lv2 + 1)), .int a, .int b, .int c1].toArray s 0 0 (hp_A X)) (F0 m 73 ls []) := by
                  intro kk73
                  induction kk73 with
                  | zero =>
                    intro k sm hk hsm hkk73
                    exact absurd hkk73 (Nat.not_lt_zero _)
                  | succ kk73 ih73 =>
                    intro k sm hk hsm hkk73 H locs ls  hH hl
                    refine lv_iload hx hb dX11_tag_73 (lv_at hl 7 rfl) ?_
                    refine lv_iload_n hx hb dX11_tag_75 rfl (lv_at hl 1 rfl) ?_
                    refine lv_icmp_ge (tgt := 123) hx hb dX11_tag_76 (by decide) (fun c_76 => ?_) (fun c_76 => ?_)
                    · have c_76 : (3 * lv2 + 1) ≤ k := (nI_leI (by omega) (by omega)).mp c_76
                      refine lv_iload hx hb dX11_tag_123 (lv_at hl 6 rfl) ?_
                      refine lv_if_eq (tgt := 131) hx hb dX11_tag_125 (by decide) (fun c_125 => ?_) (fun c_125 => ?_)
                      · have c_125 : sm = false := nB_0 c_125
                        refine lv_iinc (v := nI (i + 1 + 1)) (lv' := [(5, .int (nI (i + 1 + 1))), (0, .ref o), (1, .int (nI (3 * lv2 + 1))), (2, .int a), (3, .int b), (4, .int c1), (6, .int (nB sm)), (7, .int (nI k))]) hx hb dX11_tag_131 hl (k := 5) rfl (nI_add _ 1) (by decide) rfl (fun ls hl => ?_)
                        refine lv_goto (tgt := 43) hx hb dX11_tag_134 (by decide) ?_
                        exact ih43 (i + 1) (by omega) (fun j hj => (Nat.lt_succ_iff_lt_or_eq.mp hj).elim (hno j) (fun h => h ▸ fun q => by have := hsm.mpr ⟨q.1, fun k9 hk9 => q.2 k9 (by omega)⟩; rw [c_125] at this; cases this)) (by omega) _ _ _  hH (lv_sub hl [1, 2, 3, 4, 5, 0] rfl)
                      · have c_125 : sm = true := nB_n c_125
                        refine lv_bipush (v := (-13)) hx hb dX11_tag_128 (by decide) ?_
                        exact hp_ri hx hb hr hlocks hS hH (⟨rfl, rfl, rfl⟩) dX11_tag_130
                    · have c_76 : ¬ ((3 * lv2 + 1) ≤ k) := fun z => c_76 ((nI_leI (by omega) (by omega)).mpr z)
                      refine lv_iload hx hb dX11_tag_79 (lv_at hl 6 rfl) ?_
                      refine lv_if_eq (tgt := 114) hx hb dX11_tag_81 (by decide) (fun c_81 => ?_) (fun c_81 => ?_)
                      · have c_81 : sm = false := nB_0 c_81
                        refine lv_iconst (v := nI 0) hx hb dX11_tag_114 (by decide) ?_
                        refine lv_istore (lv' := [(6, .int (nI 0)), (0, .ref o), (1, .int (nI (3 * lv2 + 1))), (2, .int a), (3, .int b), (4, .int c1), (5, .int (nI (i + 1))), (7, .int (nI k))]) hx hb dX11_tag_115 hl (by decide) rfl (fun ls hl => ?_)
                        refine lv_iinc (v := nI (k + 1)) (lv' := [(7, .int (nI (k + 1))), (6, .int (nI 0)), (0, .ref o), (1, .int (nI (3 * lv2 + 1))), (2, .int a), (3, .int b), (4, .int c1), (5, .int (nI (i + 1)))]) hx hb dX11_tag_117 hl (k := 7) rfl (nI_add _ 1) (by decide) rfl (fun ls hl => ?_)
                        refine lv_goto (tgt := 73) hx hb dX11_tag_120 (by decide) ?_
                        exact ih73 (k + 1) false (by omega) (⟨fun q => (nomatch q), fun q => by have := hsm.mpr ⟨q.1, fun j hj => q.2 j (by omega)⟩; rw [c_81] at this; cases this⟩) (by omega) _ _ _  hH (lv_sub hl [2, 3, 4, 5, 6, 7, 1, 0] rfl)
                      · have c_81 : sm = true := nB_n c_81
                        refine lv_aload_n hx hb dX11_tag_84 rfl (lv_at hl 0 rfl) ?_
                        refine hp_get hx hb hown hS.2.1 hH (F_X11_13.use hS) f_o rfl dX11_tag_85 ?_
                        refine lv_bipush (v := nI 10) hx hb dX11_tag_88 (by decide) ?_
                        refine lv_iload hx hb dX11_tag_90 (lv_at hl 5 rfl) ?_
                        refine lv_imul hx hb dX11_tag_92 ?_
                        refine hp_eqi (z := nI (10 * (i + 1))) (pk_mul _ _) ?_
                        refine lv_iload hx hb dX11_tag_93 (lv_at hl 7 rfl) ?_
                        refine lv_iadd hx hb dX11_tag_95 ?_
                        refine hp_eqi (z := nI ((10 * (i + 1)) + k)) (nI_add _ _) ?_
                        have hNi := hN170 (10 * (i + 1) + k)
                        refine hp_ialdN hx hb hS.ai hH f_2 (by omega) (by omega) dX11_tag_96 ?_
                        refine lv_aload_n hx hb dX11_tag_97 rfl (lv_at hl 0 rfl) ?_
                        refine lv_iload_n hx hb dX11_tag_98 rfl (lv_at hl 2 rfl) ?_
                        refine lv_iload_n hx hb dX11_tag_99 rfl (lv_at hl 3 rfl) ?_
                        refine lv_iload hx hb dX11_tag_100 (lv_at hl 4 rfl) ?_
                        refine lv_iload hx hb dX11_tag_102 (lv_at hl 7 rfl) ?_
                        refine hp_kip (hp_runV (As := [.int a, .int b, .int c1, .int (nI k)]) (rest := [.int (nI (Nu ((10 * (i + 1)) + k)))]) hx hb hml hown hS hH (c_X11_byteFrom l X (k := k) (a := a) (b := b) (c1 := c1) (by omega)) M_X11_63 I_X11_byteFrom V_X11_byteFrom (ci := 7) rfl rfl f_o rfl hl.1 rfl (Nat.le_of_ble_eq_true rfl) dX11_tag_104 ⟨Nat.le_of_ble_eq_true rfl, Nat.le_of_ble_eq_true rfl⟩ ⟨Nat.le_of_ble_eq_true rfl, Nat.le_of_ble_eq_true rfl⟩) hH (fun H locs hH => ?_)
                        have hnb9 := nbN_lt a b c1 (k)
                        refine lv_icmp_ne (tgt := 114) hx hb dX11_tag_107 (by decide) (fun c_107 => ?_) (fun c_107 => ?_)
                        · have c_107 : ¬ ((Nu ((10 * (i + 1)) + k)) = (nbN a b c1 (k))) := fun z => c_107 ((nI_eq (by omega) (by omega)).mpr z)
                          refine lv_iconst (v := nI 0) hx hb dX11_tag_114 (by decide) ?_
                          refine lv_istore (lv' := [(6, .int (nI 0)), (0, .ref o), (1, .int (nI (3 * lv2 + 1))), (2, .int a), (3, .int b), (4, .int c1), (5, .int (nI (i + 1))), (7, .int (nI k))]) hx hb dX11_tag_115 hl (by decide) rfl (fun ls hl => ?_)
                          refine lv_iinc (v := nI (k + 1)) (lv' := [(7, .int (nI (k + 1))), (6, .int (nI 0)), (0, .ref o), (1, .int (nI (3 * lv2 + 1))), (2, .int a), (3, .int b), (4, .int c1), (5, .int (nI (i + 1)))]) hx hb dX11_tag_117 hl (k := 7) rfl (nI_add _ 1) (by decide) rfl (fun ls hl => ?_)
                          refine lv_goto (tgt := 73) hx hb dX11_tag_120 (by decide) ?_
                          exact ih73 (k + 1) false (by omega) (⟨fun q => (nomatch q), fun q => absurd (q.2 k (Nat.lt_succ_self _)) c_107⟩) (by omega) _ _ _  hH (lv_sub hl [2, 3, 4, 5, 6, 7, 1, 0] rfl)
                        · have c_107 : (Nu ((10 * (i + 1)) + k)) = (nbN a b c1 (k)) := (nI_eq (by omega) (by omega)).mp c_107
                          refine lv_iconst (v := nI 1) hx hb dX11_tag_110 (by decide) ?_
                          refine lv_goto (tgt := 115) hx hb dX11_tag_111 (by decide) ?_
                          refine lv_istore (lv' := [(6, .int (nI 1)), (0, .ref o), (1, .int (nI (3 * lv2 + 1))), (2, .int a), (3, .int b), (4, .int c1), (5, .int (nI (i + 1))), (7, .int (nI k))]) hx hb dX11_tag_115 hl (by decide) rfl (fun ls hl => ?_)
                          refine lv_iinc (v := nI (k + 1)) (lv' := [(7, .int (nI (k + 1))), (6, .int (nI 1)), (0, .ref o), (1, .int (nI (3 * lv2 + 1))), (2, .int a), (3, .int b), (4, .int c1), (5, .int (nI (i + 1)))]) hx hb dX11_tag_117 hl (k := 7) rfl (nI_add _ 1) (by decide) rfl (fun ls hl => ?_)
                          refine lv_goto (tgt := 73) hx hb dX11_tag_120 (by decide) ?_
                          exact ih73 (k + 1) true (by omega) (⟨fun _ => ⟨(hsm.mp c_81).1, fun j hj => (Nat.lt_succ_iff_lt_or_eq.mp hj).elim ((hsm.mp c_81).2 j) (fun h => h ▸ c_107)⟩, fun _ => rfl⟩) (by omega) _ _ _  hH (lv_sub hl [2, 3, 4, 5, 6, 7, 1, 0] rfl)
                exact lp_73 ((3 * lv2 + 1 - 0) + 1) 0 true (Nat.zero_le _) (⟨fun _ => ⟨c_60, fun j hj => absurd hj (Nat.not_lt_zero _)⟩, fun _ => rfl⟩) (Nat.lt_succ_self _) _ _ _  hH (lv_sub hl [2, 3, 4, 5, 6, 7, 1, 0] rfl)
        exact lp_43 ((n - 0) + 1) 0 (Nat.zero_le _) (fun j hj => absurd hj (Nat.not_lt_zero _)) (Nat.lt_succ_self _) _ _ _  hH (lv_sub hl [1, 2, 3, 4, 5, 0] rfl)
      · have c_34 : (nbN a b c1 ((3 * lv2 + 1) - 4)) = 136 := (nI_eq (by omega) (by omega)).mp c_34
        exact absurd c_34 hunf
    · have c_8 : ¬ ((3 * lv2 + 1) = 7) := fun z => c_8 ((nI_eq (by omega) (by omega)).mpr z)
      refine lv_iload_n hx hb dX11_tag_11 rfl (lv_at hl 1 rfl) ?_
      refine lv_bipush (v := nI 10) hx hb dX11_tag_12 (by decide) ?_
      refine lv_icmp_eq (tgt := 20) hx hb dX11_tag_14 (by decide) (fun c_14 => ?_) (fun c_14 => ?_)
      · have c_14 : (3 * lv2 + 1) = 10 := (nI_eq (by omega) (by omega)).mp c_14
        refine lv_aload_n hx hb dX11_tag_20 rfl (lv_at hl 0 rfl) ?_
        refine lv_iload_n hx hb dX11_tag_21 rfl (lv_at hl 2 rfl) ?_
        refine lv_iload_n hx hb dX11_tag_22 rfl (lv_at hl 3 rfl) ?_
        refine lv_iload hx hb dX11_tag_23 (lv_at hl 4 rfl) ?_
        refine lv_iload_n hx hb dX11_tag_25 rfl (lv_at hl 1 rfl) ?_
        refine lv_iconst (v := nI 4) hx hb dX11_tag_26 (by decide) ?_
        refine lv_isub hx hb dX11_tag_27 ?_
        refine hp_eqi (z := nI ((3 * lv2 + 1) - 4)) (pk_sub (by omega)) ?_
        refine hp_kip (hp_runV (As := [.int a, .int b, .int c1, .int (nI ((3 * lv2 + 1) - 4))]) (rest := []) hx hb hml hown hS hH (c_X11_byteFrom l X (k := (3 * lv2 + 1) - 4) (a := a) (b := b) (c1 := c1) (by omega)) M_X11_63 I_X11_byteFrom V_X11_byteFrom (ci := 7) rfl rfl f_o rfl hl.1 rfl (Nat.le_of_ble_eq_true rfl) dX11_tag_28 ⟨Nat.le_of_ble_eq_true rfl, Nat.le_of_ble_eq_true rfl⟩ ⟨Nat.le_of_ble_eq_true rfl, Nat.le_of_ble_eq_true rfl⟩) hH (fun H locs hH => ?_)
        have hnb9 := nbN_lt a b c1 ((3 * lv2 + 1) - 4)
        refine lv_sipush (v := nI 136) hx hb dX11_tag_31 (by decide) ?_
        refine lv_icmp_ne (tgt := 40) hx hb dX11_tag_34 (by decide) (fun c_34 => ?_) (fun c_34 => ?_)
        · have c_34 : ¬ ((nbN a b c1 ((3 * lv2 + 1) - 4)) = 136) := fun z => c_34 ((nI_eq (by omega) (by omega)).mpr z)
          refine lv_iconst (v := nI 1) hx hb dX11_tag_40 (by decide) ?_
          refine lv_istore (lv' := [(5, .int (nI 1)), (0, .ref o), (1, .int (nI (3 * lv2 + 1))), (2, .int a), (3, .int b), (4, .int c1)]) hx hb dX11_tag_41 hl (by decide) rfl (fun ls hl => ?_)
          have lp_43 : ∀ (kk43 : Nat) (i : Nat), (i ≤ n) → (∀ j, j < i → ¬ smR Z Nu lv2 a b c1 j) → (n - i) < kk43 → ∀ (H : Heap) (locs : List Loc) (ls : Array Slot), hp_w X cls μ nx H locs → lv_has ls 10 [(0, .ref o), (1, .int (nI (3 * lv2 + 1))), (2, .int a), (3, .int b), (4, .int c1), (5, .int (nI (i + 1)))] → W p l e { frames := 2, cells := 0, slots := 0, locals := 80 } s m [.ref o, .int (nI (3 * lv2 + 1)), .int a, .int b, .int c1].toArray below meth c H locs 0 0 (MQ below (hq_i X (po_i nx (-13) (fun z => z = μ))) [.ref o, .int (nI (3 * lv2 + 1)), .int a, .int b, .int c1].toArray s 0 0 (hp_A X)) (F0 m 43 ls []) := by
            intro kk43
            induction kk43 with
            | zero =>
              intro i hi hno hkk43
              exact absurd hkk43 (Nat.not_lt_zero _)
            | succ kk43 ih43 =>
              intro i hi hno hkk43 H locs ls  hH hl
              refine lv_iload hx hb dX11_tag_43 (lv_at hl 5 rfl) ?_
              refine lv_aload_n hx hb dX11_tag_45 rfl (lv_at hl 0 rfl) ?_
              refine hp_get hx hb hown hS.2.1 hH (F_X11_67.use hS) f_o rfl dX11_tag_46 ?_
              refine lv_icmp_gt (tgt := 137) hx hb dX11_tag_49 (by decide) (fun c_49 => ?_) (fun c_49 => ?_)
              · have c_49 : n < (i + 1) := (nI_ltI (by omega) (by omega)).mp c_49
                obtain ⟨j9, hj9, hs9⟩ := hkn
                exact absurd hs9 (hno j9 (by omega))
              · have c_49 : ¬ (n < (i + 1)) := fun z => c_49 ((nI_ltI (by omega) (by omega)).mpr z)
                refine lv_aload_n hx hb dX11_tag_52 rfl (lv_at hl 0 rfl) ?_
                refine hp_get hx hb hown hS.2.1 hH (F_X11_7.use hS) f_o rfl dX11_tag_53 ?_
                refine lv_iload hx hb dX11_tag_56 (lv_at hl 5 rfl) ?_
                have hZi := hZ17 i (by omega)
                refine hp_ialdN hx hb hS.ai hH f_1 (by omega) (by omega) dX11_tag_58 ?_
                refine lv_iload_n hx hb dX11_tag_59 rfl (lv_at hl 1 rfl) ?_
                refine lv_icmp_ne (tgt := 67) hx hb dX11_tag_60 (by decide) (fun c_60 => ?_) (fun c_60 => ?_)
                · have c_60 : ¬ ((Z (i + 1)) = (3 * lv2 + 1)) := fun z => c_60 ((nI_eq (by omega) (by omega)).mpr z)
                  refine lv_iconst (v := nI 0) hx hb dX11_tag_67 (by decide) ?_
                  refine lv_istore (lv' := [(6, .int (nI 0)), (0, .ref o), (1, .int (nI (3 * lv2 + 1))), (2, .int a), (3, .int b), (4, .int c1), (5, .int (nI (i + 1)))]) hx hb dX11_tag_68 hl (by decide) rfl (fun ls hl => ?_)
                  refine lv_iconst (v := nI 0) hx hb dX11_tag_70 (by decide) ?_
                  refine lv_istore (lv' := [(7, .int (nI 0)), (6, .int (nI 0)), (0, .ref o), (1, .int (nI (3 * lv2 + 1))), (2, .int a), (3, .int b), (4, .int c1), (5, .int (nI (i + 1)))]) hx hb dX11_tag_71 hl (by decide) rfl (fun ls hl => ?_)
                  have lp_73 : ∀ (kk73 : Nat) (k : Nat) (sm : Bool), (k ≤ 3 * lv2 + 1) → (sm = true ↔ (Z (i + 1) = 3 * lv2 + 1 ∧ ∀ j, j < k → Nu (10 * (i + 1) + j) = nbN a b c1 j)) → (3 * lv2 + 1 - k) < kk73 → ∀ (H : Heap) (locs : List Loc) (ls : Array Slot), hp_w X cls μ nx H locs → lv_has ls 10 [(0, .ref o), (1, .int (nI (3 * lv2 + 1))), (2, .int a), (3, .int b), (4, .int c1), (5, .int (nI (i + 1))), (6, .int (nB sm)), (7, .int (nI k))] → W p l e { frames := 2, cells := 0, slots := 0, locals := 80 } s m [.ref o, .int (nI (3 * lv2 + 1)), .int a, .int b, .int c1].toArray below meth c H locs 0 0 (MQ below (hq_i X (po_i nx (-13) (fun z => z = μ))) [.ref o, .int (nI (3 * lv2 + 1)), .int a, .int b, .int c1].toArray s 0 0 (hp_A X)) (F0 m 73 ls []) := by
                    intro kk73
                    induction kk73 with
                    | zero =>
                      intro k sm hk hsm hkk73
                      exact absurd hkk73 (Nat.not_lt_zero _)
                    | succ kk73 ih73 =>
                      intro k sm hk hsm hkk73 H locs ls  hH hl
                      refine lv_iload hx hb dX11_tag_73 (lv_at hl 7 rfl) ?_
                      refine lv_iload_n hx hb dX11_tag_75 rfl (lv_at hl 1 rfl) ?_
                      refine lv_icmp_ge (tgt := 123) hx hb dX11_tag_76 (by decide) (fun c_76 => ?_) (fun c_76 => ?_)
                      · have c_76 : (3 * lv2 + 1) ≤ k := (nI_leI (by omega) (by omega)).mp c_76
                        refine lv_iload hx hb dX11_tag_123 (lv_at hl 6 rfl) ?_
                        refine lv_if_eq (tgt := 131) hx hb dX11_tag_125 (by decide) (fun c_125 => ?_) (fun c_125 => ?_)
                        · have c_125 : sm = false := nB_0 c_125
                          refine lv_iinc (v := nI (i + 1 + 1)) (lv' := [(5, .int (nI (i + 1 + 1))), (0, .ref o), (1, .int (nI (3 * lv2 + 1))), (2, .int a), (3, .int b), (4, .int c1), (6, .int (nB sm)), (7, .int (nI k))]) hx hb dX11_tag_131 hl (k := 5) rfl (nI_add _ 1) (by decide) rfl (fun ls hl => ?_)
                          refine lv_goto (tgt := 43) hx hb dX11_tag_134 (by decide) ?_
                          exact ih43 (i + 1) (by omega) (fun j hj => (Nat.lt_succ_iff_lt_or_eq.mp hj).elim (hno j) (fun h => h ▸ fun q => by have := hsm.mpr ⟨q.1, fun k9 hk9 => q.2 k9 (by omega)⟩; rw [c_125] at this; cases this)) (by omega) _ _ _  hH (lv_sub hl [1, 2, 3, 4, 5, 0] rfl)
                        · have c_125 : sm = true := nB_n c_125
                          refine lv_bipush (v := (-13)) hx hb dX11_tag_128 (by decide) ?_
                          exact hp_ri hx hb hr hlocks hS hH (⟨rfl, rfl, rfl⟩) dX11_tag_130
                      · have c_76 : ¬ ((3 * lv2 + 1) ≤ k) := fun z => c_76 ((nI_leI (by omega) (by omega)).mpr z)
                        refine lv_iload hx hb dX11_tag_79 (lv_at hl 6 rfl) ?_
                        refine lv_if_eq (tgt := 114) hx hb dX11_tag_81 (by decide) (fun c_81 => ?_) (fun c_81 => ?_)
                        · have c_81 : sm = false := nB_0 c_81
                          refine lv_iconst (v := nI 0) hx hb dX11_tag_114 (by decide) ?_
                          refine lv_istore (lv' := [(6, .int (nI 0)), (0, .ref o), (1, .int (nI (3 * lv2 + 1))), (2, .int a), (3, .int b), (4, .int c1), (5, .int (nI (i + 1))), (7, .int (nI k))]) hx hb dX11_tag_115 hl (by decide) rfl (fun ls hl => ?_)
                          refine lv_iinc (v := nI (k + 1)) (lv' := [(7, .int (nI (k + 1))), (6, .int (nI 0)), (0, .ref o), (1, .int (nI (3 * lv2 + 1))), (2, .int a), (3, .int b), (4, .int c1), (5, .int (nI (i + 1)))]) hx hb dX11_tag_117 hl (k := 7) rfl (nI_add _ 1) (by decide) rfl (fun ls hl => ?_)
                          refine lv_goto (tgt := 73) hx hb dX11_tag_120 (by decide) ?_
                          exact ih73 (k + 1) false (by omega) (⟨fun q => (nomatch q), fun q => by have := hsm.mpr ⟨q.1, fun j hj => q.2 j (by omega)⟩; rw [c_81] at this; cases this⟩) (by omega) _ _ _  hH (lv_sub hl [2, 3, 4, 5, 6, 7, 1, 0] rfl)
                        · have c_81 : sm = true := nB_n c_81
                          refine lv_aload_n hx hb dX11_tag_84 rfl (lv_at hl 0 rfl) ?_
                          refine hp_get hx hb hown hS.2.1 hH (F_X11_13.use hS) f_o rfl dX11_tag_85 ?_
                          refine lv_bipush (v := nI 10) hx hb dX11_tag_88 (by decide) ?_
                          refine lv_iload hx hb dX11_tag_90 (lv_at hl 5 rfl) ?_
                          refine lv_imul hx hb dX11_tag_92 ?_
                          refine hp_eqi (z := nI (10 * (i + 1))) (pk_mul _ _) ?_
                          refine lv_iload hx hb dX11_tag_93 (lv_at hl 7 rfl) ?_
                          refine lv_iadd hx hb dX11_tag_95 ?_
                          refine hp_eqi (z := nI ((10 * (i + 1)) + k)) (nI_add _ _) ?_
                          have hNi := hN170 (10 * (i + 1) + k)
                          refine hp_ialdN hx hb hS.ai hH f_2 (by omega) (by omega) dX11_tag_96 ?_
                          refine lv_aload_n hx hb dX11_tag_97 rfl (lv_at hl 0 rfl) ?_
                          refine lv_iload_n hx hb dX11_tag_98 rfl (lv_at hl 2 rfl) ?_
                          refine lv_iload_n hx hb dX11_tag_99 rfl (lv_at hl 3 rfl) ?_
                          refine lv_iload hx hb dX11_tag_100 (lv_at hl 4 rfl) ?_
                          refine lv_iload hx hb dX11_tag_102 (lv_at hl 7 rfl) ?_
                          refine hp_kip (hp_runV (As := [.int a, .int b, .int c1, .int (nI k)]) (rest := [.int (nI (Nu ((10 * (i + 1)) + k)))]) hx hb hml hown hS hH (c_X11_byteFrom l X (k := k) (a := a) (b := b) (c1 := c1) (by omega)) M_X11_63 I_X11_byteFrom V_X11_byteFrom (ci := 7) rfl rfl f_o rfl hl.1 rfl (Nat.le_of_ble_eq_true rfl) dX11_tag_104 ⟨Nat.le_of_ble_eq_true rfl, Nat.le_of_ble_eq_true rfl⟩ ⟨Nat.le_of_ble_eq_true rfl, Nat.le_of_ble_eq_true rfl⟩) hH (fun H locs hH => ?_)
                          have hnb9 := nbN_lt a b c1 (k)
                          refine lv_icmp_ne (tgt := 114) hx hb dX11_tag_107 (by decide) (fun c_107 => ?_) (fun c_107 => ?_)
                          · have c_107 : ¬ ((Nu ((10 * (i + 1)) + k)) = (nbN a b c1 (k))) := fun z => c_107 ((nI_eq (by omega) (by omega)).mpr z)
                            refine lv_iconst (v := nI 0) hx hb dX11_tag_114 (by decide) ?_
                            refine lv_istore (lv' := [(6, .int (nI 0)), (0, .ref o), (1, .int (nI (3 * lv2 + 1))), (2, .int a), (3, .int b), (4, .int c1), (5, .int (nI (i + 1))), (7, .int (nI k))]) hx hb dX11_tag_115 hl (by decide) rfl (fun ls hl => ?_)
                            refine lv_iinc (v := nI (k + 1)) (lv' := [(7, .int (nI (k + 1))), (6, .int (nI 0)), (0, .ref o), (1, .int (nI (3 * lv2 + 1))), (2, .int a), (3, .int b), (4, .int c1), (5, .int (nI (i + 1)))]) hx hb dX11_tag_117 hl (k := 7) rfl (nI_add _ 1) (by decide) rfl (fun ls hl => ?_)
                            refine lv_goto (tgt := 73) hx hb dX11_tag_120 (by decide) ?_
                            exact ih73 (k + 1) false (by omega) (⟨fun q => (nomatch q), fun q => absurd (q.2 k (Nat.lt_succ_self _)) c_107⟩) (by omega) _ _ _  hH (lv_sub hl [2, 3, 4, 5, 6, 7, 1, 0] rfl)
                          · have c_107 : (Nu ((10 * (i + 1)) + k)) = (nbN a b c1 (k)) := (nI_eq (by omega) (by omega)).mp c_107
                            refine lv_iconst (v := nI 1) hx hb dX11_tag_110 (by decide) ?_
                            refine lv_goto (tgt := 115) hx hb dX11_tag_111 (by decide) ?_
                            refine lv_istore (lv' := [(6, .int (nI 1)), (0, .ref o), (1, .int (nI (3 * lv2 + 1))), (2, .int a), (3, .int b), (4, .int c1), (5, .int (nI (i + 1))), (7, .int (nI k))]) hx hb dX11_tag_115 hl (by decide) rfl (fun ls hl => ?_)
                            refine lv_iinc (v := nI (k + 1)) (lv' := [(7, .int (nI (k + 1))), (6, .int (nI 1)), (0, .ref o), (1, .int (nI (3 * lv2 + 1))), (2, .int a), (3, .int b), (4, .int c1), (5, .int (nI (i + 1)))]) hx hb dX11_tag_117 hl (k := 7) rfl (nI_add _ 1) (by decide) rfl (fun ls hl => ?_)
                            refine lv_goto (tgt := 73) hx hb dX11_tag_120 (by decide) ?_
                            exact ih73 (k + 1) true (by omega) (⟨fun _ => ⟨(hsm.mp c_81).1, fun j hj => (Nat.lt_succ_iff_lt_or_eq.mp hj).elim ((hsm.mp c_81).2 j) (fun h => h ▸ c_107)⟩, fun _ => rfl⟩) (by omega) _ _ _  hH (lv_sub hl [2, 3, 4, 5, 6, 7, 1, 0] rfl)
                  exact lp_73 ((3 * lv2 + 1 - 0) + 1) 0 false (Nat.zero_le _) (⟨fun q => (nomatch q), fun q => absurd q.1 c_60⟩) (Nat.lt_succ_self _) _ _ _  hH (lv_sub hl [2, 3, 4, 5, 6, 7, 1, 0] rfl)
                · have c_60 : (Z (i + 1)) = (3 * lv2 + 1) := (nI_eq (by omega) (by omega)).mp c_60
                  refine lv_iconst (v := nI 1) hx hb dX11_tag_63 (by decide) ?_
                  refine lv_goto (tgt := 68) hx hb dX11_tag_64 (by decide) ?_
                  refine lv_istore (lv' := [(6, .int (nI 1)), (0, .ref o), (1, .int (nI (3 * lv2 + 1))), (2, .int a), (3, .int b), (4, .int c1), (5, .int (nI (i + 1)))]) hx hb dX11_tag_68 hl (by decide) rfl (fun ls hl => ?_)
                  refine lv_iconst (v := nI 0) hx hb dX11_tag_70 (by decide) ?_
                  refine lv_istore (lv' := [(7, .int (nI 0)), (6, .int (nI 1)), (0, .ref o), (1, .int (nI (3 * lv2 + 1))), (2, .int a), (3, .int b), (4, .int c1), (5, .int (nI (i + 1)))]) hx hb dX11_tag_71 hl (by decide) rfl (fun ls hl => ?_)
                  have lp_73 : ∀ (kk73 : Nat) (k : Nat) (sm : Bool), (k ≤ 3 * lv2 + 1) → (sm = true ↔ (Z (i + 1) = 3 * lv2 + 1 ∧ ∀ j, j < k → Nu (10 * (i + 1) + j) = nbN a b c1 j)) → (3 * lv2 + 1 - k) < kk73 → ∀ (H : Heap) (locs : List Loc) (ls : Array Slot), hp_w X cls μ nx H locs → lv_has ls 10 [(0, .ref o), (1, .int (nI (3 * lv2 + 1))), (2, .int a), (3, .int b), (4, .int c1), (5, .int (nI (i + 1))), (6, .int (nB sm)), (7, .int (nI k))] → W p l e { frames := 2, cells := 0, slots := 0, locals := 80 } s m [.ref o, .int (nI (3 * lv2 + 1)), .int a, .int b, .int c1].toArray below meth c H locs 0 0 (MQ below (hq_i X (po_i nx (-13) (fun z => z = μ))) [.ref o, .int (nI (3 * lv2 + 1)), .int a, .int b, .int c1].toArray s 0 0 (hp_A X)) (F0 m 73 ls []) := by
                    intro kk73
                    induction kk73 with
                    | zero =>
                      intro k sm hk hsm hkk73
                      exact absurd hkk73 (Nat.not_lt_zero _)
                    | succ kk73 ih73 =>
                      intro k sm hk hsm hkk73 H locs ls  hH hl
                      refine lv_iload hx hb dX11_tag_73 (lv_at hl 7 rfl) ?_
                      refine lv_iload_n hx hb dX11_tag_75 rfl (lv_at hl 1 rfl) ?_
                      refine lv_icmp_ge (tgt := 123) hx hb dX11_tag_76 (by decide) (fun c_76 => ?_) (fun c_76 => ?_)
                      · have c_76 : (3 * lv2 + 1) ≤ k := (nI_leI (by omega) (by omega)).mp c_76
                        refine lv_iload hx hb dX11_tag_123 (lv_at hl 6 rfl) ?_
                        refine lv_if_eq (tgt := 131) hx hb dX11_tag_125 (by decide) (fun c_125 => ?_) (fun c_125 => ?_)
                        · have c_125 : sm = false := nB_0 c_125
                          refine lv_iinc (v := nI (i + 1 + 1)) (lv' := [(5, .int (nI (i + 1 + 1))), (0, .ref o), (1, .int (nI (3 * lv2 + 1))), (2, .int a), (3, .int b), (4, .int c1), (6, .int (nB sm)), (7, .int (nI k))]) hx hb dX11_tag_131 hl (k := 5) rfl (nI_add _ 1) (by decide) rfl (fun ls hl => ?_)
                          refine lv_goto (tgt := 43) hx hb dX11_tag_134 (by decide) ?_
                          exact ih43 (i + 1) (by omega) (fun j hj => (Nat.lt_succ_iff_lt_or_eq.mp hj).elim (hno j) (fun h => h ▸ fun q => by have := hsm.mpr ⟨q.1, fun k9 hk9 => q.2 k9 (by omega)⟩; rw [c_125] at this; cases this)) (by omega) _ _ _  hH (lv_sub hl [1, 2, 3, 4, 5, 0] rfl)
                        · have c_125 : sm = true := nB_n c_125
                          refine lv_bipush (v := (-13)) hx hb dX11_tag_128 (by decide) ?_
                          exact hp_ri hx hb hr hlocks hS hH (⟨rfl, rfl, rfl⟩) dX11_tag_130
                      · have c_76 : ¬ ((3 * lv2 + 1) ≤ k) := fun z => c_76 ((nI_leI (by omega) (by omega)).mpr z)
                        refine lv_iload hx hb dX11_tag_79 (lv_at hl 6 rfl) ?_
                        refine lv_if_eq (tgt := 114) hx hb dX11_tag_81 (by decide) (fun c_81 => ?_) (fun c_81 => ?_)
                        · have c_81 : sm = false := nB_0 c_81
                          refine lv_iconst (v := nI 0) hx hb dX11_tag_114 (by decide) ?_
                          refine lv_istore (lv' := [(6, .int (nI 0)), (0, .ref o), (1, .int (nI (3 * lv2 + 1))), (2, .int a), (3, .int b), (4, .int c1), (5, .int (nI (i + 1))), (7, .int (nI k))]) hx hb dX11_tag_115 hl (by decide) rfl (fun ls hl => ?_)
                          refine lv_iinc (v := nI (k + 1)) (lv' := [(7, .int (nI (k + 1))), (6, .int (nI 0)), (0, .ref o), (1, .int (nI (3 * lv2 + 1))), (2, .int a), (3, .int b), (4, .int c1), (5, .int (nI (i + 1)))]) hx hb dX11_tag_117 hl (k := 7) rfl (nI_add _ 1) (by decide) rfl (fun ls hl => ?_)
                          refine lv_goto (tgt := 73) hx hb dX11_tag_120 (by decide) ?_
                          exact ih73 (k + 1) false (by omega) (⟨fun q => (nomatch q), fun q => by have := hsm.mpr ⟨q.1, fun j hj => q.2 j (by omega)⟩; rw [c_81] at this; cases this⟩) (by omega) _ _ _  hH (lv_sub hl [2, 3, 4, 5, 6, 7, 1, 0] rfl)
                        · have c_81 : sm = true := nB_n c_81
                          refine lv_aload_n hx hb dX11_tag_84 rfl (lv_at hl 0 rfl) ?_
                          refine hp_get hx hb hown hS.2.1 hH (F_X11_13.use hS) f_o rfl dX11_tag_85 ?_
                          refine lv_bipush (v := nI 10) hx hb dX11_tag_88 (by decide) ?_
                          refine lv_iload hx hb dX11_tag_90 (lv_at hl 5 rfl) ?_
                          refine lv_imul hx hb dX11_tag_92 ?_
                          refine hp_eqi (z := nI (10 * (i + 1))) (pk_mul _ _) ?_
                          refine lv_iload hx hb dX11_tag_93 (lv_at hl 7 rfl) ?_
                          refine lv_iadd hx hb dX11_tag_95 ?_
                          refine hp_eqi (z := nI ((10 * (i + 1)) + k)) (nI_add _ _) ?_
                          have hNi := hN170 (10 * (i + 1) + k)
                          refine hp_ialdN hx hb hS.ai hH f_2 (by omega) (by omega) dX11_tag_96 ?_
                          refine lv_aload_n hx hb dX11_tag_97 rfl (lv_at hl 0 rfl) ?_
                          refine lv_iload_n hx hb dX11_tag_98 rfl (lv_at hl 2 rfl) ?_
                          refine lv_iload_n hx hb dX11_tag_99 rfl (lv_at hl 3 rfl) ?_
                          refine lv_iload hx hb dX11_tag_100 (lv_at hl 4 rfl) ?_
                          refine lv_iload hx hb dX11_tag_102 (lv_at hl 7 rfl) ?_
                          refine hp_kip (hp_runV (As := [.int a, .int b, .int c1, .int (nI k)]) (rest := [.int (nI (Nu ((10 * (i + 1)) + k)))]) hx hb hml hown hS hH (c_X11_byteFrom l X (k := k) (a := a) (b := b) (c1 := c1) (by omega)) M_X11_63 I_X11_byteFrom V_X11_byteFrom (ci := 7) rfl rfl f_o rfl hl.1 rfl (Nat.le_of_ble_eq_true rfl) dX11_tag_104 ⟨Nat.le_of_ble_eq_true rfl, Nat.le_of_ble_eq_true rfl⟩ ⟨Nat.le_of_ble_eq_true rfl, Nat.le_of_ble_eq_true rfl⟩) hH (fun H locs hH => ?_)
                          have hnb9 := nbN_lt a b c1 (k)
                          refine lv_icmp_ne (tgt := 114) hx hb dX11_tag_107 (by decide) (fun c_107 => ?_) (fun c_107 => ?_)
                          · have c_107 : ¬ ((Nu ((10 * (i + 1)) + k)) = (nbN a b c1 (k))) := fun z => c_107 ((nI_eq (by omega) (by omega)).mpr z)
                            refine lv_iconst (v := nI 0) hx hb dX11_tag_114 (by decide) ?_
                            refine lv_istore (lv' := [(6, .int (nI 0)), (0, .ref o), (1, .int (nI (3 * lv2 + 1))), (2, .int a), (3, .int b), (4, .int c1), (5, .int (nI (i + 1))), (7, .int (nI k))]) hx hb dX11_tag_115 hl (by decide) rfl (fun ls hl => ?_)
                            refine lv_iinc (v := nI (k + 1)) (lv' := [(7, .int (nI (k + 1))), (6, .int (nI 0)), (0, .ref o), (1, .int (nI (3 * lv2 + 1))), (2, .int a), (3, .int b), (4, .int c1), (5, .int (nI (i + 1)))]) hx hb dX11_tag_117 hl (k := 7) rfl (nI_add _ 1) (by decide) rfl (fun ls hl => ?_)
                            refine lv_goto (tgt := 73) hx hb dX11_tag_120 (by decide) ?_
                            exact ih73 (k + 1) false (by omega) (⟨fun q => (nomatch q), fun q => absurd (q.2 k (Nat.lt_succ_self _)) c_107⟩) (by omega) _ _ _  hH (lv_sub hl [2, 3, 4, 5, 6, 7, 1, 0] rfl)
                          · have c_107 : (Nu ((10 * (i + 1)) + k)) = (nbN a b c1 (k)) := (nI_eq (by omega) (by omega)).mp c_107
                            refine lv_iconst (v := nI 1) hx hb dX11_tag_110 (by decide) ?_
                            refine lv_goto (tgt := 115) hx hb dX11_tag_111 (by decide) ?_
                            refine lv_istore (lv' := [(6, .int (nI 1)), (0, .ref o), (1, .int (nI (3 * lv2 + 1))), (2, .int a), (3, .int b), (4, .int c1), (5, .int (nI (i + 1))), (7, .int (nI k))]) hx hb dX11_tag_115 hl (by decide) rfl (fun ls hl => ?_)
                            refine lv_iinc (v := nI (k + 1)) (lv' := [(7, .int (nI (k + 1))), (6, .int (nI 1)), (0, .ref o), (1, .int (nI (3 * lv2 + 1))), (2, .int a), (3, .int b), (4, .int c1), (5, .int (nI (i + 1)))]) hx hb dX11_tag_117 hl (k := 7) rfl (nI_add _ 1) (by decide) rfl (fun ls hl => ?_)
                            refine lv_goto (tgt := 73) hx hb dX11_tag_120 (by decide) ?_
                            exact ih73 (k + 1) true (by omega) (⟨fun _ => ⟨(hsm.mp c_81).1, fun j hj => (Nat.lt_succ_iff_lt_or_eq.mp hj).elim ((hsm.mp c_81).2 j) (fun h => h ▸ c_107)⟩, fun _ => rfl⟩) (by omega) _ _ _  hH (lv_sub hl [2, 3, 4, 5, 6, 7, 1, 0] rfl)
                  exact lp_73 ((3 * lv2 + 1 - 0) + 1) 0 true (Nat.zero_le _) (⟨fun _ => ⟨c_60, fun j hj => absurd hj (Nat.not_lt_zero _)⟩, fun _ => rfl⟩) (Nat.lt_succ_self _) _ _ _  hH (lv_sub hl [2, 3, 4, 5, 6, 7, 1, 0] rfl)
          exact lp_43 ((n - 0) + 1) 0 (Nat.zero_le _) (fun j hj => absurd hj (Nat.not_lt_zero _)) (Nat.lt_succ_self _) _ _ _  hH (lv_sub hl [1, 2, 3, 4, 5, 0] rfl)
        · have c_34 : (nbN a b c1 ((3 * lv2 + 1) - 4)) = 136 := (nI_eq (by omega) (by omega)).mp c_34
          exact absurd c_34 hunf
      · have c_14 : ¬ ((3 * lv2 + 1) = 10) := fun z => c_14 ((nI_eq (by omega) (by omega)).mpr z)
        exact absurd c_14 (by omega)

set_option maxHeartbeats 4000000 in
set_option maxRecDepth 100000 in
theorem c_X11_tag_full (l : Launch) (X : hp_X) {μ : hp_M} {nx : Nat} {o n tz se kd kl tc sd hd an fm fo kc : Nat} {on : Bool} {lv2 : Nat} {a b c1 : Int32} {Z Nu : Nat → Nat} (hl1 : 1 ≤ lv2) (hl3 : lv2 ≤ 3) (hn16 : n ≤ 16) (hZ17 : ∀ j, j < n → Z (j + 1) < 2 ^ 20) (hN170 : ∀ j, Nu j < 2 ^ 20) (hunf : ¬ nbN a b c1 (3 * lv2 + 1 - 4) = 136) (hkn : ∀ j, j < n → ¬ smR Z Nu lv2 a b c1 j) (hfull : n = 16) (f_o : μ o = some (hp_o 7 [.int (nI n), .ref (o + 1), .ref (o + 2), .ref (o + 3), .ref (o + 4), .ref (o + 5), .ref (o + 6), .int (nB on), .int (nI tz), .ref (o + 7), .int (nI se), .ref (o + 8), .ref (o + 9), .int (nI kd), .int (nI kl), .int (nI tc), .ref (o + 10), .int (nI sd), .ref (o + 11), .int (nI hd), .ref (o + 12), .int (nI an), .ref (o + 13), .int (nI fm), .int (nI fo), .ref (o + 14), .ref (o + 15), .int (nI kc), .ref (o + 16)])) (f_1 : μ (o + 1) = some (hp_n X 17 Z)) (f_2 : μ (o + 2) = some (hp_n X 170 Nu)) : Ct l X yX11_tag cX11_tag 10 (some FieldType.int) 2 80 0 0 [.ref o, .int (nI (3 * lv2 + 1)), .int a, .int b, .int c1] μ nx (hq_i X (po_i nx (-14) (fun z => z = μ))) := by
  refine hp_met (by decide) (Nat.le_of_ble_eq_true rfl) ?_
  intro p e s m below meth c ls hx hb hml hr hlocks hown hin hS hH hl
  have hl : lv_has ls 10 [(0, .ref o), (1, .int (nI (3 * lv2 + 1))), (2, .int a), (3, .int b), (4, .int c1)] := hl
  refine lv_iload_n hx hb dX11_tag_0 rfl (lv_at hl 1 rfl) ?_
  refine lv_iconst (v := nI 4) hx hb dX11_tag_1 (by decide) ?_
  refine lv_icmp_eq (tgt := 20) hx hb dX11_tag_2 (by decide) (fun c_2 => ?_) (fun c_2 => ?_)
  · have c_2 : (3 * lv2 + 1) = 4 := (nI_eq (by omega) (by omega)).mp c_2
    refine lv_aload_n hx hb dX11_tag_20 rfl (lv_at hl 0 rfl) ?_
    refine lv_iload_n hx hb dX11_tag_21 rfl (lv_at hl 2 rfl) ?_
    refine lv_iload_n hx hb dX11_tag_22 rfl (lv_at hl 3 rfl) ?_
    refine lv_iload hx hb dX11_tag_23 (lv_at hl 4 rfl) ?_
    refine lv_iload_n hx hb dX11_tag_25 rfl (lv_at hl 1 rfl) ?_
    refine lv_iconst (v := nI 4) hx hb dX11_tag_26 (by decide) ?_
    refine lv_isub hx hb dX11_tag_27 ?_
    refine hp_eqi (z := nI ((3 * lv2 + 1) - 4)) (pk_sub (by omega)) ?_
    refine hp_kip (hp_runV (As := [.int a, .int b, .int c1, .int (nI ((3 * lv2 + 1) - 4))]) (rest := []) hx hb hml hown hS hH (c_X11_byteFrom l X (k := (3 * lv2 + 1) - 4) (a := a) (b := b) (c1 := c1) (by omega)) M_X11_63 I_X11_byteFrom V_X11_byteFrom (ci := 7) rfl rfl f_o rfl hl.1 rfl (Nat.le_of_ble_eq_true rfl) dX11_tag_28 ⟨Nat.le_of_ble_eq_true rfl, Nat.le_of_ble_eq_true rfl⟩ ⟨Nat.le_of_ble_eq_true rfl, Nat.le_of_ble_eq_true rfl⟩) hH (fun H locs hH => ?_)
    have hnb9 := nbN_lt a b c1 ((3 * lv2 + 1) - 4)
    refine lv_sipush (v := nI 136) hx hb dX11_tag_31 (by decide) ?_
    refine lv_icmp_ne (tgt := 40) hx hb dX11_tag_34 (by decide) (fun c_34 => ?_) (fun c_34 => ?_)
    · have c_34 : ¬ ((nbN a b c1 ((3 * lv2 + 1) - 4)) = 136) := fun z => c_34 ((nI_eq (by omega) (by omega)).mpr z)
      refine lv_iconst (v := nI 1) hx hb dX11_tag_40 (by decide) ?_
      refine lv_istore (lv' := [(5, .int (nI 1)), (0, .ref o), (1, .int (nI (3 * lv2 + 1))), (2, .int a), (3, .int b), (4, .int c1)]) hx hb dX11_tag_41 hl (by decide) rfl (fun ls hl => ?_)
      have lp_43 : ∀ (kk43 : Nat) (i : Nat), (i ≤ n) → (∀ j, j < i → ¬ smR Z Nu lv2 a b c1 j) → (n - i) < kk43 → ∀ (H : Heap) (locs : List Loc) (ls : Array Slot), hp_w X cls μ nx H locs → lv_has ls 10 [(0, .ref o), (1, .int (nI (3 * lv2 + 1))), (2, .int a), (3, .int b), (4, .int c1), (5, .int (nI (i + 1)))] → W p l e { frames := 2, cells := 0, slots := 0, locals := 80 } s m [.ref o, .int (nI (3 * lv2 + 1)), .int a, .int b, .int c1].toArray below meth c H locs 0 0 (MQ below (hq_i X (po_i nx (-14) (fun z => z = μ))) [.ref o, .int (nI (3 * lv2 + 1)), .int a, .int b, .int c1].toArray s 0 0 (hp_A X)) (F0 m 43 ls []) := by
        intro kk43
        induction kk43 with
        | zero =>
          intro i hi hno hkk43
          exact absurd hkk43 (Nat.not_lt_zero _)
        | succ kk43 ih43 =>
          intro i hi hno hkk43 H locs ls  hH hl
          refine lv_iload hx hb dX11_tag_43 (lv_at hl 5 rfl) ?_
          refine lv_aload_n hx hb dX11_tag_45 rfl (lv_at hl 0 rfl) ?_
          refine hp_get hx hb hown hS.2.1 hH (F_X11_67.use hS) f_o rfl dX11_tag_46 ?_
          refine lv_icmp_gt (tgt := 137) hx hb dX11_tag_49 (by decide) (fun c_49 => ?_) (fun c_49 => ?_)
          · have c_49 : n < (i + 1) := (nI_ltI (by omega) (by omega)).mp c_49
            refine lv_aload_n hx hb dX11_tag_137 rfl (lv_at hl 0 rfl) ?_
            refine hp_get hx hb hown hS.2.1 hH (F_X11_67.use hS) f_o rfl dX11_tag_138 ?_
            refine lv_bipush (v := nI 16) hx hb dX11_tag_141 (by decide) ?_
            refine lv_icmp_ne (tgt := 149) hx hb dX11_tag_143 (by decide) (fun c_143 => ?_) (fun c_143 => ?_)
            · have c_143 : ¬ (n = 16) := fun z => c_143 ((nI_eq (by omega) (by omega)).mpr z)
              exact absurd hfull c_143
            · have c_143 : n = 16 := (nI_eq (by omega) (by omega)).mp c_143
              refine lv_bipush (v := (-14)) hx hb dX11_tag_146 (by decide) ?_
              exact hp_ri hx hb hr hlocks hS hH (⟨rfl, rfl, rfl⟩) dX11_tag_148
          · have c_49 : ¬ (n < (i + 1)) := fun z => c_49 ((nI_ltI (by omega) (by omega)).mpr z)
            refine lv_aload_n hx hb dX11_tag_52 rfl (lv_at hl 0 rfl) ?_
            refine hp_get hx hb hown hS.2.1 hH (F_X11_7.use hS) f_o rfl dX11_tag_53 ?_
            refine lv_iload hx hb dX11_tag_56 (lv_at hl 5 rfl) ?_
            have hZi := hZ17 i (by omega)
            refine hp_ialdN hx hb hS.ai hH f_1 (by omega) (by omega) dX11_tag_58 ?_
            refine lv_iload_n hx hb dX11_tag_59 rfl (lv_at hl 1 rfl) ?_
            refine lv_icmp_ne (tgt := 67) hx hb dX11_tag_60 (by decide) (fun c_60 => ?_) (fun c_60 => ?_)
            · have c_60 : ¬ ((Z (i + 1)) = (3 * lv2 + 1)) := fun z => c_60 ((nI_eq (by omega) (by omega)).mpr z)
              refine lv_iconst (v := nI 0) hx hb dX11_tag_67 (by decide) ?_
              refine lv_istore (lv' := [(6, .int (nI 0)), (0, .ref o), (1, .int (nI (3 * lv2 + 1))), (2, .int a), (3, .int b), (4, .int c1), (5, .int (nI (i + 1)))]) hx hb dX11_tag_68 hl (by decide) rfl (fun ls hl => ?_)
              refine lv_iconst (v := nI 0) hx hb dX11_tag_70 (by decide) ?_
              refine lv_istore (lv' := [(7, .int (nI 0)), (6, .int (nI 0)), (0, .ref o), (1, .int (nI (3 * lv2 + 1))), (2, .int a), (3, .int b), (4, .int c1), (5, .int (nI (i + 1)))]) hx hb dX11_tag_71 hl (by decide) rfl (fun ls hl => ?_)
              have lp_73 : ∀ (kk73 : Nat) (k : Nat) (sm : Bool), (k ≤ 3 * lv2 + 1) → (sm = true ↔ (Z (i + 1) = 3 * lv2 + 1 ∧ ∀ j, j < k → Nu (10 * (i + 1) + j) = nbN a b c1 j)) → (3 * lv2 + 1 - k) < kk73 → ∀ (H : Heap) (locs : List Loc) (ls : Array Slot), hp_w X cls μ nx H locs → lv_has ls 10 [(0, .ref o), (1, .int (nI (3 * lv2 + 1))), (2, .int a), (3, .int b), (4, .int c1), (5, .int (nI (i + 1))), (6, .int (nB sm)), (7, .int (nI k))] → W p l e { frames := 2, cells := 0, slots := 0, locals := 80 } s m [.ref o, .int (nI (3 * lv2 + 1)), .int a, .int b, .int c1].toArray below meth c H locs 0 0 (MQ below (hq_i X (po_i nx (-14) (fun z => z = μ))) [.ref o, .int (nI (3 * lv2 + 1)), .int a, .int b, .int c1].toArray s 0 0 (hp_A X)) (F0 m 73 ls []) := by
                intro kk73
                induction kk73 with
                | zero =>
                  intro k sm hk hsm hkk73
                  exact absurd hkk73 (Nat.not_lt_zero _)
                | succ kk73 ih73 =>
                  intro k sm hk hsm hkk73 H locs ls  hH hl
                  refine lv_iload hx hb dX11_tag_73 (lv_at hl 7 rfl) ?_
                  refine lv_iload_n hx hb dX11_tag_75 rfl (lv_at hl 1 rfl) ?_
                  refine lv_icmp_ge (tgt := 123) hx hb dX11_tag_76 (by decide) (fun c_76 => ?_) (fun c_76 => ?_)
                  · have c_76 : (3 * lv2 + 1) ≤ k := (nI_leI (by omega) (by omega)).mp c_76
                    refine lv_iload hx hb dX11_tag_123 (lv_at hl 6 rfl) ?_
                    refine lv_if_eq (tgt := 131) hx hb dX11_tag_125 (by decide) (fun c_125 => ?_) (fun c_125 => ?_)
                    · have c_125 : sm = false := nB_0 c_125
                      refine lv_iinc (v := nI (i + 1 + 1)) (lv' := [(5, .int (nI (i + 1 + 1))), (0, .ref o), (1, .int (nI (3 * lv2 + 1))), (2, .int a), (3, .int b), (4, .int c1), (6, .int (nB sm)), (7, .int (nI k))]) hx hb dX11_tag_131 hl (k := 5) rfl (nI_add _ 1) (by decide) rfl (fun ls hl => ?_)
                      refine lv_goto (tgt := 43) hx hb dX11_tag_134 (by decide) ?_
                      exact ih43 (i + 1) (by omega) (fun j hj => (Nat.lt_succ_iff_lt_or_eq.mp hj).elim (hno j) (fun h => h ▸ fun q => by have := hsm.mpr ⟨q.1, fun k9 hk9 => q.2 k9 (by omega)⟩; rw [c_125] at this; cases this)) (by omega) _ _ _  hH (lv_sub hl [1, 2, 3, 4, 5, 0] rfl)
                    · have c_125 : sm = true := nB_n c_125
                      exact absurd ⟨(hsm.mp c_125).1, fun k9 hk9 => (hsm.mp c_125).2 k9 (by omega)⟩ (hkn i (by omega))
                  · have c_76 : ¬ ((3 * lv2 + 1) ≤ k) := fun z => c_76 ((nI_leI (by omega) (by omega)).mpr z)
                    refine lv_iload hx hb dX11_tag_79 (lv_at hl 6 rfl) ?_
                    refine lv_if_eq (tgt := 114) hx hb dX11_tag_81 (by decide) (fun c_81 => ?_) (fun c_81 => ?_)
                    · have c_81 : sm = false := nB_0 c_81
                      refine lv_iconst (v := nI 0) hx hb dX11_tag_114 (by decide) ?_
                      refine lv_istore (lv' := [(6, .int (nI 0)), (0, .ref o), (1, .int (nI (3 * lv2 + 1))), (2, .int a), (3, .int b), (4, .int c1), (5, .int (nI (i + 1))), (7, .int (nI k))]) hx hb dX11_tag_115 hl (by decide) rfl (fun ls hl => ?_)
                      refine lv_iinc (v := nI (k + 1)) (lv' := [(7, .int (nI (k + 1))), (6, .int (nI 0)), (0, .ref o), (1, .int (nI (3 * lv2 + 1))), (2, .int a), (3, .int b), (4, .int c1), (5, .int (nI (i + 1)))]) hx hb dX11_tag_117 hl (k := 7) rfl (nI_add _ 1) (by decide) rfl (fun ls hl => ?_)
                      refine lv_goto (tgt := 73) hx hb dX11_tag_120 (by decide) ?_
                      exact ih73 (k + 1) false (by omega) (⟨fun q => (nomatch q), fun q => by have := hsm.mpr ⟨q.1, fun j hj => q.2 j (by omega)⟩; rw [c_81] at this; cases this⟩) (by omega) _ _ _  hH (lv_sub hl [2, 3, 4, 5, 6, 7, 1, 0] rfl)
                    · have c_81 : sm = true := nB_n c_81
                      refine lv_aload_n hx hb dX11_tag_84 rfl (lv_at hl 0 rfl) ?_
                      refine hp_get hx hb hown hS.2.1 hH (F_X11_13.use hS) f_o rfl dX11_tag_85 ?_
                      refine lv_bipush (v := nI 10) hx hb dX11_tag_88 (by decide) ?_
                      refine lv_iload hx hb dX11_tag_90 (lv_at hl 5 rfl) ?_
                      refine lv_imul hx hb dX11_tag_92 ?_
                      refine hp_eqi (z := nI (10 * (i + 1))) (pk_mul _ _) ?_
                      refine lv_iload hx hb dX11_tag_93 (lv_at hl 7 rfl) ?_
                      refine lv_iadd hx hb dX11_tag_95 ?_
                      refine hp_eqi (z := nI ((10 * (i + 1)) + k)) (nI_add _ _) ?_
                      have hNi := hN170 (10 * (i + 1) + k)
                      refine hp_ialdN hx hb hS.ai hH f_2 (by omega) (by omega) dX11_tag_96 ?_
                      refine lv_aload_n hx hb dX11_tag_97 rfl (lv_at hl 0 rfl) ?_
                      refine lv_iload_n hx hb dX11_tag_98 rfl (lv_at hl 2 rfl) ?_
                      refine lv_iload_n hx hb dX11_tag_99 rfl (lv_at hl 3 rfl) ?_
                      refine lv_iload hx hb dX11_tag_100 (lv_at hl 4 rfl) ?_
                      refine lv_iload hx hb dX11_tag_102 (lv_at hl 7 rfl) ?_
                      refine hp_kip (hp_runV (As := [.int a, .int b, .int c1, .int (nI k)]) (rest := [.int (nI (Nu ((10 * (i + 1)) + k)))]) hx hb hml hown hS hH (c_X11_byteFrom l X (k := k) (a := a) (b := b) (c1 := c1) (by omega)) M_X11_63 I_X11_byteFrom V_X11_byteFrom (ci := 7) rfl rfl f_o rfl hl.1 rfl (Nat.le_of_ble_eq_true rfl) dX11_tag_104 ⟨Nat.le_of_ble_eq_true rfl, Nat.le_of_ble_eq_true rfl⟩ ⟨Nat.le_of_ble_eq_true rfl, Nat.le_of_ble_eq_true rfl⟩) hH (fun H locs hH => ?_)
                      have hnb9 := nbN_lt a b c1 (k)
                      refine lv_icmp_ne (tgt := 114) hx hb dX11_tag_107 (by decide) (fun c_107 => ?_) (fun c_107 => ?_)
                      · have c_107 : ¬ ((Nu ((10 * (i + 1)) + k)) = (nbN a b c1 (k))) := fun z => c_107 ((nI_eq (by omega) (by omega)).mpr z)
                        refine lv_iconst (v := nI 0) hx hb dX11_tag_114 (by decide) ?_
                        refine lv_istore (lv' := [(6, .int (nI 0)), (0, .ref o), (1, .int (nI (3 * lv2 + 1))), (2, .int a), (3, .int b), (4, .int c1), (5, .int (nI (i + 1))), (7, .int (nI k))]) hx hb dX11_tag_115 hl (by decide) rfl (fun ls hl => ?_)
                        refine lv_iinc (v := nI (k + 1)) (lv' := [(7, .int (nI (k + 1))), (6, .int (nI 0)), (0, .ref o), (1, .int (nI (3 * lv2 + 1))), (2, .int a), (3, .int b), (4, .int c1), (5, .int (nI (i + 1)))]) hx hb dX11_tag_117 hl (k := 7) rfl (nI_add _ 1) (by decide) rfl (fun ls hl => ?_)
                        refine lv_goto (tgt := 73) hx hb dX11_tag_120 (by decide) ?_
                        exact ih73 (k + 1) false (by omega) (⟨fun q => (nomatch q), fun q => absurd (q.2 k (Nat.lt_succ_self _)) c_107⟩) (by omega) _ _ _  hH (lv_sub hl [2, 3, 4, 5, 6, 7, 1, 0] rfl)
                      · have c_107 : (Nu ((10 * (i + 1)) + k)) = (nbN a b c1 (k)) := (nI_eq (by omega) (by omega)).mp c_107
                        refine lv_iconst (v := nI 1) hx hb dX11_tag_110 (by decide) ?_
                        refine lv_goto (tgt := 115) hx hb dX11_tag_111 (by decide) ?_
                        refine lv_istore (lv' := [(6, .int (nI 1)), (0, .ref o), (1, .int (nI (3 * lv2 + 1))), (2, .int a), (3, .int b), (4, .int c1), (5, .int (nI (i + 1))), (7, .int (nI k))]) hx hb dX11_tag_115 hl (by decide) rfl (fun ls hl => ?_)
                        refine lv_iinc (v := nI (k + 1)) (lv' := [(7, .int (nI (k + 1))), (6, .int (nI 1)), (0, .ref o), (1, .int (nI (3 * lv2 + 1))), (2, .int a), (3, .int b), (4, .int c1), (5, .int (nI (i + 1)))]) hx hb dX11_tag_117 hl (k := 7) rfl (nI_add _ 1) (by decide) rfl (fun ls hl => ?_)
                        refine lv_goto (tgt := 73) hx hb dX11_tag_120 (by decide) ?_
                        exact ih73 (k + 1) true (by omega) (⟨fun _ => ⟨(hsm.mp c_81).1, fun j hj => (Nat.lt_succ_iff_lt_or_eq.mp hj).elim ((hsm.mp c_81).2 j) (fun h => h ▸ c_107)⟩, fun _ => rfl⟩) (by omega) _ _ _  hH (lv_sub hl [2, 3, 4, 5, 6, 7, 1, 0] rfl)
              exact lp_73 ((3 * lv2 + 1 - 0) + 1) 0 false (Nat.zero_le _) (⟨fun q => (nomatch q), fun q => absurd q.1 c_60⟩) (Nat.lt_succ_self _) _ _ _  hH (lv_sub hl [2, 3, 4, 5, 6, 7, 1, 0] rfl)
            · have c_60 : (Z (i + 1)) = (3 * lv2 + 1) := (nI_eq (by omega) (by omega)).mp c_60
              refine lv_iconst (v := nI 1) hx hb dX11_tag_63 (by decide) ?_
              refine lv_goto (tgt := 68) hx hb dX11_tag_64 (by decide) ?_
              refine lv_istore (lv' := [(6, .int (nI 1)), (0, .ref o), (1, .int (nI (3 * lv2 + 1))), (2, .int a), (3, .int b), (4, .int c1), (5, .int (nI (i + 1)))]) hx hb dX11_tag_68 hl (by decide) rfl (fun ls hl => ?_)
              refine lv_iconst (v := nI 0) hx hb dX11_tag_70 (by decide) ?_
              refine lv_istore (lv' := [(7, .int (nI 0)), (6, .int (nI 1)), (0, .ref o), (1, .int (nI (3 * lv2 + 1))), (2, .int a), (3, .int b), (4, .int c1), (5, .int (nI (i + 1)))]) hx hb dX11_tag_71 hl (by decide) rfl (fun ls hl => ?_)
              have lp_73 : ∀ (kk73 : Nat) (k : Nat) (sm : Bool), (k ≤ 3 * lv2 + 1) → (sm = true ↔ (Z (i + 1) = 3 * lv2 + 1 ∧ ∀ j, j < k → Nu (10 * (i + 1) + j) = nbN a b c1 j)) → (3 * lv2 + 1 - k) < kk73 → ∀ (H : Heap) (locs : List Loc) (ls : Array Slot), hp_w X cls μ nx H locs → lv_has ls 10 [(0, .ref o), (1, .int (nI (3 * lv2 + 1))), (2, .int a), (3, .int b), (4, .int c1), (5, .int (nI (i + 1))), (6, .int (nB sm)), (7, .int (nI k))] → W p l e { frames := 2, cells := 0, slots := 0, locals := 80 } s m [.ref o, .int (nI (3 * lv2 + 1)), .int a, .int b, .int c1].toArray below meth c H locs 0 0 (MQ below (hq_i X (po_i nx (-14) (fun z => z = μ))) [.ref o, .int (nI (3 * lv2 + 1)), .int a, .int b, .int c1].toArray s 0 0 (hp_A X)) (F0 m 73 ls []) := by
                intro kk73
                induction kk73 with
                | zero =>
                  intro k sm hk hsm hkk73
                  exact absurd hkk73 (Nat.not_lt_zero _)
                | succ kk73 ih73 =>
                  intro k sm hk hsm hkk73 H locs ls  hH hl
                  refine lv_iload hx hb dX11_tag_73 (lv_at hl 7 rfl) ?_
                  refine lv_iload_n hx hb dX11_tag_75 rfl (lv_at hl 1 rfl) ?_
                  refine lv_icmp_ge (tgt := 123) hx hb dX11_tag_76 (by decide) (fun c_76 => ?_) (fun c_76 => ?_)
                  · have c_76 : (3 * lv2 + 1) ≤ k := (nI_leI (by omega) (by omega)).mp c_76
                    refine lv_iload hx hb dX11_tag_123 (lv_at hl 6 rfl) ?_
                    refine lv_if_eq (tgt := 131) hx hb dX11_tag_125 (by decide) (fun c_125 => ?_) (fun c_125 => ?_)
                    · have c_125 : sm = false := nB_0 c_125
                      refine lv_iinc (v := nI (i + 1 + 1)) (lv' := [(5, .int (nI (i + 1 + 1))), (0, .ref o), (1, .int (nI (3 * lv2 + 1))), (2, .int a), (3, .int b), (4, .int c1), (6, .int (nB sm)), (7, .int (nI k))]) hx hb dX11_tag_131 hl (k := 5) rfl (nI_add _ 1) (by decide) rfl (fun ls hl => ?_)
                      refine lv_goto (tgt := 43) hx hb dX11_tag_134 (by decide) ?_
                      exact ih43 (i + 1) (by omega) (fun j hj => (Nat.lt_succ_iff_lt_or_eq.mp hj).elim (hno j) (fun h => h ▸ fun q => by have := hsm.mpr ⟨q.1, fun k9 hk9 => q.2 k9 (by omega)⟩; rw [c_125] at this; cases this)) (by omega) _ _ _  hH (lv_sub hl [1, 2, 3, 4, 5, 0] rfl)
                    · have c_125 : sm = true := nB_n c_125
                      exact absurd ⟨(hsm.mp c_125).1, fun k9 hk9 => (hsm.mp c_125).2 k9 (by omega)⟩ (hkn i (by omega))
                  · have c_76 : ¬ ((3 * lv2 + 1) ≤ k) := fun z => c_76 ((nI_leI (by omega) (by omega)).mpr z)
                    refine lv_iload hx hb dX11_tag_79 (lv_at hl 6 rfl) ?_
                    refine lv_if_eq (tgt := 114) hx hb dX11_tag_81 (by decide) (fun c_81 => ?_) (fun c_81 => ?_)
                    · have c_81 : sm = false := nB_0 c_81
                      refine lv_iconst (v := nI 0) hx hb dX11_tag_114 (by decide) ?_
                      refine lv_istore (lv' := [(6, .int (nI 0)), (0, .ref o), (1, .int (nI (3 * lv2 + 1))), (2, .int a), (3, .int b), (4, .int c1), (5, .int (nI (i + 1))), (7, .int (nI k))]) hx hb dX11_tag_115 hl (by decide) rfl (fun ls hl => ?_)
                      refine lv_iinc (v := nI (k + 1)) (lv' := [(7, .int (nI (k + 1))), (6, .int (nI 0)), (0, .ref o), (1, .int (nI (3 * lv2 + 1))), (2, .int a), (3, .int b), (4, .int c1), (5, .int (nI (i + 1)))]) hx hb dX11_tag_117 hl (k := 7) rfl (nI_add _ 1) (by decide) rfl (fun ls hl => ?_)
                      refine lv_goto (tgt := 73) hx hb dX11_tag_120 (by decide) ?_
                      exact ih73 (k + 1) false (by omega) (⟨fun q => (nomatch q), fun q => by have := hsm.mpr ⟨q.1, fun j hj => q.2 j (by omega)⟩; rw [c_81] at this; cases this⟩) (by omega) _ _ _  hH (lv_sub hl [2, 3, 4, 5, 6, 7, 1, 0] rfl)
                    · have c_81 : sm = true := nB_n c_81
                      refine lv_aload_n hx hb dX11_tag_84 rfl (lv_at hl 0 rfl) ?_
                      refine hp_get hx hb hown hS.2.1 hH (F_X11_13.use hS) f_o rfl dX11_tag_85 ?_
                      refine lv_bipush (v := nI 10) hx hb dX11_tag_88 (by decide) ?_
                      refine lv_iload hx hb dX11_tag_90 (lv_at hl 5 rfl) ?_
                      refine lv_imul hx hb dX11_tag_92 ?_
                      refine hp_eqi (z := nI (10 * (i + 1))) (pk_mul _ _) ?_
                      refine lv_iload hx hb dX11_tag_93 (lv_at hl 7 rfl) ?_
                      refine lv_iadd hx hb dX11_tag_95 ?_
                      refine hp_eqi (z := nI ((10 * (i + 1)) + k)) (nI_add _ _) ?_
                      have hNi := hN170 (10 * (i + 1) + k)
                      refine hp_ialdN hx hb hS.ai hH f_2 (by omega) (by omega) dX11_tag_96 ?_
                      refine lv_aload_n hx hb dX11_tag_97 rfl (lv_at hl 0 rfl) ?_
                      refine lv_iload_n hx hb dX11_tag_98 rfl (lv_at hl 2 rfl) ?_
                      refine lv_iload_n hx hb dX11_tag_99 rfl (lv_at hl 3 rfl) ?_
                      refine lv_iload hx hb dX11_tag_100 (lv_at hl 4 rfl) ?_
                      refine lv_iload hx hb dX11_tag_102 (lv_at hl 7 rfl) ?_
                      refine hp_kip (hp_runV (As := [.int a, .int b, .int c1, .int (nI k)]) (rest := [.int (nI (Nu ((10 * (i + 1)) + k)))]) hx hb hml hown hS hH (c_X11_byteFrom l X (k := k) (a := a) (b := b) (c1 := c1) (by omega)) M_X11_63 I_X11_byteFrom V_X11_byteFrom (ci := 7) rfl rfl f_o rfl hl.1 rfl (Nat.le_of_ble_eq_true rfl) dX11_tag_104 ⟨Nat.le_of_ble_eq_true rfl, Nat.le_of_ble_eq_true rfl⟩ ⟨Nat.le_of_ble_eq_true rfl, Nat.le_of_ble_eq_true rfl⟩) hH (fun H locs hH => ?_)
                      have hnb9 := nbN_lt a b c1 (k)
                      refine lv_icmp_ne (tgt := 114) hx hb dX11_tag_107 (by decide) (fun c_107 => ?_) (fun c_107 => ?_)
                      · have c_107 : ¬ ((Nu ((10 * (i + 1)) + k)) = (nbN a b c1 (k))) := fun z => c_107 ((nI_eq (by omega) (by omega)).mpr z)
                        refine lv_iconst (v := nI 0) hx hb dX11_tag_114 (by decide) ?_
                        refine lv_istore (lv' := [(6, .int (nI 0)), (0, .ref o), (1, .int (nI (3 * lv2 + 1))), (2, .int a), (3, .int b), (4, .int c1), (5, .int (nI (i + 1))), (7, .int (nI k))]) hx hb dX11_tag_115 hl (by decide) rfl (fun ls hl => ?_)
                        refine lv_iinc (v := nI (k + 1)) (lv' := [(7, .int (nI (k + 1))), (6, .int (nI 0)), (0, .ref o), (1, .int (nI (3 * lv2 + 1))), (2, .int a), (3, .int b), (4, .int c1), (5, .int (nI (i + 1)))]) hx hb dX11_tag_117 hl (k := 7) rfl (nI_add _ 1) (by decide) rfl (fun ls hl => ?_)
                        refine lv_goto (tgt := 73) hx hb dX11_tag_120 (by decide) ?_
                        exact ih73 (k + 1) false (by omega) (⟨fun q => (nomatch q), fun q => absurd (q.2 k (Nat.lt_succ_self _)) c_107⟩) (by omega) _ _ _  hH (lv_sub hl [2, 3, 4, 5, 6, 7, 1, 0] rfl)
                      · have c_107 : (Nu ((10 * (i + 1)) + k)) = (nbN a b c1 (k)) := (nI_eq (by omega) (by omega)).mp c_107
                        refine lv_iconst (v := nI 1) hx hb dX11_tag_110 (by decide) ?_
                        refine lv_goto (tgt := 115) hx hb dX11_tag_111 (by decide) ?_
                        refine lv_istore (lv' := [(6, .int (nI 1)), (0, .ref o), (1, .int (nI (3 * lv2 + 1))), (2, .int a), (3, .int b), (4, .int c1), (5, .int (nI (i + 1))), (7, .int (nI k))]) hx hb dX11_tag_115 hl (by decide) rfl (fun ls hl => ?_)
                        refine lv_iinc (v := nI (k + 1)) (lv' := [(7, .int (nI (k + 1))), (6, .int (nI 1)), (0, .ref o), (1, .int (nI (3 * lv2 + 1))), (2, .int a), (3, .int b), (4, .int c1), (5, .int (nI (i + 1)))]) hx hb dX11_tag_117 hl (k := 7) rfl (nI_add _ 1) (by decide) rfl (fun ls hl => ?_)
                        refine lv_goto (tgt := 73) hx hb dX11_tag_120 (by decide) ?_
                        exact ih73 (k + 1) true (by omega) (⟨fun _ => ⟨(hsm.mp c_81).1, fun j hj => (Nat.lt_succ_iff_lt_or_eq.mp hj).elim ((hsm.mp c_81).2 j) (fun h => h ▸ c_107)⟩, fun _ => rfl⟩) (by omega) _ _ _  hH (lv_sub hl [2, 3, 4, 5, 6, 7, 1, 0] rfl)
              exact lp_73 ((3 * lv2 + 1 - 0) + 1) 0 true (Nat.zero_le _) (⟨fun _ => ⟨c_60, fun j hj => absurd hj (Nat.not_lt_zero _)⟩, fun _ => rfl⟩) (Nat.lt_succ_self _) _ _ _  hH (lv_sub hl [2, 3, 4, 5, 6, 7, 1, 0] rfl)
      exact lp_43 ((n - 0) + 1) 0 (Nat.zero_le _) (fun j hj => absurd hj (Nat.not_lt_zero _)) (Nat.lt_succ_self _) _ _ _  hH (lv_sub hl [1, 2, 3, 4, 5, 0] rfl)
    · have c_34 : (nbN a b c1 ((3 * lv2 + 1) - 4)) = 136 := (nI_eq (by omega) (by omega)).mp c_34
      exact absurd c_34 hunf
  · have c_2 : ¬ ((3 * lv2 + 1) = 4) := fun z => c_2 ((nI_eq (by omega) (by omega)).mpr z)
    refine lv_iload_n hx hb dX11_tag_5 rfl (lv_at hl 1 rfl) ?_
    refine lv_bipush (v := nI 7) hx hb dX11_tag_6 (by decide) ?_
    refine lv_icmp_eq (tgt := 20) hx hb dX11_tag_8 (by decide) (fun c_8 => ?_) (fun c_8 => ?_)
    · have c_8 : (3 * lv2 + 1) = 7 := (nI_eq (by omega) (by omega)).mp c_8
      refine lv_aload_n hx hb dX11_tag_20 rfl (lv_at hl 0 rfl) ?_
      refine lv_iload_n hx hb dX11_tag_21 rfl (lv_at hl 2 rfl) ?_
      refine lv_iload_n hx hb dX11_tag_22 rfl (lv_at hl 3 rfl) ?_
      refine lv_iload hx hb dX11_tag_23 (lv_at hl 4 rfl) ?_
      refine lv_iload_n hx hb dX11_tag_25 rfl (lv_at hl 1 rfl) ?_
      refine lv_iconst (v := nI 4) hx hb dX11_tag_26 (by decide) ?_
      refine lv_isub hx hb dX11_tag_27 ?_
      refine hp_eqi (z := nI ((3 * lv2 + 1) - 4)) (pk_sub (by omega)) ?_
      refine hp_kip (hp_runV (As := [.int a, .int b, .int c1, .int (nI ((3 * lv2 + 1) - 4))]) (rest := []) hx hb hml hown hS hH (c_X11_byteFrom l X (k := (3 * lv2 + 1) - 4) (a := a) (b := b) (c1 := c1) (by omega)) M_X11_63 I_X11_byteFrom V_X11_byteFrom (ci := 7) rfl rfl f_o rfl hl.1 rfl (Nat.le_of_ble_eq_true rfl) dX11_tag_28 ⟨Nat.le_of_ble_eq_true rfl, Nat.le_of_ble_eq_true rfl⟩ ⟨Nat.le_of_ble_eq_true rfl, Nat.le_of_ble_eq_true rfl⟩) hH (fun H locs hH => ?_)
      have hnb9 := nbN_lt a b c1 ((3 * lv2 + 1) - 4)
      refine lv_sipush (v := nI 136) hx hb dX11_tag_31 (by decide) ?_
      refine lv_icmp_ne (tgt := 40) hx hb dX11_tag_34 (by decide) (fun c_34 => ?_) (fun c_34 => ?_)
      · have c_34 : ¬ ((nbN a b c1 ((3 * lv2 + 1) - 4)) = 136) := fun z => c_34 ((nI_eq (by omega) (by omega)).mpr z)
        refine lv_iconst (v := nI 1) hx hb dX11_tag_40 (by decide) ?_
        refine lv_istore (lv' := [(5, .int (nI 1)), (0, .ref o), (1, .int (nI (3 * lv2 + 1))), (2, .int a), (3, .int b), (4, .int c1)]) hx hb dX11_tag_41 hl (by decide) rfl (fun ls hl => ?_)
        have lp_43 : ∀ (kk43 : Nat) (i : Nat), (i ≤ n) → (∀ j, j < i → ¬ smR Z Nu lv2 a b c1 j) → (n - i) < kk43 → ∀ (H : Heap) (locs : List Loc) (ls : Array Slot), hp_w X cls μ nx H locs → lv_has ls 10 [(0, .ref o), (1, .int (nI (3 * lv2 + 1))), (2, .int a), (3, .int b), (4, .int c1), (5, .int (nI (i + 1)))] → W p l e { frames := 2, cells := 0, slots := 0, locals := 80 } s m [.ref o, .int (nI (3 * lv2 + 1)), .int a, .int b, .int c1].toArray below meth c H locs 0 0 (MQ below (hq_i X (po_i nx (-14) (fun z => z = μ))) [.ref o, .int (nI (3 * lv2 + 1)), .int a, .int b, .int c1].toArray s 0 0 (hp_A X)) (F0 m 43 ls []) := by
          intro kk43
          induction kk43 with
          | zero =>
            intro i hi hno hkk43
            exact absurd hkk43 (Nat.not_lt_zero _)
          | succ kk43 ih43 =>
            intro i hi hno hkk43 H locs ls  hH hl
            refine lv_iload hx hb dX11_tag_43 (lv_at hl 5 rfl) ?_
            refine lv_aload_n hx hb dX11_tag_45 rfl (lv_at hl 0 rfl) ?_
            refine hp_get hx hb hown hS.2.1 hH (F_X11_67.use hS) f_o rfl dX11_tag_46 ?_
            refine lv_icmp_gt (tgt := 137) hx hb dX11_tag_49 (by decide) (fun c_49 => ?_) (fun c_49 => ?_)
            · have c_49 : n < (i + 1) := (nI_ltI (by omega) (by omega)).mp c_49
              refine lv_aload_n hx hb dX11_tag_137 rfl (lv_at hl 0 rfl) ?_
              refine hp_get hx hb hown hS.2.1 hH (F_X11_67.use hS) f_o rfl dX11_tag_138 ?_
              refine lv_bipush (v := nI 16) hx hb dX11_tag_141 (by decide) ?_
              refine lv_icmp_ne (tgt := 149) hx hb dX11_tag_143 (by decide) (fun c_143 => ?_) (fun c_143 => ?_)
              · have c_143 : ¬ (n = 16) := fun z => c_143 ((nI_eq (by omega) (by omega)).mpr z)
                exact absurd hfull c_143
              · have c_143 : n = 16 := (nI_eq (by omega) (by omega)).mp c_143
                refine lv_bipush (v := (-14)) hx hb dX11_tag_146 (by decide) ?_
                exact hp_ri hx hb hr hlocks hS hH (⟨rfl, rfl, rfl⟩) dX11_tag_148
            · have c_49 : ¬ (n < (i + 1)) := fun z => c_49 ((nI_ltI (by omega) (by omega)).mpr z)
              refine lv_aload_n hx hb dX11_tag_52 rfl (lv_at hl 0 rfl) ?_
              refine hp_get hx hb hown hS.2.1 hH (F_X11_7.use hS) f_o rfl dX11_tag_53 ?_
              refine lv_iload hx hb dX11_tag_56 (lv_at hl 5 rfl) ?_
              have hZi := hZ17 i (by omega)
              refine hp_ialdN hx hb hS.ai hH f_1 (by omega) (by omega) dX11_tag_58 ?_
              refine lv_iload_n hx hb dX11_tag_59 rfl (lv_at hl 1 rfl) ?_
              refine lv_icmp_ne (tgt := 67) hx hb dX11_tag_60 (by decide) (fun c_60 => ?_) (fun c_60 => ?_)
              · have c_60 : ¬ ((Z (i + 1)) = (3 * lv2 + 1)) := fun z => c_60 ((nI_eq (by omega) (by omega)).mpr z)
                refine lv_iconst (v := nI 0) hx hb dX11_tag_67 (by decide) ?_
                refine lv_istore (lv' := [(6, .int (nI 0)), (0, .ref o), (1, .int (nI (3 * lv2 + 1))), (2, .int a), (3, .int b), (4, .int c1), (5, .int (nI (i + 1)))]) hx hb dX11_tag_68 hl (by decide) rfl (fun ls hl => ?_)
                refine lv_iconst (v := nI 0) hx hb dX11_tag_70 (by decide) ?_
                refine lv_istore (lv' := [(7, .int (nI 0)), (6, .int (nI 0)), (0, .ref o), (1, .int (nI (3 * lv2 + 1))), (2, .int a), (3, .int b), (4, .int c1), (5, .int (nI (i + 1)))]) hx hb dX11_tag_71 hl (by decide) rfl (fun ls hl => ?_)
                have lp_73 : ∀ (kk73 : Nat) (k : Nat) (sm : Bool), (k ≤ 3 * lv2 + 1) → (sm = true ↔ (Z (i + 1) = 3 * lv2 + 1 ∧ ∀ j, j < k → Nu (10 * (i + 1) + j) = nbN a b c1 j)) → (3 * lv2 + 1 - k) < kk73 → ∀ (H : Heap) (locs : List Loc) (ls : Array Slot), hp_w X cls μ nx H locs → lv_has ls 10 [(0, .ref o), (1, .int (nI (3 * lv2 + 1))), (2, .int a), (3, .int b), (4, .int c1), (5, .int (nI (i + 1))), (6, .int (nB sm)), (7, .int (nI k))] → W p l e { frames := 2, cells := 0, slots := 0, locals := 80 } s m [.ref o, .int (nI (3 * lv2 + 1)), .int a, .int b, .int c1].toArray below meth c H locs 0 0 (MQ below (hq_i X (po_i nx (-14) (fun z => z = μ))) [.ref o, .int (nI (3 * lv2 + 1)), .int a, .int b, .int c1].toArray s 0 0 (hp_A X)) (F0 m 73 ls []) := by
                  intro kk73
                  induction kk73 with
                  | zero =>
                    intro k sm hk hsm hkk73
                    exact absurd hkk73 (Nat.not_lt_zero _)
                  | succ kk73 ih73 =>
                    intro k sm hk hsm hkk73 H locs ls  hH hl
                    refine lv_iload hx hb dX11_tag_73 (lv_at hl 7 rfl) ?_
                    refine lv_iload_n hx hb dX11_tag_75 rfl (lv_at hl 1 rfl) ?_
                    refine lv_icmp_ge (tgt := 123) hx hb dX11_tag_76 (by decide) (fun c_76 => ?_) (fun c_76 => ?_)
                    · have c_76 : (3 * lv2 + 1) ≤ k := (nI_leI (by omega) (by omega)).mp c_76
                      refine lv_iload hx hb dX11_tag_123 (lv_at hl 6 rfl) ?_
                      refine lv_if_eq (tgt := 131) hx hb dX11_tag_125 (by decide) (fun c_125 => ?_) (fun c_125 => ?_)
                      · have c_125 : sm = false := nB_0 c_125
                        refine lv_iinc (v := nI (i + 1 + 1)) (lv' := [(5, .int (nI (i + 1 + 1))), (0, .ref o), (1, .int (nI (3 * lv2 + 1))), (2, .int a), (3, .int b), (4, .int c1), (6, .int (nB sm)), (7, .int (nI k))]) hx hb dX11_tag_131 hl (k := 5) rfl (nI_add _ 1) (by decide) rfl (fun ls hl => ?_)
                        refine lv_goto (tgt := 43) hx hb dX11_tag_134 (by decide) ?_
                        exact ih43 (i + 1) (by omega) (fun j hj => (Nat.lt_succ_iff_lt_or_eq.mp hj).elim (hno j) (fun h => h ▸ fun q => by have := hsm.mpr ⟨q.1, fun k9 hk9 => q.2 k9 (by omega)⟩; rw [c_125] at this; cases this)) (by omega) _ _ _  hH (lv_sub hl [1, 2, 3, 4, 5, 0] rfl)
                      · have c_125 : sm = true := nB_n c_125
                        exact absurd ⟨(hsm.mp c_125).1, fun k9 hk9 => (hsm.mp c_125).2 k9 (by omega)⟩ (hkn i (by omega))
                    · have c_76 : ¬ ((3 * lv2 + 1) ≤ k) := fun z => c_76 ((nI_leI (by omega) (by omega)).mpr z)
                      refine lv_iload hx hb dX11_tag_79 (lv_at hl 6 rfl) ?_
                      refine lv_if_eq (tgt := 114) hx hb dX11_tag_81 (by decide) (fun c_81 => ?_) (fun c_81 => ?_)
                      · have c_81 : sm = false := nB_0 c_81
                        refine lv_iconst (v := nI 0) hx hb dX11_tag_114 (by decide) ?_
                        refine lv_istore (lv' := [(6, .int (nI 0)), (0, .ref o), (1, .int (nI (3 * lv2 + 1))), (2, .int a), (3, .int b), (4, .int c1), (5, .int (nI (i + 1))), (7, .int (nI k))]) hx hb dX11_tag_115 hl (by decide) rfl (fun ls hl => ?_)
                        refine lv_iinc (v := nI (k + 1)) (lv' := [(7, .int (nI (k + 1))), (6, .int (nI 0)), (0, .ref o), (1, .int (nI (3 * lv2 + 1))), (2, .int a), (3, .int b), (4, .int c1), (5, .int (nI (i + 1)))]) hx hb dX11_tag_117 hl (k := 7) rfl (nI_add _ 1) (by decide) rfl (fun ls hl => ?_)
                        refine lv_goto (tgt := 73) hx hb dX11_tag_120 (by decide) ?_
                        exact ih73 (k + 1) false (by omega) (⟨fun q => (nomatch q), fun q => by have := hsm.mpr ⟨q.1, fun j hj => q.2 j (by omega)⟩; rw [c_81] at this; cases this⟩) (by omega) _ _ _  hH (lv_sub hl [2, 3, 4, 5, 6, 7, 1, 0] rfl)
                      · have c_81 : sm = true := nB_n c_81
                        refine lv_aload_n hx hb dX11_tag_84 rfl (lv_at hl 0 rfl) ?_
                        refine hp_get hx hb hown hS.2.1 hH (F_X11_13.use hS) f_o rfl dX11_tag_85 ?_
                        refine lv_bipush (v := nI 10) hx hb dX11_tag_88 (by decide) ?_
                        refine lv_iload hx hb dX11_tag_90 (lv_at hl 5 rfl) ?_
                        refine lv_imul hx hb dX11_tag_92 ?_
                        refine hp_eqi (z := nI (10 * (i + 1))) (pk_mul _ _) ?_
                        refine lv_iload hx hb dX11_tag_93 (lv_at hl 7 rfl) ?_
                        refine lv_iadd hx hb dX11_tag_95 ?_
                        refine hp_eqi (z := nI ((10 * (i + 1)) + k)) (nI_add _ _) ?_
                        have hNi := hN170 (10 * (i + 1) + k)
                        refine hp_ialdN hx hb hS.ai hH f_2 (by omega) (by omega) dX11_tag_96 ?_
                        refine lv_aload_n hx hb dX11_tag_97 rfl (lv_at hl 0 rfl) ?_
                        refine lv_iload_n hx hb dX11_tag_98 rfl (lv_at hl 2 rfl) ?_
                        refine lv_iload_n hx hb dX11_tag_99 rfl (lv_at hl 3 rfl) ?_
                        refine lv_iload hx hb dX11_tag_100 (lv_at hl 4 rfl) ?_
                        refine lv_iload hx hb dX11_tag_102 (lv_at hl 7 rfl) ?_
                        refine hp_kip (hp_runV (As := [.int a, .int b, .int c1, .int (nI k)]) (rest := [.int (nI (Nu ((10 * (i + 1)) + k)))]) hx hb hml hown hS hH (c_X11_byteFrom l X (k := k) (a := a) (b := b) (c1 := c1) (by omega)) M_X11_63 I_X11_byteFrom V_X11_byteFrom (ci := 7) rfl rfl f_o rfl hl.1 rfl (Nat.le_of_ble_eq_true rfl) dX11_tag_104 ⟨Nat.le_of_ble_eq_true rfl, Nat.le_of_ble_eq_true rfl⟩ ⟨Nat.le_of_ble_eq_true rfl, Nat.le_of_ble_eq_true rfl⟩) hH (fun H locs hH => ?_)
                        have hnb9 := nbN_lt a b c1 (k)
                        refine lv_icmp_ne (tgt := 114) hx hb dX11_tag_107 (by decide) (fun c_107 => ?_) (fun c_107 => ?_)
                        · have c_107 : ¬ ((Nu ((10 * (i + 1)) + k)) = (nbN a b c1 (k))) := fun z => c_107 ((nI_eq (by omega) (by omega)).mpr z)
                          refine lv_iconst (v := nI 0) hx hb dX11_tag_114 (by decide) ?_
                          refine lv_istore (lv' := [(6, .int (nI 0)), (0, .ref o), (1, .int (nI (3 * lv2 + 1))), (2, .int a), (3, .int b), (4, .int c1), (5, .int (nI (i + 1))), (7, .int (nI k))]) hx hb dX11_tag_115 hl (by decide) rfl (fun ls hl => ?_)
                          refine lv_iinc (v := nI (k + 1)) (lv' := [(7, .int (nI (k + 1))), (6, .int (nI 0)), (0, .ref o), (1, .int (nI (3 * lv2 + 1))), (2, .int a), (3, .int b), (4, .int c1), (5, .int (nI (i + 1)))]) hx hb dX11_tag_117 hl (k := 7) rfl (nI_add _ 1) (by decide) rfl (fun ls hl => ?_)
                          refine lv_goto (tgt := 73) hx hb dX11_tag_120 (by decide) ?_
                          exact ih73 (k + 1) false (by omega) (⟨fun q => (nomatch q), fun q => absurd (q.2 k (Nat.lt_succ_self _)) c_107⟩) (by omega) _ _ _  hH (lv_sub hl [2, 3, 4, 5, 6, 7, 1, 0] rfl)
                        · have c_107 : (Nu ((10 * (i + 1)) + k)) = (nbN a b c1 (k)) := (nI_eq (by omega) (by omega)).mp c_107
                          refine lv_iconst (v := nI 1) hx hb dX11_tag_110 (by decide) ?_
                          refine lv_goto (tgt := 115) hx hb dX11_tag_111 (by decide) ?_
                          refine lv_istore (lv' := [(6, .int (nI 1)), (0, .ref o), (1, .int (nI (3 * lv2 + 1))), (2, .int a), (3, .int b), (4, .int c1), (5, .int (nI (i + 1))), (7, .int (nI k))]) hx hb dX11_tag_115 hl (by decide) rfl (fun ls hl => ?_)
                          refine lv_iinc (v := nI (k + 1)) (lv' := [(7, .int (nI (k + 1))), (6, .int (nI 1)), (0, .ref o), (1, .int (nI (3 * lv2 + 1))), (2, .int a), (3, .int b), (4, .int c1), (5, .int (nI (i + 1)))]) hx hb dX11_tag_117 hl (k := 7) rfl (nI_add _ 1) (by decide) rfl (fun ls hl => ?_)
                          refine lv_goto (tgt := 73) hx hb dX11_tag_120 (by decide) ?_
                          exact ih73 (k + 1) true (by omega) (⟨fun _ => ⟨(hsm.mp c_81).1, fun j hj => (Nat.lt_succ_iff_lt_or_eq.mp hj).elim ((hsm.mp c_81).2 j) (fun h => h ▸ c_107)⟩, fun _ => rfl⟩) (by omega) _ _ _  hH (lv_sub hl [2, 3, 4, 5, 6, 7, 1, 0] rfl)
                exact lp_73 ((3 * lv2 + 1 - 0) + 1) 0 false (Nat.zero_le _) (⟨fun q => (nomatch q), fun q => absurd q.1 c_60⟩) (Nat.lt_succ_self _) _ _ _  hH (lv_sub hl [2, 3, 4, 5, 6, 7, 1, 0] rfl)
              · have c_60 : (Z (i + 1)) = (3 * lv2 + 1) := (nI_eq (by omega) (by omega)).mp c_60
                refine lv_iconst (v := nI 1) hx hb dX11_tag_63 (by decide) ?_
                refine lv_goto (tgt := 68) hx hb dX11_tag_64 (by decide) ?_
                refine lv_istore (lv' := [(6, .int (nI 1)), (0, .ref o), (1, .int (nI (3 * lv2 + 1))), (2, .int a), (3, .int b), (4, .int c1), (5, .int (nI (i + 1)))]) hx hb dX11_tag_68 hl (by decide) rfl (fun ls hl => ?_)
                refine lv_iconst (v := nI 0) hx hb dX11_tag_70 (by decide) ?_
                refine lv_istore (lv' := [(7, .int (nI 0)), (6, .int (nI 1)), (0, .ref o), (1, .int (nI (3 * lv2 + 1))), (2, .int a), (3, .int b), (4, .int c1), (5, .int (nI (i + 1)))]) hx hb dX11_tag_71 hl (by decide) rfl (fun ls hl => ?_)
                have lp_73 : ∀ (kk73 : Nat) (k : Nat) (sm : Bool), (k ≤ 3 * lv2 + 1) → (sm = true ↔ (Z (i + 1) = 3 * lv2 + 1 ∧ ∀ j, j < k → Nu (10 * (i + 1) + j) = nbN a b c1 j)) → (3 * lv2 + 1 - k) < kk73 → ∀ (H : Heap) (locs : List Loc) (ls : Array Slot), hp_w X cls μ nx H locs → lv_has ls 10 [(0, .ref o), (1, .int (nI (3 * lv2 + 1))), (2, .int a), (3, .int b), (4, .int c1), (5, .int (nI (i + 1))), (6, .int (nB sm)), (7, .int (nI k))] → W p l e { frames := 2, cells := 0, slots := 0, locals := 80 } s m [.ref o, .int (nI (3 * lv2 + 1)), .int a, .int b, .int c1].toArray below meth c H locs 0 0 (MQ below (hq_i X (po_i nx (-14) (fun z => z = μ))) [.ref o, .int (nI (3 * lv2 + 1)), .int a, .int b, .int c1].toArray s 0 0 (hp_A X)) (F0 m 73 ls []) := by
                  intro kk73
                  induction kk73 with
                  | zero =>
                    intro k sm hk hsm hkk73
                    exact absurd hkk73 (Nat.not_lt_zero _)
                  | succ kk73 ih73 =>
                    intro k sm hk hsm hkk73 H locs ls  hH hl
                    refine lv_iload hx hb dX11_tag_73 (lv_at hl 7 rfl) ?_
                    refine lv_iload_n hx hb dX11_tag_75 rfl (lv_at hl 1 rfl) ?_
                    refine lv_icmp_ge (tgt := 123) hx hb dX11_tag_76 (by decide) (fun c_76 => ?_) (fun c_76 => ?_)
                    · have c_76 : (3 * lv2 + 1) ≤ k := (nI_leI (by omega) (by omega)).mp c_76
                      refine lv_iload hx hb dX11_tag_123 (lv_at hl 6 rfl) ?_
                      refine lv_if_eq (tgt := 131) hx hb dX11_tag_125 (by decide) (fun c_125 => ?_) (fun c_125 => ?_)
                      · have c_125 : sm = false := nB_0 c_125
                        refine lv_iinc (v := nI (i + 1 + 1)) (lv' := [(5, .int (nI (i + 1 + 1))), (0, .ref o), (1, .int (nI (3 * lv2 + 1))), (2, .int a), (3, .int b), (4, .int c1), (6, .int (nB sm)), (7, .int (nI k))]) hx hb dX11_tag_131 hl (k := 5) rfl (nI_add _ 1) (by decide) rfl (fun ls hl => ?_)
                        refine lv_goto (tgt := 43) hx hb dX11_tag_134 (by decide) ?_
                        exact ih43 (i + 1) (by omega) (fun j hj => (Nat.lt_succ_iff_lt_or_eq.mp hj).elim (hno j) (fun h => h ▸ fun q => by have := hsm.mpr ⟨q.1, fun k9 hk9 => q.2 k9 (by omega)⟩; rw [c_125] at this; cases this)) (by omega) _ _ _  hH (lv_sub hl [1, 2, 3, 4, 5, 0] rfl)
                      · have c_125 : sm = true := nB_n c_125
                        exact absurd ⟨(hsm.mp c_125).1, fun k9 hk9 => (hsm.mp c_125).2 k9 (by omega)⟩ (hkn i (by omega))
                    · have c_76 : ¬ ((3 * lv2 + 1) ≤ k) := fun z => c_76 ((nI_leI (by omega) (by omega)).mpr z)
                      refine lv_iload hx hb dX11_tag_79 (lv_at hl 6 rfl) ?_
                      refine lv_if_eq (tgt := 114) hx hb dX11_tag_81 (by decide) (fun c_81 => ?_) (fun c_81 => ?_)
                      · have c_81 : sm = false := nB_0 c_81
                        refine lv_iconst (v := nI 0) hx hb dX11_tag_114 (by decide) ?_
                        refine lv_istore (lv' := [(6, .int (nI 0)), (0, .ref o), (1, .int (nI (3 * lv2 + 1))), (2, .int a), (3, .int b), (4, .int c1), (5, .int (nI (i + 1))), (7, .int (nI k))]) hx hb dX11_tag_115 hl (by decide) rfl (fun ls hl => ?_)
                        refine lv_iinc (v := nI (k + 1)) (lv' := [(7, .int (nI (k + 1))), (6, .int (nI 0)), (0, .ref o), (1, .int (nI (3 * lv2 + 1))), (2, .int a), (3, .int b), (4, .int c1), (5, .int (nI (i + 1)))]) hx hb dX11_tag_117 hl (k := 7) rfl (nI_add _ 1) (by decide) rfl (fun ls hl => ?_)
                        refine lv_goto (tgt := 73) hx hb dX11_tag_120 (by decide) ?_
                        exact ih73 (k + 1) false (by omega) (⟨fun q => (nomatch q), fun q => by have := hsm.mpr ⟨q.1, fun j hj => q.2 j (by omega)⟩; rw [c_81] at this; cases this⟩) (by omega) _ _ _  hH (lv_sub hl [2, 3, 4, 5, 6, 7, 1, 0] rfl)
                      · have c_81 : sm = true := nB_n c_81
                        refine lv_aload_n hx hb dX11_tag_84 rfl (lv_at hl 0 rfl) ?_
                        refine hp_get hx hb hown hS.2.1 hH (F_X11_13.use hS) f_o rfl dX11_tag_85 ?_
                        refine lv_bipush (v := nI 10) hx hb dX11_tag_88 (by decide) ?_
                        refine lv_iload hx hb dX11_tag_90 (lv_at hl 5 rfl) ?_
                        refine lv_imul hx hb dX11_tag_92 ?_
                        refine hp_eqi (z := nI (10 * (i + 1))) (pk_mul _ _) ?_
                        refine lv_iload hx hb dX11_tag_93 (lv_at hl 7 rfl) ?_
                        refine lv_iadd hx hb dX11_tag_95 ?_
                        refine hp_eqi (z := nI ((10 * (i + 1)) + k)) (nI_add _ _) ?_
                        have hNi := hN170 (10 * (i + 1) + k)
                        refine hp_ialdN hx hb hS.ai hH f_2 (by omega) (by omega) dX11_tag_96 ?_
                        refine lv_aload_n hx hb dX11_tag_97 rfl (lv_at hl 0 rfl) ?_
                        refine lv_iload_n hx hb dX11_tag_98 rfl (lv_at hl 2 rfl) ?_
                        refine lv_iload_n hx hb dX11_tag_99 rfl (lv_at hl 3 rfl) ?_
                        refine lv_iload hx hb dX11_tag_100 (lv_at hl 4 rfl) ?_
                        refine lv_iload hx hb dX11_tag_102 (lv_at hl 7 rfl) ?_
                        refine hp_kip (hp_runV (As := [.int a, .int b, .int c1, .int (nI k)]) (rest := [.int (nI (Nu ((10 * (i + 1)) + k)))]) hx hb hml hown hS hH (c_X11_byteFrom l X (k := k) (a := a) (b := b) (c1 := c1) (by omega)) M_X11_63 I_X11_byteFrom V_X11_byteFrom (ci := 7) rfl rfl f_o rfl hl.1 rfl (Nat.le_of_ble_eq_true rfl) dX11_tag_104 ⟨Nat.le_of_ble_eq_true rfl, Nat.le_of_ble_eq_true rfl⟩ ⟨Nat.le_of_ble_eq_true rfl, Nat.le_of_ble_eq_true rfl⟩) hH (fun H locs hH => ?_)
                        have hnb9 := nbN_lt a b c1 (k)
                        refine lv_icmp_ne (tgt := 114) hx hb dX11_tag_107 (by decide) (fun c_107 => ?_) (fun c_107 => ?_)
                        · have c_107 : ¬ ((Nu ((10 * (i + 1)) + k)) = (nbN a b c1 (k))) := fun z => c_107 ((nI_eq (by omega) (by omega)).mpr z)
                          refine lv_iconst (v := nI 0) hx hb dX11_tag_114 (by decide) ?_
                          refine lv_istore (lv' := [(6, .int (nI 0)), (0, .ref o), (1, .int (nI (3 * lv2 + 1))), (2, .int a), (3, .int b), (4, .int c1), (5, .int (nI (i + 1))), (7, .int (nI k))]) hx hb dX11_tag_115 hl (by decide) rfl (fun ls hl => ?_)
                          refine lv_iinc (v := nI (k + 1)) (lv' := [(7, .int (nI (k + 1))), (6, .int (nI 0)), (0, .ref o), (1, .int (nI (3 * lv2 + 1))), (2, .int a), (3, .int b), (4, .int c1), (5, .int (nI (i + 1)))]) hx hb dX11_tag_117 hl (k := 7) rfl (nI_add _ 1) (by decide) rfl (fun ls hl => ?_)
                          refine lv_goto (tgt := 73) hx hb dX11_tag_120 (by decide) ?_
                          exact ih73 (k + 1) false (by omega) (⟨fun q => (nomatch q), fun q => absurd (q.2 k (Nat.lt_succ_self _)) c_107⟩) (by omega) _ _ _  hH (lv_sub hl [2, 3, 4, 5, 6, 7, 1, 0] rfl)
                        · have c_107 : (Nu ((10 * (i + 1)) + k)) = (nbN a b c1 (k)) := (nI_eq (by omega) (by omega)).mp c_107
                          refine lv_iconst (v := nI 1) hx hb dX11_tag_110 (by decide) ?_
                          refine lv_goto (tgt := 115) hx hb dX11_tag_111 (by decide) ?_
                          refine lv_istore (lv' := [(6, .int (nI 1)), (0, .ref o), (1, .int (nI (3 * lv2 + 1))), (2, .int a), (3, .int b), (4, .int c1), (5, .int (nI (i + 1))), (7, .int (nI k))]) hx hb dX11_tag_115 hl (by decide) rfl (fun ls hl => ?_)
                          refine lv_iinc (v := nI (k + 1)) (lv' := [(7, .int (nI (k + 1))), (6, .int (nI 1)), (0, .ref o), (1, .int (nI (3 * lv2 + 1))), (2, .int a), (3, .int b), (4, .int c1), (5, .int (nI (i + 1)))]) hx hb dX11_tag_117 hl (k := 7) rfl (nI_add _ 1) (by decide) rfl (fun ls hl => ?_)
                          refine lv_goto (tgt := 73) hx hb dX11_tag_120 (by decide) ?_
                          exact ih73 (k + 1) true (by omega) (⟨fun _ => ⟨(hsm.mp c_81).1, fun j hj => (Nat.lt_succ_iff_lt_or_eq.mp hj).elim ((hsm.mp c_81).2 j) (fun h => h ▸ c_107)⟩, fun _ => rfl⟩) (by omega) _ _ _  hH (lv_sub hl [2, 3, 4, 5, 6, 7, 1, 0] rfl)
                exact lp_73 ((3 * lv2 + 1 - 0) + 1) 0 true (Nat.zero_le _) (⟨fun _ => ⟨c_60, fun j hj => absurd hj (Nat.not_lt_zero _)⟩, fun _ => rfl⟩) (Nat.lt_succ_self _) _ _ _  hH (lv_sub hl [2, 3, 4, 5, 6, 7, 1, 0] rfl)
        exact lp_43 ((n - 0) + 1) 0 (Nat.zero_le _) (fun j hj => absurd hj (Nat.not_lt_zero _)) (Nat.lt_succ_self _) _ _ _  hH (lv_sub hl [1, 2, 3, 4, 5, 0] rfl)
      · have c_34 : (nbN a b c1 ((3 * lv2 + 1) - 4)) = 136 := (nI_eq (by omega) (by omega)).mp c_34
        exact absurd c_34 hunf
    · have c_8 : ¬ ((3 * lv2 + 1) = 7) := fun z => c_8 ((nI_eq (by omega) (by omega)).mpr z)
      refine lv_iload_n hx hb dX11_tag_11 rfl (lv_at hl 1 rfl) ?_
      refine lv_bipush (v := nI 10) hx hb dX11_tag_12 (by decide) ?_
      refine lv_icmp_eq (tgt := 20) hx hb dX11_tag_14 (by decide) (fun c_14 => ?_) (fun c_14 => ?_)
      · have c_14 : (3 * lv2 + 1) = 10 := (nI_eq (by omega) (by omega)).mp c_14
        refine lv_aload_n hx hb dX11_tag_20 rfl (lv_at hl 0 rfl) ?_
        refine lv_iload_n hx hb dX11_tag_21 rfl (lv_at hl 2 rfl) ?_
        refine lv_iload_n hx hb dX11_tag_22 rfl (lv_at hl 3 rfl) ?_
        refine lv_iload hx hb dX11_tag_23 (lv_at hl 4 rfl) ?_
        refine lv_iload_n hx hb dX11_tag_25 rfl (lv_at hl 1 rfl) ?_
        refine lv_iconst (v := nI 4) hx hb dX11_tag_26 (by decide) ?_
        refine lv_isub hx hb dX11_tag_27 ?_
        refine hp_eqi (z := nI ((3 * lv2 + 1) - 4)) (pk_sub (by omega)) ?_
        refine hp_kip (hp_runV (As := [.int a, .int b, .int c1, .int (nI ((3 * lv2 + 1) - 4))]) (rest := []) hx hb hml hown hS hH (c_X11_byteFrom l X (k := (3 * lv2 + 1) - 4) (a := a) (b := b) (c1 := c1) (by omega)) M_X11_63 I_X11_byteFrom V_X11_byteFrom (ci := 7) rfl rfl f_o rfl hl.1 rfl (Nat.le_of_ble_eq_true rfl) dX11_tag_28 ⟨Nat.le_of_ble_eq_true rfl, Nat.le_of_ble_eq_true rfl⟩ ⟨Nat.le_of_ble_eq_true rfl, Nat.le_of_ble_eq_true rfl⟩) hH (fun H locs hH => ?_)
        have hnb9 := nbN_lt a b c1 ((3 * lv2 + 1) - 4)
        refine lv_sipush (v := nI 136) hx hb dX11_tag_31 (by decide) ?_
        refine lv_icmp_ne (tgt := 40) hx hb dX11_tag_34 (by decide) (fun c_34 => ?_) (fun c_34 => ?_)
        · have c_34 : ¬ ((nbN a b c1 ((3 * lv2 + 1) - 4)) = 136) := fun z => c_34 ((nI_eq (by omega) (by omega)).mpr z)
          refine lv_iconst (v := nI 1) hx hb dX11_tag_40 (by decide) ?_
          refine lv_istore (lv' := [(5, .int (nI 1)), (0, .ref o), (1, .int (nI (3 * lv2 + 1))), (2, .int a), (3, .int b), (4, .int c1)]) hx hb dX11_tag_41 hl (by decide) rfl (fun ls hl => ?_)
          have lp_43 : ∀ (kk43 : Nat) (i : Nat), (i ≤ n) → (∀ j, j < i → ¬ smR Z Nu lv2 a b c1 j) → (n - i) < kk43 → ∀ (H : Heap) (locs : List Loc) (ls : Array Slot), hp_w X cls μ nx H locs → lv_has ls 10 [(0, .ref o), (1, .int (nI (3 * lv2 + 1))), (2, .int a), (3, .int b), (4, .int c1), (5, .int (nI (i + 1)))] → W p l e { frames := 2, cells := 0, slots := 0, locals := 80 } s m [.ref o, .int (nI (3 * lv2 + 1)), .int a, .int b, .int c1].toArray below meth c H locs 0 0 (MQ below (hq_i X (po_i nx (-14) (fun z => z = μ))) [.ref o, .int (nI (3 * lv2 + 1)), .int a, .int b, .int c1].toArray s 0 0 (hp_A X)) (F0 m 43 ls []) := by
            intro kk43
            induction kk43 with
            | zero =>
              intro i hi hno hkk43
              exact absurd hkk43 (Nat.not_lt_zero _)
            | succ kk43 ih43 =>
              intro i hi hno hkk43 H locs ls  hH hl
              refine lv_iload hx hb dX11_tag_43 (lv_at hl 5 rfl) ?_
              refine lv_aload_n hx hb dX11_tag_45 rfl (lv_at hl 0 rfl) ?_
              refine hp_get hx hb hown hS.2.1 hH (F_X11_67.use hS) f_o rfl dX11_tag_46 ?_
              refine lv_icmp_gt (tgt := 137) hx hb dX11_tag_49 (by decide) (fun c_49 => ?_) (fun c_49 => ?_)
              · have c_49 : n < (i + 1) := (nI_ltI (by omega) (by omega)).mp c_49
                refine lv_aload_n hx hb dX11_tag_137 rfl (lv_at hl 0 rfl) ?_
                refine hp_get hx hb hown hS.2.1 hH (F_X11_67.use hS) f_o rfl dX11_tag_138 ?_
                refine lv_bipush (v := nI 16) hx hb dX11_tag_141 (by decide) ?_
                refine lv_icmp_ne (tgt := 149) hx hb dX11_tag_143 (by decide) (fun c_143 => ?_) (fun c_143 => ?_)
                · have c_143 : ¬ (n = 16) := fun z => c_143 ((nI_eq (by omega) (by omega)).mpr z)
                  exact absurd hfull c_143
                · have c_143 : n = 16 := (nI_eq (by omega) (by omega)).mp c_143
                  refine lv_bipush (v := (-14)) hx hb dX11_tag_146 (by decide) ?_
                  exact hp_ri hx hb hr hlocks hS hH (⟨rfl, rfl, rfl⟩) dX11_tag_148
              · have c_49 : ¬ (n < (i + 1)) := fun z => c_49 ((nI_ltI (by omega) (by omega)).mpr z)
                refine lv_aload_n hx hb dX11_tag_52 rfl (lv_at hl 0 rfl) ?_
                refine hp_get hx hb hown hS.2.1 hH (F_X11_7.use hS) f_o rfl dX11_tag_53 ?_
                refine lv_iload hx hb dX11_tag_56 (lv_at hl 5 rfl) ?_
                have hZi := hZ17 i (by omega)
                refine hp_ialdN hx hb hS.ai hH f_1 (by omega) (by omega) dX11_tag_58 ?_
                refine lv_iload_n hx hb dX11_tag_59 rfl (lv_at hl 1 rfl) ?_
                refine lv_icmp_ne (tgt := 67) hx hb dX11_tag_60 (by decide) (fun c_60 => ?_) (fun c_60 => ?_)
                · have c_60 : ¬ ((Z (i + 1)) = (3 * lv2 + 1)) := fun z => c_60 ((nI_eq (by omega) (by omega)).mpr z)
                  refine lv_iconst (v := nI 0) hx hb dX11_tag_67 (by decide) ?_
                  refine lv_istore (lv' := [(6, .int (nI 0)), (0, .ref o), (1, .int (nI (3 * lv2 + 1))), (2, .int a), (3, .int b), (4, .int c1), (5, .int (nI (i + 1)))]) hx hb dX11_tag_68 hl (by decide) rfl (fun ls hl => ?_)
                  refine lv_iconst (v := nI 0) hx hb dX11_tag_70 (by decide) ?_
                  refine lv_istore (lv' := [(7, .int (nI 0)), (6, .int (nI 0)), (0, .ref o), (1, .int (nI (3 * lv2 + 1))), (2, .int a), (3, .int b), (4, .int c1), (5, .int (nI (i + 1)))]) hx hb dX11_tag_71 hl (by decide) rfl (fun ls hl => ?_)
                  have lp_73 : ∀ (kk73 : Nat) (k : Nat) (sm : Bool), (k ≤ 3 * lv2 + 1) → (sm = true ↔ (Z (i + 1) = 3 * lv2 + 1 ∧ ∀ j, j < k → Nu (10 * (i + 1) + j) = nbN a b c1 j)) → (3 * lv2 + 1 - k) < kk73 → ∀ (H : Heap) (locs : List Loc) (ls : Array Slot), hp_w X cls μ nx H locs → lv_has ls 10 [(0, .ref o), (1, .int (nI (3 * lv2 + 1))), (2, .int a), (3, .int b), (4, .int c1), (5, .int (nI (i + 1))), (6, .int (nB sm)), (7, .int (nI k))] → W p l e { frames := 2, cells := 0, slots := 0, locals := 80 } s m [.ref o, .int (nI (3 * lv2 + 1)), .int a, .int b, .int c1].toArray below meth c H locs 0 0 (MQ below (hq_i X (po_i nx (-14) (fun z => z = μ))) [.ref o, .int (nI (3 * lv2 + 1)), .int a, .int b, .int c1].toArray s 0 0 (hp_A X)) (F0 m 73 ls []) := by
                    intro kk73
                    induction kk73 with
                    | zero =>
                      intro k sm hk hsm hkk73
                      exact absurd hkk73 (Nat.not_lt_zero _)
                    | succ kk73 ih73 =>
                      intro k sm hk hsm hkk73 H locs ls  hH hl
                      refine lv_iload hx hb dX11_tag_73 (lv_at hl 7 rfl) ?_
                      refine lv_iload_n hx hb dX11_tag_75 rfl (lv_at hl 1 rfl) ?_
                      refine lv_icmp_ge (tgt := 123) hx hb dX11_tag_76 (by decide) (fun c_76 => ?_) (fun c_76 => ?_)
                      · have c_76 : (3 * lv2 + 1) ≤ k := (nI_leI (by omega) (by omega)).mp c_76
                        refine lv_iload hx hb dX11_tag_123 (lv_at hl 6 rfl) ?_
                        refine lv_if_eq (tgt := 131) hx hb dX11_tag_125 (by decide) (fun c_125 => ?_) (fun c_125 => ?_)
                        · have c_125 : sm = false := nB_0 c_125
                          refine lv_iinc (v := nI (i + 1 + 1)) (lv' := [(5, .int (nI (i + 1 + 1))), (0, .ref o), (1, .int (nI (3 * lv2 + 1))), (2, .int a), (3, .int b), (4, .int c1), (6, .int (nB sm)), (7, .int (nI k))]) hx hb dX11_tag_131 hl (k := 5) rfl (nI_add _ 1) (by decide) rfl (fun ls hl => ?_)
                          refine lv_goto (tgt := 43) hx hb dX11_tag_134 (by decide) ?_
                          exact ih43 (i + 1) (by omega) (fun j hj => (Nat.lt_succ_iff_lt_or_eq.mp hj).elim (hno j) (fun h => h ▸ fun q => by have := hsm.mpr ⟨q.1, fun k9 hk9 => q.2 k9 (by omega)⟩; rw [c_125] at this; cases this)) (by omega) _ _ _  hH (lv_sub hl [1, 2, 3, 4, 5, 0] rfl)
                        · have c_125 : sm = true := nB_n c_125
                          exact absurd ⟨(hsm.mp c_125).1, fun k9 hk9 => (hsm.mp c_125).2 k9 (by omega)⟩ (hkn i (by omega))
                      · have c_76 : ¬ ((3 * lv2 + 1) ≤ k) := fun z => c_76 ((nI_leI (by omega) (by omega)).mpr z)
                        refine lv_iload hx hb dX11_tag_79 (lv_at hl 6 rfl) ?_
                        refine lv_if_eq (tgt := 114) hx hb dX11_tag_81 (by decide) (fun c_81 => ?_) (fun c_81 => ?_)
                        · have c_81 : sm = false := nB_0 c_81
                          refine lv_iconst (v := nI 0) hx hb dX11_tag_114 (by decide) ?_
                          refine lv_istore (lv' := [(6, .int (nI 0)), (0, .ref o), (1, .int (nI (3 * lv2 + 1))), (2, .int a), (3, .int b), (4, .int c1), (5, .int (nI (i + 1))), (7, .int (nI k))]) hx hb dX11_tag_115 hl (by decide) rfl (fun ls hl => ?_)
                          refine lv_iinc (v := nI (k + 1)) (lv' := [(7, .int (nI (k + 1))), (6, .int (nI 0)), (0, .ref o), (1, .int (nI (3 * lv2 + 1))), (2, .int a), (3, .int b), (4, .int c1), (5, .int (nI (i + 1)))]) hx hb dX11_tag_117 hl (k := 7) rfl (nI_add _ 1) (by decide) rfl (fun ls hl => ?_)
                          refine lv_goto (tgt := 73) hx hb dX11_tag_120 (by decide) ?_
                          exact ih73 (k + 1) false (by omega) (⟨fun q => (nomatch q), fun q => by have := hsm.mpr ⟨q.1, fun j hj => q.2 j (by omega)⟩; rw [c_81] at this; cases this⟩) (by omega) _ _ _  hH (lv_sub hl [2, 3, 4, 5, 6, 7, 1, 0] rfl)
                        · have c_81 : sm = true := nB_n c_81
                          refine lv_aload_n hx hb dX11_tag_84 rfl (lv_at hl 0 rfl) ?_
                          refine hp_get hx hb hown hS.2.1 hH (F_X11_13.use hS) f_o rfl dX11_tag_85 ?_
                          refine lv_bipush (v := nI 10) hx hb dX11_tag_88 (by decide) ?_
                          refine lv_iload hx hb dX11_tag_90 (lv_at hl 5 rfl) ?_
                          refine lv_imul hx hb dX11_tag_92 ?_
                          refine hp_eqi (z := nI (10 * (i + 1))) (pk_mul _ _) ?_
                          refine lv_iload hx hb dX11_tag_93 (lv_at hl 7 rfl) ?_
                          refine lv_iadd hx hb dX11_tag_95 ?_
                          refine hp_eqi (z := nI ((10 * (i + 1)) + k)) (nI_add _ _) ?_
                          have hNi := hN170 (10 * (i + 1) + k)
                          refine hp_ialdN hx hb hS.ai hH f_2 (by omega) (by omega) dX11_tag_96 ?_
                          refine lv_aload_n hx hb dX11_tag_97 rfl (lv_at hl 0 rfl) ?_
                          refine lv_iload_n hx hb dX11_tag_98 rfl (lv_at hl 2 rfl) ?_
                          refine lv_iload_n hx hb dX11_tag_99 rfl (lv_at hl 3 rfl) ?_
                          refine lv_iload hx hb dX11_tag_100 (lv_at hl 4 rfl) ?_
                          refine lv_iload hx hb dX11_tag_102 (lv_at hl 7 rfl) ?_
                          refine hp_kip (hp_runV (As := [.int a, .int b, .int c1, .int (nI k)]) (rest := [.int (nI (Nu ((10 * (i + 1)) + k)))]) hx hb hml hown hS hH (c_X11_byteFrom l X (k := k) (a := a) (b := b) (c1 := c1) (by omega)) M_X11_63 I_X11_byteFrom V_X11_byteFrom (ci := 7) rfl rfl f_o rfl hl.1 rfl (Nat.le_of_ble_eq_true rfl) dX11_tag_104 ⟨Nat.le_of_ble_eq_true rfl, Nat.le_of_ble_eq_true rfl⟩ ⟨Nat.le_of_ble_eq_true rfl, Nat.le_of_ble_eq_true rfl⟩) hH (fun H locs hH => ?_)
                          have hnb9 := nbN_lt a b c1 (k)
                          refine lv_icmp_ne (tgt := 114) hx hb dX11_tag_107 (by decide) (fun c_107 => ?_) (fun c_107 => ?_)
                          · have c_107 : ¬ ((Nu ((10 * (i + 1)) + k)) = (nbN a b c1 (k))) := fun z => c_107 ((nI_eq (by omega) (by omega)).mpr z)
                            refine lv_iconst (v := nI 0) hx hb dX11_tag_114 (by decide) ?_
                            refine lv_istore (lv' := [(6, .int (nI 0)), (0, .ref o), (1, .int (nI (3 * lv2 + 1))), (2, .int a), (3, .int b), (4, .int c1), (5, .int (nI (i + 1))), (7, .int (nI k))]) hx hb dX11_tag_115 hl (by decide) rfl (fun ls hl => ?_)
                            refine lv_iinc (v := nI (k + 1)) (lv' := [(7, .int (nI (k + 1))), (6, .int (nI 0)), (0, .ref o), (1, .int (nI (3 * lv2 + 1))), (2, .int a), (3, .int b), (4, .int c1), (5, .int (nI (i + 1)))]) hx hb dX11_tag_117 hl (k := 7) rfl (nI_add _ 1) (by decide) rfl (fun ls hl => ?_)
                            refine lv_goto (tgt := 73) hx hb dX11_tag_120 (by decide) ?_
                            exact ih73 (k + 1) false (by omega) (⟨fun q => (nomatch q), fun q => absurd (q.2 k (Nat.lt_succ_self _)) c_107⟩) (by omega) _ _ _  hH (lv_sub hl [2, 3, 4, 5, 6, 7, 1, 0] rfl)
                          · have c_107 : (Nu ((10 * (i + 1)) + k)) = (nbN a b c1 (k)) := (nI_eq (by omega) (by omega)).mp c_107
                            refine lv_iconst (v := nI 1) hx hb dX11_tag_110 (by decide) ?_
                            refine lv_goto (tgt := 115) hx hb dX11_tag_111 (by decide) ?_
                            refine lv_istore (lv' := [(6, .int (nI 1)), (0, .ref o), (1, .int (nI (3 * lv2 + 1))), (2, .int a), (3, .int b), (4, .int c1), (5, .int (nI (i + 1))), (7, .int (nI k))]) hx hb dX11_tag_115 hl (by decide) rfl (fun ls hl => ?_)
                            refine lv_iinc (v := nI (k + 1)) (lv' := [(7, .int (nI (k + 1))), (6, .int (nI 1)), (0, .ref o), (1, .int (nI (3 * lv2 + 1))), (2, .int a), (3, .int b), (4, .int c1), (5, .int (nI (i + 1)))]) hx hb dX11_tag_117 hl (k := 7) rfl (nI_add _ 1) (by decide) rfl (fun ls hl => ?_)
                            refine lv_goto (tgt := 73) hx hb dX11_tag_120 (by decide) ?_
                            exact ih73 (k + 1) true (by omega) (⟨fun _ => ⟨(hsm.mp c_81).1, fun j hj => (Nat.lt_succ_iff_lt_or_eq.mp hj).elim ((hsm.mp c_81).2 j) (fun h => h ▸ c_107)⟩, fun _ => rfl⟩) (by omega) _ _ _  hH (lv_sub hl [2, 3, 4, 5, 6, 7, 1, 0] rfl)
                  exact lp_73 ((3 * lv2 + 1 - 0) + 1) 0 false (Nat.zero_le _) (⟨fun q => (nomatch q), fun q => absurd q.1 c_60⟩) (Nat.lt_succ_self _) _ _ _  hH (lv_sub hl [2, 3, 4, 5, 6, 7, 1, 0] rfl)
                · have c_60 : (Z (i + 1)) = (3 * lv2 + 1) := (nI_eq (by omega) (by omega)).mp c_60
                  refine lv_iconst (v := nI 1) hx hb dX11_tag_63 (by decide) ?_
                  refine lv_goto (tgt := 68) hx hb dX11_tag_64 (by decide) ?_
                  refine lv_istore (lv' := [(6, .int (nI 1)), (0, .ref o), (1, .int (nI (3 * lv2 + 1))), (2, .int a), (3, .int b), (4, .int c1), (5, .int (nI (i + 1)))]) hx hb dX11_tag_68 hl (by decide) rfl (fun ls hl => ?_)
                  refine lv_iconst (v := nI 0) hx hb dX11_tag_70 (by decide) ?_
                  refine lv_istore (lv' := [(7, .int (nI 0)), (6, .int (nI 1)), (0, .ref o), (1, .int (nI (3 * lv2 + 1))), (2, .int a), (3, .int b), (4, .int c1), (5, .int (nI (i + 1)))]) hx hb dX11_tag_71 hl (by decide) rfl (fun ls hl => ?_)
                  have lp_73 : ∀ (kk73 : Nat) (k : Nat) (sm : Bool), (k ≤ 3 * lv2 + 1) → (sm = true ↔ (Z (i + 1) = 3 * lv2 + 1 ∧ ∀ j, j < k → Nu (10 * (i + 1) + j) = nbN a b c1 j)) → (3 * lv2 + 1 - k) < kk73 → ∀ (H : Heap) (locs : List Loc) (ls : Array Slot), hp_w X cls μ nx H locs → lv_has ls 10 [(0, .ref o), (1, .int (nI (3 * lv2 + 1))), (2, .int a), (3, .int b), (4, .int c1), (5, .int (nI (i + 1))), (6, .int (nB sm)), (7, .int (nI k))] → W p l e { frames := 2, cells := 0, slots := 0, locals := 80 } s m [.ref o, .int (nI (3 * lv2 + 1)), .int a, .int b, .int c1].toArray below meth c H locs 0 0 (MQ below (hq_i X (po_i nx (-14) (fun z => z = μ))) [.ref o, .int (nI (3 * lv2 + 1)), .int a, .int b, .int c1].toArray s 0 0 (hp_A X)) (F0 m 73 ls []) := by
                    intro kk73
                    induction kk73 with
                    | zero =>
                      intro k sm hk hsm hkk73
                      exact absurd hkk73 (Nat.not_lt_zero _)
                    | succ kk73 ih73 =>
                      intro k sm hk hsm hkk73 H locs ls  hH hl
                      refine lv_iload hx hb dX11_tag_73 (lv_at hl 7 rfl) ?_
                      refine lv_iload_n hx hb dX11_tag_75 rfl (lv_at hl 1 rfl) ?_
                      refine lv_icmp_ge (tgt := 123) hx hb dX11_tag_76 (by decide) (fun c_76 => ?_) (fun c_76 => ?_)
                      · have c_76 : (3 * lv2 + 1) ≤ k := (nI_leI (by omega) (by omega)).mp c_76
                        refine lv_iload hx hb dX11_tag_123 (lv_at hl 6 rfl) ?_
                        refine lv_if_eq (tgt := 131) hx hb dX11_tag_125 (by decide) (fun c_125 => ?_) (fun c_125 => ?_)
                        · have c_125 : sm = false := nB_0 c_125
                          refine lv_iinc (v := nI (i + 1 + 1)) (lv' := [(5, .int (nI (i + 1 + 1))), (0, .ref o), (1, .int (nI (3 * lv2 + 1))), (2, .int a), (3, .int b), (4, .int c1), (6, .int (nB sm)), (7, .int (nI k))]) hx hb dX11_tag_131 hl (k := 5) rfl (nI_add _ 1) (by decide) rfl (fun ls hl => ?_)
                          refine lv_goto (tgt := 43) hx hb dX11_tag_134 (by decide) ?_
                          exact ih43 (i + 1) (by omega) (fun j hj => (Nat.lt_succ_iff_lt_or_eq.mp hj).elim (hno j) (fun h => h ▸ fun q => by have := hsm.mpr ⟨q.1, fun k9 hk9 => q.2 k9 (by omega)⟩; rw [c_125] at this; cases this)) (by omega) _ _ _  hH (lv_sub hl [1, 2, 3, 4, 5, 0] rfl)
                        · have c_125 : sm = true := nB_n c_125
                          exact absurd ⟨(hsm.mp c_125).1, fun k9 hk9 => (hsm.mp c_125).2 k9 (by omega)⟩ (hkn i (by omega))
                      · have c_76 : ¬ ((3 * lv2 + 1) ≤ k) := fun z => c_76 ((nI_leI (by omega) (by omega)).mpr z)
                        refine lv_iload hx hb dX11_tag_79 (lv_at hl 6 rfl) ?_
                        refine lv_if_eq (tgt := 114) hx hb dX11_tag_81 (by decide) (fun c_81 => ?_) (fun c_81 => ?_)
                        · have c_81 : sm = false := nB_0 c_81
                          refine lv_iconst (v := nI 0) hx hb dX11_tag_114 (by decide) ?_
                          refine lv_istore (lv' := [(6, .int (nI 0)), (0, .ref o), (1, .int (nI (3 * lv2 + 1))), (2, .int a), (3, .int b), (4, .int c1), (5, .int (nI (i + 1))), (7, .int (nI k))]) hx hb dX11_tag_115 hl (by decide) rfl (fun ls hl => ?_)
                          refine lv_iinc (v := nI (k + 1)) (lv' := [(7, .int (nI (k + 1))), (6, .int (nI 0)), (0, .ref o), (1, .int (nI (3 * lv2 + 1))), (2, .int a), (3, .int b), (4, .int c1), (5, .int (nI (i + 1)))]) hx hb dX11_tag_117 hl (k := 7) rfl (nI_add _ 1) (by decide) rfl (fun ls hl => ?_)
                          refine lv_goto (tgt := 73) hx hb dX11_tag_120 (by decide) ?_
                          exact ih73 (k + 1) false (by omega) (⟨fun q => (nomatch q), fun q => by have := hsm.mpr ⟨q.1, fun j hj => q.2 j (by omega)⟩; rw [c_81] at this; cases this⟩) (by omega) _ _ _  hH (lv_sub hl [2, 3, 4, 5, 6, 7, 1, 0] rfl)
                        · have c_81 : sm = true := nB_n c_81
                          refine lv_aload_n hx hb dX11_tag_84 rfl (lv_at hl 0 rfl) ?_
                          refine hp_get hx hb hown hS.2.1 hH (F_X11_13.use hS) f_o rfl dX11_tag_85 ?_
                          refine lv_bipush (v := nI 10) hx hb dX11_tag_88 (by decide) ?_
                          refine lv_iload hx hb dX11_tag_90 (lv_at hl 5 rfl) ?_
                          refine lv_imul hx hb dX11_tag_92 ?_
                          refine hp_eqi (z := nI (10 * (i + 1))) (pk_mul _ _) ?_
                          refine lv_iload hx hb dX11_tag_93 (lv_at hl 7 rfl) ?_
                          refine lv_iadd hx hb dX11_tag_95 ?_
                          refine hp_eqi (z := nI ((10 * (i + 1)) + k)) (nI_add _ _) ?_
                          have hNi := hN170 (10 * (i + 1) + k)
                          refine hp_ialdN hx hb hS.ai hH f_2 (by omega) (by omega) dX11_tag_96 ?_
                          refine lv_aload_n hx hb dX11_tag_97 rfl (lv_at hl 0 rfl) ?_
                          refine lv_iload_n hx hb dX11_tag_98 rfl (lv_at hl 2 rfl) ?_
                          refine lv_iload_n hx hb dX11_tag_99 rfl (lv_at hl 3 rfl) ?_
                          refine lv_iload hx hb dX11_tag_100 (lv_at hl 4 rfl) ?_
                          refine lv_iload hx hb dX11_tag_102 (lv_at hl 7 rfl) ?_
                          refine hp_kip (hp_runV (As := [.int a, .int b, .int c1, .int (nI k)]) (rest := [.int (nI (Nu ((10 * (i + 1)) + k)))]) hx hb hml hown hS hH (c_X11_byteFrom l X (k := k) (a := a) (b := b) (c1 := c1) (by omega)) M_X11_63 I_X11_byteFrom V_X11_byteFrom (ci := 7) rfl rfl f_o rfl hl.1 rfl (Nat.le_of_ble_eq_true rfl) dX11_tag_104 ⟨Nat.le_of_ble_eq_true rfl, Nat.le_of_ble_eq_true rfl⟩ ⟨Nat.le_of_ble_eq_true rfl, Nat.le_of_ble_eq_true rfl⟩) hH (fun H locs hH => ?_)
                          have hnb9 := nbN_lt a b c1 (k)
                          refine lv_icmp_ne (tgt := 114) hx hb dX11_tag_107 (by decide) (fun c_107 => ?_) (fun c_107 => ?_)
                          · have c_107 : ¬ ((Nu ((10 * (i + 1)) + k)) = (nbN a b c1 (k))) := fun z => c_107 ((nI_eq (by omega) (by omega)).mpr z)
                            refine lv_iconst (v := nI 0) hx hb dX11_tag_114 (by decide) ?_
                            refine lv_istore (lv' := [(6, .int (nI 0)), (0, .ref o), (1, .int (nI (3 * lv2 + 1))), (2, .int a), (3, .int b), (4, .int c1), (5, .int (nI (i + 1))), (7, .int (nI k))]) hx hb dX11_tag_115 hl (by decide) rfl (fun ls hl => ?_)
                            refine lv_iinc (v := nI (k + 1)) (lv' := [(7, .int (nI (k + 1))), (6, .int (nI 0)), (0, .ref o), (1, .int (nI (3 * lv2 + 1))), (2, .int a), (3, .int b), (4, .int c1), (5, .int (nI (i + 1)))]) hx hb dX11_tag_117 hl (k := 7) rfl (nI_add _ 1) (by decide) rfl (fun ls hl => ?_)
                            refine lv_goto (tgt := 73) hx hb dX11_tag_120 (by decide) ?_
                            exact ih73 (k + 1) false (by omega) (⟨fun q => (nomatch q), fun q => absurd (q.2 k (Nat.lt_succ_self _)) c_107⟩) (by omega) _ _ _  hH (lv_sub hl [2, 3, 4, 5, 6, 7, 1, 0] rfl)
                          · have c_107 : (Nu ((10 * (i + 1)) + k)) = (nbN a b c1 (k)) := (nI_eq (by omega) (by omega)).mp c_107
                            refine lv_iconst (v := nI 1) hx hb dX11_tag_110 (by decide) ?_
                            refine lv_goto (tgt := 115) hx hb dX11_tag_111 (by decide) ?_
                            refine lv_istore (lv' := [(6, .int (nI 1)), (0, .ref o), (1, .int (nI (3 * lv2 + 1))), (2, .int a), (3, .int b), (4, .int c1), (5, .int (nI (i + 1))), (7, .int (nI k))]) hx hb dX11_tag_115 hl (by decide) rfl (fun ls hl => ?_)
                            refine lv_iinc (v := nI (k + 1)) (lv' := [(7, .int (nI (k + 1))), (6, .int (nI 1)), (0, .ref o), (1, .int (nI (3 * lv2 + 1))), (2, .int a), (3, .int b), (4, .int c1), (5, .int (nI (i + 1)))]) hx hb dX11_tag_117 hl (k := 7) rfl (nI_add _ 1) (by decide) rfl (fun ls hl => ?_)
                            refine lv_goto (tgt := 73) hx hb dX11_tag_120 (by decide) ?_
                            exact ih73 (k + 1) true (by omega) (⟨fun _ => ⟨(hsm.mp c_81).1, fun j hj => (Nat.lt_succ_iff_lt_or_eq.mp hj).elim ((hsm.mp c_81).2 j) (fun h => h ▸ c_107)⟩, fun _ => rfl⟩) (by omega) _ _ _  hH (lv_sub hl [2, 3, 4, 5, 6, 7, 1, 0] rfl)
                  exact lp_73 ((3 * lv2 + 1 - 0) + 1) 0 true (Nat.zero_le _) (⟨fun _ => ⟨c_60, fun j hj => absurd hj (Nat.not_lt_zero _)⟩, fun _ => rfl⟩) (Nat.lt_succ_self _) _ _ _  hH (lv_sub hl [2, 3, 4, 5, 6, 7, 1, 0] rfl)
          exact lp_43 ((n - 0) + 1) 0 (Nat.zero_le _) (fun j hj => absurd hj (Nat.not_lt_zero _)) (Nat.lt_succ_self _) _ _ _  hH (lv_sub hl [1, 2, 3, 4, 5, 0] rfl)
        · have c_34 : (nbN a b c1 ((3 * lv2 + 1) - 4)) = 136 := (nI_eq (by omega) (by omega)).mp c_34
          exact absurd c_34 hunf
      · have c_14 : ¬ ((3 * lv2 + 1) = 10) := fun z => c_14 ((nI_eq (by omega) (by omega)).mpr z)
        exact absurd c_14 (by omega)
