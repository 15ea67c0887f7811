set_option maxHeartbeats 4000000 in
set_option maxRecDepth 100000 in
theorem c_X11_check_bad (l : Launch) (X : hp_X) {μ : hp_M} {nx : Nat} {o n tz se kd kl tc sd hd an fm fo kc : Nat} {on : Bool} {rb : Nat → Nat} (h01 : ∀ j, rb j < 2) (htz : tz ≤ 160) (hck : ckN rb tz = false) (f_o : μ o = some (hp_o 7 [.int (nI n), .ref (o + 1), .ref (o + 2), .ref (o + 3), .ref (o + 4), .ref (o + 5), .ref (o + 6), .int (nB on), .int (nI tz), .ref (o + 7), .int (nI se), .ref (o + 8), .ref (o + 9), .int (nI kd), .int (nI kl), .int (nI tc), .ref (o + 10), .int (nI sd), .ref (o + 11), .int (nI hd), .ref (o + 12), .int (nI an), .ref (o + 13), .int (nI fm), .int (nI fo), .ref (o + 14), .ref (o + 15), .int (nI kc), .ref (o + 16)])) (f_7 : μ (o + 7) = some (hp_n X 160 rb)) : Ct l X yX11_check cX11_check 4 (some FieldType.int) 2 80 0 0 [.ref o] μ nx (hq_i X (po_i nx (-13) (fun z => z = μ))) := by
  refine hp_met (by decide) (Nat.le_of_ble_eq_true rfl) ?_
  intro p e s m below meth c ls hx hb hml hr hlocks hown hin hS hH hl
  have hl : lv_has ls 4 [(0, .ref o)] := hl
  refine lv_aload_n hx hb dX11_check_0 rfl (lv_at hl 0 rfl) ?_
  refine hp_get hx hb hown hS.2.1 hH (F_X11_79.use hS) f_o rfl dX11_check_1 ?_
  refine lv_if_eq (tgt := 17) hx hb dX11_check_4 (by decide) (fun c_4 => ?_) (fun c_4 => ?_)
  · have c_4 : tz = 0 := nz_0 (by omega) c_4
    refine lv_bipush (v := (-13)) hx hb dX11_check_17 (by decide) ?_
    exact hp_ri hx hb hr hlocks hS hH (⟨rfl, rfl, rfl⟩) dX11_check_19
  · have c_4 : ¬ (tz = 0) := nz_n (by omega) c_4
    refine lv_aload_n hx hb dX11_check_7 rfl (lv_at hl 0 rfl) ?_
    refine hp_get hx hb hown hS.2.1 hH (F_X11_79.use hS) f_o rfl dX11_check_8 ?_
    refine lv_bipush (v := nI 9) hx hb dX11_check_11 (by decide) ?_
    refine lv_irem hx hb dX11_check_13 (nI_ne0 (by omega) (by omega)) ?_
    refine hp_eqi (z := nI (tz % 9)) (pk_rem (by omega) (by omega) (by omega)) ?_
    refine lv_if_eq (tgt := 20) hx hb dX11_check_14 (by decide) (fun c_14 => ?_) (fun c_14 => ?_)
    · have c_14 : (tz % 9) = 0 := nz_0 (by omega) c_14
      refine lv_sipush (v := nI 25443) hx hb dX11_check_20 (by decide) ?_
      refine lv_istore_n (lv' := [(1, .int (nI 25443)), (0, .ref o)]) hx hb dX11_check_23 rfl hl (by decide) rfl (fun ls hl => ?_)
      refine lv_iconst (v := nI 0) hx hb dX11_check_24 (by decide) ?_
      refine lv_istore_n (lv' := [(2, .int (nI 0)), (1, .int (nI 25443)), (0, .ref o)]) hx hb dX11_check_25 rfl hl (by decide) rfl (fun ls hl => ?_)
      have lp_26 : ∀ (kk : Nat) (i : Nat), (9 * i ≤ tz) → (begN rb tz i = true) → (tz - 9 * i) < kk → ∀ (H : Heap) (locs : List Loc) (ls : Array Slot), hp_w X cls μ nx H locs → lv_has ls 4 [(0, .ref o), (1, .int (nI (crcN rb tz i))), (2, .int (nI (9 * i)))] → W p l e { frames := 2, cells := 0, slots := 0, locals := 80 } s m [.ref o].toArray below meth c H locs 0 0 (MQ below (hq_i X (po_i nx (-13) (fun z => z = μ))) [.ref o].toArray s 0 0 (hp_A X)) (F0 m 26 ls []) := by
        intro kk
        induction kk with
        | zero =>
          intro i hi hg hkk
          exact absurd hkk (Nat.not_lt_zero _)
        | succ kk ih =>
          intro i hi hg hkk H locs ls  hH hl
          refine lv_iload_n hx hb dX11_check_26 rfl (lv_at hl 2 rfl) ?_
          refine lv_aload_n hx hb dX11_check_27 rfl (lv_at hl 0 rfl) ?_
          refine hp_get hx hb hown hS.2.1 hH (F_X11_79.use hS) f_o rfl dX11_check_28 ?_
          refine lv_icmp_ge (tgt := 62) hx hb dX11_check_31 (by decide) (fun c_31 => ?_) (fun c_31 => ?_)
          · have c_31 : tz ≤ (9 * i) := (nI_leI (by omega) (by omega)).mp c_31
            exact (ckN_f hck (by omega) (by omega) (by rw [show tz / 9 = i by omega]; exact hg)).elim
          · have c_31 : ¬ (tz ≤ (9 * i)) := fun z => c_31 ((nI_leI (by omega) (by omega)).mpr z)
            refine lv_aload_n hx hb dX11_check_34 rfl (lv_at hl 0 rfl) ?_
            refine hp_get hx hb hown hS.2.1 hH (F_X11_33.use hS) f_o rfl dX11_check_35 ?_
            refine lv_iload_n hx hb dX11_check_38 rfl (lv_at hl 2 rfl) ?_
            have hv8 : vaN rb (9 * i) 8 < 256 := vaN_lt (n := 8) (fun j _ => h01 _)
            by_cases hp : prN (vaN rb (9 * i) 8) 8 = rb (9 * i + 8)
            · refine hp_kip (hp_runS (As := [.ref (o + 7), .int (nI (9 * i))]) (rest := []) hx hb hml hown hS hH (c_X11_read_ok l X (fun j _ => h01 _) (by omega) (by decide) hp f_7) M_X11_90 S_X11_read rfl hl.1 rfl (Nat.le_of_ble_eq_true rfl) dX11_check_39 ⟨Nat.le_of_ble_eq_true rfl, Nat.le_of_ble_eq_true rfl⟩ ⟨Nat.le_of_ble_eq_true rfl, Nat.le_of_ble_eq_true rfl⟩) hH (fun H locs hH => ?_)
              refine lv_istore_n (lv' := [(3, .int (nI (vaN rb (9 * i) 8))), (0, .ref o), (1, .int (nI (crcN rb tz i))), (2, .int (nI (9 * i)))]) hx hb dX11_check_42 rfl hl (by decide) rfl (fun ls hl => ?_)
              refine lv_iload_n hx hb dX11_check_43 rfl (lv_at hl 0 rfl) ?_
              refine lv_if_ge (tgt := 50) hx hb dX11_check_44 (by decide) (fun c_44 => ?_) (fun c_44 => ?_)
              · refine lv_iload_n hx hb dX11_check_50 rfl (lv_at hl 2 rfl) ?_
                refine lv_iload_n hx hb dX11_check_51 rfl (lv_at hl 0 rfl) ?_
                refine hp_kip (hp_runS (As := [.int (nI (crcN rb tz i)), .int (nI (vaN rb (9 * i) 8))]) (rest := []) hx hb hml hown hS hH (c_X11_checked l X (crcN_lt _ _ _) hv8) M_X11_94 S_X11_checked rfl hl.1 rfl (Nat.le_of_ble_eq_true rfl) dX11_check_52 ⟨Nat.le_of_ble_eq_true rfl, Nat.le_of_ble_eq_true rfl⟩ ⟨Nat.le_of_ble_eq_true rfl, Nat.le_of_ble_eq_true rfl⟩) hH (fun H locs hH => ?_)
                refine hp_eqi (z := nI (crcN rb tz (i + 1))) (by rw [crcN, valN_va 8 (by omega)]) ?_
                refine lv_istore_n (lv' := [(1, .int (nI (crcN rb tz (i + 1)))), (3, .int (nI (vaN rb (9 * i) 8))), (0, .ref o), (2, .int (nI (9 * i)))]) hx hb dX11_check_55 rfl hl (by decide) rfl (fun ls hl => ?_)
                refine lv_iinc (v := nI (9 * i + 9)) (lv' := [(2, .int (nI (9 * i + 9))), (1, .int (nI (crcN rb tz (i + 1)))), (3, .int (nI (vaN rb (9 * i) 8))), (0, .ref o)]) hx hb dX11_check_56 hl (k := 3) rfl (nI_add _ 9) (by decide) rfl (fun ls hl => ?_)
                refine lv_goto (tgt := 26) hx hb dX11_check_59 (by decide) ?_
                exact ih (i + 1) (by omega) (by rw [begN_s h01 (by omega) hg]; exact decide_eq_true hp) (by omega) _ _ _  hH (lv_sub hl [3, 1, 0] rfl)
              · exact absurd (nI_pos' (by omega)) c_44
            · refine hp_kip (hp_runS (As := [.ref (o + 7), .int (nI (9 * i))]) (rest := []) hx hb hml hown hS hH (c_X11_read_bad l X (fun j _ => h01 _) (by omega) (by decide) hp f_7) M_X11_90 S_X11_read rfl hl.1 rfl (Nat.le_of_ble_eq_true rfl) dX11_check_39 ⟨Nat.le_of_ble_eq_true rfl, Nat.le_of_ble_eq_true rfl⟩ ⟨Nat.le_of_ble_eq_true rfl, Nat.le_of_ble_eq_true rfl⟩) hH (fun H locs hH => ?_)
              refine lv_istore_n (lv' := [(3, .int (-1)), (0, .ref o), (1, .int (nI (crcN rb tz i))), (2, .int (nI (9 * i)))]) hx hb dX11_check_42 rfl hl (by decide) rfl (fun ls hl => ?_)
              refine lv_iload_n hx hb dX11_check_43 rfl (lv_at hl 0 rfl) ?_
              refine lv_if_ge (tgt := 50) hx hb dX11_check_44 (by decide) (fun c_44 => ?_) (fun c_44 => ?_)
              · exact absurd c_44 (by decide)
              · refine lv_bipush (v := (-13)) hx hb dX11_check_47 (by decide) ?_
                exact hp_ri hx hb hr hlocks hS hH (⟨rfl, rfl, rfl⟩) dX11_check_49
      exact lp_26 ((tz - 9 * 0) + 1) 0 (by omega) rfl (Nat.lt_succ_self _) _ _ _  hH (lv_sub hl [2, 1, 0] rfl)
    · have c_14 : ¬ (tz % 9 = 0) := nz_n (by omega) c_14
      refine lv_bipush (v := (-13)) hx hb dX11_check_17 (by decide) ?_
      exact hp_ri hx hb hr hlocks hS hH (⟨rfl, rfl, rfl⟩) dX11_check_19

set_option maxHeartbeats 4000000 in
set_option maxRecDepth 100000 in
theorem c_X11_check_ok (l : Launch) (X : hp_X) {μ : hp_M} {nx : Nat} {o n tz se kd kl tc sd hd an fm fo kc : Nat} {on : Bool} {rb : Nat → Nat} (h01 : ∀ j, rb j < 2) (htz : tz ≤ 160) (hck : ckN rb tz = true) (hroom : tz + 18 ≤ 160) (f_o : μ o = some (hp_o 7 [.int (nI n), .ref (o + 1), .ref (o + 2), .ref (o + 3), .ref (o + 4), .ref (o + 5), .ref (o + 6), .int (nB on), .int (nI tz), .ref (o + 7), .int (nI se), .ref (o + 8), .ref (o + 9), .int (nI kd), .int (nI kl), .int (nI tc), .ref (o + 10), .int (nI sd), .ref (o + 11), .int (nI hd), .ref (o + 12), .int (nI an), .ref (o + 13), .int (nI fm), .int (nI fo), .ref (o + 14), .ref (o + 15), .int (nI kc), .ref (o + 16)])) (f_7 : μ (o + 7) = some (hp_n X 160 rb)) : Ct l X yX11_check cX11_check 4 (some FieldType.int) 2 80 0 0 [.ref o] μ nx (hq_i X (po_i nx (nI (tz + 9 + 9)) (fun z => z o = some (hp_o 7 [.int (nI n), .ref (o + 1), .ref (o + 2), .ref (o + 3), .ref (o + 4), .ref (o + 5), .ref (o + 6), .int (nB on), .int (nI (tz + 9 + 9)), .ref (o + 7), .int (nI se), .ref (o + 8), .ref (o + 9), .int (nI kd), .int (nI kl), .int (nI tc), .ref (o + 10), .int (nI sd), .ref (o + 11), .int (nI hd), .ref (o + 12), .int (nI an), .ref (o + 13), .int (nI fm), .int (nI fo), .ref (o + 14), .ref (o + 15), .int (nI kc), .ref (o + 16)]) ∧ z (o + 7) = some (hp_n X 160 (laX rb tz)) ∧ hp_eqM [0, 7] o z μ))) := by
  refine hp_met (by decide) (Nat.le_of_ble_eq_true rfl) ?_
  intro p e s m below meth c ls hx hb hml hr hlocks hown hin hS hH hl
  have hl : lv_has ls 4 [(0, .ref o)] := hl
  have fr : hp_eqM [0, 7] o μ μ := fun _ _ => rfl
  refine lv_aload_n hx hb dX11_check_0 rfl (lv_at hl 0 rfl) ?_
  refine hp_get hx hb hown hS.2.1 hH (F_X11_79.use hS) f_o rfl dX11_check_1 ?_
  refine lv_if_eq (tgt := 17) hx hb dX11_check_4 (by decide) (fun c_4 => ?_) (fun c_4 => ?_)
  · have c_4 : tz = 0 := nz_0 (by omega) c_4
    exfalso
    obtain ⟨g1, g2, g3⟩ := ckN_t hck
    omega
  · have c_4 : ¬ (tz = 0) := nz_n (by omega) c_4
    refine lv_aload_n hx hb dX11_check_7 rfl (lv_at hl 0 rfl) ?_
    refine hp_get hx hb hown hS.2.1 hH (F_X11_79.use hS) f_o rfl dX11_check_8 ?_
    refine lv_bipush (v := nI 9) hx hb dX11_check_11 (by decide) ?_
    refine lv_irem hx hb dX11_check_13 (nI_ne0 (by omega) (by omega)) ?_
    refine hp_eqi (z := nI (tz % 9)) (pk_rem (by omega) (by omega) (by omega)) ?_
    refine lv_if_eq (tgt := 20) hx hb dX11_check_14 (by decide) (fun c_14 => ?_) (fun c_14 => ?_)
    · have c_14 : (tz % 9) = 0 := nz_0 (by omega) c_14
      refine lv_sipush (v := nI 25443) hx hb dX11_check_20 (by decide) ?_
      refine lv_istore_n (lv' := [(1, .int (nI 25443)), (0, .ref o)]) hx hb dX11_check_23 rfl hl (by decide) rfl (fun ls hl => ?_)
      refine lv_iconst (v := nI 0) hx hb dX11_check_24 (by decide) ?_
      refine lv_istore_n (lv' := [(2, .int (nI 0)), (1, .int (nI 25443)), (0, .ref o)]) hx hb dX11_check_25 rfl hl (by decide) rfl (fun ls hl => ?_)
      have lp_26 : ∀ (kk : Nat) (i : Nat), (9 * i ≤ tz) → (begN rb tz i = true) → (tz - 9 * i) < kk → ∀ (H : Heap) (locs : List Loc) (ls : Array Slot), hp_w X cls μ nx H locs → lv_has ls 4 [(0, .ref o), (1, .int (nI (crcN rb tz i))), (2, .int (nI (9 * i)))] → W p l e { frames := 2, cells := 0, slots := 0, locals := 80 } s m [.ref o].toArray below meth c H locs 0 0 (MQ below (hq_i X (po_i nx (nI (tz + 9 + 9)) (fun z => z o = some (hp_o 7 [.int (nI n), .ref (o + 1), .ref (o + 2), .ref (o + 3), .ref (o + 4), .ref (o + 5), .ref (o + 6), .int (nB on), .int (nI (tz + 9 + 9)), .ref (o + 7), .int (nI se), .ref (o + 8), .ref (o + 9), .int (nI kd), .int (nI kl), .int (nI tc), .ref (o + 10), .int (nI sd), .ref (o + 11), .int (nI hd), .ref (o + 12), .int (nI an), .ref (o + 13), .int (nI fm), .int (nI fo), .ref (o + 14), .ref (o + 15), .int (nI kc), .ref (o + 16)]) ∧ z (o + 7) = some (hp_n X 160 (laX rb tz)) ∧ hp_eqM [0, 7] o z μ))) [.ref o].toArray s 0 0 (hp_A X)) (F0 m 26 ls []) := by
        intro kk
        induction kk with
        | zero =>
          intro i hi hg hkk
          exact absurd hkk (Nat.not_lt_zero _)
        | succ kk ih =>
          intro i hi hg hkk H locs ls  hH hl
          refine lv_iload_n hx hb dX11_check_26 rfl (lv_at hl 2 rfl) ?_
          refine lv_aload_n hx hb dX11_check_27 rfl (lv_at hl 0 rfl) ?_
          refine hp_get hx hb hown hS.2.1 hH (F_X11_79.use hS) f_o rfl dX11_check_28 ?_
          refine lv_icmp_ge (tgt := 62) hx hb dX11_check_31 (by decide) (fun c_31 => ?_) (fun c_31 => ?_)
          · have c_31 : tz ≤ (9 * i) := (nI_leI (by omega) (by omega)).mp c_31
            refine lv_aload_n hx hb dX11_check_62 rfl (lv_at hl 0 rfl) ?_
            refine hp_get hx hb hown hS.2.1 hH (F_X11_79.use hS) f_o rfl dX11_check_63 ?_
            refine lv_bipush (v := nI 18) hx hb dX11_check_66 (by decide) ?_
            refine lv_iadd hx hb dX11_check_68 ?_
            refine hp_eqi (z := nI (tz + 18)) (nI_add _ _) ?_
            refine lv_sipush (v := nI 160) hx hb dX11_check_69 (by decide) ?_
            refine lv_icmp_le (tgt := 78) hx hb dX11_check_72 (by decide) (fun c_72 => ?_) (fun c_72 => ?_)
            · have c_72 : (tz + 18) ≤ 160 := (nI_leI (by omega) (by omega)).mp c_72
              have ei : i = tz / 9 := by omega
              subst ei
              have hxl := crcN_lt rb tz (tz / 9)
              refine lv_aload_n hx hb dX11_check_78 rfl (lv_at hl 0 rfl) ?_
              refine lv_iload_n hx hb dX11_check_79 rfl (lv_at hl 1 rfl) ?_
              refine lv_sipush (v := nI 255) hx hb dX11_check_80 (by decide) ?_
              refine lv_iand hx hb dX11_check_83 ?_
              refine hp_eqi (z := nI (crcN rb tz (tz / 9) % 256)) (pk_andN (by omega) 8 (by decide)) ?_
              refine hp_kim (hp_runV (As := [.int (nI (crcN rb tz (tz / 9) % 256))]) (rest := []) hx hb hml hown hS hH (c_X11_type l X (Nat.mod_lt _ (by decide)) (by omega) f_o f_7) M_X11_86 I_X11_type V_X11_type (ci := 7) rfl rfl f_o rfl hl.1 rfl (Nat.le_of_ble_eq_true rfl) dX11_check_84 ⟨Nat.le_of_ble_eq_true rfl, Nat.le_of_ble_eq_true rfl⟩ ⟨Nat.le_of_ble_eq_true rfl, Nat.le_of_ble_eq_true rfl⟩) hH (fun μ1 H locs hp hH => ?_)
              obtain ⟨fz0, fz1, fe⟩ := hp
              have f_o : μ1 o = some (hp_o 7 [.int (nI n), .ref (o + 1), .ref (o + 2), .ref (o + 3), .ref (o + 4), .ref (o + 5), .ref (o + 6), .int (nB on), .int (nI (tz + 9)), .ref (o + 7), .int (nI se), .ref (o + 8), .ref (o + 9), .int (nI kd), .int (nI kl), .int (nI tc), .ref (o + 10), .int (nI sd), .ref (o + 11), .int (nI hd), .ref (o + 12), .int (nI an), .ref (o + 13), .int (nI fm), .int (nI fo), .ref (o + 14), .ref (o + 15), .int (nI kc), .ref (o + 16)]) := fz0
              have f_7 : μ1 (o + 7) = some (hp_n X 160 (apO rb tz (crcN rb tz (tz / 9) % 256))) := fz1
              have fr := hp_eqM.tr fe fr (by decide)
              clear fe fz0 fz1
              refine lv_pop hx hb dX11_check_87 rfl ?_
              refine lv_aload_n hx hb dX11_check_88 rfl (lv_at hl 0 rfl) ?_
              refine lv_iload_n hx hb dX11_check_89 rfl (lv_at hl 1 rfl) ?_
              refine lv_sipush (v := nI 256) hx hb dX11_check_90 (by decide) ?_
              refine lv_idiv hx hb dX11_check_93 (nI_ne0 (by omega) (by omega)) ?_
              refine hp_eqi (z := nI ((crcN rb tz (tz / 9)) / 256)) (pk_div (by omega) (by omega) (by omega)) ?_
              refine hp_kim (hp_runV (As := [.int (nI ((crcN rb tz (tz / 9)) / 256))]) (rest := []) hx hb hml hown hS hH (c_X11_type l X (by omega) (by omega) f_o f_7) M_X11_86 I_X11_type V_X11_type (ci := 7) rfl rfl f_o rfl hl.1 rfl (Nat.le_of_ble_eq_true rfl) dX11_check_94 ⟨Nat.le_of_ble_eq_true rfl, Nat.le_of_ble_eq_true rfl⟩ ⟨Nat.le_of_ble_eq_true rfl, Nat.le_of_ble_eq_true rfl⟩) hH (fun μ1 H locs hp hH => ?_)
              obtain ⟨fz0, fz1, fe⟩ := hp
              have f_o : μ1 o = some (hp_o 7 [.int (nI n), .ref (o + 1), .ref (o + 2), .ref (o + 3), .ref (o + 4), .ref (o + 5), .ref (o + 6), .int (nB on), .int (nI (tz + 9 + 9)), .ref (o + 7), .int (nI se), .ref (o + 8), .ref (o + 9), .int (nI kd), .int (nI kl), .int (nI tc), .ref (o + 10), .int (nI sd), .ref (o + 11), .int (nI hd), .ref (o + 12), .int (nI an), .ref (o + 13), .int (nI fm), .int (nI fo), .ref (o + 14), .ref (o + 15), .int (nI kc), .ref (o + 16)]) := fz0
              have f_7 : μ1 (o + 7) = some (hp_n X 160 (laX rb tz)) := fz1
              have fr := hp_eqM.tr fe fr (by decide)
              clear fe fz0 fz1
              exact hp_ri hx hb hr hlocks hS hH (⟨rfl, rfl, f_o, f_7, fr⟩) dX11_check_97
            · have c_72 : ¬ ((tz + 18) ≤ 160) := fun z => c_72 ((nI_leI (by omega) (by omega)).mpr z)
              exact absurd c_72 (by omega)
          · have c_31 : ¬ (tz ≤ (9 * i)) := fun z => c_31 ((nI_leI (by omega) (by omega)).mpr z)
            refine lv_aload_n hx hb dX11_check_34 rfl (lv_at hl 0 rfl) ?_
            refine hp_get hx hb hown hS.2.1 hH (F_X11_33.use hS) f_o rfl dX11_check_35 ?_
            refine lv_iload_n hx hb dX11_check_38 rfl (lv_at hl 2 rfl) ?_
            have hv8 : vaN rb (9 * i) 8 < 256 := vaN_lt (n := 8) (fun j _ => h01 _)
            by_cases hp : prN (vaN rb (9 * i) 8) 8 = rb (9 * i + 8)
            · refine hp_kip (hp_runS (As := [.ref (o + 7), .int (nI (9 * i))]) (rest := []) hx hb hml hown hS hH (c_X11_read_ok l X (fun j _ => h01 _) (by omega) (by decide) hp f_7) M_X11_90 S_X11_read rfl hl.1 rfl (Nat.le_of_ble_eq_true rfl) dX11_check_39 ⟨Nat.le_of_ble_eq_true rfl, Nat.le_of_ble_eq_true rfl⟩ ⟨Nat.le_of_ble_eq_true rfl, Nat.le_of_ble_eq_true rfl⟩) hH (fun H locs hH => ?_)
              refine lv_istore_n (lv' := [(3, .int (nI (vaN rb (9 * i) 8))), (0, .ref o), (1, .int (nI (crcN rb tz i))), (2, .int (nI (9 * i)))]) hx hb dX11_check_42 rfl hl (by decide) rfl (fun ls hl => ?_)
              refine lv_iload_n hx hb dX11_check_43 rfl (lv_at hl 0 rfl) ?_
              refine lv_if_ge (tgt := 50) hx hb dX11_check_44 (by decide) (fun c_44 => ?_) (fun c_44 => ?_)
              · refine lv_iload_n hx hb dX11_check_50 rfl (lv_at hl 2 rfl) ?_
                refine lv_iload_n hx hb dX11_check_51 rfl (lv_at hl 0 rfl) ?_
                refine hp_kip (hp_runS (As := [.int (nI (crcN rb tz i)), .int (nI (vaN rb (9 * i) 8))]) (rest := []) hx hb hml hown hS hH (c_X11_checked l X (crcN_lt _ _ _) hv8) M_X11_94 S_X11_checked rfl hl.1 rfl (Nat.le_of_ble_eq_true rfl) dX11_check_52 ⟨Nat.le_of_ble_eq_true rfl, Nat.le_of_ble_eq_true rfl⟩ ⟨Nat.le_of_ble_eq_true rfl, Nat.le_of_ble_eq_true rfl⟩) hH (fun H locs hH => ?_)
                refine hp_eqi (z := nI (crcN rb tz (i + 1))) (by rw [crcN, valN_va 8 (by omega)]) ?_
                refine lv_istore_n (lv' := [(1, .int (nI (crcN rb tz (i + 1)))), (3, .int (nI (vaN rb (9 * i) 8))), (0, .ref o), (2, .int (nI (9 * i)))]) hx hb dX11_check_55 rfl hl (by decide) rfl (fun ls hl => ?_)
                refine lv_iinc (v := nI (9 * i + 9)) (lv' := [(2, .int (nI (9 * i + 9))), (1, .int (nI (crcN rb tz (i + 1)))), (3, .int (nI (vaN rb (9 * i) 8))), (0, .ref o)]) hx hb dX11_check_56 hl (k := 3) rfl (nI_add _ 9) (by decide) rfl (fun ls hl => ?_)
                refine lv_goto (tgt := 26) hx hb dX11_check_59 (by decide) ?_
                exact ih (i + 1) (by omega) (by rw [begN_s h01 (by omega) hg]; exact decide_eq_true hp) (by omega) _ _ _  hH (lv_sub hl [3, 1, 0] rfl)
              · exact absurd (nI_pos' (by omega)) c_44
            · refine hp_kip (hp_runS (As := [.ref (o + 7), .int (nI (9 * i))]) (rest := []) hx hb hml hown hS hH (c_X11_read_bad l X (fun j _ => h01 _) (by omega) (by decide) hp f_7) M_X11_90 S_X11_read rfl hl.1 rfl (Nat.le_of_ble_eq_true rfl) dX11_check_39 ⟨Nat.le_of_ble_eq_true rfl, Nat.le_of_ble_eq_true rfl⟩ ⟨Nat.le_of_ble_eq_true rfl, Nat.le_of_ble_eq_true rfl⟩) hH (fun H locs hH => ?_)
              refine lv_istore_n (lv' := [(3, .int (-1)), (0, .ref o), (1, .int (nI (crcN rb tz i))), (2, .int (nI (9 * i)))]) hx hb dX11_check_42 rfl hl (by decide) rfl (fun ls hl => ?_)
              refine lv_iload_n hx hb dX11_check_43 rfl (lv_at hl 0 rfl) ?_
              refine lv_if_ge (tgt := 50) hx hb dX11_check_44 (by decide) (fun c_44 => ?_) (fun c_44 => ?_)
              · exact absurd c_44 (by decide)
              · exfalso
                obtain ⟨g1, g2, g3⟩ := ckN_t hck
                have hb9 : begN rb tz (i + 1) = false := by rw [begN_s h01 (by omega) hg]; exact decide_eq_false hp
                rw [begN_false hb9 (tz / 9) (by omega)] at g3
                cases g3
      exact lp_26 ((tz - 9 * 0) + 1) 0 (by omega) rfl (Nat.lt_succ_self _) _ _ _  hH (lv_sub hl [2, 1, 0] rfl)
    · have c_14 : ¬ (tz % 9 = 0) := nz_n (by omega) c_14
      exfalso
      obtain ⟨g1, g2, g3⟩ := ckN_t hck
      omega

set_option maxHeartbeats 4000000 in
set_option maxRecDepth 100000 in
theorem c_X11_check_full (l : Launch) (X : hp_X) {μ : hp_M} {nx : Nat} {o n tz se kd kl tc sd hd an fm fo kc : Nat} {on : Bool} {rb : Nat → Nat} (h01 : ∀ j, rb j < 2) (htz : tz ≤ 160) (hck : ckN rb tz = true) (hroom : 160 < tz + 18) (f_o : μ o = some (hp_o 7 [.int (nI n), .ref (o + 1), .ref (o + 2), .ref (o + 3), .ref (o + 4), .ref (o + 5), .ref (o + 6), .int (nB on), .int (nI tz), .ref (o + 7), .int (nI se), .ref (o + 8), .ref (o + 9), .int (nI kd), .int (nI kl), .int (nI tc), .ref (o + 10), .int (nI sd), .ref (o + 11), .int (nI hd), .ref (o + 12), .int (nI an), .ref (o + 13), .int (nI fm), .int (nI fo), .ref (o + 14), .ref (o + 15), .int (nI kc), .ref (o + 16)])) (f_7 : μ (o + 7) = some (hp_n X 160 rb)) : Ct l X yX11_check cX11_check 4 (some FieldType.int) 2 80 0 0 [.ref o] μ nx (hq_i X (po_i nx (-14) (fun z => z = μ))) := by
  refine hp_met (by decide) (Nat.le_of_ble_eq_true rfl) ?_
  intro p e s m below meth c ls hx hb hml hr hlocks hown hin hS hH hl
  have hl : lv_has ls 4 [(0, .ref o)] := hl
  refine lv_aload_n hx hb dX11_check_0 rfl (lv_at hl 0 rfl) ?_
  refine hp_get hx hb hown hS.2.1 hH (F_X11_79.use hS) f_o rfl dX11_check_1 ?_
  refine lv_if_eq (tgt := 17) hx hb dX11_check_4 (by decide) (fun c_4 => ?_) (fun c_4 => ?_)
  · have c_4 : tz = 0 := nz_0 (by omega) c_4
    exfalso
    obtain ⟨g1, g2, g3⟩ := ckN_t hck
    omega
  · have c_4 : ¬ (tz = 0) := nz_n (by omega) c_4
    refine lv_aload_n hx hb dX11_check_7 rfl (lv_at hl 0 rfl) ?_
    refine hp_get hx hb hown hS.2.1 hH (F_X11_79.use hS) f_o rfl dX11_check_8 ?_
    refine lv_bipush (v := nI 9) hx hb dX11_check_11 (by decide) ?_
    refine lv_irem hx hb dX11_check_13 (nI_ne0 (by omega) (by omega)) ?_
    refine hp_eqi (z := nI (tz % 9)) (pk_rem (by omega) (by omega) (by omega)) ?_
    refine lv_if_eq (tgt := 20) hx hb dX11_check_14 (by decide) (fun c_14 => ?_) (fun c_14 => ?_)
    · have c_14 : (tz % 9) = 0 := nz_0 (by omega) c_14
      refine lv_sipush (v := nI 25443) hx hb dX11_check_20 (by decide) ?_
      refine lv_istore_n (lv' := [(1, .int (nI 25443)), (0, .ref o)]) hx hb dX11_check_23 rfl hl (by decide) rfl (fun ls hl => ?_)
      refine lv_iconst (v := nI 0) hx hb dX11_check_24 (by decide) ?_
      refine lv_istore_n (lv' := [(2, .int (nI 0)), (1, .int (nI 25443)), (0, .ref o)]) hx hb dX11_check_25 rfl hl (by decide) rfl (fun ls hl => ?_)
      have lp_26 : ∀ (kk : Nat) (i : Nat), (9 * i ≤ tz) → (begN rb tz i = true) → (tz - 9 * i) < kk → ∀ (H : Heap) (locs : List Loc) (ls : Array Slot), hp_w X cls μ nx H locs → lv_has ls 4 [(0, .ref o), (1, .int (nI (crcN rb tz i))), (2, .int (nI (9 * i)))] → W p l e { frames := 2, cells := 0, slots := 0, locals := 80 } s m [.ref o].toArray below meth c H locs 0 0 (MQ below (hq_i X (po_i nx (-14) (fun z => z = μ))) [.ref o].toArray s 0 0 (hp_A X)) (F0 m 26 ls []) := by
        intro kk
        induction kk with
        | zero =>
          intro i hi hg hkk
          exact absurd hkk (Nat.not_lt_zero _)
        | succ kk ih =>
          intro i hi hg hkk H locs ls  hH hl
          refine lv_iload_n hx hb dX11_check_26 rfl (lv_at hl 2 rfl) ?_
          refine lv_aload_n hx hb dX11_check_27 rfl (lv_at hl 0 rfl) ?_
          refine hp_get hx hb hown hS.2.1 hH (F_X11_79.use hS) f_o rfl dX11_check_28 ?_
          refine lv_icmp_ge (tgt := 62) hx hb dX11_check_31 (by decide) (fun c_31 => ?_) (fun c_31 => ?_)
          · have c_31 : tz ≤ (9 * i) := (nI_leI (by omega) (by omega)).mp c_31
            refine lv_aload_n hx hb dX11_check_62 rfl (lv_at hl 0 rfl) ?_
            refine hp_get hx hb hown hS.2.1 hH (F_X11_79.use hS) f_o rfl dX11_check_63 ?_
            refine lv_bipush (v := nI 18) hx hb dX11_check_66 (by decide) ?_
            refine lv_iadd hx hb dX11_check_68 ?_
            refine hp_eqi (z := nI (tz + 18)) (nI_add _ _) ?_
            refine lv_sipush (v := nI 160) hx hb dX11_check_69 (by decide) ?_
            refine lv_icmp_le (tgt := 78) hx hb dX11_check_72 (by decide) (fun c_72 => ?_) (fun c_72 => ?_)
            · have c_72 : (tz + 18) ≤ 160 := (nI_leI (by omega) (by omega)).mp c_72
              exact absurd c_72 (by omega)
            · have c_72 : ¬ ((tz + 18) ≤ 160) := fun z => c_72 ((nI_leI (by omega) (by omega)).mpr z)
              refine lv_bipush (v := (-14)) hx hb dX11_check_75 (by decide) ?_
              exact hp_ri hx hb hr hlocks hS hH (⟨rfl, rfl, rfl⟩) dX11_check_77
          · have c_31 : ¬ (tz ≤ (9 * i)) := fun z => c_31 ((nI_leI (by omega) (by omega)).mpr z)
            refine lv_aload_n hx hb dX11_check_34 rfl (lv_at hl 0 rfl) ?_
            refine hp_get hx hb hown hS.2.1 hH (F_X11_33.use hS) f_o rfl dX11_check_35 ?_
            refine lv_iload_n hx hb dX11_check_38 rfl (lv_at hl 2 rfl) ?_
            have hv8 : vaN rb (9 * i) 8 < 256 := vaN_lt (n := 8) (fun j _ => h01 _)
            by_cases hp : prN (vaN rb (9 * i) 8) 8 = rb (9 * i + 8)
            · refine hp_kip (hp_runS (As := [.ref (o + 7), .int (nI (9 * i))]) (rest := []) hx hb hml hown hS hH (c_X11_read_ok l X (fun j _ => h01 _) (by omega) (by decide) hp f_7) M_X11_90 S_X11_read rfl hl.1 rfl (Nat.le_of_ble_eq_true rfl) dX11_check_39 ⟨Nat.le_of_ble_eq_true rfl, Nat.le_of_ble_eq_true rfl⟩ ⟨Nat.le_of_ble_eq_true rfl, Nat.le_of_ble_eq_true rfl⟩) hH (fun H locs hH => ?_)
              refine lv_istore_n (lv' := [(3, .int (nI (vaN rb (9 * i) 8))), (0, .ref o), (1, .int (nI (crcN rb tz i))), (2, .int (nI (9 * i)))]) hx hb dX11_check_42 rfl hl (by decide) rfl (fun ls hl => ?_)
              refine lv_iload_n hx hb dX11_check_43 rfl (lv_at hl 0 rfl) ?_
              refine lv_if_ge (tgt := 50) hx hb dX11_check_44 (by decide) (fun c_44 => ?_) (fun c_44 => ?_)
              · refine lv_iload_n hx hb dX11_check_50 rfl (lv_at hl 2 rfl) ?_
                refine lv_iload_n hx hb dX11_check_51 rfl (lv_at hl 0 rfl) ?_
                refine hp_kip (hp_runS (As := [.int (nI (crcN rb tz i)), .int (nI (vaN rb (9 * i) 8))]) (rest := []) hx hb hml hown hS hH (c_X11_checked l X (crcN_lt _ _ _) hv8) M_X11_94 S_X11_checked rfl hl.1 rfl (Nat.le_of_ble_eq_true rfl) dX11_check_52 ⟨Nat.le_of_ble_eq_true rfl, Nat.le_of_ble_eq_true rfl⟩ ⟨Nat.le_of_ble_eq_true rfl, Nat.le_of_ble_eq_true rfl⟩) hH (fun H locs hH => ?_)
                refine hp_eqi (z := nI (crcN rb tz (i + 1))) (by rw [crcN, valN_va 8 (by omega)]) ?_
                refine lv_istore_n (lv' := [(1, .int (nI (crcN rb tz (i + 1)))), (3, .int (nI (vaN rb (9 * i) 8))), (0, .ref o), (2, .int (nI (9 * i)))]) hx hb dX11_check_55 rfl hl (by decide) rfl (fun ls hl => ?_)
                refine lv_iinc (v := nI (9 * i + 9)) (lv' := [(2, .int (nI (9 * i + 9))), (1, .int (nI (crcN rb tz (i + 1)))), (3, .int (nI (vaN rb (9 * i) 8))), (0, .ref o)]) hx hb dX11_check_56 hl (k := 3) rfl (nI_add _ 9) (by decide) rfl (fun ls hl => ?_)
                refine lv_goto (tgt := 26) hx hb dX11_check_59 (by decide) ?_
                exact ih (i + 1) (by omega) (by rw [begN_s h01 (by omega) hg]; exact decide_eq_true hp) (by omega) _ _ _  hH (lv_sub hl [3, 1, 0] rfl)
              · exact absurd (nI_pos' (by omega)) c_44
            · refine hp_kip (hp_runS (As := [.ref (o + 7), .int (nI (9 * i))]) (rest := []) hx hb hml hown hS hH (c_X11_read_bad l X (fun j _ => h01 _) (by omega) (by decide) hp f_7) M_X11_90 S_X11_read rfl hl.1 rfl (Nat.le_of_ble_eq_true rfl) dX11_check_39 ⟨Nat.le_of_ble_eq_true rfl, Nat.le_of_ble_eq_true rfl⟩ ⟨Nat.le_of_ble_eq_true rfl, Nat.le_of_ble_eq_true rfl⟩) hH (fun H locs hH => ?_)
              refine lv_istore_n (lv' := [(3, .int (-1)), (0, .ref o), (1, .int (nI (crcN rb tz i))), (2, .int (nI (9 * i)))]) hx hb dX11_check_42 rfl hl (by decide) rfl (fun ls hl => ?_)
              refine lv_iload_n hx hb dX11_check_43 rfl (lv_at hl 0 rfl) ?_
              refine lv_if_ge (tgt := 50) hx hb dX11_check_44 (by decide) (fun c_44 => ?_) (fun c_44 => ?_)
              · exact absurd c_44 (by decide)
              · exfalso
                obtain ⟨g1, g2, g3⟩ := ckN_t hck
                have hb9 : begN rb tz (i + 1) = false := by rw [begN_s h01 (by omega) hg]; exact decide_eq_false hp
                rw [begN_false hb9 (tz / 9) (by omega)] at g3
                cases g3
      exact lp_26 ((tz - 9 * 0) + 1) 0 (by omega) rfl (Nat.lt_succ_self _) _ _ _  hH (lv_sub hl [2, 1, 0] rfl)
    · have c_14 : ¬ (tz % 9 = 0) := nz_n (by omega) c_14
      exfalso
      obtain ⟨g1, g2, g3⟩ := ckN_t hck
      omega

set_option maxHeartbeats 4000000 in
set_option maxRecDepth 100000 in
theorem c_X11_sayChecked (l : Launch) (X : hp_X) {μ : hp_M} {nx : Nat} {o n tz se kd kl tc hd an fm fo kc : Nat} {on : Bool} {J : Nat → Nat} {Bv k : Nat} (h01 : ∀ j, J j < 2) (hk : k ≤ 3) (hJ : ∀ j, j < 9 * k → J j = octN Bv k / 2 ^ j % 2) (f_o : μ o = some (hp_o 7 [.int (nI n), .ref (o + 1), .ref (o + 2), .ref (o + 3), .ref (o + 4), .ref (o + 5), .ref (o + 6), .int (nB on), .int (nI tz), .ref (o + 7), .int (nI se), .ref (o + 8), .ref (o + 9), .int (nI kd), .int (nI kl), .int (nI tc), .ref (o + 10), .int (nI (9 * k)), .ref (o + 11), .int (nI hd), .ref (o + 12), .int (nI an), .ref (o + 13), .int (nI fm), .int (nI fo), .ref (o + 14), .ref (o + 15), .int (nI kc), .ref (o + 16)])) (f_11 : μ (o + 11) = some (hp_n X 64 J)) : Ct l X yX11_sayChecked cX11_sayChecked 4 (none : Option Jvm.ClassFile.FieldType) 2 80 0 0 [.ref o, .int (nI 0)] μ nx (hq_v X (po_v nx (fun z => z o = some (hp_o 7 [.int (nI n), .ref (o + 1), .ref (o + 2), .ref (o + 3), .ref (o + 4), .ref (o + 5), .ref (o + 6), .int (nB on), .int (nI tz), .ref (o + 7), .int (nI se), .ref (o + 8), .ref (o + 9), .int (nI kd), .int (nI kl), .int (nI tc), .ref (o + 10), .int (nI (9 * k + 9 + 9)), .ref (o + 11), .int (nI hd), .ref (o + 12), .int (nI an), .ref (o + 13), .int (nI fm), .int (nI fo), .ref (o + 14), .ref (o + 15), .int (nI kc), .ref (o + 16)]) ∧ z (o + 11) = some (hp_n X 64 (apO (apO J (9 * k) (crcB Bv k % 256)) (9 * k + 9) (crcB Bv k / 256))) ∧ hp_eqM [0, 11] o z μ))) := by
  refine hp_met (by decide) (Nat.le_of_ble_eq_true rfl) ?_
  intro p e s m below meth c ls hx hb hml hr hlocks hown hin hS hH hl
  have hl : lv_has ls 4 [(0, .ref o), (1, .int (nI 0))] := hl
  have fr : hp_eqM [0, 11] o μ μ := fun _ _ => rfl
  refine lv_sipush (v := nI 25443) hx hb dX11_sayChecked_0 (by decide) ?_
  refine lv_istore_n (lv' := [(2, .int (nI 25443)), (0, .ref o), (1, .int (nI 0))]) hx hb dX11_sayChecked_3 rfl hl (by decide) rfl (fun ls hl => ?_)
  refine lv_iload_n hx hb dX11_sayChecked_4 rfl (lv_at hl 2 rfl) ?_
  refine lv_istore_n (lv' := [(3, .int (nI 0)), (2, .int (nI 25443)), (0, .ref o), (1, .int (nI 0))]) hx hb dX11_sayChecked_5 rfl hl (by decide) rfl (fun ls hl => ?_)
  have lp_6 : ∀ (kk : Nat) (i : Nat), (i ≤ k) → (k - i) < kk → ∀ (H : Heap) (locs : List Loc) (ls : Array Slot), hp_w X cls μ nx H locs → lv_has ls 4 [(0, .ref o), (2, .int (nI (crcB Bv i))), (3, .int (nI (9 * i)))] → W p l e { frames := 2, cells := 0, slots := 0, locals := 80 } s m [.ref o, .int (nI 0)].toArray below meth c H locs 0 0 (MQ below (hq_v X (po_v nx (fun z => z o = some (hp_o 7 [.int (nI n), .ref (o + 1), .ref (o + 2), .ref (o + 3), .ref (o + 4), .ref (o + 5), .ref (o + 6), .int (nB on), .int (nI tz), .ref (o + 7), .int (nI se), .ref (o + 8), .ref (o + 9), .int (nI kd), .int (nI kl), .int (nI tc), .ref (o + 10), .int (nI (9 * k + 9 + 9)), .ref (o + 11), .int (nI hd), .ref (o + 12), .int (nI an), .ref (o + 13), .int (nI fm), .int (nI fo), .ref (o + 14), .ref (o + 15), .int (nI kc), .ref (o + 16)]) ∧ z (o + 11) = some (hp_n X 64 (apO (apO J (9 * k) (crcB Bv k % 256)) (9 * k + 9) (crcB Bv k / 256))) ∧ hp_eqM [0, 11] o z μ))) [.ref o, .int (nI 0)].toArray s 0 0 (hp_A X)) (F0 m 6 ls []) := by
    intro kk
    induction kk with
    | zero =>
      intro i hi hkk
      exact absurd hkk (Nat.not_lt_zero _)
    | succ kk ih =>
      intro i hi hkk H locs ls  hH hl
      refine lv_iload_n hx hb dX11_sayChecked_6 rfl (lv_at hl 2 rfl) ?_
      refine lv_aload_n hx hb dX11_sayChecked_7 rfl (lv_at hl 0 rfl) ?_
      refine hp_get hx hb hown hS.2.1 hH (F_X11_110.use hS) f_o rfl dX11_sayChecked_8 ?_
      refine lv_icmp_ge (tgt := 33) hx hb dX11_sayChecked_11 (by decide) (fun c_11 => ?_) (fun c_11 => ?_)
      · have c_11 : (9 * k) ≤ (9 * i) := (nI_leI (by omega) (by omega)).mp c_11
        have ei : k = i := by omega
        subst ei
        have hxl := crcB_lt Bv k
        refine lv_aload_n hx hb dX11_sayChecked_33 rfl (lv_at hl 0 rfl) ?_
        refine lv_iload_n hx hb dX11_sayChecked_34 rfl (lv_at hl 1 rfl) ?_
        refine lv_sipush (v := nI 256) hx hb dX11_sayChecked_35 (by decide) ?_
        refine lv_irem hx hb dX11_sayChecked_38 (nI_ne0 (by omega) (by omega)) ?_
        refine hp_eqi (z := nI ((crcB Bv k) % 256)) (pk_rem (by omega) (by omega) (by omega)) ?_
        refine hp_kvm (hp_runV (As := [.int (nI ((crcB Bv k) % 256))]) (rest := []) hx hb hml hown hS hH (c_X11_say l X (Nat.mod_lt _ (by decide)) (by omega) f_o f_11) M_X11_113 I_X11_say V_X11_say (ci := 7) rfl rfl f_o rfl hl.1 rfl (Nat.le_of_ble_eq_true rfl) dX11_sayChecked_39 ⟨Nat.le_of_ble_eq_true rfl, Nat.le_of_ble_eq_true rfl⟩ ⟨Nat.le_of_ble_eq_true rfl, Nat.le_of_ble_eq_true rfl⟩) hH (fun μ1 H locs hp hH => ?_)
        obtain ⟨fz0, fz1, fe⟩ := hp
        have f_o : μ1 o = some (hp_o 7 [.int (nI n), .ref (o + 1), .ref (o + 2), .ref (o + 3), .ref (o + 4), .ref (o + 5), .ref (o + 6), .int (nB on), .int (nI tz), .ref (o + 7), .int (nI se), .ref (o + 8), .ref (o + 9), .int (nI kd), .int (nI kl), .int (nI tc), .ref (o + 10), .int (nI (9 * k + 9)), .ref (o + 11), .int (nI hd), .ref (o + 12), .int (nI an), .ref (o + 13), .int (nI fm), .int (nI fo), .ref (o + 14), .ref (o + 15), .int (nI kc), .ref (o + 16)]) := fz0
        have f_11 : μ1 (o + 11) = some (hp_n X 64 (apO J (9 * k) (crcB Bv k % 256))) := fz1
        have fr := hp_eqM.tr fe fr (by decide)
        clear fe fz0 fz1
        refine lv_aload_n hx hb dX11_sayChecked_42 rfl (lv_at hl 0 rfl) ?_
        refine lv_iload_n hx hb dX11_sayChecked_43 rfl (lv_at hl 1 rfl) ?_
        refine lv_sipush (v := nI 256) hx hb dX11_sayChecked_44 (by decide) ?_
        refine lv_idiv hx hb dX11_sayChecked_47 (nI_ne0 (by omega) (by omega)) ?_
        refine hp_eqi (z := nI ((crcB Bv k) / 256)) (pk_div (by omega) (by omega) (by omega)) ?_
        refine hp_kvm (hp_runV (As := [.int (nI ((crcB Bv k) / 256))]) (rest := []) hx hb hml hown hS hH (c_X11_say l X (by omega) (by omega) f_o f_11) M_X11_113 I_X11_say V_X11_say (ci := 7) rfl rfl f_o rfl hl.1 rfl (Nat.le_of_ble_eq_true rfl) dX11_sayChecked_48 ⟨Nat.le_of_ble_eq_true rfl, Nat.le_of_ble_eq_true rfl⟩ ⟨Nat.le_of_ble_eq_true rfl, Nat.le_of_ble_eq_true rfl⟩) hH (fun μ1 H locs hp hH => ?_)
        obtain ⟨fz0, fz1, fe⟩ := hp
        have f_o : μ1 o = some (hp_o 7 [.int (nI n), .ref (o + 1), .ref (o + 2), .ref (o + 3), .ref (o + 4), .ref (o + 5), .ref (o + 6), .int (nB on), .int (nI tz), .ref (o + 7), .int (nI se), .ref (o + 8), .ref (o + 9), .int (nI kd), .int (nI kl), .int (nI tc), .ref (o + 10), .int (nI (9 * k + 9 + 9)), .ref (o + 11), .int (nI hd), .ref (o + 12), .int (nI an), .ref (o + 13), .int (nI fm), .int (nI fo), .ref (o + 14), .ref (o + 15), .int (nI kc), .ref (o + 16)]) := fz0
        have f_11 : μ1 (o + 11) = some (hp_n X 64 (apO (apO J (9 * k) (crcB Bv k % 256)) (9 * k + 9) (crcB Bv k / 256))) := fz1
        have fr := hp_eqM.tr fe fr (by decide)
        clear fe fz0 fz1
        exact hp_rv hx hb hr hlocks hS hH (⟨rfl, f_o, f_11, fr⟩) dX11_sayChecked_51
      · have c_11 : ¬ ((9 * k) ≤ (9 * i)) := fun z => c_11 ((nI_leI (by omega) (by omega)).mpr z)
        refine lv_iload_n hx hb dX11_sayChecked_14 rfl (lv_at hl 1 rfl) ?_
        refine lv_aload_n hx hb dX11_sayChecked_15 rfl (lv_at hl 0 rfl) ?_
        refine hp_get hx hb hown hS.2.1 hH (F_X11_45.use hS) f_o rfl dX11_sayChecked_16 ?_
        refine lv_iload_n hx hb dX11_sayChecked_19 rfl (lv_at hl 2 rfl) ?_
        have hob := oct_byte hJ (i := i) (by omega)
        refine hp_kip (hp_runS (As := [.ref (o + 11), .int (nI (9 * i))]) (rest := [.int (nI (crcB Bv i))]) hx hb hml hown hS hH (c_X11_read_ok l X (fun j _ => h01 _) (by omega) (by decide) hob.2 f_11) M_X11_90 S_X11_read rfl hl.1 rfl (Nat.le_of_ble_eq_true rfl) dX11_sayChecked_20 ⟨Nat.le_of_ble_eq_true rfl, Nat.le_of_ble_eq_true rfl⟩ ⟨Nat.le_of_ble_eq_true rfl, Nat.le_of_ble_eq_true rfl⟩) hH (fun H locs hH => ?_)
        refine hp_eqi (z := nI (Bv / 2 ^ (8 * i) % 256)) (congrArg nI hob.1) ?_
        refine hp_kip (hp_runS (As := [.int (nI (crcB Bv i)), .int (nI (Bv / 2 ^ (8 * i) % 256))]) (rest := []) hx hb hml hown hS hH (c_X11_checked l X (crcB_lt _ _) (Nat.mod_lt _ (by decide))) M_X11_94 S_X11_checked rfl hl.1 rfl (Nat.le_of_ble_eq_true rfl) dX11_sayChecked_23 ⟨Nat.le_of_ble_eq_true rfl, Nat.le_of_ble_eq_true rfl⟩ ⟨Nat.le_of_ble_eq_true rfl, Nat.le_of_ble_eq_true rfl⟩) hH (fun H locs hH => ?_)
        refine lv_istore_n (lv' := [(2, .int (nI (crcB Bv (i + 1)))), (0, .ref o), (3, .int (nI (9 * i)))]) hx hb dX11_sayChecked_26 rfl hl (by decide) rfl (fun ls hl => ?_)
        refine lv_iinc (v := nI (9 * i + 9)) (lv' := [(3, .int (nI (9 * i + 9))), (2, .int (nI (crcB Bv (i + 1)))), (0, .ref o)]) hx hb dX11_sayChecked_27 hl (k := 2) rfl (nI_add _ 9) (by decide) rfl (fun ls hl => ?_)
        refine lv_goto (tgt := 6) hx hb dX11_sayChecked_30 (by decide) ?_
        exact ih (i + 1) (by omega) (by omega) _ _ _  hH (lv_sub hl [2, 1, 0] rfl)
  exact lp_6 ((k - 0) + 1) 0 (Nat.zero_le _) (Nat.lt_succ_self _) _ _ _  hH (lv_sub hl [2, 1, 0] rfl)

set_option maxHeartbeats 4000000 in
set_option maxRecDepth 100000 in
theorem c_X11_putChecked (l : Launch) (X : hp_X) {μ : hp_M} {nx : Nat} {o n tz kd kl tc sd hd an fm fo kc : Nat} {on : Bool} {sb : Nat → Nat} {k : Nat} (h01 : ∀ j, sb j < 2) (hk : k ≤ 10) (hg : begN sb (9 * k) k = true) (f_o : μ o = some (hp_o 7 [.int (nI n), .ref (o + 1), .ref (o + 2), .ref (o + 3), .ref (o + 4), .ref (o + 5), .ref (o + 6), .int (nB on), .int (nI tz), .ref (o + 7), .int (nI (9 * k)), .ref (o + 8), .ref (o + 9), .int (nI kd), .int (nI kl), .int (nI tc), .ref (o + 10), .int (nI sd), .ref (o + 11), .int (nI hd), .ref (o + 12), .int (nI an), .ref (o + 13), .int (nI fm), .int (nI fo), .ref (o + 14), .ref (o + 15), .int (nI kc), .ref (o + 16)])) (f_8 : μ (o + 8) = some (hp_n X 160 sb)) : Ct l X yX11_putChecked cX11_putChecked 3 (none : Option Jvm.ClassFile.FieldType) 2 80 0 0 [.ref o] μ nx (hq_v X (po_v nx (fun z => z o = some (hp_o 7 [.int (nI n), .ref (o + 1), .ref (o + 2), .ref (o + 3), .ref (o + 4), .ref (o + 5), .ref (o + 6), .int (nB on), .int (nI tz), .ref (o + 7), .int (nI (9 * k + 9 + 9)), .ref (o + 8), .ref (o + 9), .int (nI kd), .int (nI kl), .int (nI tc), .ref (o + 10), .int (nI sd), .ref (o + 11), .int (nI hd), .ref (o + 12), .int (nI an), .ref (o + 13), .int (nI fm), .int (nI fo), .ref (o + 14), .ref (o + 15), .int (nI kc), .ref (o + 16)]) ∧ z (o + 8) = some (hp_n X 160 (laX sb (9 * k))) ∧ hp_eqM [0, 8] o z μ))) := by
  refine hp_met (by decide) (Nat.le_of_ble_eq_true rfl) ?_
  intro p e s m below meth c ls hx hb hml hr hlocks hown hin hS hH hl
  have hl : lv_has ls 3 [(0, .ref o)] := hl
  have fr : hp_eqM [0, 8] o μ μ := fun _ _ => rfl
  refine lv_sipush (v := nI 25443) hx hb dX11_putChecked_0 (by decide) ?_
  refine lv_istore_n (lv' := [(1, .int (nI 25443)), (0, .ref o)]) hx hb dX11_putChecked_3 rfl hl (by decide) rfl (fun ls hl => ?_)
  refine lv_iconst (v := nI 0) hx hb dX11_putChecked_4 (by decide) ?_
  refine lv_istore_n (lv' := [(2, .int (nI 0)), (1, .int (nI 25443)), (0, .ref o)]) hx hb dX11_putChecked_5 rfl hl (by decide) rfl (fun ls hl => ?_)
  have lp_6 : ∀ (kk : Nat) (i : Nat), (i ≤ k) → (k - i) < kk → ∀ (H : Heap) (locs : List Loc) (ls : Array Slot), hp_w X cls μ nx H locs → lv_has ls 3 [(0, .ref o), (1, .int (nI (crcN sb (9 * k) i))), (2, .int (nI (9 * i)))] → W p l e { frames := 2, cells := 0, slots := 0, locals := 80 } s m [.ref o].toArray below meth c H locs 0 0 (MQ below (hq_v X (po_v nx (fun z => z o = some (hp_o 7 [.int (nI n), .ref (o + 1), .ref (o + 2), .ref (o + 3), .ref (o + 4), .ref (o + 5), .ref (o + 6), .int (nB on), .int (nI tz), .ref (o + 7), .int (nI (9 * k + 9 + 9)), .ref (o + 8), .ref (o + 9), .int (nI kd), .int (nI kl), .int (nI tc), .ref (o + 10), .int (nI sd), .ref (o + 11), .int (nI hd), .ref (o + 12), .int (nI an), .ref (o + 13), .int (nI fm), .int (nI fo), .ref (o + 14), .ref (o + 15), .int (nI kc), .ref (o + 16)]) ∧ z (o + 8) = some (hp_n X 160 (laX sb (9 * k))) ∧ hp_eqM [0, 8] o z μ))) [.ref o].toArray s 0 0 (hp_A X)) (F0 m 6 ls []) := by
    intro kk
    induction kk with
    | zero =>
      intro i hi hkk
      exact absurd hkk (Nat.not_lt_zero _)
    | succ kk ih =>
      intro i hi hkk H locs ls  hH hl
      refine lv_iload_n hx hb dX11_putChecked_6 rfl (lv_at hl 2 rfl) ?_
      refine lv_aload_n hx hb dX11_putChecked_7 rfl (lv_at hl 0 rfl) ?_
      refine hp_get hx hb hown hS.2.1 hH (F_X11_104.use hS) f_o rfl dX11_putChecked_8 ?_
      refine lv_icmp_ge (tgt := 33) hx hb dX11_putChecked_11 (by decide) (fun c_11 => ?_) (fun c_11 => ?_)
      · have c_11 : (9 * k) ≤ (9 * i) := (nI_leI (by omega) (by omega)).mp c_11
        have ei : i = 9 * k / 9 := by omega
        subst ei
        have hxl := crcN_lt sb (9 * k) (9 * k / 9)
        refine lv_aload_n hx hb dX11_putChecked_33 rfl (lv_at hl 0 rfl) ?_
        refine lv_iload_n hx hb dX11_putChecked_34 rfl (lv_at hl 1 rfl) ?_
        refine lv_sipush (v := nI 256) hx hb dX11_putChecked_35 (by decide) ?_
        refine lv_irem hx hb dX11_putChecked_38 (nI_ne0 (by omega) (by omega)) ?_
        refine hp_eqi (z := nI ((crcN sb (9 * k) (9 * k / 9)) % 256)) (pk_rem (by omega) (by omega) (by omega)) ?_
        refine hp_kvm (hp_runV (As := [.int (nI ((crcN sb (9 * k) (9 * k / 9)) % 256))]) (rest := []) hx hb hml hown hS hH (c_X11_put l X (Nat.mod_lt _ (by decide)) (by omega) f_o f_8) M_X11_154 I_X11_put V_X11_put (ci := 7) rfl rfl f_o rfl hl.1 rfl (Nat.le_of_ble_eq_true rfl) dX11_putChecked_39 ⟨Nat.le_of_ble_eq_true rfl, Nat.le_of_ble_eq_true rfl⟩ ⟨Nat.le_of_ble_eq_true rfl, Nat.le_of_ble_eq_true rfl⟩) hH (fun μ1 H locs hp hH => ?_)
        obtain ⟨fz0, fz1, fe⟩ := hp
        have f_o : μ1 o = some (hp_o 7 [.int (nI n), .ref (o + 1), .ref (o + 2), .ref (o + 3), .ref (o + 4), .ref (o + 5), .ref (o + 6), .int (nB on), .int (nI tz), .ref (o + 7), .int (nI (9 * k + 9)), .ref (o + 8), .ref (o + 9), .int (nI kd), .int (nI kl), .int (nI tc), .ref (o + 10), .int (nI sd), .ref (o + 11), .int (nI hd), .ref (o + 12), .int (nI an), .ref (o + 13), .int (nI fm), .int (nI fo), .ref (o + 14), .ref (o + 15), .int (nI kc), .ref (o + 16)]) := fz0
        have f_8 : μ1 (o + 8) = some (hp_n X 160 (apO sb (9 * k) (crcN sb (9 * k) (9 * k / 9) % 256))) := fz1
        have fr := hp_eqM.tr fe fr (by decide)
        clear fe fz0 fz1
        refine lv_aload_n hx hb dX11_putChecked_42 rfl (lv_at hl 0 rfl) ?_
        refine lv_iload_n hx hb dX11_putChecked_43 rfl (lv_at hl 1 rfl) ?_
        refine lv_sipush (v := nI 256) hx hb dX11_putChecked_44 (by decide) ?_
        refine lv_idiv hx hb dX11_putChecked_47 (nI_ne0 (by omega) (by omega)) ?_
        refine hp_eqi (z := nI ((crcN sb (9 * k) (9 * k / 9)) / 256)) (pk_div (by omega) (by omega) (by omega)) ?_
        refine hp_kvm (hp_runV (As := [.int (nI ((crcN sb (9 * k) (9 * k / 9)) / 256))]) (rest := []) hx hb hml hown hS hH (c_X11_put l X (by omega) (by omega) f_o f_8) M_X11_154 I_X11_put V_X11_put (ci := 7) rfl rfl f_o rfl hl.1 rfl (Nat.le_of_ble_eq_true rfl) dX11_putChecked_48 ⟨Nat.le_of_ble_eq_true rfl, Nat.le_of_ble_eq_true rfl⟩ ⟨Nat.le_of_ble_eq_true rfl, Nat.le_of_ble_eq_true rfl⟩) hH (fun μ1 H locs hp hH => ?_)
        obtain ⟨fz0, fz1, fe⟩ := hp
        have f_o : μ1 o = some (hp_o 7 [.int (nI n), .ref (o + 1), .ref (o + 2), .ref (o + 3), .ref (o + 4), .ref (o + 5), .ref (o + 6), .int (nB on), .int (nI tz), .ref (o + 7), .int (nI (9 * k + 9 + 9)), .ref (o + 8), .ref (o + 9), .int (nI kd), .int (nI kl), .int (nI tc), .ref (o + 10), .int (nI sd), .ref (o + 11), .int (nI hd), .ref (o + 12), .int (nI an), .ref (o + 13), .int (nI fm), .int (nI fo), .ref (o + 14), .ref (o + 15), .int (nI kc), .ref (o + 16)]) := fz0
        have f_8 : μ1 (o + 8) = some (hp_n X 160 (laX sb (9 * k))) := fz1
        have fr := hp_eqM.tr fe fr (by decide)
        clear fe fz0 fz1
        exact hp_rv hx hb hr hlocks hS hH (⟨rfl, f_o, f_8, fr⟩) dX11_putChecked_51
      · have c_11 : ¬ ((9 * k) ≤ (9 * i)) := fun z => c_11 ((nI_leI (by omega) (by omega)).mpr z)
        refine lv_iload_n hx hb dX11_putChecked_14 rfl (lv_at hl 1 rfl) ?_
        refine lv_aload_n hx hb dX11_putChecked_15 rfl (lv_at hl 0 rfl) ?_
        refine hp_get hx hb hown hS.2.1 hH (F_X11_36.use hS) f_o rfl dX11_putChecked_16 ?_
        refine lv_iload_n hx hb dX11_putChecked_19 rfl (lv_at hl 2 rfl) ?_
        have hv8 : vaN sb (9 * i) 8 < 256 := vaN_lt (n := 8) (fun j _ => h01 _)
        refine hp_kip (hp_runS (As := [.ref (o + 8), .int (nI (9 * i))]) (rest := [.int (nI (crcN sb (9 * k) i))]) hx hb hml hown hS hH (c_X11_read_ok l X (fun j _ => h01 _) (by omega) (by decide) (begN_at h01 (Nat.le_refl _) hg (by omega)) f_8) M_X11_90 S_X11_read rfl hl.1 rfl (Nat.le_of_ble_eq_true rfl) dX11_putChecked_20 ⟨Nat.le_of_ble_eq_true rfl, Nat.le_of_ble_eq_true rfl⟩ ⟨Nat.le_of_ble_eq_true rfl, Nat.le_of_ble_eq_true rfl⟩) hH (fun H locs hH => ?_)
        refine hp_kip (hp_runS (As := [.int (nI (crcN sb (9 * k) i)), .int (nI (vaN sb (9 * i) 8))]) (rest := []) hx hb hml hown hS hH (c_X11_checked l X (crcN_lt _ _ _) hv8) M_X11_94 S_X11_checked rfl hl.1 rfl (Nat.le_of_ble_eq_true rfl) dX11_putChecked_23 ⟨Nat.le_of_ble_eq_true rfl, Nat.le_of_ble_eq_true rfl⟩ ⟨Nat.le_of_ble_eq_true rfl, Nat.le_of_ble_eq_true rfl⟩) hH (fun H locs hH => ?_)
        refine hp_eqi (z := nI (crcN sb (9 * k) (i + 1))) (by rw [crcN, valN_va 8 (by omega)]) ?_
        refine lv_istore_n (lv' := [(1, .int (nI (crcN sb (9 * k) (i + 1)))), (0, .ref o), (2, .int (nI (9 * i)))]) hx hb dX11_putChecked_26 rfl hl (by decide) rfl (fun ls hl => ?_)
        refine lv_iinc (v := nI (9 * i + 9)) (lv' := [(2, .int (nI (9 * i + 9))), (1, .int (nI (crcN sb (9 * k) (i + 1)))), (0, .ref o)]) hx hb dX11_putChecked_27 hl (k := 2) rfl (nI_add _ 9) (by decide) rfl (fun ls hl => ?_)
        refine lv_goto (tgt := 6) hx hb dX11_putChecked_30 (by decide) ?_
        exact ih (i + 1) (by omega) (by omega) _ _ _  hH (lv_sub hl [2, 1, 0] rfl)
  exact lp_6 ((k - 0) + 1) 0 (Nat.zero_le _) (Nat.lt_succ_self _) _ _ _  hH (lv_sub hl [2, 1, 0] rfl)

set_option maxHeartbeats 4000000 in
set_option maxRecDepth 100000 in
theorem c_X11_shows (l : Launch) (X : hp_X) {μ : hp_M} {nx : Nat} {o n tz se kd kl tc sd hd an fm fo kc : Nat} {on : Bool} {t sl td : Nat} {L sh2 D : Nat → Nat} (ht : t < 17) (hL1 : 1 ≤ L t) (hL3 : L t ≤ 3) (htc : tc ≤ 40) (hsh : ∀ k, k < 40 → sh2 (120 * t + 40 * (L t - 1) + k) = sl / 2 ^ k % 2) (hD : ∀ k, k < tc → D k = td / 2 ^ k % 2) (f_o : μ o = some (hp_o 7 [.int (nI n), .ref (o + 1), .ref (o + 2), .ref (o + 3), .ref (o + 4), .ref (o + 5), .ref (o + 6), .int (nB on), .int (nI tz), .ref (o + 7), .int (nI se), .ref (o + 8), .ref (o + 9), .int (nI kd), .int (nI kl), .int (nI tc), .ref (o + 10), .int (nI sd), .ref (o + 11), .int (nI hd), .ref (o + 12), .int (nI an), .ref (o + 13), .int (nI fm), .int (nI fo), .ref (o + 14), .ref (o + 15), .int (nI kc), .ref (o + 16)])) (f_5 : μ (o + 5) = some (hp_n X 17 L)) (f_6 : μ (o + 6) = some (hp_n X 2040 sh2)) (f_10 : μ (o + 10) = some (hp_n X 48 D)) : Ct l X yX11_shows cX11_shows 4 (some FieldType.boolean) 0 0 0 0 [.ref o, .int (nI t)] μ nx (hq_i X (po_i nx (nB (mtN sl td tc)) (fun z => z = μ))) := by
  refine hp_met (by decide) (Nat.le_of_ble_eq_true rfl) ?_
  intro p e s m below meth c ls hx hb hml hr hlocks hown hin hS hH hl
  have hl : lv_has ls 4 [(0, .ref o), (1, .int (nI t))] := hl
  refine lv_bipush (v := nI 120) hx hb dX11_shows_0 (by decide) ?_
  refine lv_iload_n hx hb dX11_shows_2 rfl (lv_at hl 1 rfl) ?_
  refine lv_imul hx hb dX11_shows_3 ?_
  refine hp_eqi (z := nI (120 * t)) (pk_mul _ _) ?_
  refine lv_bipush (v := nI 40) hx hb dX11_shows_4 (by decide) ?_
  refine lv_aload_n hx hb dX11_shows_6 rfl (lv_at hl 0 rfl) ?_
  refine hp_get hx hb hown hS.2.1 hH (F_X11_23.use hS) f_o rfl dX11_shows_7 ?_
  refine lv_iload_n hx hb dX11_shows_10 rfl (lv_at hl 1 rfl) ?_
  refine hp_ialdN hx hb hS.ai hH f_5 (by omega) (by omega) dX11_shows_11 ?_
  refine lv_iconst (v := nI 1) hx hb dX11_shows_12 (by decide) ?_
  refine lv_isub hx hb dX11_shows_13 ?_
  refine hp_eqi (z := nI ((L t) - 1)) (pk_sub (by omega)) ?_
  refine lv_imul hx hb dX11_shows_14 ?_
  refine hp_eqi (z := nI (40 * ((L t) - 1))) (pk_mul _ _) ?_
  refine lv_iadd hx hb dX11_shows_15 ?_
  refine hp_eqi (z := nI ((120 * t) + (40 * ((L t) - 1)))) (nI_add _ _) ?_
  refine lv_istore_n (lv' := [(2, .int (nI ((120 * t) + (40 * ((L t) - 1))))), (0, .ref o), (1, .int (nI t))]) hx hb dX11_shows_16 rfl hl (by decide) rfl (fun ls hl => ?_)
  refine lv_iconst (v := nI 0) hx hb dX11_shows_17 (by decide) ?_
  refine lv_istore_n (lv' := [(3, .int (nI 0)), (2, .int (nI ((120 * t) + (40 * ((L t) - 1))))), (0, .ref o), (1, .int (nI t))]) hx hb dX11_shows_18 rfl hl (by decide) rfl (fun ls hl => ?_)
  have lp_19 : ∀ (kk : Nat) (k : Nat), (k ≤ tc) → (∀ j, j < k → sl / 2 ^ j % 2 = td / 2 ^ j % 2) → (tc - k) < kk → ∀ (H : Heap) (locs : List Loc) (ls : Array Slot), hp_w X cls μ nx H locs → lv_has ls 4 [(0, .ref o), (1, .int (nI t)), (2, .int (nI (120 * t + 40 * (L t - 1)))), (3, .int (nI k))] → W p l e { frames := 0, cells := 0, slots := 0, locals := 0 } s m [.ref o, .int (nI t)].toArray below meth c H locs 0 0 (MQ below (hq_i X (po_i nx (nB (mtN sl td tc)) (fun z => z = μ))) [.ref o, .int (nI t)].toArray s 0 0 (hp_A X)) (F0 m 19 ls []) := by
    intro kk
    induction kk with
    | zero =>
      intro k hk hall hkk
      exact absurd hkk (Nat.not_lt_zero _)
    | succ kk ih =>
      intro k hk hall hkk H locs ls  hH hl
      refine lv_iload_n hx hb dX11_shows_19 rfl (lv_at hl 3 rfl) ?_
      refine lv_aload_n hx hb dX11_shows_20 rfl (lv_at hl 0 rfl) ?_
      refine hp_get hx hb hown hS.2.1 hH (F_X11_101.use hS) f_o rfl dX11_shows_21 ?_
      refine lv_icmp_ge (tgt := 52) hx hb dX11_shows_24 (by decide) (fun c_24 => ?_) (fun c_24 => ?_)
      · have c_24 : tc ≤ k := (nI_leI (by omega) (by omega)).mp c_24
        refine lv_iconst (v := nI 1) hx hb dX11_shows_52 (by decide) ?_
        refine hp_eqi (z := nB true) (by decide) ?_
        exact hp_rz hx hb hr hlocks hS hH (nB_nar _) (⟨rfl, congrArg nB (Eq.symm (mtN_bits.mpr (fun j hj => hall j (by omega)))), rfl⟩) dX11_shows_53
      · have c_24 : ¬ (tc ≤ k) := fun z => c_24 ((nI_leI (by omega) (by omega)).mpr z)
        refine lv_aload_n hx hb dX11_shows_27 rfl (lv_at hl 0 rfl) ?_
        refine hp_get hx hb hown hS.2.1 hH (F_X11_26.use hS) f_o rfl dX11_shows_28 ?_
        refine lv_iload_n hx hb dX11_shows_31 rfl (lv_at hl 2 rfl) ?_
        refine lv_iload_n hx hb dX11_shows_32 rfl (lv_at hl 3 rfl) ?_
        refine lv_iadd hx hb dX11_shows_33 ?_
        refine hp_eqi (z := nI ((120 * t + 40 * (L t - 1)) + k)) (nI_add _ _) ?_
        refine hp_ialdN hx hb hS.ai hH f_6 (by omega) (by omega) dX11_shows_34 ?_
        refine hp_eqi (z := nI (sl / 2 ^ k % 2)) (congrArg nI (hsh k (by omega))) ?_
        refine lv_aload_n hx hb dX11_shows_35 rfl (lv_at hl 0 rfl) ?_
        refine hp_get hx hb hown hS.2.1 hH (F_X11_42.use hS) f_o rfl dX11_shows_36 ?_
        refine lv_iload_n hx hb dX11_shows_39 rfl (lv_at hl 3 rfl) ?_
        refine hp_ialdN hx hb hS.ai hH f_10 (by omega) (by omega) dX11_shows_40 ?_
        refine hp_eqi (z := nI (td / 2 ^ k % 2)) (congrArg nI (hD k (by omega))) ?_
        refine lv_icmp_eq (tgt := 46) hx hb dX11_shows_41 (by decide) (fun c_41 => ?_) (fun c_41 => ?_)
        · have c_41 : (sl / 2 ^ k % 2) = (td / 2 ^ k % 2) := (nI_eq (by omega) (by omega)).mp c_41
          refine lv_iinc (v := nI (k + 1)) (lv' := [(3, .int (nI (k + 1))), (0, .ref o), (1, .int (nI t)), (2, .int (nI (120 * t + 40 * (L t - 1))))]) hx hb dX11_shows_46 hl (k := 3) rfl (nI_add _ 1) (by decide) rfl (fun ls hl => ?_)
          refine lv_goto (tgt := 19) hx hb dX11_shows_49 (by decide) ?_
          exact ih (k + 1) (by omega) (fun j hj => (Nat.lt_succ_iff_lt_or_eq.mp hj).elim (hall j) (fun h => h ▸ c_41)) (by omega) _ _ _  hH (lv_sub hl [1, 2, 3, 0] rfl)
        · have c_41 : ¬ ((sl / 2 ^ k % 2) = (td / 2 ^ k % 2)) := fun z => c_41 ((nI_eq (by omega) (by omega)).mpr z)
          refine lv_iconst (v := nI 0) hx hb dX11_shows_44 (by decide) ?_
          refine hp_eqi (z := nB false) (by decide) ?_
          exact hp_rz hx hb hr hlocks hS hH (nB_nar _) (⟨rfl, congrArg nB (Eq.symm (by cases hm : mtN sl td tc with | false => rfl | true => exact absurd (mtN_bits.mp hm k (by omega)) c_41)), rfl⟩) dX11_shows_45
  exact lp_19 ((tc - 0) + 1) 0 (Nat.zero_le _) (fun j hj => absurd hj (Nat.not_lt_zero _)) (Nat.lt_succ_self _) _ _ _  hH (lv_sub hl [2, 3, 1, 0] rfl)

set_option maxHeartbeats 4000000 in
set_option maxRecDepth 100000 in
theorem c_X11_begin (l : Launch) (X : hp_X) {μ : hp_M} {nx : Nat} {o n tz se kd kl tc hd an fm fo kc : Nat} {on : Bool} {t as lv : Nat} {Z S L J : Nat → Nat} (ht : t < 17) (hz : Z t = 3 * lv + 1) (hl1 : 1 ≤ lv) (hl3 : lv ≤ 3) (f_o : μ o = some (hp_o 7 [.int (nI n), .ref (o + 1), .ref (o + 2), .ref (o + 3), .ref (o + 4), .ref (o + 5), .ref (o + 6), .int (nB on), .int (nI tz), .ref (o + 7), .int (nI se), .ref (o + 8), .ref (o + 9), .int (nI kd), .int (nI kl), .int (nI tc), .ref (o + 10), .int (nI 0), .ref (o + 11), .int (nI hd), .ref (o + 12), .int (nI an), .ref (o + 13), .int (nI fm), .int (nI fo), .ref (o + 14), .ref (o + 15), .int (nI kc), .ref (o + 16)])) (f_1 : μ (o + 1) = some (hp_n X 17 Z)) (f_4 : μ (o + 4) = some (hp_n X 17 S)) (f_5 : μ (o + 5) = some (hp_n X 17 L)) (f_11 : μ (o + 11) = some (hp_n X 64 J)) : Ct l X yX11_begin cX11_begin 3 (none : Option Jvm.ClassFile.FieldType) 2 80 0 0 [.ref o, .int (nI t), .int (nI as)] μ nx (hq_v X (po_v nx (fun z => z o = some (hp_o 7 [.int (nI n), .ref (o + 1), .ref (o + 2), .ref (o + 3), .ref (o + 4), .ref (o + 5), .ref (o + 6), .int (nB on), .int (nI tz), .ref (o + 7), .int (nI se), .ref (o + 8), .ref (o + 9), .int (nI kd), .int (nI kl), .int (nI tc), .ref (o + 10), .int (nI 18), .ref (o + 11), .int (nI hd), .ref (o + 12), .int (nI an), .ref (o + 13), .int (nI fm), .int (nI fo), .ref (o + 14), .ref (o + 15), .int (nI kc), .ref (o + 16)]) ∧ z (o + 4) = some (hp_n X 17 (setN S t as)) ∧ z (o + 5) = some (hp_n X 17 (setN L t 1)) ∧ z (o + 11) = some (hp_n X 64 (apO (apO J 0 (4 + 64 * (lv - 1))) 9 0)) ∧ hp_eqM [0, 4, 5, 11] o z μ))) := by
  refine hp_met (by decide) (Nat.le_of_ble_eq_true rfl) ?_
  intro p e s m below meth c ls hx hb hml hr hlocks hown hin hS hH hl
  have hl : lv_has ls 3 [(0, .ref o), (1, .int (nI t)), (2, .int (nI as))] := hl
  have fr : hp_eqM [0, 4, 5, 11] o μ μ := fun _ _ => rfl
  refine lv_aload_n hx hb dX11_begin_0 rfl (lv_at hl 0 rfl) ?_
  refine hp_get hx hb hown hS.2.1 hH (F_X11_20.use hS) f_o rfl dX11_begin_1 ?_
  refine lv_iload_n hx hb dX11_begin_4 rfl (lv_at hl 1 rfl) ?_
  refine lv_iload_n hx hb dX11_begin_5 rfl (lv_at hl 2 rfl) ?_
  refine hp_iastN hx hb hS.ai hH f_4 (by omega) (by omega) dX11_begin_6 (fun H locs μ1 fz fn hH => ?_)
  have f_o := (fn _ (by omega)).trans f_o
  have f_1 := (fn _ (by omega)).trans f_1
  have f_5 := (fn _ (by omega)).trans f_5
  have f_11 := (fn _ (by omega)).trans f_11
  have f_4 : μ1 (o + 4) = some (hp_n X 17 (setN S t as)) := fz
  have fr := hp_eqM.put (k := 4) fr (by decide) fn
  clear fz fn
  refine lv_aload_n hx hb dX11_begin_7 rfl (lv_at hl 0 rfl) ?_
  refine hp_get hx hb hown hS.2.1 hH (F_X11_23.use hS) f_o rfl dX11_begin_8 ?_
  refine lv_iload_n hx hb dX11_begin_11 rfl (lv_at hl 1 rfl) ?_
  refine lv_iconst (v := nI 1) hx hb dX11_begin_12 (by decide) ?_
  refine hp_iastN hx hb hS.ai hH f_5 (by omega) (by omega) dX11_begin_13 (fun H locs μ1 fz fn hH => ?_)
  have f_o := (fn _ (by omega)).trans f_o
  have f_1 := (fn _ (by omega)).trans f_1
  have f_4 := (fn _ (by omega)).trans f_4
  have f_11 := (fn _ (by omega)).trans f_11
  have f_5 : μ1 (o + 5) = some (hp_n X 17 (setN L t 1)) := fz
  have fr := hp_eqM.put (k := 5) fr (by decide) fn
  clear fz fn
  refine lv_aload_n hx hb dX11_begin_14 rfl (lv_at hl 0 rfl) ?_
  refine lv_aload_n hx hb dX11_begin_15 rfl (lv_at hl 0 rfl) ?_
  refine hp_get hx hb hown hS.2.1 hH (F_X11_7.use hS) f_o rfl dX11_begin_16 ?_
  refine lv_iload_n hx hb dX11_begin_19 rfl (lv_at hl 1 rfl) ?_
  refine hp_ialdN hx hb hS.ai hH f_1 (by omega) (by omega) dX11_begin_20 ?_
  refine lv_iconst (v := nI 4) hx hb dX11_begin_21 (by decide) ?_
  refine lv_icmp_ne (tgt := 29) hx hb dX11_begin_22 (by decide) (fun c_22 => ?_) (fun c_22 => ?_)
  · have c_22 : ¬ ((Z t) = 4) := fun z => c_22 ((nI_eq (by omega) (by omega)).mpr z)
    refine lv_aload_n hx hb dX11_begin_29 rfl (lv_at hl 0 rfl) ?_
    refine hp_get hx hb hown hS.2.1 hH (F_X11_7.use hS) f_o rfl dX11_begin_30 ?_
    refine lv_iload_n hx hb dX11_begin_33 rfl (lv_at hl 1 rfl) ?_
    refine hp_ialdN hx hb hS.ai hH f_1 (by omega) (by omega) dX11_begin_34 ?_
    refine lv_bipush (v := nI 7) hx hb dX11_begin_35 (by decide) ?_
    refine lv_icmp_ne (tgt := 45) hx hb dX11_begin_37 (by decide) (fun c_37 => ?_) (fun c_37 => ?_)
    · have c_37 : ¬ ((Z t) = 7) := fun z => c_37 ((nI_eq (by omega) (by omega)).mpr z)
      refine lv_sipush (v := nI 132) hx hb dX11_begin_45 (by decide) ?_
      refine hp_eqi (z := nI (4 + 64 * (lv - 1))) (congrArg nI (show 132 = 4 + 64 * (lv - 1) by omega)) ?_
      refine hp_kvm (hp_runV (As := [.int (nI (4 + 64 * (lv - 1)))]) (rest := []) hx hb hml hown hS hH (c_X11_say l X (v := 4 + 64 * (lv - 1)) (by omega) (by omega) f_o f_11) M_X11_113 I_X11_say V_X11_say (ci := 7) rfl rfl f_o rfl hl.1 rfl (Nat.le_of_ble_eq_true rfl) dX11_begin_48 ⟨Nat.le_of_ble_eq_true rfl, Nat.le_of_ble_eq_true rfl⟩ ⟨Nat.le_of_ble_eq_true rfl, Nat.le_of_ble_eq_true rfl⟩) hH (fun μ1 H locs hp hH => ?_)
      obtain ⟨fz0, fz1, fe⟩ := hp
      have f_1 := (fe.at 1 (by decide)).trans f_1
      have f_4 := (fe.at 4 (by decide)).trans f_4
      have f_5 := (fe.at 5 (by decide)).trans f_5
      have f_o : μ1 o = some (hp_o 7 [.int (nI n), .ref (o + 1), .ref (o + 2), .ref (o + 3), .ref (o + 4), .ref (o + 5), .ref (o + 6), .int (nB on), .int (nI tz), .ref (o + 7), .int (nI se), .ref (o + 8), .ref (o + 9), .int (nI kd), .int (nI kl), .int (nI tc), .ref (o + 10), .int (nI 9), .ref (o + 11), .int (nI hd), .ref (o + 12), .int (nI an), .ref (o + 13), .int (nI fm), .int (nI fo), .ref (o + 14), .ref (o + 15), .int (nI kc), .ref (o + 16)]) := fz0
      have f_11 : μ1 (o + 11) = some (hp_n X 64 (apO J 0 (4 + 64 * (lv - 1)))) := fz1
      have fr := hp_eqM.tr fe fr (by decide)
      clear fe fz0 fz1
      refine lv_aload_n hx hb dX11_begin_51 rfl (lv_at hl 0 rfl) ?_
      refine lv_iconst (v := nI 0) hx hb dX11_begin_52 (by decide) ?_
      refine hp_kvm (hp_runV (As := [.int (nI 0)]) (rest := []) hx hb hml hown hS hH (c_X11_say l X (v := 0) (by omega) (by omega) f_o f_11) M_X11_113 I_X11_say V_X11_say (ci := 7) rfl rfl f_o rfl hl.1 rfl (Nat.le_of_ble_eq_true rfl) dX11_begin_53 ⟨Nat.le_of_ble_eq_true rfl, Nat.le_of_ble_eq_true rfl⟩ ⟨Nat.le_of_ble_eq_true rfl, Nat.le_of_ble_eq_true rfl⟩) hH (fun μ1 H locs hp hH => ?_)
      obtain ⟨fz0, fz1, fe⟩ := hp
      have f_1 := (fe.at 1 (by decide)).trans f_1
      have f_4 := (fe.at 4 (by decide)).trans f_4
      have f_5 := (fe.at 5 (by decide)).trans f_5
      have f_o : μ1 o = some (hp_o 7 [.int (nI n), .ref (o + 1), .ref (o + 2), .ref (o + 3), .ref (o + 4), .ref (o + 5), .ref (o + 6), .int (nB on), .int (nI tz), .ref (o + 7), .int (nI se), .ref (o + 8), .ref (o + 9), .int (nI kd), .int (nI kl), .int (nI tc), .ref (o + 10), .int (nI 18), .ref (o + 11), .int (nI hd), .ref (o + 12), .int (nI an), .ref (o + 13), .int (nI fm), .int (nI fo), .ref (o + 14), .ref (o + 15), .int (nI kc), .ref (o + 16)]) := fz0
      have f_11 : μ1 (o + 11) = some (hp_n X 64 (apO (apO J 0 (4 + 64 * (lv - 1))) 9 0)) := fz1
      have fr := hp_eqM.tr fe fr (by decide)
      clear fe fz0 fz1
      exact hp_rv hx hb hr hlocks hS hH (⟨rfl, f_o, f_4, f_5, f_11, fr⟩) dX11_begin_56
    · have c_37 : (Z t) = 7 := (nI_eq (by omega) (by omega)).mp c_37
      refine lv_bipush (v := nI 68) hx hb dX11_begin_40 (by decide) ?_
      refine lv_goto (tgt := 48) hx hb dX11_begin_42 (by decide) ?_
      refine hp_eqi (z := nI (4 + 64 * (lv - 1))) (congrArg nI (show 68 = 4 + 64 * (lv - 1) by omega)) ?_
      refine hp_kvm (hp_runV (As := [.int (nI (4 + 64 * (lv - 1)))]) (rest := []) hx hb hml hown hS hH (c_X11_say l X (v := 4 + 64 * (lv - 1)) (by omega) (by omega) f_o f_11) M_X11_113 I_X11_say V_X11_say (ci := 7) rfl rfl f_o rfl hl.1 rfl (Nat.le_of_ble_eq_true rfl) dX11_begin_48 ⟨Nat.le_of_ble_eq_true rfl, Nat.le_of_ble_eq_true rfl⟩ ⟨Nat.le_of_ble_eq_true rfl, Nat.le_of_ble_eq_true rfl⟩) hH (fun μ1 H locs hp hH => ?_)
      obtain ⟨fz0, fz1, fe⟩ := hp
      have f_1 := (fe.at 1 (by decide)).trans f_1
      have f_4 := (fe.at 4 (by decide)).trans f_4
      have f_5 := (fe.at 5 (by decide)).trans f_5
      have f_o : μ1 o = some (hp_o 7 [.int (nI n), .ref (o + 1), .ref (o + 2), .ref (o + 3), .ref (o + 4), .ref (o + 5), .ref (o + 6), .int (nB on), .int (nI tz), .ref (o + 7), .int (nI se), .ref (o + 8), .ref (o + 9), .int (nI kd), .int (nI kl), .int (nI tc), .ref (o + 10), .int (nI 9), .ref (o + 11), .int (nI hd), .ref (o + 12), .int (nI an), .ref (o + 13), .int (nI fm), .int (nI fo), .ref (o + 14), .ref (o + 15), .int (nI kc), .ref (o + 16)]) := fz0
      have f_11 : μ1 (o + 11) = some (hp_n X 64 (apO J 0 (4 + 64 * (lv - 1)))) := fz1
      have fr := hp_eqM.tr fe fr (by decide)
      clear fe fz0 fz1
      refine lv_aload_n hx hb dX11_begin_51 rfl (lv_at hl 0 rfl) ?_
      refine lv_iconst (v := nI 0) hx hb dX11_begin_52 (by decide) ?_
      refine hp_kvm (hp_runV (As := [.int (nI 0)]) (rest := []) hx hb hml hown hS hH (c_X11_say l X (v := 0) (by omega) (by omega) f_o f_11) M_X11_113 I_X11_say V_X11_say (ci := 7) rfl rfl f_o rfl hl.1 rfl (Nat.le_of_ble_eq_true rfl) dX11_begin_53 ⟨Nat.le_of_ble_eq_true rfl, Nat.le_of_ble_eq_true rfl⟩ ⟨Nat.le_of_ble_eq_true rfl, Nat.le_of_ble_eq_true rfl⟩) hH (fun μ1 H locs hp hH => ?_)
      obtain ⟨fz0, fz1, fe⟩ := hp
      have f_1 := (fe.at 1 (by decide)).trans f_1
      have f_4 := (fe.at 4 (by decide)).trans f_4
      have f_5 := (fe.at 5 (by decide)).trans f_5
      have f_o : μ1 o = some (hp_o 7 [.int (nI n), .ref (o + 1), .ref (o + 2), .ref (o + 3), .ref (o + 4), .ref (o + 5), .ref (o + 6), .int (nB on), .int (nI tz), .ref (o + 7), .int (nI se), .ref (o + 8), .ref (o + 9), .int (nI kd), .int (nI kl), .int (nI tc), .ref (o + 10), .int (nI 18), .ref (o + 11), .int (nI hd), .ref (o + 12), .int (nI an), .ref (o + 13), .int (nI fm), .int (nI fo), .ref (o + 14), .ref (o + 15), .int (nI kc), .ref (o + 16)]) := fz0
      have f_11 : μ1 (o + 11) = some (hp_n X 64 (apO (apO J 0 (4 + 64 * (lv - 1))) 9 0)) := fz1
      have fr := hp_eqM.tr fe fr (by decide)
      clear fe fz0 fz1
      exact hp_rv hx hb hr hlocks hS hH (⟨rfl, f_o, f_4, f_5, f_11, fr⟩) dX11_begin_56
  · have c_22 : (Z t) = 4 := (nI_eq (by omega) (by omega)).mp c_22
    refine lv_iconst (v := nI 4) hx hb dX11_begin_25 (by decide) ?_
    refine lv_goto (tgt := 48) hx hb dX11_begin_26 (by decide) ?_
    refine hp_eqi (z := nI (4 + 64 * (lv - 1))) (congrArg nI (show 4 = 4 + 64 * (lv - 1) by omega)) ?_
    refine hp_kvm (hp_runV (As := [.int (nI (4 + 64 * (lv - 1)))]) (rest := []) hx hb hml hown hS hH (c_X11_say l X (v := 4 + 64 * (lv - 1)) (by omega) (by omega) f_o f_11) M_X11_113 I_X11_say V_X11_say (ci := 7) rfl rfl f_o rfl hl.1 rfl (Nat.le_of_ble_eq_true rfl) dX11_begin_48 ⟨Nat.le_of_ble_eq_true rfl, Nat.le_of_ble_eq_true rfl⟩ ⟨Nat.le_of_ble_eq_true rfl, Nat.le_of_ble_eq_true rfl⟩) hH (fun μ1 H locs hp hH => ?_)
    obtain ⟨fz0, fz1, fe⟩ := hp
    have f_1 := (fe.at 1 (by decide)).trans f_1
    have f_4 := (fe.at 4 (by decide)).trans f_4
    have f_5 := (fe.at 5 (by decide)).trans f_5
    have f_o : μ1 o = some (hp_o 7 [.int (nI n), .ref (o + 1), .ref (o + 2), .ref (o + 3), .ref (o + 4), .ref (o + 5), .ref (o + 6), .int (nB on), .int (nI tz), .ref (o + 7), .int (nI se), .ref (o + 8), .ref (o + 9), .int (nI kd), .int (nI kl), .int (nI tc), .ref (o + 10), .int (nI 9), .ref (o + 11), .int (nI hd), .ref (o + 12), .int (nI an), .ref (o + 13), .int (nI fm), .int (nI fo), .ref (o + 14), .ref (o + 15), .int (nI kc), .ref (o + 16)]) := fz0
    have f_11 : μ1 (o + 11) = some (hp_n X 64 (apO J 0 (4 + 64 * (lv - 1)))) := fz1
    have fr := hp_eqM.tr fe fr (by decide)
    clear fe fz0 fz1
    refine lv_aload_n hx hb dX11_begin_51 rfl (lv_at hl 0 rfl) ?_
    refine lv_iconst (v := nI 0) hx hb dX11_begin_52 (by decide) ?_
    refine hp_kvm (hp_runV (As := [.int (nI 0)]) (rest := []) hx hb hml hown hS hH (c_X11_say l X (v := 0) (by omega) (by omega) f_o f_11) M_X11_113 I_X11_say V_X11_say (ci := 7) rfl rfl f_o rfl hl.1 rfl (Nat.le_of_ble_eq_true rfl) dX11_begin_53 ⟨Nat.le_of_ble_eq_true rfl, Nat.le_of_ble_eq_true rfl⟩ ⟨Nat.le_of_ble_eq_true rfl, Nat.le_of_ble_eq_true rfl⟩) hH (fun μ1 H locs hp hH => ?_)
    obtain ⟨fz0, fz1, fe⟩ := hp
    have f_1 := (fe.at 1 (by decide)).trans f_1
    have f_4 := (fe.at 4 (by decide)).trans f_4
    have f_5 := (fe.at 5 (by decide)).trans f_5
    have f_o : μ1 o = some (hp_o 7 [.int (nI n), .ref (o + 1), .ref (o + 2), .ref (o + 3), .ref (o + 4), .ref (o + 5), .ref (o + 6), .int (nB on), .int (nI tz), .ref (o + 7), .int (nI se), .ref (o + 8), .ref (o + 9), .int (nI kd), .int (nI kl), .int (nI tc), .ref (o + 10), .int (nI 18), .ref (o + 11), .int (nI hd), .ref (o + 12), .int (nI an), .ref (o + 13), .int (nI fm), .int (nI fo), .ref (o + 14), .ref (o + 15), .int (nI kc), .ref (o + 16)]) := fz0
    have f_11 : μ1 (o + 11) = some (hp_n X 64 (apO (apO J 0 (4 + 64 * (lv - 1))) 9 0)) := fz1
    have fr := hp_eqM.tr fe fr (by decide)
    clear fe fz0 fz1
    exact hp_rv hx hb hr hlocks hS hH (⟨rfl, f_o, f_4, f_5, f_11, fr⟩) dX11_begin_56
