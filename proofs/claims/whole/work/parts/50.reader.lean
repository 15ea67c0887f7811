set_option maxHeartbeats 4000000 in
set_option maxRecDepth 100000 in
theorem c_X6_forget (l : Launch) (X : hp_X) {μ : hp_M} {nx : Nat} {rd r a nb sz cnt kn kc : Nat}  (f_rd : μ rd = some (hp_o 3 [.ref r, .ref a, .ref nb, .ref sz, .int (nI cnt), .long (lN kn), .int (nI kc)])) : Ct l X yX6_forget cX6_forget 1 (none : Option Jvm.ClassFile.FieldType) 0 0 0 0 [.ref rd] μ nx (hq_v X (po_v nx (fun z => z rd = some (hp_o 3 [.ref r, .ref a, .ref nb, .ref sz, .int (nI 0), .long (lN kn), .int (nI kc)]) ∧ hp_eq [rd] z μ))) := by
  refine hp_met (by decide) (Nat.le_of_ble_eq_true rfl) ?_
  intro p e s m below meth c ls hx hb hml hr hlocks hown hin hS hH hl
  have hl : lv_has ls 1 [(0, .ref rd)] := hl
  have fr : hp_eq [rd] μ μ := fun _ _ => rfl
  refine lv_aload_n hx hb dX6_forget_0 rfl (lv_at hl 0 rfl) ?_
  refine lv_iconst (v := nI 0) hx hb dX6_forget_1 (by decide) ?_
  refine hp_put hx hb hown hS.2.1 hH (P_X6_34.use hS) f_rd rfl rfl (Nat.le_of_ble_eq_true rfl) dX6_forget_2 (fun H locs μ1 fz fn hH => ?_)
  have f_rd : μ1 rd = some (hp_o 3 [.ref r, .ref a, .ref nb, .ref sz, .int (nI 0), .long (lN kn), .int (nI kc)]) := fz
  have fr := hp_eq.put fr (by simp) fn
  clear fz fn
  exact hp_rv hx hb hr hlocks hS hH (⟨rfl, f_rd, fr⟩) dX6_forget_5

set_option maxHeartbeats 4000000 in
set_option maxRecDepth 100000 in
theorem c_X6_knownByte (l : Launch) (X : hp_X) {μ : hp_M} {nx : Nat} {rd r a nb sz cnt kn kc : Nat} {i : Nat} (hkn : kn < 2 ^ 64) (hi : i < 8) (f_rd : μ rd = some (hp_o 3 [.ref r, .ref a, .ref nb, .ref sz, .int (nI cnt), .long (lN kn), .int (nI kc)])) : Ct l X yX6_knownByte cX6_knownByte 2 (some FieldType.int) 0 0 0 0 [.ref rd, .int (nI i)] μ nx (hq_i X (po_i nx (nI (kn / 2 ^ (8 * i) % 256)) (fun z => z = μ))) := by
  refine hp_met (by decide) (Nat.le_of_ble_eq_true rfl) ?_
  intro p e s m below meth c ls hx hb hml hr hlocks hown hin hS hH hl
  have hl : lv_has ls 2 [(0, .ref rd), (1, .int (nI i))] := hl
  refine lv_aload_n hx hb dX6_knownByte_0 rfl (lv_at hl 0 rfl) ?_
  refine hp_get hx hb hown hS.2.1 hH (F_X6_69.use hS) f_rd rfl dX6_knownByte_1 ?_
  refine lv_bipush (v := nI 8) hx hb dX6_knownByte_4 (by decide) ?_
  refine lv_iload_n hx hb dX6_knownByte_6 rfl (lv_at hl 1 rfl) ?_
  refine lv_imul hx hb dX6_knownByte_7 ?_
  refine hp_eqi (z := nI (8 * i)) (pk_mul _ _) ?_
  refine lv_lushr hx hb dX6_knownByte_8 rfl ?_
  refine hp_eql (z := lN (kn / 2 ^ (8 * i))) (wb_shr hkn (by omega)) ?_
  refine lv_l2i hx hb dX6_knownByte_9 rfl ?_
  refine lv_sipush (v := nI 255) hx hb dX6_knownByte_10 (by decide) ?_
  refine lv_iand hx hb dX6_knownByte_13 ?_
  refine hp_eqi (z := nI (kn / 2 ^ (8 * i) % 256)) (z_l2i _) ?_
  exact hp_ri hx hb hr hlocks hS hH (⟨rfl, rfl, rfl⟩) dX6_knownByte_14

set_option maxHeartbeats 4000000 in
set_option maxRecDepth 100000 in
theorem c_X6_layOutSearch (l : Launch) (X : hp_X) {μ : hp_M} {nx : Nat} {rd r b a nb sz cnt kn kc size : Nat} {rb : Nat → Nat} {L : Nat} (hkn : kn < 2 ^ 40) (hkc : kc < 40) (hL : L ≤ 3) (f_rd : μ rd = some (hp_o 3 [.ref r, .ref a, .ref nb, .ref sz, .int (nI cnt), .long (lN kn), .int (nI kc)])) (f_r : μ r = some (hp_o 4 [.ref b, .int (nI size)])) (f_b : μ b = some (hp_n X 81 rb)) : Ct l X yX6_layOutSearch cX6_layOutSearch 5 (none : Option Jvm.ClassFile.FieldType) 3 120 0 0 [.ref rd, .int (nI L)] μ nx (hq_v X (po_v nx (fun z => z r = some (hp_o 4 [.ref b, .int (nI (laZ kc))]) ∧ z b = some (hp_n X 81 (laS rb L kn kc)) ∧ hp_eq [r, b] z μ))) := by
  refine hp_met (by decide) (Nat.le_of_ble_eq_true rfl) ?_
  intro p e s m below meth c ls hx hb hml hr hlocks hown hin hS hH hl
  have hl : lv_has ls 5 [(0, .ref rd), (1, .int (nI L))] := hl
  have fr : hp_eq [r, b] μ μ := fun _ _ => rfl
  refine lv_aload_n hx hb dX6_layOutSearch_0 rfl (lv_at hl 0 rfl) ?_
  refine hp_get hx hb hown hS.2.1 hH (F_X6_73.use hS) f_rd rfl dX6_layOutSearch_1 ?_
  refine lv_bipush (v := nI 8) hx hb dX6_layOutSearch_4 (by decide) ?_
  refine lv_idiv hx hb dX6_layOutSearch_6 (nI_ne0 (by omega) (by omega)) ?_
  refine hp_eqi (z := nI (kc / 8)) (pk_div (by omega) (by omega) (by omega)) ?_
  refine lv_istore_n (lv' := [(2, .int (nI (kc / 8))), (0, .ref rd), (1, .int (nI L))]) hx hb dX6_layOutSearch_7 rfl hl (by decide) rfl (fun ls hl => ?_)
  refine lv_aload_n hx hb dX6_layOutSearch_8 rfl (lv_at hl 1 rfl) ?_
  refine hp_get hx hb hown hS.2.1 hH (F_X6_73.use hS) f_rd rfl dX6_layOutSearch_9 ?_
  refine lv_bipush (v := nI 8) hx hb dX6_layOutSearch_12 (by decide) ?_
  refine lv_irem hx hb dX6_layOutSearch_14 (nI_ne0 (by omega) (by omega)) ?_
  refine hp_eqi (z := nI (kc % 8)) (pk_rem (by omega) (by omega) (by omega)) ?_
  refine lv_istore_n (lv' := [(3, .int (nI (kc % 8))), (2, .int (nI (kc / 8))), (0, .ref rd), (1, .int (nI L))]) hx hb dX6_layOutSearch_15 rfl hl (by decide) rfl (fun ls hl => ?_)
  refine lv_aload_n hx hb dX6_layOutSearch_16 rfl (lv_at hl 2 rfl) ?_
  refine hp_get hx hb hown hS.2.1 hH (F_X6_14.use hS) f_rd rfl dX6_layOutSearch_17 ?_
  refine hp_kvm (hp_runV (As := []) (rest := []) hx hb hml hown hS hH (c_X8_clear l X f_r) M_X6_38 I_X8_clear V_X8_clear (ci := 4) rfl rfl f_r rfl hl.1 rfl (Nat.le_of_ble_eq_true rfl) dX6_layOutSearch_20 ⟨Nat.le_of_ble_eq_true rfl, Nat.le_of_ble_eq_true rfl⟩ ⟨Nat.le_of_ble_eq_true rfl, Nat.le_of_ble_eq_true rfl⟩) hH (fun μ1 H locs hp hH => ?_)
  obtain ⟨fz0, fe⟩ := hp
  have f_rd := (hp_e1 fe (hp_ne f_rd f_r (by simp))).trans f_rd
  have f_b := (hp_e1 fe (hp_ne f_b f_r (by simp))).trans f_b
  have f_r : μ1 r = some (hp_o 4 [.ref b, .int (nI 0)]) := fz0
  have fr := hp_eq.tr1 fe fr (by simp)
  clear fe fz0
  refine lv_aload_n hx hb dX6_layOutSearch_23 rfl (lv_at hl 2 rfl) ?_
  refine hp_get hx hb hown hS.2.1 hH (F_X6_14.use hS) f_rd rfl dX6_layOutSearch_24 ?_
  refine lv_iload_n hx hb dX6_layOutSearch_27 rfl (lv_at hl 3 rfl) ?_
  refine hp_kip (hp_runS (As := [.int (nI L)]) (rest := [.ref r]) hx hb hml hown hS hH (c_X4_levelByte l X (v := L)) M_X6_82 S_X4_levelByte rfl hl.1 rfl (Nat.le_of_ble_eq_true rfl) dX6_layOutSearch_28 ⟨Nat.le_of_ble_eq_true rfl, Nat.le_of_ble_eq_true rfl⟩ ⟨Nat.le_of_ble_eq_true rfl, Nat.le_of_ble_eq_true rfl⟩) hH (fun H locs hH => ?_)
  refine hp_kvm (hp_runV (As := [.int (nI (145 + 2 * L))]) (rest := []) hx hb hml hown hS hH (c_X8_addOctet l X (by decide) (by omega) f_r f_b) M_X6_88 I_X8_addOctet V_X8_addOctet (ci := 4) rfl rfl f_r rfl hl.1 rfl (Nat.le_of_ble_eq_true rfl) dX6_layOutSearch_31 ⟨Nat.le_of_ble_eq_true rfl, Nat.le_of_ble_eq_true rfl⟩ ⟨Nat.le_of_ble_eq_true rfl, Nat.le_of_ble_eq_true rfl⟩) hH (fun μ1 H locs hp hH => ?_)
  obtain ⟨fz0, fz1, fe⟩ := hp
  have f_rd := (hp_e2 fe (hp_ne f_rd f_r (by simp)) (hp_ne f_rd f_b (by simp))).trans f_rd
  have f_r : μ1 r = some (hp_o 4 [.ref b, .int (nI 9)]) := fz0
  have f_b : μ1 b = some (hp_n X 81 (apB rb 0 (nI (octB (byI (nI (145 + 2 * L))))) 9)) := fz1
  have fr := hp_eq.tr2 fe fr (by simp) (by simp)
  clear fe fz0 fz1
  have f_b := f_b.trans (congrArg (fun g => some (hp_n X 81 g)) (show apB rb 0 (nI (octB (byI (nI (145 + 2 * L))))) 9 = apO rb 0 (145 + 2 * L) from by unfold apO; rw [byI_n (by omega), Nat.mod_eq_of_lt (by omega)]))
  refine lv_aload_n hx hb dX6_layOutSearch_34 rfl (lv_at hl 2 rfl) ?_
  refine hp_get hx hb hown hS.2.1 hH (F_X6_14.use hS) f_rd rfl dX6_layOutSearch_35 ?_
  refine lv_bipush (v := nI 32) hx hb dX6_layOutSearch_38 (by decide) ?_
  refine lv_bipush (v := nI 16) hx hb dX6_layOutSearch_40 (by decide) ?_
  refine lv_iload_n hx hb dX6_layOutSearch_42 rfl (lv_at hl 1 rfl) ?_
  refine lv_imul hx hb dX6_layOutSearch_43 ?_
  refine hp_eqi (z := nI (16 * (kc / 8))) (pk_mul _ _) ?_
  refine lv_iadd hx hb dX6_layOutSearch_44 ?_
  refine hp_eqi (z := nI (32 + (16 * (kc / 8)))) (nI_add _ _) ?_
  refine lv_iload_n hx hb dX6_layOutSearch_45 rfl (lv_at hl 0 rfl) ?_
  refine lv_iadd hx hb dX6_layOutSearch_46 ?_
  refine hp_eqi (z := nI ((32 + (16 * (kc / 8))) + (kc % 8))) (nI_add _ _) ?_
  refine hp_kvm (hp_runV (As := [.int (nI ((32 + (16 * (kc / 8))) + (kc % 8)))]) (rest := []) hx hb hml hown hS hH (c_X8_addOctet l X (by decide) (by omega) f_r f_b) M_X6_88 I_X8_addOctet V_X8_addOctet (ci := 4) rfl rfl f_r rfl hl.1 rfl (Nat.le_of_ble_eq_true rfl) dX6_layOutSearch_47 ⟨Nat.le_of_ble_eq_true rfl, Nat.le_of_ble_eq_true rfl⟩ ⟨Nat.le_of_ble_eq_true rfl, Nat.le_of_ble_eq_true rfl⟩) hH (fun μ1 H locs hp hH => ?_)
  obtain ⟨fz0, fz1, fe⟩ := hp
  have f_rd := (hp_e2 fe (hp_ne f_rd f_r (by simp)) (hp_ne f_rd f_b (by simp))).trans f_rd
  have f_r : μ1 r = some (hp_o 4 [.ref b, .int (nI 18)]) := fz0
  have f_b : μ1 b = some (hp_n X 81 (apB (apO rb 0 (145 + 2 * L)) 9 (nI (octB (byI (nI ((32 + (16 * (kc / 8))) + (kc % 8)))))) 9)) := fz1
  have fr := hp_eq.tr2 fe fr (by simp) (by simp)
  clear fe fz0 fz1
  have f_b := f_b.trans (congrArg (fun g => some (hp_n X 81 g)) (show apB (apO rb 0 (145 + 2 * L)) 9 (nI (octB (byI (nI ((32 + (16 * (kc / 8))) + (kc % 8)))))) 9 = apO (apO rb 0 (145 + 2 * L)) 9 ((32 + (16 * (kc / 8))) + (kc % 8)) from by unfold apO; rw [byI_n (by omega), Nat.mod_eq_of_lt (by omega)]))
  refine lv_iconst (v := nI 0) hx hb dX6_layOutSearch_50 (by decide) ?_
  refine lv_istore (lv' := [(4, .int (nI 0)), (3, .int (nI (kc % 8))), (2, .int (nI (kc / 8))), (0, .ref rd), (1, .int (nI L))]) hx hb dX6_layOutSearch_51 hl (by decide) rfl (fun ls hl => ?_)
  have f_b := f_b.trans (congrArg (fun g => some (hp_n X 81 g)) (show apO (apO rb 0 (145 + 2 * L)) 9 ((32 + (16 * (kc / 8))) + (kc % 8)) = laK rb L (laV kc) kn 0 from rfl))
  have lp_53 : ∀ (kk : Nat) (i : Nat), (i ≤ kc / 8) → (kc / 8 - i) < kk → ∀ (μ1 : hp_M) (H : Heap) (locs : List Loc) (ls : Array Slot), (μ1 rd = some (hp_o 3 [.ref r, .ref a, .ref nb, .ref sz, .int (nI cnt), .long (lN kn), .int (nI kc)])) → (μ1 r = some (hp_o 4 [.ref b, .int (nI (9 * (2 + i)))])) → (μ1 b = some (hp_n X 81 (laK rb L (laV kc) kn i))) → hp_eq [r, b] μ1 μ → hp_w X cls μ1 nx H locs → lv_has ls 5 [(0, .ref rd), (1, .int (nI L)), (2, .int (nI (kc / 8))), (3, .int (nI (kc % 8))), (4, .int (nI i))] → W p l e { frames := 3, cells := 0, slots := 0, locals := 120 } s m [.ref rd, .int (nI L)].toArray below meth c H locs 0 0 (MQ below (hq_v X (po_v nx (fun z => z r = some (hp_o 4 [.ref b, .int (nI (laZ kc))]) ∧ z b = some (hp_n X 81 (laS rb L kn kc)) ∧ hp_eq [r, b] z μ))) [.ref rd, .int (nI L)].toArray s 0 0 (hp_A X)) (F0 m 53 ls []) := by
    intro kk
    induction kk with
    | zero =>
      intro i hi hkk
      exact absurd hkk (Nat.not_lt_zero _)
    | succ kk ih =>
      intro i hi hkk μ1 H locs ls f_rd f_r f_b fr hH hl
      refine lv_iload hx hb dX6_layOutSearch_53 (lv_at hl 4 rfl) ?_
      refine lv_iload_n hx hb dX6_layOutSearch_55 rfl (lv_at hl 2 rfl) ?_
      refine lv_icmp_ge (tgt := 78) hx hb dX6_layOutSearch_56 (by decide) (fun c_56 => ?_) (fun c_56 => ?_)
      · have c_56 : (kc / 8) ≤ i := (nI_leI (by omega) (by omega)).mp c_56
        have ei : i = kc / 8 := by omega
        subst ei
        refine lv_aload_n hx hb dX6_layOutSearch_78 rfl (lv_at hl 0 rfl) ?_
        refine hp_get hx hb hown hS.2.1 hH (F_X6_14.use hS) f_rd rfl dX6_layOutSearch_79 ?_
        refine lv_aload_n hx hb dX6_layOutSearch_82 rfl (lv_at hl 0 rfl) ?_
        refine lv_iload_n hx hb dX6_layOutSearch_83 rfl (lv_at hl 2 rfl) ?_
        refine hp_kip (hp_runV (As := [.int (nI (kc / 8))]) (rest := [.ref r]) hx hb hml hown hS hH (c_X6_knownByte l X (i := kc / 8) (by omega) (by omega) f_rd) M_X6_91 I_X6_knownByte V_X6_knownByte (ci := 3) rfl rfl f_rd rfl hl.1 rfl (Nat.le_of_ble_eq_true rfl) dX6_layOutSearch_84 ⟨Nat.le_of_ble_eq_true rfl, Nat.le_of_ble_eq_true rfl⟩ ⟨Nat.le_of_ble_eq_true rfl, Nat.le_of_ble_eq_true rfl⟩) hH (fun H locs hH => ?_)
        refine lv_iload_n hx hb dX6_layOutSearch_87 rfl (lv_at hl 3 rfl) ?_
        refine hp_kvm (hp_runV (As := [.int (nI (kn / 2 ^ (8 * (kc / 8)) % 256)), .int (nI (kc % 8))]) (rest := []) hx hb hml hown hS hH (c_X8_addBits l X (v := nI (kn / 2 ^ (8 * (kc / 8)) % 256)) (n := kc % 8) (by decide) (by omega) (by omega) f_r f_b) M_X6_41 I_X8_addBits V_X8_addBits (ci := 4) rfl rfl f_r rfl hl.1 rfl (Nat.le_of_ble_eq_true rfl) dX6_layOutSearch_88 ⟨Nat.le_of_ble_eq_true rfl, Nat.le_of_ble_eq_true rfl⟩ ⟨Nat.le_of_ble_eq_true rfl, Nat.le_of_ble_eq_true rfl⟩) hH (fun μ1 H locs hp hH => ?_)
        obtain ⟨fz0, fz1, fe⟩ := hp
        have f_rd := (hp_e2 fe (hp_ne f_rd f_r (by simp)) (hp_ne f_rd f_b (by simp))).trans f_rd
        have f_r : μ1 r = some (hp_o 4 [.ref b, .int (nI (laZ kc))]) := fz0
        have f_b : μ1 b = some (hp_n X 81 (laS rb L kn kc)) := fz1
        have fr := hp_eq.tr2 fe fr (by simp) (by simp)
        clear fe fz0 fz1
        exact hp_rv hx hb hr hlocks hS hH (⟨rfl, f_r, f_b, fr⟩) dX6_layOutSearch_91
      · have c_56 : ¬ ((kc / 8) ≤ i) := fun z => c_56 ((nI_leI (by omega) (by omega)).mpr z)
        refine lv_aload_n hx hb dX6_layOutSearch_59 rfl (lv_at hl 0 rfl) ?_
        refine hp_get hx hb hown hS.2.1 hH (F_X6_14.use hS) f_rd rfl dX6_layOutSearch_60 ?_
        refine lv_aload_n hx hb dX6_layOutSearch_63 rfl (lv_at hl 0 rfl) ?_
        refine lv_iload hx hb dX6_layOutSearch_64 (lv_at hl 4 rfl) ?_
        refine hp_kip (hp_runV (As := [.int (nI i)]) (rest := [.ref r]) hx hb hml hown hS hH (c_X6_knownByte l X (i := i) (by omega) (by omega) f_rd) M_X6_91 I_X6_knownByte V_X6_knownByte (ci := 3) rfl rfl f_rd rfl hl.1 rfl (Nat.le_of_ble_eq_true rfl) dX6_layOutSearch_66 ⟨Nat.le_of_ble_eq_true rfl, Nat.le_of_ble_eq_true rfl⟩ ⟨Nat.le_of_ble_eq_true rfl, Nat.le_of_ble_eq_true rfl⟩) hH (fun H locs hH => ?_)
        refine hp_kvm (hp_runV (As := [.int (nI (kn / 2 ^ (8 * i) % 256))]) (rest := []) hx hb hml hown hS hH (c_X8_addOctet l X (by decide) (by omega) f_r f_b) M_X6_88 I_X8_addOctet V_X8_addOctet (ci := 4) rfl rfl f_r rfl hl.1 rfl (Nat.le_of_ble_eq_true rfl) dX6_layOutSearch_69 ⟨Nat.le_of_ble_eq_true rfl, Nat.le_of_ble_eq_true rfl⟩ ⟨Nat.le_of_ble_eq_true rfl, Nat.le_of_ble_eq_true rfl⟩) hH (fun μ1 H locs hp hH => ?_)
        obtain ⟨fz0, fz1, fe⟩ := hp
        have f_rd := (hp_e2 fe (hp_ne f_rd f_r (by simp)) (hp_ne f_rd f_b (by simp))).trans f_rd
        have f_r : μ1 r = some (hp_o 4 [.ref b, .int (nI (9 * (2 + i) + 9))]) := fz0
        have f_b : μ1 b = some (hp_n X 81 (apB (laK rb L (laV kc) kn i) (9 * (2 + i)) (nI (octB (byI (nI (kn / 2 ^ (8 * i) % 256))))) 9)) := fz1
        have fr := hp_eq.tr2 fe fr (by simp) (by simp)
        clear fe fz0 fz1
        have f_b := f_b.trans (congrArg (fun g => some (hp_n X 81 g)) (show apB (laK rb L (laV kc) kn i) (9 * (2 + i)) (nI (octB (byI (nI (kn / 2 ^ (8 * i) % 256))))) 9 = apO (laK rb L (laV kc) kn i) (9 * (2 + i)) (kn / 2 ^ (8 * i) % 256) from by unfold apO; rw [byI_n (by omega), Nat.mod_eq_of_lt (Nat.mod_lt _ (by decide))]))
        refine lv_iinc (v := nI (i + 1)) (lv' := [(4, .int (nI (i + 1))), (0, .ref rd), (1, .int (nI L)), (2, .int (nI (kc / 8))), (3, .int (nI (kc % 8)))]) hx hb dX6_layOutSearch_72 hl (k := 4) rfl (nI_add _ 1) (by decide) rfl (fun ls hl => ?_)
        refine lv_goto (tgt := 53) hx hb dX6_layOutSearch_75 (by decide) ?_
        have f_b := f_b.trans (congrArg (fun g => some (hp_n X 81 g)) (show apO (laK rb L (laV kc) kn i) (9 * (2 + i)) (kn / 2 ^ (8 * i) % 256) = laK rb L (laV kc) kn (i + 1) from rfl))
        have f_r := f_r.trans (show some (hp_o 4 [.ref b, .int (nI (9 * (2 + i) + 9))]) = some (hp_o 4 [.ref b, .int (nI (9 * (2 + (i + 1))))]) by rw [show 9 * (2 + (i + 1)) = 9 * (2 + i) + 9 by omega])
        exact ih (i + 1) (by omega) (by omega) _ _ _ _ f_rd f_r f_b fr hH (lv_sub hl [1, 2, 3, 4, 0] rfl)
  exact lp_53 ((kc / 8 - 0) + 1) 0 (Nat.zero_le _) (Nat.lt_succ_self _) _ _ _ _ f_rd f_r f_b fr hH (lv_sub hl [3, 4, 2, 1, 0] rfl)

set_option maxHeartbeats 4000000 in
set_option maxRecDepth 100000 in
theorem c_X6_learn (l : Launch) (X : hp_X) {μ : hp_M} {nx : Nat} {rd r a nb sz cnt kn kc : Nat} {aon aze alen KN KC : Nat} (hkc : kc ≤ 40) (hkn : kn < 2 ^ kc) (hon : aon < 2 ^ 45) (hze : aze < 2 ^ 45) (hln : alen ≤ 45) (hR0 : leR aon aze alen kn kc = (KN, KC)) (f_rd : μ rd = some (hp_o 3 [.ref r, .ref a, .ref nb, .ref sz, .int (nI cnt), .long (lN kn), .int (nI kc)])) (f_a : μ a = some (hp_o 1 [.long (lN aon), .long (lN aze), .int (nI alen)])) : Ct l X yX6_learn cX6_learn 4 (none : Option Jvm.ClassFile.FieldType) 1 40 0 0 [.ref rd] μ nx (hq_v X (po_v nx (fun z => z rd = some (hp_o 3 [.ref r, .ref a, .ref nb, .ref sz, .int (nI cnt), .long (lN KN), .int (nI KC)]) ∧ hp_eq [rd] z μ))) := by
  refine hp_met (by decide) (Nat.le_of_ble_eq_true rfl) ?_
  intro p e s m below meth c ls hx hb hml hr hlocks hown hin hS hH hl
  have hl : lv_has ls 4 [(0, .ref rd)] := hl
  have fr : hp_eq [rd] μ μ := fun _ _ => rfl
  have hR : (if false = true then (kn, kc) else lrn aon aze alen (kc + kc / 8) 40 kn kc) = (KN, KC) := hR0
  refine lv_aload_n hx hb dX6_learn_0 rfl (lv_at hl 0 rfl) ?_
  refine hp_get hx hb hown hS.2.1 hH (F_X6_73.use hS) f_rd rfl dX6_learn_1 ?_
  refine lv_aload_n hx hb dX6_learn_4 rfl (lv_at hl 0 rfl) ?_
  refine hp_get hx hb hown hS.2.1 hH (F_X6_73.use hS) f_rd rfl dX6_learn_5 ?_
  refine lv_bipush (v := nI 8) hx hb dX6_learn_8 (by decide) ?_
  refine lv_idiv hx hb dX6_learn_10 (nI_ne0 (by omega) (by omega)) ?_
  refine hp_eqi (z := nI (kc / 8)) (pk_div (by omega) (by omega) (by omega)) ?_
  refine lv_iadd hx hb dX6_learn_11 ?_
  refine hp_eqi (z := nI (kc + (kc / 8))) (nI_add _ _) ?_
  refine lv_istore_n (lv' := [(1, .int (nI (kc + (kc / 8)))), (0, .ref rd)]) hx hb dX6_learn_12 rfl hl (by decide) rfl (fun ls hl => ?_)
  refine lv_iconst (v := nI 0) hx hb dX6_learn_13 (by decide) ?_
  refine lv_istore_n (lv' := [(2, .int (nI 0)), (1, .int (nI (kc + (kc / 8)))), (0, .ref rd)]) hx hb dX6_learn_14 rfl hl (by decide) rfl (fun ls hl => ?_)
  have lp_15 : ∀ (kk : Nat) (f0 : Nat) (k1 : Nat) (c1 : Nat) (col : Bool), (40 - c1 ≤ f0) → (c1 ≤ 40) → (kc ≤ c1) → (k1 < 2 ^ c1) → ((if col = true then (k1, c1) else lrn aon aze alen (kc + kc / 8) f0 k1 c1) = (KN, KC)) → (40 - c1) < kk → ∀ (μ1 : hp_M) (H : Heap) (locs : List Loc) (ls : Array Slot), (μ1 rd = some (hp_o 3 [.ref r, .ref a, .ref nb, .ref sz, .int (nI cnt), .long (lN k1), .int (nI c1)])) → (μ1 a = some (hp_o 1 [.long (lN aon), .long (lN aze), .int (nI alen)])) → hp_eq [rd] μ1 μ → hp_w X cls μ1 nx H locs → lv_has ls 4 [(0, .ref rd), (1, .int (nI (kc + kc / 8))), (2, .int (nB col))] → W p l e { frames := 1, cells := 0, slots := 0, locals := 40 } s m [.ref rd].toArray below meth c H locs 0 0 (MQ below (hq_v X (po_v nx (fun z => z rd = some (hp_o 3 [.ref r, .ref a, .ref nb, .ref sz, .int (nI cnt), .long (lN KN), .int (nI KC)]) ∧ hp_eq [rd] z μ))) [.ref rd].toArray s 0 0 (hp_A X)) (F0 m 15 ls []) := by
    intro kk
    induction kk with
    | zero =>
      intro f0 k1 c1 col h40 hc1 hcc hk1 hres hkk
      exact absurd hkk (Nat.not_lt_zero _)
    | succ kk ih =>
      intro f0 k1 c1 col h40 hc1 hcc hk1 hres hkk μ1 H locs ls f_rd f_a fr hH hl
      refine lv_aload_n hx hb dX6_learn_15 rfl (lv_at hl 0 rfl) ?_
      refine hp_get hx hb hown hS.2.1 hH (F_X6_73.use hS) f_rd rfl dX6_learn_16 ?_
      refine lv_bipush (v := nI 40) hx hb dX6_learn_19 (by decide) ?_
      refine lv_icmp_ge (tgt := 93) hx hb dX6_learn_21 (by decide) (fun c_21 => ?_) (fun c_21 => ?_)
      · have c_21 : 40 ≤ c1 := (nI_leI (by omega) (by omega)).mp c_21
        have hres : (k1, c1) = (KN, KC) := by
          cases col with
          | true => exact hres
          | false =>
            rw [if_neg (by decide)] at hres
            have e40 : c1 = 40 := by first | omega | exact absurd c_25 (by decide)
            cases f0 with
            | zero => exact hres
            | succ f9 =>
              simp only [lrn] at hres
              rw [if_neg (by omega)] at hres
              exact hres
        cases hres
        exact hp_rv hx hb hr hlocks hS hH (⟨rfl, f_rd, fr⟩) dX6_learn_93
      · have c_21 : ¬ (40 ≤ c1) := fun z => c_21 ((nI_leI (by omega) (by omega)).mpr z)
        refine lv_iload_n hx hb dX6_learn_24 rfl (lv_at hl 2 rfl) ?_
        refine lv_if_ne (tgt := 93) hx hb dX6_learn_25 (by decide) (fun c_25 => ?_) (fun c_25 => ?_)
        · have c_25 : col = true := nB_n c_25
          have hres : (k1, c1) = (KN, KC) := by
            cases col with
            | true => exact hres
            | false =>
              rw [if_neg (by decide)] at hres
              have e40 : c1 = 40 := by first | omega | exact absurd c_25 (by decide)
              cases f0 with
              | zero => exact hres
              | succ f9 =>
                simp only [lrn] at hres
                rw [if_neg (by omega)] at hres
                exact hres
          cases hres
          exact hp_rv hx hb hr hlocks hS hH (⟨rfl, f_rd, fr⟩) dX6_learn_93
        · have c_25 : col = false := nB_0 c_25
          refine lv_aload_n hx hb dX6_learn_28 rfl (lv_at hl 0 rfl) ?_
          refine hp_get hx hb hown hS.2.1 hH (F_X6_23.use hS) f_rd rfl dX6_learn_29 ?_
          refine lv_aload_n hx hb dX6_learn_32 rfl (lv_at hl 0 rfl) ?_
          refine hp_get hx hb hown hS.2.1 hH (F_X6_73.use hS) f_rd rfl dX6_learn_33 ?_
          refine lv_aload_n hx hb dX6_learn_36 rfl (lv_at hl 0 rfl) ?_
          refine hp_get hx hb hown hS.2.1 hH (F_X6_73.use hS) f_rd rfl dX6_learn_37 ?_
          refine lv_bipush (v := nI 8) hx hb dX6_learn_40 (by decide) ?_
          refine lv_idiv hx hb dX6_learn_42 (nI_ne0 (by omega) (by omega)) ?_
          refine hp_eqi (z := nI (c1 / 8)) (pk_div (by omega) (by omega) (by omega)) ?_
          refine lv_iadd hx hb dX6_learn_43 ?_
          refine hp_eqi (z := nI (c1 + (c1 / 8))) (nI_add _ _) ?_
          refine lv_iload_n hx hb dX6_learn_44 rfl (lv_at hl 1 rfl) ?_
          refine lv_isub hx hb dX6_learn_45 ?_
          refine hp_eqi (z := nI ((c1 + (c1 / 8)) - (kc + kc / 8))) (pk_sub (by omega)) ?_
          have hp40 : (2 : Nat) ^ c1 ≤ 2 ^ 40 := Nat.pow_le_pow_right (by decide) (by omega)
          obtain ⟨f1, ef1⟩ : ∃ f1, f0 = f1 + 1 := ⟨f0 - 1, by omega⟩
          rw [c_25, if_neg (by decide), ef1] at hres
          simp only [lrn] at hres
          rw [if_pos (show c1 < 40 by omega)] at hres
          by_cases hj : c1 + c1 / 8 - (kc + kc / 8) < alen
          · have hdg : dgN aon aze alen (c1 + c1 / 8 - (kc + kc / 8)) = digN aon aze (c1 + c1 / 8 - (kc + kc / 8)) := if_pos hj
            have hd2 := digN_le aon aze (c1 + c1 / 8 - (kc + kc / 8))
            rw [hdg] at hres
            refine hp_kip (hp_runV (As := [.int (nI ((c1 + (c1 / 8)) - (kc + kc / 8)))]) (rest := []) hx hb hml hown hS hH (c_X2_bitAt l X (j := c1 + c1 / 8 - (kc + kc / 8)) hj (by omega) (by omega) (by omega) f_a) M_X6_94 I_X2_bitAt V_X2_bitAt (ci := 1) rfl rfl f_a rfl hl.1 rfl (Nat.le_of_ble_eq_true rfl) dX6_learn_46 ⟨Nat.le_of_ble_eq_true rfl, Nat.le_of_ble_eq_true rfl⟩ ⟨Nat.le_of_ble_eq_true rfl, Nat.le_of_ble_eq_true rfl⟩) hH (fun H locs hH => ?_)
            refine lv_istore_n (lv' := [(3, .int (nI (digN aon aze (c1 + c1 / 8 - (kc + kc / 8))))), (0, .ref rd), (1, .int (nI (kc + kc / 8))), (2, .int (nB col))]) hx hb dX6_learn_49 rfl hl (by decide) rfl (fun ls hl => ?_)
            refine lv_iload_n hx hb dX6_learn_50 rfl (lv_at hl 0 rfl) ?_
            refine lv_iconst (v := nI 2) hx hb dX6_learn_51 (by decide) ?_
            refine lv_icmp_ne (tgt := 59) hx hb dX6_learn_52 (by decide) (fun c_52 => ?_) (fun c_52 => ?_)
            · have c_52 : ¬ ((digN aon aze (c1 + c1 / 8 - (kc + kc / 8))) = 2) := fun z => c_52 ((nI_eq (by omega) (by omega)).mpr z)
              refine lv_iconst (v := nI 0) hx hb dX6_learn_59 (by decide) ?_
              refine lv_istore_n (lv' := [(2, .int (nI 0)), (3, .int (nI (digN aon aze (c1 + c1 / 8 - (kc + kc / 8))))), (0, .ref rd), (1, .int (nI (kc + kc / 8)))]) hx hb dX6_learn_60 rfl hl (by decide) rfl (fun ls hl => ?_)
              refine lv_iload_n hx hb dX6_learn_61 rfl (lv_at hl 1 rfl) ?_
              refine lv_if_le (tgt := 80) hx hb dX6_learn_62 (by decide) (fun c_62 => ?_) (fun c_62 => ?_)
              · have c_62 : (digN aon aze (c1 + c1 / 8 - (kc + kc / 8))) = 0 := nz_le (by omega) c_62
                refine lv_aload_n hx hb dX6_learn_80 rfl (lv_at hl 2 rfl) ?_
                refine lv_dup hx hb dX6_learn_81 rfl ?_
                refine hp_get hx hb hown hS.2.1 hH (F_X6_73.use hS) f_rd rfl dX6_learn_82 ?_
                refine lv_iconst (v := nI 1) hx hb dX6_learn_85 (by decide) ?_
                refine lv_iadd hx hb dX6_learn_86 ?_
                refine hp_eqi (z := nI (c1 + 1)) (nI_add _ _) ?_
                refine hp_put hx hb hown hS.2.1 hH (P_X6_73.use hS) f_rd rfl rfl (Nat.le_of_ble_eq_true rfl) dX6_learn_87 (fun H locs μ1 fz fn hH => ?_)
                have f_a := (fn _ (hp_ne f_a f_rd (by simp))).trans f_a
                have f_rd : μ1 rd = some (hp_o 3 [.ref r, .ref a, .ref nb, .ref sz, .int (nI cnt), .long (lN k1), .int (nI (c1 + 1))]) := fz
                have fr := hp_eq.put fr (by simp) fn
                clear fz fn
                refine lv_goto (tgt := 15) hx hb dX6_learn_90 (by decide) ?_
                exact ih f1 k1 (c1 + 1) false (by omega) (by omega) (by omega) (by rw [Nat.pow_succ]; omega) (by rw [if_neg (by decide)]; rw [if_neg c_52] at hres; rw [if_neg (by omega)] at hres; exact hres) (by omega) _ _ _ _ f_rd f_a fr hH (lv_sub hl [2, 3, 0] rfl)
              · have c_62 : 0 < (digN aon aze (c1 + c1 / 8 - (kc + kc / 8))) := nz_nle (by omega) c_62
                refine lv_aload_n hx hb dX6_learn_65 rfl (lv_at hl 2 rfl) ?_
                refine lv_dup hx hb dX6_learn_66 rfl ?_
                refine hp_get hx hb hown hS.2.1 hH (F_X6_69.use hS) f_rd rfl dX6_learn_67 ?_
                refine lv_lconst (v := lN 1) hx hb dX6_learn_70 rfl ?_
                refine lv_aload_n hx hb dX6_learn_71 rfl (lv_at hl 2 rfl) ?_
                refine hp_get hx hb hown hS.2.1 hH (F_X6_73.use hS) f_rd rfl dX6_learn_72 ?_
                refine lv_lshl hx hb dX6_learn_75 rfl ?_
                refine hp_eql (z := lN (2 ^ c1)) (by rw [wb_shl _ (by omega), Nat.one_mul]) ?_
                refine lv_lor hx hb dX6_learn_76 ?_
                refine hp_eql (z := lN (k1 + 2 ^ c1)) (by have e9 := g_or' (k := c1) (p := 2 ^ c1) (a := k1) (b := 1) rfl hk1 (by omega); rw [Nat.one_mul] at e9; exact e9) ?_
                refine hp_put hx hb hown hS.2.1 hH (P_X6_69.use hS) f_rd rfl rfl (Nat.le_of_ble_eq_true rfl) dX6_learn_77 (fun H locs μ1 fz fn hH => ?_)
                have f_a := (fn _ (hp_ne f_a f_rd (by simp))).trans f_a
                have f_rd : μ1 rd = some (hp_o 3 [.ref r, .ref a, .ref nb, .ref sz, .int (nI cnt), .long (lN (k1 + 2 ^ c1)), .int (nI c1)]) := fz
                have fr := hp_eq.put fr (by simp) fn
                clear fz fn
                refine lv_aload_n hx hb dX6_learn_80 rfl (lv_at hl 2 rfl) ?_
                refine lv_dup hx hb dX6_learn_81 rfl ?_
                refine hp_get hx hb hown hS.2.1 hH (F_X6_73.use hS) f_rd rfl dX6_learn_82 ?_
                refine lv_iconst (v := nI 1) hx hb dX6_learn_85 (by decide) ?_
                refine lv_iadd hx hb dX6_learn_86 ?_
                refine hp_eqi (z := nI (c1 + 1)) (nI_add _ _) ?_
                refine hp_put hx hb hown hS.2.1 hH (P_X6_73.use hS) f_rd rfl rfl (Nat.le_of_ble_eq_true rfl) dX6_learn_87 (fun H locs μ1 fz fn hH => ?_)
                have f_a := (fn _ (hp_ne f_a f_rd (by simp))).trans f_a
                have f_rd : μ1 rd = some (hp_o 3 [.ref r, .ref a, .ref nb, .ref sz, .int (nI cnt), .long (lN (k1 + 2 ^ c1)), .int (nI (c1 + 1))]) := fz
                have fr := hp_eq.put fr (by simp) fn
                clear fz fn
                refine lv_goto (tgt := 15) hx hb dX6_learn_90 (by decide) ?_
                exact ih f1 (k1 + 2 ^ c1) (c1 + 1) false (by omega) (by omega) (by omega) (by rw [Nat.pow_succ]; omega) (by rw [if_neg (by decide)]; rw [if_neg c_52] at hres; rw [if_pos (by omega)] at hres; exact hres) (by omega) _ _ _ _ f_rd f_a fr hH (lv_sub hl [2, 3, 0] rfl)
            · have c_52 : (digN aon aze (c1 + c1 / 8 - (kc + kc / 8))) = 2 := (nI_eq (by omega) (by omega)).mp c_52
              refine lv_iconst (v := nI 1) hx hb dX6_learn_55 (by decide) ?_
              refine lv_goto (tgt := 60) hx hb dX6_learn_56 (by decide) ?_
              refine lv_istore_n (lv' := [(2, .int (nI 1)), (3, .int (nI (digN aon aze (c1 + c1 / 8 - (kc + kc / 8))))), (0, .ref rd), (1, .int (nI (kc + kc / 8)))]) hx hb dX6_learn_60 rfl hl (by decide) rfl (fun ls hl => ?_)
              refine lv_iload_n hx hb dX6_learn_61 rfl (lv_at hl 1 rfl) ?_
              refine lv_if_le (tgt := 80) hx hb dX6_learn_62 (by decide) (fun c_62 => ?_) (fun c_62 => ?_)
              · have c_62 : (digN aon aze (c1 + c1 / 8 - (kc + kc / 8))) = 0 := nz_le (by omega) c_62
                refine lv_aload_n hx hb dX6_learn_80 rfl (lv_at hl 2 rfl) ?_
                refine lv_dup hx hb dX6_learn_81 rfl ?_
                refine hp_get hx hb hown hS.2.1 hH (F_X6_73.use hS) f_rd rfl dX6_learn_82 ?_
                refine lv_iconst (v := nI 1) hx hb dX6_learn_85 (by decide) ?_
                refine lv_iadd hx hb dX6_learn_86 ?_
                refine hp_eqi (z := nI (c1 + 1)) (nI_add _ _) ?_
                refine hp_put hx hb hown hS.2.1 hH (P_X6_73.use hS) f_rd rfl rfl (Nat.le_of_ble_eq_true rfl) dX6_learn_87 (fun H locs μ1 fz fn hH => ?_)
                have f_a := (fn _ (hp_ne f_a f_rd (by simp))).trans f_a
                have f_rd : μ1 rd = some (hp_o 3 [.ref r, .ref a, .ref nb, .ref sz, .int (nI cnt), .long (lN k1), .int (nI (c1 + 1))]) := fz
                have fr := hp_eq.put fr (by simp) fn
                clear fz fn
                refine lv_goto (tgt := 15) hx hb dX6_learn_90 (by decide) ?_
                exact ih f1 k1 (c1 + 1) true (by omega) (by omega) (by omega) (by rw [Nat.pow_succ]; omega) (by exfalso; omega) (by omega) _ _ _ _ f_rd f_a fr hH (lv_sub hl [2, 3, 0] rfl)
              · have c_62 : 0 < (digN aon aze (c1 + c1 / 8 - (kc + kc / 8))) := nz_nle (by omega) c_62
                refine lv_aload_n hx hb dX6_learn_65 rfl (lv_at hl 2 rfl) ?_
                refine lv_dup hx hb dX6_learn_66 rfl ?_
                refine hp_get hx hb hown hS.2.1 hH (F_X6_69.use hS) f_rd rfl dX6_learn_67 ?_
                refine lv_lconst (v := lN 1) hx hb dX6_learn_70 rfl ?_
                refine lv_aload_n hx hb dX6_learn_71 rfl (lv_at hl 2 rfl) ?_
                refine hp_get hx hb hown hS.2.1 hH (F_X6_73.use hS) f_rd rfl dX6_learn_72 ?_
                refine lv_lshl hx hb dX6_learn_75 rfl ?_
                refine hp_eql (z := lN (2 ^ c1)) (by rw [wb_shl _ (by omega), Nat.one_mul]) ?_
                refine lv_lor hx hb dX6_learn_76 ?_
                refine hp_eql (z := lN (k1 + 2 ^ c1)) (by have e9 := g_or' (k := c1) (p := 2 ^ c1) (a := k1) (b := 1) rfl hk1 (by omega); rw [Nat.one_mul] at e9; exact e9) ?_
                refine hp_put hx hb hown hS.2.1 hH (P_X6_69.use hS) f_rd rfl rfl (Nat.le_of_ble_eq_true rfl) dX6_learn_77 (fun H locs μ1 fz fn hH => ?_)
                have f_a := (fn _ (hp_ne f_a f_rd (by simp))).trans f_a
                have f_rd : μ1 rd = some (hp_o 3 [.ref r, .ref a, .ref nb, .ref sz, .int (nI cnt), .long (lN (k1 + 2 ^ c1)), .int (nI c1)]) := fz
                have fr := hp_eq.put fr (by simp) fn
                clear fz fn
                refine lv_aload_n hx hb dX6_learn_80 rfl (lv_at hl 2 rfl) ?_
                refine lv_dup hx hb dX6_learn_81 rfl ?_
                refine hp_get hx hb hown hS.2.1 hH (F_X6_73.use hS) f_rd rfl dX6_learn_82 ?_
                refine lv_iconst (v := nI 1) hx hb dX6_learn_85 (by decide) ?_
                refine lv_iadd hx hb dX6_learn_86 ?_
                refine hp_eqi (z := nI (c1 + 1)) (nI_add _ _) ?_
                refine hp_put hx hb hown hS.2.1 hH (P_X6_73.use hS) f_rd rfl rfl (Nat.le_of_ble_eq_true rfl) dX6_learn_87 (fun H locs μ1 fz fn hH => ?_)
                have f_a := (fn _ (hp_ne f_a f_rd (by simp))).trans f_a
                have f_rd : μ1 rd = some (hp_o 3 [.ref r, .ref a, .ref nb, .ref sz, .int (nI cnt), .long (lN (k1 + 2 ^ c1)), .int (nI (c1 + 1))]) := fz
                have fr := hp_eq.put fr (by simp) fn
                clear fz fn
                refine lv_goto (tgt := 15) hx hb dX6_learn_90 (by decide) ?_
                exact ih f1 (k1 + 2 ^ c1) (c1 + 1) true (by omega) (by omega) (by omega) (by rw [Nat.pow_succ]; omega) (by rw [if_pos rfl]; rw [if_pos c_52] at hres; exact hres) (by omega) _ _ _ _ f_rd f_a fr hH (lv_sub hl [2, 3, 0] rfl)
          · have hdg : dgN aon aze alen (c1 + c1 / 8 - (kc + kc / 8)) = 0 := if_neg hj
            rw [hdg] at hres
            refine hp_kip (hp_runV (As := [.int (nI ((c1 + (c1 / 8)) - (kc + kc / 8)))]) (rest := []) hx hb hml hown hS hH (c_X2_bitAt_out l X (i := nI (c1 + c1 / 8 - (kc + kc / 8))) (Or.inr ((nI_leI (by omega) (by omega)).mpr (by omega))) f_a) M_X6_94 I_X2_bitAt V_X2_bitAt (ci := 1) rfl rfl f_a rfl hl.1 rfl (Nat.le_of_ble_eq_true rfl) dX6_learn_46 ⟨Nat.le_of_ble_eq_true rfl, Nat.le_of_ble_eq_true rfl⟩ ⟨Nat.le_of_ble_eq_true rfl, Nat.le_of_ble_eq_true rfl⟩) hH (fun H locs hH => ?_)
            refine lv_istore_n (lv' := [(3, .int (-1)), (0, .ref rd), (1, .int (nI (kc + kc / 8))), (2, .int (nB col))]) hx hb dX6_learn_49 rfl hl (by decide) rfl (fun ls hl => ?_)
            refine lv_iload_n hx hb dX6_learn_50 rfl (lv_at hl 0 rfl) ?_
            refine lv_iconst (v := nI 2) hx hb dX6_learn_51 (by decide) ?_
            refine lv_icmp_ne (tgt := 59) hx hb dX6_learn_52 (by decide) (fun c_52 => ?_) (fun c_52 => ?_)
            · refine lv_iconst (v := nI 0) hx hb dX6_learn_59 (by decide) ?_
              refine lv_istore_n (lv' := [(2, .int (nI 0)), (3, .int (-1)), (0, .ref rd), (1, .int (nI (kc + kc / 8)))]) hx hb dX6_learn_60 rfl hl (by decide) rfl (fun ls hl => ?_)
              refine lv_iload_n hx hb dX6_learn_61 rfl (lv_at hl 1 rfl) ?_
              refine lv_if_le (tgt := 80) hx hb dX6_learn_62 (by decide) (fun c_62 => ?_) (fun c_62 => ?_)
              · refine lv_aload_n hx hb dX6_learn_80 rfl (lv_at hl 2 rfl) ?_
                refine lv_dup hx hb dX6_learn_81 rfl ?_
                refine hp_get hx hb hown hS.2.1 hH (F_X6_73.use hS) f_rd rfl dX6_learn_82 ?_
                refine lv_iconst (v := nI 1) hx hb dX6_learn_85 (by decide) ?_
                refine lv_iadd hx hb dX6_learn_86 ?_
                refine hp_eqi (z := nI (c1 + 1)) (nI_add _ _) ?_
                refine hp_put hx hb hown hS.2.1 hH (P_X6_73.use hS) f_rd rfl rfl (Nat.le_of_ble_eq_true rfl) dX6_learn_87 (fun H locs μ1 fz fn hH => ?_)
                have f_a := (fn _ (hp_ne f_a f_rd (by simp))).trans f_a
                have f_rd : μ1 rd = some (hp_o 3 [.ref r, .ref a, .ref nb, .ref sz, .int (nI cnt), .long (lN k1), .int (nI (c1 + 1))]) := fz
                have fr := hp_eq.put fr (by simp) fn
                clear fz fn
                refine lv_goto (tgt := 15) hx hb dX6_learn_90 (by decide) ?_
                exact ih f1 k1 (c1 + 1) false (by omega) (by omega) (by omega) (by rw [Nat.pow_succ]; omega) (by rw [if_neg (by decide)]; simpa using hres) (by omega) _ _ _ _ f_rd f_a fr hH (lv_sub hl [2, 3, 0] rfl)
              · exact absurd c_62 (by decide)
            · exact absurd c_52 (by decide)
  exact lp_15 ((40 - kc) + 1) 40 kn kc false (by omega) (by omega) (Nat.le_refl _) hkn hR (Nat.lt_succ_self _) _ _ _ _ f_rd f_a fr hH (lv_sub hl [2, 1, 0] rfl)
