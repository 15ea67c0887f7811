set_option maxHeartbeats 4000000 in
set_option maxRecDepth 100000 in
theorem c_Jxa1e45_init_da8c8 (l : Launch) (X : hp_X) {μ : hp_M} {nx : Nat} {l1 : Nat}  : Ct l X yJxa1e45_init_da8c8 cJxa1e45_init_da8c8 1 (none : Option Jvm.ClassFile.FieldType) 1 40 0 0 [.ref l1] μ nx (hq_v X (po_v nx (fun z => z = μ))) := by
  refine hp_met (by decide) (Nat.le_of_ble_eq_true rfl) ?_
  intro p e s m below meth c ls hx hb hml hr hlocks hown hin hS hH hl
  have hl : lv_has ls 1 [(0, .ref l1)] := hl
  refine lv_aload_n hx hb dJxa1e45_init_da8c8_0 rfl (lv_at hl 0 rfl) ?_
  refine hp_obj hx hb hml hown hS ol_Jxa1e45_1 hl.1 dJxa1e45_init_da8c8_1 (Nat.le_of_ble_eq_true rfl) (Nat.le_of_ble_eq_true rfl) (Nat.le_of_ble_eq_true rfl) ?_
  exact hp_rv hx hb hr hlocks hS hH (⟨rfl, rfl⟩) dJxa1e45_init_da8c8_4

set_option maxHeartbeats 4000000 in
set_option maxRecDepth 100000 in
theorem c_Jxc12de_init_da8c8 (l : Launch) (X : hp_X) {μ : hp_M} {nx : Nat} {l1 : Nat} (f_l : μ l1 = some (hp_o 8 [.int (nI 0), .null, .int (nI 0)])) : Ct l X yJxc12de_init_da8c8 cJxc12de_init_da8c8 1 (none : Option Jvm.ClassFile.FieldType) 2 80 0 0 [.ref l1] μ nx (hq_v X (po_v nx (fun z => z l1 = some (hp_o 8 [.int (nI 0), .null, .int (nI 0)]) ∧ hp_eq [l1] z μ))) := by
  refine hp_met (by decide) (Nat.le_of_ble_eq_true rfl) ?_
  intro p e s m below meth c ls hx hb hml hr hlocks hown hin hS hH hl
  have hl : lv_has ls 1 [(0, .ref l1)] := hl
  have fr : hp_eq [l1] μ μ := fun _ _ => rfl
  refine lv_aload_n hx hb dJxc12de_init_da8c8_0 rfl (lv_at hl 0 rfl) ?_
  refine hp_kvp (hp_runI (As := []) (rest := []) hx hb hml hown hS hH (c_Jxa1e45_init_da8c8 l X) M_Jxc12de_1 I_Jxa1e45_init_da8c8 rfl rfl hl.1 rfl (Nat.le_of_ble_eq_true rfl) dJxc12de_init_da8c8_1 ⟨Nat.le_of_ble_eq_true rfl, Nat.le_of_ble_eq_true rfl⟩ ⟨Nat.le_of_ble_eq_true rfl, Nat.le_of_ble_eq_true rfl⟩) hH (fun H locs hH => ?_)
  refine lv_aload_n hx hb dJxc12de_init_da8c8_4 rfl (lv_at hl 0 rfl) ?_
  refine lv_iconst (v := nI 0) hx hb dJxc12de_init_da8c8_5 (by decide) ?_
  refine hp_put hx hb hown hS.2.1 hH (P_Jxc12de_7.use hS) f_l rfl rfl (Nat.le_of_ble_eq_true rfl) dJxc12de_init_da8c8_6 (fun H locs μ1 fz fn hH => ?_)
  have f_l : μ1 l1 = some (hp_o 8 [.int (nI 0), .null, .int (nI 0)]) := fz
  have fr := hp_eq.put fr (by simp) fn
  clear fz fn
  exact hp_rv hx hb hr hlocks hS hH (⟨rfl, f_l, fr⟩) dJxc12de_init_da8c8_9

set_option maxHeartbeats 4000000 in
set_option maxRecDepth 100000 in
theorem c_Jx4a65c_init_da8c8 (l : Launch) (X : hp_X) {μ : hp_M} {nx : Nat} {l1 : Nat} (f_l : μ l1 = some (hp_o 8 [.int (nI 0), .null, .int (nI 0)])) : Ct l X yJx4a65c_init_da8c8 cJx4a65c_init_da8c8 1 (none : Option Jvm.ClassFile.FieldType) 3 120 0 0 [.ref l1] μ nx (hq_v X (po_v nx (fun z => z l1 = some (hp_o 8 [.int (nI 0), .ref (X.2.2.2 16), .int (nI 0)]) ∧ hp_eq [l1] z μ))) := by
  refine hp_met (by decide) (Nat.le_of_ble_eq_true rfl) ?_
  intro p e s m below meth c ls hx hb hml hr hlocks hown hin hS hH hl
  have hl : lv_has ls 1 [(0, .ref l1)] := hl
  have fr : hp_eq [l1] μ μ := fun _ _ => rfl
  refine lv_aload_n hx hb dJx4a65c_init_da8c8_0 rfl (lv_at hl 0 rfl) ?_
  refine hp_kvm (hp_runI (As := []) (rest := []) hx hb hml hown hS hH (c_Jxc12de_init_da8c8 l X f_l) M_Jx4a65c_1 I_Jxc12de_init_da8c8 rfl rfl hl.1 rfl (Nat.le_of_ble_eq_true rfl) dJx4a65c_init_da8c8_1 ⟨Nat.le_of_ble_eq_true rfl, Nat.le_of_ble_eq_true rfl⟩ ⟨Nat.le_of_ble_eq_true rfl, Nat.le_of_ble_eq_true rfl⟩) hH (fun μ1 H locs hp hH => ?_)
  obtain ⟨fz0, fe⟩ := hp
  have f_l : μ1 l1 = some (hp_o 8 [.int (nI 0), .null, .int (nI 0)]) := fz0
  have fr := hp_eq.tr1 fe fr (by simp)
  clear fe fz0
  refine lv_aload_n hx hb dJx4a65c_init_da8c8_4 rfl (lv_at hl 0 rfl) ?_
  refine hp_gets hx hb hS.em hH hown G_Jx4a65c_39 hS dJx4a65c_init_da8c8_5 ?_
  refine hp_put hx hb hown hS.2.1 hH (P_Jx4a65c_9.use hS) f_l rfl rfl (Nat.le_of_ble_eq_true rfl) dJx4a65c_init_da8c8_8 (fun H locs μ1 fz fn hH => ?_)
  have f_l : μ1 l1 = some (hp_o 8 [.int (nI 0), .ref (X.2.2.2 16), .int (nI 0)]) := fz
  have fr := hp_eq.put fr (by simp) fn
  clear fz fn
  exact hp_rv hx hb hr hlocks hS hH (⟨rfl, f_l, fr⟩) dJx4a65c_init_da8c8_11

set_option maxHeartbeats 4000000 in
set_option maxRecDepth 100000 in
theorem c_Jx4a65c_size_8abf5 (l : Launch) (X : hp_X) {μ : hp_M} {nx : Nat} {l1 mc q n : Nat} (f_l : μ l1 = some (hp_o 8 [.int (nI mc), .ref q, .int (nI n)])) : Ct l X yJx4a65c_size_8abf5 cJx4a65c_size_8abf5 1 (some FieldType.int) 0 0 0 0 [.ref l1] μ nx (hq_i X (po_i nx (nI n) (fun z => z = μ))) := by
  refine hp_met (by decide) (Nat.le_of_ble_eq_true rfl) ?_
  intro p e s m below meth c ls hx hb hml hr hlocks hown hin hS hH hl
  have hl : lv_has ls 1 [(0, .ref l1)] := hl
  refine lv_aload_n hx hb dJx4a65c_size_8abf5_0 rfl (lv_at hl 0 rfl) ?_
  refine hp_get hx hb hown hS.2.1 hH (F_Jx4a65c_48.use hS) f_l rfl dJx4a65c_size_8abf5_1 ?_
  exact hp_ri hx hb hr hlocks hS hH (⟨rfl, rfl, rfl⟩) dJx4a65c_size_8abf5_4

set_option maxHeartbeats 4000000 in
set_option maxRecDepth 100000 in
theorem c_J3_checkIndex_8e157 (l : Launch) (X : hp_X) {μ : hp_M} {nx : Nat} {i n : Nat} (hi : i < n) (hn : n < 2 ^ 31)  : Ct l X yJ3_checkIndex_8e157 cJ3_checkIndex_8e157 3 (some FieldType.int) 0 0 0 0 [.int (nI i), .int (nI n), .null] μ nx (hq_i X (po_i nx (nI i) (fun z => z = μ))) := by
  refine hp_met (by decide) (Nat.le_of_ble_eq_true rfl) ?_
  intro p e s m below meth c ls hx hb hml hr hlocks hown hin hS hH hl
  have hl : lv_has ls 3 [(0, .int (nI i)), (1, .int (nI n)), (2, .null)] := hl
  refine lv_iload_n hx hb dJ3_checkIndex_8e157_0 rfl (lv_at hl 0 rfl) ?_
  refine lv_if_lt (tgt := 9) hx hb dJ3_checkIndex_8e157_1 (by decide) (fun c_1 => ?_) (fun c_1 => ?_)
  · exact absurd c_1 (nI_pos (by omega))
  · refine lv_iload_n hx hb dJ3_checkIndex_8e157_4 rfl (lv_at hl 0 rfl) ?_
    refine lv_iload_n hx hb dJ3_checkIndex_8e157_5 rfl (lv_at hl 1 rfl) ?_
    refine lv_icmp_lt (tgt := 16) hx hb dJ3_checkIndex_8e157_6 (by decide) (fun c_6 => ?_) (fun c_6 => ?_)
    · have c_6 : i < n := (nI_ltI (by omega) (by omega)).mp c_6
      refine lv_iload_n hx hb dJ3_checkIndex_8e157_16 rfl (lv_at hl 0 rfl) ?_
      exact hp_ri hx hb hr hlocks hS hH (⟨rfl, rfl, rfl⟩) dJ3_checkIndex_8e157_17
    · have c_6 : ¬ (i < n) := fun z => c_6 ((nI_ltI (by omega) (by omega)).mpr z)
      exact absurd hi c_6

set_option maxHeartbeats 4000000 in
set_option maxRecDepth 100000 in
theorem c_J15_checkIndex_7cf53 (l : Launch) (X : hp_X) {μ : hp_M} {nx : Nat} {i n : Nat} (hi : i < n) (hn : n < 2 ^ 31)  : Ct l X yJ15_checkIndex_7cf53 cJ15_checkIndex_7cf53 2 (some FieldType.int) 1 40 0 0 [.int (nI i), .int (nI n)] μ nx (hq_i X (po_i nx (nI i) (fun z => z = μ))) := by
  refine hp_met (by decide) (Nat.le_of_ble_eq_true rfl) ?_
  intro p e s m below meth c ls hx hb hml hr hlocks hown hin hS hH hl
  have hl : lv_has ls 2 [(0, .int (nI i)), (1, .int (nI n))] := hl
  refine lv_iload_n hx hb dJ15_checkIndex_7cf53_0 rfl (lv_at hl 0 rfl) ?_
  refine lv_iload_n hx hb dJ15_checkIndex_7cf53_1 rfl (lv_at hl 1 rfl) ?_
  refine lv_null hx hb dJ15_checkIndex_7cf53_2 ?_
  refine hp_kip (hp_runS (As := [.int (nI i), .int (nI n), .null]) (rest := []) hx hb hml hown hS hH (c_J3_checkIndex_8e157 l X hi hn) M_J15_105 S_J3_checkIndex_8e157 rfl hl.1 rfl (Nat.le_of_ble_eq_true rfl) dJ15_checkIndex_7cf53_3 ⟨Nat.le_of_ble_eq_true rfl, Nat.le_of_ble_eq_true rfl⟩ ⟨Nat.le_of_ble_eq_true rfl, Nat.le_of_ble_eq_true rfl⟩) hH (fun H locs hH => ?_)
  exact hp_ri hx hb hr hlocks hS hH (⟨rfl, rfl, rfl⟩) dJ15_checkIndex_7cf53_6

set_option maxHeartbeats 4000000 in
set_option maxRecDepth 100000 in
theorem c_Jx4a65c_elementData_915e3 (l : Launch) (X : hp_X) {μ : hp_M} {nx : Nat} {l1 mc q n cap : Nat} {f : Nat → Option Nat} {i t : Nat} (hi : i < n) (hn : n ≤ cap) (hc : cap < 2 ^ 20) (ht : f i = some t) (f_l : μ l1 = some (hp_o 8 [.int (nI mc), .ref q, .int (nI n)])) (f_q : μ q = some (hp_q X cap f)) : Ct l X yJx4a65c_elementData_915e3 cJx4a65c_elementData_915e3 2 (some (FieldType.object "java/lang/Object")) 0 0 0 0 [.ref l1, .int (nI i)] μ nx (hq_r X (po_r nx t (fun z => z = μ))) := by
  refine hp_met (by decide) (Nat.le_of_ble_eq_true rfl) ?_
  intro p e s m below meth c ls hx hb hml hr hlocks hown hin hS hH hl
  have hl : lv_has ls 2 [(0, .ref l1), (1, .int (nI i))] := hl
  refine lv_aload_n hx hb dJx4a65c_elementData_915e3_0 rfl (lv_at hl 0 rfl) ?_
  refine hp_get hx hb hown hS.2.1 hH (F_Jx4a65c_9.use hS) f_l rfl dJx4a65c_elementData_915e3_1 ?_
  refine lv_iload_n hx hb dJx4a65c_elementData_915e3_4 rfl (lv_at hl 1 rfl) ?_
  refine hp_aaldN hx hb hS hH f_q (by omega) (by omega) ht dJx4a65c_elementData_915e3_5 ?_
  exact hp_rr hx hb hr (Or.inl ⟨_, rfl⟩) hlocks hS hH (⟨rfl, rfl, rfl⟩) dJx4a65c_elementData_915e3_6

set_option maxHeartbeats 4000000 in
set_option maxRecDepth 100000 in
theorem c_Jx4a65c_get_915e3 (l : Launch) (X : hp_X) {μ : hp_M} {nx : Nat} {l1 mc q n cap : Nat} {f : Nat → Option Nat} {i t : Nat} (hi : i < n) (hn : n ≤ cap) (hc : cap < 2 ^ 20) (ht : f i = some t) (f_l : μ l1 = some (hp_o 8 [.int (nI mc), .ref q, .int (nI n)])) (f_q : μ q = some (hp_q X cap f)) : Ct l X yJx4a65c_get_915e3 cJx4a65c_get_915e3 2 (some (FieldType.object "java/lang/Object")) 2 80 0 0 [.ref l1, .int (nI i)] μ nx (hq_r X (po_r nx t (fun z => z = μ))) := by
  refine hp_met (by decide) (Nat.le_of_ble_eq_true rfl) ?_
  intro p e s m below meth c ls hx hb hml hr hlocks hown hin hS hH hl
  have hl : lv_has ls 2 [(0, .ref l1), (1, .int (nI i))] := hl
  refine lv_iload_n hx hb dJx4a65c_get_915e3_0 rfl (lv_at hl 1 rfl) ?_
  refine lv_aload_n hx hb dJx4a65c_get_915e3_1 rfl (lv_at hl 0 rfl) ?_
  refine hp_get hx hb hown hS.2.1 hH (F_Jx4a65c_48.use hS) f_l rfl dJx4a65c_get_915e3_2 ?_
  refine hp_kip (hp_runS (As := [.int (nI i), .int (nI n)]) (rest := []) hx hb hml hown hS hH (c_J15_checkIndex_7cf53 l X hi (by omega)) M_Jx4a65c_118 S_J15_checkIndex_7cf53 rfl hl.1 rfl (Nat.le_of_ble_eq_true rfl) dJx4a65c_get_915e3_5 ⟨Nat.le_of_ble_eq_true rfl, Nat.le_of_ble_eq_true rfl⟩ ⟨Nat.le_of_ble_eq_true rfl, Nat.le_of_ble_eq_true rfl⟩) hH (fun H locs hH => ?_)
  refine lv_pop hx hb dJx4a65c_get_915e3_8 rfl ?_
  refine lv_aload_n hx hb dJx4a65c_get_915e3_9 rfl (lv_at hl 0 rfl) ?_
  refine lv_iload_n hx hb dJx4a65c_get_915e3_10 rfl (lv_at hl 1 rfl) ?_
  refine hp_krp (hp_runV (As := [.int (nI i)]) (rest := []) hx hb hml hown hS hH (c_Jx4a65c_elementData_915e3 l X hi hn hc ht f_l f_q) M_Jx4a65c_123 I_Jx4a65c_elementData_915e3 V_Jx4a65c_elementData_915e3 (ci := 8) rfl rfl f_l rfl hl.1 rfl (Nat.le_of_ble_eq_true rfl) dJx4a65c_get_915e3_11 ⟨Nat.le_of_ble_eq_true rfl, Nat.le_of_ble_eq_true rfl⟩ ⟨Nat.le_of_ble_eq_true rfl, Nat.le_of_ble_eq_true rfl⟩) hH (fun H locs hH => ?_)
  exact hp_rr hx hb hr (Or.inl ⟨_, rfl⟩) hlocks hS hH (⟨rfl, rfl, rfl⟩) dJx4a65c_get_915e3_14

set_option maxHeartbeats 4000000 in
set_option maxRecDepth 100000 in
theorem c_J8_newLength_cabcc (l : Launch) (X : hp_X) {μ : hp_M} {nx : Nat} {o m1 p1 : Nat} (h1 : o < 2 ^ 20) (h2 : m1 < 2 ^ 20) (h3 : p1 < 2 ^ 20) (h4 : 0 < o)  : Ct l X yJ8_newLength_cabcc cJ8_newLength_cabcc 4 (some FieldType.int) 1 40 0 0 [.int (nI o), .int (nI m1), .int (nI p1)] μ nx (hq_i X (po_i nx (nI (o + max m1 p1)) (fun z => z = μ))) := by
  refine hp_met (by decide) (Nat.le_of_ble_eq_true rfl) ?_
  intro p e s m below meth c ls hx hb hml hr hlocks hown hin hS hH hl
  have hl : lv_has ls 4 [(0, .int (nI o)), (1, .int (nI m1)), (2, .int (nI p1))] := hl
  refine lv_iload_n hx hb dJ8_newLength_cabcc_0 rfl (lv_at hl 0 rfl) ?_
  refine lv_iload_n hx hb dJ8_newLength_cabcc_1 rfl (lv_at hl 1 rfl) ?_
  refine lv_iload_n hx hb dJ8_newLength_cabcc_2 rfl (lv_at hl 2 rfl) ?_
  refine va_mmax (rest := [.int (nI o)]) hx hb (hml.trans hl.1.symm) hown (hS.1 _ wi_324 _) (hS.1 _ S_J9_max_7cf53 _) (hS.1 _ wi_57 _) (hS.1 _ wi_326 _) (Nat.le_of_ble_eq_true rfl) (Nat.le_of_ble_eq_true rfl) (Nat.zero_le _) (Nat.zero_le _) dJ8_newLength_cabcc_3 ?_
  refine hp_eqi (z := nI (max m1 p1)) (z_max (by omega) (by omega)) ?_
  refine lv_iadd hx hb dJ8_newLength_cabcc_6 ?_
  refine hp_eqi (z := nI (o + (max m1 p1))) (nI_add _ _) ?_
  refine lv_istore_n (lv' := [(3, .int (nI (o + (max m1 p1)))), (0, .int (nI o)), (1, .int (nI m1)), (2, .int (nI p1))]) hx hb dJ8_newLength_cabcc_7 rfl hl (by decide) rfl (fun ls hl => ?_)
  refine lv_iconst (v := nI 0) hx hb dJ8_newLength_cabcc_8 (by decide) ?_
  refine lv_iload_n hx hb dJ8_newLength_cabcc_9 rfl (lv_at hl 0 rfl) ?_
  refine lv_icmp_ge (tgt := 21) hx hb dJ8_newLength_cabcc_10 (by decide) (fun c_10 => ?_) (fun c_10 => ?_)
  · have c_10 : (o + (max m1 p1)) ≤ 0 := (nI_leI (by omega) (by omega)).mp c_10
    exact absurd c_10 (by omega)
  · have c_10 : ¬ ((o + (max m1 p1)) ≤ 0) := fun z => c_10 ((nI_leI (by omega) (by omega)).mpr z)
    refine lv_iload_n hx hb dJ8_newLength_cabcc_13 rfl (lv_at hl 0 rfl) ?_
    refine lv_ldc hx hb hown (hS.1 _ wi_327 _) dJ8_newLength_cabcc_14 ?_
    refine hp_eqi (z := nI 2147483639) (by decide) ?_
    refine lv_icmp_gt (tgt := 21) hx hb dJ8_newLength_cabcc_16 (by decide) (fun c_16 => ?_) (fun c_16 => ?_)
    · have c_16 : 2147483639 < (o + (max m1 p1)) := (nI_ltI (by omega) (by omega)).mp c_16
      exact absurd c_16 (by omega)
    · have c_16 : ¬ (2147483639 < (o + (max m1 p1))) := fun z => c_16 ((nI_ltI (by omega) (by omega)).mpr z)
      refine lv_iload_n hx hb dJ8_newLength_cabcc_19 rfl (lv_at hl 0 rfl) ?_
      exact hp_ri hx hb hr hlocks hS hH (⟨rfl, rfl, rfl⟩) dJ8_newLength_cabcc_20

set_option maxHeartbeats 4000000 in
set_option maxRecDepth 100000 in
theorem c_J7_copyOf_6403c (l : Launch) (X : hp_X) {μ : hp_M} {nx : Nat} {q cap N : Nat} {f : Nat → Option Nat} (hc : cap < 2 ^ 20) (hN : N < 2 ^ 20) (hcN : cap ≤ N) (hfe : ∀ i, i < cap → ∀ y, f i = some y → ∃ fs, μ y = some (.inr (5, fs))) (f_q : μ q = some (hp_q X cap f)) : Ct l X yJ7_copyOf_6403c cJ7_copyOf_6403c 4 (some (FieldType.array (FieldType.object "java/lang/Object"))) 1 40 1 N [.ref q, .int (nI N), .ref (X.2.2.2 17)] μ nx (hq_r X (po_r (nx + 1) nx (fun z => z nx = some (hp_q X N (va_cpy f (fun _ => none) 0 0 cap)) ∧ hp_eq [nx] z μ))) := by
  refine hp_met (by decide) (Nat.le_of_ble_eq_true rfl) ?_
  intro p e s m below meth c ls hx hb hml hr hlocks hown hin hS hH hl
  have hl : lv_has ls 4 [(0, .ref q), (1, .int (nI N)), (2, .ref (X.2.2.2 17))] := hl
  have fr : hp_eq [nx] μ μ := fun _ _ => rfl
  have hlt_q := hH.lt f_q
  refine lv_aload_n hx hb dJ7_copyOf_6403c_0 rfl (lv_at hl 2 rfl) ?_
  refine hp_ldcM hx hb hown hS dJ7_copyOf_6403c_1 ?_
  refine hp_acmp_ne (tgt := 13) hx hb dJ7_copyOf_6403c_3 (by decide) (fun c_3 => absurd rfl c_3) (fun c_3 => ?_)
  refine lv_iload_n hx hb dJ7_copyOf_6403c_6 rfl (lv_at hl 1 rfl) ?_
  have hO := hH
  refine hp_newq hx hb hown hS wl_a2 hH (by omega) (Nat.le_of_ble_eq_true rfl) (by show 0 + N ≤ N; omega) dJ7_copyOf_6403c_7 (fun H μ1 fz fn hH => ?_)
  have hfe := fun i hi y hy => (hfe i hi y hy).imp (fun fs h => (fn _ (Nat.ne_of_lt (hO.lt h))).trans h)
  have f_q := (fn _ (Nat.ne_of_lt (hO.lt f_q))).trans f_q
  have f_n0 : μ1 nx = some (hp_q X N (fun _ => none)) := fz
  have fr := hp_eq.put fr (by simp) fn
  clear fz fn hO
  refine lv_goto (tgt := 24) hx hb dJ7_copyOf_6403c_10 (by decide) ?_
  refine lv_astore_n (lv' := [(3, .ref nx), (0, .ref q), (1, .int (nI N)), (2, .ref (X.2.2.2 17))]) hx hb dJ7_copyOf_6403c_24 rfl hl (by decide) rfl (fun ls hl => ?_)
  refine lv_aload_n hx hb dJ7_copyOf_6403c_25 rfl (lv_at hl 1 rfl) ?_
  refine lv_iconst (v := nI 0) hx hb dJ7_copyOf_6403c_26 (by decide) ?_
  refine lv_aload_n hx hb dJ7_copyOf_6403c_27 rfl (lv_at hl 0 rfl) ?_
  refine lv_iconst (v := nI 0) hx hb dJ7_copyOf_6403c_28 (by decide) ?_
  refine lv_aload_n hx hb dJ7_copyOf_6403c_29 rfl (lv_at hl 1 rfl) ?_
  refine hp_alen (w := nI cap) hx hb hS.aq hH f_q rfl dJ7_copyOf_6403c_30 ?_
  refine lv_iload_n hx hb dJ7_copyOf_6403c_31 rfl (lv_at hl 2 rfl) ?_
  refine va_mmin (rest := [.int (nI 0), .ref nx, .int (nI 0), .ref q]) hx hb (hml.trans hl.1.symm) hown (hS.1 _ wi_355 _) (hS.1 _ S_J9_min_7cf53 _) (hS.1 _ wi_57 _) (hS.1 _ wi_357 _) (Nat.le_of_ble_eq_true rfl) (Nat.le_of_ble_eq_true rfl) (Nat.le_of_ble_eq_true rfl) (by show 0 + N ≤ N; omega) dJ7_copyOf_6403c_32 ?_
  refine hp_eqi (z := nI (min cap N)) (z_min (by omega) (by omega)) ?_
  refine hp_eqi (z := nI cap) (by congr 1; omega) ?_
  refine hp_copyq (a := nx) (a0 := q) hx hb (hml.trans hl.1.symm) hown hS hH f_q f_n0 (by omega) (by omega) (by omega) (fun i hi y hy => (hfe i hi y hy).elim (fun fs h => hp_any hS hH rfl h wl_ct)) (Nat.le_of_ble_eq_true rfl) (show 0 + (nativeFrameWords "java/lang/System" "arraycopy" 5 + 11) ≤ 40 by decide) dJ7_copyOf_6403c_35 (fun H locs μ1 fz fn hH => ?_)
  have f_q := (fn _ (by omega)).trans f_q
  have f_n0 : μ1 nx = some (hp_q X N (va_cpy f (fun _ => none) 0 0 cap)) := fz
  have fr := hp_eq.put fr (by simp) fn
  clear fz fn
  refine lv_aload_n hx hb dJ7_copyOf_6403c_38 rfl (lv_at hl 0 rfl) ?_
  refine W.widen (k := 1) (n := N) (by omega) (by omega) ?_
  exact hp_rr hx hb hr (Or.inr ⟨_, rfl⟩) hlocks hS hH (⟨rfl, rfl, f_n0, fr⟩) dJ7_copyOf_6403c_39

set_option maxHeartbeats 4000000 in
set_option maxRecDepth 100000 in
theorem c_J7_copyOf_1904c (l : Launch) (X : hp_X) {μ : hp_M} {nx : Nat} {q cap N : Nat} {f : Nat → Option Nat} (hc : cap < 2 ^ 20) (hN : N < 2 ^ 20) (hcN : cap ≤ N) (hfe : ∀ i, i < cap → ∀ y, f i = some y → ∃ fs, μ y = some (.inr (5, fs))) (f_q : μ q = some (hp_q X cap f)) : Ct l X yJ7_copyOf_1904c cJ7_copyOf_1904c 2 (some (FieldType.array (FieldType.object "java/lang/Object"))) 2 80 1 N [.ref q, .int (nI N)] μ nx (hq_r X (po_r (nx + 1) nx (fun z => z nx = some (hp_q X N (va_cpy f (fun _ => none) 0 0 cap)) ∧ hp_eq [nx] z μ))) := by
  refine hp_met (by decide) (Nat.le_of_ble_eq_true rfl) ?_
  intro p e s m below meth c ls hx hb hml hr hlocks hown hin hS hH hl
  have hl : lv_has ls 2 [(0, .ref q), (1, .int (nI N))] := hl
  have fr : hp_eq [nx] μ μ := fun _ _ => rfl
  have hlt_q := hH.lt f_q
  refine lv_aload_n hx hb dJ7_copyOf_1904c_0 rfl (lv_at hl 0 rfl) ?_
  refine lv_iload_n hx hb dJ7_copyOf_1904c_1 rfl (lv_at hl 1 rfl) ?_
  refine lv_aload_n hx hb dJ7_copyOf_1904c_2 rfl (lv_at hl 0 rfl) ?_
  refine hp_getC hx hb (hml.trans hl.1.symm) hown hS hH f_q (Nat.le_of_ble_eq_true rfl) (Nat.le_of_ble_eq_true rfl) dJ7_copyOf_1904c_3 ?_
  have hO := hH
  refine hp_krm (hp_runS (As := [.ref q, .int (nI N), .ref (X.2.2.2 17)]) (rest := []) hx hb hml hown hS hH (c_J7_copyOf_6403c l X hc hN hcN hfe f_q) M_J7_300 S_J7_copyOf_6403c rfl hl.1 rfl (Nat.le_of_ble_eq_true rfl) dJ7_copyOf_1904c_6 ⟨Nat.le_of_ble_eq_true rfl, Nat.le_of_ble_eq_true rfl⟩ ⟨Nat.le_of_ble_eq_true rfl, (by show 0 + N ≤ N; omega)⟩) hH (fun μ1 H locs hp hH => ?_)
  obtain ⟨fz0, fe⟩ := hp
  have f_q := (hp_e1 fe (Nat.ne_of_lt (hO.lt f_q))).trans f_q
  have f_n0 : μ1 nx = some (hp_q X N (va_cpy f (fun _ => none) 0 0 cap)) := fz0
  have fr := hp_eq.tr1 fe fr (by simp)
  clear fe fz0 hO
  refine W.widen (k := 1) (n := N) (by omega) (by omega) ?_
  exact hp_rr hx hb hr (Or.inr ⟨_, rfl⟩) hlocks hS hH (⟨rfl, rfl, f_n0, fr⟩) dJ7_copyOf_1904c_9

set_option maxHeartbeats 4000000 in
set_option maxRecDepth 100000 in
theorem c_grow_first (l : Launch) (X : hp_X) {μ : hp_M} {nx : Nat} {l1 mc : Nat} (f_l : μ l1 = some (hp_o 8 [.int (nI mc), .ref (X.2.2.2 16), .int (nI 0)])) : Ct l X yJx4a65c_grow_92f84 cJx4a65c_grow_92f84 4 (some (FieldType.array (FieldType.object "java/lang/Object"))) 3 120 1 10 [.ref l1, .int (nI 1)] μ nx (hq_r X (po_r (nx + 1) nx (fun z => z l1 = some (hp_o 8 [.int (nI mc), .ref nx, .int (nI 0)]) ∧ z nx = some (hp_q X 10 (fun _ => none)) ∧ hp_eq [l1, nx] z μ))) := by
  refine hp_met (by decide) (Nat.le_of_ble_eq_true rfl) ?_
  intro p e s m below meth c ls hx hb hml hr hlocks hown hin hS hH hl
  have hl : lv_has ls 4 [(0, .ref l1), (1, .int (nI 1))] := hl
  have fr : hp_eq [l1, nx] μ μ := fun _ _ => rfl
  have hlt_l := hH.lt f_l
  refine lv_aload_n hx hb dJx4a65c_grow_92f84_0 rfl (lv_at hl 0 rfl) ?_
  refine hp_get hx hb hown hS.2.1 hH (F_Jx4a65c_9.use hS) f_l rfl dJx4a65c_grow_92f84_1 ?_
  refine hp_tlen hx hb hS.2.2.2.2.2.2.2.1 hH dJx4a65c_grow_92f84_4 ?_
  refine lv_istore_n (lv' := [(2, .int (nI 0)), (0, .ref l1), (1, .int (nI 1))]) hx hb dJx4a65c_grow_92f84_5 rfl hl (by decide) rfl (fun ls hl => ?_)
  refine lv_iload_n hx hb dJx4a65c_grow_92f84_6 rfl (lv_at hl 0 rfl) ?_
  refine lv_if_gt (tgt := 20) hx hb dJx4a65c_grow_92f84_7 (by decide) (fun c_7 => ?_) (fun c_7 => ?_)
  · exact absurd c_7 (by decide)
  · have c_7 : 0 = 0 := nz_ngt (by omega) c_7
    refine lv_aload_n hx hb dJx4a65c_grow_92f84_10 rfl (lv_at hl 1 rfl) ?_
    refine hp_get hx hb hown hS.2.1 hH (F_Jx4a65c_9.use hS) f_l rfl dJx4a65c_grow_92f84_11 ?_
    refine hp_gets hx hb hS.em hH hown G_Jx4a65c_39 hS dJx4a65c_grow_92f84_14 ?_
    refine hp_acmp_eq (tgt := 45) hx hb dJx4a65c_grow_92f84_17 (by decide) (fun c_17 => ?_) (fun c_17 => absurd rfl c_17)
    refine lv_aload_n hx hb dJx4a65c_grow_92f84_45 rfl (lv_at hl 1 rfl) ?_
    refine lv_bipush (v := nI 10) hx hb dJx4a65c_grow_92f84_46 (by decide) ?_
    refine lv_iload_n hx hb dJx4a65c_grow_92f84_48 rfl (lv_at hl 2 rfl) ?_
    refine va_mmax (rest := [.ref l1]) hx hb (hml.trans hl.1.symm) hown (hS.1 _ wi_361 _) (hS.1 _ S_J9_max_7cf53 _) (hS.1 _ wi_57 _) (hS.1 _ wi_326 _) (Nat.le_of_ble_eq_true rfl) (Nat.le_of_ble_eq_true rfl) (Nat.zero_le _) (Nat.zero_le _) dJx4a65c_grow_92f84_49 ?_
    refine hp_eqi (z := nI (max 10 1)) (z_max (by omega) (by omega)) ?_
    refine hp_eqi (z := nI 10) rfl ?_
    have hO := hH
    refine hp_newq hx hb hown hS wl_a7 hH (by omega) (Nat.le_of_ble_eq_true rfl) (Nat.le_of_ble_eq_true rfl) dJx4a65c_grow_92f84_52 (fun H μ1 fz fn hH => ?_)
    have f_l := (fn _ (Nat.ne_of_lt (hO.lt f_l))).trans f_l
    have f_n0 : μ1 nx = some (hp_q X 10 (fun _ => none)) := fz
    have fr := hp_eq.put fr (by simp) fn
    clear fz fn hO
    refine lv_dup_x1 hx hb dJx4a65c_grow_92f84_55 rfl rfl ?_
    refine hp_put hx hb hown hS.2.1 hH (P_Jx4a65c_9.use hS) f_l rfl rfl (Nat.le_of_ble_eq_true rfl) dJx4a65c_grow_92f84_56 (fun H locs μ1 fz fn hH => ?_)
    have f_n0 := (fn _ (by omega)).trans f_n0
    have f_l : μ1 l1 = some (hp_o 8 [.int (nI mc), .ref nx, .int (nI 0)]) := fz
    have fr := hp_eq.put fr (by simp) fn
    clear fz fn
    refine W.widen (k := 1) (n := 10) (by decide) (by decide) ?_
    exact hp_rr hx hb hr (Or.inr ⟨_, rfl⟩) hlocks hS hH (⟨rfl, rfl, f_l, f_n0, fr⟩) dJx4a65c_grow_92f84_59

set_option maxHeartbeats 4000000 in
set_option maxRecDepth 100000 in
theorem c_grow_10 (l : Launch) (X : hp_X) {μ : hp_M} {nx : Nat} {l1 mc q : Nat} {f : Nat → Option Nat} (hfe : ∀ i, i < 10 → ∀ y, f i = some y → ∃ fs, μ y = some (.inr (5, fs))) (f_l : μ l1 = some (hp_o 8 [.int (nI mc), .ref q, .int (nI 10)])) (f_q : μ q = some (hp_q X 10 f)) : Ct l X yJx4a65c_grow_92f84 cJx4a65c_grow_92f84 4 (some (FieldType.array (FieldType.object "java/lang/Object"))) 3 120 1 15 [.ref l1, .int (nI 11)] μ nx (hq_r X (po_r (nx + 1) nx (fun z => z l1 = some (hp_o 8 [.int (nI mc), .ref nx, .int (nI 10)]) ∧ z nx = some (hp_q X 15 (va_cpy f (fun _ => none) 0 0 10)) ∧ hp_eq [l1, nx] z μ))) := by
  refine hp_met (by decide) (Nat.le_of_ble_eq_true rfl) ?_
  intro p e s m below meth c ls hx hb hml hr hlocks hown hin hS hH hl
  have hl : lv_has ls 4 [(0, .ref l1), (1, .int (nI 11))] := hl
  have fr : hp_eq [l1, nx] μ μ := fun _ _ => rfl
  have hlt_l := hH.lt f_l
  have hlt_q := hH.lt f_q
  refine lv_aload_n hx hb dJx4a65c_grow_92f84_0 rfl (lv_at hl 0 rfl) ?_
  refine hp_get hx hb hown hS.2.1 hH (F_Jx4a65c_9.use hS) f_l rfl dJx4a65c_grow_92f84_1 ?_
  refine hp_alen (w := nI 10) hx hb hS.aq hH f_q rfl dJx4a65c_grow_92f84_4 ?_
  refine lv_istore_n (lv' := [(2, .int (nI 10)), (0, .ref l1), (1, .int (nI 11))]) hx hb dJx4a65c_grow_92f84_5 rfl hl (by decide) rfl (fun ls hl => ?_)
  refine lv_iload_n hx hb dJx4a65c_grow_92f84_6 rfl (lv_at hl 0 rfl) ?_
  refine lv_if_gt (tgt := 20) hx hb dJx4a65c_grow_92f84_7 (by decide) (fun c_7 => ?_) (fun c_7 => ?_)
  · have c_7 : 0 < 10 := nz_gt (by omega) c_7
    refine lv_iload_n hx hb dJx4a65c_grow_92f84_20 rfl (lv_at hl 0 rfl) ?_
    refine lv_iload_n hx hb dJx4a65c_grow_92f84_21 rfl (lv_at hl 2 rfl) ?_
    refine lv_iload_n hx hb dJx4a65c_grow_92f84_22 rfl (lv_at hl 0 rfl) ?_
    refine lv_isub hx hb dJx4a65c_grow_92f84_23 ?_
    refine hp_eqi (z := nI 1) (by decide) ?_
    refine lv_iload_n hx hb dJx4a65c_grow_92f84_24 rfl (lv_at hl 0 rfl) ?_
    refine lv_iconst (v := nI 1) hx hb dJx4a65c_grow_92f84_25 (by decide) ?_
    refine lv_ishr hx hb dJx4a65c_grow_92f84_26 ?_
    refine hp_eqi (z := nI 5) (by decide) ?_
    refine hp_kip (hp_runS (As := [.int (nI 10), .int (nI 1), .int (nI 5)]) (rest := []) hx hb hml hown hS hH (c_J8_newLength_cabcc l X (o := 10) (m1 := 1) (p1 := 5) (by decide) (by decide) (by decide) (by decide)) M_Jx4a65c_73 S_J8_newLength_cabcc rfl hl.1 rfl (Nat.le_of_ble_eq_true rfl) dJx4a65c_grow_92f84_27 ⟨Nat.le_of_ble_eq_true rfl, Nat.le_of_ble_eq_true rfl⟩ ⟨Nat.le_of_ble_eq_true rfl, Nat.le_of_ble_eq_true rfl⟩) hH (fun H locs hH => ?_)
    refine hp_eqi (z := nI 15) rfl ?_
    refine lv_istore_n (lv' := [(3, .int (nI 15)), (2, .int (nI 10)), (0, .ref l1), (1, .int (nI 11))]) hx hb dJx4a65c_grow_92f84_30 rfl hl (by decide) rfl (fun ls hl => ?_)
    refine lv_aload_n hx hb dJx4a65c_grow_92f84_31 rfl (lv_at hl 2 rfl) ?_
    refine lv_aload_n hx hb dJx4a65c_grow_92f84_32 rfl (lv_at hl 2 rfl) ?_
    refine hp_get hx hb hown hS.2.1 hH (F_Jx4a65c_9.use hS) f_l rfl dJx4a65c_grow_92f84_33 ?_
    refine lv_iload_n hx hb dJx4a65c_grow_92f84_36 rfl (lv_at hl 0 rfl) ?_
    have hO := hH
    refine hp_krm (hp_runS (As := [.ref q, .int (nI 15)]) (rest := [.ref l1]) hx hb hml hown hS hH (c_J7_copyOf_1904c l X (N := 15) (by decide) (by decide) (by decide) hfe f_q) M_Jx4a65c_66 S_J7_copyOf_1904c rfl hl.1 rfl (Nat.le_of_ble_eq_true rfl) dJx4a65c_grow_92f84_37 ⟨Nat.le_of_ble_eq_true rfl, Nat.le_of_ble_eq_true rfl⟩ ⟨Nat.le_of_ble_eq_true rfl, Nat.le_of_ble_eq_true rfl⟩) hH (fun μ1 H locs hp hH => ?_)
    obtain ⟨fz0, fe⟩ := hp
    have f_l := (hp_e1 fe (Nat.ne_of_lt (hO.lt f_l))).trans f_l
    have f_q := (hp_e1 fe (Nat.ne_of_lt (hO.lt f_q))).trans f_q
    have f_n0 : μ1 nx = some (hp_q X 15 (va_cpy f (fun _ => none) 0 0 10)) := fz0
    have fr := hp_eq.tr1 fe fr (by simp)
    clear fe fz0 hO
    refine lv_dup_x1 hx hb dJx4a65c_grow_92f84_40 rfl rfl ?_
    refine hp_put hx hb hown hS.2.1 hH (P_Jx4a65c_9.use hS) f_l rfl rfl (Nat.le_of_ble_eq_true rfl) dJx4a65c_grow_92f84_41 (fun H locs μ1 fz fn hH => ?_)
    have f_q := (fn _ (hp_ne f_q f_l (by simp))).trans f_q
    have f_n0 := (fn _ (by omega)).trans f_n0
    have f_l : μ1 l1 = some (hp_o 8 [.int (nI mc), .ref nx, .int (nI 10)]) := fz
    have fr := hp_eq.put fr (by simp) fn
    clear fz fn
    refine W.widen (k := 1) (n := 15) (by decide) (by decide) ?_
    exact hp_rr hx hb hr (Or.inr ⟨_, rfl⟩) hlocks hS hH (⟨rfl, rfl, f_l, f_n0, fr⟩) dJx4a65c_grow_92f84_44
  · exact absurd c_7 (by decide)

set_option maxHeartbeats 4000000 in
set_option maxRecDepth 100000 in
theorem c_grow_15 (l : Launch) (X : hp_X) {μ : hp_M} {nx : Nat} {l1 mc q : Nat} {f : Nat → Option Nat} (hfe : ∀ i, i < 15 → ∀ y, f i = some y → ∃ fs, μ y = some (.inr (5, fs))) (f_l : μ l1 = some (hp_o 8 [.int (nI mc), .ref q, .int (nI 15)])) (f_q : μ q = some (hp_q X 15 f)) : Ct l X yJx4a65c_grow_92f84 cJx4a65c_grow_92f84 4 (some (FieldType.array (FieldType.object "java/lang/Object"))) 3 120 1 22 [.ref l1, .int (nI 16)] μ nx (hq_r X (po_r (nx + 1) nx (fun z => z l1 = some (hp_o 8 [.int (nI mc), .ref nx, .int (nI 15)]) ∧ z nx = some (hp_q X 22 (va_cpy f (fun _ => none) 0 0 15)) ∧ hp_eq [l1, nx] z μ))) := by
  refine hp_met (by decide) (Nat.le_of_ble_eq_true rfl) ?_
  intro p e s m below meth c ls hx hb hml hr hlocks hown hin hS hH hl
  have hl : lv_has ls 4 [(0, .ref l1), (1, .int (nI 16))] := hl
  have fr : hp_eq [l1, nx] μ μ := fun _ _ => rfl
  have hlt_l := hH.lt f_l
  have hlt_q := hH.lt f_q
  refine lv_aload_n hx hb dJx4a65c_grow_92f84_0 rfl (lv_at hl 0 rfl) ?_
  refine hp_get hx hb hown hS.2.1 hH (F_Jx4a65c_9.use hS) f_l rfl dJx4a65c_grow_92f84_1 ?_
  refine hp_alen (w := nI 15) hx hb hS.aq hH f_q rfl dJx4a65c_grow_92f84_4 ?_
  refine lv_istore_n (lv' := [(2, .int (nI 15)), (0, .ref l1), (1, .int (nI 16))]) hx hb dJx4a65c_grow_92f84_5 rfl hl (by decide) rfl (fun ls hl => ?_)
  refine lv_iload_n hx hb dJx4a65c_grow_92f84_6 rfl (lv_at hl 0 rfl) ?_
  refine lv_if_gt (tgt := 20) hx hb dJx4a65c_grow_92f84_7 (by decide) (fun c_7 => ?_) (fun c_7 => ?_)
  · have c_7 : 0 < 15 := nz_gt (by omega) c_7
    refine lv_iload_n hx hb dJx4a65c_grow_92f84_20 rfl (lv_at hl 0 rfl) ?_
    refine lv_iload_n hx hb dJx4a65c_grow_92f84_21 rfl (lv_at hl 2 rfl) ?_
    refine lv_iload_n hx hb dJx4a65c_grow_92f84_22 rfl (lv_at hl 0 rfl) ?_
    refine lv_isub hx hb dJx4a65c_grow_92f84_23 ?_
    refine hp_eqi (z := nI 1) (by decide) ?_
    refine lv_iload_n hx hb dJx4a65c_grow_92f84_24 rfl (lv_at hl 0 rfl) ?_
    refine lv_iconst (v := nI 1) hx hb dJx4a65c_grow_92f84_25 (by decide) ?_
    refine lv_ishr hx hb dJx4a65c_grow_92f84_26 ?_
    refine hp_eqi (z := nI 7) (by decide) ?_
    refine hp_kip (hp_runS (As := [.int (nI 15), .int (nI 1), .int (nI 7)]) (rest := []) hx hb hml hown hS hH (c_J8_newLength_cabcc l X (o := 15) (m1 := 1) (p1 := 7) (by decide) (by decide) (by decide) (by decide)) M_Jx4a65c_73 S_J8_newLength_cabcc rfl hl.1 rfl (Nat.le_of_ble_eq_true rfl) dJx4a65c_grow_92f84_27 ⟨Nat.le_of_ble_eq_true rfl, Nat.le_of_ble_eq_true rfl⟩ ⟨Nat.le_of_ble_eq_true rfl, Nat.le_of_ble_eq_true rfl⟩) hH (fun H locs hH => ?_)
    refine hp_eqi (z := nI 22) rfl ?_
    refine lv_istore_n (lv' := [(3, .int (nI 22)), (2, .int (nI 15)), (0, .ref l1), (1, .int (nI 16))]) hx hb dJx4a65c_grow_92f84_30 rfl hl (by decide) rfl (fun ls hl => ?_)
    refine lv_aload_n hx hb dJx4a65c_grow_92f84_31 rfl (lv_at hl 2 rfl) ?_
    refine lv_aload_n hx hb dJx4a65c_grow_92f84_32 rfl (lv_at hl 2 rfl) ?_
    refine hp_get hx hb hown hS.2.1 hH (F_Jx4a65c_9.use hS) f_l rfl dJx4a65c_grow_92f84_33 ?_
    refine lv_iload_n hx hb dJx4a65c_grow_92f84_36 rfl (lv_at hl 0 rfl) ?_
    have hO := hH
    refine hp_krm (hp_runS (As := [.ref q, .int (nI 22)]) (rest := [.ref l1]) hx hb hml hown hS hH (c_J7_copyOf_1904c l X (N := 22) (by decide) (by decide) (by decide) hfe f_q) M_Jx4a65c_66 S_J7_copyOf_1904c rfl hl.1 rfl (Nat.le_of_ble_eq_true rfl) dJx4a65c_grow_92f84_37 ⟨Nat.le_of_ble_eq_true rfl, Nat.le_of_ble_eq_true rfl⟩ ⟨Nat.le_of_ble_eq_true rfl, Nat.le_of_ble_eq_true rfl⟩) hH (fun μ1 H locs hp hH => ?_)
    obtain ⟨fz0, fe⟩ := hp
    have f_l := (hp_e1 fe (Nat.ne_of_lt (hO.lt f_l))).trans f_l
    have f_q := (hp_e1 fe (Nat.ne_of_lt (hO.lt f_q))).trans f_q
    have f_n0 : μ1 nx = some (hp_q X 22 (va_cpy f (fun _ => none) 0 0 15)) := fz0
    have fr := hp_eq.tr1 fe fr (by simp)
    clear fe fz0 hO
    refine lv_dup_x1 hx hb dJx4a65c_grow_92f84_40 rfl rfl ?_
    refine hp_put hx hb hown hS.2.1 hH (P_Jx4a65c_9.use hS) f_l rfl rfl (Nat.le_of_ble_eq_true rfl) dJx4a65c_grow_92f84_41 (fun H locs μ1 fz fn hH => ?_)
    have f_q := (fn _ (hp_ne f_q f_l (by simp))).trans f_q
    have f_n0 := (fn _ (by omega)).trans f_n0
    have f_l : μ1 l1 = some (hp_o 8 [.int (nI mc), .ref nx, .int (nI 15)]) := fz
    have fr := hp_eq.put fr (by simp) fn
    clear fz fn
    refine W.widen (k := 1) (n := 22) (by decide) (by decide) ?_
    exact hp_rr hx hb hr (Or.inr ⟨_, rfl⟩) hlocks hS hH (⟨rfl, rfl, f_l, f_n0, fr⟩) dJx4a65c_grow_92f84_44
  · exact absurd c_7 (by decide)

set_option maxHeartbeats 4000000 in
set_option maxRecDepth 100000 in
theorem c_grow0_first (l : Launch) (X : hp_X) {μ : hp_M} {nx : Nat} {l1 mc : Nat} (f_l : μ l1 = some (hp_o 8 [.int (nI mc), .ref (X.2.2.2 16), .int (nI 0)])) : Ct l X yJx4a65c_grow_d5877 cJx4a65c_grow_d5877 1 (some (FieldType.array (FieldType.object "java/lang/Object"))) 4 160 1 10 [.ref l1] μ nx (hq_r X (po_r (nx + 1) nx (fun z => z l1 = some (hp_o 8 [.int (nI mc), .ref nx, .int (nI 0)]) ∧ z nx = some (hp_q X 10 (fun _ => none)) ∧ hp_eq [l1, nx] z μ))) := by
  refine hp_met (by decide) (Nat.le_of_ble_eq_true rfl) ?_
  intro p e s m below meth c ls hx hb hml hr hlocks hown hin hS hH hl
  have hl : lv_has ls 1 [(0, .ref l1)] := hl
  have fr : hp_eq [l1, nx] μ μ := fun _ _ => rfl
  have hlt_l := hH.lt f_l
  refine lv_aload_n hx hb dJx4a65c_grow_d5877_0 rfl (lv_at hl 0 rfl) ?_
  refine lv_aload_n hx hb dJx4a65c_grow_d5877_1 rfl (lv_at hl 0 rfl) ?_
  refine hp_get hx hb hown hS.2.1 hH (F_Jx4a65c_48.use hS) f_l rfl dJx4a65c_grow_d5877_2 ?_
  refine lv_iconst (v := nI 1) hx hb dJx4a65c_grow_d5877_5 (by decide) ?_
  refine lv_iadd hx hb dJx4a65c_grow_d5877_6 ?_
  refine hp_eqi (z := nI 1) (nI_add _ _) ?_
  have hO := hH
  refine hp_krm (hp_runV (As := [.int (nI 1)]) (rest := []) hx hb hml hown hS hH (c_grow_first l X f_l) M_Jx4a65c_69 I_Jx4a65c_grow_92f84 V_Jx4a65c_grow_92f84 (ci := 8) rfl rfl f_l rfl hl.1 rfl (Nat.le_of_ble_eq_true rfl) dJx4a65c_grow_d5877_7 ⟨Nat.le_of_ble_eq_true rfl, Nat.le_of_ble_eq_true rfl⟩ ⟨Nat.le_of_ble_eq_true rfl, Nat.le_of_ble_eq_true rfl⟩) hH (fun μ1 H locs hp hH => ?_)
  obtain ⟨fz0, fz1, fe⟩ := hp
  have f_l : μ1 l1 = some (hp_o 8 [.int (nI mc), .ref nx, .int (nI 0)]) := fz0
  have f_n0 : μ1 nx = some (hp_q X 10 (fun _ => none)) := fz1
  have fr := hp_eq.tr2 fe fr (by simp) (by simp)
  clear fe fz0 fz1 hO
  refine W.widen (k := 1) (n := 10) (by decide) (by decide) ?_
  exact hp_rr hx hb hr (Or.inr ⟨_, rfl⟩) hlocks hS hH (⟨rfl, rfl, f_l, f_n0, fr⟩) dJx4a65c_grow_d5877_10

set_option maxHeartbeats 4000000 in
set_option maxRecDepth 100000 in
theorem c_grow0_10 (l : Launch) (X : hp_X) {μ : hp_M} {nx : Nat} {l1 mc q : Nat} {f : Nat → Option Nat} (hfe : ∀ i, i < 10 → ∀ y, f i = some y → ∃ fs, μ y = some (.inr (5, fs))) (f_l : μ l1 = some (hp_o 8 [.int (nI mc), .ref q, .int (nI 10)])) (f_q : μ q = some (hp_q X 10 f)) : Ct l X yJx4a65c_grow_d5877 cJx4a65c_grow_d5877 1 (some (FieldType.array (FieldType.object "java/lang/Object"))) 4 160 1 15 [.ref l1] μ nx (hq_r X (po_r (nx + 1) nx (fun z => z l1 = some (hp_o 8 [.int (nI mc), .ref nx, .int (nI 10)]) ∧ z nx = some (hp_q X 15 (va_cpy f (fun _ => none) 0 0 10)) ∧ hp_eq [l1, nx] z μ))) := by
  refine hp_met (by decide) (Nat.le_of_ble_eq_true rfl) ?_
  intro p e s m below meth c ls hx hb hml hr hlocks hown hin hS hH hl
  have hl : lv_has ls 1 [(0, .ref l1)] := hl
  have fr : hp_eq [l1, nx] μ μ := fun _ _ => rfl
  have hlt_l := hH.lt f_l
  have hlt_q := hH.lt f_q
  refine lv_aload_n hx hb dJx4a65c_grow_d5877_0 rfl (lv_at hl 0 rfl) ?_
  refine lv_aload_n hx hb dJx4a65c_grow_d5877_1 rfl (lv_at hl 0 rfl) ?_
  refine hp_get hx hb hown hS.2.1 hH (F_Jx4a65c_48.use hS) f_l rfl dJx4a65c_grow_d5877_2 ?_
  refine lv_iconst (v := nI 1) hx hb dJx4a65c_grow_d5877_5 (by decide) ?_
  refine lv_iadd hx hb dJx4a65c_grow_d5877_6 ?_
  refine hp_eqi (z := nI 11) (nI_add _ _) ?_
  have hO := hH
  refine hp_krm (hp_runV (As := [.int (nI 11)]) (rest := []) hx hb hml hown hS hH (c_grow_10 l X hfe f_l f_q) M_Jx4a65c_69 I_Jx4a65c_grow_92f84 V_Jx4a65c_grow_92f84 (ci := 8) rfl rfl f_l rfl hl.1 rfl (Nat.le_of_ble_eq_true rfl) dJx4a65c_grow_d5877_7 ⟨Nat.le_of_ble_eq_true rfl, Nat.le_of_ble_eq_true rfl⟩ ⟨Nat.le_of_ble_eq_true rfl, Nat.le_of_ble_eq_true rfl⟩) hH (fun μ1 H locs hp hH => ?_)
  obtain ⟨fz0, fz1, fe⟩ := hp
  have f_q := (hp_e2 fe (hp_ne f_q f_l (by simp)) (Nat.ne_of_lt (hO.lt f_q))).trans f_q
  have f_l : μ1 l1 = some (hp_o 8 [.int (nI mc), .ref nx, .int (nI 10)]) := fz0
  have f_n0 : μ1 nx = some (hp_q X 15 (va_cpy f (fun _ => none) 0 0 10)) := fz1
  have fr := hp_eq.tr2 fe fr (by simp) (by simp)
  clear fe fz0 fz1 hO
  refine W.widen (k := 1) (n := 15) (by decide) (by decide) ?_
  exact hp_rr hx hb hr (Or.inr ⟨_, rfl⟩) hlocks hS hH (⟨rfl, rfl, f_l, f_n0, fr⟩) dJx4a65c_grow_d5877_10

set_option maxHeartbeats 4000000 in
set_option maxRecDepth 100000 in
theorem c_grow0_15 (l : Launch) (X : hp_X) {μ : hp_M} {nx : Nat} {l1 mc q : Nat} {f : Nat → Option Nat} (hfe : ∀ i, i < 15 → ∀ y, f i = some y → ∃ fs, μ y = some (.inr (5, fs))) (f_l : μ l1 = some (hp_o 8 [.int (nI mc), .ref q, .int (nI 15)])) (f_q : μ q = some (hp_q X 15 f)) : Ct l X yJx4a65c_grow_d5877 cJx4a65c_grow_d5877 1 (some (FieldType.array (FieldType.object "java/lang/Object"))) 4 160 1 22 [.ref l1] μ nx (hq_r X (po_r (nx + 1) nx (fun z => z l1 = some (hp_o 8 [.int (nI mc), .ref nx, .int (nI 15)]) ∧ z nx = some (hp_q X 22 (va_cpy f (fun _ => none) 0 0 15)) ∧ hp_eq [l1, nx] z μ))) := by
  refine hp_met (by decide) (Nat.le_of_ble_eq_true rfl) ?_
  intro p e s m below meth c ls hx hb hml hr hlocks hown hin hS hH hl
  have hl : lv_has ls 1 [(0, .ref l1)] := hl
  have fr : hp_eq [l1, nx] μ μ := fun _ _ => rfl
  have hlt_l := hH.lt f_l
  have hlt_q := hH.lt f_q
  refine lv_aload_n hx hb dJx4a65c_grow_d5877_0 rfl (lv_at hl 0 rfl) ?_
  refine lv_aload_n hx hb dJx4a65c_grow_d5877_1 rfl (lv_at hl 0 rfl) ?_
  refine hp_get hx hb hown hS.2.1 hH (F_Jx4a65c_48.use hS) f_l rfl dJx4a65c_grow_d5877_2 ?_
  refine lv_iconst (v := nI 1) hx hb dJx4a65c_grow_d5877_5 (by decide) ?_
  refine lv_iadd hx hb dJx4a65c_grow_d5877_6 ?_
  refine hp_eqi (z := nI 16) (nI_add _ _) ?_
  have hO := hH
  refine hp_krm (hp_runV (As := [.int (nI 16)]) (rest := []) hx hb hml hown hS hH (c_grow_15 l X hfe f_l f_q) M_Jx4a65c_69 I_Jx4a65c_grow_92f84 V_Jx4a65c_grow_92f84 (ci := 8) rfl rfl f_l rfl hl.1 rfl (Nat.le_of_ble_eq_true rfl) dJx4a65c_grow_d5877_7 ⟨Nat.le_of_ble_eq_true rfl, Nat.le_of_ble_eq_true rfl⟩ ⟨Nat.le_of_ble_eq_true rfl, Nat.le_of_ble_eq_true rfl⟩) hH (fun μ1 H locs hp hH => ?_)
  obtain ⟨fz0, fz1, fe⟩ := hp
  have f_q := (hp_e2 fe (hp_ne f_q f_l (by simp)) (Nat.ne_of_lt (hO.lt f_q))).trans f_q
  have f_l : μ1 l1 = some (hp_o 8 [.int (nI mc), .ref nx, .int (nI 15)]) := fz0
  have f_n0 : μ1 nx = some (hp_q X 22 (va_cpy f (fun _ => none) 0 0 15)) := fz1
  have fr := hp_eq.tr2 fe fr (by simp) (by simp)
  clear fe fz0 fz1 hO
  refine W.widen (k := 1) (n := 22) (by decide) (by decide) ?_
  exact hp_rr hx hb hr (Or.inr ⟨_, rfl⟩) hlocks hS hH (⟨rfl, rfl, f_l, f_n0, fr⟩) dJx4a65c_grow_d5877_10

set_option maxHeartbeats 4000000 in
set_option maxRecDepth 100000 in
theorem c_addp_room (l : Launch) (X : hp_X) {μ : hp_M} {nx : Nat} {l1 mc q t s1 lv st le : Nat} {aw : Bool} {n cap : Nat} {f : Nat → Option Nat} (hn : n < cap) (hc : cap < 2 ^ 20) (f_l : μ l1 = some (hp_o 8 [.int (nI mc), .ref q, .int (nI n)])) (f_q : μ q = some (hp_q X cap f)) (f_t : μ t = some (hp_o 5 [.int (nI lv), .ref s1, .int (nB aw), .int (nI st), .int (nI le)])) : Ct l X yJx4a65c_add_72be8 cJx4a65c_add_72be8 4 (none : Option Jvm.ClassFile.FieldType) 0 0 0 0 [.ref l1, .ref t, .ref q, .int (nI n)] μ nx (hq_v X (po_v nx (fun z => z l1 = some (hp_o 8 [.int (nI mc), .ref q, .int (nI (n + 1))]) ∧ z q = some (hp_q X cap (va_up f n (some t))) ∧ hp_eq [l1, q] z μ))) := by
  refine hp_met (by decide) (Nat.le_of_ble_eq_true rfl) ?_
  intro p e s m below meth c ls hx hb hml hr hlocks hown hin hS hH hl
  have hl : lv_has ls 4 [(0, .ref l1), (1, .ref t), (2, .ref q), (3, .int (nI n))] := hl
  have fr : hp_eq [l1, q] μ μ := fun _ _ => rfl
  refine lv_iload_n hx hb dJx4a65c_add_72be8_0 rfl (lv_at hl 3 rfl) ?_
  refine lv_aload_n hx hb dJx4a65c_add_72be8_1 rfl (lv_at hl 2 rfl) ?_
  refine hp_alen (w := nI cap) hx hb hS.aq hH f_q rfl dJx4a65c_add_72be8_2 ?_
  refine lv_icmp_ne (tgt := 11) hx hb dJx4a65c_add_72be8_3 (by decide) (fun c_3 => ?_) (fun c_3 => ?_)
  · have c_3 : ¬ (n = cap) := fun z => c_3 ((nI_eq (by omega) (by omega)).mpr z)
    refine lv_aload_n hx hb dJx4a65c_add_72be8_11 rfl (lv_at hl 2 rfl) ?_
    refine lv_iload_n hx hb dJx4a65c_add_72be8_12 rfl (lv_at hl 3 rfl) ?_
    refine lv_aload_n hx hb dJx4a65c_add_72be8_13 rfl (lv_at hl 1 rfl) ?_
    refine hp_aast hx hb hS hH f_q (hp_any hS hH rfl f_t wl_ct) (by omega) (by omega) dJx4a65c_add_72be8_14 (fun H locs μ1 fz fn hH => ?_)
    have f_l := (fn _ (hp_ne f_l f_q (by simp))).trans f_l
    have f_t := (fn _ (hp_ne f_t f_q (by simp))).trans f_t
    have f_q : μ1 q = some (hp_q X cap (va_up f n (some t))) := fz
    have fr := hp_eq.put fr (by simp) fn
    clear fz fn
    refine lv_aload_n hx hb dJx4a65c_add_72be8_15 rfl (lv_at hl 0 rfl) ?_
    refine lv_iload_n hx hb dJx4a65c_add_72be8_16 rfl (lv_at hl 3 rfl) ?_
    refine lv_iconst (v := nI 1) hx hb dJx4a65c_add_72be8_17 (by decide) ?_
    refine lv_iadd hx hb dJx4a65c_add_72be8_18 ?_
    refine hp_eqi (z := nI (n + 1)) (nI_add _ _) ?_
    refine hp_put hx hb hown hS.2.1 hH (P_Jx4a65c_48.use hS) f_l rfl rfl (Nat.le_of_ble_eq_true rfl) dJx4a65c_add_72be8_19 (fun H locs μ1 fz fn hH => ?_)
    have f_q := (fn _ (hp_ne f_q f_l (by simp))).trans f_q
    have f_t := (fn _ (hp_ne f_t f_l (by simp))).trans f_t
    have f_l : μ1 l1 = some (hp_o 8 [.int (nI mc), .ref q, .int (nI (n + 1))]) := fz
    have fr := hp_eq.put fr (by simp) fn
    clear fz fn
    exact hp_rv hx hb hr hlocks hS hH (⟨rfl, f_l, f_q, fr⟩) dJx4a65c_add_72be8_22
  · have c_3 : n = cap := (nI_eq (by omega) (by omega)).mp c_3
    exact absurd c_3 (by omega)

set_option maxHeartbeats 4000000 in
set_option maxRecDepth 100000 in
theorem c_addp_first (l : Launch) (X : hp_X) {μ : hp_M} {nx : Nat} {l1 mc t s1 lv st le : Nat} {aw : Bool}  (f_l : μ l1 = some (hp_o 8 [.int (nI mc), .ref (X.2.2.2 16), .int (nI 0)])) (f_t : μ t = some (hp_o 5 [.int (nI lv), .ref s1, .int (nB aw), .int (nI st), .int (nI le)])) : Ct l X yJx4a65c_add_72be8 cJx4a65c_add_72be8 4 (none : Option Jvm.ClassFile.FieldType) 5 200 1 10 [.ref l1, .ref t, .ref (X.2.2.2 16), .int (nI 0)] μ nx (hq_v X (po_v (nx + 1) (fun z => z l1 = some (hp_o 8 [.int (nI mc), .ref nx, .int (nI (1))]) ∧ z nx = some (hp_q X 10 (va_up (fun _ => none) 0 (some t))) ∧ hp_eq [l1, nx] z μ))) := by
  refine hp_met (by decide) (Nat.le_of_ble_eq_true rfl) ?_
  intro p e s m below meth c ls hx hb hml hr hlocks hown hin hS hH hl
  have hl : lv_has ls 4 [(0, .ref l1), (1, .ref t), (2, .ref (X.2.2.2 16)), (3, .int (nI 0))] := hl
  have fr : hp_eq [l1, nx] μ μ := fun _ _ => rfl
  have hlt_l := hH.lt f_l
  have hlt_t := hH.lt f_t
  refine lv_iload_n hx hb dJx4a65c_add_72be8_0 rfl (lv_at hl 3 rfl) ?_
  refine lv_aload_n hx hb dJx4a65c_add_72be8_1 rfl (lv_at hl 2 rfl) ?_
  refine hp_tlen hx hb hS.2.2.2.2.2.2.2.1 hH dJx4a65c_add_72be8_2 ?_
  refine lv_icmp_ne (tgt := 11) hx hb dJx4a65c_add_72be8_3 (by decide) (fun c_3 => ?_) (fun c_3 => ?_)
  · exact absurd c_3 (by decide)
  · have c_3 : 0 = 0 := (nI_eq (by omega) (by omega)).mp c_3
    refine lv_aload_n hx hb dJx4a65c_add_72be8_6 rfl (lv_at hl 0 rfl) ?_
    have hO := hH
    refine hp_krm (hp_runV (As := []) (rest := []) hx hb hml hown hS hH (c_grow0_first l X f_l) M_Jx4a65c_129 I_Jx4a65c_grow_d5877 V_Jx4a65c_grow_d5877 (ci := 8) rfl rfl f_l rfl hl.1 rfl (Nat.le_of_ble_eq_true rfl) dJx4a65c_add_72be8_7 ⟨Nat.le_of_ble_eq_true rfl, Nat.le_of_ble_eq_true rfl⟩ ⟨Nat.le_of_ble_eq_true rfl, Nat.le_of_ble_eq_true rfl⟩) hH (fun μ1 H locs hp hH => ?_)
    obtain ⟨fz0, fz1, fe⟩ := hp
    have f_t := (hp_e2 fe (hp_ne f_t f_l (by simp)) (Nat.ne_of_lt (hO.lt f_t))).trans f_t
    have f_l : μ1 l1 = some (hp_o 8 [.int (nI mc), .ref nx, .int (nI 0)]) := fz0
    have f_n0 : μ1 nx = some (hp_q X 10 (fun _ => none)) := fz1
    have fr := hp_eq.tr2 fe fr (by simp) (by simp)
    clear fe fz0 fz1 hO
    refine lv_astore_n (lv' := [(2, .ref nx), (0, .ref l1), (1, .ref t), (3, .int (nI 0))]) hx hb dJx4a65c_add_72be8_10 rfl hl (by decide) rfl (fun ls hl => ?_)
    refine lv_aload_n hx hb dJx4a65c_add_72be8_11 rfl (lv_at hl 0 rfl) ?_
    refine lv_iload_n hx hb dJx4a65c_add_72be8_12 rfl (lv_at hl 3 rfl) ?_
    refine lv_aload_n hx hb dJx4a65c_add_72be8_13 rfl (lv_at hl 2 rfl) ?_
    refine hp_aast hx hb hS hH f_n0 (hp_any hS hH rfl f_t wl_ct) (by omega) (by omega) dJx4a65c_add_72be8_14 (fun H locs μ1 fz fn hH => ?_)
    have f_l := (fn _ (by omega)).trans f_l
    have f_t := (fn _ (by omega)).trans f_t
    have f_n0 : μ1 nx = some (hp_q X 10 (va_up (fun _ => none) 0 (some t))) := fz
    have fr := hp_eq.put fr (by simp) fn
    clear fz fn
    refine lv_aload_n hx hb dJx4a65c_add_72be8_15 rfl (lv_at hl 1 rfl) ?_
    refine lv_iload_n hx hb dJx4a65c_add_72be8_16 rfl (lv_at hl 3 rfl) ?_
    refine lv_iconst (v := nI 1) hx hb dJx4a65c_add_72be8_17 (by decide) ?_
    refine lv_iadd hx hb dJx4a65c_add_72be8_18 ?_
    refine hp_eqi (z := nI 1) (nI_add _ _) ?_
    refine hp_put hx hb hown hS.2.1 hH (P_Jx4a65c_48.use hS) f_l rfl rfl (Nat.le_of_ble_eq_true rfl) dJx4a65c_add_72be8_19 (fun H locs μ1 fz fn hH => ?_)
    have f_t := (fn _ (hp_ne f_t f_l (by simp))).trans f_t
    have f_n0 := (fn _ (by omega)).trans f_n0
    have f_l : μ1 l1 = some (hp_o 8 [.int (nI mc), .ref nx, .int (nI 1)]) := fz
    have fr := hp_eq.put fr (by simp) fn
    clear fz fn
    refine W.widen (k := 1) (n := 10) (by decide) (by decide) ?_
    exact hp_rv hx hb hr hlocks hS hH (⟨rfl, f_l, f_n0, fr⟩) dJx4a65c_add_72be8_22

set_option maxHeartbeats 4000000 in
set_option maxRecDepth 100000 in
theorem c_addp_10 (l : Launch) (X : hp_X) {μ : hp_M} {nx : Nat} {l1 mc q t s1 lv st le : Nat} {aw : Bool} {f : Nat → Option Nat} (hfe : ∀ i, i < 10 → ∀ y, f i = some y → ∃ fs, μ y = some (.inr (5, fs))) (f_l : μ l1 = some (hp_o 8 [.int (nI mc), .ref q, .int (nI 10)])) (f_q : μ q = some (hp_q X 10 f)) (f_t : μ t = some (hp_o 5 [.int (nI lv), .ref s1, .int (nB aw), .int (nI st), .int (nI le)])) : Ct l X yJx4a65c_add_72be8 cJx4a65c_add_72be8 4 (none : Option Jvm.ClassFile.FieldType) 5 200 1 15 [.ref l1, .ref t, .ref q, .int (nI 10)] μ nx (hq_v X (po_v (nx + 1) (fun z => z l1 = some (hp_o 8 [.int (nI mc), .ref nx, .int (nI (11))]) ∧ z nx = some (hp_q X 15 (va_up (va_cpy f (fun _ => none) 0 0 10) 10 (some t))) ∧ hp_eq [l1, nx] z μ))) := by
  refine hp_met (by decide) (Nat.le_of_ble_eq_true rfl) ?_
  intro p e s m below meth c ls hx hb hml hr hlocks hown hin hS hH hl
  have hl : lv_has ls 4 [(0, .ref l1), (1, .ref t), (2, .ref q), (3, .int (nI 10))] := hl
  have fr : hp_eq [l1, nx] μ μ := fun _ _ => rfl
  have hlt_l := hH.lt f_l
  have hlt_t := hH.lt f_t
  have hlt_q := hH.lt f_q
  refine lv_iload_n hx hb dJx4a65c_add_72be8_0 rfl (lv_at hl 3 rfl) ?_
  refine lv_aload_n hx hb dJx4a65c_add_72be8_1 rfl (lv_at hl 2 rfl) ?_
  refine hp_alen (w := nI 10) hx hb hS.aq hH f_q rfl dJx4a65c_add_72be8_2 ?_
  refine lv_icmp_ne (tgt := 11) hx hb dJx4a65c_add_72be8_3 (by decide) (fun c_3 => ?_) (fun c_3 => ?_)
  · exact absurd c_3 (by decide)
  · have c_3 : 10 = 10 := (nI_eq (by omega) (by omega)).mp c_3
    refine lv_aload_n hx hb dJx4a65c_add_72be8_6 rfl (lv_at hl 0 rfl) ?_
    have hO := hH
    refine hp_krm (hp_runV (As := []) (rest := []) hx hb hml hown hS hH (c_grow0_10 l X hfe f_l f_q) M_Jx4a65c_129 I_Jx4a65c_grow_d5877 V_Jx4a65c_grow_d5877 (ci := 8) rfl rfl f_l rfl hl.1 rfl (Nat.le_of_ble_eq_true rfl) dJx4a65c_add_72be8_7 ⟨Nat.le_of_ble_eq_true rfl, Nat.le_of_ble_eq_true rfl⟩ ⟨Nat.le_of_ble_eq_true rfl, Nat.le_of_ble_eq_true rfl⟩) hH (fun μ1 H locs hp hH => ?_)
    obtain ⟨fz0, fz1, fe⟩ := hp
    have f_q := (hp_e2 fe (hp_ne f_q f_l (by simp)) (Nat.ne_of_lt (hO.lt f_q))).trans f_q
    have f_t := (hp_e2 fe (hp_ne f_t f_l (by simp)) (Nat.ne_of_lt (hO.lt f_t))).trans f_t
    have f_l : μ1 l1 = some (hp_o 8 [.int (nI mc), .ref nx, .int (nI 10)]) := fz0
    have f_n0 : μ1 nx = some (hp_q X 15 (va_cpy f (fun _ => none) 0 0 10)) := fz1
    have fr := hp_eq.tr2 fe fr (by simp) (by simp)
    clear fe fz0 fz1 hO
    refine lv_astore_n (lv' := [(2, .ref nx), (0, .ref l1), (1, .ref t), (3, .int (nI 10))]) hx hb dJx4a65c_add_72be8_10 rfl hl (by decide) rfl (fun ls hl => ?_)
    refine lv_aload_n hx hb dJx4a65c_add_72be8_11 rfl (lv_at hl 0 rfl) ?_
    refine lv_iload_n hx hb dJx4a65c_add_72be8_12 rfl (lv_at hl 3 rfl) ?_
    refine lv_aload_n hx hb dJx4a65c_add_72be8_13 rfl (lv_at hl 2 rfl) ?_
    refine hp_aast hx hb hS hH f_n0 (hp_any hS hH rfl f_t wl_ct) (by omega) (by omega) dJx4a65c_add_72be8_14 (fun H locs μ1 fz fn hH => ?_)
    have f_l := (fn _ (by omega)).trans f_l
    have f_q := (fn _ (by omega)).trans f_q
    have f_t := (fn _ (by omega)).trans f_t
    have f_n0 : μ1 nx = some (hp_q X 15 (va_up (va_cpy f (fun _ => none) 0 0 10) 10 (some t))) := fz
    have fr := hp_eq.put fr (by simp) fn
    clear fz fn
    refine lv_aload_n hx hb dJx4a65c_add_72be8_15 rfl (lv_at hl 1 rfl) ?_
    refine lv_iload_n hx hb dJx4a65c_add_72be8_16 rfl (lv_at hl 3 rfl) ?_
    refine lv_iconst (v := nI 1) hx hb dJx4a65c_add_72be8_17 (by decide) ?_
    refine lv_iadd hx hb dJx4a65c_add_72be8_18 ?_
    refine hp_eqi (z := nI 11) (nI_add _ _) ?_
    refine hp_put hx hb hown hS.2.1 hH (P_Jx4a65c_48.use hS) f_l rfl rfl (Nat.le_of_ble_eq_true rfl) dJx4a65c_add_72be8_19 (fun H locs μ1 fz fn hH => ?_)
    have f_q := (fn _ (hp_ne f_q f_l (by simp))).trans f_q
    have f_t := (fn _ (hp_ne f_t f_l (by simp))).trans f_t
    have f_n0 := (fn _ (by omega)).trans f_n0
    have f_l : μ1 l1 = some (hp_o 8 [.int (nI mc), .ref nx, .int (nI 11)]) := fz
    have fr := hp_eq.put fr (by simp) fn
    clear fz fn
    refine W.widen (k := 1) (n := 15) (by decide) (by decide) ?_
    exact hp_rv hx hb hr hlocks hS hH (⟨rfl, f_l, f_n0, fr⟩) dJx4a65c_add_72be8_22

set_option maxHeartbeats 4000000 in
set_option maxRecDepth 100000 in
theorem c_addp_15 (l : Launch) (X : hp_X) {μ : hp_M} {nx : Nat} {l1 mc q t s1 lv st le : Nat} {aw : Bool} {f : Nat → Option Nat} (hfe : ∀ i, i < 15 → ∀ y, f i = some y → ∃ fs, μ y = some (.inr (5, fs))) (f_l : μ l1 = some (hp_o 8 [.int (nI mc), .ref q, .int (nI 15)])) (f_q : μ q = some (hp_q X 15 f)) (f_t : μ t = some (hp_o 5 [.int (nI lv), .ref s1, .int (nB aw), .int (nI st), .int (nI le)])) : Ct l X yJx4a65c_add_72be8 cJx4a65c_add_72be8 4 (none : Option Jvm.ClassFile.FieldType) 5 200 1 22 [.ref l1, .ref t, .ref q, .int (nI 15)] μ nx (hq_v X (po_v (nx + 1) (fun z => z l1 = some (hp_o 8 [.int (nI mc), .ref nx, .int (nI (16))]) ∧ z nx = some (hp_q X 22 (va_up (va_cpy f (fun _ => none) 0 0 15) 15 (some t))) ∧ hp_eq [l1, nx] z μ))) := by
  refine hp_met (by decide) (Nat.le_of_ble_eq_true rfl) ?_
  intro p e s m below meth c ls hx hb hml hr hlocks hown hin hS hH hl
  have hl : lv_has ls 4 [(0, .ref l1), (1, .ref t), (2, .ref q), (3, .int (nI 15))] := hl
  have fr : hp_eq [l1, nx] μ μ := fun _ _ => rfl
  have hlt_l := hH.lt f_l
  have hlt_t := hH.lt f_t
  have hlt_q := hH.lt f_q
  refine lv_iload_n hx hb dJx4a65c_add_72be8_0 rfl (lv_at hl 3 rfl) ?_
  refine lv_aload_n hx hb dJx4a65c_add_72be8_1 rfl (lv_at hl 2 rfl) ?_
  refine hp_alen (w := nI 15) hx hb hS.aq hH f_q rfl dJx4a65c_add_72be8_2 ?_
  refine lv_icmp_ne (tgt := 11) hx hb dJx4a65c_add_72be8_3 (by decide) (fun c_3 => ?_) (fun c_3 => ?_)
  · exact absurd c_3 (by decide)
  · have c_3 : 15 = 15 := (nI_eq (by omega) (by omega)).mp c_3
    refine lv_aload_n hx hb dJx4a65c_add_72be8_6 rfl (lv_at hl 0 rfl) ?_
    have hO := hH
    refine hp_krm (hp_runV (As := []) (rest := []) hx hb hml hown hS hH (c_grow0_15 l X hfe f_l f_q) M_Jx4a65c_129 I_Jx4a65c_grow_d5877 V_Jx4a65c_grow_d5877 (ci := 8) rfl rfl f_l rfl hl.1 rfl (Nat.le_of_ble_eq_true rfl) dJx4a65c_add_72be8_7 ⟨Nat.le_of_ble_eq_true rfl, Nat.le_of_ble_eq_true rfl⟩ ⟨Nat.le_of_ble_eq_true rfl, Nat.le_of_ble_eq_true rfl⟩) hH (fun μ1 H locs hp hH => ?_)
    obtain ⟨fz0, fz1, fe⟩ := hp
    have f_q := (hp_e2 fe (hp_ne f_q f_l (by simp)) (Nat.ne_of_lt (hO.lt f_q))).trans f_q
    have f_t := (hp_e2 fe (hp_ne f_t f_l (by simp)) (Nat.ne_of_lt (hO.lt f_t))).trans f_t
    have f_l : μ1 l1 = some (hp_o 8 [.int (nI mc), .ref nx, .int (nI 15)]) := fz0
    have f_n0 : μ1 nx = some (hp_q X 22 (va_cpy f (fun _ => none) 0 0 15)) := fz1
    have fr := hp_eq.tr2 fe fr (by simp) (by simp)
    clear fe fz0 fz1 hO
    refine lv_astore_n (lv' := [(2, .ref nx), (0, .ref l1), (1, .ref t), (3, .int (nI 15))]) hx hb dJx4a65c_add_72be8_10 rfl hl (by decide) rfl (fun ls hl => ?_)
    refine lv_aload_n hx hb dJx4a65c_add_72be8_11 rfl (lv_at hl 0 rfl) ?_
    refine lv_iload_n hx hb dJx4a65c_add_72be8_12 rfl (lv_at hl 3 rfl) ?_
    refine lv_aload_n hx hb dJx4a65c_add_72be8_13 rfl (lv_at hl 2 rfl) ?_
    refine hp_aast hx hb hS hH f_n0 (hp_any hS hH rfl f_t wl_ct) (by omega) (by omega) dJx4a65c_add_72be8_14 (fun H locs μ1 fz fn hH => ?_)
    have f_l := (fn _ (by omega)).trans f_l
    have f_q := (fn _ (by omega)).trans f_q
    have f_t := (fn _ (by omega)).trans f_t
    have f_n0 : μ1 nx = some (hp_q X 22 (va_up (va_cpy f (fun _ => none) 0 0 15) 15 (some t))) := fz
    have fr := hp_eq.put fr (by simp) fn
    clear fz fn
    refine lv_aload_n hx hb dJx4a65c_add_72be8_15 rfl (lv_at hl 1 rfl) ?_
    refine lv_iload_n hx hb dJx4a65c_add_72be8_16 rfl (lv_at hl 3 rfl) ?_
    refine lv_iconst (v := nI 1) hx hb dJx4a65c_add_72be8_17 (by decide) ?_
    refine lv_iadd hx hb dJx4a65c_add_72be8_18 ?_
    refine hp_eqi (z := nI 16) (nI_add _ _) ?_
    refine hp_put hx hb hown hS.2.1 hH (P_Jx4a65c_48.use hS) f_l rfl rfl (Nat.le_of_ble_eq_true rfl) dJx4a65c_add_72be8_19 (fun H locs μ1 fz fn hH => ?_)
    have f_q := (fn _ (hp_ne f_q f_l (by simp))).trans f_q
    have f_t := (fn _ (hp_ne f_t f_l (by simp))).trans f_t
    have f_n0 := (fn _ (by omega)).trans f_n0
    have f_l : μ1 l1 = some (hp_o 8 [.int (nI mc), .ref nx, .int (nI 16)]) := fz
    have fr := hp_eq.put fr (by simp) fn
    clear fz fn
    refine W.widen (k := 1) (n := 22) (by decide) (by decide) ?_
    exact hp_rv hx hb hr hlocks hS hH (⟨rfl, f_l, f_n0, fr⟩) dJx4a65c_add_72be8_22

set_option maxHeartbeats 4000000 in
set_option maxRecDepth 100000 in
theorem c_add_room (l : Launch) (X : hp_X) {μ : hp_M} {nx : Nat} {l1 mc q t s1 lv st le : Nat} {aw : Bool} {n cap : Nat} {f : Nat → Option Nat} (hn : n < cap) (hc : cap < 2 ^ 20) (f_l : μ l1 = some (hp_o 8 [.int (nI mc), .ref q, .int (nI n)])) (f_q : μ q = some (hp_q X cap f)) (f_t : μ t = some (hp_o 5 [.int (nI lv), .ref s1, .int (nB aw), .int (nI st), .int (nI le)])) : Ct l X yJx4a65c_add_9ea2d cJx4a65c_add_9ea2d 2 (some FieldType.boolean) 6 240 0 0 [.ref l1, .ref t] μ nx (hq_i X (po_i nx (nB true) (fun z => z l1 = some (hp_o 8 [.int (nI (mc + 1)), .ref q, .int (nI (n + 1))]) ∧ z q = some (hp_q X cap (va_up f n (some t))) ∧ hp_eq [l1, q] z μ))) := by
  refine hp_met (by decide) (Nat.le_of_ble_eq_true rfl) ?_
  intro p e s m below meth c ls hx hb hml hr hlocks hown hin hS hH hl
  have hl : lv_has ls 2 [(0, .ref l1), (1, .ref t)] := hl
  have fr : hp_eq [l1, q] μ μ := fun _ _ => rfl
  refine lv_aload_n hx hb dJx4a65c_add_9ea2d_0 rfl (lv_at hl 0 rfl) ?_
  refine lv_dup hx hb dJx4a65c_add_9ea2d_1 rfl ?_
  refine hp_get hx hb hown hS.2.1 hH (F_Jx4a65c_63.use hS) f_l rfl dJx4a65c_add_9ea2d_2 ?_
  refine lv_iconst (v := nI 1) hx hb dJx4a65c_add_9ea2d_5 (by decide) ?_
  refine lv_iadd hx hb dJx4a65c_add_9ea2d_6 ?_
  refine hp_eqi (z := nI (mc + 1)) (nI_add _ _) ?_
  refine hp_put hx hb hown hS.2.1 hH (P_Jx4a65c_63.use hS) f_l rfl rfl (Nat.le_of_ble_eq_true rfl) dJx4a65c_add_9ea2d_7 (fun H locs μ1 fz fn hH => ?_)
  have f_q := (fn _ (hp_ne f_q f_l (by simp))).trans f_q
  have f_t := (fn _ (hp_ne f_t f_l (by simp))).trans f_t
  have f_l : μ1 l1 = some (hp_o 8 [.int (nI (mc + 1)), .ref q, .int (nI n)]) := fz
  have fr := hp_eq.put fr (by simp) fn
  clear fz fn
  refine lv_aload_n hx hb dJx4a65c_add_9ea2d_10 rfl (lv_at hl 0 rfl) ?_
  refine lv_aload_n hx hb dJx4a65c_add_9ea2d_11 rfl (lv_at hl 1 rfl) ?_
  refine lv_aload_n hx hb dJx4a65c_add_9ea2d_12 rfl (lv_at hl 0 rfl) ?_
  refine hp_get hx hb hown hS.2.1 hH (F_Jx4a65c_9.use hS) f_l rfl dJx4a65c_add_9ea2d_13 ?_
  refine lv_aload_n hx hb dJx4a65c_add_9ea2d_16 rfl (lv_at hl 0 rfl) ?_
  refine hp_get hx hb hown hS.2.1 hH (F_Jx4a65c_48.use hS) f_l rfl dJx4a65c_add_9ea2d_17 ?_
  refine hp_kvm (hp_runV (As := [.ref t, .ref q, .int (nI n)]) (rest := []) hx hb hml hown hS hH (c_addp_room l X hn hc f_l f_q f_t) M_Jx4a65c_131 I_Jx4a65c_add_72be8 V_Jx4a65c_add_72be8 (ci := 8) rfl rfl f_l rfl hl.1 rfl (Nat.le_of_ble_eq_true rfl) dJx4a65c_add_9ea2d_20 ⟨Nat.le_of_ble_eq_true rfl, Nat.le_of_ble_eq_true rfl⟩ ⟨Nat.le_of_ble_eq_true rfl, Nat.le_of_ble_eq_true rfl⟩) hH (fun μ1 H locs hp hH => ?_)
  obtain ⟨fz0, fz1, fe⟩ := hp
  have f_t := (hp_e2 fe (hp_ne f_t f_l (by simp)) (hp_ne f_t f_q (by simp))).trans f_t
  have f_l : μ1 l1 = some (hp_o 8 [.int (nI (mc + 1)), .ref q, .int (nI (n + 1))]) := fz0
  have f_q : μ1 q = some (hp_q X cap (va_up f n (some t))) := fz1
  have fr := hp_eq.tr2 fe fr (by simp) (by simp)
  clear fe fz0 fz1
  refine lv_iconst (v := nI 1) hx hb dJx4a65c_add_9ea2d_23 (by decide) ?_
  refine hp_eqi (z := nB true) (by decide) ?_
  exact hp_rz hx hb hr hlocks hS hH (nB_nar _) (⟨rfl, rfl, f_l, f_q, fr⟩) dJx4a65c_add_9ea2d_24

set_option maxHeartbeats 4000000 in
set_option maxRecDepth 100000 in
theorem c_add_first (l : Launch) (X : hp_X) {μ : hp_M} {nx : Nat} {l1 mc t s1 lv st le : Nat} {aw : Bool}  (f_l : μ l1 = some (hp_o 8 [.int (nI mc), .ref (X.2.2.2 16), .int (nI 0)])) (f_t : μ t = some (hp_o 5 [.int (nI lv), .ref s1, .int (nB aw), .int (nI st), .int (nI le)])) : Ct l X yJx4a65c_add_9ea2d cJx4a65c_add_9ea2d 2 (some FieldType.boolean) 6 240 1 10 [.ref l1, .ref t] μ nx (hq_i X (po_i (nx + 1) (nB true) (fun z => z l1 = some (hp_o 8 [.int (nI (mc + 1)), .ref nx, .int (nI 1)]) ∧ z nx = some (hp_q X 10 (va_up (fun _ => none) 0 (some t))) ∧ hp_eq [l1, nx] z μ))) := by
  refine hp_met (by decide) (Nat.le_of_ble_eq_true rfl) ?_
  intro p e s m below meth c ls hx hb hml hr hlocks hown hin hS hH hl
  have hl : lv_has ls 2 [(0, .ref l1), (1, .ref t)] := hl
  have fr : hp_eq [l1, nx] μ μ := fun _ _ => rfl
  have hlt_l := hH.lt f_l
  have hlt_t := hH.lt f_t
  have f_l0 := f_l
  have hH0 := hH
  refine lv_aload_n hx hb dJx4a65c_add_9ea2d_0 rfl (lv_at hl 0 rfl) ?_
  refine lv_dup hx hb dJx4a65c_add_9ea2d_1 rfl ?_
  refine hp_get hx hb hown hS.2.1 hH (F_Jx4a65c_63.use hS) f_l rfl dJx4a65c_add_9ea2d_2 ?_
  refine lv_iconst (v := nI 1) hx hb dJx4a65c_add_9ea2d_5 (by decide) ?_
  refine lv_iadd hx hb dJx4a65c_add_9ea2d_6 ?_
  refine hp_eqi (z := nI (mc + 1)) (nI_add _ _) ?_
  refine hp_put hx hb hown hS.2.1 hH (P_Jx4a65c_63.use hS) f_l rfl rfl (Nat.le_of_ble_eq_true rfl) dJx4a65c_add_9ea2d_7 (fun H locs μ1 fz fn hH => ?_)
  have f_t := (fn _ (hp_ne f_t f_l (by simp))).trans f_t
  have f_l : μ1 l1 = some (hp_o 8 [.int (nI (mc + 1)), .ref (X.2.2.2 16), .int (nI 0)]) := fz
  have fr := hp_eq.put fr (by simp) fn
  clear fz fn
  refine lv_aload_n hx hb dJx4a65c_add_9ea2d_10 rfl (lv_at hl 0 rfl) ?_
  refine lv_aload_n hx hb dJx4a65c_add_9ea2d_11 rfl (lv_at hl 1 rfl) ?_
  refine lv_aload_n hx hb dJx4a65c_add_9ea2d_12 rfl (lv_at hl 0 rfl) ?_
  refine hp_get hx hb hown hS.2.1 hH (F_Jx4a65c_9.use hS) f_l rfl dJx4a65c_add_9ea2d_13 ?_
  refine lv_aload_n hx hb dJx4a65c_add_9ea2d_16 rfl (lv_at hl 0 rfl) ?_
  refine hp_get hx hb hown hS.2.1 hH (F_Jx4a65c_48.use hS) f_l rfl dJx4a65c_add_9ea2d_17 ?_
  have hO := hH
  refine hp_kvm (hp_runV (As := [.ref t, .ref (X.2.2.2 16), .int (nI 0)]) (rest := []) hx hb hml hown hS hH (c_addp_first l X f_l f_t) M_Jx4a65c_131 I_Jx4a65c_add_72be8 V_Jx4a65c_add_72be8 (ci := 8) rfl rfl f_l rfl hl.1 rfl (Nat.le_of_ble_eq_true rfl) dJx4a65c_add_9ea2d_20 ⟨Nat.le_of_ble_eq_true rfl, Nat.le_of_ble_eq_true rfl⟩ ⟨Nat.le_of_ble_eq_true rfl, Nat.le_of_ble_eq_true rfl⟩) hH (fun μ1 H locs hp hH => ?_)
  obtain ⟨fz0, fz1, fe⟩ := hp
  have f_t := (hp_e2 fe (hp_ne f_t f_l (by simp)) (Nat.ne_of_lt (hO.lt f_t))).trans f_t
  have f_l : μ1 l1 = some (hp_o 8 [.int (nI (mc + 1)), .ref nx, .int (nI 1)]) := fz0
  have f_n0 : μ1 nx = some (hp_q X 10 (va_up (fun _ => none) 0 (some t))) := fz1
  have fr := hp_eq.tr2 fe fr (by simp) (by simp)
  clear fe fz0 fz1 hO
  refine lv_iconst (v := nI 1) hx hb dJx4a65c_add_9ea2d_23 (by decide) ?_
  refine W.widen (k := 1) (n := 10) (by decide) (by decide) ?_
  refine hp_eqi (z := nB true) (by decide) ?_
  exact hp_rz hx hb hr hlocks hS hH (nB_nar _) (⟨rfl, rfl, f_l, f_n0, fr⟩) dJx4a65c_add_9ea2d_24

set_option maxHeartbeats 4000000 in
set_option maxRecDepth 100000 in
theorem c_add_10 (l : Launch) (X : hp_X) {μ : hp_M} {nx : Nat} {l1 mc q t s1 lv st le : Nat} {aw : Bool} {f : Nat → Option Nat} (hfe : ∀ i, i < 10 → ∀ y, f i = some y → ∃ fs, μ y = some (.inr (5, fs))) (f_l : μ l1 = some (hp_o 8 [.int (nI mc), .ref q, .int (nI 10)])) (f_q : μ q = some (hp_q X 10 f)) (f_t : μ t = some (hp_o 5 [.int (nI lv), .ref s1, .int (nB aw), .int (nI st), .int (nI le)])) : Ct l X yJx4a65c_add_9ea2d cJx4a65c_add_9ea2d 2 (some FieldType.boolean) 6 240 1 15 [.ref l1, .ref t] μ nx (hq_i X (po_i (nx + 1) (nB true) (fun z => z l1 = some (hp_o 8 [.int (nI (mc + 1)), .ref nx, .int (nI 11)]) ∧ z nx = some (hp_q X 15 (va_up (va_cpy f (fun _ => none) 0 0 10) 10 (some t))) ∧ hp_eq [l1, nx] z μ))) := by
  refine hp_met (by decide) (Nat.le_of_ble_eq_true rfl) ?_
  intro p e s m below meth c ls hx hb hml hr hlocks hown hin hS hH hl
  have hl : lv_has ls 2 [(0, .ref l1), (1, .ref t)] := hl
  have fr : hp_eq [l1, nx] μ μ := fun _ _ => rfl
  have hlt_l := hH.lt f_l
  have hlt_t := hH.lt f_t
  have f_l0 := f_l
  have hH0 := hH
  have hlt_q := hH.lt f_q
  refine lv_aload_n hx hb dJx4a65c_add_9ea2d_0 rfl (lv_at hl 0 rfl) ?_
  refine lv_dup hx hb dJx4a65c_add_9ea2d_1 rfl ?_
  refine hp_get hx hb hown hS.2.1 hH (F_Jx4a65c_63.use hS) f_l rfl dJx4a65c_add_9ea2d_2 ?_
  refine lv_iconst (v := nI 1) hx hb dJx4a65c_add_9ea2d_5 (by decide) ?_
  refine lv_iadd hx hb dJx4a65c_add_9ea2d_6 ?_
  refine hp_eqi (z := nI (mc + 1)) (nI_add _ _) ?_
  refine hp_put hx hb hown hS.2.1 hH (P_Jx4a65c_63.use hS) f_l rfl rfl (Nat.le_of_ble_eq_true rfl) dJx4a65c_add_9ea2d_7 (fun H locs μ1 fz fn hH => ?_)
  have f_q := (fn _ (hp_ne f_q f_l (by simp))).trans f_q
  have f_t := (fn _ (hp_ne f_t f_l (by simp))).trans f_t
  have f_l : μ1 l1 = some (hp_o 8 [.int (nI (mc + 1)), .ref q, .int (nI 10)]) := fz
  have fr := hp_eq.put fr (by simp) fn
  clear fz fn
  have hfe : ∀ i, i < 10 → ∀ y, f i = some y → ∃ fs, μ1 y = some (.inr (5, fs)) := fun i hi y hy => (hfe i hi y hy).imp (fun fs h => (fr y (by simp only [List.mem_cons, List.not_mem_nil, or_false, not_or]; exact ⟨hp_ne h f_l0 (by simp), Nat.ne_of_lt (hH0.lt h)⟩)).trans h)
  refine lv_aload_n hx hb dJx4a65c_add_9ea2d_10 rfl (lv_at hl 0 rfl) ?_
  refine lv_aload_n hx hb dJx4a65c_add_9ea2d_11 rfl (lv_at hl 1 rfl) ?_
  refine lv_aload_n hx hb dJx4a65c_add_9ea2d_12 rfl (lv_at hl 0 rfl) ?_
  refine hp_get hx hb hown hS.2.1 hH (F_Jx4a65c_9.use hS) f_l rfl dJx4a65c_add_9ea2d_13 ?_
  refine lv_aload_n hx hb dJx4a65c_add_9ea2d_16 rfl (lv_at hl 0 rfl) ?_
  refine hp_get hx hb hown hS.2.1 hH (F_Jx4a65c_48.use hS) f_l rfl dJx4a65c_add_9ea2d_17 ?_
  have hO := hH
  refine hp_kvm (hp_runV (As := [.ref t, .ref q, .int (nI 10)]) (rest := []) hx hb hml hown hS hH (c_addp_10 l X hfe f_l f_q f_t) M_Jx4a65c_131 I_Jx4a65c_add_72be8 V_Jx4a65c_add_72be8 (ci := 8) rfl rfl f_l rfl hl.1 rfl (Nat.le_of_ble_eq_true rfl) dJx4a65c_add_9ea2d_20 ⟨Nat.le_of_ble_eq_true rfl, Nat.le_of_ble_eq_true rfl⟩ ⟨Nat.le_of_ble_eq_true rfl, Nat.le_of_ble_eq_true rfl⟩) hH (fun μ1 H locs hp hH => ?_)
  obtain ⟨fz0, fz1, fe⟩ := hp
  have f_q := (hp_e2 fe (hp_ne f_q f_l (by simp)) (Nat.ne_of_lt (hO.lt f_q))).trans f_q
  have f_t := (hp_e2 fe (hp_ne f_t f_l (by simp)) (Nat.ne_of_lt (hO.lt f_t))).trans f_t
  have f_l : μ1 l1 = some (hp_o 8 [.int (nI (mc + 1)), .ref nx, .int (nI 11)]) := fz0
  have f_n0 : μ1 nx = some (hp_q X 15 (va_up (va_cpy f (fun _ => none) 0 0 10) 10 (some t))) := fz1
  have fr := hp_eq.tr2 fe fr (by simp) (by simp)
  clear fe fz0 fz1 hO
  refine lv_iconst (v := nI 1) hx hb dJx4a65c_add_9ea2d_23 (by decide) ?_
  refine W.widen (k := 1) (n := 15) (by decide) (by decide) ?_
  refine hp_eqi (z := nB true) (by decide) ?_
  exact hp_rz hx hb hr hlocks hS hH (nB_nar _) (⟨rfl, rfl, f_l, f_n0, fr⟩) dJx4a65c_add_9ea2d_24

set_option maxHeartbeats 4000000 in
set_option maxRecDepth 100000 in
theorem c_add_15 (l : Launch) (X : hp_X) {μ : hp_M} {nx : Nat} {l1 mc q t s1 lv st le : Nat} {aw : Bool} {f : Nat → Option Nat} (hfe : ∀ i, i < 15 → ∀ y, f i = some y → ∃ fs, μ y = some (.inr (5, fs))) (f_l : μ l1 = some (hp_o 8 [.int (nI mc), .ref q, .int (nI 15)])) (f_q : μ q = some (hp_q X 15 f)) (f_t : μ t = some (hp_o 5 [.int (nI lv), .ref s1, .int (nB aw), .int (nI st), .int (nI le)])) : Ct l X yJx4a65c_add_9ea2d cJx4a65c_add_9ea2d 2 (some FieldType.boolean) 6 240 1 22 [.ref l1, .ref t] μ nx (hq_i X (po_i (nx + 1) (nB true) (fun z => z l1 = some (hp_o 8 [.int (nI (mc + 1)), .ref nx, .int (nI 16)]) ∧ z nx = some (hp_q X 22 (va_up (va_cpy f (fun _ => none) 0 0 15) 15 (some t))) ∧ hp_eq [l1, nx] z μ))) := by
  refine hp_met (by decide) (Nat.le_of_ble_eq_true rfl) ?_
  intro p e s m below meth c ls hx hb hml hr hlocks hown hin hS hH hl
  have hl : lv_has ls 2 [(0, .ref l1), (1, .ref t)] := hl
  have fr : hp_eq [l1, nx] μ μ := fun _ _ => rfl
  have hlt_l := hH.lt f_l
  have hlt_t := hH.lt f_t
  have f_l0 := f_l
  have hH0 := hH
  have hlt_q := hH.lt f_q
  refine lv_aload_n hx hb dJx4a65c_add_9ea2d_0 rfl (lv_at hl 0 rfl) ?_
  refine lv_dup hx hb dJx4a65c_add_9ea2d_1 rfl ?_
  refine hp_get hx hb hown hS.2.1 hH (F_Jx4a65c_63.use hS) f_l rfl dJx4a65c_add_9ea2d_2 ?_
  refine lv_iconst (v := nI 1) hx hb dJx4a65c_add_9ea2d_5 (by decide) ?_
  refine lv_iadd hx hb dJx4a65c_add_9ea2d_6 ?_
  refine hp_eqi (z := nI (mc + 1)) (nI_add _ _) ?_
  refine hp_put hx hb hown hS.2.1 hH (P_Jx4a65c_63.use hS) f_l rfl rfl (Nat.le_of_ble_eq_true rfl) dJx4a65c_add_9ea2d_7 (fun H locs μ1 fz fn hH => ?_)
  have f_q := (fn _ (hp_ne f_q f_l (by simp))).trans f_q
  have f_t := (fn _ (hp_ne f_t f_l (by simp))).trans f_t
  have f_l : μ1 l1 = some (hp_o 8 [.int (nI (mc + 1)), .ref q, .int (nI 15)]) := fz
  have fr := hp_eq.put fr (by simp) fn
  clear fz fn
  have hfe : ∀ i, i < 15 → ∀ y, f i = some y → ∃ fs, μ1 y = some (.inr (5, fs)) := fun i hi y hy => (hfe i hi y hy).imp (fun fs h => (fr y (by simp only [List.mem_cons, List.not_mem_nil, or_false, not_or]; exact ⟨hp_ne h f_l0 (by simp), Nat.ne_of_lt (hH0.lt h)⟩)).trans h)
  refine lv_aload_n hx hb dJx4a65c_add_9ea2d_10 rfl (lv_at hl 0 rfl) ?_
  refine lv_aload_n hx hb dJx4a65c_add_9ea2d_11 rfl (lv_at hl 1 rfl) ?_
  refine lv_aload_n hx hb dJx4a65c_add_9ea2d_12 rfl (lv_at hl 0 rfl) ?_
  refine hp_get hx hb hown hS.2.1 hH (F_Jx4a65c_9.use hS) f_l rfl dJx4a65c_add_9ea2d_13 ?_
  refine lv_aload_n hx hb dJx4a65c_add_9ea2d_16 rfl (lv_at hl 0 rfl) ?_
  refine hp_get hx hb hown hS.2.1 hH (F_Jx4a65c_48.use hS) f_l rfl dJx4a65c_add_9ea2d_17 ?_
  have hO := hH
  refine hp_kvm (hp_runV (As := [.ref t, .ref q, .int (nI 15)]) (rest := []) hx hb hml hown hS hH (c_addp_15 l X hfe f_l f_q f_t) M_Jx4a65c_131 I_Jx4a65c_add_72be8 V_Jx4a65c_add_72be8 (ci := 8) rfl rfl f_l rfl hl.1 rfl (Nat.le_of_ble_eq_true rfl) dJx4a65c_add_9ea2d_20 ⟨Nat.le_of_ble_eq_true rfl, Nat.le_of_ble_eq_true rfl⟩ ⟨Nat.le_of_ble_eq_true rfl, Nat.le_of_ble_eq_true rfl⟩) hH (fun μ1 H locs hp hH => ?_)
  obtain ⟨fz0, fz1, fe⟩ := hp
  have f_q := (hp_e2 fe (hp_ne f_q f_l (by simp)) (Nat.ne_of_lt (hO.lt f_q))).trans f_q
  have f_t := (hp_e2 fe (hp_ne f_t f_l (by simp)) (Nat.ne_of_lt (hO.lt f_t))).trans f_t
  have f_l : μ1 l1 = some (hp_o 8 [.int (nI (mc + 1)), .ref nx, .int (nI 16)]) := fz0
  have f_n0 : μ1 nx = some (hp_q X 22 (va_up (va_cpy f (fun _ => none) 0 0 15) 15 (some t))) := fz1
  have fr := hp_eq.tr2 fe fr (by simp) (by simp)
  clear fe fz0 fz1 hO
  refine lv_iconst (v := nI 1) hx hb dJx4a65c_add_9ea2d_23 (by decide) ?_
  refine W.widen (k := 1) (n := 22) (by decide) (by decide) ?_
  refine hp_eqi (z := nB true) (by decide) ?_
  exact hp_rz hx hb hr hlocks hS hH (nB_nar _) (⟨rfl, rfl, f_l, f_n0, fr⟩) dJx4a65c_add_9ea2d_24
