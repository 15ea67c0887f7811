set_option maxHeartbeats 4000000 in
set_option maxRecDepth 100000 in
theorem c_X9_become (l : Launch) (X : hp_X) {μ : hp_M} {nx : Nat} {t s1 lv st le : Nat} {aw : Bool} {n rp : Nat} (f_t : μ t = some (hp_o 5 [.int (nI lv), .ref s1, .int (nB aw), .int (nI st), .int (nI le)])) : Ct l X yX9_become cX9_become 3 (some (FieldType.object "TagField$Reply")) 0 0 0 0 [.ref t, .int (nI n), .ref rp] μ nx (hq_r X (po_r nx rp (fun z => z t = some (hp_o 5 [.int (nI lv), .ref s1, .int (nB aw), .int (nI n), .int (nI le)]) ∧ hp_eq [t] z μ))) := by
  refine hp_met (by decide) (Nat.le_of_ble_eq_true rfl) ?_
  intro p e s m below meth c ls hx hb hml hr hlocks hown hin hS hH hl
  have hl : lv_has ls 3 [(0, .ref t), (1, .int (nI n)), (2, .ref rp)] := hl
  have fr : hp_eq [t] μ μ := fun _ _ => rfl
  refine lv_aload_n hx hb dX9_become_0 rfl (lv_at hl 0 rfl) ?_
  refine lv_iload_n hx hb dX9_become_1 rfl (lv_at hl 1 rfl) ?_
  refine hp_put hx hb hown hS.2.1 hH (P_X9_15.use hS) f_t rfl rfl (Nat.le_of_ble_eq_true rfl) dX9_become_2 (fun H locs μ1 fz fn hH => ?_)
  have f_t : μ1 t = some (hp_o 5 [.int (nI lv), .ref s1, .int (nB aw), .int (nI n), .int (nI le)]) := fz
  have fr := hp_eq.put fr (by simp) fn
  clear fz fn
  refine lv_aload_n hx hb dX9_become_5 rfl (lv_at hl 2 rfl) ?_
  exact hp_rr hx hb hr (Or.inl ⟨_, rfl⟩) hlocks hS hH (⟨rfl, rfl, f_t, fr⟩) dX9_become_6

set_option maxHeartbeats 4000000 in
set_option maxRecDepth 100000 in
theorem c_X9_becomeReady (l : Launch) (X : hp_X) {μ : hp_M} {nx : Nat} {t s1 lv st le : Nat} {aw : Bool} {n : Nat} (f_t : μ t = some (hp_o 5 [.int (nI lv), .ref s1, .int (nB aw), .int (nI st), .int (nI le)])) : Ct l X yX9_becomeReady cX9_becomeReady 2 (some (FieldType.object "TagField$Reply")) 1 40 0 0 [.ref t, .int (nI n)] μ nx (hq_r X (po_r nx (X.2.2.2 9) (fun z => z t = some (hp_o 5 [.int (nI lv), .ref s1, .int (nB aw), .int (nI n), .int (nI 1)]) ∧ hp_eq [t] z μ))) := by
  refine hp_met (by decide) (Nat.le_of_ble_eq_true rfl) ?_
  intro p e s m below meth c ls hx hb hml hr hlocks hown hin hS hH hl
  have hl : lv_has ls 2 [(0, .ref t), (1, .int (nI n))] := hl
  have fr : hp_eq [t] μ μ := fun _ _ => rfl
  refine lv_aload_n hx hb dX9_becomeReady_0 rfl (lv_at hl 0 rfl) ?_
  refine lv_iconst (v := nI 1) hx hb dX9_becomeReady_1 (by decide) ?_
  refine hp_put hx hb hown hS.2.1 hH (P_X9_19.use hS) f_t rfl rfl (Nat.le_of_ble_eq_true rfl) dX9_becomeReady_2 (fun H locs μ1 fz fn hH => ?_)
  have f_t : μ1 t = some (hp_o 5 [.int (nI lv), .ref s1, .int (nB aw), .int (nI st), .int (nI 1)]) := fz
  have fr := hp_eq.put fr (by simp) fn
  clear fz fn
  refine lv_aload_n hx hb dX9_becomeReady_5 rfl (lv_at hl 0 rfl) ?_
  refine lv_iload_n hx hb dX9_becomeReady_6 rfl (lv_at hl 1 rfl) ?_
  refine hp_gets hx hb hS.r1 hH hown G_X9_86 hS dX9_becomeReady_7 ?_
  refine hp_krm (hp_runV (As := [.int (nI n), .ref (X.2.2.2 9)]) (rest := []) hx hb hml hown hS hH (c_X9_become l X (n := n) (rp := X.2.2.2 9) f_t) M_X9_82 I_X9_become V_X9_become (ci := 5) rfl rfl f_t rfl hl.1 rfl (Nat.le_of_ble_eq_true rfl) dX9_becomeReady_10 ⟨Nat.le_of_ble_eq_true rfl, Nat.le_of_ble_eq_true rfl⟩ ⟨Nat.le_of_ble_eq_true rfl, Nat.le_of_ble_eq_true rfl⟩) hH (fun μ1 H locs hp hH => ?_)
  obtain ⟨fz0, fe⟩ := hp
  have f_t : μ1 t = some (hp_o 5 [.int (nI lv), .ref s1, .int (nB aw), .int (nI n), .int (nI 1)]) := fz0
  have fr := hp_eq.tr1 fe fr (by simp)
  clear fe fz0
  exact hp_rr hx hb hr (Or.inl ⟨_, rfl⟩) hlocks hS hH (⟨rfl, rfl, f_t, fr⟩) dX9_becomeReady_13

set_option maxHeartbeats 4000000 in
set_option maxRecDepth 100000 in
theorem c_X9_showsWhatIsTold (l : Launch) (X : hp_X) {μ : hp_M} {nx : Nat} {t s1 lv st le : Nat} {aw : Bool} {sh : Nat → Nat} {f k fl se td tc : Nat} (hsh : ∀ j, sh j < 2 ^ 40) (htd : td < 2 ^ 40) (htc : tc < 64) (hle : 1 ≤ le) (hle3 : le ≤ 3) (f_t : μ t = some (hp_o 5 [.int (nI lv), .ref s1, .int (nB aw), .int (nI st), .int (nI le)])) (f_s : μ s1 = some (hp_m X 3 sh)) (f_f : μ f = some (hp_o 2 [.ref (X.2.2.2 k), .int (nI fl), .int (nI se), .long (lN td), .int (nI tc)])) : Ct l X yX9_showsWhatIsTold cX9_showsWhatIsTold 4 (some FieldType.boolean) 0 0 0 0 [.ref t, .ref f] μ nx (hq_i X (po_i nx (nB (mtN (sh (le - 1)) td tc)) (fun z => z = μ))) := by
  refine hp_met (by decide) (Nat.le_of_ble_eq_true rfl) ?_
  intro p e s m below meth c ls hx hb hml hr hlocks hown hin hS hH hl
  have hl : lv_has ls 4 [(0, .ref t), (1, .ref f)] := hl
  refine lv_lconst (v := lN 1) hx hb dX9_showsWhatIsTold_0 rfl ?_
  refine lv_aload_n hx hb dX9_showsWhatIsTold_1 rfl (lv_at hl 1 rfl) ?_
  refine hp_get hx hb hown hS.2.1 hH (F_X9_110.use hS) f_f rfl dX9_showsWhatIsTold_2 ?_
  refine lv_lshl hx hb dX9_showsWhatIsTold_5 rfl ?_
  refine hp_eql (z := lN (2 ^ tc)) (by rw [wb_shl _ (by omega), Nat.one_mul]) ?_
  refine lv_lconst (v := lN 1) hx hb dX9_showsWhatIsTold_6 rfl ?_
  refine lv_lsub hx hb dX9_showsWhatIsTold_7 ?_
  refine hp_eql (z := lN (2 ^ tc - 1)) (lN_sub Nat.one_le_two_pow) ?_
  refine lv_lstore_n (lv' := [(2, .long (lN (2 ^ tc - 1))), (0, .ref t), (1, .ref f)]) hx hb dX9_showsWhatIsTold_8 rfl hl (by decide) rfl (fun ls hl => ?_)
  refine lv_aload_n hx hb dX9_showsWhatIsTold_9 rfl (lv_at hl 1 rfl) ?_
  refine hp_get hx hb hown hS.2.1 hH (F_X9_25.use hS) f_t rfl dX9_showsWhatIsTold_10 ?_
  refine lv_aload_n hx hb dX9_showsWhatIsTold_13 rfl (lv_at hl 1 rfl) ?_
  refine hp_get hx hb hown hS.2.1 hH (F_X9_19.use hS) f_t rfl dX9_showsWhatIsTold_14 ?_
  refine lv_iconst (v := nI 1) hx hb dX9_showsWhatIsTold_17 (by decide) ?_
  refine lv_isub hx hb dX9_showsWhatIsTold_18 ?_
  refine hp_eqi (z := nI (le - 1)) (pk_sub (by omega)) ?_
  refine hp_laldM hx hb hS.al hH f_s (by omega) (by omega) dX9_showsWhatIsTold_19 ?_
  have hxl : sh (le - 1) ^^^ td < 2 ^ 40 := Nat.xor_lt_two_pow (hsh _) htd
  have hml2 := Nat.mod_le (sh (le - 1) ^^^ td) (2 ^ tc)
  refine lv_aload_n hx hb dX9_showsWhatIsTold_20 rfl (lv_at hl 2 rfl) ?_
  refine hp_get hx hb hown hS.2.1 hH (F_X9_113.use hS) f_f rfl dX9_showsWhatIsTold_21 ?_
  refine lv_lxor hx hb dX9_showsWhatIsTold_24 ?_
  refine hp_eql (z := lN (sh (le - 1) ^^^ td)) (lN_xor _ _) ?_
  refine lv_lload_n hx hb dX9_showsWhatIsTold_25 rfl (lv_at hl 0 rfl) ?_
  refine lv_land hx hb dX9_showsWhatIsTold_26 ?_
  refine hp_eql (z := lN ((sh (le - 1) ^^^ td) % 2 ^ tc)) (wb_mask (by omega) (by omega)) ?_
  refine lv_lconst (v := lN 0) hx hb dX9_showsWhatIsTold_27 rfl ?_
  refine W.lcmp hx hb dX9_showsWhatIsTold_28 ?_
  refine lv_if_ne (tgt := 36) hx hb dX9_showsWhatIsTold_29 (by decide) (fun c_29 => ?_) (fun c_29 => ?_)
  · have c_29 : ¬ (((sh (le - 1) ^^^ td) % 2 ^ tc) = 0) := fun q => c_29 ((lg_cmp_eq _ _).mpr ((pk_lEQ (by omega) (by omega)).mpr q))
    refine lv_iconst (v := nI 0) hx hb dX9_showsWhatIsTold_36 (by decide) ?_
    refine hp_eqi (z := nB false) (by decide) ?_
    exact hp_rz hx hb hr hlocks hS hH (nB_nar _) (⟨rfl, congrArg nB (Eq.symm (by unfold mtN; simp [c_29])), rfl⟩) dX9_showsWhatIsTold_37
  · have c_29 : ((sh (le - 1) ^^^ td) % 2 ^ tc) = 0 := (pk_lEQ (by omega) (by omega)).mp ((lg_cmp_eq _ _).mp c_29)
    refine lv_iconst (v := nI 1) hx hb dX9_showsWhatIsTold_32 (by decide) ?_
    refine lv_goto (tgt := 37) hx hb dX9_showsWhatIsTold_33 (by decide) ?_
    refine hp_eqi (z := nB true) (by decide) ?_
    exact hp_rz hx hb hr hlocks hS hH (nB_nar _) (⟨rfl, congrArg nB (Eq.symm (by unfold mtN; simp [c_29])), rfl⟩) dX9_showsWhatIsTold_37

set_option maxHeartbeats 4000000 in
set_option maxRecDepth 100000 in
theorem c_X9_becomeChosen (l : Launch) (X : hp_X) {μ : hp_M} {nx : Nat} {t s1 lv st le : Nat} {aw : Bool} (hst : st < 8) (hle3 : le ≤ 3) (hl3 : lv ≤ 3) (f_t : μ t = some (hp_o 5 [.int (nI lv), .ref s1, .int (nB aw), .int (nI st), .int (nI le)])) : Ct l X yX9_becomeChosen cX9_becomeChosen 1 (some (FieldType.object "TagField$Reply")) 0 0 0 0 [.ref t] μ nx (hq_r X (po_r nx (X.2.2.2 (if le < lv then 11 else 12)) (fun z => z t = some (hp_o 5 [.int (nI lv), .ref s1, .int (nB aw), .int (nI (if le < lv then st else if st = 2 then 3 else 6)), .int (nI (if le < lv then le + 1 else le))]) ∧ hp_eq [t] z μ))) := by
  refine hp_met (by decide) (Nat.le_of_ble_eq_true rfl) ?_
  intro p e s m below meth c ls hx hb hml hr hlocks hown hin hS hH hl
  have hl : lv_has ls 1 [(0, .ref t)] := hl
  have fr : hp_eq [t] μ μ := fun _ _ => rfl
  refine lv_aload_n hx hb dX9_becomeChosen_0 rfl (lv_at hl 0 rfl) ?_
  refine hp_get hx hb hown hS.2.1 hH (F_X9_19.use hS) f_t rfl dX9_becomeChosen_1 ?_
  refine lv_aload_n hx hb dX9_becomeChosen_4 rfl (lv_at hl 0 rfl) ?_
  refine hp_get hx hb hown hS.2.1 hH (F_X9_22.use hS) f_t rfl dX9_becomeChosen_5 ?_
  refine lv_icmp_ge (tgt := 25) hx hb dX9_becomeChosen_8 (by decide) (fun c_8 => ?_) (fun c_8 => ?_)
  · have c_8 : lv ≤ le := (nI_leI (by omega) (by omega)).mp c_8
    have c_8 : ¬ le < lv := by omega
    refine lv_aload_n hx hb dX9_becomeChosen_25 rfl (lv_at hl 0 rfl) ?_
    refine lv_aload_n hx hb dX9_becomeChosen_26 rfl (lv_at hl 0 rfl) ?_
    refine hp_get hx hb hown hS.2.1 hH (F_X9_15.use hS) f_t rfl dX9_becomeChosen_27 ?_
    refine lv_iconst (v := nI 2) hx hb dX9_becomeChosen_30 (by decide) ?_
    refine lv_icmp_ne (tgt := 38) hx hb dX9_becomeChosen_31 (by decide) (fun c_31 => ?_) (fun c_31 => ?_)
    · have c_31 : ¬ (st = 2) := fun z => c_31 ((nI_eq (by omega) (by omega)).mpr z)
      refine lv_bipush (v := nI 6) hx hb dX9_becomeChosen_38 (by decide) ?_
      refine hp_put hx hb hown hS.2.1 hH (P_X9_15.use hS) f_t rfl rfl (Nat.le_of_ble_eq_true rfl) dX9_becomeChosen_40 (fun H locs μ1 fz fn hH => ?_)
      have f_t : μ1 t = some (hp_o 5 [.int (nI lv), .ref s1, .int (nB aw), .int (nI 6), .int (nI le)]) := fz
      have fr := hp_eq.put fr (by simp) fn
      clear fz fn
      refine hp_gets hx hb hS.r4 hH hown G_X9_120 hS dX9_becomeChosen_43 ?_
      exact hp_rr hx hb hr (Or.inl ⟨_, rfl⟩) hlocks hS hH (⟨rfl, congrArg X.2.2.2 (Eq.symm (by simp [c_8, c_31])), f_t.trans (by simp [c_8, c_31]), fr⟩) dX9_becomeChosen_46
    · have c_31 : st = 2 := (nI_eq (by omega) (by omega)).mp c_31
      refine lv_iconst (v := nI 3) hx hb dX9_becomeChosen_34 (by decide) ?_
      refine lv_goto (tgt := 40) hx hb dX9_becomeChosen_35 (by decide) ?_
      refine hp_put hx hb hown hS.2.1 hH (P_X9_15.use hS) f_t rfl rfl (Nat.le_of_ble_eq_true rfl) dX9_becomeChosen_40 (fun H locs μ1 fz fn hH => ?_)
      have f_t : μ1 t = some (hp_o 5 [.int (nI lv), .ref s1, .int (nB aw), .int (nI 3), .int (nI le)]) := fz
      have fr := hp_eq.put fr (by simp) fn
      clear fz fn
      refine hp_gets hx hb hS.r4 hH hown G_X9_120 hS dX9_becomeChosen_43 ?_
      exact hp_rr hx hb hr (Or.inl ⟨_, rfl⟩) hlocks hS hH (⟨rfl, congrArg X.2.2.2 (Eq.symm (by simp [c_8, c_31])), f_t.trans (by simp [c_8, c_31]), fr⟩) dX9_becomeChosen_46
  · have c_8 : ¬ (lv ≤ le) := fun z => c_8 ((nI_leI (by omega) (by omega)).mpr z)
    have c_8 : le < lv := by omega
    refine lv_aload_n hx hb dX9_becomeChosen_11 rfl (lv_at hl 0 rfl) ?_
    refine lv_dup hx hb dX9_becomeChosen_12 rfl ?_
    refine hp_get hx hb hown hS.2.1 hH (F_X9_19.use hS) f_t rfl dX9_becomeChosen_13 ?_
    refine lv_iconst (v := nI 1) hx hb dX9_becomeChosen_16 (by decide) ?_
    refine lv_iadd hx hb dX9_becomeChosen_17 ?_
    refine hp_eqi (z := nI (le + 1)) (nI_add _ _) ?_
    refine hp_put hx hb hown hS.2.1 hH (P_X9_19.use hS) f_t rfl rfl (Nat.le_of_ble_eq_true rfl) dX9_becomeChosen_18 (fun H locs μ1 fz fn hH => ?_)
    have f_t : μ1 t = some (hp_o 5 [.int (nI lv), .ref s1, .int (nB aw), .int (nI st), .int (nI (le + 1))]) := fz
    have fr := hp_eq.put fr (by simp) fn
    clear fz fn
    refine hp_gets hx hb hS.r3 hH hown G_X9_117 hS dX9_becomeChosen_21 ?_
    exact hp_rr hx hb hr (Or.inl ⟨_, rfl⟩) hlocks hS hH (⟨rfl, congrArg X.2.2.2 (Eq.symm (by simp [c_8])), f_t.trans (by simp [c_8]), fr⟩) dX9_becomeChosen_24

set_option maxHeartbeats 4000000 in
set_option maxRecDepth 100000 in
theorem c_X9_goBack (l : Launch) (X : hp_X) {μ : hp_M} {nx : Nat} {t s1 lv st le : Nat} {aw : Bool} (hst : st < 8) (f_t : μ t = some (hp_o 5 [.int (nI lv), .ref s1, .int (nB aw), .int (nI st), .int (nI le)])) : Ct l X yX9_goBack cX9_goBack 1 (some (FieldType.object "TagField$Reply")) 0 0 0 0 [.ref t] μ nx (hq_r X (po_r nx (X.2.2.2 8) (fun z => z t = some (hp_o 5 [.int (nI lv), .ref s1, .int (nB aw), .int (nI (bkS st)), .int (nI le)]) ∧ hp_eq [t] z μ))) := by
  refine hp_met (by decide) (Nat.le_of_ble_eq_true rfl) ?_
  intro p e s m below meth c ls hx hb hml hr hlocks hown hin hS hH hl
  have hl : lv_has ls 1 [(0, .ref t)] := hl
  have fr : hp_eq [t] μ μ := fun _ _ => rfl
  refine lv_aload_n hx hb dX9_goBack_0 rfl (lv_at hl 0 rfl) ?_
  refine lv_aload_n hx hb dX9_goBack_1 rfl (lv_at hl 0 rfl) ?_
  refine hp_get hx hb hown hS.2.1 hH (F_X9_15.use hS) f_t rfl dX9_goBack_2 ?_
  refine lv_iconst (v := nI 2) hx hb dX9_goBack_5 (by decide) ?_
  refine lv_icmp_eq (tgt := 17) hx hb dX9_goBack_6 (by decide) (fun c_6 => ?_) (fun c_6 => ?_)
  · have c_6 : st = 2 := (nI_eq (by omega) (by omega)).mp c_6
    refine lv_iconst (v := nI 1) hx hb dX9_goBack_17 (by decide) ?_
    refine lv_goto (tgt := 22) hx hb dX9_goBack_18 (by decide) ?_
    refine hp_put hx hb hown hS.2.1 hH (P_X9_15.use hS) f_t rfl rfl (Nat.le_of_ble_eq_true rfl) dX9_goBack_22 (fun H locs μ1 fz fn hH => ?_)
    have f_t : μ1 t = some (hp_o 5 [.int (nI lv), .ref s1, .int (nB aw), .int (nI 1), .int (nI le)]) := fz
    have fr := hp_eq.put fr (by simp) fn
    clear fz fn
    refine hp_gets hx hb hS.r0 hH hown G_X9_63 hS dX9_goBack_25 ?_
    exact hp_rr hx hb hr (Or.inl ⟨_, rfl⟩) hlocks hS hH (⟨rfl, rfl, f_t.trans (by unfold bkS; simp [c_6]), fr⟩) dX9_goBack_28
  · have c_6 : ¬ (st = 2) := fun z => c_6 ((nI_eq (by omega) (by omega)).mpr z)
    refine lv_aload_n hx hb dX9_goBack_9 rfl (lv_at hl 0 rfl) ?_
    refine hp_get hx hb hown hS.2.1 hH (F_X9_15.use hS) f_t rfl dX9_goBack_10 ?_
    refine lv_iconst (v := nI 3) hx hb dX9_goBack_13 (by decide) ?_
    refine lv_icmp_ne (tgt := 21) hx hb dX9_goBack_14 (by decide) (fun c_14 => ?_) (fun c_14 => ?_)
    · have c_14 : ¬ (st = 3) := fun z => c_14 ((nI_eq (by omega) (by omega)).mpr z)
      refine lv_iconst (v := nI 4) hx hb dX9_goBack_21 (by decide) ?_
      refine hp_put hx hb hown hS.2.1 hH (P_X9_15.use hS) f_t rfl rfl (Nat.le_of_ble_eq_true rfl) dX9_goBack_22 (fun H locs μ1 fz fn hH => ?_)
      have f_t : μ1 t = some (hp_o 5 [.int (nI lv), .ref s1, .int (nB aw), .int (nI 4), .int (nI le)]) := fz
      have fr := hp_eq.put fr (by simp) fn
      clear fz fn
      refine hp_gets hx hb hS.r0 hH hown G_X9_63 hS dX9_goBack_25 ?_
      exact hp_rr hx hb hr (Or.inl ⟨_, rfl⟩) hlocks hS hH (⟨rfl, rfl, f_t.trans (by unfold bkS; simp [c_6, c_14]), fr⟩) dX9_goBack_28
    · have c_14 : st = 3 := (nI_eq (by omega) (by omega)).mp c_14
      refine lv_iconst (v := nI 1) hx hb dX9_goBack_17 (by decide) ?_
      refine lv_goto (tgt := 22) hx hb dX9_goBack_18 (by decide) ?_
      refine hp_put hx hb hown hS.2.1 hH (P_X9_15.use hS) f_t rfl rfl (Nat.le_of_ble_eq_true rfl) dX9_goBack_22 (fun H locs μ1 fz fn hH => ?_)
      have f_t : μ1 t = some (hp_o 5 [.int (nI lv), .ref s1, .int (nB aw), .int (nI 1), .int (nI le)]) := fz
      have fr := hp_eq.put fr (by simp) fn
      clear fz fn
      refine hp_gets hx hb hS.r0 hH hown G_X9_63 hS dX9_goBack_25 ?_
      exact hp_rr hx hb hr (Or.inl ⟨_, rfl⟩) hlocks hS hH (⟨rfl, rfl, f_t.trans (by unfold bkS; simp [c_6, c_14]), fr⟩) dX9_goBack_28

set_option maxHeartbeats 4000000 in
set_option maxRecDepth 100000 in
theorem c_X9_hearReady_2 (l : Launch) (X : hp_X) {μ : hp_M} {nx : Nat} {t s1 lv le : Nat} {aw : Bool} {sh : Nat → Nat} {f k fl se td tc : Nat} (hsh : ∀ j, sh j < 2 ^ 40) (hk8 : k < 8) (htd : k = 3 ∨ k = 4 → td < 2 ^ 40 ∧ tc < 64) (hle : 1 ≤ le) (hle3 : le ≤ 3) (hl3 : lv ≤ 3) (hfl : fl ≤ 3) (f_t : μ t = some (hp_o 5 [.int (nI lv), .ref s1, .int (nB aw), .int (nI 2), .int (nI le)])) (f_s : μ s1 = some (hp_m X 3 sh)) (f_f : μ f = some (hp_o 2 [.ref (X.2.2.2 k), .int (nI fl), .int (nI se), .long (lN td), .int (nI tc)])) : Ct l X yX9_hearReady cX9_hearReady 3 (some (FieldType.object "TagField$Reply")) 1 40 0 0 [.ref t, .ref f] μ nx (hq_r X (po_r nx (X.2.2.2 (8 + hrR k (decide (fl = le)) (mtN (sh (le - 1)) td tc) lv 2 le)) (fun z => z t = some (hp_o 5 [.int (nI lv), .ref s1, .int (nB aw), .int (nI (hrS k (decide (fl = le)) (mtN (sh (le - 1)) td tc) lv 2 le)), .int (nI (hrL k (decide (fl = le)) (mtN (sh (le - 1)) td tc) lv 2 le))]) ∧ hp_eq [t] z μ))) := by
  refine hp_met (by decide) (Nat.le_of_ble_eq_true rfl) ?_
  intro p e s m below meth c ls hx hb hml hr hlocks hown hin hS hH hl
  have hl : lv_has ls 3 [(0, .ref t), (1, .ref f)] := hl
  have fr : hp_eq [t] μ μ := fun _ _ => rfl
  refine lv_aload_n hx hb dX9_hearReady_0 rfl (lv_at hl 1 rfl) ?_
  refine hp_get hx hb hown hS.2.1 hH (F_X9_89.use hS) f_f rfl dX9_hearReady_1 ?_
  refine lv_aload_n hx hb dX9_hearReady_4 rfl (lv_at hl 0 rfl) ?_
  refine hp_get hx hb hown hS.2.1 hH (F_X9_19.use hS) f_t rfl dX9_hearReady_5 ?_
  refine lv_icmp_ne (tgt := 15) hx hb dX9_hearReady_8 (by decide) (fun c_8 => ?_) (fun c_8 => ?_)
  · have c_8 : ¬ (fl = le) := fun z => c_8 ((nI_eq (by omega) (by omega)).mpr z)
    refine lv_iconst (v := nI 0) hx hb dX9_hearReady_15 (by decide) ?_
    refine lv_istore_n (lv' := [(2, .int (nI 0)), (0, .ref t), (1, .ref f)]) hx hb dX9_hearReady_16 rfl hl (by decide) rfl (fun ls hl => ?_)
    refine lv_aload_n hx hb dX9_hearReady_17 rfl (lv_at hl 2 rfl) ?_
    refine hp_get hx hb hown hS.2.1 hH (F_X9_45.use hS) f_f rfl dX9_hearReady_18 ?_
    refine hp_gets hx hb hS.k3 hH hown G_X9_90 hS dX9_hearReady_21 ?_
    refine hp_acmp_ne (tgt := 49) hx hb dX9_hearReady_24 (by decide) (fun c_24 => ?_) (fun c_24 => ?_)
    · have c_24 : ¬ (k = 3) := fun z => c_24 (by rw [z])
      refine lv_aload_n hx hb dX9_hearReady_49 rfl (lv_at hl 2 rfl) ?_
      refine hp_get hx hb hown hS.2.1 hH (F_X9_45.use hS) f_f rfl dX9_hearReady_50 ?_
      refine hp_gets hx hb hS.k4 hH hown G_X9_100 hS dX9_hearReady_53 ?_
      refine hp_acmp_ne (tgt := 76) hx hb dX9_hearReady_56 (by decide) (fun c_56 => ?_) (fun c_56 => ?_)
      · have c_56 : ¬ (k = 4) := fun z => c_56 (by rw [z])
        refine lv_aload_n hx hb dX9_hearReady_76 rfl (lv_at hl 1 rfl) ?_
        refine hp_krm (hp_runV (As := []) (rest := []) hx hb hml hown hS hH (c_X9_goBack l X (by decide) f_t) M_X9_107 I_X9_goBack V_X9_goBack (ci := 5) rfl rfl f_t rfl hl.1 rfl (Nat.le_of_ble_eq_true rfl) dX9_hearReady_77 ⟨Nat.le_of_ble_eq_true rfl, Nat.le_of_ble_eq_true rfl⟩ ⟨Nat.le_of_ble_eq_true rfl, Nat.le_of_ble_eq_true rfl⟩) hH (fun μ1 H locs hp hH => ?_)
        obtain ⟨fz0, fe⟩ := hp
        have f_s := (hp_e1 fe (hp_ne f_s f_t (by simp))).trans f_s
        have f_f := (hp_e1 fe (hp_ne f_f f_t (by simp))).trans f_f
        have f_t : μ1 t = some (hp_o 5 [.int (nI lv), .ref s1, .int (nB aw), .int (nI (bkS 2)), .int (nI le)]) := fz0
        have fr := hp_eq.tr1 fe fr (by simp)
        clear fe fz0
        exact hp_rr hx hb hr (Or.inl ⟨_, rfl⟩) hlocks hS hH (⟨rfl, congrArg X.2.2.2 (Eq.symm (by simp [hrS, hrL, hrR, bkS, c_8, c_24, c_56])), f_t.trans (by simp [hrS, hrL, hrR, bkS, c_8, c_24, c_56]), fr⟩) dX9_hearReady_80
      · have c_56 : k = 4 := hS.ki (by omega) (by omega) c_56
        refine lv_iload_n hx hb dX9_hearReady_59 rfl (lv_at hl 0 rfl) ?_
        refine lv_if_eq (tgt := 76) hx hb dX9_hearReady_60 (by decide) (fun c_60 => ?_) (fun c_60 => ?_)
        · have c_60 : 0 = 0 := nz_0 (by omega) c_60
          refine lv_aload_n hx hb dX9_hearReady_76 rfl (lv_at hl 1 rfl) ?_
          refine hp_krm (hp_runV (As := []) (rest := []) hx hb hml hown hS hH (c_X9_goBack l X (by decide) f_t) M_X9_107 I_X9_goBack V_X9_goBack (ci := 5) rfl rfl f_t rfl hl.1 rfl (Nat.le_of_ble_eq_true rfl) dX9_hearReady_77 ⟨Nat.le_of_ble_eq_true rfl, Nat.le_of_ble_eq_true rfl⟩ ⟨Nat.le_of_ble_eq_true rfl, Nat.le_of_ble_eq_true rfl⟩) hH (fun μ1 H locs hp hH => ?_)
          obtain ⟨fz0, fe⟩ := hp
          have f_s := (hp_e1 fe (hp_ne f_s f_t (by simp))).trans f_s
          have f_f := (hp_e1 fe (hp_ne f_f f_t (by simp))).trans f_f
          have f_t : μ1 t = some (hp_o 5 [.int (nI lv), .ref s1, .int (nB aw), .int (nI (bkS 2)), .int (nI le)]) := fz0
          have fr := hp_eq.tr1 fe fr (by simp)
          clear fe fz0
          exact hp_rr hx hb hr (Or.inl ⟨_, rfl⟩) hlocks hS hH (⟨rfl, congrArg X.2.2.2 (Eq.symm (by simp [hrS, hrL, hrR, bkS, c_8, c_24, c_56, c_60])), f_t.trans (by simp [hrS, hrL, hrR, bkS, c_8, c_24, c_56, c_60]), fr⟩) dX9_hearReady_80
        · exact absurd c_60 (by decide)
    · have c_24 : k = 3 := hS.ki (by omega) (by omega) c_24
      refine lv_iload_n hx hb dX9_hearReady_27 rfl (lv_at hl 0 rfl) ?_
      refine lv_if_eq (tgt := 49) hx hb dX9_hearReady_28 (by decide) (fun c_28 => ?_) (fun c_28 => ?_)
      · have c_28 : 0 = 0 := nz_0 (by omega) c_28
        refine lv_aload_n hx hb dX9_hearReady_49 rfl (lv_at hl 2 rfl) ?_
        refine hp_get hx hb hown hS.2.1 hH (F_X9_45.use hS) f_f rfl dX9_hearReady_50 ?_
        refine hp_gets hx hb hS.k4 hH hown G_X9_100 hS dX9_hearReady_53 ?_
        refine hp_acmp_ne (tgt := 76) hx hb dX9_hearReady_56 (by decide) (fun c_56 => ?_) (fun c_56 => ?_)
        · have c_56 : ¬ (k = 4) := fun z => c_56 (by rw [z])
          refine lv_aload_n hx hb dX9_hearReady_76 rfl (lv_at hl 1 rfl) ?_
          refine hp_krm (hp_runV (As := []) (rest := []) hx hb hml hown hS hH (c_X9_goBack l X (by decide) f_t) M_X9_107 I_X9_goBack V_X9_goBack (ci := 5) rfl rfl f_t rfl hl.1 rfl (Nat.le_of_ble_eq_true rfl) dX9_hearReady_77 ⟨Nat.le_of_ble_eq_true rfl, Nat.le_of_ble_eq_true rfl⟩ ⟨Nat.le_of_ble_eq_true rfl, Nat.le_of_ble_eq_true rfl⟩) hH (fun μ1 H locs hp hH => ?_)
          obtain ⟨fz0, fe⟩ := hp
          have f_s := (hp_e1 fe (hp_ne f_s f_t (by simp))).trans f_s
          have f_f := (hp_e1 fe (hp_ne f_f f_t (by simp))).trans f_f
          have f_t : μ1 t = some (hp_o 5 [.int (nI lv), .ref s1, .int (nB aw), .int (nI (bkS 2)), .int (nI le)]) := fz0
          have fr := hp_eq.tr1 fe fr (by simp)
          clear fe fz0
          exact hp_rr hx hb hr (Or.inl ⟨_, rfl⟩) hlocks hS hH (⟨rfl, congrArg X.2.2.2 (Eq.symm (by simp [hrS, hrL, hrR, bkS, c_8, c_24, c_28, c_56])), f_t.trans (by simp [hrS, hrL, hrR, bkS, c_8, c_24, c_28, c_56]), fr⟩) dX9_hearReady_80
        · have c_56 : k = 4 := hS.ki (by omega) (by omega) c_56
          refine lv_iload_n hx hb dX9_hearReady_59 rfl (lv_at hl 0 rfl) ?_
          refine lv_if_eq (tgt := 76) hx hb dX9_hearReady_60 (by decide) (fun c_60 => ?_) (fun c_60 => ?_)
          · have c_60 : 0 = 0 := nz_0 (by omega) c_60
            refine lv_aload_n hx hb dX9_hearReady_76 rfl (lv_at hl 1 rfl) ?_
            refine hp_krm (hp_runV (As := []) (rest := []) hx hb hml hown hS hH (c_X9_goBack l X (by decide) f_t) M_X9_107 I_X9_goBack V_X9_goBack (ci := 5) rfl rfl f_t rfl hl.1 rfl (Nat.le_of_ble_eq_true rfl) dX9_hearReady_77 ⟨Nat.le_of_ble_eq_true rfl, Nat.le_of_ble_eq_true rfl⟩ ⟨Nat.le_of_ble_eq_true rfl, Nat.le_of_ble_eq_true rfl⟩) hH (fun μ1 H locs hp hH => ?_)
            obtain ⟨fz0, fe⟩ := hp
            have f_s := (hp_e1 fe (hp_ne f_s f_t (by simp))).trans f_s
            have f_f := (hp_e1 fe (hp_ne f_f f_t (by simp))).trans f_f
            have f_t : μ1 t = some (hp_o 5 [.int (nI lv), .ref s1, .int (nB aw), .int (nI (bkS 2)), .int (nI le)]) := fz0
            have fr := hp_eq.tr1 fe fr (by simp)
            clear fe fz0
            exact hp_rr hx hb hr (Or.inl ⟨_, rfl⟩) hlocks hS hH (⟨rfl, congrArg X.2.2.2 (Eq.symm (by simp [hrS, hrL, hrR, bkS, c_8, c_24, c_28, c_56, c_60])), f_t.trans (by simp [hrS, hrL, hrR, bkS, c_8, c_24, c_28, c_56, c_60]), fr⟩) dX9_hearReady_80
          · exact absurd c_60 (by decide)
      · exact absurd c_28 (by decide)
  · have c_8 : fl = le := (nI_eq (by omega) (by omega)).mp c_8
    refine lv_iconst (v := nI 1) hx hb dX9_hearReady_11 (by decide) ?_
    refine lv_goto (tgt := 16) hx hb dX9_hearReady_12 (by decide) ?_
    refine lv_istore_n (lv' := [(2, .int (nI 1)), (0, .ref t), (1, .ref f)]) hx hb dX9_hearReady_16 rfl hl (by decide) rfl (fun ls hl => ?_)
    refine lv_aload_n hx hb dX9_hearReady_17 rfl (lv_at hl 2 rfl) ?_
    refine hp_get hx hb hown hS.2.1 hH (F_X9_45.use hS) f_f rfl dX9_hearReady_18 ?_
    refine hp_gets hx hb hS.k3 hH hown G_X9_90 hS dX9_hearReady_21 ?_
    refine hp_acmp_ne (tgt := 49) hx hb dX9_hearReady_24 (by decide) (fun c_24 => ?_) (fun c_24 => ?_)
    · have c_24 : ¬ (k = 3) := fun z => c_24 (by rw [z])
      refine lv_aload_n hx hb dX9_hearReady_49 rfl (lv_at hl 2 rfl) ?_
      refine hp_get hx hb hown hS.2.1 hH (F_X9_45.use hS) f_f rfl dX9_hearReady_50 ?_
      refine hp_gets hx hb hS.k4 hH hown G_X9_100 hS dX9_hearReady_53 ?_
      refine hp_acmp_ne (tgt := 76) hx hb dX9_hearReady_56 (by decide) (fun c_56 => ?_) (fun c_56 => ?_)
      · have c_56 : ¬ (k = 4) := fun z => c_56 (by rw [z])
        refine lv_aload_n hx hb dX9_hearReady_76 rfl (lv_at hl 1 rfl) ?_
        refine hp_krm (hp_runV (As := []) (rest := []) hx hb hml hown hS hH (c_X9_goBack l X (by decide) f_t) M_X9_107 I_X9_goBack V_X9_goBack (ci := 5) rfl rfl f_t rfl hl.1 rfl (Nat.le_of_ble_eq_true rfl) dX9_hearReady_77 ⟨Nat.le_of_ble_eq_true rfl, Nat.le_of_ble_eq_true rfl⟩ ⟨Nat.le_of_ble_eq_true rfl, Nat.le_of_ble_eq_true rfl⟩) hH (fun μ1 H locs hp hH => ?_)
        obtain ⟨fz0, fe⟩ := hp
        have f_s := (hp_e1 fe (hp_ne f_s f_t (by simp))).trans f_s
        have f_f := (hp_e1 fe (hp_ne f_f f_t (by simp))).trans f_f
        have f_t : μ1 t = some (hp_o 5 [.int (nI lv), .ref s1, .int (nB aw), .int (nI (bkS 2)), .int (nI le)]) := fz0
        have fr := hp_eq.tr1 fe fr (by simp)
        clear fe fz0
        exact hp_rr hx hb hr (Or.inl ⟨_, rfl⟩) hlocks hS hH (⟨rfl, congrArg X.2.2.2 (Eq.symm (by simp [hrS, hrL, hrR, bkS, c_8, c_24, c_56])), f_t.trans (by simp [hrS, hrL, hrR, bkS, c_8, c_24, c_56]), fr⟩) dX9_hearReady_80
      · have c_56 : k = 4 := hS.ki (by omega) (by omega) c_56
        refine lv_iload_n hx hb dX9_hearReady_59 rfl (lv_at hl 0 rfl) ?_
        refine lv_if_eq (tgt := 76) hx hb dX9_hearReady_60 (by decide) (fun c_60 => ?_) (fun c_60 => ?_)
        · exact absurd c_60 (by decide)
        · have c_60 : ¬ (1 = 0) := nz_n (by omega) c_60
          refine lv_aload_n hx hb dX9_hearReady_63 rfl (lv_at hl 1 rfl) ?_
          refine lv_aload_n hx hb dX9_hearReady_64 rfl (lv_at hl 2 rfl) ?_
          refine hp_kip (hp_runV (As := [.ref f]) (rest := []) hx hb hml hown hS hH (c_X9_showsWhatIsTold l X hsh (htd (by omega)).1 (htd (by omega)).2 hle hle3 f_t f_s f_f) M_X9_93 I_X9_showsWhatIsTold V_X9_showsWhatIsTold (ci := 5) rfl rfl f_t rfl hl.1 rfl (Nat.le_of_ble_eq_true rfl) dX9_hearReady_65 ⟨Nat.le_of_ble_eq_true rfl, Nat.le_of_ble_eq_true rfl⟩ ⟨Nat.le_of_ble_eq_true rfl, Nat.le_of_ble_eq_true rfl⟩) hH (fun H locs hH => ?_)
          refine lv_if_eq (tgt := 76) hx hb dX9_hearReady_68 (by decide) (fun c_68 => ?_) (fun c_68 => ?_)
          · have c_68 : (mtN (sh (le - 1)) td tc) = false := nB_0 c_68
            refine lv_aload_n hx hb dX9_hearReady_76 rfl (lv_at hl 1 rfl) ?_
            refine hp_krm (hp_runV (As := []) (rest := []) hx hb hml hown hS hH (c_X9_goBack l X (by decide) f_t) M_X9_107 I_X9_goBack V_X9_goBack (ci := 5) rfl rfl f_t rfl hl.1 rfl (Nat.le_of_ble_eq_true rfl) dX9_hearReady_77 ⟨Nat.le_of_ble_eq_true rfl, Nat.le_of_ble_eq_true rfl⟩ ⟨Nat.le_of_ble_eq_true rfl, Nat.le_of_ble_eq_true rfl⟩) hH (fun μ1 H locs hp hH => ?_)
            obtain ⟨fz0, fe⟩ := hp
            have f_s := (hp_e1 fe (hp_ne f_s f_t (by simp))).trans f_s
            have f_f := (hp_e1 fe (hp_ne f_f f_t (by simp))).trans f_f
            have f_t : μ1 t = some (hp_o 5 [.int (nI lv), .ref s1, .int (nB aw), .int (nI (bkS 2)), .int (nI le)]) := fz0
            have fr := hp_eq.tr1 fe fr (by simp)
            clear fe fz0
            exact hp_rr hx hb hr (Or.inl ⟨_, rfl⟩) hlocks hS hH (⟨rfl, congrArg X.2.2.2 (Eq.symm (by simp [hrS, hrL, hrR, bkS, c_8, c_24, c_56, c_60, c_68])), f_t.trans (by simp [hrS, hrL, hrR, bkS, c_8, c_24, c_56, c_60, c_68]), fr⟩) dX9_hearReady_80
          · have c_68 : (mtN (sh (le - 1)) td tc) = true := nB_n c_68
            refine lv_aload_n hx hb dX9_hearReady_71 rfl (lv_at hl 1 rfl) ?_
            refine hp_krm (hp_runV (As := []) (rest := []) hx hb hml hown hS hH (c_X9_becomeChosen l X (by decide) hle3 hl3 f_t) M_X9_103 I_X9_becomeChosen V_X9_becomeChosen (ci := 5) rfl rfl f_t rfl hl.1 rfl (Nat.le_of_ble_eq_true rfl) dX9_hearReady_72 ⟨Nat.le_of_ble_eq_true rfl, Nat.le_of_ble_eq_true rfl⟩ ⟨Nat.le_of_ble_eq_true rfl, Nat.le_of_ble_eq_true rfl⟩) hH (fun μ1 H locs hp hH => ?_)
            obtain ⟨fz0, fe⟩ := hp
            have f_s := (hp_e1 fe (hp_ne f_s f_t (by simp))).trans f_s
            have f_f := (hp_e1 fe (hp_ne f_f f_t (by simp))).trans f_f
            have f_t : μ1 t = some (hp_o 5 [.int (nI lv), .ref s1, .int (nB aw), .int (nI (if le < lv then 2 else if 2 = 2 then 3 else 6)), .int (nI (if le < lv then le + 1 else le))]) := fz0
            have fr := hp_eq.tr1 fe fr (by simp)
            clear fe fz0
            exact hp_rr hx hb hr (Or.inl ⟨_, rfl⟩) hlocks hS hH (⟨rfl, congrArg X.2.2.2 (Eq.symm (by by_cases hcl : le < lv <;> simp [hrS, hrL, hrR, bkS, c_8, c_24, c_56, c_60, c_68, hcl])), f_t.trans (by by_cases hcl : le < lv <;> simp [hrS, hrL, hrR, bkS, c_8, c_24, c_56, c_60, c_68, hcl]), fr⟩) dX9_hearReady_75
    · have c_24 : k = 3 := hS.ki (by omega) (by omega) c_24
      refine lv_iload_n hx hb dX9_hearReady_27 rfl (lv_at hl 0 rfl) ?_
      refine lv_if_eq (tgt := 49) hx hb dX9_hearReady_28 (by decide) (fun c_28 => ?_) (fun c_28 => ?_)
      · exact absurd c_28 (by decide)
      · have c_28 : ¬ (1 = 0) := nz_n (by omega) c_28
        refine lv_aload_n hx hb dX9_hearReady_31 rfl (lv_at hl 1 rfl) ?_
        refine lv_aload_n hx hb dX9_hearReady_32 rfl (lv_at hl 2 rfl) ?_
        refine hp_kip (hp_runV (As := [.ref f]) (rest := []) hx hb hml hown hS hH (c_X9_showsWhatIsTold l X hsh (htd (by omega)).1 (htd (by omega)).2 hle hle3 f_t f_s f_f) M_X9_93 I_X9_showsWhatIsTold V_X9_showsWhatIsTold (ci := 5) rfl rfl f_t rfl hl.1 rfl (Nat.le_of_ble_eq_true rfl) dX9_hearReady_33 ⟨Nat.le_of_ble_eq_true rfl, Nat.le_of_ble_eq_true rfl⟩ ⟨Nat.le_of_ble_eq_true rfl, Nat.le_of_ble_eq_true rfl⟩) hH (fun H locs hH => ?_)
        refine lv_if_eq (tgt := 45) hx hb dX9_hearReady_36 (by decide) (fun c_36 => ?_) (fun c_36 => ?_)
        · have c_36 : (mtN (sh (le - 1)) td tc) = false := nB_0 c_36
          refine hp_gets hx hb hS.r0 hH hown G_X9_63 hS dX9_hearReady_45 ?_
          exact hp_rr hx hb hr (Or.inl ⟨_, rfl⟩) hlocks hS hH (⟨rfl, congrArg X.2.2.2 (Eq.symm (by simp [hrS, hrL, hrR, bkS, c_8, c_24, c_28, c_36])), f_t.trans (by simp [hrS, hrL, hrR, bkS, c_8, c_24, c_28, c_36]), fr⟩) dX9_hearReady_48
        · have c_36 : (mtN (sh (le - 1)) td tc) = true := nB_n c_36
          refine hp_gets hx hb hS.r2 hH hown G_X9_97 hS dX9_hearReady_39 ?_
          refine lv_goto (tgt := 48) hx hb dX9_hearReady_42 (by decide) ?_
          exact hp_rr hx hb hr (Or.inl ⟨_, rfl⟩) hlocks hS hH (⟨rfl, congrArg X.2.2.2 (Eq.symm (by simp [hrS, hrL, hrR, bkS, c_8, c_24, c_28, c_36])), f_t.trans (by simp [hrS, hrL, hrR, bkS, c_8, c_24, c_28, c_36]), fr⟩) dX9_hearReady_48

set_option maxHeartbeats 4000000 in
set_option maxRecDepth 100000 in
theorem c_X9_hearReady_5 (l : Launch) (X : hp_X) {μ : hp_M} {nx : Nat} {t s1 lv le : Nat} {aw : Bool} {sh : Nat → Nat} {f k fl se td tc : Nat} (hsh : ∀ j, sh j < 2 ^ 40) (hk8 : k < 8) (htd : k = 3 ∨ k = 4 → td < 2 ^ 40 ∧ tc < 64) (hle : 1 ≤ le) (hle3 : le ≤ 3) (hl3 : lv ≤ 3) (hfl : fl ≤ 3) (f_t : μ t = some (hp_o 5 [.int (nI lv), .ref s1, .int (nB aw), .int (nI 5), .int (nI le)])) (f_s : μ s1 = some (hp_m X 3 sh)) (f_f : μ f = some (hp_o 2 [.ref (X.2.2.2 k), .int (nI fl), .int (nI se), .long (lN td), .int (nI tc)])) : Ct l X yX9_hearReady cX9_hearReady 3 (some (FieldType.object "TagField$Reply")) 1 40 0 0 [.ref t, .ref f] μ nx (hq_r X (po_r nx (X.2.2.2 (8 + hrR k (decide (fl = le)) (mtN (sh (le - 1)) td tc) lv 5 le)) (fun z => z t = some (hp_o 5 [.int (nI lv), .ref s1, .int (nB aw), .int (nI (hrS k (decide (fl = le)) (mtN (sh (le - 1)) td tc) lv 5 le)), .int (nI (hrL k (decide (fl = le)) (mtN (sh (le - 1)) td tc) lv 5 le))]) ∧ hp_eq [t] z μ))) := by
  refine hp_met (by decide) (Nat.le_of_ble_eq_true rfl) ?_
  intro p e s m below meth c ls hx hb hml hr hlocks hown hin hS hH hl
  have hl : lv_has ls 3 [(0, .ref t), (1, .ref f)] := hl
  have fr : hp_eq [t] μ μ := fun _ _ => rfl
  refine lv_aload_n hx hb dX9_hearReady_0 rfl (lv_at hl 1 rfl) ?_
  refine hp_get hx hb hown hS.2.1 hH (F_X9_89.use hS) f_f rfl dX9_hearReady_1 ?_
  refine lv_aload_n hx hb dX9_hearReady_4 rfl (lv_at hl 0 rfl) ?_
  refine hp_get hx hb hown hS.2.1 hH (F_X9_19.use hS) f_t rfl dX9_hearReady_5 ?_
  refine lv_icmp_ne (tgt := 15) hx hb dX9_hearReady_8 (by decide) (fun c_8 => ?_) (fun c_8 => ?_)
  · have c_8 : ¬ (fl = le) := fun z => c_8 ((nI_eq (by omega) (by omega)).mpr z)
    refine lv_iconst (v := nI 0) hx hb dX9_hearReady_15 (by decide) ?_
    refine lv_istore_n (lv' := [(2, .int (nI 0)), (0, .ref t), (1, .ref f)]) hx hb dX9_hearReady_16 rfl hl (by decide) rfl (fun ls hl => ?_)
    refine lv_aload_n hx hb dX9_hearReady_17 rfl (lv_at hl 2 rfl) ?_
    refine hp_get hx hb hown hS.2.1 hH (F_X9_45.use hS) f_f rfl dX9_hearReady_18 ?_
    refine hp_gets hx hb hS.k3 hH hown G_X9_90 hS dX9_hearReady_21 ?_
    refine hp_acmp_ne (tgt := 49) hx hb dX9_hearReady_24 (by decide) (fun c_24 => ?_) (fun c_24 => ?_)
    · have c_24 : ¬ (k = 3) := fun z => c_24 (by rw [z])
      refine lv_aload_n hx hb dX9_hearReady_49 rfl (lv_at hl 2 rfl) ?_
      refine hp_get hx hb hown hS.2.1 hH (F_X9_45.use hS) f_f rfl dX9_hearReady_50 ?_
      refine hp_gets hx hb hS.k4 hH hown G_X9_100 hS dX9_hearReady_53 ?_
      refine hp_acmp_ne (tgt := 76) hx hb dX9_hearReady_56 (by decide) (fun c_56 => ?_) (fun c_56 => ?_)
      · have c_56 : ¬ (k = 4) := fun z => c_56 (by rw [z])
        refine lv_aload_n hx hb dX9_hearReady_76 rfl (lv_at hl 1 rfl) ?_
        refine hp_krm (hp_runV (As := []) (rest := []) hx hb hml hown hS hH (c_X9_goBack l X (by decide) f_t) M_X9_107 I_X9_goBack V_X9_goBack (ci := 5) rfl rfl f_t rfl hl.1 rfl (Nat.le_of_ble_eq_true rfl) dX9_hearReady_77 ⟨Nat.le_of_ble_eq_true rfl, Nat.le_of_ble_eq_true rfl⟩ ⟨Nat.le_of_ble_eq_true rfl, Nat.le_of_ble_eq_true rfl⟩) hH (fun μ1 H locs hp hH => ?_)
        obtain ⟨fz0, fe⟩ := hp
        have f_s := (hp_e1 fe (hp_ne f_s f_t (by simp))).trans f_s
        have f_f := (hp_e1 fe (hp_ne f_f f_t (by simp))).trans f_f
        have f_t : μ1 t = some (hp_o 5 [.int (nI lv), .ref s1, .int (nB aw), .int (nI (bkS 5)), .int (nI le)]) := fz0
        have fr := hp_eq.tr1 fe fr (by simp)
        clear fe fz0
        exact hp_rr hx hb hr (Or.inl ⟨_, rfl⟩) hlocks hS hH (⟨rfl, congrArg X.2.2.2 (Eq.symm (by simp [hrS, hrL, hrR, bkS, c_8, c_24, c_56])), f_t.trans (by simp [hrS, hrL, hrR, bkS, c_8, c_24, c_56]), fr⟩) dX9_hearReady_80
      · have c_56 : k = 4 := hS.ki (by omega) (by omega) c_56
        refine lv_iload_n hx hb dX9_hearReady_59 rfl (lv_at hl 0 rfl) ?_
        refine lv_if_eq (tgt := 76) hx hb dX9_hearReady_60 (by decide) (fun c_60 => ?_) (fun c_60 => ?_)
        · have c_60 : 0 = 0 := nz_0 (by omega) c_60
          refine lv_aload_n hx hb dX9_hearReady_76 rfl (lv_at hl 1 rfl) ?_
          refine hp_krm (hp_runV (As := []) (rest := []) hx hb hml hown hS hH (c_X9_goBack l X (by decide) f_t) M_X9_107 I_X9_goBack V_X9_goBack (ci := 5) rfl rfl f_t rfl hl.1 rfl (Nat.le_of_ble_eq_true rfl) dX9_hearReady_77 ⟨Nat.le_of_ble_eq_true rfl, Nat.le_of_ble_eq_true rfl⟩ ⟨Nat.le_of_ble_eq_true rfl, Nat.le_of_ble_eq_true rfl⟩) hH (fun μ1 H locs hp hH => ?_)
          obtain ⟨fz0, fe⟩ := hp
          have f_s := (hp_e1 fe (hp_ne f_s f_t (by simp))).trans f_s
          have f_f := (hp_e1 fe (hp_ne f_f f_t (by simp))).trans f_f
          have f_t : μ1 t = some (hp_o 5 [.int (nI lv), .ref s1, .int (nB aw), .int (nI (bkS 5)), .int (nI le)]) := fz0
          have fr := hp_eq.tr1 fe fr (by simp)
          clear fe fz0
          exact hp_rr hx hb hr (Or.inl ⟨_, rfl⟩) hlocks hS hH (⟨rfl, congrArg X.2.2.2 (Eq.symm (by simp [hrS, hrL, hrR, bkS, c_8, c_24, c_56, c_60])), f_t.trans (by simp [hrS, hrL, hrR, bkS, c_8, c_24, c_56, c_60]), fr⟩) dX9_hearReady_80
        · exact absurd c_60 (by decide)
    · have c_24 : k = 3 := hS.ki (by omega) (by omega) c_24
      refine lv_iload_n hx hb dX9_hearReady_27 rfl (lv_at hl 0 rfl) ?_
      refine lv_if_eq (tgt := 49) hx hb dX9_hearReady_28 (by decide) (fun c_28 => ?_) (fun c_28 => ?_)
      · have c_28 : 0 = 0 := nz_0 (by omega) c_28
        refine lv_aload_n hx hb dX9_hearReady_49 rfl (lv_at hl 2 rfl) ?_
        refine hp_get hx hb hown hS.2.1 hH (F_X9_45.use hS) f_f rfl dX9_hearReady_50 ?_
        refine hp_gets hx hb hS.k4 hH hown G_X9_100 hS dX9_hearReady_53 ?_
        refine hp_acmp_ne (tgt := 76) hx hb dX9_hearReady_56 (by decide) (fun c_56 => ?_) (fun c_56 => ?_)
        · have c_56 : ¬ (k = 4) := fun z => c_56 (by rw [z])
          refine lv_aload_n hx hb dX9_hearReady_76 rfl (lv_at hl 1 rfl) ?_
          refine hp_krm (hp_runV (As := []) (rest := []) hx hb hml hown hS hH (c_X9_goBack l X (by decide) f_t) M_X9_107 I_X9_goBack V_X9_goBack (ci := 5) rfl rfl f_t rfl hl.1 rfl (Nat.le_of_ble_eq_true rfl) dX9_hearReady_77 ⟨Nat.le_of_ble_eq_true rfl, Nat.le_of_ble_eq_true rfl⟩ ⟨Nat.le_of_ble_eq_true rfl, Nat.le_of_ble_eq_true rfl⟩) hH (fun μ1 H locs hp hH => ?_)
          obtain ⟨fz0, fe⟩ := hp
          have f_s := (hp_e1 fe (hp_ne f_s f_t (by simp))).trans f_s
          have f_f := (hp_e1 fe (hp_ne f_f f_t (by simp))).trans f_f
          have f_t : μ1 t = some (hp_o 5 [.int (nI lv), .ref s1, .int (nB aw), .int (nI (bkS 5)), .int (nI le)]) := fz0
          have fr := hp_eq.tr1 fe fr (by simp)
          clear fe fz0
          exact hp_rr hx hb hr (Or.inl ⟨_, rfl⟩) hlocks hS hH (⟨rfl, congrArg X.2.2.2 (Eq.symm (by simp [hrS, hrL, hrR, bkS, c_8, c_24, c_28, c_56])), f_t.trans (by simp [hrS, hrL, hrR, bkS, c_8, c_24, c_28, c_56]), fr⟩) dX9_hearReady_80
        · have c_56 : k = 4 := hS.ki (by omega) (by omega) c_56
          refine lv_iload_n hx hb dX9_hearReady_59 rfl (lv_at hl 0 rfl) ?_
          refine lv_if_eq (tgt := 76) hx hb dX9_hearReady_60 (by decide) (fun c_60 => ?_) (fun c_60 => ?_)
          · have c_60 : 0 = 0 := nz_0 (by omega) c_60
            refine lv_aload_n hx hb dX9_hearReady_76 rfl (lv_at hl 1 rfl) ?_
            refine hp_krm (hp_runV (As := []) (rest := []) hx hb hml hown hS hH (c_X9_goBack l X (by decide) f_t) M_X9_107 I_X9_goBack V_X9_goBack (ci := 5) rfl rfl f_t rfl hl.1 rfl (Nat.le_of_ble_eq_true rfl) dX9_hearReady_77 ⟨Nat.le_of_ble_eq_true rfl, Nat.le_of_ble_eq_true rfl⟩ ⟨Nat.le_of_ble_eq_true rfl, Nat.le_of_ble_eq_true rfl⟩) hH (fun μ1 H locs hp hH => ?_)
            obtain ⟨fz0, fe⟩ := hp
            have f_s := (hp_e1 fe (hp_ne f_s f_t (by simp))).trans f_s
            have f_f := (hp_e1 fe (hp_ne f_f f_t (by simp))).trans f_f
            have f_t : μ1 t = some (hp_o 5 [.int (nI lv), .ref s1, .int (nB aw), .int (nI (bkS 5)), .int (nI le)]) := fz0
            have fr := hp_eq.tr1 fe fr (by simp)
            clear fe fz0
            exact hp_rr hx hb hr (Or.inl ⟨_, rfl⟩) hlocks hS hH (⟨rfl, congrArg X.2.2.2 (Eq.symm (by simp [hrS, hrL, hrR, bkS, c_8, c_24, c_28, c_56, c_60])), f_t.trans (by simp [hrS, hrL, hrR, bkS, c_8, c_24, c_28, c_56, c_60]), fr⟩) dX9_hearReady_80
          · exact absurd c_60 (by decide)
      · exact absurd c_28 (by decide)
  · have c_8 : fl = le := (nI_eq (by omega) (by omega)).mp c_8
    refine lv_iconst (v := nI 1) hx hb dX9_hearReady_11 (by decide) ?_
    refine lv_goto (tgt := 16) hx hb dX9_hearReady_12 (by decide) ?_
    refine lv_istore_n (lv' := [(2, .int (nI 1)), (0, .ref t), (1, .ref f)]) hx hb dX9_hearReady_16 rfl hl (by decide) rfl (fun ls hl => ?_)
    refine lv_aload_n hx hb dX9_hearReady_17 rfl (lv_at hl 2 rfl) ?_
    refine hp_get hx hb hown hS.2.1 hH (F_X9_45.use hS) f_f rfl dX9_hearReady_18 ?_
    refine hp_gets hx hb hS.k3 hH hown G_X9_90 hS dX9_hearReady_21 ?_
    refine hp_acmp_ne (tgt := 49) hx hb dX9_hearReady_24 (by decide) (fun c_24 => ?_) (fun c_24 => ?_)
    · have c_24 : ¬ (k = 3) := fun z => c_24 (by rw [z])
      refine lv_aload_n hx hb dX9_hearReady_49 rfl (lv_at hl 2 rfl) ?_
      refine hp_get hx hb hown hS.2.1 hH (F_X9_45.use hS) f_f rfl dX9_hearReady_50 ?_
      refine hp_gets hx hb hS.k4 hH hown G_X9_100 hS dX9_hearReady_53 ?_
      refine hp_acmp_ne (tgt := 76) hx hb dX9_hearReady_56 (by decide) (fun c_56 => ?_) (fun c_56 => ?_)
      · have c_56 : ¬ (k = 4) := fun z => c_56 (by rw [z])
        refine lv_aload_n hx hb dX9_hearReady_76 rfl (lv_at hl 1 rfl) ?_
        refine hp_krm (hp_runV (As := []) (rest := []) hx hb hml hown hS hH (c_X9_goBack l X (by decide) f_t) M_X9_107 I_X9_goBack V_X9_goBack (ci := 5) rfl rfl f_t rfl hl.1 rfl (Nat.le_of_ble_eq_true rfl) dX9_hearReady_77 ⟨Nat.le_of_ble_eq_true rfl, Nat.le_of_ble_eq_true rfl⟩ ⟨Nat.le_of_ble_eq_true rfl, Nat.le_of_ble_eq_true rfl⟩) hH (fun μ1 H locs hp hH => ?_)
        obtain ⟨fz0, fe⟩ := hp
        have f_s := (hp_e1 fe (hp_ne f_s f_t (by simp))).trans f_s
        have f_f := (hp_e1 fe (hp_ne f_f f_t (by simp))).trans f_f
        have f_t : μ1 t = some (hp_o 5 [.int (nI lv), .ref s1, .int (nB aw), .int (nI (bkS 5)), .int (nI le)]) := fz0
        have fr := hp_eq.tr1 fe fr (by simp)
        clear fe fz0
        exact hp_rr hx hb hr (Or.inl ⟨_, rfl⟩) hlocks hS hH (⟨rfl, congrArg X.2.2.2 (Eq.symm (by simp [hrS, hrL, hrR, bkS, c_8, c_24, c_56])), f_t.trans (by simp [hrS, hrL, hrR, bkS, c_8, c_24, c_56]), fr⟩) dX9_hearReady_80
      · have c_56 : k = 4 := hS.ki (by omega) (by omega) c_56
        refine lv_iload_n hx hb dX9_hearReady_59 rfl (lv_at hl 0 rfl) ?_
        refine lv_if_eq (tgt := 76) hx hb dX9_hearReady_60 (by decide) (fun c_60 => ?_) (fun c_60 => ?_)
        · exact absurd c_60 (by decide)
        · have c_60 : ¬ (1 = 0) := nz_n (by omega) c_60
          refine lv_aload_n hx hb dX9_hearReady_63 rfl (lv_at hl 1 rfl) ?_
          refine lv_aload_n hx hb dX9_hearReady_64 rfl (lv_at hl 2 rfl) ?_
          refine hp_kip (hp_runV (As := [.ref f]) (rest := []) hx hb hml hown hS hH (c_X9_showsWhatIsTold l X hsh (htd (by omega)).1 (htd (by omega)).2 hle hle3 f_t f_s f_f) M_X9_93 I_X9_showsWhatIsTold V_X9_showsWhatIsTold (ci := 5) rfl rfl f_t rfl hl.1 rfl (Nat.le_of_ble_eq_true rfl) dX9_hearReady_65 ⟨Nat.le_of_ble_eq_true rfl, Nat.le_of_ble_eq_true rfl⟩ ⟨Nat.le_of_ble_eq_true rfl, Nat.le_of_ble_eq_true rfl⟩) hH (fun H locs hH => ?_)
          refine lv_if_eq (tgt := 76) hx hb dX9_hearReady_68 (by decide) (fun c_68 => ?_) (fun c_68 => ?_)
          · have c_68 : (mtN (sh (le - 1)) td tc) = false := nB_0 c_68
            refine lv_aload_n hx hb dX9_hearReady_76 rfl (lv_at hl 1 rfl) ?_
            refine hp_krm (hp_runV (As := []) (rest := []) hx hb hml hown hS hH (c_X9_goBack l X (by decide) f_t) M_X9_107 I_X9_goBack V_X9_goBack (ci := 5) rfl rfl f_t rfl hl.1 rfl (Nat.le_of_ble_eq_true rfl) dX9_hearReady_77 ⟨Nat.le_of_ble_eq_true rfl, Nat.le_of_ble_eq_true rfl⟩ ⟨Nat.le_of_ble_eq_true rfl, Nat.le_of_ble_eq_true rfl⟩) hH (fun μ1 H locs hp hH => ?_)
            obtain ⟨fz0, fe⟩ := hp
            have f_s := (hp_e1 fe (hp_ne f_s f_t (by simp))).trans f_s
            have f_f := (hp_e1 fe (hp_ne f_f f_t (by simp))).trans f_f
            have f_t : μ1 t = some (hp_o 5 [.int (nI lv), .ref s1, .int (nB aw), .int (nI (bkS 5)), .int (nI le)]) := fz0
            have fr := hp_eq.tr1 fe fr (by simp)
            clear fe fz0
            exact hp_rr hx hb hr (Or.inl ⟨_, rfl⟩) hlocks hS hH (⟨rfl, congrArg X.2.2.2 (Eq.symm (by simp [hrS, hrL, hrR, bkS, c_8, c_24, c_56, c_60, c_68])), f_t.trans (by simp [hrS, hrL, hrR, bkS, c_8, c_24, c_56, c_60, c_68]), fr⟩) dX9_hearReady_80
          · have c_68 : (mtN (sh (le - 1)) td tc) = true := nB_n c_68
            refine lv_aload_n hx hb dX9_hearReady_71 rfl (lv_at hl 1 rfl) ?_
            refine hp_krm (hp_runV (As := []) (rest := []) hx hb hml hown hS hH (c_X9_becomeChosen l X (by decide) hle3 hl3 f_t) M_X9_103 I_X9_becomeChosen V_X9_becomeChosen (ci := 5) rfl rfl f_t rfl hl.1 rfl (Nat.le_of_ble_eq_true rfl) dX9_hearReady_72 ⟨Nat.le_of_ble_eq_true rfl, Nat.le_of_ble_eq_true rfl⟩ ⟨Nat.le_of_ble_eq_true rfl, Nat.le_of_ble_eq_true rfl⟩) hH (fun μ1 H locs hp hH => ?_)
            obtain ⟨fz0, fe⟩ := hp
            have f_s := (hp_e1 fe (hp_ne f_s f_t (by simp))).trans f_s
            have f_f := (hp_e1 fe (hp_ne f_f f_t (by simp))).trans f_f
            have f_t : μ1 t = some (hp_o 5 [.int (nI lv), .ref s1, .int (nB aw), .int (nI (if le < lv then 5 else if 5 = 2 then 3 else 6)), .int (nI (if le < lv then le + 1 else le))]) := fz0
            have fr := hp_eq.tr1 fe fr (by simp)
            clear fe fz0
            exact hp_rr hx hb hr (Or.inl ⟨_, rfl⟩) hlocks hS hH (⟨rfl, congrArg X.2.2.2 (Eq.symm (by by_cases hcl : le < lv <;> simp [hrS, hrL, hrR, bkS, c_8, c_24, c_56, c_60, c_68, hcl])), f_t.trans (by by_cases hcl : le < lv <;> simp [hrS, hrL, hrR, bkS, c_8, c_24, c_56, c_60, c_68, hcl]), fr⟩) dX9_hearReady_75
    · have c_24 : k = 3 := hS.ki (by omega) (by omega) c_24
      refine lv_iload_n hx hb dX9_hearReady_27 rfl (lv_at hl 0 rfl) ?_
      refine lv_if_eq (tgt := 49) hx hb dX9_hearReady_28 (by decide) (fun c_28 => ?_) (fun c_28 => ?_)
      · exact absurd c_28 (by decide)
      · have c_28 : ¬ (1 = 0) := nz_n (by omega) c_28
        refine lv_aload_n hx hb dX9_hearReady_31 rfl (lv_at hl 1 rfl) ?_
        refine lv_aload_n hx hb dX9_hearReady_32 rfl (lv_at hl 2 rfl) ?_
        refine hp_kip (hp_runV (As := [.ref f]) (rest := []) hx hb hml hown hS hH (c_X9_showsWhatIsTold l X hsh (htd (by omega)).1 (htd (by omega)).2 hle hle3 f_t f_s f_f) M_X9_93 I_X9_showsWhatIsTold V_X9_showsWhatIsTold (ci := 5) rfl rfl f_t rfl hl.1 rfl (Nat.le_of_ble_eq_true rfl) dX9_hearReady_33 ⟨Nat.le_of_ble_eq_true rfl, Nat.le_of_ble_eq_true rfl⟩ ⟨Nat.le_of_ble_eq_true rfl, Nat.le_of_ble_eq_true rfl⟩) hH (fun H locs hH => ?_)
        refine lv_if_eq (tgt := 45) hx hb dX9_hearReady_36 (by decide) (fun c_36 => ?_) (fun c_36 => ?_)
        · have c_36 : (mtN (sh (le - 1)) td tc) = false := nB_0 c_36
          refine hp_gets hx hb hS.r0 hH hown G_X9_63 hS dX9_hearReady_45 ?_
          exact hp_rr hx hb hr (Or.inl ⟨_, rfl⟩) hlocks hS hH (⟨rfl, congrArg X.2.2.2 (Eq.symm (by simp [hrS, hrL, hrR, bkS, c_8, c_24, c_28, c_36])), f_t.trans (by simp [hrS, hrL, hrR, bkS, c_8, c_24, c_28, c_36]), fr⟩) dX9_hearReady_48
        · have c_36 : (mtN (sh (le - 1)) td tc) = true := nB_n c_36
          refine hp_gets hx hb hS.r2 hH hown G_X9_97 hS dX9_hearReady_39 ?_
          refine lv_goto (tgt := 48) hx hb dX9_hearReady_42 (by decide) ?_
          exact hp_rr hx hb hr (Or.inl ⟨_, rfl⟩) hlocks hS hH (⟨rfl, congrArg X.2.2.2 (Eq.symm (by simp [hrS, hrL, hrR, bkS, c_8, c_24, c_28, c_36])), f_t.trans (by simp [hrS, hrL, hrR, bkS, c_8, c_24, c_28, c_36]), fr⟩) dX9_hearReady_48

set_option maxHeartbeats 4000000 in
set_option maxRecDepth 100000 in
theorem c_X9_hearActive_3 (l : Launch) (X : hp_X) {μ : hp_M} {nx : Nat} {t s1 lv le : Nat} {aw : Bool} {sh : Nat → Nat} {f k fl se td tc : Nat} (hk8 : k < 8) (htd : k = 3 ∨ k = 4 → td < 2 ^ 40 ∧ tc < 64) (hle : 1 ≤ le) (hle3 : le ≤ 3) (hl3 : lv ≤ 3) (hfl : fl ≤ 3) (f_t : μ t = some (hp_o 5 [.int (nI lv), .ref s1, .int (nB aw), .int (nI 3), .int (nI le)])) (f_s : μ s1 = some (hp_m X 3 sh)) (f_f : μ f = some (hp_o 2 [.ref (X.2.2.2 k), .int (nI fl), .int (nI se), .long (lN td), .int (nI tc)])) : Ct l X yX9_hearActive cX9_hearActive 2 (some (FieldType.object "TagField$Reply")) 1 40 0 0 [.ref t, .ref f] μ nx (hq_r X (po_r nx (X.2.2.2 (8 + hrR k (decide (fl = le)) (mtN (sh (le - 1)) td tc) lv 3 le)) (fun z => z t = some (hp_o 5 [.int (nI lv), .ref s1, .int (nB aw), .int (nI (hrS k (decide (fl = le)) (mtN (sh (le - 1)) td tc) lv 3 le)), .int (nI (hrL k (decide (fl = le)) (mtN (sh (le - 1)) td tc) lv 3 le))]) ∧ hp_eq [t] z μ))) := by
  refine hp_met (by decide) (Nat.le_of_ble_eq_true rfl) ?_
  intro p e s m below meth c ls hx hb hml hr hlocks hown hin hS hH hl
  have hl : lv_has ls 2 [(0, .ref t), (1, .ref f)] := hl
  have fr : hp_eq [t] μ μ := fun _ _ => rfl
  refine lv_aload_n hx hb dX9_hearActive_0 rfl (lv_at hl 1 rfl) ?_
  refine hp_get hx hb hown hS.2.1 hH (F_X9_45.use hS) f_f rfl dX9_hearActive_1 ?_
  refine hp_gets hx hb hS.k5 hH hown G_X9_123 hS dX9_hearActive_4 ?_
  refine hp_acmp_ne (tgt := 19) hx hb dX9_hearActive_7 (by decide) (fun c_7 => ?_) (fun c_7 => ?_)
  · have c_7 : ¬ (k = 5) := fun z => c_7 (by rw [z])
    refine lv_aload_n hx hb dX9_hearActive_19 rfl (lv_at hl 1 rfl) ?_
    refine hp_get hx hb hown hS.2.1 hH (F_X9_45.use hS) f_f rfl dX9_hearActive_20 ?_
    refine hp_gets hx hb hS.k6 hH hown G_X9_126 hS dX9_hearActive_23 ?_
    refine hp_acmp_ne (tgt := 41) hx hb dX9_hearActive_26 (by decide) (fun c_26 => ?_) (fun c_26 => ?_)
    · have c_26 : ¬ (k = 6) := fun z => c_26 (by rw [z])
      refine lv_aload_n hx hb dX9_hearActive_41 rfl (lv_at hl 0 rfl) ?_
      refine hp_krm (hp_runV (As := []) (rest := []) hx hb hml hown hS hH (c_X9_goBack l X (by decide) f_t) M_X9_107 I_X9_goBack V_X9_goBack (ci := 5) rfl rfl f_t rfl hl.1 rfl (Nat.le_of_ble_eq_true rfl) dX9_hearActive_42 ⟨Nat.le_of_ble_eq_true rfl, Nat.le_of_ble_eq_true rfl⟩ ⟨Nat.le_of_ble_eq_true rfl, Nat.le_of_ble_eq_true rfl⟩) hH (fun μ1 H locs hp hH => ?_)
      obtain ⟨fz0, fe⟩ := hp
      have f_s := (hp_e1 fe (hp_ne f_s f_t (by simp))).trans f_s
      have f_f := (hp_e1 fe (hp_ne f_f f_t (by simp))).trans f_f
      have f_t : μ1 t = some (hp_o 5 [.int (nI lv), .ref s1, .int (nB aw), .int (nI (bkS 3)), .int (nI le)]) := fz0
      have fr := hp_eq.tr1 fe fr (by simp)
      clear fe fz0
      exact hp_rr hx hb hr (Or.inl ⟨_, rfl⟩) hlocks hS hH (⟨rfl, congrArg X.2.2.2 (Eq.symm (by simp [hrS, hrL, hrR, bkS, c_7, c_26])), f_t.trans (by simp [hrS, hrL, hrR, bkS, c_7, c_26]), fr⟩) dX9_hearActive_45
    · have c_26 : k = 6 := hS.ki (by omega) (by omega) c_26
      refine lv_aload_n hx hb dX9_hearActive_29 rfl (lv_at hl 0 rfl) ?_
      refine lv_bipush (v := nI 7) hx hb dX9_hearActive_30 (by decide) ?_
      refine hp_gets hx hb hS.r5 hH hown G_X9_129 hS dX9_hearActive_32 ?_
      refine hp_krm (hp_runV (As := [.int (nI 7), .ref (X.2.2.2 13)]) (rest := []) hx hb hml hown hS hH (c_X9_become l X (n := 7) (rp := X.2.2.2 13) f_t) M_X9_82 I_X9_become V_X9_become (ci := 5) rfl rfl f_t rfl hl.1 rfl (Nat.le_of_ble_eq_true rfl) dX9_hearActive_35 ⟨Nat.le_of_ble_eq_true rfl, Nat.le_of_ble_eq_true rfl⟩ ⟨Nat.le_of_ble_eq_true rfl, Nat.le_of_ble_eq_true rfl⟩) hH (fun μ1 H locs hp hH => ?_)
      obtain ⟨fz0, fe⟩ := hp
      have f_s := (hp_e1 fe (hp_ne f_s f_t (by simp))).trans f_s
      have f_f := (hp_e1 fe (hp_ne f_f f_t (by simp))).trans f_f
      have f_t : μ1 t = some (hp_o 5 [.int (nI lv), .ref s1, .int (nB aw), .int (nI 7), .int (nI le)]) := fz0
      have fr := hp_eq.tr1 fe fr (by simp)
      clear fe fz0
      refine lv_goto (tgt := 45) hx hb dX9_hearActive_38 (by decide) ?_
      exact hp_rr hx hb hr (Or.inl ⟨_, rfl⟩) hlocks hS hH (⟨rfl, congrArg X.2.2.2 (Eq.symm (by simp [hrS, hrL, hrR, bkS, c_7, c_26])), f_t.trans (by simp [hrS, hrL, hrR, bkS, c_7, c_26]), fr⟩) dX9_hearActive_45
  · have c_7 : k = 5 := hS.ki (by omega) (by omega) c_7
    refine lv_aload_n hx hb dX9_hearActive_10 rfl (lv_at hl 0 rfl) ?_
    refine lv_iconst (v := nI 4) hx hb dX9_hearActive_11 (by decide) ?_
    refine hp_gets hx hb hS.r0 hH hown G_X9_63 hS dX9_hearActive_12 ?_
    refine hp_krm (hp_runV (As := [.int (nI 4), .ref (X.2.2.2 8)]) (rest := []) hx hb hml hown hS hH (c_X9_become l X (n := 4) (rp := X.2.2.2 8) f_t) M_X9_82 I_X9_become V_X9_become (ci := 5) rfl rfl f_t rfl hl.1 rfl (Nat.le_of_ble_eq_true rfl) dX9_hearActive_15 ⟨Nat.le_of_ble_eq_true rfl, Nat.le_of_ble_eq_true rfl⟩ ⟨Nat.le_of_ble_eq_true rfl, Nat.le_of_ble_eq_true rfl⟩) hH (fun μ1 H locs hp hH => ?_)
    obtain ⟨fz0, fe⟩ := hp
    have f_s := (hp_e1 fe (hp_ne f_s f_t (by simp))).trans f_s
    have f_f := (hp_e1 fe (hp_ne f_f f_t (by simp))).trans f_f
    have f_t : μ1 t = some (hp_o 5 [.int (nI lv), .ref s1, .int (nB aw), .int (nI 4), .int (nI le)]) := fz0
    have fr := hp_eq.tr1 fe fr (by simp)
    clear fe fz0
    exact hp_rr hx hb hr (Or.inl ⟨_, rfl⟩) hlocks hS hH (⟨rfl, congrArg X.2.2.2 (Eq.symm (by simp [hrS, hrL, hrR, bkS, c_7])), f_t.trans (by simp [hrS, hrL, hrR, bkS, c_7]), fr⟩) dX9_hearActive_18

set_option maxHeartbeats 4000000 in
set_option maxRecDepth 100000 in
theorem c_X9_hearActive_6 (l : Launch) (X : hp_X) {μ : hp_M} {nx : Nat} {t s1 lv le : Nat} {aw : Bool} {sh : Nat → Nat} {f k fl se td tc : Nat} (hk8 : k < 8) (htd : k = 3 ∨ k = 4 → td < 2 ^ 40 ∧ tc < 64) (hle : 1 ≤ le) (hle3 : le ≤ 3) (hl3 : lv ≤ 3) (hfl : fl ≤ 3) (f_t : μ t = some (hp_o 5 [.int (nI lv), .ref s1, .int (nB aw), .int (nI 6), .int (nI le)])) (f_s : μ s1 = some (hp_m X 3 sh)) (f_f : μ f = some (hp_o 2 [.ref (X.2.2.2 k), .int (nI fl), .int (nI se), .long (lN td), .int (nI tc)])) : Ct l X yX9_hearActive cX9_hearActive 2 (some (FieldType.object "TagField$Reply")) 1 40 0 0 [.ref t, .ref f] μ nx (hq_r X (po_r nx (X.2.2.2 (8 + hrR k (decide (fl = le)) (mtN (sh (le - 1)) td tc) lv 6 le)) (fun z => z t = some (hp_o 5 [.int (nI lv), .ref s1, .int (nB aw), .int (nI (hrS k (decide (fl = le)) (mtN (sh (le - 1)) td tc) lv 6 le)), .int (nI (hrL k (decide (fl = le)) (mtN (sh (le - 1)) td tc) lv 6 le))]) ∧ hp_eq [t] z μ))) := by
  refine hp_met (by decide) (Nat.le_of_ble_eq_true rfl) ?_
  intro p e s m below meth c ls hx hb hml hr hlocks hown hin hS hH hl
  have hl : lv_has ls 2 [(0, .ref t), (1, .ref f)] := hl
  have fr : hp_eq [t] μ μ := fun _ _ => rfl
  refine lv_aload_n hx hb dX9_hearActive_0 rfl (lv_at hl 1 rfl) ?_
  refine hp_get hx hb hown hS.2.1 hH (F_X9_45.use hS) f_f rfl dX9_hearActive_1 ?_
  refine hp_gets hx hb hS.k5 hH hown G_X9_123 hS dX9_hearActive_4 ?_
  refine hp_acmp_ne (tgt := 19) hx hb dX9_hearActive_7 (by decide) (fun c_7 => ?_) (fun c_7 => ?_)
  · have c_7 : ¬ (k = 5) := fun z => c_7 (by rw [z])
    refine lv_aload_n hx hb dX9_hearActive_19 rfl (lv_at hl 1 rfl) ?_
    refine hp_get hx hb hown hS.2.1 hH (F_X9_45.use hS) f_f rfl dX9_hearActive_20 ?_
    refine hp_gets hx hb hS.k6 hH hown G_X9_126 hS dX9_hearActive_23 ?_
    refine hp_acmp_ne (tgt := 41) hx hb dX9_hearActive_26 (by decide) (fun c_26 => ?_) (fun c_26 => ?_)
    · have c_26 : ¬ (k = 6) := fun z => c_26 (by rw [z])
      refine lv_aload_n hx hb dX9_hearActive_41 rfl (lv_at hl 0 rfl) ?_
      refine hp_krm (hp_runV (As := []) (rest := []) hx hb hml hown hS hH (c_X9_goBack l X (by decide) f_t) M_X9_107 I_X9_goBack V_X9_goBack (ci := 5) rfl rfl f_t rfl hl.1 rfl (Nat.le_of_ble_eq_true rfl) dX9_hearActive_42 ⟨Nat.le_of_ble_eq_true rfl, Nat.le_of_ble_eq_true rfl⟩ ⟨Nat.le_of_ble_eq_true rfl, Nat.le_of_ble_eq_true rfl⟩) hH (fun μ1 H locs hp hH => ?_)
      obtain ⟨fz0, fe⟩ := hp
      have f_s := (hp_e1 fe (hp_ne f_s f_t (by simp))).trans f_s
      have f_f := (hp_e1 fe (hp_ne f_f f_t (by simp))).trans f_f
      have f_t : μ1 t = some (hp_o 5 [.int (nI lv), .ref s1, .int (nB aw), .int (nI (bkS 6)), .int (nI le)]) := fz0
      have fr := hp_eq.tr1 fe fr (by simp)
      clear fe fz0
      exact hp_rr hx hb hr (Or.inl ⟨_, rfl⟩) hlocks hS hH (⟨rfl, congrArg X.2.2.2 (Eq.symm (by simp [hrS, hrL, hrR, bkS, c_7, c_26])), f_t.trans (by simp [hrS, hrL, hrR, bkS, c_7, c_26]), fr⟩) dX9_hearActive_45
    · have c_26 : k = 6 := hS.ki (by omega) (by omega) c_26
      refine lv_aload_n hx hb dX9_hearActive_29 rfl (lv_at hl 0 rfl) ?_
      refine lv_bipush (v := nI 7) hx hb dX9_hearActive_30 (by decide) ?_
      refine hp_gets hx hb hS.r5 hH hown G_X9_129 hS dX9_hearActive_32 ?_
      refine hp_krm (hp_runV (As := [.int (nI 7), .ref (X.2.2.2 13)]) (rest := []) hx hb hml hown hS hH (c_X9_become l X (n := 7) (rp := X.2.2.2 13) f_t) M_X9_82 I_X9_become V_X9_become (ci := 5) rfl rfl f_t rfl hl.1 rfl (Nat.le_of_ble_eq_true rfl) dX9_hearActive_35 ⟨Nat.le_of_ble_eq_true rfl, Nat.le_of_ble_eq_true rfl⟩ ⟨Nat.le_of_ble_eq_true rfl, Nat.le_of_ble_eq_true rfl⟩) hH (fun μ1 H locs hp hH => ?_)
      obtain ⟨fz0, fe⟩ := hp
      have f_s := (hp_e1 fe (hp_ne f_s f_t (by simp))).trans f_s
      have f_f := (hp_e1 fe (hp_ne f_f f_t (by simp))).trans f_f
      have f_t : μ1 t = some (hp_o 5 [.int (nI lv), .ref s1, .int (nB aw), .int (nI 7), .int (nI le)]) := fz0
      have fr := hp_eq.tr1 fe fr (by simp)
      clear fe fz0
      refine lv_goto (tgt := 45) hx hb dX9_hearActive_38 (by decide) ?_
      exact hp_rr hx hb hr (Or.inl ⟨_, rfl⟩) hlocks hS hH (⟨rfl, congrArg X.2.2.2 (Eq.symm (by simp [hrS, hrL, hrR, bkS, c_7, c_26])), f_t.trans (by simp [hrS, hrL, hrR, bkS, c_7, c_26]), fr⟩) dX9_hearActive_45
  · have c_7 : k = 5 := hS.ki (by omega) (by omega) c_7
    refine lv_aload_n hx hb dX9_hearActive_10 rfl (lv_at hl 0 rfl) ?_
    refine lv_iconst (v := nI 4) hx hb dX9_hearActive_11 (by decide) ?_
    refine hp_gets hx hb hS.r0 hH hown G_X9_63 hS dX9_hearActive_12 ?_
    refine hp_krm (hp_runV (As := [.int (nI 4), .ref (X.2.2.2 8)]) (rest := []) hx hb hml hown hS hH (c_X9_become l X (n := 4) (rp := X.2.2.2 8) f_t) M_X9_82 I_X9_become V_X9_become (ci := 5) rfl rfl f_t rfl hl.1 rfl (Nat.le_of_ble_eq_true rfl) dX9_hearActive_15 ⟨Nat.le_of_ble_eq_true rfl, Nat.le_of_ble_eq_true rfl⟩ ⟨Nat.le_of_ble_eq_true rfl, Nat.le_of_ble_eq_true rfl⟩) hH (fun μ1 H locs hp hH => ?_)
    obtain ⟨fz0, fe⟩ := hp
    have f_s := (hp_e1 fe (hp_ne f_s f_t (by simp))).trans f_s
    have f_f := (hp_e1 fe (hp_ne f_f f_t (by simp))).trans f_f
    have f_t : μ1 t = some (hp_o 5 [.int (nI lv), .ref s1, .int (nB aw), .int (nI 4), .int (nI le)]) := fz0
    have fr := hp_eq.tr1 fe fr (by simp)
    clear fe fz0
    exact hp_rr hx hb hr (Or.inl ⟨_, rfl⟩) hlocks hS hH (⟨rfl, congrArg X.2.2.2 (Eq.symm (by simp [hrS, hrL, hrR, bkS, c_7])), f_t.trans (by simp [hrS, hrL, hrR, bkS, c_7]), fr⟩) dX9_hearActive_18

set_option maxHeartbeats 4000000 in
set_option maxRecDepth 100000 in
theorem c_X9_hear_0 (l : Launch) (X : hp_X) {μ : hp_M} {nx : Nat} {t s1 lv le : Nat} {aw : Bool} {sh : Nat → Nat} {f k fl se td tc : Nat} (hsh : ∀ j, sh j < 2 ^ 40) (hk8 : k < 8) (htd : k = 3 ∨ k = 4 → td < 2 ^ 40 ∧ tc < 64) (hle : 1 ≤ le) (hle3 : le ≤ 3) (hl3 : lv ≤ 3) (hfl : fl ≤ 3) (f_t : μ t = some (hp_o 5 [.int (nI lv), .ref s1, .int (nB aw), .int (nI 0), .int (nI le)])) (f_s : μ s1 = some (hp_m X 3 sh)) (f_f : μ f = some (hp_o 2 [.ref (X.2.2.2 k), .int (nI fl), .int (nI se), .long (lN td), .int (nI tc)])) : Ct l X yX9_hear cX9_hear 3 (some (FieldType.object "TagField$Reply")) 2 80 0 0 [.ref t, .ref f] μ nx (hq_r X (po_r nx (X.2.2.2 (8 + hrR k (decide (fl = le)) (mtN (sh (le - 1)) td tc) lv 0 le)) (fun z => z t = some (hp_o 5 [.int (nI lv), .ref s1, .int (nB aw), .int (nI (hrS k (decide (fl = le)) (mtN (sh (le - 1)) td tc) lv 0 le)), .int (nI (hrL k (decide (fl = le)) (mtN (sh (le - 1)) td tc) lv 0 le))]) ∧ hp_eq [t] z μ))) := by
  refine hp_met (by decide) (Nat.le_of_ble_eq_true rfl) ?_
  intro p e s m below meth c ls hx hb hml hr hlocks hown hin hS hH hl
  have hl : lv_has ls 3 [(0, .ref t), (1, .ref f)] := hl
  have fr : hp_eq [t] μ μ := fun _ _ => rfl
  refine lv_aload_n hx hb dX9_hear_0 rfl (lv_at hl 0 rfl) ?_
  refine hp_get hx hb hown hS.2.1 hH (F_X9_15.use hS) f_t rfl dX9_hear_1 ?_
  refine lv_tableOut (tgt := 149) hx hb dX9_hear_4 (by decide) (by decide) ?_
  refine hp_gets hx hb hS.r0 hH hown G_X9_63 hS dX9_hear_149 ?_
  exact hp_rr hx hb hr (Or.inl ⟨_, rfl⟩) hlocks hS hH (⟨rfl, congrArg X.2.2.2 (Eq.symm (by simp [hrS, hrL, hrR, bkS])), f_t.trans (by simp [hrS, hrL, hrR, bkS]), fr⟩) dX9_hear_152

set_option maxHeartbeats 4000000 in
set_option maxRecDepth 100000 in
theorem c_X9_hear_1 (l : Launch) (X : hp_X) {μ : hp_M} {nx : Nat} {t s1 lv le : Nat} {aw : Bool} {sh : Nat → Nat} {f k fl se td tc : Nat} (hsh : ∀ j, sh j < 2 ^ 40) (hk8 : k < 8) (htd : k = 3 ∨ k = 4 → td < 2 ^ 40 ∧ tc < 64) (hle : 1 ≤ le) (hle3 : le ≤ 3) (hl3 : lv ≤ 3) (hfl : fl ≤ 3) (f_t : μ t = some (hp_o 5 [.int (nI lv), .ref s1, .int (nB aw), .int (nI 1), .int (nI le)])) (f_s : μ s1 = some (hp_m X 3 sh)) (f_f : μ f = some (hp_o 2 [.ref (X.2.2.2 k), .int (nI fl), .int (nI se), .long (lN td), .int (nI tc)])) : Ct l X yX9_hear cX9_hear 3 (some (FieldType.object "TagField$Reply")) 2 80 0 0 [.ref t, .ref f] μ nx (hq_r X (po_r nx (X.2.2.2 (8 + hrR k (decide (fl = le)) (mtN (sh (le - 1)) td tc) lv 1 le)) (fun z => z t = some (hp_o 5 [.int (nI lv), .ref s1, .int (nB aw), .int (nI (hrS k (decide (fl = le)) (mtN (sh (le - 1)) td tc) lv 1 le)), .int (nI (hrL k (decide (fl = le)) (mtN (sh (le - 1)) td tc) lv 1 le))]) ∧ hp_eq [t] z μ))) := by
  refine hp_met (by decide) (Nat.le_of_ble_eq_true rfl) ?_
  intro p e s m below meth c ls hx hb hml hr hlocks hown hin hS hH hl
  have hl : lv_has ls 3 [(0, .ref t), (1, .ref f)] := hl
  have fr : hp_eq [t] μ μ := fun _ _ => rfl
  refine lv_aload_n hx hb dX9_hear_0 rfl (lv_at hl 0 rfl) ?_
  refine hp_get hx hb hown hS.2.1 hH (F_X9_15.use hS) f_t rfl dX9_hear_1 ?_
  refine lv_tableIn (off := 44) (tgt := 48) hx hb dX9_hear_4 (by decide) (by decide) rfl (by decide) ?_
  refine lv_aload_n hx hb dX9_hear_48 rfl (lv_at hl 1 rfl) ?_
  refine hp_get hx hb hown hS.2.1 hH (F_X9_45.use hS) f_f rfl dX9_hear_49 ?_
  refine hp_gets hx hb hS.k1 hH hown G_X9_51 hS dX9_hear_52 ?_
  refine hp_acmp_eq (tgt := 68) hx hb dX9_hear_55 (by decide) (fun c_55 => ?_) (fun c_55 => ?_)
  · have c_55 : k = 1 := hS.ki (by omega) (by omega) c_55
    refine lv_iconst (v := nI 1) hx hb dX9_hear_68 (by decide) ?_
    refine lv_goto (tgt := 73) hx hb dX9_hear_69 (by decide) ?_
    refine lv_istore_n (lv' := [(2, .int (nI 1)), (0, .ref t), (1, .ref f)]) hx hb dX9_hear_73 rfl hl (by decide) rfl (fun ls hl => ?_)
    refine lv_iload_n hx hb dX9_hear_74 rfl (lv_at hl 0 rfl) ?_
    refine lv_if_eq (tgt := 86) hx hb dX9_hear_75 (by decide) (fun c_75 => ?_) (fun c_75 => ?_)
    · exact absurd c_75 (by decide)
    · have c_75 : ¬ (1 = 0) := nz_n (by omega) c_75
      refine lv_aload_n hx hb dX9_hear_78 rfl (lv_at hl 1 rfl) ?_
      refine lv_iconst (v := nI 2) hx hb dX9_hear_79 (by decide) ?_
      refine hp_krm (hp_runV (As := [.int (nI 2)]) (rest := []) hx hb hml hown hS hH (c_X9_becomeReady l X (n := 2) f_t) M_X9_59 I_X9_becomeReady V_X9_becomeReady (ci := 5) rfl rfl f_t rfl hl.1 rfl (Nat.le_of_ble_eq_true rfl) dX9_hear_80 ⟨Nat.le_of_ble_eq_true rfl, Nat.le_of_ble_eq_true rfl⟩ ⟨Nat.le_of_ble_eq_true rfl, Nat.le_of_ble_eq_true rfl⟩) hH (fun μ1 H locs hp hH => ?_)
      obtain ⟨fz0, fe⟩ := hp
      have f_s := (hp_e1 fe (hp_ne f_s f_t (by simp))).trans f_s
      have f_f := (hp_e1 fe (hp_ne f_f f_t (by simp))).trans f_f
      have f_t : μ1 t = some (hp_o 5 [.int (nI lv), .ref s1, .int (nB aw), .int (nI 2), .int (nI 1)]) := fz0
      have fr := hp_eq.tr1 fe fr (by simp)
      clear fe fz0
      refine lv_goto (tgt := 89) hx hb dX9_hear_83 (by decide) ?_
      exact hp_rr hx hb hr (Or.inl ⟨_, rfl⟩) hlocks hS hH (⟨rfl, congrArg X.2.2.2 (Eq.symm (by simp [hrS, hrL, hrR, bkS, c_55, c_75])), f_t.trans (by simp [hrS, hrL, hrR, bkS, c_55, c_75]), fr⟩) dX9_hear_89
  · have c_55 : ¬ (k = 1) := fun z => c_55 (by rw [z])
    refine lv_aload_n hx hb dX9_hear_58 rfl (lv_at hl 1 rfl) ?_
    refine hp_get hx hb hown hS.2.1 hH (F_X9_45.use hS) f_f rfl dX9_hear_59 ?_
    refine hp_gets hx hb hS.k2 hH hown G_X9_56 hS dX9_hear_62 ?_
    refine hp_acmp_ne (tgt := 72) hx hb dX9_hear_65 (by decide) (fun c_65 => ?_) (fun c_65 => ?_)
    · have c_65 : ¬ (k = 2) := fun z => c_65 (by rw [z])
      refine lv_iconst (v := nI 0) hx hb dX9_hear_72 (by decide) ?_
      refine lv_istore_n (lv' := [(2, .int (nI 0)), (0, .ref t), (1, .ref f)]) hx hb dX9_hear_73 rfl hl (by decide) rfl (fun ls hl => ?_)
      refine lv_iload_n hx hb dX9_hear_74 rfl (lv_at hl 0 rfl) ?_
      refine lv_if_eq (tgt := 86) hx hb dX9_hear_75 (by decide) (fun c_75 => ?_) (fun c_75 => ?_)
      · have c_75 : 0 = 0 := nz_0 (by omega) c_75
        refine hp_gets hx hb hS.r0 hH hown G_X9_63 hS dX9_hear_86 ?_
        exact hp_rr hx hb hr (Or.inl ⟨_, rfl⟩) hlocks hS hH (⟨rfl, congrArg X.2.2.2 (Eq.symm (by simp [hrS, hrL, hrR, bkS, c_55, c_65, c_75])), f_t.trans (by simp [hrS, hrL, hrR, bkS, c_55, c_65, c_75]), fr⟩) dX9_hear_89
      · exact absurd c_75 (by decide)
    · have c_65 : k = 2 := hS.ki (by omega) (by omega) c_65
      refine lv_iconst (v := nI 1) hx hb dX9_hear_68 (by decide) ?_
      refine lv_goto (tgt := 73) hx hb dX9_hear_69 (by decide) ?_
      refine lv_istore_n (lv' := [(2, .int (nI 1)), (0, .ref t), (1, .ref f)]) hx hb dX9_hear_73 rfl hl (by decide) rfl (fun ls hl => ?_)
      refine lv_iload_n hx hb dX9_hear_74 rfl (lv_at hl 0 rfl) ?_
      refine lv_if_eq (tgt := 86) hx hb dX9_hear_75 (by decide) (fun c_75 => ?_) (fun c_75 => ?_)
      · exact absurd c_75 (by decide)
      · have c_75 : ¬ (1 = 0) := nz_n (by omega) c_75
        refine lv_aload_n hx hb dX9_hear_78 rfl (lv_at hl 1 rfl) ?_
        refine lv_iconst (v := nI 2) hx hb dX9_hear_79 (by decide) ?_
        refine hp_krm (hp_runV (As := [.int (nI 2)]) (rest := []) hx hb hml hown hS hH (c_X9_becomeReady l X (n := 2) f_t) M_X9_59 I_X9_becomeReady V_X9_becomeReady (ci := 5) rfl rfl f_t rfl hl.1 rfl (Nat.le_of_ble_eq_true rfl) dX9_hear_80 ⟨Nat.le_of_ble_eq_true rfl, Nat.le_of_ble_eq_true rfl⟩ ⟨Nat.le_of_ble_eq_true rfl, Nat.le_of_ble_eq_true rfl⟩) hH (fun μ1 H locs hp hH => ?_)
        obtain ⟨fz0, fe⟩ := hp
        have f_s := (hp_e1 fe (hp_ne f_s f_t (by simp))).trans f_s
        have f_f := (hp_e1 fe (hp_ne f_f f_t (by simp))).trans f_f
        have f_t : μ1 t = some (hp_o 5 [.int (nI lv), .ref s1, .int (nB aw), .int (nI 2), .int (nI 1)]) := fz0
        have fr := hp_eq.tr1 fe fr (by simp)
        clear fe fz0
        refine lv_goto (tgt := 89) hx hb dX9_hear_83 (by decide) ?_
        exact hp_rr hx hb hr (Or.inl ⟨_, rfl⟩) hlocks hS hH (⟨rfl, congrArg X.2.2.2 (Eq.symm (by simp [hrS, hrL, hrR, bkS, c_55, c_65, c_75])), f_t.trans (by simp [hrS, hrL, hrR, bkS, c_55, c_65, c_75]), fr⟩) dX9_hear_89

set_option maxHeartbeats 4000000 in
set_option maxRecDepth 100000 in
theorem c_X9_hear_2 (l : Launch) (X : hp_X) {μ : hp_M} {nx : Nat} {t s1 lv le : Nat} {aw : Bool} {sh : Nat → Nat} {f k fl se td tc : Nat} (hsh : ∀ j, sh j < 2 ^ 40) (hk8 : k < 8) (htd : k = 3 ∨ k = 4 → td < 2 ^ 40 ∧ tc < 64) (hle : 1 ≤ le) (hle3 : le ≤ 3) (hl3 : lv ≤ 3) (hfl : fl ≤ 3) (f_t : μ t = some (hp_o 5 [.int (nI lv), .ref s1, .int (nB aw), .int (nI 2), .int (nI le)])) (f_s : μ s1 = some (hp_m X 3 sh)) (f_f : μ f = some (hp_o 2 [.ref (X.2.2.2 k), .int (nI fl), .int (nI se), .long (lN td), .int (nI tc)])) : Ct l X yX9_hear cX9_hear 3 (some (FieldType.object "TagField$Reply")) 2 80 0 0 [.ref t, .ref f] μ nx (hq_r X (po_r nx (X.2.2.2 (8 + hrR k (decide (fl = le)) (mtN (sh (le - 1)) td tc) lv 2 le)) (fun z => z t = some (hp_o 5 [.int (nI lv), .ref s1, .int (nB aw), .int (nI (hrS k (decide (fl = le)) (mtN (sh (le - 1)) td tc) lv 2 le)), .int (nI (hrL k (decide (fl = le)) (mtN (sh (le - 1)) td tc) lv 2 le))]) ∧ hp_eq [t] z μ))) := by
  refine hp_met (by decide) (Nat.le_of_ble_eq_true rfl) ?_
  intro p e s m below meth c ls hx hb hml hr hlocks hown hin hS hH hl
  have hl : lv_has ls 3 [(0, .ref t), (1, .ref f)] := hl
  have fr : hp_eq [t] μ μ := fun _ _ => rfl
  refine lv_aload_n hx hb dX9_hear_0 rfl (lv_at hl 0 rfl) ?_
  refine hp_get hx hb hown hS.2.1 hH (F_X9_15.use hS) f_t rfl dX9_hear_1 ?_
  refine lv_tableIn (off := 108) (tgt := 112) hx hb dX9_hear_4 (by decide) (by decide) rfl (by decide) ?_
  refine lv_aload_n hx hb dX9_hear_112 rfl (lv_at hl 0 rfl) ?_
  refine lv_aload_n hx hb dX9_hear_113 rfl (lv_at hl 1 rfl) ?_
  refine hp_krm (hp_runV (As := [.ref f]) (rest := []) hx hb hml hown hS hH (c_X9_hearReady_2 l X hsh hk8 htd hle hle3 hl3 hfl f_t f_s f_f) M_X9_69 I_X9_hearReady V_X9_hearReady (ci := 5) rfl rfl f_t rfl hl.1 rfl (Nat.le_of_ble_eq_true rfl) dX9_hear_114 ⟨Nat.le_of_ble_eq_true rfl, Nat.le_of_ble_eq_true rfl⟩ ⟨Nat.le_of_ble_eq_true rfl, Nat.le_of_ble_eq_true rfl⟩) hH (fun μ1 H locs hp hH => ?_)
  obtain ⟨fz0, fe⟩ := hp
  have f_s := (hp_e1 fe (hp_ne f_s f_t (by simp))).trans f_s
  have f_f := (hp_e1 fe (hp_ne f_f f_t (by simp))).trans f_f
  have f_t : μ1 t = some (hp_o 5 [.int (nI lv), .ref s1, .int (nB aw), .int (nI (hrS k (decide (fl = le)) (mtN (sh (le - 1)) td tc) lv 2 le)), .int (nI (hrL k (decide (fl = le)) (mtN (sh (le - 1)) td tc) lv 2 le))]) := fz0
  have fr := hp_eq.tr1 fe fr (by simp)
  clear fe fz0
  exact hp_rr hx hb hr (Or.inl ⟨_, rfl⟩) hlocks hS hH (⟨rfl, rfl, f_t, fr⟩) dX9_hear_117

set_option maxHeartbeats 4000000 in
set_option maxRecDepth 100000 in
theorem c_X9_hear_3 (l : Launch) (X : hp_X) {μ : hp_M} {nx : Nat} {t s1 lv le : Nat} {aw : Bool} {sh : Nat → Nat} {f k fl se td tc : Nat} (hsh : ∀ j, sh j < 2 ^ 40) (hk8 : k < 8) (htd : k = 3 ∨ k = 4 → td < 2 ^ 40 ∧ tc < 64) (hle : 1 ≤ le) (hle3 : le ≤ 3) (hl3 : lv ≤ 3) (hfl : fl ≤ 3) (f_t : μ t = some (hp_o 5 [.int (nI lv), .ref s1, .int (nB aw), .int (nI 3), .int (nI le)])) (f_s : μ s1 = some (hp_m X 3 sh)) (f_f : μ f = some (hp_o 2 [.ref (X.2.2.2 k), .int (nI fl), .int (nI se), .long (lN td), .int (nI tc)])) : Ct l X yX9_hear cX9_hear 3 (some (FieldType.object "TagField$Reply")) 2 80 0 0 [.ref t, .ref f] μ nx (hq_r X (po_r nx (X.2.2.2 (8 + hrR k (decide (fl = le)) (mtN (sh (le - 1)) td tc) lv 3 le)) (fun z => z t = some (hp_o 5 [.int (nI lv), .ref s1, .int (nB aw), .int (nI (hrS k (decide (fl = le)) (mtN (sh (le - 1)) td tc) lv 3 le)), .int (nI (hrL k (decide (fl = le)) (mtN (sh (le - 1)) td tc) lv 3 le))]) ∧ hp_eq [t] z μ))) := by
  refine hp_met (by decide) (Nat.le_of_ble_eq_true rfl) ?_
  intro p e s m below meth c ls hx hb hml hr hlocks hown hin hS hH hl
  have hl : lv_has ls 3 [(0, .ref t), (1, .ref f)] := hl
  have fr : hp_eq [t] μ μ := fun _ _ => rfl
  refine lv_aload_n hx hb dX9_hear_0 rfl (lv_at hl 0 rfl) ?_
  refine hp_get hx hb hown hS.2.1 hH (F_X9_15.use hS) f_t rfl dX9_hear_1 ?_
  refine lv_tableIn (off := 114) (tgt := 118) hx hb dX9_hear_4 (by decide) (by decide) rfl (by decide) ?_
  refine lv_aload_n hx hb dX9_hear_118 rfl (lv_at hl 0 rfl) ?_
  refine lv_aload_n hx hb dX9_hear_119 rfl (lv_at hl 1 rfl) ?_
  refine hp_krm (hp_runV (As := [.ref f]) (rest := []) hx hb hml hown hS hH (c_X9_hearActive_3 l X hk8 htd hle hle3 hl3 hfl f_t f_s f_f) M_X9_73 I_X9_hearActive V_X9_hearActive (ci := 5) rfl rfl f_t rfl hl.1 rfl (Nat.le_of_ble_eq_true rfl) dX9_hear_120 ⟨Nat.le_of_ble_eq_true rfl, Nat.le_of_ble_eq_true rfl⟩ ⟨Nat.le_of_ble_eq_true rfl, Nat.le_of_ble_eq_true rfl⟩) hH (fun μ1 H locs hp hH => ?_)
  obtain ⟨fz0, fe⟩ := hp
  have f_s := (hp_e1 fe (hp_ne f_s f_t (by simp))).trans f_s
  have f_f := (hp_e1 fe (hp_ne f_f f_t (by simp))).trans f_f
  have f_t : μ1 t = some (hp_o 5 [.int (nI lv), .ref s1, .int (nB aw), .int (nI (hrS k (decide (fl = le)) (mtN (sh (le - 1)) td tc) lv 3 le)), .int (nI (hrL k (decide (fl = le)) (mtN (sh (le - 1)) td tc) lv 3 le))]) := fz0
  have fr := hp_eq.tr1 fe fr (by simp)
  clear fe fz0
  exact hp_rr hx hb hr (Or.inl ⟨_, rfl⟩) hlocks hS hH (⟨rfl, rfl, f_t, fr⟩) dX9_hear_123

set_option maxHeartbeats 4000000 in
set_option maxRecDepth 100000 in
theorem c_X9_hear_4 (l : Launch) (X : hp_X) {μ : hp_M} {nx : Nat} {t s1 lv le : Nat} {aw : Bool} {sh : Nat → Nat} {f k fl se td tc : Nat} (hsh : ∀ j, sh j < 2 ^ 40) (hk8 : k < 8) (htd : k = 3 ∨ k = 4 → td < 2 ^ 40 ∧ tc < 64) (hle : 1 ≤ le) (hle3 : le ≤ 3) (hl3 : lv ≤ 3) (hfl : fl ≤ 3) (f_t : μ t = some (hp_o 5 [.int (nI lv), .ref s1, .int (nB aw), .int (nI 4), .int (nI le)])) (f_s : μ s1 = some (hp_m X 3 sh)) (f_f : μ f = some (hp_o 2 [.ref (X.2.2.2 k), .int (nI fl), .int (nI se), .long (lN td), .int (nI tc)])) : Ct l X yX9_hear cX9_hear 3 (some (FieldType.object "TagField$Reply")) 2 80 0 0 [.ref t, .ref f] μ nx (hq_r X (po_r nx (X.2.2.2 (8 + hrR k (decide (fl = le)) (mtN (sh (le - 1)) td tc) lv 4 le)) (fun z => z t = some (hp_o 5 [.int (nI lv), .ref s1, .int (nB aw), .int (nI (hrS k (decide (fl = le)) (mtN (sh (le - 1)) td tc) lv 4 le)), .int (nI (hrL k (decide (fl = le)) (mtN (sh (le - 1)) td tc) lv 4 le))]) ∧ hp_eq [t] z μ))) := by
  refine hp_met (by decide) (Nat.le_of_ble_eq_true rfl) ?_
  intro p e s m below meth c ls hx hb hml hr hlocks hown hin hS hH hl
  have hl : lv_has ls 3 [(0, .ref t), (1, .ref f)] := hl
  have fr : hp_eq [t] μ μ := fun _ _ => rfl
  refine lv_aload_n hx hb dX9_hear_0 rfl (lv_at hl 0 rfl) ?_
  refine hp_get hx hb hown hS.2.1 hH (F_X9_15.use hS) f_t rfl dX9_hear_1 ?_
  refine lv_tableIn (off := 86) (tgt := 90) hx hb dX9_hear_4 (by decide) (by decide) rfl (by decide) ?_
  refine lv_aload_n hx hb dX9_hear_90 rfl (lv_at hl 1 rfl) ?_
  refine hp_get hx hb hown hS.2.1 hH (F_X9_45.use hS) f_f rfl dX9_hear_91 ?_
  refine hp_gets hx hb hS.k2 hH hown G_X9_56 hS dX9_hear_94 ?_
  refine hp_acmp_ne (tgt := 108) hx hb dX9_hear_97 (by decide) (fun c_97 => ?_) (fun c_97 => ?_)
  · have c_97 : ¬ (k = 2) := fun z => c_97 (by rw [z])
    refine hp_gets hx hb hS.r0 hH hown G_X9_63 hS dX9_hear_108 ?_
    exact hp_rr hx hb hr (Or.inl ⟨_, rfl⟩) hlocks hS hH (⟨rfl, congrArg X.2.2.2 (Eq.symm (by simp [hrS, hrL, hrR, bkS, c_97])), f_t.trans (by simp [hrS, hrL, hrR, bkS, c_97]), fr⟩) dX9_hear_111
  · have c_97 : k = 2 := hS.ki (by omega) (by omega) c_97
    refine lv_aload_n hx hb dX9_hear_100 rfl (lv_at hl 0 rfl) ?_
    refine lv_iconst (v := nI 5) hx hb dX9_hear_101 (by decide) ?_
    refine hp_krm (hp_runV (As := [.int (nI 5)]) (rest := []) hx hb hml hown hS hH (c_X9_becomeReady l X (n := 5) f_t) M_X9_59 I_X9_becomeReady V_X9_becomeReady (ci := 5) rfl rfl f_t rfl hl.1 rfl (Nat.le_of_ble_eq_true rfl) dX9_hear_102 ⟨Nat.le_of_ble_eq_true rfl, Nat.le_of_ble_eq_true rfl⟩ ⟨Nat.le_of_ble_eq_true rfl, Nat.le_of_ble_eq_true rfl⟩) hH (fun μ1 H locs hp hH => ?_)
    obtain ⟨fz0, fe⟩ := hp
    have f_s := (hp_e1 fe (hp_ne f_s f_t (by simp))).trans f_s
    have f_f := (hp_e1 fe (hp_ne f_f f_t (by simp))).trans f_f
    have f_t : μ1 t = some (hp_o 5 [.int (nI lv), .ref s1, .int (nB aw), .int (nI 5), .int (nI 1)]) := fz0
    have fr := hp_eq.tr1 fe fr (by simp)
    clear fe fz0
    refine lv_goto (tgt := 111) hx hb dX9_hear_105 (by decide) ?_
    exact hp_rr hx hb hr (Or.inl ⟨_, rfl⟩) hlocks hS hH (⟨rfl, congrArg X.2.2.2 (Eq.symm (by simp [hrS, hrL, hrR, bkS, c_97])), f_t.trans (by simp [hrS, hrL, hrR, bkS, c_97]), fr⟩) dX9_hear_111

set_option maxHeartbeats 4000000 in
set_option maxRecDepth 100000 in
theorem c_X9_hear_5 (l : Launch) (X : hp_X) {μ : hp_M} {nx : Nat} {t s1 lv le : Nat} {aw : Bool} {sh : Nat → Nat} {f k fl se td tc : Nat} (hsh : ∀ j, sh j < 2 ^ 40) (hk8 : k < 8) (htd : k = 3 ∨ k = 4 → td < 2 ^ 40 ∧ tc < 64) (hle : 1 ≤ le) (hle3 : le ≤ 3) (hl3 : lv ≤ 3) (hfl : fl ≤ 3) (f_t : μ t = some (hp_o 5 [.int (nI lv), .ref s1, .int (nB aw), .int (nI 5), .int (nI le)])) (f_s : μ s1 = some (hp_m X 3 sh)) (f_f : μ f = some (hp_o 2 [.ref (X.2.2.2 k), .int (nI fl), .int (nI se), .long (lN td), .int (nI tc)])) : Ct l X yX9_hear cX9_hear 3 (some (FieldType.object "TagField$Reply")) 2 80 0 0 [.ref t, .ref f] μ nx (hq_r X (po_r nx (X.2.2.2 (8 + hrR k (decide (fl = le)) (mtN (sh (le - 1)) td tc) lv 5 le)) (fun z => z t = some (hp_o 5 [.int (nI lv), .ref s1, .int (nB aw), .int (nI (hrS k (decide (fl = le)) (mtN (sh (le - 1)) td tc) lv 5 le)), .int (nI (hrL k (decide (fl = le)) (mtN (sh (le - 1)) td tc) lv 5 le))]) ∧ hp_eq [t] z μ))) := by
  refine hp_met (by decide) (Nat.le_of_ble_eq_true rfl) ?_
  intro p e s m below meth c ls hx hb hml hr hlocks hown hin hS hH hl
  have hl : lv_has ls 3 [(0, .ref t), (1, .ref f)] := hl
  have fr : hp_eq [t] μ μ := fun _ _ => rfl
  refine lv_aload_n hx hb dX9_hear_0 rfl (lv_at hl 0 rfl) ?_
  refine hp_get hx hb hown hS.2.1 hH (F_X9_15.use hS) f_t rfl dX9_hear_1 ?_
  refine lv_tableIn (off := 108) (tgt := 112) hx hb dX9_hear_4 (by decide) (by decide) rfl (by decide) ?_
  refine lv_aload_n hx hb dX9_hear_112 rfl (lv_at hl 0 rfl) ?_
  refine lv_aload_n hx hb dX9_hear_113 rfl (lv_at hl 1 rfl) ?_
  refine hp_krm (hp_runV (As := [.ref f]) (rest := []) hx hb hml hown hS hH (c_X9_hearReady_5 l X hsh hk8 htd hle hle3 hl3 hfl f_t f_s f_f) M_X9_69 I_X9_hearReady V_X9_hearReady (ci := 5) rfl rfl f_t rfl hl.1 rfl (Nat.le_of_ble_eq_true rfl) dX9_hear_114 ⟨Nat.le_of_ble_eq_true rfl, Nat.le_of_ble_eq_true rfl⟩ ⟨Nat.le_of_ble_eq_true rfl, Nat.le_of_ble_eq_true rfl⟩) hH (fun μ1 H locs hp hH => ?_)
  obtain ⟨fz0, fe⟩ := hp
  have f_s := (hp_e1 fe (hp_ne f_s f_t (by simp))).trans f_s
  have f_f := (hp_e1 fe (hp_ne f_f f_t (by simp))).trans f_f
  have f_t : μ1 t = some (hp_o 5 [.int (nI lv), .ref s1, .int (nB aw), .int (nI (hrS k (decide (fl = le)) (mtN (sh (le - 1)) td tc) lv 5 le)), .int (nI (hrL k (decide (fl = le)) (mtN (sh (le - 1)) td tc) lv 5 le))]) := fz0
  have fr := hp_eq.tr1 fe fr (by simp)
  clear fe fz0
  exact hp_rr hx hb hr (Or.inl ⟨_, rfl⟩) hlocks hS hH (⟨rfl, rfl, f_t, fr⟩) dX9_hear_117

set_option maxHeartbeats 4000000 in
set_option maxRecDepth 100000 in
theorem c_X9_hear_6 (l : Launch) (X : hp_X) {μ : hp_M} {nx : Nat} {t s1 lv le : Nat} {aw : Bool} {sh : Nat → Nat} {f k fl se td tc : Nat} (hsh : ∀ j, sh j < 2 ^ 40) (hk8 : k < 8) (htd : k = 3 ∨ k = 4 → td < 2 ^ 40 ∧ tc < 64) (hle : 1 ≤ le) (hle3 : le ≤ 3) (hl3 : lv ≤ 3) (hfl : fl ≤ 3) (f_t : μ t = some (hp_o 5 [.int (nI lv), .ref s1, .int (nB aw), .int (nI 6), .int (nI le)])) (f_s : μ s1 = some (hp_m X 3 sh)) (f_f : μ f = some (hp_o 2 [.ref (X.2.2.2 k), .int (nI fl), .int (nI se), .long (lN td), .int (nI tc)])) : Ct l X yX9_hear cX9_hear 3 (some (FieldType.object "TagField$Reply")) 2 80 0 0 [.ref t, .ref f] μ nx (hq_r X (po_r nx (X.2.2.2 (8 + hrR k (decide (fl = le)) (mtN (sh (le - 1)) td tc) lv 6 le)) (fun z => z t = some (hp_o 5 [.int (nI lv), .ref s1, .int (nB aw), .int (nI (hrS k (decide (fl = le)) (mtN (sh (le - 1)) td tc) lv 6 le)), .int (nI (hrL k (decide (fl = le)) (mtN (sh (le - 1)) td tc) lv 6 le))]) ∧ hp_eq [t] z μ))) := by
  refine hp_met (by decide) (Nat.le_of_ble_eq_true rfl) ?_
  intro p e s m below meth c ls hx hb hml hr hlocks hown hin hS hH hl
  have hl : lv_has ls 3 [(0, .ref t), (1, .ref f)] := hl
  have fr : hp_eq [t] μ μ := fun _ _ => rfl
  refine lv_aload_n hx hb dX9_hear_0 rfl (lv_at hl 0 rfl) ?_
  refine hp_get hx hb hown hS.2.1 hH (F_X9_15.use hS) f_t rfl dX9_hear_1 ?_
  refine lv_tableIn (off := 114) (tgt := 118) hx hb dX9_hear_4 (by decide) (by decide) rfl (by decide) ?_
  refine lv_aload_n hx hb dX9_hear_118 rfl (lv_at hl 0 rfl) ?_
  refine lv_aload_n hx hb dX9_hear_119 rfl (lv_at hl 1 rfl) ?_
  refine hp_krm (hp_runV (As := [.ref f]) (rest := []) hx hb hml hown hS hH (c_X9_hearActive_6 l X hk8 htd hle hle3 hl3 hfl f_t f_s f_f) M_X9_73 I_X9_hearActive V_X9_hearActive (ci := 5) rfl rfl f_t rfl hl.1 rfl (Nat.le_of_ble_eq_true rfl) dX9_hear_120 ⟨Nat.le_of_ble_eq_true rfl, Nat.le_of_ble_eq_true rfl⟩ ⟨Nat.le_of_ble_eq_true rfl, Nat.le_of_ble_eq_true rfl⟩) hH (fun μ1 H locs hp hH => ?_)
  obtain ⟨fz0, fe⟩ := hp
  have f_s := (hp_e1 fe (hp_ne f_s f_t (by simp))).trans f_s
  have f_f := (hp_e1 fe (hp_ne f_f f_t (by simp))).trans f_f
  have f_t : μ1 t = some (hp_o 5 [.int (nI lv), .ref s1, .int (nB aw), .int (nI (hrS k (decide (fl = le)) (mtN (sh (le - 1)) td tc) lv 6 le)), .int (nI (hrL k (decide (fl = le)) (mtN (sh (le - 1)) td tc) lv 6 le))]) := fz0
  have fr := hp_eq.tr1 fe fr (by simp)
  clear fe fz0
  exact hp_rr hx hb hr (Or.inl ⟨_, rfl⟩) hlocks hS hH (⟨rfl, rfl, f_t, fr⟩) dX9_hear_123

set_option maxHeartbeats 4000000 in
set_option maxRecDepth 100000 in
theorem c_X9_hear_7 (l : Launch) (X : hp_X) {μ : hp_M} {nx : Nat} {t s1 lv le : Nat} {aw : Bool} {sh : Nat → Nat} {f k fl se td tc : Nat} (hsh : ∀ j, sh j < 2 ^ 40) (hk8 : k < 8) (htd : k = 3 ∨ k = 4 → td < 2 ^ 40 ∧ tc < 64) (hle : 1 ≤ le) (hle3 : le ≤ 3) (hl3 : lv ≤ 3) (hfl : fl ≤ 3) (f_t : μ t = some (hp_o 5 [.int (nI lv), .ref s1, .int (nB aw), .int (nI 7), .int (nI le)])) (f_s : μ s1 = some (hp_m X 3 sh)) (f_f : μ f = some (hp_o 2 [.ref (X.2.2.2 k), .int (nI fl), .int (nI se), .long (lN td), .int (nI tc)])) : Ct l X yX9_hear cX9_hear 3 (some (FieldType.object "TagField$Reply")) 2 80 0 0 [.ref t, .ref f] μ nx (hq_r X (po_r nx (X.2.2.2 (8 + hrR k (decide (fl = le)) (mtN (sh (le - 1)) td tc) lv 7 le)) (fun z => z t = some (hp_o 5 [.int (nI lv), .ref s1, .int (nB aw), .int (nI (hrS k (decide (fl = le)) (mtN (sh (le - 1)) td tc) lv 7 le)), .int (nI (hrL k (decide (fl = le)) (mtN (sh (le - 1)) td tc) lv 7 le))]) ∧ hp_eq [t] z μ))) := by
  refine hp_met (by decide) (Nat.le_of_ble_eq_true rfl) ?_
  intro p e s m below meth c ls hx hb hml hr hlocks hown hin hS hH hl
  have hl : lv_has ls 3 [(0, .ref t), (1, .ref f)] := hl
  have fr : hp_eq [t] μ μ := fun _ _ => rfl
  refine lv_aload_n hx hb dX9_hear_0 rfl (lv_at hl 0 rfl) ?_
  refine hp_get hx hb hown hS.2.1 hH (F_X9_15.use hS) f_t rfl dX9_hear_1 ?_
  refine lv_tableIn (off := 120) (tgt := 124) hx hb dX9_hear_4 (by decide) (by decide) rfl (by decide) ?_
  refine lv_aload_n hx hb dX9_hear_124 rfl (lv_at hl 1 rfl) ?_
  refine hp_get hx hb hown hS.2.1 hH (F_X9_45.use hS) f_f rfl dX9_hear_125 ?_
  refine hp_gets hx hb hS.k7 hH hown G_X9_76 hS dX9_hear_128 ?_
  refine hp_acmp_ne (tgt := 145) hx hb dX9_hear_131 (by decide) (fun c_131 => ?_) (fun c_131 => ?_)
  · have c_131 : ¬ (k = 7) := fun z => c_131 (by rw [z])
    refine hp_gets hx hb hS.r0 hH hown G_X9_63 hS dX9_hear_145 ?_
    exact hp_rr hx hb hr (Or.inl ⟨_, rfl⟩) hlocks hS hH (⟨rfl, congrArg X.2.2.2 (Eq.symm (by simp [hrS, hrL, hrR, bkS, c_131])), f_t.trans (by simp [hrS, hrL, hrR, bkS, c_131]), fr⟩) dX9_hear_148
  · have c_131 : k = 7 := hS.ki (by omega) (by omega) c_131
    refine lv_aload_n hx hb dX9_hear_134 rfl (lv_at hl 0 rfl) ?_
    refine lv_iconst (v := nI 4) hx hb dX9_hear_135 (by decide) ?_
    refine hp_gets hx hb hS.r6 hH hown G_X9_79 hS dX9_hear_136 ?_
    refine hp_krm (hp_runV (As := [.int (nI 4), .ref (X.2.2.2 14)]) (rest := []) hx hb hml hown hS hH (c_X9_become l X (n := 4) (rp := X.2.2.2 14) f_t) M_X9_82 I_X9_become V_X9_become (ci := 5) rfl rfl f_t rfl hl.1 rfl (Nat.le_of_ble_eq_true rfl) dX9_hear_139 ⟨Nat.le_of_ble_eq_true rfl, Nat.le_of_ble_eq_true rfl⟩ ⟨Nat.le_of_ble_eq_true rfl, Nat.le_of_ble_eq_true rfl⟩) hH (fun μ1 H locs hp hH => ?_)
    obtain ⟨fz0, fe⟩ := hp
    have f_s := (hp_e1 fe (hp_ne f_s f_t (by simp))).trans f_s
    have f_f := (hp_e1 fe (hp_ne f_f f_t (by simp))).trans f_f
    have f_t : μ1 t = some (hp_o 5 [.int (nI lv), .ref s1, .int (nB aw), .int (nI 4), .int (nI le)]) := fz0
    have fr := hp_eq.tr1 fe fr (by simp)
    clear fe fz0
    refine lv_goto (tgt := 148) hx hb dX9_hear_142 (by decide) ?_
    exact hp_rr hx hb hr (Or.inl ⟨_, rfl⟩) hlocks hS hH (⟨rfl, congrArg X.2.2.2 (Eq.symm (by simp [hrS, hrL, hrR, bkS, c_131])), f_t.trans (by simp [hrS, hrL, hrR, bkS, c_131]), fr⟩) dX9_hear_148

theorem c_X9_hear (l : Launch) (X : hp_X) {μ : hp_M} {nx : Nat} {t s1 lv st le : Nat} {aw : Bool} {sh : Nat → Nat} {f k fl se td tc : Nat} (hsh : ∀ j, sh j < 2 ^ 40) (hk8 : k < 8) (htd : k = 3 ∨ k = 4 → td < 2 ^ 40 ∧ tc < 64) (hle : 1 ≤ le) (hle3 : le ≤ 3) (hl3 : lv ≤ 3) (hfl : fl ≤ 3) (hst : st < 8) (f_t : μ t = some (hp_o 5 [.int (nI lv), .ref s1, .int (nB aw), .int (nI st), .int (nI le)])) (f_s : μ s1 = some (hp_m X 3 sh)) (f_f : μ f = some (hp_o 2 [.ref (X.2.2.2 k), .int (nI fl), .int (nI se), .long (lN td), .int (nI tc)])) : Ct l X yX9_hear cX9_hear 3 (some (FieldType.object "TagField$Reply")) 2 80 0 0 [.ref t, .ref f] μ nx (hq_r X (po_r nx (X.2.2.2 (8 + hrR k (decide (fl = le)) (mtN (sh (le - 1)) td tc) lv st le)) (fun z => z t = some (hp_o 5 [.int (nI lv), .ref s1, .int (nB aw), .int (nI (hrS k (decide (fl = le)) (mtN (sh (le - 1)) td tc) lv st le)), .int (nI (hrL k (decide (fl = le)) (mtN (sh (le - 1)) td tc) lv st le))]) ∧ hp_eq [t] z μ))) := by
  rcases (show st = 0 ∨ st = 1 ∨ st = 2 ∨ st = 3 ∨ st = 4 ∨ st = 5 ∨ st = 6 ∨ st = 7 by omega) with rfl | rfl | rfl | rfl | rfl | rfl | rfl | rfl
  · exact c_X9_hear_0 l X hsh hk8 htd hle hle3 hl3 hfl f_t f_s f_f
  · exact c_X9_hear_1 l X hsh hk8 htd hle hle3 hl3 hfl f_t f_s f_f
  · exact c_X9_hear_2 l X hsh hk8 htd hle hle3 hl3 hfl f_t f_s f_f
  · exact c_X9_hear_3 l X hsh hk8 htd hle hle3 hl3 hfl f_t f_s f_f
  · exact c_X9_hear_4 l X hsh hk8 htd hle hle3 hl3 hfl f_t f_s f_f
  · exact c_X9_hear_5 l X hsh hk8 htd hle hle3 hl3 hfl f_t f_s f_f
  · exact c_X9_hear_6 l X hsh hk8 htd hle hle3 hl3 hfl f_t f_s f_f
  · exact c_X9_hear_7 l X hsh hk8 htd hle hle3 hl3 hfl f_t f_s f_f
