set_option maxHeartbeats 4000000 in
set_option maxRecDepth 100000 in
theorem c_X11_parity (l : Launch) (X : hp_X) {μ : hp_M} {nx : Nat} {v : Nat} (hv : v < 256)  : Ct l X yX11_parity cX11_parity 3 (some FieldType.int) 0 0 0 0 [.int (nI v)] μ nx (hq_i X (po_i nx (nI (prN v 8)) (fun z => z = μ))) := by
  refine hp_met (by decide) (Nat.le_of_ble_eq_true rfl) ?_
  intro p e s m below meth c ls hx hb hml hr hlocks hown hin hS hH hl
  have hl : lv_has ls 3 [(0, .int (nI v))] := hl
  refine lv_iconst (v := nI 1) hx hb dX11_parity_0 (by decide) ?_
  refine lv_istore_n (lv' := [(1, .int (nI 1)), (0, .int (nI v))]) hx hb dX11_parity_1 rfl hl (by decide) rfl (fun ls hl => ?_)
  refine lv_iconst (v := nI 0) hx hb dX11_parity_2 (by decide) ?_
  refine lv_istore_n (lv' := [(2, .int (nI 0)), (1, .int (nI 1)), (0, .int (nI v))]) hx hb dX11_parity_3 rfl hl (by decide) rfl (fun ls hl => ?_)
  have lp_4 : ∀ (kk : Nat) (k : Nat), (k ≤ 8) → (8 - k) < kk → ∀ (H : Heap) (locs : List Loc) (ls : Array Slot), hp_w X cls μ nx H locs → lv_has ls 3 [(0, .int (nI v)), (1, .int (nI (prN v k))), (2, .int (nI k))] → W p l e { frames := 0, cells := 0, slots := 0, locals := 0 } s m [.int (nI v)].toArray below meth c H locs 0 0 (MQ below (hq_i X (po_i nx (nI (prN v 8)) (fun z => z = μ))) [.int (nI v)].toArray s 0 0 (hp_A X)) (F0 m 4 ls []) := by
    intro kk
    induction kk with
    | zero =>
      intro k hk hkk
      exact absurd hkk (Nat.not_lt_zero _)
    | succ kk ih =>
      intro k hk hkk H locs ls  hH hl
      refine lv_iload_n hx hb dX11_parity_4 rfl (lv_at hl 2 rfl) ?_
      refine lv_bipush (v := nI 8) hx hb dX11_parity_5 (by decide) ?_
      refine lv_icmp_ge (tgt := 24) hx hb dX11_parity_7 (by decide) (fun c_7 => ?_) (fun c_7 => ?_)
      · have c_7 : 8 ≤ k := (nI_leI (by omega) (by omega)).mp c_7
        refine lv_iload_n hx hb dX11_parity_24 rfl (lv_at hl 1 rfl) ?_
        have ek : k = 8 := by omega
        subst ek
        exact hp_ri hx hb hr hlocks hS hH (⟨rfl, rfl, rfl⟩) dX11_parity_25
      · have c_7 : ¬ (8 ≤ k) := fun z => c_7 ((nI_leI (by omega) (by omega)).mpr z)
        refine lv_iload_n hx hb dX11_parity_10 rfl (lv_at hl 1 rfl) ?_
        refine lv_iload_n hx hb dX11_parity_11 rfl (lv_at hl 0 rfl) ?_
        refine lv_iload_n hx hb dX11_parity_12 rfl (lv_at hl 2 rfl) ?_
        refine lv_ishr hx hb dX11_parity_13 ?_
        refine lv_iconst (v := nI 1) hx hb dX11_parity_14 (by decide) ?_
        refine lv_iand hx hb dX11_parity_15 ?_
        refine hp_eqi (z := nI (v / 2 ^ k % 2)) (by rw [z_sbI (by omega), bitI_n (by omega)]) ?_
        refine lv_ixor hx hb dX11_parity_16 ?_
        refine hp_eqi (z := nI (prN v (k + 1))) (nx_xor _ _) ?_
        refine lv_istore_n (lv' := [(1, .int (nI (prN v (k + 1)))), (0, .int (nI v)), (2, .int (nI k))]) hx hb dX11_parity_17 rfl hl (by decide) rfl (fun ls hl => ?_)
        refine lv_iinc (v := nI (k + 1)) (lv' := [(2, .int (nI (k + 1))), (1, .int (nI (prN v (k + 1)))), (0, .int (nI v))]) hx hb dX11_parity_18 hl (k := 2) rfl (nI_add _ 1) (by decide) rfl (fun ls hl => ?_)
        refine lv_goto (tgt := 4) hx hb dX11_parity_21 (by decide) ?_
        exact ih (k + 1) (by omega) (by omega) _ _ _  hH (lv_sub hl [2, 1, 0] rfl)
  exact lp_4 ((8 - 0) + 1) 0 (Nat.zero_le _) (Nat.lt_succ_self _) _ _ _  hH (lv_sub hl [2, 1, 0] rfl)

set_option maxHeartbeats 4000000 in
set_option maxRecDepth 100000 in
theorem c_X11_type (l : Launch) (X : hp_X) {μ : hp_M} {nx : Nat} {o n tz se kd kl tc sd hd an fm fo kc : Nat} {on : Bool} {v : Nat} {rb : Nat → Nat} (hv : v < 256) (hroom : tz + 9 ≤ 160) (f_o : μ o = some (hp_o 7 [.int (nI n), .ref (o + 1), .ref (o + 2), .ref (o + 3), .ref (o + 4), .ref (o + 5), .ref (o + 6), .int (nB on), .int (nI tz), .ref (o + 7), .int (nI se), .ref (o + 8), .ref (o + 9), .int (nI kd), .int (nI kl), .int (nI tc), .ref (o + 10), .int (nI sd), .ref (o + 11), .int (nI hd), .ref (o + 12), .int (nI an), .ref (o + 13), .int (nI fm), .int (nI fo), .ref (o + 14), .ref (o + 15), .int (nI kc), .ref (o + 16)])) (f_7 : μ (o + 7) = some (hp_n X 160 rb)) : Ct l X yX11_type cX11_type 3 (some FieldType.int) 1 40 0 0 [.ref o, .int (nI v)] μ nx (hq_i X (po_i nx (nI (tz + 9)) (fun z => z o = some (hp_o 7 [.int (nI n), .ref (o + 1), .ref (o + 2), .ref (o + 3), .ref (o + 4), .ref (o + 5), .ref (o + 6), .int (nB on), .int (nI (tz + 9)), .ref (o + 7), .int (nI se), .ref (o + 8), .ref (o + 9), .int (nI kd), .int (nI kl), .int (nI tc), .ref (o + 10), .int (nI sd), .ref (o + 11), .int (nI hd), .ref (o + 12), .int (nI an), .ref (o + 13), .int (nI fm), .int (nI fo), .ref (o + 14), .ref (o + 15), .int (nI kc), .ref (o + 16)]) ∧ z (o + 7) = some (hp_n X 160 (apO rb tz v)) ∧ hp_eqM [0, 7] o z μ))) := by
  refine hp_met (by decide) (Nat.le_of_ble_eq_true rfl) ?_
  intro p e s m below meth c ls hx hb hml hr hlocks hown hin hS hH hl
  have hl : lv_has ls 3 [(0, .ref o), (1, .int (nI v))] := hl
  have fr : hp_eqM [0, 7] o μ μ := fun _ _ => rfl
  refine lv_iconst (v := nI 0) hx hb dX11_type_0 (by decide) ?_
  refine lv_istore_n (lv' := [(2, .int (nI 0)), (0, .ref o), (1, .int (nI v))]) hx hb dX11_type_1 rfl hl (by decide) rfl (fun ls hl => ?_)
  have f_7 := f_7.trans (congrArg (fun g => some (hp_n X 160 g)) (show rb = apB rb tz (nI v) 0 from (apB_0 _ _ _).symm))
  have lp_2 : ∀ (kk : Nat) (k : Nat), (k ≤ 8) → (8 - k) < kk → ∀ (μ1 : hp_M) (H : Heap) (locs : List Loc) (ls : Array Slot), (μ1 o = some (hp_o 7 [.int (nI n), .ref (o + 1), .ref (o + 2), .ref (o + 3), .ref (o + 4), .ref (o + 5), .ref (o + 6), .int (nB on), .int (nI tz), .ref (o + 7), .int (nI se), .ref (o + 8), .ref (o + 9), .int (nI kd), .int (nI kl), .int (nI tc), .ref (o + 10), .int (nI sd), .ref (o + 11), .int (nI hd), .ref (o + 12), .int (nI an), .ref (o + 13), .int (nI fm), .int (nI fo), .ref (o + 14), .ref (o + 15), .int (nI kc), .ref (o + 16)])) → (μ1 (o + 7) = some (hp_n X 160 (apB rb tz (nI v) k))) → hp_eqM [0, 7] o μ1 μ → hp_w X cls μ1 nx H locs → lv_has ls 3 [(0, .ref o), (1, .int (nI v)), (2, .int (nI k))] → W p l e { frames := 1, cells := 0, slots := 0, locals := 40 } s m [.ref o, .int (nI v)].toArray below meth c H locs 0 0 (MQ below (hq_i X (po_i nx (nI (tz + 9)) (fun z => z o = some (hp_o 7 [.int (nI n), .ref (o + 1), .ref (o + 2), .ref (o + 3), .ref (o + 4), .ref (o + 5), .ref (o + 6), .int (nB on), .int (nI (tz + 9)), .ref (o + 7), .int (nI se), .ref (o + 8), .ref (o + 9), .int (nI kd), .int (nI kl), .int (nI tc), .ref (o + 10), .int (nI sd), .ref (o + 11), .int (nI hd), .ref (o + 12), .int (nI an), .ref (o + 13), .int (nI fm), .int (nI fo), .ref (o + 14), .ref (o + 15), .int (nI kc), .ref (o + 16)]) ∧ z (o + 7) = some (hp_n X 160 (apO rb tz v)) ∧ hp_eqM [0, 7] o z μ))) [.ref o, .int (nI v)].toArray s 0 0 (hp_A X)) (F0 m 2 ls []) := by
    intro kk
    induction kk with
    | zero =>
      intro k hk hkk
      exact absurd hkk (Nat.not_lt_zero _)
    | succ kk ih =>
      intro k hk hkk μ1 H locs ls f_o f_7 fr hH hl
      refine lv_iload_n hx hb dX11_type_2 rfl (lv_at hl 2 rfl) ?_
      refine lv_bipush (v := nI 8) hx hb dX11_type_3 (by decide) ?_
      refine lv_icmp_ge (tgt := 30) hx hb dX11_type_5 (by decide) (fun c_5 => ?_) (fun c_5 => ?_)
      · have c_5 : 8 ≤ k := (nI_leI (by omega) (by omega)).mp c_5
        have ek : k = 8 := by omega
        subst ek
        refine lv_aload_n hx hb dX11_type_30 rfl (lv_at hl 0 rfl) ?_
        refine hp_get hx hb hown hS.2.1 hH (F_X11_33.use hS) f_o rfl dX11_type_31 ?_
        refine lv_aload_n hx hb dX11_type_34 rfl (lv_at hl 0 rfl) ?_
        refine hp_get hx hb hown hS.2.1 hH (F_X11_79.use hS) f_o rfl dX11_type_35 ?_
        refine lv_bipush (v := nI 8) hx hb dX11_type_38 (by decide) ?_
        refine lv_iadd hx hb dX11_type_40 ?_
        refine hp_eqi (z := nI (tz + 8)) (nI_add _ _) ?_
        refine lv_iload_n hx hb dX11_type_41 rfl (lv_at hl 1 rfl) ?_
        refine hp_kip (hp_runS (As := [.int (nI v)]) (rest := [.int (nI (tz + 8)), .ref (o + 7)]) hx hb hml hown hS hH (c_X11_parity l X hv) M_X11_82 S_X11_parity rfl hl.1 rfl (Nat.le_of_ble_eq_true rfl) dX11_type_42 ⟨Nat.le_of_ble_eq_true rfl, Nat.le_of_ble_eq_true rfl⟩ ⟨Nat.le_of_ble_eq_true rfl, Nat.le_of_ble_eq_true rfl⟩) hH (fun H locs hH => ?_)
        refine hp_iastN hx hb hS.ai hH f_7 (by omega) (by omega) dX11_type_45 (fun H locs μ1 fz fn hH => ?_)
        have f_o := (fn _ (by omega)).trans f_o
        have f_7 : μ1 (o + 7) = some (hp_n X 160 (setN (apB rb tz (nI v) 8) (tz + 8) (prN v 8))) := fz
        have fr := hp_eqM.put (k := 7) fr (by decide) fn
        clear fz fn
        have f_7 := f_7.trans (congrArg (fun g => some (hp_n X 160 g)) (show setN (apB rb tz (nI v) 8) (tz + 8) (prN v 8) = apO rb tz v from apO_mk _ _ hv))
        refine lv_aload_n hx hb dX11_type_46 rfl (lv_at hl 0 rfl) ?_
        refine lv_dup hx hb dX11_type_47 rfl ?_
        refine hp_get hx hb hown hS.2.1 hH (F_X11_79.use hS) f_o rfl dX11_type_48 ?_
        refine lv_bipush (v := nI 9) hx hb dX11_type_51 (by decide) ?_
        refine lv_iadd hx hb dX11_type_53 ?_
        refine hp_eqi (z := nI (tz + 9)) (nI_add _ _) ?_
        refine hp_put hx hb hown hS.2.1 hH (P_X11_79.use hS) f_o rfl rfl (Nat.le_of_ble_eq_true rfl) dX11_type_54 (fun H locs μ1 fz fn hH => ?_)
        have f_7 := (fn _ (by omega)).trans f_7
        have f_o : μ1 o = some (hp_o 7 [.int (nI n), .ref (o + 1), .ref (o + 2), .ref (o + 3), .ref (o + 4), .ref (o + 5), .ref (o + 6), .int (nB on), .int (nI (tz + 9)), .ref (o + 7), .int (nI se), .ref (o + 8), .ref (o + 9), .int (nI kd), .int (nI kl), .int (nI tc), .ref (o + 10), .int (nI sd), .ref (o + 11), .int (nI hd), .ref (o + 12), .int (nI an), .ref (o + 13), .int (nI fm), .int (nI fo), .ref (o + 14), .ref (o + 15), .int (nI kc), .ref (o + 16)]) := fz
        have fr := hp_eqM.put (k := 0) fr (by decide) fn
        clear fz fn
        refine lv_aload_n hx hb dX11_type_57 rfl (lv_at hl 0 rfl) ?_
        refine hp_get hx hb hown hS.2.1 hH (F_X11_79.use hS) f_o rfl dX11_type_58 ?_
        exact hp_ri hx hb hr hlocks hS hH (⟨rfl, rfl, f_o, f_7, fr⟩) dX11_type_61
      · have c_5 : ¬ (8 ≤ k) := fun z => c_5 ((nI_leI (by omega) (by omega)).mpr z)
        refine lv_aload_n hx hb dX11_type_8 rfl (lv_at hl 0 rfl) ?_
        refine hp_get hx hb hown hS.2.1 hH (F_X11_33.use hS) f_o rfl dX11_type_9 ?_
        refine lv_aload_n hx hb dX11_type_12 rfl (lv_at hl 0 rfl) ?_
        refine hp_get hx hb hown hS.2.1 hH (F_X11_79.use hS) f_o rfl dX11_type_13 ?_
        refine lv_iload_n hx hb dX11_type_16 rfl (lv_at hl 2 rfl) ?_
        refine lv_iadd hx hb dX11_type_17 ?_
        refine hp_eqi (z := nI (tz + k)) (nI_add _ _) ?_
        refine lv_iload_n hx hb dX11_type_18 rfl (lv_at hl 1 rfl) ?_
        refine lv_iload_n hx hb dX11_type_19 rfl (lv_at hl 2 rfl) ?_
        refine lv_ishr hx hb dX11_type_20 ?_
        refine lv_iconst (v := nI 1) hx hb dX11_type_21 (by decide) ?_
        refine lv_iand hx hb dX11_type_22 ?_
        refine hp_eqi (z := nI (bitI (nI v) k)) (z_sbI (by omega)) ?_
        refine hp_iastN hx hb hS.ai hH f_7 (by omega) (by omega) dX11_type_23 (fun H locs μ1 fz fn hH => ?_)
        have f_o := (fn _ (by omega)).trans f_o
        have f_7 : μ1 (o + 7) = some (hp_n X 160 (setN (apB rb tz (nI v) k) (tz + k) (bitI (nI v) k))) := fz
        have fr := hp_eqM.put (k := 7) fr (by decide) fn
        clear fz fn
        refine lv_iinc (v := nI (k + 1)) (lv' := [(2, .int (nI (k + 1))), (0, .ref o), (1, .int (nI v))]) hx hb dX11_type_24 hl (k := 2) rfl (nI_add _ 1) (by decide) rfl (fun ls hl => ?_)
        refine lv_goto (tgt := 2) hx hb dX11_type_27 (by decide) ?_
        have f_7 := f_7.trans (congrArg (fun g => some (hp_n X 160 g)) (show setN (apB rb tz (nI v) k) (tz + k) (bitI (nI v) k) = apB rb tz (nI v) (k + 1) from apB_s _ _ _ _))
        exact ih (k + 1) (by omega) (by omega) _ _ _ _ f_o f_7 fr hH (lv_sub hl [1, 2, 0] rfl)
  exact lp_2 ((8 - 0) + 1) 0 (Nat.zero_le _) (Nat.lt_succ_self _) _ _ _ _ f_o f_7 fr hH (lv_sub hl [1, 2, 0] rfl)

set_option maxHeartbeats 4000000 in
set_option maxRecDepth 100000 in
theorem c_X11_say (l : Launch) (X : hp_X) {μ : hp_M} {nx : Nat} {o n tz se kd kl tc sd hd an fm fo kc : Nat} {on : Bool} {v : Nat} {rb : Nat → Nat} (hv : v < 256) (hroom : sd + 9 ≤ 64) (f_o : μ o = some (hp_o 7 [.int (nI n), .ref (o + 1), .ref (o + 2), .ref (o + 3), .ref (o + 4), .ref (o + 5), .ref (o + 6), .int (nB on), .int (nI tz), .ref (o + 7), .int (nI se), .ref (o + 8), .ref (o + 9), .int (nI kd), .int (nI kl), .int (nI tc), .ref (o + 10), .int (nI sd), .ref (o + 11), .int (nI hd), .ref (o + 12), .int (nI an), .ref (o + 13), .int (nI fm), .int (nI fo), .ref (o + 14), .ref (o + 15), .int (nI kc), .ref (o + 16)])) (f_11 : μ (o + 11) = some (hp_n X 64 rb)) : Ct l X yX11_say cX11_say 3 (none : Option Jvm.ClassFile.FieldType) 1 40 0 0 [.ref o, .int (nI v)] μ nx (hq_v X (po_v nx (fun z => z o = some (hp_o 7 [.int (nI n), .ref (o + 1), .ref (o + 2), .ref (o + 3), .ref (o + 4), .ref (o + 5), .ref (o + 6), .int (nB on), .int (nI tz), .ref (o + 7), .int (nI se), .ref (o + 8), .ref (o + 9), .int (nI kd), .int (nI kl), .int (nI tc), .ref (o + 10), .int (nI (sd + 9)), .ref (o + 11), .int (nI hd), .ref (o + 12), .int (nI an), .ref (o + 13), .int (nI fm), .int (nI fo), .ref (o + 14), .ref (o + 15), .int (nI kc), .ref (o + 16)]) ∧ z (o + 11) = some (hp_n X 64 (apO rb sd v)) ∧ hp_eqM [0, 11] o z μ))) := by
  refine hp_met (by decide) (Nat.le_of_ble_eq_true rfl) ?_
  intro p e s m below meth c ls hx hb hml hr hlocks hown hin hS hH hl
  have hl : lv_has ls 3 [(0, .ref o), (1, .int (nI v))] := hl
  have fr : hp_eqM [0, 11] o μ μ := fun _ _ => rfl
  refine lv_iconst (v := nI 0) hx hb dX11_say_0 (by decide) ?_
  refine lv_istore_n (lv' := [(2, .int (nI 0)), (0, .ref o), (1, .int (nI v))]) hx hb dX11_say_1 rfl hl (by decide) rfl (fun ls hl => ?_)
  have f_11 := f_11.trans (congrArg (fun g => some (hp_n X 64 g)) (show rb = apB rb sd (nI v) 0 from (apB_0 _ _ _).symm))
  have lp_2 : ∀ (kk : Nat) (k : Nat), (k ≤ 8) → (8 - k) < kk → ∀ (μ1 : hp_M) (H : Heap) (locs : List Loc) (ls : Array Slot), (μ1 o = some (hp_o 7 [.int (nI n), .ref (o + 1), .ref (o + 2), .ref (o + 3), .ref (o + 4), .ref (o + 5), .ref (o + 6), .int (nB on), .int (nI tz), .ref (o + 7), .int (nI se), .ref (o + 8), .ref (o + 9), .int (nI kd), .int (nI kl), .int (nI tc), .ref (o + 10), .int (nI sd), .ref (o + 11), .int (nI hd), .ref (o + 12), .int (nI an), .ref (o + 13), .int (nI fm), .int (nI fo), .ref (o + 14), .ref (o + 15), .int (nI kc), .ref (o + 16)])) → (μ1 (o + 11) = some (hp_n X 64 (apB rb sd (nI v) k))) → hp_eqM [0, 11] o μ1 μ → hp_w X cls μ1 nx H locs → lv_has ls 3 [(0, .ref o), (1, .int (nI v)), (2, .int (nI k))] → W p l e { frames := 1, cells := 0, slots := 0, locals := 40 } s m [.ref o, .int (nI v)].toArray below meth c H locs 0 0 (MQ below (hq_v X (po_v nx (fun z => z o = some (hp_o 7 [.int (nI n), .ref (o + 1), .ref (o + 2), .ref (o + 3), .ref (o + 4), .ref (o + 5), .ref (o + 6), .int (nB on), .int (nI tz), .ref (o + 7), .int (nI se), .ref (o + 8), .ref (o + 9), .int (nI kd), .int (nI kl), .int (nI tc), .ref (o + 10), .int (nI (sd + 9)), .ref (o + 11), .int (nI hd), .ref (o + 12), .int (nI an), .ref (o + 13), .int (nI fm), .int (nI fo), .ref (o + 14), .ref (o + 15), .int (nI kc), .ref (o + 16)]) ∧ z (o + 11) = some (hp_n X 64 (apO rb sd v)) ∧ hp_eqM [0, 11] o z μ))) [.ref o, .int (nI v)].toArray s 0 0 (hp_A X)) (F0 m 2 ls []) := by
    intro kk
    induction kk with
    | zero =>
      intro k hk hkk
      exact absurd hkk (Nat.not_lt_zero _)
    | succ kk ih =>
      intro k hk hkk μ1 H locs ls f_o f_11 fr hH hl
      refine lv_iload_n hx hb dX11_say_2 rfl (lv_at hl 2 rfl) ?_
      refine lv_bipush (v := nI 8) hx hb dX11_say_3 (by decide) ?_
      refine lv_icmp_ge (tgt := 30) hx hb dX11_say_5 (by decide) (fun c_5 => ?_) (fun c_5 => ?_)
      · have c_5 : 8 ≤ k := (nI_leI (by omega) (by omega)).mp c_5
        have ek : k = 8 := by omega
        subst ek
        refine lv_aload_n hx hb dX11_say_30 rfl (lv_at hl 0 rfl) ?_
        refine hp_get hx hb hown hS.2.1 hH (F_X11_45.use hS) f_o rfl dX11_say_31 ?_
        refine lv_aload_n hx hb dX11_say_34 rfl (lv_at hl 0 rfl) ?_
        refine hp_get hx hb hown hS.2.1 hH (F_X11_110.use hS) f_o rfl dX11_say_35 ?_
        refine lv_bipush (v := nI 8) hx hb dX11_say_38 (by decide) ?_
        refine lv_iadd hx hb dX11_say_40 ?_
        refine hp_eqi (z := nI (sd + 8)) (nI_add _ _) ?_
        refine lv_iload_n hx hb dX11_say_41 rfl (lv_at hl 1 rfl) ?_
        refine hp_kip (hp_runS (As := [.int (nI v)]) (rest := [.int (nI (sd + 8)), .ref (o + 11)]) hx hb hml hown hS hH (c_X11_parity l X hv) M_X11_82 S_X11_parity rfl hl.1 rfl (Nat.le_of_ble_eq_true rfl) dX11_say_42 ⟨Nat.le_of_ble_eq_true rfl, Nat.le_of_ble_eq_true rfl⟩ ⟨Nat.le_of_ble_eq_true rfl, Nat.le_of_ble_eq_true rfl⟩) hH (fun H locs hH => ?_)
        refine hp_iastN hx hb hS.ai hH f_11 (by omega) (by omega) dX11_say_45 (fun H locs μ1 fz fn hH => ?_)
        have f_o := (fn _ (by omega)).trans f_o
        have f_11 : μ1 (o + 11) = some (hp_n X 64 (setN (apB rb sd (nI v) 8) (sd + 8) (prN v 8))) := fz
        have fr := hp_eqM.put (k := 11) fr (by decide) fn
        clear fz fn
        have f_11 := f_11.trans (congrArg (fun g => some (hp_n X 64 g)) (show setN (apB rb sd (nI v) 8) (sd + 8) (prN v 8) = apO rb sd v from apO_mk _ _ hv))
        refine lv_aload_n hx hb dX11_say_46 rfl (lv_at hl 0 rfl) ?_
        refine lv_dup hx hb dX11_say_47 rfl ?_
        refine hp_get hx hb hown hS.2.1 hH (F_X11_110.use hS) f_o rfl dX11_say_48 ?_
        refine lv_bipush (v := nI 9) hx hb dX11_say_51 (by decide) ?_
        refine lv_iadd hx hb dX11_say_53 ?_
        refine hp_eqi (z := nI (sd + 9)) (nI_add _ _) ?_
        refine hp_put hx hb hown hS.2.1 hH (P_X11_110.use hS) f_o rfl rfl (Nat.le_of_ble_eq_true rfl) dX11_say_54 (fun H locs μ1 fz fn hH => ?_)
        have f_11 := (fn _ (by omega)).trans f_11
        have f_o : μ1 o = some (hp_o 7 [.int (nI n), .ref (o + 1), .ref (o + 2), .ref (o + 3), .ref (o + 4), .ref (o + 5), .ref (o + 6), .int (nB on), .int (nI tz), .ref (o + 7), .int (nI se), .ref (o + 8), .ref (o + 9), .int (nI kd), .int (nI kl), .int (nI tc), .ref (o + 10), .int (nI (sd + 9)), .ref (o + 11), .int (nI hd), .ref (o + 12), .int (nI an), .ref (o + 13), .int (nI fm), .int (nI fo), .ref (o + 14), .ref (o + 15), .int (nI kc), .ref (o + 16)]) := fz
        have fr := hp_eqM.put (k := 0) fr (by decide) fn
        clear fz fn
        exact hp_rv hx hb hr hlocks hS hH (⟨rfl, f_o, f_11, fr⟩) dX11_say_57
      · have c_5 : ¬ (8 ≤ k) := fun z => c_5 ((nI_leI (by omega) (by omega)).mpr z)
        refine lv_aload_n hx hb dX11_say_8 rfl (lv_at hl 0 rfl) ?_
        refine hp_get hx hb hown hS.2.1 hH (F_X11_45.use hS) f_o rfl dX11_say_9 ?_
        refine lv_aload_n hx hb dX11_say_12 rfl (lv_at hl 0 rfl) ?_
        refine hp_get hx hb hown hS.2.1 hH (F_X11_110.use hS) f_o rfl dX11_say_13 ?_
        refine lv_iload_n hx hb dX11_say_16 rfl (lv_at hl 2 rfl) ?_
        refine lv_iadd hx hb dX11_say_17 ?_
        refine hp_eqi (z := nI (sd + k)) (nI_add _ _) ?_
        refine lv_iload_n hx hb dX11_say_18 rfl (lv_at hl 1 rfl) ?_
        refine lv_iload_n hx hb dX11_say_19 rfl (lv_at hl 2 rfl) ?_
        refine lv_ishr hx hb dX11_say_20 ?_
        refine lv_iconst (v := nI 1) hx hb dX11_say_21 (by decide) ?_
        refine lv_iand hx hb dX11_say_22 ?_
        refine hp_eqi (z := nI (bitI (nI v) k)) (z_sbI (by omega)) ?_
        refine hp_iastN hx hb hS.ai hH f_11 (by omega) (by omega) dX11_say_23 (fun H locs μ1 fz fn hH => ?_)
        have f_o := (fn _ (by omega)).trans f_o
        have f_11 : μ1 (o + 11) = some (hp_n X 64 (setN (apB rb sd (nI v) k) (sd + k) (bitI (nI v) k))) := fz
        have fr := hp_eqM.put (k := 11) fr (by decide) fn
        clear fz fn
        refine lv_iinc (v := nI (k + 1)) (lv' := [(2, .int (nI (k + 1))), (0, .ref o), (1, .int (nI v))]) hx hb dX11_say_24 hl (k := 2) rfl (nI_add _ 1) (by decide) rfl (fun ls hl => ?_)
        refine lv_goto (tgt := 2) hx hb dX11_say_27 (by decide) ?_
        have f_11 := f_11.trans (congrArg (fun g => some (hp_n X 64 g)) (show setN (apB rb sd (nI v) k) (sd + k) (bitI (nI v) k) = apB rb sd (nI v) (k + 1) from apB_s _ _ _ _))
        exact ih (k + 1) (by omega) (by omega) _ _ _ _ f_o f_11 fr hH (lv_sub hl [1, 2, 0] rfl)
  exact lp_2 ((8 - 0) + 1) 0 (Nat.zero_le _) (Nat.lt_succ_self _) _ _ _ _ f_o f_11 fr hH (lv_sub hl [1, 2, 0] rfl)

set_option maxHeartbeats 4000000 in
set_option maxRecDepth 100000 in
theorem c_X11_put (l : Launch) (X : hp_X) {μ : hp_M} {nx : Nat} {o n tz se kd kl tc sd hd an fm fo kc : Nat} {on : Bool} {v : Nat} {rb : Nat → Nat} (hv : v < 256) (hroom : se + 9 ≤ 160) (f_o : μ o = some (hp_o 7 [.int (nI n), .ref (o + 1), .ref (o + 2), .ref (o + 3), .ref (o + 4), .ref (o + 5), .ref (o + 6), .int (nB on), .int (nI tz), .ref (o + 7), .int (nI se), .ref (o + 8), .ref (o + 9), .int (nI kd), .int (nI kl), .int (nI tc), .ref (o + 10), .int (nI sd), .ref (o + 11), .int (nI hd), .ref (o + 12), .int (nI an), .ref (o + 13), .int (nI fm), .int (nI fo), .ref (o + 14), .ref (o + 15), .int (nI kc), .ref (o + 16)])) (f_8 : μ (o + 8) = some (hp_n X 160 rb)) : Ct l X yX11_put cX11_put 3 (none : Option Jvm.ClassFile.FieldType) 1 40 0 0 [.ref o, .int (nI v)] μ nx (hq_v X (po_v nx (fun z => z o = some (hp_o 7 [.int (nI n), .ref (o + 1), .ref (o + 2), .ref (o + 3), .ref (o + 4), .ref (o + 5), .ref (o + 6), .int (nB on), .int (nI tz), .ref (o + 7), .int (nI (se + 9)), .ref (o + 8), .ref (o + 9), .int (nI kd), .int (nI kl), .int (nI tc), .ref (o + 10), .int (nI sd), .ref (o + 11), .int (nI hd), .ref (o + 12), .int (nI an), .ref (o + 13), .int (nI fm), .int (nI fo), .ref (o + 14), .ref (o + 15), .int (nI kc), .ref (o + 16)]) ∧ z (o + 8) = some (hp_n X 160 (apO rb se v)) ∧ hp_eqM [0, 8] o z μ))) := by
  refine hp_met (by decide) (Nat.le_of_ble_eq_true rfl) ?_
  intro p e s m below meth c ls hx hb hml hr hlocks hown hin hS hH hl
  have hl : lv_has ls 3 [(0, .ref o), (1, .int (nI v))] := hl
  have fr : hp_eqM [0, 8] o μ μ := fun _ _ => rfl
  refine lv_iconst (v := nI 0) hx hb dX11_put_0 (by decide) ?_
  refine lv_istore_n (lv' := [(2, .int (nI 0)), (0, .ref o), (1, .int (nI v))]) hx hb dX11_put_1 rfl hl (by decide) rfl (fun ls hl => ?_)
  have f_8 := f_8.trans (congrArg (fun g => some (hp_n X 160 g)) (show rb = apB rb se (nI v) 0 from (apB_0 _ _ _).symm))
  have lp_2 : ∀ (kk : Nat) (k : Nat), (k ≤ 8) → (8 - k) < kk → ∀ (μ1 : hp_M) (H : Heap) (locs : List Loc) (ls : Array Slot), (μ1 o = some (hp_o 7 [.int (nI n), .ref (o + 1), .ref (o + 2), .ref (o + 3), .ref (o + 4), .ref (o + 5), .ref (o + 6), .int (nB on), .int (nI tz), .ref (o + 7), .int (nI se), .ref (o + 8), .ref (o + 9), .int (nI kd), .int (nI kl), .int (nI tc), .ref (o + 10), .int (nI sd), .ref (o + 11), .int (nI hd), .ref (o + 12), .int (nI an), .ref (o + 13), .int (nI fm), .int (nI fo), .ref (o + 14), .ref (o + 15), .int (nI kc), .ref (o + 16)])) → (μ1 (o + 8) = some (hp_n X 160 (apB rb se (nI v) k))) → hp_eqM [0, 8] o μ1 μ → hp_w X cls μ1 nx H locs → lv_has ls 3 [(0, .ref o), (1, .int (nI v)), (2, .int (nI k))] → W p l e { frames := 1, cells := 0, slots := 0, locals := 40 } s m [.ref o, .int (nI v)].toArray below meth c H locs 0 0 (MQ below (hq_v X (po_v nx (fun z => z o = some (hp_o 7 [.int (nI n), .ref (o + 1), .ref (o + 2), .ref (o + 3), .ref (o + 4), .ref (o + 5), .ref (o + 6), .int (nB on), .int (nI tz), .ref (o + 7), .int (nI (se + 9)), .ref (o + 8), .ref (o + 9), .int (nI kd), .int (nI kl), .int (nI tc), .ref (o + 10), .int (nI sd), .ref (o + 11), .int (nI hd), .ref (o + 12), .int (nI an), .ref (o + 13), .int (nI fm), .int (nI fo), .ref (o + 14), .ref (o + 15), .int (nI kc), .ref (o + 16)]) ∧ z (o + 8) = some (hp_n X 160 (apO rb se v)) ∧ hp_eqM [0, 8] o z μ))) [.ref o, .int (nI v)].toArray s 0 0 (hp_A X)) (F0 m 2 ls []) := by
    intro kk
    induction kk with
    | zero =>
      intro k hk hkk
      exact absurd hkk (Nat.not_lt_zero _)
    | succ kk ih =>
      intro k hk hkk μ1 H locs ls f_o f_8 fr hH hl
      refine lv_iload_n hx hb dX11_put_2 rfl (lv_at hl 2 rfl) ?_
      refine lv_bipush (v := nI 8) hx hb dX11_put_3 (by decide) ?_
      refine lv_icmp_ge (tgt := 30) hx hb dX11_put_5 (by decide) (fun c_5 => ?_) (fun c_5 => ?_)
      · have c_5 : 8 ≤ k := (nI_leI (by omega) (by omega)).mp c_5
        have ek : k = 8 := by omega
        subst ek
        refine lv_aload_n hx hb dX11_put_30 rfl (lv_at hl 0 rfl) ?_
        refine hp_get hx hb hown hS.2.1 hH (F_X11_36.use hS) f_o rfl dX11_put_31 ?_
        refine lv_aload_n hx hb dX11_put_34 rfl (lv_at hl 0 rfl) ?_
        refine hp_get hx hb hown hS.2.1 hH (F_X11_104.use hS) f_o rfl dX11_put_35 ?_
        refine lv_bipush (v := nI 8) hx hb dX11_put_38 (by decide) ?_
        refine lv_iadd hx hb dX11_put_40 ?_
        refine hp_eqi (z := nI (se + 8)) (nI_add _ _) ?_
        refine lv_iload_n hx hb dX11_put_41 rfl (lv_at hl 1 rfl) ?_
        refine hp_kip (hp_runS (As := [.int (nI v)]) (rest := [.int (nI (se + 8)), .ref (o + 8)]) hx hb hml hown hS hH (c_X11_parity l X hv) M_X11_82 S_X11_parity rfl hl.1 rfl (Nat.le_of_ble_eq_true rfl) dX11_put_42 ⟨Nat.le_of_ble_eq_true rfl, Nat.le_of_ble_eq_true rfl⟩ ⟨Nat.le_of_ble_eq_true rfl, Nat.le_of_ble_eq_true rfl⟩) hH (fun H locs hH => ?_)
        refine hp_iastN hx hb hS.ai hH f_8 (by omega) (by omega) dX11_put_45 (fun H locs μ1 fz fn hH => ?_)
        have f_o := (fn _ (by omega)).trans f_o
        have f_8 : μ1 (o + 8) = some (hp_n X 160 (setN (apB rb se (nI v) 8) (se + 8) (prN v 8))) := fz
        have fr := hp_eqM.put (k := 8) fr (by decide) fn
        clear fz fn
        have f_8 := f_8.trans (congrArg (fun g => some (hp_n X 160 g)) (show setN (apB rb se (nI v) 8) (se + 8) (prN v 8) = apO rb se v from apO_mk _ _ hv))
        refine lv_aload_n hx hb dX11_put_46 rfl (lv_at hl 0 rfl) ?_
        refine lv_dup hx hb dX11_put_47 rfl ?_
        refine hp_get hx hb hown hS.2.1 hH (F_X11_104.use hS) f_o rfl dX11_put_48 ?_
        refine lv_bipush (v := nI 9) hx hb dX11_put_51 (by decide) ?_
        refine lv_iadd hx hb dX11_put_53 ?_
        refine hp_eqi (z := nI (se + 9)) (nI_add _ _) ?_
        refine hp_put hx hb hown hS.2.1 hH (P_X11_104.use hS) f_o rfl rfl (Nat.le_of_ble_eq_true rfl) dX11_put_54 (fun H locs μ1 fz fn hH => ?_)
        have f_8 := (fn _ (by omega)).trans f_8
        have f_o : μ1 o = some (hp_o 7 [.int (nI n), .ref (o + 1), .ref (o + 2), .ref (o + 3), .ref (o + 4), .ref (o + 5), .ref (o + 6), .int (nB on), .int (nI tz), .ref (o + 7), .int (nI (se + 9)), .ref (o + 8), .ref (o + 9), .int (nI kd), .int (nI kl), .int (nI tc), .ref (o + 10), .int (nI sd), .ref (o + 11), .int (nI hd), .ref (o + 12), .int (nI an), .ref (o + 13), .int (nI fm), .int (nI fo), .ref (o + 14), .ref (o + 15), .int (nI kc), .ref (o + 16)]) := fz
        have fr := hp_eqM.put (k := 0) fr (by decide) fn
        clear fz fn
        exact hp_rv hx hb hr hlocks hS hH (⟨rfl, f_o, f_8, fr⟩) dX11_put_57
      · have c_5 : ¬ (8 ≤ k) := fun z => c_5 ((nI_leI (by omega) (by omega)).mpr z)
        refine lv_aload_n hx hb dX11_put_8 rfl (lv_at hl 0 rfl) ?_
        refine hp_get hx hb hown hS.2.1 hH (F_X11_36.use hS) f_o rfl dX11_put_9 ?_
        refine lv_aload_n hx hb dX11_put_12 rfl (lv_at hl 0 rfl) ?_
        refine hp_get hx hb hown hS.2.1 hH (F_X11_104.use hS) f_o rfl dX11_put_13 ?_
        refine lv_iload_n hx hb dX11_put_16 rfl (lv_at hl 2 rfl) ?_
        refine lv_iadd hx hb dX11_put_17 ?_
        refine hp_eqi (z := nI (se + k)) (nI_add _ _) ?_
        refine lv_iload_n hx hb dX11_put_18 rfl (lv_at hl 1 rfl) ?_
        refine lv_iload_n hx hb dX11_put_19 rfl (lv_at hl 2 rfl) ?_
        refine lv_ishr hx hb dX11_put_20 ?_
        refine lv_iconst (v := nI 1) hx hb dX11_put_21 (by decide) ?_
        refine lv_iand hx hb dX11_put_22 ?_
        refine hp_eqi (z := nI (bitI (nI v) k)) (z_sbI (by omega)) ?_
        refine hp_iastN hx hb hS.ai hH f_8 (by omega) (by omega) dX11_put_23 (fun H locs μ1 fz fn hH => ?_)
        have f_o := (fn _ (by omega)).trans f_o
        have f_8 : μ1 (o + 8) = some (hp_n X 160 (setN (apB rb se (nI v) k) (se + k) (bitI (nI v) k))) := fz
        have fr := hp_eqM.put (k := 8) fr (by decide) fn
        clear fz fn
        refine lv_iinc (v := nI (k + 1)) (lv' := [(2, .int (nI (k + 1))), (0, .ref o), (1, .int (nI v))]) hx hb dX11_put_24 hl (k := 2) rfl (nI_add _ 1) (by decide) rfl (fun ls hl => ?_)
        refine lv_goto (tgt := 2) hx hb dX11_put_27 (by decide) ?_
        have f_8 := f_8.trans (congrArg (fun g => some (hp_n X 160 g)) (show setN (apB rb se (nI v) k) (se + k) (bitI (nI v) k) = apB rb se (nI v) (k + 1) from apB_s _ _ _ _))
        exact ih (k + 1) (by omega) (by omega) _ _ _ _ f_o f_8 fr hH (lv_sub hl [1, 2, 0] rfl)
  exact lp_2 ((8 - 0) + 1) 0 (Nat.zero_le _) (Nat.lt_succ_self _) _ _ _ _ f_o f_8 fr hH (lv_sub hl [1, 2, 0] rfl)

set_option maxHeartbeats 4000000 in
set_option maxRecDepth 100000 in
theorem c_X11_bits_out (l : Launch) (X : hp_X) {μ : hp_M} {nx : Nat} {o : Nat} {v k : Int32} (hn : k < nI 1 ∨ nI 32 < k)  : Ct l X yX11_bits cX11_bits 4 (some FieldType.int) 1 40 0 0 [.ref o, .int v, .int k] μ nx (hq_i X (po_i nx (-12) (fun z => z = μ))) := by
  refine hp_met (by decide) (Nat.le_of_ble_eq_true rfl) ?_
  intro p e s m below meth c ls hx hb hml hr hlocks hown hin hS hH hl
  have hl : lv_has ls 4 [(0, .ref o), (1, .int v), (2, .int k)] := hl
  refine lv_iload_n hx hb dX11_bits_0 rfl (lv_at hl 2 rfl) ?_
  refine lv_iconst (v := nI 1) hx hb dX11_bits_1 (by decide) ?_
  refine lv_icmp_lt (tgt := 11) hx hb dX11_bits_2 (by decide) (fun c_2 => ?_) (fun c_2 => ?_)
  · refine lv_bipush (v := (-12)) hx hb dX11_bits_11 (by decide) ?_
    exact hp_ri hx hb hr hlocks hS hH (⟨rfl, rfl, rfl⟩) dX11_bits_13
  · refine lv_iload_n hx hb dX11_bits_5 rfl (lv_at hl 2 rfl) ?_
    refine lv_bipush (v := nI 32) hx hb dX11_bits_6 (by decide) ?_
    refine lv_icmp_le (tgt := 14) hx hb dX11_bits_8 (by decide) (fun c_8 => ?_) (fun c_8 => ?_)
    · exact hn.elim (fun h9 => absurd h9 c_2) (fun h9 => absurd c_8 (Int32.not_le.mpr h9))
    · refine lv_bipush (v := (-12)) hx hb dX11_bits_11 (by decide) ?_
      exact hp_ri hx hb hr hlocks hS hH (⟨rfl, rfl, rfl⟩) dX11_bits_13

set_option maxHeartbeats 4000000 in
set_option maxRecDepth 100000 in
theorem c_X11_bits_room (l : Launch) (X : hp_X) {μ : hp_M} {nx : Nat} {o n tz se kd kl tc sd hd an fm fo kc : Nat} {on : Bool} {v : Int32} {k : Nat} {rb : Nat → Nat} (hk1 : 1 ≤ k) (hk2 : k ≤ 32) (htz : tz ≤ 160) (hroom : tz + k ≤ 160) (f_o : μ o = some (hp_o 7 [.int (nI n), .ref (o + 1), .ref (o + 2), .ref (o + 3), .ref (o + 4), .ref (o + 5), .ref (o + 6), .int (nB on), .int (nI tz), .ref (o + 7), .int (nI se), .ref (o + 8), .ref (o + 9), .int (nI kd), .int (nI kl), .int (nI tc), .ref (o + 10), .int (nI sd), .ref (o + 11), .int (nI hd), .ref (o + 12), .int (nI an), .ref (o + 13), .int (nI fm), .int (nI fo), .ref (o + 14), .ref (o + 15), .int (nI kc), .ref (o + 16)])) (f_7 : μ (o + 7) = some (hp_n X 160 rb)) : Ct l X yX11_bits cX11_bits 4 (some FieldType.int) 1 40 0 0 [.ref o, .int v, .int (nI k)] μ nx (hq_i X (po_i nx (nI (tz + k)) (fun z => z o = some (hp_o 7 [.int (nI n), .ref (o + 1), .ref (o + 2), .ref (o + 3), .ref (o + 4), .ref (o + 5), .ref (o + 6), .int (nB on), .int (nI (tz + k)), .ref (o + 7), .int (nI se), .ref (o + 8), .ref (o + 9), .int (nI kd), .int (nI kl), .int (nI tc), .ref (o + 10), .int (nI sd), .ref (o + 11), .int (nI hd), .ref (o + 12), .int (nI an), .ref (o + 13), .int (nI fm), .int (nI fo), .ref (o + 14), .ref (o + 15), .int (nI kc), .ref (o + 16)]) ∧ z (o + 7) = some (hp_n X 160 (apB rb tz v k)) ∧ hp_eqM [0, 7] o z μ))) := by
  refine hp_met (by decide) (Nat.le_of_ble_eq_true rfl) ?_
  intro p e s m below meth c ls hx hb hml hr hlocks hown hin hS hH hl
  have hl : lv_has ls 4 [(0, .ref o), (1, .int v), (2, .int (nI k))] := hl
  have fr : hp_eqM [0, 7] o μ μ := fun _ _ => rfl
  refine lv_iload_n hx hb dX11_bits_0 rfl (lv_at hl 2 rfl) ?_
  refine lv_iconst (v := nI 1) hx hb dX11_bits_1 (by decide) ?_
  refine lv_icmp_lt (tgt := 11) hx hb dX11_bits_2 (by decide) (fun c_2 => ?_) (fun c_2 => ?_)
  · have c_2 : k < 1 := (nI_ltI (by omega) (by omega)).mp c_2
    exact absurd c_2 (by omega)
  · have c_2 : ¬ (k < 1) := fun z => c_2 ((nI_ltI (by omega) (by omega)).mpr z)
    refine lv_iload_n hx hb dX11_bits_5 rfl (lv_at hl 2 rfl) ?_
    refine lv_bipush (v := nI 32) hx hb dX11_bits_6 (by decide) ?_
    refine lv_icmp_le (tgt := 14) hx hb dX11_bits_8 (by decide) (fun c_8 => ?_) (fun c_8 => ?_)
    · have c_8 : k ≤ 32 := (nI_leI (by omega) (by omega)).mp c_8
      refine lv_aload_n hx hb dX11_bits_14 rfl (lv_at hl 0 rfl) ?_
      refine hp_get hx hb hown hS.2.1 hH (F_X11_79.use hS) f_o rfl dX11_bits_15 ?_
      refine lv_iload_n hx hb dX11_bits_18 rfl (lv_at hl 2 rfl) ?_
      refine lv_iadd hx hb dX11_bits_19 ?_
      refine hp_eqi (z := nI (tz + k)) (nI_add _ _) ?_
      refine lv_sipush (v := nI 160) hx hb dX11_bits_20 (by decide) ?_
      refine lv_icmp_le (tgt := 29) hx hb dX11_bits_23 (by decide) (fun c_23 => ?_) (fun c_23 => ?_)
      · have c_23 : (tz + k) ≤ 160 := (nI_leI (by omega) (by omega)).mp c_23
        refine lv_iconst (v := nI 0) hx hb dX11_bits_29 (by decide) ?_
        refine lv_istore_n (lv' := [(3, .int (nI 0)), (0, .ref o), (1, .int v), (2, .int (nI k))]) hx hb dX11_bits_30 rfl hl (by decide) rfl (fun ls hl => ?_)
        have f_7 := f_7.trans (congrArg (fun g => some (hp_n X 160 g)) (show rb = apB rb tz v 0 from (apB_0 _ _ _).symm))
        have lp_31 : ∀ (kk : Nat) (i : Nat), (i ≤ k) → (k - i) < kk → ∀ (μ1 : hp_M) (H : Heap) (locs : List Loc) (ls : Array Slot), (μ1 o = some (hp_o 7 [.int (nI n), .ref (o + 1), .ref (o + 2), .ref (o + 3), .ref (o + 4), .ref (o + 5), .ref (o + 6), .int (nB on), .int (nI tz), .ref (o + 7), .int (nI se), .ref (o + 8), .ref (o + 9), .int (nI kd), .int (nI kl), .int (nI tc), .ref (o + 10), .int (nI sd), .ref (o + 11), .int (nI hd), .ref (o + 12), .int (nI an), .ref (o + 13), .int (nI fm), .int (nI fo), .ref (o + 14), .ref (o + 15), .int (nI kc), .ref (o + 16)])) → (μ1 (o + 7) = some (hp_n X 160 (apB rb tz v i))) → hp_eqM [0, 7] o μ1 μ → hp_w X cls μ1 nx H locs → lv_has ls 4 [(0, .ref o), (1, .int v), (2, .int (nI k)), (3, .int (nI i))] → W p l e { frames := 1, cells := 0, slots := 0, locals := 40 } s m [.ref o, .int v, .int (nI k)].toArray below meth c H locs 0 0 (MQ below (hq_i X (po_i nx (nI (tz + k)) (fun z => z o = some (hp_o 7 [.int (nI n), .ref (o + 1), .ref (o + 2), .ref (o + 3), .ref (o + 4), .ref (o + 5), .ref (o + 6), .int (nB on), .int (nI (tz + k)), .ref (o + 7), .int (nI se), .ref (o + 8), .ref (o + 9), .int (nI kd), .int (nI kl), .int (nI tc), .ref (o + 10), .int (nI sd), .ref (o + 11), .int (nI hd), .ref (o + 12), .int (nI an), .ref (o + 13), .int (nI fm), .int (nI fo), .ref (o + 14), .ref (o + 15), .int (nI kc), .ref (o + 16)]) ∧ z (o + 7) = some (hp_n X 160 (apB rb tz v k)) ∧ hp_eqM [0, 7] o z μ))) [.ref o, .int v, .int (nI k)].toArray s 0 0 (hp_A X)) (F0 m 31 ls []) := by
          intro kk
          induction kk with
          | zero =>
            intro i hi hkk
            exact absurd hkk (Nat.not_lt_zero _)
          | succ kk ih =>
            intro i hi hkk μ1 H locs ls f_o f_7 fr hH hl
            refine lv_iload_n hx hb dX11_bits_31 rfl (lv_at hl 3 rfl) ?_
            refine lv_iload_n hx hb dX11_bits_32 rfl (lv_at hl 2 rfl) ?_
            refine lv_icmp_ge (tgt := 58) hx hb dX11_bits_33 (by decide) (fun c_33 => ?_) (fun c_33 => ?_)
            · have c_33 : k ≤ i := (nI_leI (by omega) (by omega)).mp c_33
              have ek : k = i := by omega
              subst ek
              refine lv_aload_n hx hb dX11_bits_58 rfl (lv_at hl 0 rfl) ?_
              refine lv_dup hx hb dX11_bits_59 rfl ?_
              refine hp_get hx hb hown hS.2.1 hH (F_X11_79.use hS) f_o rfl dX11_bits_60 ?_
              refine lv_iload_n hx hb dX11_bits_63 rfl (lv_at hl 2 rfl) ?_
              refine lv_iadd hx hb dX11_bits_64 ?_
              refine hp_eqi (z := nI (tz + k)) (nI_add _ _) ?_
              refine hp_put hx hb hown hS.2.1 hH (P_X11_79.use hS) f_o rfl rfl (Nat.le_of_ble_eq_true rfl) dX11_bits_65 (fun H locs μ1 fz fn hH => ?_)
              have f_7 := (fn _ (by omega)).trans f_7
              have f_o : μ1 o = some (hp_o 7 [.int (nI n), .ref (o + 1), .ref (o + 2), .ref (o + 3), .ref (o + 4), .ref (o + 5), .ref (o + 6), .int (nB on), .int (nI (tz + k)), .ref (o + 7), .int (nI se), .ref (o + 8), .ref (o + 9), .int (nI kd), .int (nI kl), .int (nI tc), .ref (o + 10), .int (nI sd), .ref (o + 11), .int (nI hd), .ref (o + 12), .int (nI an), .ref (o + 13), .int (nI fm), .int (nI fo), .ref (o + 14), .ref (o + 15), .int (nI kc), .ref (o + 16)]) := fz
              have fr := hp_eqM.put (k := 0) fr (by decide) fn
              clear fz fn
              refine lv_aload_n hx hb dX11_bits_68 rfl (lv_at hl 0 rfl) ?_
              refine hp_get hx hb hown hS.2.1 hH (F_X11_79.use hS) f_o rfl dX11_bits_69 ?_
              exact hp_ri hx hb hr hlocks hS hH (⟨rfl, rfl, f_o, f_7, fr⟩) dX11_bits_72
            · have c_33 : ¬ (k ≤ i) := fun z => c_33 ((nI_leI (by omega) (by omega)).mpr z)
              refine lv_aload_n hx hb dX11_bits_36 rfl (lv_at hl 0 rfl) ?_
              refine hp_get hx hb hown hS.2.1 hH (F_X11_33.use hS) f_o rfl dX11_bits_37 ?_
              refine lv_aload_n hx hb dX11_bits_40 rfl (lv_at hl 0 rfl) ?_
              refine hp_get hx hb hown hS.2.1 hH (F_X11_79.use hS) f_o rfl dX11_bits_41 ?_
              refine lv_iload_n hx hb dX11_bits_44 rfl (lv_at hl 3 rfl) ?_
              refine lv_iadd hx hb dX11_bits_45 ?_
              refine hp_eqi (z := nI (tz + i)) (nI_add _ _) ?_
              refine lv_iload_n hx hb dX11_bits_46 rfl (lv_at hl 1 rfl) ?_
              refine lv_iload_n hx hb dX11_bits_47 rfl (lv_at hl 3 rfl) ?_
              refine lv_ishr hx hb dX11_bits_48 ?_
              refine lv_iconst (v := nI 1) hx hb dX11_bits_49 (by decide) ?_
              refine lv_iand hx hb dX11_bits_50 ?_
              refine hp_eqi (z := nI (bitI v i)) (z_sbI (by omega)) ?_
              refine hp_iastN hx hb hS.ai hH f_7 (by omega) (by omega) dX11_bits_51 (fun H locs μ1 fz fn hH => ?_)
              have f_o := (fn _ (by omega)).trans f_o
              have f_7 : μ1 (o + 7) = some (hp_n X 160 (setN (apB rb tz v i) (tz + i) (bitI v i))) := fz
              have fr := hp_eqM.put (k := 7) fr (by decide) fn
              clear fz fn
              refine lv_iinc (v := nI (i + 1)) (lv' := [(3, .int (nI (i + 1))), (0, .ref o), (1, .int v), (2, .int (nI k))]) hx hb dX11_bits_52 hl (k := 3) rfl (nI_add _ 1) (by decide) rfl (fun ls hl => ?_)
              refine lv_goto (tgt := 31) hx hb dX11_bits_55 (by decide) ?_
              have f_7 := f_7.trans (congrArg (fun g => some (hp_n X 160 g)) (show setN (apB rb tz v i) (tz + i) (bitI v i) = apB rb tz v (i + 1) from apB_s _ _ _ _))
              exact ih (i + 1) (by omega) (by omega) _ _ _ _ f_o f_7 fr hH (lv_sub hl [1, 2, 3, 0] rfl)
        exact lp_31 ((k - 0) + 1) 0 (Nat.zero_le _) (Nat.lt_succ_self _) _ _ _ _ f_o f_7 fr hH (lv_sub hl [1, 2, 3, 0] rfl)
      · have c_23 : ¬ ((tz + k) ≤ 160) := fun z => c_23 ((nI_leI (by omega) (by omega)).mpr z)
        exact absurd c_23 (by omega)
    · have c_8 : ¬ (k ≤ 32) := fun z => c_8 ((nI_leI (by omega) (by omega)).mpr z)
      exact absurd c_8 (by omega)

set_option maxHeartbeats 4000000 in
set_option maxRecDepth 100000 in
theorem c_X11_bits_full (l : Launch) (X : hp_X) {μ : hp_M} {nx : Nat} {o n tz se kd kl tc sd hd an fm fo kc : Nat} {on : Bool} {v : Int32} {k : Nat} {rb : Nat → Nat} (hk1 : 1 ≤ k) (hk2 : k ≤ 32) (htz : tz ≤ 160) (hroom : 160 < tz + k) (f_o : μ o = some (hp_o 7 [.int (nI n), .ref (o + 1), .ref (o + 2), .ref (o + 3), .ref (o + 4), .ref (o + 5), .ref (o + 6), .int (nB on), .int (nI tz), .ref (o + 7), .int (nI se), .ref (o + 8), .ref (o + 9), .int (nI kd), .int (nI kl), .int (nI tc), .ref (o + 10), .int (nI sd), .ref (o + 11), .int (nI hd), .ref (o + 12), .int (nI an), .ref (o + 13), .int (nI fm), .int (nI fo), .ref (o + 14), .ref (o + 15), .int (nI kc), .ref (o + 16)])) (f_7 : μ (o + 7) = some (hp_n X 160 rb)) : Ct l X yX11_bits cX11_bits 4 (some FieldType.int) 1 40 0 0 [.ref o, .int v, .int (nI k)] μ nx (hq_i X (po_i nx (-14) (fun z => z = μ))) := by
  refine hp_met (by decide) (Nat.le_of_ble_eq_true rfl) ?_
  intro p e s m below meth c ls hx hb hml hr hlocks hown hin hS hH hl
  have hl : lv_has ls 4 [(0, .ref o), (1, .int v), (2, .int (nI k))] := hl
  refine lv_iload_n hx hb dX11_bits_0 rfl (lv_at hl 2 rfl) ?_
  refine lv_iconst (v := nI 1) hx hb dX11_bits_1 (by decide) ?_
  refine lv_icmp_lt (tgt := 11) hx hb dX11_bits_2 (by decide) (fun c_2 => ?_) (fun c_2 => ?_)
  · have c_2 : k < 1 := (nI_ltI (by omega) (by omega)).mp c_2
    exact absurd c_2 (by omega)
  · have c_2 : ¬ (k < 1) := fun z => c_2 ((nI_ltI (by omega) (by omega)).mpr z)
    refine lv_iload_n hx hb dX11_bits_5 rfl (lv_at hl 2 rfl) ?_
    refine lv_bipush (v := nI 32) hx hb dX11_bits_6 (by decide) ?_
    refine lv_icmp_le (tgt := 14) hx hb dX11_bits_8 (by decide) (fun c_8 => ?_) (fun c_8 => ?_)
    · have c_8 : k ≤ 32 := (nI_leI (by omega) (by omega)).mp c_8
      refine lv_aload_n hx hb dX11_bits_14 rfl (lv_at hl 0 rfl) ?_
      refine hp_get hx hb hown hS.2.1 hH (F_X11_79.use hS) f_o rfl dX11_bits_15 ?_
      refine lv_iload_n hx hb dX11_bits_18 rfl (lv_at hl 2 rfl) ?_
      refine lv_iadd hx hb dX11_bits_19 ?_
      refine hp_eqi (z := nI (tz + k)) (nI_add _ _) ?_
      refine lv_sipush (v := nI 160) hx hb dX11_bits_20 (by decide) ?_
      refine lv_icmp_le (tgt := 29) hx hb dX11_bits_23 (by decide) (fun c_23 => ?_) (fun c_23 => ?_)
      · have c_23 : (tz + k) ≤ 160 := (nI_leI (by omega) (by omega)).mp c_23
        exact absurd c_23 (by omega)
      · have c_23 : ¬ ((tz + k) ≤ 160) := fun z => c_23 ((nI_leI (by omega) (by omega)).mpr z)
        refine lv_bipush (v := (-14)) hx hb dX11_bits_26 (by decide) ?_
        exact hp_ri hx hb hr hlocks hS hH (⟨rfl, rfl, rfl⟩) dX11_bits_28
    · have c_8 : ¬ (k ≤ 32) := fun z => c_8 ((nI_leI (by omega) (by omega)).mpr z)
      exact absurd c_8 (by omega)

set_option maxHeartbeats 4000000 in
set_option maxRecDepth 100000 in
theorem c_X11_octet_room (l : Launch) (X : hp_X) {μ : hp_M} {nx : Nat} {o n tz se kd kl tc sd hd an fm fo kc : Nat} {on : Bool} {v : Int32} {rb : Nat → Nat} (htz : tz ≤ 160) (hroom : tz + 9 ≤ 160) (f_o : μ o = some (hp_o 7 [.int (nI n), .ref (o + 1), .ref (o + 2), .ref (o + 3), .ref (o + 4), .ref (o + 5), .ref (o + 6), .int (nB on), .int (nI tz), .ref (o + 7), .int (nI se), .ref (o + 8), .ref (o + 9), .int (nI kd), .int (nI kl), .int (nI tc), .ref (o + 10), .int (nI sd), .ref (o + 11), .int (nI hd), .ref (o + 12), .int (nI an), .ref (o + 13), .int (nI fm), .int (nI fo), .ref (o + 14), .ref (o + 15), .int (nI kc), .ref (o + 16)])) (f_7 : μ (o + 7) = some (hp_n X 160 rb)) : Ct l X yX11_octet cX11_octet 2 (some FieldType.int) 2 80 0 0 [.ref o, .int v] μ nx (hq_i X (po_i nx (nI (tz + 9)) (fun z => z o = some (hp_o 7 [.int (nI n), .ref (o + 1), .ref (o + 2), .ref (o + 3), .ref (o + 4), .ref (o + 5), .ref (o + 6), .int (nB on), .int (nI (tz + 9)), .ref (o + 7), .int (nI se), .ref (o + 8), .ref (o + 9), .int (nI kd), .int (nI kl), .int (nI tc), .ref (o + 10), .int (nI sd), .ref (o + 11), .int (nI hd), .ref (o + 12), .int (nI an), .ref (o + 13), .int (nI fm), .int (nI fo), .ref (o + 14), .ref (o + 15), .int (nI kc), .ref (o + 16)]) ∧ z (o + 7) = some (hp_n X 160 (apO rb tz (byI v))) ∧ hp_eqM [0, 7] o z μ))) := by
  refine hp_met (by decide) (Nat.le_of_ble_eq_true rfl) ?_
  intro p e s m below meth c ls hx hb hml hr hlocks hown hin hS hH hl
  have hl : lv_has ls 2 [(0, .ref o), (1, .int v)] := hl
  have fr : hp_eqM [0, 7] o μ μ := fun _ _ => rfl
  refine lv_aload_n hx hb dX11_octet_0 rfl (lv_at hl 0 rfl) ?_
  refine hp_get hx hb hown hS.2.1 hH (F_X11_79.use hS) f_o rfl dX11_octet_1 ?_
  refine lv_bipush (v := nI 9) hx hb dX11_octet_4 (by decide) ?_
  refine lv_iadd hx hb dX11_octet_6 ?_
  refine hp_eqi (z := nI (tz + 9)) (nI_add _ _) ?_
  refine lv_sipush (v := nI 160) hx hb dX11_octet_7 (by decide) ?_
  refine lv_icmp_le (tgt := 18) hx hb dX11_octet_10 (by decide) (fun c_10 => ?_) (fun c_10 => ?_)
  · have c_10 : (tz + 9) ≤ 160 := (nI_leI (by omega) (by omega)).mp c_10
    refine lv_aload_n hx hb dX11_octet_18 rfl (lv_at hl 0 rfl) ?_
    refine lv_iload_n hx hb dX11_octet_19 rfl (lv_at hl 1 rfl) ?_
    refine lv_sipush (v := nI 255) hx hb dX11_octet_20 (by decide) ?_
    refine lv_iand hx hb dX11_octet_23 ?_
    refine hp_eqi (z := nI (byI v)) (pk_and _ 8 (by decide)) ?_
    refine hp_kim (hp_runV (As := [.int (nI (byI v))]) (rest := []) hx hb hml hown hS hH (c_X11_type l X (byI_lt v) hroom f_o f_7) M_X11_86 I_X11_type V_X11_type (ci := 7) rfl rfl f_o rfl hl.1 rfl (Nat.le_of_ble_eq_true rfl) dX11_octet_24 ⟨Nat.le_of_ble_eq_true rfl, Nat.le_of_ble_eq_true rfl⟩ ⟨Nat.le_of_ble_eq_true rfl, Nat.le_of_ble_eq_true rfl⟩) hH (fun μ1 H locs hp hH => ?_)
    obtain ⟨fz0, fz1, fe⟩ := hp
    have f_o : μ1 o = some (hp_o 7 [.int (nI n), .ref (o + 1), .ref (o + 2), .ref (o + 3), .ref (o + 4), .ref (o + 5), .ref (o + 6), .int (nB on), .int (nI (tz + 9)), .ref (o + 7), .int (nI se), .ref (o + 8), .ref (o + 9), .int (nI kd), .int (nI kl), .int (nI tc), .ref (o + 10), .int (nI sd), .ref (o + 11), .int (nI hd), .ref (o + 12), .int (nI an), .ref (o + 13), .int (nI fm), .int (nI fo), .ref (o + 14), .ref (o + 15), .int (nI kc), .ref (o + 16)]) := fz0
    have f_7 : μ1 (o + 7) = some (hp_n X 160 (apO rb tz (byI v))) := fz1
    have fr := hp_eqM.tr fe fr (by decide)
    clear fe fz0 fz1
    exact hp_ri hx hb hr hlocks hS hH (⟨rfl, rfl, f_o, f_7, fr⟩) dX11_octet_27
  · have c_10 : ¬ ((tz + 9) ≤ 160) := fun z => c_10 ((nI_leI (by omega) (by omega)).mpr z)
    exact absurd c_10 (by omega)

set_option maxHeartbeats 4000000 in
set_option maxRecDepth 100000 in
theorem c_X11_octet_full (l : Launch) (X : hp_X) {μ : hp_M} {nx : Nat} {o n tz se kd kl tc sd hd an fm fo kc : Nat} {on : Bool} {v : Int32} {rb : Nat → Nat} (htz : tz ≤ 160) (hroom : 160 < tz + 9) (f_o : μ o = some (hp_o 7 [.int (nI n), .ref (o + 1), .ref (o + 2), .ref (o + 3), .ref (o + 4), .ref (o + 5), .ref (o + 6), .int (nB on), .int (nI tz), .ref (o + 7), .int (nI se), .ref (o + 8), .ref (o + 9), .int (nI kd), .int (nI kl), .int (nI tc), .ref (o + 10), .int (nI sd), .ref (o + 11), .int (nI hd), .ref (o + 12), .int (nI an), .ref (o + 13), .int (nI fm), .int (nI fo), .ref (o + 14), .ref (o + 15), .int (nI kc), .ref (o + 16)])) (f_7 : μ (o + 7) = some (hp_n X 160 rb)) : Ct l X yX11_octet cX11_octet 2 (some FieldType.int) 2 80 0 0 [.ref o, .int v] μ nx (hq_i X (po_i nx (-14) (fun z => z = μ))) := by
  refine hp_met (by decide) (Nat.le_of_ble_eq_true rfl) ?_
  intro p e s m below meth c ls hx hb hml hr hlocks hown hin hS hH hl
  have hl : lv_has ls 2 [(0, .ref o), (1, .int v)] := hl
  refine lv_aload_n hx hb dX11_octet_0 rfl (lv_at hl 0 rfl) ?_
  refine hp_get hx hb hown hS.2.1 hH (F_X11_79.use hS) f_o rfl dX11_octet_1 ?_
  refine lv_bipush (v := nI 9) hx hb dX11_octet_4 (by decide) ?_
  refine lv_iadd hx hb dX11_octet_6 ?_
  refine hp_eqi (z := nI (tz + 9)) (nI_add _ _) ?_
  refine lv_sipush (v := nI 160) hx hb dX11_octet_7 (by decide) ?_
  refine lv_icmp_le (tgt := 18) hx hb dX11_octet_10 (by decide) (fun c_10 => ?_) (fun c_10 => ?_)
  · have c_10 : (tz + 9) ≤ 160 := (nI_leI (by omega) (by omega)).mp c_10
    exact absurd c_10 (by omega)
  · have c_10 : ¬ ((tz + 9) ≤ 160) := fun z => c_10 ((nI_leI (by omega) (by omega)).mpr z)
    refine lv_bipush (v := (-14)) hx hb dX11_octet_13 (by decide) ?_
    refine lv_goto (tgt := 27) hx hb dX11_octet_15 (by decide) ?_
    exact hp_ri hx hb hr hlocks hS hH (⟨rfl, rfl, rfl⟩) dX11_octet_27
