set_option maxHeartbeats 4000000 in
set_option maxRecDepth 100000 in
theorem c_X11_sayRest (l : Launch) (X : hp_X) {μ : hp_M} {nx : Nat} {o n tz se kd kl tc hd an fm fo kc : Nat} {on : Bool} {t sl : Nat} {L sh2 J : Nat → Nat} (ht : t < 17) (hL1 : 1 ≤ L t) (hL3 : L t ≤ 3) (htc : tc ≤ 40) (h01 : ∀ j, J j < 2) (hsh : ∀ k, k < 40 → sh2 (120 * t + 40 * (L t - 1) + k) = sl / 2 ^ k % 2) (f_o : μ o = some (hp_o 7 [.int (nI n), .ref (o + 1), .ref (o + 2), .ref (o + 3), .ref (o + 4), .ref (o + 5), .ref (o + 6), .int (nB on), .int (nI tz), .ref (o + 7), .int (nI se), .ref (o + 8), .ref (o + 9), .int (nI kd), .int (nI kl), .int (nI tc), .ref (o + 10), .int (nI 0), .ref (o + 11), .int (nI hd), .ref (o + 12), .int (nI an), .ref (o + 13), .int (nI fm), .int (nI fo), .ref (o + 14), .ref (o + 15), .int (nI kc), .ref (o + 16)])) (f_5 : μ (o + 5) = some (hp_n X 17 L)) (f_6 : μ (o + 6) = some (hp_n X 2040 sh2)) (f_11 : μ (o + 11) = some (hp_n X 64 J)) : Ct l X yX11_sayRest cX11_sayRest 6 (none : Option Jvm.ClassFile.FieldType) 1 40 0 0 [.ref o, .int (nI t)] μ nx (hq_v X (po_v nx (fun z => ∃ J9 : Nat → Nat, (∀ j, J9 j < 2) ∧ z o = some (hp_o 7 [.int (nI n), .ref (o + 1), .ref (o + 2), .ref (o + 3), .ref (o + 4), .ref (o + 5), .ref (o + 6), .int (nB on), .int (nI tz), .ref (o + 7), .int (nI se), .ref (o + 8), .ref (o + 9), .int (nI kd), .int (nI kl), .int (nI tc), .ref (o + 10), .int (nI (45 - (tc + tc / 8))), .ref (o + 11), .int (nI hd), .ref (o + 12), .int (nI an), .ref (o + 13), .int (nI fm), .int (nI fo), .ref (o + 14), .ref (o + 15), .int (nI kc), .ref (o + 16)]) ∧ z (o + 11) = some (hp_n X 64 J9) ∧ (∀ j, j < 45 - (tc + tc / 8) → J9 j = octN sl 5 / 2 ^ (tc + tc / 8) / 2 ^ j % 2) ∧ hp_eqM [0, 11] o z μ))) := by
  refine hp_met (by decide) (Nat.le_of_ble_eq_true rfl) ?_
  intro p e s m below meth c ls hx hb hml hr hlocks hown hin hS hH hl
  have hl : lv_has ls 6 [(0, .ref o), (1, .int (nI t))] := hl
  have fr : hp_eqM [0, 11] o μ μ := fun _ _ => rfl
  refine lv_bipush (v := nI 120) hx hb dX11_sayRest_0 (by decide) ?_
  refine lv_iload_n hx hb dX11_sayRest_2 rfl (lv_at hl 1 rfl) ?_
  refine lv_imul hx hb dX11_sayRest_3 ?_
  refine hp_eqi (z := nI (120 * t)) (pk_mul _ _) ?_
  refine lv_bipush (v := nI 40) hx hb dX11_sayRest_4 (by decide) ?_
  refine lv_aload_n hx hb dX11_sayRest_6 rfl (lv_at hl 0 rfl) ?_
  refine hp_get hx hb hown hS.2.1 hH (F_X11_23.use hS) f_o rfl dX11_sayRest_7 ?_
  refine lv_iload_n hx hb dX11_sayRest_10 rfl (lv_at hl 1 rfl) ?_
  refine hp_ialdN hx hb hS.ai hH f_5 (by omega) (by omega) dX11_sayRest_11 ?_
  refine lv_iconst (v := nI 1) hx hb dX11_sayRest_12 (by decide) ?_
  refine lv_isub hx hb dX11_sayRest_13 ?_
  refine hp_eqi (z := nI ((L t) - 1)) (pk_sub (by omega)) ?_
  refine lv_imul hx hb dX11_sayRest_14 ?_
  refine hp_eqi (z := nI (40 * ((L t) - 1))) (pk_mul _ _) ?_
  refine lv_iadd hx hb dX11_sayRest_15 ?_
  refine hp_eqi (z := nI ((120 * t) + (40 * ((L t) - 1)))) (nI_add _ _) ?_
  refine lv_istore_n (lv' := [(2, .int (nI ((120 * t) + (40 * ((L t) - 1))))), (0, .ref o), (1, .int (nI t))]) hx hb dX11_sayRest_16 rfl hl (by decide) rfl (fun ls hl => ?_)
  refine lv_aload_n hx hb dX11_sayRest_17 rfl (lv_at hl 1 rfl) ?_
  refine hp_get hx hb hown hS.2.1 hH (F_X11_101.use hS) f_o rfl dX11_sayRest_18 ?_
  refine lv_istore_n (lv' := [(3, .int (nI tc)), (2, .int (nI ((120 * t) + (40 * ((L t) - 1))))), (0, .ref o), (1, .int (nI t))]) hx hb dX11_sayRest_21 rfl hl (by decide) rfl (fun ls hl => ?_)
  have f_o : μ o = some (hp_o 7 [.int (nI n), .ref (o + 1), .ref (o + 2), .ref (o + 3), .ref (o + 4), .ref (o + 5), .ref (o + 6), .int (nB on), .int (nI tz), .ref (o + 7), .int (nI se), .ref (o + 8), .ref (o + 9), .int (nI kd), .int (nI kl), .int (nI tc), .ref (o + 10), .int (nI (tc + tc / 8 - (tc + tc / 8))), .ref (o + 11), .int (nI hd), .ref (o + 12), .int (nI an), .ref (o + 13), .int (nI fm), .int (nI fo), .ref (o + 14), .ref (o + 15), .int (nI kc), .ref (o + 16)]) := by rw [Nat.sub_self]; exact f_o
  have lp_22 : ∀ (kk22 : Nat) (k : Nat) (J1 : Nat → Nat), (tc ≤ k) → (k ≤ 40) → (∀ j, J1 j < 2) → (∀ j, j < k + k / 8 - (tc + tc / 8) → J1 j = octN sl 5 / 2 ^ (tc + tc / 8 + j) % 2) → (40 - k) < kk22 → ∀ (μ1 : hp_M) (H : Heap) (locs : List Loc) (ls : Array Slot), (μ1 o = some (hp_o 7 [.int (nI n), .ref (o + 1), .ref (o + 2), .ref (o + 3), .ref (o + 4), .ref (o + 5), .ref (o + 6), .int (nB on), .int (nI tz), .ref (o + 7), .int (nI se), .ref (o + 8), .ref (o + 9), .int (nI kd), .int (nI kl), .int (nI tc), .ref (o + 10), .int (nI (k + k / 8 - (tc + tc / 8))), .ref (o + 11), .int (nI hd), .ref (o + 12), .int (nI an), .ref (o + 13), .int (nI fm), .int (nI fo), .ref (o + 14), .ref (o + 15), .int (nI kc), .ref (o + 16)])) → (μ1 (o + 5) = some (hp_n X 17 L)) → (μ1 (o + 6) = some (hp_n X 2040 sh2)) → (μ1 (o + 11) = some (hp_n X 64 J1)) → hp_eqM [0, 11] o μ1 μ → hp_w X cls μ1 nx H locs → lv_has ls 6 [(0, .ref o), (1, .int (nI t)), (2, .int (nI (120 * t + 40 * (L t - 1)))), (3, .int (nI k))] → W p l e { frames := 1, cells := 0, slots := 0, locals := 40 } s m [.ref o, .int (nI t)].toArray below meth c H locs 0 0 (MQ below (hq_v X (po_v nx (fun z => ∃ J9 : Nat → Nat, (∀ j, J9 j < 2) ∧ z o = some (hp_o 7 [.int (nI n), .ref (o + 1), .ref (o + 2), .ref (o + 3), .ref (o + 4), .ref (o + 5), .ref (o + 6), .int (nB on), .int (nI tz), .ref (o + 7), .int (nI se), .ref (o + 8), .ref (o + 9), .int (nI kd), .int (nI kl), .int (nI tc), .ref (o + 10), .int (nI (45 - (tc + tc / 8))), .ref (o + 11), .int (nI hd), .ref (o + 12), .int (nI an), .ref (o + 13), .int (nI fm), .int (nI fo), .ref (o + 14), .ref (o + 15), .int (nI kc), .ref (o + 16)]) ∧ z (o + 11) = some (hp_n X 64 J9) ∧ (∀ j, j < 45 - (tc + tc / 8) → J9 j = octN sl 5 / 2 ^ (tc + tc / 8) / 2 ^ j % 2) ∧ hp_eqM [0, 11] o z μ))) [.ref o, .int (nI t)].toArray s 0 0 (hp_A X)) (F0 m 22 ls []) := by
    intro kk22
    induction kk22 with
    | zero =>
      intro k J1 hk0 hk h011 hJ hkk22
      exact absurd hkk22 (Nat.not_lt_zero _)
    | succ kk22 ih22 =>
      intro k J1 hk0 hk h011 hJ hkk22 μ1 H locs ls f_o f_5 f_6 f_11 fr hH hl
      refine lv_iload_n hx hb dX11_sayRest_22 rfl (lv_at hl 3 rfl) ?_
      refine lv_bipush (v := nI 40) hx hb dX11_sayRest_23 (by decide) ?_
      refine lv_icmp_ge (tgt := 138) hx hb dX11_sayRest_25 (by decide) (fun c_25 => ?_) (fun c_25 => ?_)
      · have c_25 : 40 ≤ k := (nI_leI (by omega) (by omega)).mp c_25
        have ek : k = 40 := by omega
        subst ek
        exact hp_rv hx hb hr hlocks hS hH (⟨rfl, J1, h011, f_o, f_11, fun j hj => by rw [bt_div]; exact hJ j hj, fr⟩) dX11_sayRest_138
      · have c_25 : ¬ (40 ≤ k) := fun z => c_25 ((nI_leI (by omega) (by omega)).mpr z)
        refine lv_aload_n hx hb dX11_sayRest_28 rfl (lv_at hl 0 rfl) ?_
        refine hp_get hx hb hown hS.2.1 hH (F_X11_45.use hS) f_o rfl dX11_sayRest_29 ?_
        refine lv_aload_n hx hb dX11_sayRest_32 rfl (lv_at hl 0 rfl) ?_
        refine hp_get hx hb hown hS.2.1 hH (F_X11_110.use hS) f_o rfl dX11_sayRest_33 ?_
        refine lv_aload_n hx hb dX11_sayRest_36 rfl (lv_at hl 0 rfl) ?_
        refine hp_get hx hb hown hS.2.1 hH (F_X11_26.use hS) f_o rfl dX11_sayRest_37 ?_
        refine lv_iload_n hx hb dX11_sayRest_40 rfl (lv_at hl 2 rfl) ?_
        refine lv_iload_n hx hb dX11_sayRest_41 rfl (lv_at hl 3 rfl) ?_
        refine lv_iadd hx hb dX11_sayRest_42 ?_
        refine hp_eqi (z := nI ((120 * t + 40 * (L t - 1)) + k)) (nI_add _ _) ?_
        refine hp_ialdN hx hb hS.ai hH f_6 (by omega) (by omega) dX11_sayRest_43 ?_
        refine hp_eqi (z := nI (sl / 2 ^ k % 2)) (congrArg nI (hsh k (by omega))) ?_
        refine hp_iastN hx hb hS.ai hH f_11 (by omega) (by omega) dX11_sayRest_44 (fun H locs μ1 fz fn hH => ?_)
        have f_o := (fn _ (by omega)).trans f_o
        have f_5 := (fn _ (by omega)).trans f_5
        have f_6 := (fn _ (by omega)).trans f_6
        have f_11 : μ1 (o + 11) = some (hp_n X 64 (setN J1 (k + k / 8 - (tc + tc / 8)) (sl / 2 ^ k % 2))) := fz
        have fr := hp_eqM.put (k := 11) fr (by decide) fn
        clear fz fn
        refine lv_aload_n hx hb dX11_sayRest_45 rfl (lv_at hl 0 rfl) ?_
        refine lv_dup hx hb dX11_sayRest_46 rfl ?_
        refine hp_get hx hb hown hS.2.1 hH (F_X11_110.use hS) f_o rfl dX11_sayRest_47 ?_
        refine lv_iconst (v := nI 1) hx hb dX11_sayRest_50 (by decide) ?_
        refine lv_iadd hx hb dX11_sayRest_51 ?_
        refine hp_eqi (z := nI ((k + k / 8 - (tc + tc / 8)) + 1)) (nI_add _ _) ?_
        refine hp_put hx hb hown hS.2.1 hH (P_X11_110.use hS) f_o rfl rfl (Nat.le_of_ble_eq_true rfl) dX11_sayRest_52 (fun H locs μ1 fz fn hH => ?_)
        have f_5 := (fn _ (by omega)).trans f_5
        have f_6 := (fn _ (by omega)).trans f_6
        have f_11 := (fn _ (by omega)).trans f_11
        have f_o : μ1 o = some (hp_o 7 [.int (nI n), .ref (o + 1), .ref (o + 2), .ref (o + 3), .ref (o + 4), .ref (o + 5), .ref (o + 6), .int (nB on), .int (nI tz), .ref (o + 7), .int (nI se), .ref (o + 8), .ref (o + 9), .int (nI kd), .int (nI kl), .int (nI tc), .ref (o + 10), .int (nI ((k + k / 8 - (tc + tc / 8)) + 1)), .ref (o + 11), .int (nI hd), .ref (o + 12), .int (nI an), .ref (o + 13), .int (nI fm), .int (nI fo), .ref (o + 14), .ref (o + 15), .int (nI kc), .ref (o + 16)]) := fz
        have fr := hp_eqM.put (k := 0) fr (by decide) fn
        clear fz fn
        refine lv_iload_n hx hb dX11_sayRest_55 rfl (lv_at hl 3 rfl) ?_
        refine lv_bipush (v := nI 8) hx hb dX11_sayRest_56 (by decide) ?_
        refine lv_irem hx hb dX11_sayRest_58 (nI_ne0 (by omega) (by omega)) ?_
        refine hp_eqi (z := nI (k % 8)) (pk_rem (by omega) (by omega) (by omega)) ?_
        refine lv_bipush (v := nI 7) hx hb dX11_sayRest_59 (by decide) ?_
        refine lv_icmp_ge (tgt := 67) hx hb dX11_sayRest_61 (by decide) (fun c_61 => ?_) (fun c_61 => ?_)
        · have c_61 : 7 ≤ (k % 8) := (nI_leI (by omega) (by omega)).mp c_61
          refine lv_iconst (v := nI 0) hx hb dX11_sayRest_67 (by decide) ?_
          refine lv_istore (lv' := [(4, .int (nI 0)), (0, .ref o), (1, .int (nI t)), (2, .int (nI (120 * t + 40 * (L t - 1)))), (3, .int (nI k))]) hx hb dX11_sayRest_68 hl (by decide) rfl (fun ls hl => ?_)
          refine lv_iconst (v := nI 0) hx hb dX11_sayRest_70 (by decide) ?_
          refine lv_istore (lv' := [(5, .int (nI 0)), (4, .int (nI 0)), (0, .ref o), (1, .int (nI t)), (2, .int (nI (120 * t + 40 * (L t - 1)))), (3, .int (nI k))]) hx hb dX11_sayRest_71 hl (by decide) rfl (fun ls hl => ?_)
          have hsj : ∀ j, j < 8 → sh2 (120 * t + 40 * (L t - 1) + k - 7 + j) = sl / 2 ^ (8 * (k / 8)) % 256 / 2 ^ j % 2 := fun j hj => by rw [bt_byte hj, show 120 * t + 40 * (L t - 1) + k - 7 + j = 120 * t + 40 * (L t - 1) + (8 * (k / 8) + j) by omega]; exact hsh _ (by omega)
          have lp_73 : ∀ (kk73 : Nat) (j : Nat), (j ≤ 8) → (8 - j) < kk73 → ∀ (H : Heap) (locs : List Loc) (ls : Array Slot), hp_w X cls μ1 nx H locs → lv_has ls 6 [(0, .ref o), (1, .int (nI t)), (2, .int (nI (120 * t + 40 * (L t - 1)))), (3, .int (nI k)), (4, .int (nI (vaN sh2 (120 * t + 40 * (L t - 1) + k - 7) j))), (5, .int (nI j))] → W p l e { frames := 1, cells := 0, slots := 0, locals := 40 } s m [.ref o, .int (nI t)].toArray below meth c H locs 0 0 (MQ below (hq_v X (po_v nx (fun z => ∃ J9 : Nat → Nat, (∀ j, J9 j < 2) ∧ z o = some (hp_o 7 [.int (nI n), .ref (o + 1), .ref (o + 2), .ref (o + 3), .ref (o + 4), .ref (o + 5), .ref (o + 6), .int (nB on), .int (nI tz), .ref (o + 7), .int (nI se), .ref (o + 8), .ref (o + 9), .int (nI kd), .int (nI kl), .int (nI tc), .ref (o + 10), .int (nI (45 - (tc + tc / 8))), .ref (o + 11), .int (nI hd), .ref (o + 12), .int (nI an), .ref (o + 13), .int (nI fm), .int (nI fo), .ref (o + 14), .ref (o + 15), .int (nI kc), .ref (o + 16)]) ∧ z (o + 11) = some (hp_n X 64 J9) ∧ (∀ j, j < 45 - (tc + tc / 8) → J9 j = octN sl 5 / 2 ^ (tc + tc / 8) / 2 ^ j % 2) ∧ hp_eqM [0, 11] o z μ))) [.ref o, .int (nI t)].toArray s 0 0 (hp_A X)) (F0 m 73 ls []) := by
            intro kk73
            induction kk73 with
            | zero =>
              intro j hj hkk73
              exact absurd hkk73 (Nat.not_lt_zero _)
            | succ kk73 ih73 =>
              intro j hj hkk73 H locs ls  hH hl
              refine lv_iload hx hb dX11_sayRest_73 (lv_at hl 5 rfl) ?_
              refine lv_bipush (v := nI 8) hx hb dX11_sayRest_75 (by decide) ?_
              refine lv_icmp_ge (tgt := 108) hx hb dX11_sayRest_77 (by decide) (fun c_77 => ?_) (fun c_77 => ?_)
              · have c_77 : 8 ≤ j := (nI_leI (by omega) (by omega)).mp c_77
                refine lv_aload_n hx hb dX11_sayRest_108 rfl (lv_at hl 0 rfl) ?_
                refine hp_get hx hb hown hS.2.1 hH (F_X11_45.use hS) f_o rfl dX11_sayRest_109 ?_
                refine lv_aload_n hx hb dX11_sayRest_112 rfl (lv_at hl 0 rfl) ?_
                refine hp_get hx hb hown hS.2.1 hH (F_X11_110.use hS) f_o rfl dX11_sayRest_113 ?_
                refine lv_iload hx hb dX11_sayRest_116 (lv_at hl 4 rfl) ?_
                have ej8 : j = 8 := by omega
                subst ej8
                have hv8 : vaN sh2 (120 * t + 40 * (L t - 1) + k - 7) 8 = sl / 2 ^ (8 * (k / 8)) % 256 := (vaN_of hsj).trans (Nat.mod_mod _ _)
                refine hp_kip (hp_runS (As := [.int (nI (vaN sh2 (120 * t + 40 * (L t - 1) + k - 7) 8))]) (rest := [.int (nI ((k + k / 8 - (tc + tc / 8)) + 1)), .ref (o + 11)]) hx hb hml hown hS hH (c_X11_parity l X (by rw [hv8]; exact Nat.mod_lt _ (by decide))) M_X11_82 S_X11_parity rfl hl.1 rfl (Nat.le_of_ble_eq_true rfl) dX11_sayRest_118 ⟨Nat.le_of_ble_eq_true rfl, Nat.le_of_ble_eq_true rfl⟩ ⟨Nat.le_of_ble_eq_true rfl, Nat.le_of_ble_eq_true rfl⟩) hH (fun H locs hH => ?_)
                refine hp_eqi (z := nI (prN (sl / 2 ^ (8 * (k / 8)) % 256) 8)) (by rw [hv8]) ?_
                refine hp_iastN hx hb hS.ai hH f_11 (by omega) (by omega) dX11_sayRest_121 (fun H locs μ1 fz fn hH => ?_)
                have f_o := (fn _ (by omega)).trans f_o
                have f_5 := (fn _ (by omega)).trans f_5
                have f_6 := (fn _ (by omega)).trans f_6
                have f_11 : μ1 (o + 11) = some (hp_n X 64 (setN (setN J1 (k + k / 8 - (tc + tc / 8)) (sl / 2 ^ k % 2)) ((k + k / 8 - (tc + tc / 8)) + 1) (prN (sl / 2 ^ (8 * (k / 8)) % 256) 8))) := fz
                have fr := hp_eqM.put (k := 11) fr (by decide) fn
                clear fz fn
                refine lv_aload_n hx hb dX11_sayRest_122 rfl (lv_at hl 0 rfl) ?_
                refine lv_dup hx hb dX11_sayRest_123 rfl ?_
                refine hp_get hx hb hown hS.2.1 hH (F_X11_110.use hS) f_o rfl dX11_sayRest_124 ?_
                refine lv_iconst (v := nI 1) hx hb dX11_sayRest_127 (by decide) ?_
                refine lv_iadd hx hb dX11_sayRest_128 ?_
                refine hp_eqi (z := nI (((k + k / 8 - (tc + tc / 8)) + 1) + 1)) (nI_add _ _) ?_
                refine hp_put hx hb hown hS.2.1 hH (P_X11_110.use hS) f_o rfl rfl (Nat.le_of_ble_eq_true rfl) dX11_sayRest_129 (fun H locs μ1 fz fn hH => ?_)
                have f_5 := (fn _ (by omega)).trans f_5
                have f_6 := (fn _ (by omega)).trans f_6
                have f_11 := (fn _ (by omega)).trans f_11
                have f_o : μ1 o = some (hp_o 7 [.int (nI n), .ref (o + 1), .ref (o + 2), .ref (o + 3), .ref (o + 4), .ref (o + 5), .ref (o + 6), .int (nB on), .int (nI tz), .ref (o + 7), .int (nI se), .ref (o + 8), .ref (o + 9), .int (nI kd), .int (nI kl), .int (nI tc), .ref (o + 10), .int (nI (((k + k / 8 - (tc + tc / 8)) + 1) + 1)), .ref (o + 11), .int (nI hd), .ref (o + 12), .int (nI an), .ref (o + 13), .int (nI fm), .int (nI fo), .ref (o + 14), .ref (o + 15), .int (nI kc), .ref (o + 16)]) := fz
                have fr := hp_eqM.put (k := 0) fr (by decide) fn
                clear fz fn
                refine lv_iinc (v := nI (k + 1)) (lv' := [(3, .int (nI (k + 1))), (0, .ref o), (1, .int (nI t)), (2, .int (nI (120 * t + 40 * (L t - 1)))), (4, .int (nI (vaN sh2 (120 * t + 40 * (L t - 1) + k - 7) 8))), (5, .int (nI 8))]) hx hb dX11_sayRest_132 hl (k := 3) rfl (nI_add _ 1) (by decide) rfl (fun ls hl => ?_)
                refine lv_goto (tgt := 22) hx hb dX11_sayRest_135 (by decide) ?_
                have ew : (k + 1) + (k + 1) / 8 - (tc + tc / 8) = ((k + k / 8 - (tc + tc / 8)) + 1) + 1 := by omega
                have f_o : μ1 o = some (hp_o 7 [.int (nI n), .ref (o + 1), .ref (o + 2), .ref (o + 3), .ref (o + 4), .ref (o + 5), .ref (o + 6), .int (nB on), .int (nI tz), .ref (o + 7), .int (nI se), .ref (o + 8), .ref (o + 9), .int (nI kd), .int (nI kl), .int (nI tc), .ref (o + 10), .int (nI ((k + 1) + (k + 1) / 8 - (tc + tc / 8))), .ref (o + 11), .int (nI hd), .ref (o + 12), .int (nI an), .ref (o + 13), .int (nI fm), .int (nI fo), .ref (o + 14), .ref (o + 15), .int (nI kc), .ref (o + 16)]) := by rw [ew]; exact f_o
                have hJ2 : ∀ j, j < (k + 1) + (k + 1) / 8 - (tc + tc / 8) → (setN (setN J1 (k + k / 8 - (tc + tc / 8)) (sl / 2 ^ k % 2)) ((k + k / 8 - (tc + tc / 8)) + 1) (prN (sl / 2 ^ (8 * (k / 8)) % 256) 8)) j = octN sl 5 / 2 ^ (tc + tc / 8 + j) % 2 := by
                  rw [ew]
                  intro j hj
                  by_cases ej2 : j = k + k / 8 - (tc + tc / 8) + 1
                  · rw [ej2, setN_s, show tc + tc / 8 + (k + k / 8 - (tc + tc / 8) + 1) = 9 * (k / 8) + 8 by omega, oct_par (by omega)]
                  rw [setN_o ej2]
                  by_cases ej : j = k + k / 8 - (tc + tc / 8)
                  · rw [ej, setN_s, show tc + tc / 8 + (k + k / 8 - (tc + tc / 8)) = k + k / 8 by omega, oct_dat (by omega)]
                  · rw [setN_o ej]; exact hJ j (by omega)
                exact ih22 (k + 1) (setN (setN J1 (k + k / 8 - (tc + tc / 8)) (sl / 2 ^ k % 2)) ((k + k / 8 - (tc + tc / 8)) + 1) (prN (sl / 2 ^ (8 * (k / 8)) % 256) 8)) (by omega) (by omega) (setN_01 (setN_01 h011 (Nat.mod_lt _ (by decide))) (prN_lt _ (Nat.mod_lt _ (by decide)))) hJ2 (by omega) _ _ _ _ f_o f_5 f_6 f_11 fr hH (lv_sub hl [1, 2, 3, 0] rfl)
              · have c_77 : ¬ (8 ≤ j) := fun z => c_77 ((nI_leI (by omega) (by omega)).mpr z)
                refine lv_iload hx hb dX11_sayRest_80 (lv_at hl 4 rfl) ?_
                refine lv_aload_n hx hb dX11_sayRest_82 rfl (lv_at hl 0 rfl) ?_
                refine hp_get hx hb hown hS.2.1 hH (F_X11_26.use hS) f_o rfl dX11_sayRest_83 ?_
                refine lv_iload_n hx hb dX11_sayRest_86 rfl (lv_at hl 2 rfl) ?_
                refine lv_iload_n hx hb dX11_sayRest_87 rfl (lv_at hl 3 rfl) ?_
                refine lv_iadd hx hb dX11_sayRest_88 ?_
                refine hp_eqi (z := nI ((120 * t + 40 * (L t - 1)) + k)) (nI_add _ _) ?_
                refine lv_bipush (v := nI 7) hx hb dX11_sayRest_89 (by decide) ?_
                refine lv_isub hx hb dX11_sayRest_91 ?_
                refine hp_eqi (z := nI (((120 * t + 40 * (L t - 1)) + k) - 7)) (pk_sub (by omega)) ?_
                refine lv_iload hx hb dX11_sayRest_92 (lv_at hl 5 rfl) ?_
                refine lv_iadd hx hb dX11_sayRest_94 ?_
                refine hp_eqi (z := nI ((((120 * t + 40 * (L t - 1)) + k) - 7) + j)) (nI_add _ _) ?_
                refine hp_ialdN hx hb hS.ai hH f_6 (by omega) (by omega) dX11_sayRest_95 ?_
                refine lv_iload hx hb dX11_sayRest_96 (lv_at hl 5 rfl) ?_
                refine lv_ishl hx hb dX11_sayRest_98 ?_
                refine lv_ior hx hb dX11_sayRest_99 ?_
                refine hp_eqi (z := nI (vaN sh2 (120 * t + 40 * (L t - 1) + k - 7) (j + 1))) (z_or (vaN_lt (fun i hi => by rw [hsj i (by omega)]; exact Nat.mod_lt _ (by decide))) (by rw [hsj j (by omega)]; exact Nat.mod_lt _ (by decide)) (by omega)) ?_
                refine lv_istore (lv' := [(4, .int (nI (vaN sh2 (120 * t + 40 * (L t - 1) + k - 7) (j + 1)))), (0, .ref o), (1, .int (nI t)), (2, .int (nI (120 * t + 40 * (L t - 1)))), (3, .int (nI k)), (5, .int (nI j))]) hx hb dX11_sayRest_100 hl (by decide) rfl (fun ls hl => ?_)
                refine lv_iinc (v := nI (j + 1)) (lv' := [(5, .int (nI (j + 1))), (4, .int (nI (vaN sh2 (120 * t + 40 * (L t - 1) + k - 7) (j + 1)))), (0, .ref o), (1, .int (nI t)), (2, .int (nI (120 * t + 40 * (L t - 1)))), (3, .int (nI k))]) hx hb dX11_sayRest_102 hl (k := 5) rfl (nI_add _ 1) (by decide) rfl (fun ls hl => ?_)
                refine lv_goto (tgt := 73) hx hb dX11_sayRest_105 (by decide) ?_
                exact ih73 (j + 1) (by omega) (by omega) _ _ _  hH (lv_sub hl [2, 3, 4, 5, 1, 0] rfl)
          exact lp_73 ((8 - 0) + 1) 0 (Nat.zero_le _) (Nat.lt_succ_self _) _ _ _  hH (lv_sub hl [2, 3, 4, 5, 1, 0] rfl)
        · have c_61 : ¬ (7 ≤ (k % 8)) := fun z => c_61 ((nI_leI (by omega) (by omega)).mpr z)
          refine lv_goto (tgt := 132) hx hb dX11_sayRest_64 (by decide) ?_
          refine lv_iinc (v := nI (k + 1)) (lv' := [(3, .int (nI (k + 1))), (0, .ref o), (1, .int (nI t)), (2, .int (nI (120 * t + 40 * (L t - 1))))]) hx hb dX11_sayRest_132 hl (k := 3) rfl (nI_add _ 1) (by decide) rfl (fun ls hl => ?_)
          refine lv_goto (tgt := 22) hx hb dX11_sayRest_135 (by decide) ?_
          have ew : (k + 1) + (k + 1) / 8 - (tc + tc / 8) = (k + k / 8 - (tc + tc / 8)) + 1 := by omega
          have f_o : μ1 o = some (hp_o 7 [.int (nI n), .ref (o + 1), .ref (o + 2), .ref (o + 3), .ref (o + 4), .ref (o + 5), .ref (o + 6), .int (nB on), .int (nI tz), .ref (o + 7), .int (nI se), .ref (o + 8), .ref (o + 9), .int (nI kd), .int (nI kl), .int (nI tc), .ref (o + 10), .int (nI ((k + 1) + (k + 1) / 8 - (tc + tc / 8))), .ref (o + 11), .int (nI hd), .ref (o + 12), .int (nI an), .ref (o + 13), .int (nI fm), .int (nI fo), .ref (o + 14), .ref (o + 15), .int (nI kc), .ref (o + 16)]) := by rw [ew]; exact f_o
          have hJ2 : ∀ j, j < (k + 1) + (k + 1) / 8 - (tc + tc / 8) → (setN J1 (k + k / 8 - (tc + tc / 8)) (sl / 2 ^ k % 2)) j = octN sl 5 / 2 ^ (tc + tc / 8 + j) % 2 := by
            rw [ew]
            intro j hj
            by_cases ej : j = k + k / 8 - (tc + tc / 8)
            · rw [ej, setN_s, show tc + tc / 8 + (k + k / 8 - (tc + tc / 8)) = k + k / 8 by omega, oct_dat (by omega)]
            · rw [setN_o ej]; exact hJ j (by omega)
          exact ih22 (k + 1) (setN J1 (k + k / 8 - (tc + tc / 8)) (sl / 2 ^ k % 2)) (by omega) (by omega) (setN_01 h011 (Nat.mod_lt _ (by decide))) hJ2 (by omega) _ _ _ _ f_o f_5 f_6 f_11 fr hH (lv_sub hl [1, 2, 3, 0] rfl)
  exact lp_22 ((40 - tc) + 1) tc J (Nat.le_refl _) htc h01 (fun j hj => by omega) (Nat.lt_succ_self _) _ _ _ _ f_o f_5 f_6 f_11 fr hH (lv_sub hl [2, 3, 1, 0] rfl)
