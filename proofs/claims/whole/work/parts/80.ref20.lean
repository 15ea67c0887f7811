set_option maxHeartbeats 4000000 in
set_option maxRecDepth 100000 in
theorem c_X11_chooses (l : Launch) (X : hp_X) {μ : hp_M} {nx : Nat} {o n tz se kd kl tc sd hd an fm fo kc : Nat} {on : Bool} {sb hbb lv st le : Nat → Nat} {sh : Nat → Nat → Nat} {kn : Nat} {kb : Nat → Nat} (hkb1 : ∀ j, kb j < 2) {L : Nat} (hkb : ∀ j, j < 40 → kb j = kn / 2 ^ j % 2) (hL1 : 1 ≤ L) (hL3 : L ≤ 3) (h01 : ∀ j, sb j < 2) (hn16 : n ≤ 16) (hlv : ∀ j, j < n → 1 ≤ lv j ∧ lv j ≤ 3) (hst : ∀ j, j < n → st j < 8) (hle : ∀ j, j < n → 1 ≤ le j ∧ le j ≤ lv j) (hoff : on = false → ∀ j, j < n → st j = 0) (hW : RW X μ o n lv st le sh)  (f_o : μ o = some (hp_o 7 [.int (nI n), .ref (o + 1), .ref (o + 2), .ref (o + 3), .ref (o + 4), .ref (o + 5), .ref (o + 6), .int (nB on), .int (nI tz), .ref (o + 7), .int (nI se), .ref (o + 8), .ref (o + 9), .int (nI kd), .int (nI kl), .int (nI tc), .ref (o + 10), .int (nI sd), .ref (o + 11), .int (nI hd), .ref (o + 12), .int (nI an), .ref (o + 13), .int (nI fm), .int (nI fo), .ref (o + 14), .ref (o + 15), .int (nI kc), .ref (o + 16)])) (f_8 : μ (o + 8) = some (hp_n X 160 sb)) (f_12 : μ (o + 12) = some (hp_n X 64 hbb)) (f_16 : μ (o + 16) = some (hp_n X 40 kb)) : Ct l X yX11_chooses cX11_chooses 4 (some FieldType.int) 5 200 0 0 [.ref o, .int (nI L)] μ nx (hq_i X (po_i nx (if fN n (laC z0 L kn) 81 lv st le sh = 0 then -1 else nI (lowV (fO n (laC z0 L kn) 81 lv st le sh) (fZ n (laC z0 L kn) 81 lv st le sh))) (fun z => ∃ (kd9 kl9 tc9 sd9 : Nat) (sb9 H9 : Nat → Nat), z o = some (hp_o 7 [.int (nI n), .ref (o + 1), .ref (o + 2), .ref (o + 3), .ref (o + 4), .ref (o + 5), .ref (o + 6), .int (nB on), .int (nI tz), .ref (o + 7), .int (nI 81), .ref (o + 8), .ref (o + 9), .int (nI kd9), .int (nI kl9), .int (nI tc9), .ref (o + 10), .int (nI sd9), .ref (o + 11), .int (nI (fN n (laC z0 L kn) 81 lv st le sh)), .ref (o + 12), .int (nI an), .ref (o + 13), .int (nI (fm + 1)), .int (nI fo), .ref (o + 14), .ref (o + 15), .int (nI kc), .ref (o + 16)]) ∧ (∀ j, sb9 j < 2) ∧ z (o + 8) = some (hp_n X 160 sb9) ∧ z (o + 12) = some (hp_n X 64 H9) ∧ RW X z o n lv (fS (laC z0 L kn) 81 lv st le sh) (fL (laC z0 L kn) 81 lv st le sh) sh ∧ (∀ x, x < fN n (laC z0 L kn) 81 lv st le sh → H9 x = digN (fO n (laC z0 L kn) 81 lv st le sh) (fZ n (laC z0 L kn) 81 lv st le sh) x) ∧ hp_eqM [0, 4, 5, 8, 9, 10, 11, 12] o z μ))) := by
  refine hp_met (by decide) (Nat.le_of_ble_eq_true rfl) ?_
  intro p e s m below meth c ls hx hb hml hr hlocks hown hin hS hH hl
  have hl : lv_has ls 4 [(0, .ref o), (1, .int (nI L))] := hl
  have fr : hp_eqM [0, 4, 5, 8, 9, 10, 11, 12] o μ μ := fun _ _ => rfl
  refine lv_aload_n hx hb dX11_chooses_0 rfl (lv_at hl 0 rfl) ?_
  refine lv_iconst (v := nI 0) hx hb dX11_chooses_1 (by decide) ?_
  refine hp_put hx hb hown hS.2.1 hH (P_X11_104.use hS) f_o rfl rfl (Nat.le_of_ble_eq_true rfl) dX11_chooses_2 (fun H locs μ1 fz fn hH => ?_)
  have hW := hW.put 0 fn (by decide)
  have f_8 := (fn _ (by omega)).trans f_8
  have f_12 := (fn _ (by omega)).trans f_12
  have f_16 := (fn _ (by omega)).trans f_16
  have f_o : μ1 o = some (hp_o 7 [.int (nI n), .ref (o + 1), .ref (o + 2), .ref (o + 3), .ref (o + 4), .ref (o + 5), .ref (o + 6), .int (nB on), .int (nI tz), .ref (o + 7), .int (nI 0), .ref (o + 8), .ref (o + 9), .int (nI kd), .int (nI kl), .int (nI tc), .ref (o + 10), .int (nI sd), .ref (o + 11), .int (nI hd), .ref (o + 12), .int (nI an), .ref (o + 13), .int (nI fm), .int (nI fo), .ref (o + 14), .ref (o + 15), .int (nI kc), .ref (o + 16)]) := fz
  have fr := hp_eqM.put (k := 0) fr (by decide) fn
  clear fz fn
  refine lv_aload_n hx hb dX11_chooses_5 rfl (lv_at hl 0 rfl) ?_
  refine lv_sipush (v := nI 145) hx hb dX11_chooses_6 (by decide) ?_
  refine lv_iconst (v := nI 2) hx hb dX11_chooses_9 (by decide) ?_
  refine lv_iload_n hx hb dX11_chooses_10 rfl (lv_at hl 1 rfl) ?_
  refine lv_imul hx hb dX11_chooses_11 ?_
  refine hp_eqi (z := nI (2 * L)) (pk_mul _ _) ?_
  refine lv_iadd hx hb dX11_chooses_12 ?_
  refine hp_eqi (z := nI (145 + (2 * L))) (nI_add _ _) ?_
  refine hp_kvm (hp_runV (As := [.int (nI (145 + (2 * L)))]) (rest := []) hx hb hml hown hS hH (c_X11_put l X (v := 145 + (2 * L)) (by omega) (by omega) f_o f_8) M_X11_154 I_X11_put V_X11_put (ci := 7) rfl rfl f_o rfl hl.1 rfl (Nat.le_of_ble_eq_true rfl) dX11_chooses_13 ⟨Nat.le_of_ble_eq_true rfl, Nat.le_of_ble_eq_true rfl⟩ ⟨Nat.le_of_ble_eq_true rfl, Nat.le_of_ble_eq_true rfl⟩) hH (fun μ1 H locs hp hH => ?_)
  obtain ⟨fz0, fz1, fe⟩ := hp
  have hW := hW.keep fe (by decide)
  have f_12 := (fe.at 12 (by decide)).trans f_12
  have f_16 := (fe.at 16 (by decide)).trans f_16
  have f_o : μ1 o = some (hp_o 7 [.int (nI n), .ref (o + 1), .ref (o + 2), .ref (o + 3), .ref (o + 4), .ref (o + 5), .ref (o + 6), .int (nB on), .int (nI tz), .ref (o + 7), .int (nI 9), .ref (o + 8), .ref (o + 9), .int (nI kd), .int (nI kl), .int (nI tc), .ref (o + 10), .int (nI sd), .ref (o + 11), .int (nI hd), .ref (o + 12), .int (nI an), .ref (o + 13), .int (nI fm), .int (nI fo), .ref (o + 14), .ref (o + 15), .int (nI kc), .ref (o + 16)]) := fz0
  have f_8 : μ1 (o + 8) = some (hp_n X 160 (apO sb 0 (145 + 2 * L))) := fz1
  have fr := hp_eqM.tr fe fr (by decide)
  clear fe fz0 fz1
  refine lv_aload_n hx hb dX11_chooses_16 rfl (lv_at hl 0 rfl) ?_
  refine lv_bipush (v := nI 112) hx hb dX11_chooses_17 (by decide) ?_
  refine hp_kvm (hp_runV (As := [.int (nI 112)]) (rest := []) hx hb hml hown hS hH (c_X11_put l X (v := 112) (by omega) (by omega) f_o f_8) M_X11_154 I_X11_put V_X11_put (ci := 7) rfl rfl f_o rfl hl.1 rfl (Nat.le_of_ble_eq_true rfl) dX11_chooses_19 ⟨Nat.le_of_ble_eq_true rfl, Nat.le_of_ble_eq_true rfl⟩ ⟨Nat.le_of_ble_eq_true rfl, Nat.le_of_ble_eq_true rfl⟩) hH (fun μ1 H locs hp hH => ?_)
  obtain ⟨fz0, fz1, fe⟩ := hp
  have hW := hW.keep fe (by decide)
  have f_12 := (fe.at 12 (by decide)).trans f_12
  have f_16 := (fe.at 16 (by decide)).trans f_16
  have f_o : μ1 o = some (hp_o 7 [.int (nI n), .ref (o + 1), .ref (o + 2), .ref (o + 3), .ref (o + 4), .ref (o + 5), .ref (o + 6), .int (nB on), .int (nI tz), .ref (o + 7), .int (nI (9 * (2 + 0))), .ref (o + 8), .ref (o + 9), .int (nI kd), .int (nI kl), .int (nI tc), .ref (o + 10), .int (nI sd), .ref (o + 11), .int (nI hd), .ref (o + 12), .int (nI an), .ref (o + 13), .int (nI fm), .int (nI fo), .ref (o + 14), .ref (o + 15), .int (nI kc), .ref (o + 16)]) := fz0
  have f_8 : μ1 (o + 8) = some (hp_n X 160 (laK sb L 112 kn 0)) := fz1
  have fr := hp_eqM.tr fe fr (by decide)
  clear fe fz0 fz1
  refine lv_iconst (v := nI 0) hx hb dX11_chooses_22 (by decide) ?_
  refine lv_istore_n (lv' := [(2, .int (nI 0)), (0, .ref o), (1, .int (nI L))]) hx hb dX11_chooses_23 rfl hl (by decide) rfl (fun ls hl => ?_)
  have lp_24 : ∀ (kk24 : Nat) (k : Nat), (k ≤ 5) → (5 - k) < kk24 → ∀ (μ1 : hp_M) (H : Heap) (locs : List Loc) (ls : Array Slot), (μ1 o = some (hp_o 7 [.int (nI n), .ref (o + 1), .ref (o + 2), .ref (o + 3), .ref (o + 4), .ref (o + 5), .ref (o + 6), .int (nB on), .int (nI tz), .ref (o + 7), .int (nI (9 * (2 + k))), .ref (o + 8), .ref (o + 9), .int (nI kd), .int (nI kl), .int (nI tc), .ref (o + 10), .int (nI sd), .ref (o + 11), .int (nI hd), .ref (o + 12), .int (nI an), .ref (o + 13), .int (nI fm), .int (nI fo), .ref (o + 14), .ref (o + 15), .int (nI kc), .ref (o + 16)])) → (μ1 (o + 8) = some (hp_n X 160 (laK sb L 112 kn k))) → (μ1 (o + 12) = some (hp_n X 64 hbb)) → (μ1 (o + 16) = some (hp_n X 40 kb)) → (RW X μ1 o n lv st le sh) → hp_eqM [0, 4, 5, 8, 9, 10, 11, 12] o μ1 μ → hp_w X cls μ1 nx H locs → lv_has ls 4 [(0, .ref o), (1, .int (nI L)), (2, .int (nI k))] → W p l e { frames := 5, cells := 0, slots := 0, locals := 200 } s m [.ref o, .int (nI L)].toArray below meth c H locs 0 0 (MQ below (hq_i X (po_i nx (if fN n (laC z0 L kn) 81 lv st le sh = 0 then -1 else nI (lowV (fO n (laC z0 L kn) 81 lv st le sh) (fZ n (laC z0 L kn) 81 lv st le sh))) (fun z => ∃ (kd9 kl9 tc9 sd9 : Nat) (sb9 H9 : Nat → Nat), z o = some (hp_o 7 [.int (nI n), .ref (o + 1), .ref (o + 2), .ref (o + 3), .ref (o + 4), .ref (o + 5), .ref (o + 6), .int (nB on), .int (nI tz), .ref (o + 7), .int (nI 81), .ref (o + 8), .ref (o + 9), .int (nI kd9), .int (nI kl9), .int (nI tc9), .ref (o + 10), .int (nI sd9), .ref (o + 11), .int (nI (fN n (laC z0 L kn) 81 lv st le sh)), .ref (o + 12), .int (nI an), .ref (o + 13), .int (nI (fm + 1)), .int (nI fo), .ref (o + 14), .ref (o + 15), .int (nI kc), .ref (o + 16)]) ∧ (∀ j, sb9 j < 2) ∧ z (o + 8) = some (hp_n X 160 sb9) ∧ z (o + 12) = some (hp_n X 64 H9) ∧ RW X z o n lv (fS (laC z0 L kn) 81 lv st le sh) (fL (laC z0 L kn) 81 lv st le sh) sh ∧ (∀ x, x < fN n (laC z0 L kn) 81 lv st le sh → H9 x = digN (fO n (laC z0 L kn) 81 lv st le sh) (fZ n (laC z0 L kn) 81 lv st le sh) x) ∧ hp_eqM [0, 4, 5, 8, 9, 10, 11, 12] o z μ))) [.ref o, .int (nI L)].toArray s 0 0 (hp_A X)) (F0 m 24 ls []) := by
    intro kk24
    induction kk24 with
    | zero =>
      intro k hk hkk24
      exact absurd hkk24 (Nat.not_lt_zero _)
    | succ kk24 ih24 =>
      intro k hk hkk24 μ1 H locs ls f_o f_8 f_12 f_16 hW fr hH hl
      refine lv_iload_n hx hb dX11_chooses_24 rfl (lv_at hl 2 rfl) ?_
      refine lv_iconst (v := nI 5) hx hb dX11_chooses_25 (by decide) ?_
      refine lv_icmp_ge (tgt := 44) hx hb dX11_chooses_26 (by decide) (fun c_26 => ?_) (fun c_26 => ?_)
      · have c_26 : 5 ≤ k := (nI_leI (by omega) (by omega)).mp c_26
        refine lv_aload_n hx hb dX11_chooses_44 rfl (lv_at hl 0 rfl) ?_
        have ek : k = 5 := by omega
        have f_8 : μ1 (o + 8) = some (hp_n X 160 (laK sb L 112 kn 5)) := by rw [ek] at f_8; exact f_8
        have f_o : μ1 o = some (hp_o 7 [.int (nI n), .ref (o + 1), .ref (o + 2), .ref (o + 3), .ref (o + 4), .ref (o + 5), .ref (o + 6), .int (nB on), .int (nI tz), .ref (o + 7), .int (nI (9 * 7)), .ref (o + 8), .ref (o + 9), .int (nI kd), .int (nI kl), .int (nI tc), .ref (o + 10), .int (nI sd), .ref (o + 11), .int (nI hd), .ref (o + 12), .int (nI an), .ref (o + 13), .int (nI fm), .int (nI fo), .ref (o + 14), .ref (o + 15), .int (nI kc), .ref (o + 16)]) := by rw [ek] at f_o; exact f_o
        refine hp_kvm (hp_runV (As := []) (rest := []) hx hb hml hown hS hH (c_X11_putChecked l X (k := 7) (laK_01 h01 _ _ _ _) (by decide) (laK_beg h01 hL3 (by decide) 5) f_o f_8) M_X11_166 I_X11_putChecked V_X11_putChecked (ci := 7) rfl rfl f_o rfl hl.1 rfl (Nat.le_of_ble_eq_true rfl) dX11_chooses_45 ⟨Nat.le_of_ble_eq_true rfl, Nat.le_of_ble_eq_true rfl⟩ ⟨Nat.le_of_ble_eq_true rfl, Nat.le_of_ble_eq_true rfl⟩) hH (fun μ1 H locs hp hH => ?_)
        obtain ⟨fz0, fz1, fe⟩ := hp
        have hW := hW.keep fe (by decide)
        have f_12 := (fe.at 12 (by decide)).trans f_12
        have f_16 := (fe.at 16 (by decide)).trans f_16
        have f_o : μ1 o = some (hp_o 7 [.int (nI n), .ref (o + 1), .ref (o + 2), .ref (o + 3), .ref (o + 4), .ref (o + 5), .ref (o + 6), .int (nB on), .int (nI tz), .ref (o + 7), .int (nI 81), .ref (o + 8), .ref (o + 9), .int (nI kd), .int (nI kl), .int (nI tc), .ref (o + 10), .int (nI sd), .ref (o + 11), .int (nI hd), .ref (o + 12), .int (nI an), .ref (o + 13), .int (nI fm), .int (nI fo), .ref (o + 14), .ref (o + 15), .int (nI kc), .ref (o + 16)]) := fz0
        have f_8 : μ1 (o + 8) = some (hp_n X 160 (laC sb L kn)) := fz1
        have fr := hp_eqM.tr fe fr (by decide)
        clear fe fz0 fz1
        refine lv_aload_n hx hb dX11_chooses_48 rfl (lv_at hl 0 rfl) ?_
        refine hp_kvm (hp_runV (As := []) (rest := []) hx hb hml hown hS hH (c_rsend l X (sb2 := laC z0 L kn) (laC_congr _ _ _ _) (laX_01 (laK_01 h01 _ _ _ _) _) (by omega) hn16 hlv hst hle hoff hW f_o f_8 f_12) M_X11_148 I_X11_send V_X11_send (ci := 7) rfl rfl f_o rfl hl.1 rfl (Nat.le_of_ble_eq_true rfl) dX11_chooses_49 ⟨Nat.le_of_ble_eq_true rfl, Nat.le_of_ble_eq_true rfl⟩ ⟨Nat.le_of_ble_eq_true rfl, Nat.le_of_ble_eq_true rfl⟩) hH (fun μ1 H locs hp hH => ?_)
        obtain ⟨kd9, kl9, tc9, sd9, H9, fz0, fz1, hW, hH9, fe⟩ := hp
        have f_8 := (fe.at 8 (by decide)).trans f_8
        have f_16 := (fe.at 16 (by decide)).trans f_16
        have f_o := fz0
        have f_12 := fz1
        have hfN := fN_le n (laC z0 L kn) 81 lv st le sh
        have fr := hp_eqM.tr fe fr (by decide)
        clear fe fz0 fz1
        refine lv_aload_n hx hb dX11_chooses_52 rfl (lv_at hl 0 rfl) ?_
        refine hp_get hx hb hown hS.2.1 hH (F_X11_139.use hS) f_o rfl dX11_chooses_53 ?_
        refine lv_if_ne (tgt := 61) hx hb dX11_chooses_56 (by decide) (fun c_56 => ?_) (fun c_56 => ?_)
        · have c_56 : ¬ (fN n (laC z0 L kn) 81 lv st le sh = 0) := nz_n (by omega) c_56
          refine lv_iconst (v := nI 0) hx hb dX11_chooses_61 (by decide) ?_
          refine lv_istore_n (lv' := [(2, .int (nI 0)), (0, .ref o), (1, .int (nI L))]) hx hb dX11_chooses_62 rfl hl (by decide) rfl (fun ls hl => ?_)
          refine lv_iconst (v := nI 0) hx hb dX11_chooses_63 (by decide) ?_
          refine lv_istore_n (lv' := [(3, .int (nI 0)), (2, .int (nI 0)), (0, .ref o), (1, .int (nI L))]) hx hb dX11_chooses_64 rfl hl (by decide) rfl (fun ls hl => ?_)
          have hcm := ch_more hL1 hL3 hlv c_56
          have hc27 := hcm.1
          have lp_65 : ∀ (kk65 : Nat) (j : Nat), (j ≤ 8) → (8 - j) < kk65 → ∀ (H : Heap) (locs : List Loc) (ls : Array Slot), hp_w X cls μ1 nx H locs → lv_has ls 4 [(0, .ref o), (2, .int (nI (vaN (fun k => digN (fO n (laC z0 L kn) 81 lv st le sh) (fZ n (laC z0 L kn) 81 lv st le sh) k % 2) 0 j))), (3, .int (nI j))] → W p l e { frames := 5, cells := 0, slots := 0, locals := 200 } s m [.ref o, .int (nI L)].toArray below meth c H locs 0 0 (MQ below (hq_i X (po_i nx (if fN n (laC z0 L kn) 81 lv st le sh = 0 then -1 else nI (lowV (fO n (laC z0 L kn) 81 lv st le sh) (fZ n (laC z0 L kn) 81 lv st le sh))) (fun z => ∃ (kd9 kl9 tc9 sd9 : Nat) (sb9 H9 : Nat → Nat), z o = some (hp_o 7 [.int (nI n), .ref (o + 1), .ref (o + 2), .ref (o + 3), .ref (o + 4), .ref (o + 5), .ref (o + 6), .int (nB on), .int (nI tz), .ref (o + 7), .int (nI 81), .ref (o + 8), .ref (o + 9), .int (nI kd9), .int (nI kl9), .int (nI tc9), .ref (o + 10), .int (nI sd9), .ref (o + 11), .int (nI (fN n (laC z0 L kn) 81 lv st le sh)), .ref (o + 12), .int (nI an), .ref (o + 13), .int (nI (fm + 1)), .int (nI fo), .ref (o + 14), .ref (o + 15), .int (nI kc), .ref (o + 16)]) ∧ (∀ j, sb9 j < 2) ∧ z (o + 8) = some (hp_n X 160 sb9) ∧ z (o + 12) = some (hp_n X 64 H9) ∧ RW X z o n lv (fS (laC z0 L kn) 81 lv st le sh) (fL (laC z0 L kn) 81 lv st le sh) sh ∧ (∀ x, x < fN n (laC z0 L kn) 81 lv st le sh → H9 x = digN (fO n (laC z0 L kn) 81 lv st le sh) (fZ n (laC z0 L kn) 81 lv st le sh) x) ∧ hp_eqM [0, 4, 5, 8, 9, 10, 11, 12] o z μ))) [.ref o, .int (nI L)].toArray s 0 0 (hp_A X)) (F0 m 65 ls []) := by
            intro kk65
            induction kk65 with
            | zero =>
              intro j hj hkk65
              exact absurd hkk65 (Nat.not_lt_zero _)
            | succ kk65 ih65 =>
              intro j hj hkk65 H locs ls  hH hl
              refine lv_iload_n hx hb dX11_chooses_65 rfl (lv_at hl 2 rfl) ?_
              refine lv_bipush (v := nI 8) hx hb dX11_chooses_66 (by decide) ?_
              refine lv_icmp_ge (tgt := 90) hx hb dX11_chooses_68 (by decide) (fun c_68 => ?_) (fun c_68 => ?_)
              · have c_68 : 8 ≤ j := (nI_leI (by omega) (by omega)).mp c_68
                refine lv_iload_n hx hb dX11_chooses_90 rfl (lv_at hl 1 rfl) ?_
                have ej : j = 8 := by omega
                subst ej
                exact hp_ri hx hb hr hlocks hS hH (⟨rfl, Eq.symm (if_neg c_56), _, _, _, _, _, _, f_o, laX_01 (laK_01 h01 _ _ _ _) _, f_8, f_12, hW, hH9, fr⟩) dX11_chooses_91
              · have c_68 : ¬ (8 ≤ j) := fun z => c_68 ((nI_leI (by omega) (by omega)).mpr z)
                refine lv_iload_n hx hb dX11_chooses_71 rfl (lv_at hl 1 rfl) ?_
                refine lv_aload_n hx hb dX11_chooses_72 rfl (lv_at hl 0 rfl) ?_
                refine hp_get hx hb hown hS.2.1 hH (F_X11_48.use hS) f_o rfl dX11_chooses_73 ?_
                refine lv_iload_n hx hb dX11_chooses_76 rfl (lv_at hl 2 rfl) ?_
                refine hp_ialdN hx hb hS.ai hH f_12 (by omega) (by omega) dX11_chooses_77 ?_
                refine hp_eqi (z := nI (digN (fO n (laC z0 L kn) 81 lv st le sh) (fZ n (laC z0 L kn) 81 lv st le sh) j)) (congrArg nI (hH9 j (by omega))) ?_
                refine lv_iconst (v := nI 1) hx hb dX11_chooses_78 (by decide) ?_
                refine lv_iand hx hb dX11_chooses_79 ?_
                refine hp_eqi (z := nI (digN (fO n (laC z0 L kn) 81 lv st le sh) (fZ n (laC z0 L kn) 81 lv st le sh) j % 2)) (pk_andN (Nat.lt_of_le_of_lt (digN_le _ _ _) (by decide)) 1 (by decide)) ?_
                refine lv_iload_n hx hb dX11_chooses_80 rfl (lv_at hl 2 rfl) ?_
                refine lv_ishl hx hb dX11_chooses_81 ?_
                refine lv_ior hx hb dX11_chooses_82 ?_
                refine hp_eqi (z := nI (vaN (fun k => digN (fO n (laC z0 L kn) 81 lv st le sh) (fZ n (laC z0 L kn) 81 lv st le sh) k % 2) 0 (j + 1))) (by have e9 := z_or (v := vaN (fun k => digN (fO n (laC z0 L kn) 81 lv st le sh) (fZ n (laC z0 L kn) 81 lv st le sh) k % 2) 0 j) (b := digN (fO n (laC z0 L kn) 81 lv st le sh) (fZ n (laC z0 L kn) 81 lv st le sh) j % 2) (i := j) (vaN_lt (fun i hi => Nat.mod_lt _ (by decide))) (Nat.mod_lt _ (by decide)) (by omega); rw [e9]; simp only [vaN, Nat.zero_add]) ?_
                refine lv_istore_n (lv' := [(2, .int (nI (vaN (fun k => digN (fO n (laC z0 L kn) 81 lv st le sh) (fZ n (laC z0 L kn) 81 lv st le sh) k % 2) 0 (j + 1)))), (0, .ref o), (3, .int (nI j))]) hx hb dX11_chooses_83 rfl hl (by decide) rfl (fun ls hl => ?_)
                refine lv_iinc (v := nI (j + 1)) (lv' := [(3, .int (nI (j + 1))), (2, .int (nI (vaN (fun k => digN (fO n (laC z0 L kn) 81 lv st le sh) (fZ n (laC z0 L kn) 81 lv st le sh) k % 2) 0 (j + 1)))), (0, .ref o)]) hx hb dX11_chooses_84 hl (k := 2) rfl (nI_add _ 1) (by decide) rfl (fun ls hl => ?_)
                refine lv_goto (tgt := 65) hx hb dX11_chooses_87 (by decide) ?_
                exact ih65 (j + 1) (by omega) (by omega) _ _ _  hH (lv_sub hl [2, 1, 0] rfl)
          exact lp_65 ((8 - 0) + 1) 0 (Nat.zero_le _) (Nat.lt_succ_self _) _ _ _  hH (lv_sub hl [2, 1, 0] rfl)
        · have c_56 : (fN n (laC z0 L kn) 81 lv st le sh) = 0 := nz_0 (by omega) c_56
          refine lv_iconst (v := (-1)) hx hb dX11_chooses_59 (by decide) ?_
          exact hp_ri hx hb hr hlocks hS hH (⟨rfl, Eq.symm (if_pos c_56), _, _, _, _, _, _, f_o, laX_01 (laK_01 h01 _ _ _ _) _, f_8, f_12, hW, hH9, fr⟩) dX11_chooses_60
      · have c_26 : ¬ (5 ≤ k) := fun z => c_26 ((nI_leI (by omega) (by omega)).mpr z)
        refine lv_aload_n hx hb dX11_chooses_29 rfl (lv_at hl 0 rfl) ?_
        refine lv_aload_n hx hb dX11_chooses_30 rfl (lv_at hl 0 rfl) ?_
        refine lv_iload_n hx hb dX11_chooses_31 rfl (lv_at hl 2 rfl) ?_
        have hb9 : vaN kb (8 * k) 8 = kn / 2 ^ (8 * k) % 256 := vaN_of (n := 8) (fun j hj => by rw [hkb _ (by omega), bt_div])
        refine hp_kip (hp_runV (As := [.int (nI k)]) (rest := [.ref o]) hx hb hml hown hS hH (c_X11_knownByte l X (i := k) hkb1 (by omega) f_o f_16) M_X11_160 I_X11_knownByte V_X11_knownByte (ci := 7) rfl rfl f_o rfl hl.1 rfl (Nat.le_of_ble_eq_true rfl) dX11_chooses_32 ⟨Nat.le_of_ble_eq_true rfl, Nat.le_of_ble_eq_true rfl⟩ ⟨Nat.le_of_ble_eq_true rfl, Nat.le_of_ble_eq_true rfl⟩) hH (fun H locs hH => ?_)
        refine hp_eqi (z := nI (kn / 2 ^ (8 * k) % 256)) (congrArg nI hb9) ?_
        refine hp_kvm (hp_runV (As := [.int (nI (kn / 2 ^ (8 * k) % 256))]) (rest := []) hx hb hml hown hS hH (c_X11_put l X (v := kn / 2 ^ (8 * k) % 256) (Nat.mod_lt _ (by decide)) (by omega) f_o f_8) M_X11_154 I_X11_put V_X11_put (ci := 7) rfl rfl f_o rfl hl.1 rfl (Nat.le_of_ble_eq_true rfl) dX11_chooses_35 ⟨Nat.le_of_ble_eq_true rfl, Nat.le_of_ble_eq_true rfl⟩ ⟨Nat.le_of_ble_eq_true rfl, Nat.le_of_ble_eq_true rfl⟩) hH (fun μ1 H locs hp hH => ?_)
        obtain ⟨fz0, fz1, fe⟩ := hp
        have hW := hW.keep fe (by decide)
        have f_12 := (fe.at 12 (by decide)).trans f_12
        have f_16 := (fe.at 16 (by decide)).trans f_16
        have f_o : μ1 o = some (hp_o 7 [.int (nI n), .ref (o + 1), .ref (o + 2), .ref (o + 3), .ref (o + 4), .ref (o + 5), .ref (o + 6), .int (nB on), .int (nI tz), .ref (o + 7), .int (nI (9 * (2 + k) + 9)), .ref (o + 8), .ref (o + 9), .int (nI kd), .int (nI kl), .int (nI tc), .ref (o + 10), .int (nI sd), .ref (o + 11), .int (nI hd), .ref (o + 12), .int (nI an), .ref (o + 13), .int (nI fm), .int (nI fo), .ref (o + 14), .ref (o + 15), .int (nI kc), .ref (o + 16)]) := fz0
        have f_8 : μ1 (o + 8) = some (hp_n X 160 (laK sb L 112 kn (k + 1))) := fz1
        have fr := hp_eqM.tr fe fr (by decide)
        clear fe fz0 fz1
        refine lv_iinc (v := nI (k + 1)) (lv' := [(2, .int (nI (k + 1))), (0, .ref o), (1, .int (nI L))]) hx hb dX11_chooses_38 hl (k := 2) rfl (nI_add _ 1) (by decide) rfl (fun ls hl => ?_)
        refine lv_goto (tgt := 24) hx hb dX11_chooses_41 (by decide) ?_
        have f_o : μ1 o = some (hp_o 7 [.int (nI n), .ref (o + 1), .ref (o + 2), .ref (o + 3), .ref (o + 4), .ref (o + 5), .ref (o + 6), .int (nB on), .int (nI tz), .ref (o + 7), .int (nI (9 * (2 + (k + 1)))), .ref (o + 8), .ref (o + 9), .int (nI kd), .int (nI kl), .int (nI tc), .ref (o + 10), .int (nI sd), .ref (o + 11), .int (nI hd), .ref (o + 12), .int (nI an), .ref (o + 13), .int (nI fm), .int (nI fo), .ref (o + 14), .ref (o + 15), .int (nI kc), .ref (o + 16)]) := by rw [show 9 * (2 + (k + 1)) = 9 * (2 + k) + 9 by omega]; exact f_o
        exact ih24 (k + 1) (by omega) (by omega) _ _ _ _ f_o f_8 f_12 f_16 hW fr hH (lv_sub hl [1, 2, 0] rfl)
  exact lp_24 ((5 - 0) + 1) 0 (Nat.zero_le _) (Nat.lt_succ_self _) _ _ _ _ f_o f_8 f_12 f_16 hW fr hH (lv_sub hl [1, 2, 0] rfl)
