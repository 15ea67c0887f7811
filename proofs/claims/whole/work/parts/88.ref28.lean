set_option maxHeartbeats 4000000 in
set_option maxRecDepth 100000 in
theorem c_X11_round (l : Launch) (X : hp_X) {μ : hp_M} {nx : Nat} {o n tz se kd kl tc sd hd an fm fo kc : Nat} {on : Bool} {sb hbb lv st le : Nat → Nat} {sh : Nat → Nat → Nat} {fz fb sz1 kb : Nat → Nat} {st9 le9 nb9 sz9 : Nat → Nat} {fm9 cnt9 : Nat} (hkb1 : ∀ j, kb j < 2) (h01 : ∀ j, sb j < 2) (hn16 : n ≤ 16) (hlv : ∀ j, j < n → 1 ≤ lv j ∧ lv j ≤ 3) (hst : ∀ j, j < n → st j < 8) (hle : ∀ j, j < n → 1 ≤ le j ∧ le j ≤ lv j) (hoff : on = false → ∀ j, j < n → st j = 0) (hW : RW X μ o n lv st le sh) (hres : rnN n lv sh 40 st le fm fb sz1 0 = (st9, le9, fm9, nb9, sz9, cnt9)) (f_o : μ o = some (hp_o 7 [.int (nI n), .ref (o + 1), .ref (o + 2), .ref (o + 3), .ref (o + 4), .ref (o + 5), .ref (o + 6), .int (nB on), .int (nI tz), .ref (o + 7), .int (nI se), .ref (o + 8), .ref (o + 9), .int (nI kd), .int (nI kl), .int (nI tc), .ref (o + 10), .int (nI sd), .ref (o + 11), .int (nI hd), .ref (o + 12), .int (nI an), .ref (o + 13), .int (nI fm), .int (nI fo), .ref (o + 14), .ref (o + 15), .int (nI kc), .ref (o + 16)])) (f_8 : μ (o + 8) = some (hp_n X 160 sb)) (f_12 : μ (o + 12) = some (hp_n X 64 hbb)) (f_14 : μ (o + 14) = some (hp_n X 40 fz)) (f_15 : μ (o + 15) = some (hp_n X 400 fb)) (f_16 : μ (o + 16) = some (hp_n X 40 kb)) : Ct l X yX11_round cX11_round 7 (some FieldType.int) 7 280 0 0 [.ref o] μ nx (hq_i X (po_i nx (nI cnt9) (fun z => ∃ (se8 kd8 kl8 tc8 sd8 hd8 kc8 : Nat) (sb8 H8 fz8 kb8 : Nat → Nat), z o = some (hp_o 7 [.int (nI n), .ref (o + 1), .ref (o + 2), .ref (o + 3), .ref (o + 4), .ref (o + 5), .ref (o + 6), .int (nB on), .int (nI tz), .ref (o + 7), .int (nI se8), .ref (o + 8), .ref (o + 9), .int (nI kd8), .int (nI kl8), .int (nI tc8), .ref (o + 10), .int (nI sd8), .ref (o + 11), .int (nI hd8), .ref (o + 12), .int (nI an), .ref (o + 13), .int (nI fm9), .int (nI cnt9), .ref (o + 14), .ref (o + 15), .int (nI kc8), .ref (o + 16)]) ∧ (∀ j, sb8 j < 2) ∧ z (o + 8) = some (hp_n X 160 sb8) ∧ z (o + 12) = some (hp_n X 64 H8) ∧ z (o + 14) = some (hp_n X 40 fz8) ∧ (∀ j, j < cnt9 → fz8 j = sz9 j) ∧ z (o + 15) = some (hp_n X 400 nb9) ∧ (∀ j, kb8 j < 2) ∧ z (o + 16) = some (hp_n X 40 kb8) ∧ RW X z o n lv st9 le9 sh ∧ hp_eqM [0, 4, 5, 8, 9, 10, 11, 12, 14, 15, 16] o z μ))) := by
  refine hp_met (by decide) (Nat.le_of_ble_eq_true rfl) ?_
  intro p e s m below meth c ls hx hb hml hr hlocks hown hin hS hH hl
  have hl : lv_has ls 7 [(0, .ref o)] := hl
  have fr : hp_eqM [0, 4, 5, 8, 9, 10, 11, 12, 14, 15, 16] o μ μ := fun _ _ => rfl
  refine lv_aload_n hx hb dX11_round_0 rfl (lv_at hl 0 rfl) ?_
  refine lv_iconst (v := nI 0) hx hb dX11_round_1 (by decide) ?_
  refine hp_put hx hb hown hS.2.1 hH (P_X11_169.use hS) f_o rfl rfl (Nat.le_of_ble_eq_true rfl) dX11_round_2 (fun H locs μ1 fz fn hH => ?_)
  have hW := hW.put 0 fn (by decide)
  have f_8 := (fn _ (by omega)).trans f_8
  have f_12 := (fn _ (by omega)).trans f_12
  have f_14 := (fn _ (by omega)).trans f_14
  have f_15 := (fn _ (by omega)).trans f_15
  have f_16 := (fn _ (by omega)).trans f_16
  have f_o : μ1 o = some (hp_o 7 [.int (nI n), .ref (o + 1), .ref (o + 2), .ref (o + 3), .ref (o + 4), .ref (o + 5), .ref (o + 6), .int (nB on), .int (nI tz), .ref (o + 7), .int (nI se), .ref (o + 8), .ref (o + 9), .int (nI kd), .int (nI kl), .int (nI tc), .ref (o + 10), .int (nI sd), .ref (o + 11), .int (nI hd), .ref (o + 12), .int (nI an), .ref (o + 13), .int (nI fm), .int (nI 0), .ref (o + 14), .ref (o + 15), .int (nI kc), .ref (o + 16)]) := fz
  have fr := hp_eqM.put (k := 0) fr (by decide) fn
  clear fz fn
  refine lv_iconst (v := nI 1) hx hb dX11_round_5 (by decide) ?_
  refine lv_istore_n (lv' := [(1, .int (nI 1)), (0, .ref o)]) hx hb dX11_round_6 rfl hl (by decide) rfl (fun ls hl => ?_)
  have lp_7 : ∀ (kk7 : Nat) (cnt1 : Nat) (st1 : Nat → Nat) (le1 : Nat → Nat) (fm1 : Nat) (fb1 : Nat → Nat) (sz2 : Nat → Nat) (se1 : Nat) (kd1 : Nat) (kl1 : Nat) (tc1 : Nat) (sd1 : Nat) (hd1 : Nat) (kc1 : Nat) (sb1 : Nat → Nat) (H1 : Nat → Nat) (fz1 : Nat → Nat) (kb1 : Nat → Nat), (cnt1 ≤ 40) → (∀ j, kb1 j < 2) → (∀ j, sb1 j < 2) → (∀ j, j < n → st1 j < 8) → (∀ j, j < n → 1 ≤ le1 j ∧ le1 j ≤ lv j) → (on = false → ∀ j, j < n → st1 j = 0) → (∀ j, j < cnt1 → fz1 j = sz2 j) → (rnN n lv sh (40 - cnt1) st1 le1 fm1 fb1 sz2 cnt1 = (st9, le9, fm9, nb9, sz9, cnt9)) → (40 - cnt1) < kk7 → ∀ (μ1 : hp_M) (H : Heap) (locs : List Loc) (ls : Array Slot), (μ1 o = some (hp_o 7 [.int (nI n), .ref (o + 1), .ref (o + 2), .ref (o + 3), .ref (o + 4), .ref (o + 5), .ref (o + 6), .int (nB on), .int (nI tz), .ref (o + 7), .int (nI se1), .ref (o + 8), .ref (o + 9), .int (nI kd1), .int (nI kl1), .int (nI tc1), .ref (o + 10), .int (nI sd1), .ref (o + 11), .int (nI hd1), .ref (o + 12), .int (nI an), .ref (o + 13), .int (nI fm1), .int (nI cnt1), .ref (o + 14), .ref (o + 15), .int (nI kc1), .ref (o + 16)])) → (μ1 (o + 8) = some (hp_n X 160 sb1)) → (μ1 (o + 12) = some (hp_n X 64 H1)) → (μ1 (o + 14) = some (hp_n X 40 fz1)) → (μ1 (o + 15) = some (hp_n X 400 fb1)) → (μ1 (o + 16) = some (hp_n X 40 kb1)) → (RW X μ1 o n lv st1 le1 sh) → hp_eqM [0, 4, 5, 8, 9, 10, 11, 12, 14, 15, 16] o μ1 μ → hp_w X cls μ1 nx H locs → lv_has ls 7 [(0, .ref o), (1, .int (nI 1))] → W p l e { frames := 7, cells := 0, slots := 0, locals := 280 } s m [.ref o].toArray below meth c H locs 0 0 (MQ below (hq_i X (po_i nx (nI cnt9) (fun z => ∃ (se8 kd8 kl8 tc8 sd8 hd8 kc8 : Nat) (sb8 H8 fz8 kb8 : Nat → Nat), z o = some (hp_o 7 [.int (nI n), .ref (o + 1), .ref (o + 2), .ref (o + 3), .ref (o + 4), .ref (o + 5), .ref (o + 6), .int (nB on), .int (nI tz), .ref (o + 7), .int (nI se8), .ref (o + 8), .ref (o + 9), .int (nI kd8), .int (nI kl8), .int (nI tc8), .ref (o + 10), .int (nI sd8), .ref (o + 11), .int (nI hd8), .ref (o + 12), .int (nI an), .ref (o + 13), .int (nI fm9), .int (nI cnt9), .ref (o + 14), .ref (o + 15), .int (nI kc8), .ref (o + 16)]) ∧ (∀ j, sb8 j < 2) ∧ z (o + 8) = some (hp_n X 160 sb8) ∧ z (o + 12) = some (hp_n X 64 H8) ∧ z (o + 14) = some (hp_n X 40 fz8) ∧ (∀ j, j < cnt9 → fz8 j = sz9 j) ∧ z (o + 15) = some (hp_n X 400 nb9) ∧ (∀ j, kb8 j < 2) ∧ z (o + 16) = some (hp_n X 40 kb8) ∧ RW X z o n lv st9 le9 sh ∧ hp_eqM [0, 4, 5, 8, 9, 10, 11, 12, 14, 15, 16] o z μ))) [.ref o].toArray s 0 0 (hp_A X)) (F0 m 7 ls []) := by
    intro kk7
    induction kk7 with
    | zero =>
      intro cnt1 st1 le1 fm1 fb1 sz2 se1 kd1 kl1 tc1 sd1 hd1 kc1 sb1 H1 fz1 kb1 hcnt hkb1 h011 hst1 hle1 hoff1 hfz hres1 hkk7
      exact absurd hkk7 (Nat.not_lt_zero _)
    | succ kk7 ih7 =>
      intro cnt1 st1 le1 fm1 fb1 sz2 se1 kd1 kl1 tc1 sd1 hd1 kc1 sb1 H1 fz1 kb1 hcnt hkb1 h011 hst1 hle1 hoff1 hfz hres1 hkk7 μ1 H locs ls f_o f_8 f_12 f_14 f_15 f_16 hW fr hH hl
      refine lv_iload_n hx hb dX11_round_7 rfl (lv_at hl 1 rfl) ?_
      refine lv_if_eq (tgt := 202) hx hb dX11_round_8 (by decide) (fun c_8 => ?_) (fun c_8 => ?_)
      · exact absurd c_8 (by decide)
      · have c_8 : ¬ (1 = 0) := nz_n (by omega) c_8
        refine lv_aload_n hx hb dX11_round_11 rfl (lv_at hl 0 rfl) ?_
        refine hp_get hx hb hown hS.2.1 hH (F_X11_169.use hS) f_o rfl dX11_round_12 ?_
        refine lv_bipush (v := nI 40) hx hb dX11_round_15 (by decide) ?_
        refine lv_icmp_ge (tgt := 202) hx hb dX11_round_17 (by decide) (fun c_17 => ?_) (fun c_17 => ?_)
        · have c_17 : 40 ≤ cnt1 := (nI_leI (by omega) (by omega)).mp c_17
          refine lv_aload_n hx hb dX11_round_202 rfl (lv_at hl 0 rfl) ?_
          refine hp_get hx hb hown hS.2.1 hH (F_X11_169.use hS) f_o rfl dX11_round_203 ?_
          rw [show 40 - cnt1 = 0 by omega] at hres1
          simp only [rnN] at hres1
          cases hres1
          exact hp_ri hx hb hr hlocks hS hH (⟨rfl, rfl, _, _, _, _, _, _, _, _, _, _, _, f_o, h011, f_8, f_12, f_14, hfz, f_15, hkb1, f_16, hW, fr⟩) dX11_round_206
        · have c_17 : ¬ (40 ≤ cnt1) := fun z => c_17 ((nI_leI (by omega) (by omega)).mpr z)
          refine lv_aload_n hx hb dX11_round_20 rfl (lv_at hl 0 rfl) ?_
          refine lv_bipush (v := nI 38) hx hb dX11_round_21 (by decide) ?_
          obtain ⟨f9, ef9⟩ : ∃ f9, 40 - cnt1 = f9 + 1 := ⟨40 - cnt1 - 1, by omega⟩
          rw [ef9] at hres1
          simp only [rnN] at hres1
          rcases hfo : fo1 n lv sh st1 le1 fm1 fb1 sz2 cnt1 with ⟨ok9, st9a, le9a, fm9a, nb9a, sz9a, cnt9a⟩
          rw [hfo] at hres1
          simp only at hres1
          unfold fo1 at hfo
          rw [if_neg (show ¬ 40 ≤ cnt1 by omega)] at hfo
          refine hp_kvm (hp_runV (As := [.int (nI 38)]) (rest := []) hx hb hml hown hS hH (c_X11_sendShort l X h011 hn16 hlv hst1 hle1 hoff1 hW f_o f_8 f_12) M_X11_172 I_X11_sendShort V_X11_sendShort (ci := 7) rfl rfl f_o rfl hl.1 rfl (Nat.le_of_ble_eq_true rfl) dX11_round_23 ⟨Nat.le_of_ble_eq_true rfl, Nat.le_of_ble_eq_true rfl⟩ ⟨Nat.le_of_ble_eq_true rfl, Nat.le_of_ble_eq_true rfl⟩) hH (fun μ1 H locs hp hH => ?_)
          obtain ⟨kd7, kl7, tc7, sd7, sb7, H7, fz0, hsb7, fz1, fz2, hW, hH7, fe⟩ := hp
          have f_14 := (fe.at 14 (by decide)).trans f_14
          have f_15 := (fe.at 15 (by decide)).trans f_15
          have f_16 := (fe.at 16 (by decide)).trans f_16
          have f_o : μ1 o = some (hp_o 7 [.int (nI n), .ref (o + 1), .ref (o + 2), .ref (o + 3), .ref (o + 4), .ref (o + 5), .ref (o + 6), .int (nB on), .int (nI tz), .ref (o + 7), .int (nI 7), .ref (o + 8), .ref (o + 9), .int (nI kd7), .int (nI kl7), .int (nI tc7), .ref (o + 10), .int (nI sd7), .ref (o + 11), .int (nI (fN n (rqB z0) 7 lv st1 le1 sh)), .ref (o + 12), .int (nI an), .ref (o + 13), .int (nI (fm1 + 1)), .int (nI cnt1), .ref (o + 14), .ref (o + 15), .int (nI kc1), .ref (o + 16)]) := fz0
          have f_8 : μ1 (o + 8) = some (hp_n X 160 sb7) := fz1
          have f_12 : μ1 (o + 12) = some (hp_n X 64 H7) := fz2
          have fr := hp_eqM.tr fe fr (by decide)
          clear fe fz0 fz1 fz2
          have hfN := fN_le n (rqB z0) 7 lv st1 le1 sh
          refine lv_aload_n hx hb dX11_round_26 rfl (lv_at hl 0 rfl) ?_
          refine hp_get hx hb hown hS.2.1 hH (F_X11_139.use hS) f_o rfl dX11_round_27 ?_
          refine lv_if_le (tgt := 37) hx hb dX11_round_30 (by decide) (fun c_30 => ?_) (fun c_30 => ?_)
          · have c_30 : (fN n (rqB z0) 7 lv st1 le1 sh) = 0 := nz_le (by omega) c_30
            refine lv_iconst (v := nI 0) hx hb dX11_round_37 (by decide) ?_
            refine lv_istore_n (lv' := [(1, .int (nI 0)), (0, .ref o)]) hx hb dX11_round_38 rfl hl (by decide) rfl (fun ls hl => ?_)
            refine lv_iload_n hx hb dX11_round_39 rfl (lv_at hl 0 rfl) ?_
            refine lv_istore_n (lv' := [(2, .int (nI 0)), (1, .int (nI 0)), (0, .ref o)]) hx hb dX11_round_40 rfl hl (by decide) rfl (fun ls hl => ?_)
            refine lv_iconst (v := nI 0) hx hb dX11_round_41 (by decide) ?_
            refine lv_istore_n (lv' := [(3, .int (nI 0)), (2, .int (nI 0)), (1, .int (nI 0)), (0, .ref o)]) hx hb dX11_round_42 rfl hl (by decide) rfl (fun ls hl => ?_)
            refine lv_iconst (v := nI 1) hx hb dX11_round_43 (by decide) ?_
            refine lv_istore (lv' := [(4, .int (nI 1)), (3, .int (nI 0)), (2, .int (nI 0)), (1, .int (nI 0)), (0, .ref o)]) hx hb dX11_round_44 hl (by decide) rfl (fun ls hl => ?_)
            refine lv_iload_n hx hb dX11_round_46 rfl (lv_at hl 2 rfl) ?_
            refine lv_if_eq (tgt := 146) hx hb dX11_round_47 (by decide) (fun c_47 => ?_) (fun c_47 => ?_)
            · have c_47 : 0 = 0 := nz_0 (by omega) c_47
              refine lv_iload_n hx hb dX11_round_146 rfl (lv_at hl 3 rfl) ?_
              refine lv_if_ne (tgt := 155) hx hb dX11_round_147 (by decide) (fun c_147 => ?_) (fun c_147 => ?_)
              · exact absurd c_147 (by decide)
              · have c_147 : 0 = 0 := nz_0 (by omega) c_147
                refine lv_aload_n hx hb dX11_round_150 rfl (lv_at hl 4 rfl) ?_
                refine hp_get hx hb hown hS.2.1 hH (F_X11_169.use hS) f_o rfl dX11_round_151 ?_
                rw [if_pos c_30] at hfo
                cases hfo
                rw [if_neg (by decide)] at hres1
                cases hres1
                exact hp_ri hx hb hr hlocks hS hH (⟨rfl, rfl, _, _, _, _, _, _, _, _, _, _, _, f_o, hsb7, f_8, f_12, f_14, hfz, f_15, hkb1, f_16, hW, fr⟩) dX11_round_154
            · exact absurd c_47 (by decide)
          · have c_30 : 0 < (fN n (rqB z0) 7 lv st1 le1 sh) := nz_nle (by omega) c_30
            refine lv_iconst (v := nI 1) hx hb dX11_round_33 (by decide) ?_
            refine lv_goto (tgt := 38) hx hb dX11_round_34 (by decide) ?_
            refine lv_istore_n (lv' := [(1, .int (nI 1)), (0, .ref o)]) hx hb dX11_round_38 rfl hl (by decide) rfl (fun ls hl => ?_)
            refine lv_iload_n hx hb dX11_round_39 rfl (lv_at hl 0 rfl) ?_
            refine lv_istore_n (lv' := [(2, .int (nI 1)), (1, .int (nI 1)), (0, .ref o)]) hx hb dX11_round_40 rfl hl (by decide) rfl (fun ls hl => ?_)
            refine lv_iconst (v := nI 0) hx hb dX11_round_41 (by decide) ?_
            refine lv_istore_n (lv' := [(3, .int (nI 0)), (2, .int (nI 1)), (1, .int (nI 1)), (0, .ref o)]) hx hb dX11_round_42 rfl hl (by decide) rfl (fun ls hl => ?_)
            refine lv_iconst (v := nI 1) hx hb dX11_round_43 (by decide) ?_
            refine lv_istore (lv' := [(4, .int (nI 1)), (3, .int (nI 0)), (2, .int (nI 1)), (1, .int (nI 1)), (0, .ref o)]) hx hb dX11_round_44 hl (by decide) rfl (fun ls hl => ?_)
            rw [if_neg (Nat.ne_of_gt c_30)] at hfo
            have lp_46 : ∀ (kk46 : Nat) (L : Nat) (st2 : Nat → Nat) (le2 : Nat → Nat) (fm2 : Nat) (fb2 : Nat → Nat) (sz3 : Nat → Nat) (nn : Nat) (se2 : Nat) (kd2 : Nat) (kl2 : Nat) (tc2 : Nat) (sd2 : Nat) (hd2 : Nat) (kc2 : Nat) (sb2 : Nat → Nat) (H2 : Nat → Nat) (kb2 : Nat → Nat), (1 ≤ L) → (L ≤ 3) → (sz3 cnt1 = nn) → (nn ≤ 3 * (L - 1)) → (∀ j, kb2 j < 2) → (∀ j, sb2 j < 2) → (∀ j, j < n → st2 j < 8) → (∀ j, j < n → 1 ≤ le2 j ∧ le2 j ≤ lv j) → (on = false → ∀ j, j < n → st2 j = 0) → (∀ j, j < cnt1 → fz1 j = sz3 j) → (foL n lv sh cnt1 (4 - L) L st2 le2 fm2 fb2 sz3 = (ok9, st9a, le9a, fm9a, nb9a, sz9a, cnt9a)) → (4 - L) < kk46 → ∀ (μ1 : hp_M) (H : Heap) (locs : List Loc) (ls : Array Slot), (μ1 o = some (hp_o 7 [.int (nI n), .ref (o + 1), .ref (o + 2), .ref (o + 3), .ref (o + 4), .ref (o + 5), .ref (o + 6), .int (nB on), .int (nI tz), .ref (o + 7), .int (nI se2), .ref (o + 8), .ref (o + 9), .int (nI kd2), .int (nI kl2), .int (nI tc2), .ref (o + 10), .int (nI sd2), .ref (o + 11), .int (nI hd2), .ref (o + 12), .int (nI an), .ref (o + 13), .int (nI fm2), .int (nI cnt1), .ref (o + 14), .ref (o + 15), .int (nI kc2), .ref (o + 16)])) → (μ1 (o + 8) = some (hp_n X 160 sb2)) → (μ1 (o + 12) = some (hp_n X 64 H2)) → (μ1 (o + 14) = some (hp_n X 40 fz1)) → (μ1 (o + 15) = some (hp_n X 400 fb2)) → (μ1 (o + 16) = some (hp_n X 40 kb2)) → (RW X μ1 o n lv st2 le2 sh) → hp_eqM [0, 4, 5, 8, 9, 10, 11, 12, 14, 15, 16] o μ1 μ → hp_w X cls μ1 nx H locs → lv_has ls 7 [(0, .ref o), (1, .int (nI 1)), (2, .int (nI 1)), (3, .int (nI nn)), (4, .int (nI L))] → W p l e { frames := 7, cells := 0, slots := 0, locals := 280 } s m [.ref o].toArray below meth c H locs 0 0 (MQ below (hq_i X (po_i nx (nI cnt9) (fun z => ∃ (se8 kd8 kl8 tc8 sd8 hd8 kc8 : Nat) (sb8 H8 fz8 kb8 : Nat → Nat), z o = some (hp_o 7 [.int (nI n), .ref (o + 1), .ref (o + 2), .ref (o + 3), .ref (o + 4), .ref (o + 5), .ref (o + 6), .int (nB on), .int (nI tz), .ref (o + 7), .int (nI se8), .ref (o + 8), .ref (o + 9), .int (nI kd8), .int (nI kl8), .int (nI tc8), .ref (o + 10), .int (nI sd8), .ref (o + 11), .int (nI hd8), .ref (o + 12), .int (nI an), .ref (o + 13), .int (nI fm9), .int (nI cnt9), .ref (o + 14), .ref (o + 15), .int (nI kc8), .ref (o + 16)]) ∧ (∀ j, sb8 j < 2) ∧ z (o + 8) = some (hp_n X 160 sb8) ∧ z (o + 12) = some (hp_n X 64 H8) ∧ z (o + 14) = some (hp_n X 40 fz8) ∧ (∀ j, j < cnt9 → fz8 j = sz9 j) ∧ z (o + 15) = some (hp_n X 400 nb9) ∧ (∀ j, kb8 j < 2) ∧ z (o + 16) = some (hp_n X 40 kb8) ∧ RW X z o n lv st9 le9 sh ∧ hp_eqM [0, 4, 5, 8, 9, 10, 11, 12, 14, 15, 16] o z μ))) [.ref o].toArray s 0 0 (hp_A X)) (F0 m 46 ls []) := by
              intro kk46
              induction kk46 with
              | zero =>
                intro L st2 le2 fm2 fb2 sz3 nn se2 kd2 kl2 tc2 sd2 hd2 kc2 sb2 H2 kb2 hL1 hL3 hnn hnb hkb2 h012 hst2 hle2 hoff2 hfz2 hfo2 hkk46
                exact absurd hkk46 (Nat.not_lt_zero _)
              | succ kk46 ih46 =>
                intro L st2 le2 fm2 fb2 sz3 nn se2 kd2 kl2 tc2 sd2 hd2 kc2 sb2 H2 kb2 hL1 hL3 hnn hnb hkb2 h012 hst2 hle2 hoff2 hfz2 hfo2 hkk46 μ1 H locs ls f_o f_8 f_12 f_14 f_15 f_16 hW fr hH hl
                refine lv_iload_n hx hb dX11_round_46 rfl (lv_at hl 2 rfl) ?_
                refine lv_if_eq (tgt := 146) hx hb dX11_round_47 (by decide) (fun c_47 => ?_) (fun c_47 => ?_)
                · exact absurd c_47 (by decide)
                · have c_47 : ¬ (1 = 0) := nz_n (by omega) c_47
                  refine lv_aload_n hx hb dX11_round_50 rfl (lv_at hl 0 rfl) ?_
                  refine lv_iload hx hb dX11_round_51 (lv_at hl 4 rfl) ?_
                  obtain ⟨f8, ef8⟩ : ∃ f8, 4 - L = f8 + 1 := ⟨4 - L - 1, by omega⟩
                  rw [ef8] at hfo2
                  simp only [foL] at hfo2
                  rcases hse : seN n lv sh L 40 st2 le2 fm2 0 0 with ⟨ok5, st5, le5, fm5, kn5, kc5⟩
                  have hin := seN_in hlv 40 _ _ _ _ _ hst2 (fun j hj => ⟨(hle2 j hj).1, Nat.le_trans (hle2 j hj).2 (hlv j hj).2⟩) (by decide) (by decide) _ _ _ _ _ _ hse
                  have hin2 := seN_in2 hlv 40 _ _ _ _ _ hle2 _ _ _ _ _ _ hse
                  have hp40 : (2 : Nat) ^ kc5 ≤ 2 ^ 40 := Nat.pow_le_pow_right (by decide) hin.2.2.2.2
                  rw [hse] at hfo2
                  simp only at hfo2
                  have hst5 := hin.1
                  have hle5 := hin2.1
                  have hoff5 := fun h9 => hin2.2 (hoff2 h9)
                  refine hp_kim (hp_runV (As := [.int (nI L)]) (rest := []) hx hb hml hown hS hH (c_X11_knows l X hkb2 hL1 hL3 h012 hn16 hlv hst2 hle2 hoff2 hW hse f_o f_8 f_12 f_16) M_X11_175 I_X11_knows V_X11_knows (ci := 7) rfl rfl f_o rfl hl.1 rfl (Nat.le_of_ble_eq_true rfl) dX11_round_53 ⟨Nat.le_of_ble_eq_true rfl, Nat.le_of_ble_eq_true rfl⟩ ⟨Nat.le_of_ble_eq_true rfl, Nat.le_of_ble_eq_true rfl⟩) hH (fun μ1 H locs hp hH => ?_)
                  obtain ⟨se5, kd5, kl5, tc5, sd5, hd5, sb5, H5, kb5, fz0, hsb5, fz1, fz2, fz3, hkb5, hkbb, hW, fe⟩ := hp
                  have f_14 := (fe.at 14 (by decide)).trans f_14
                  have f_15 := (fe.at 15 (by decide)).trans f_15
                  have f_o : μ1 o = some (hp_o 7 [.int (nI n), .ref (o + 1), .ref (o + 2), .ref (o + 3), .ref (o + 4), .ref (o + 5), .ref (o + 6), .int (nB on), .int (nI tz), .ref (o + 7), .int (nI se5), .ref (o + 8), .ref (o + 9), .int (nI kd5), .int (nI kl5), .int (nI tc5), .ref (o + 10), .int (nI sd5), .ref (o + 11), .int (nI hd5), .ref (o + 12), .int (nI an), .ref (o + 13), .int (nI fm5), .int (nI cnt1), .ref (o + 14), .ref (o + 15), .int (nI kc5), .ref (o + 16)]) := fz0
                  have f_8 : μ1 (o + 8) = some (hp_n X 160 sb5) := fz1
                  have f_12 : μ1 (o + 12) = some (hp_n X 64 H5) := fz2
                  have f_16 : μ1 (o + 16) = some (hp_n X 40 kb5) := fz3
                  have fr := hp_eqM.tr fe fr (by decide)
                  clear fe fz0 fz1 fz2 fz3
                  refine lv_if_ne (tgt := 64) hx hb dX11_round_56 (by decide) (fun c_56 => ?_) (fun c_56 => ?_)
                  · have c_56 : ok5 = true := nB_n c_56
                    refine lv_aload_n hx hb dX11_round_64 rfl (lv_at hl 0 rfl) ?_
                    refine lv_iload hx hb dX11_round_65 (lv_at hl 4 rfl) ?_
                    rw [if_pos c_56] at hfo2
                    have hk40 : kc5 = 40 := seN_40 (n := n) (lv := lv) (sh := sh) (L := L) 40 st2 le2 fm2 0 0 (by decide) (by decide) (by decide) _ _ _ _ _ (by rw [c_56] at hse; exact hse)
                    refine hp_kim (hp_runV (As := [.int (nI L)]) (rest := []) hx hb hml hown hS hH (c_X11_chooses l X (kn := kn5) (L := L) hkb5 (fun j hj => hkbb j (by omega)) hL1 hL3 hsb5 hn16 hlv hst5 hle5 hoff5 hW f_o f_8 f_12 f_16) M_X11_178 I_X11_chooses V_X11_chooses (ci := 7) rfl rfl f_o rfl hl.1 rfl (Nat.le_of_ble_eq_true rfl) dX11_round_67 ⟨Nat.le_of_ble_eq_true rfl, Nat.le_of_ble_eq_true rfl⟩ ⟨Nat.le_of_ble_eq_true rfl, Nat.le_of_ble_eq_true rfl⟩) hH (fun μ1 H locs hp hH => ?_)
                    obtain ⟨kd6, kl6, tc6, sd6, sb6, H6, fz0, hsb6, fz1, fz2, hW, hH6, fe⟩ := hp
                    have f_14 := (fe.at 14 (by decide)).trans f_14
                    have f_15 := (fe.at 15 (by decide)).trans f_15
                    have f_16 := (fe.at 16 (by decide)).trans f_16
                    have f_o : μ1 o = some (hp_o 7 [.int (nI n), .ref (o + 1), .ref (o + 2), .ref (o + 3), .ref (o + 4), .ref (o + 5), .ref (o + 6), .int (nB on), .int (nI tz), .ref (o + 7), .int (nI 81), .ref (o + 8), .ref (o + 9), .int (nI kd6), .int (nI kl6), .int (nI tc6), .ref (o + 10), .int (nI sd6), .ref (o + 11), .int (nI (fN n (laC z0 L kn5) 81 lv st5 le5 sh)), .ref (o + 12), .int (nI an), .ref (o + 13), .int (nI (fm5 + 1)), .int (nI cnt1), .ref (o + 14), .ref (o + 15), .int (nI kc5), .ref (o + 16)]) := fz0
                    have f_8 : μ1 (o + 8) = some (hp_n X 160 sb6) := fz1
                    have f_12 : μ1 (o + 12) = some (hp_n X 64 H6) := fz2
                    have fr := hp_eqM.tr fe fr (by decide)
                    clear fe fz0 fz1 fz2
                    by_cases h0 : fN n (laC z0 L kn5) 81 lv st5 le5 sh = 0
                    · refine hp_eqi (z := (-1)) (if_pos h0) ?_
                      rw [if_pos h0] at hfo2
                      refine lv_istore (lv' := [(5, .int (-1)), (0, .ref o), (1, .int (nI 1)), (2, .int (nI 1)), (3, .int (nI nn)), (4, .int (nI L))]) hx hb dX11_round_70 hl (by decide) rfl (fun ls hl => ?_)
                      refine lv_iload hx hb dX11_round_72 (lv_at hl 0 rfl) ?_
                      refine lv_if_ge (tgt := 82) hx hb dX11_round_74 (by decide) (fun c_74 => ?_) (fun c_74 => ?_)
                      · exact absurd c_74 (by decide)
                      · refine lv_aload_n hx hb dX11_round_77 rfl (lv_at hl 1 rfl) ?_
                        refine hp_get hx hb hown hS.2.1 hH (F_X11_169.use hS) f_o rfl dX11_round_78 ?_
                        cases hfo2
                        rw [if_neg (by decide)] at hres1
                        cases hres1
                        exact hp_ri hx hb hr hlocks hS hH (⟨rfl, rfl, _, _, _, _, _, _, _, _, _, _, _, f_o, hsb6, f_8, f_12, f_14, hfz2, f_15, hkb5, f_16, hW, fr⟩) dX11_round_81
                    · refine hp_eqi (z := nI (lowV (fO n (laC z0 L kn5) 81 lv st5 le5 sh) (fZ n (laC z0 L kn5) 81 lv st5 le5 sh))) (if_neg h0) ?_
                      rw [if_neg h0] at hfo2
                      have hcm := (ch_more hL1 hL3 hlv h0).2
                      have hlw : lowV (fO n (laC z0 L kn5) 81 lv st5 le5 sh) (fZ n (laC z0 L kn5) 81 lv st5 le5 sh) < 256 := vaN_lt (n := 8) (fun j hj => Nat.mod_lt _ (by decide))
                      refine lv_istore (lv' := [(5, .int (nI (lowV (fO n (laC z0 L kn5) 81 lv st5 le5 sh) (fZ n (laC z0 L kn5) 81 lv st5 le5 sh)))), (0, .ref o), (1, .int (nI 1)), (2, .int (nI 1)), (3, .int (nI nn)), (4, .int (nI L))]) hx hb dX11_round_70 hl (by decide) rfl (fun ls hl => ?_)
                      refine lv_iload hx hb dX11_round_72 (lv_at hl 0 rfl) ?_
                      refine lv_if_ge (tgt := 82) hx hb dX11_round_74 (by decide) (fun c_74 => ?_) (fun c_74 => ?_)
                      · refine lv_iload hx hb dX11_round_82 (lv_at hl 0 rfl) ?_
                        refine lv_iconst (v := nI 4) hx hb dX11_round_84 (by decide) ?_
                        refine lv_icmp_ne (tgt := 92) hx hb dX11_round_85 (by decide) (fun c_85 => ?_) (fun c_85 => ?_)
                        · have c_85 : ¬ ((lowV (fO n (laC z0 L kn5) 81 lv st5 le5 sh) (fZ n (laC z0 L kn5) 81 lv st5 le5 sh)) = 4) := fun z => c_85 ((nI_eq (by omega) (by omega)).mpr z)
                          rw [if_neg (fun h9 => c_85 (hcm.mpr h9))] at hfo2
                          refine lv_iconst (v := nI 0) hx hb dX11_round_92 (by decide) ?_
                          refine lv_istore_n (lv' := [(2, .int (nI 0)), (5, .int (nI (lowV (fO n (laC z0 L kn5) 81 lv st5 le5 sh) (fZ n (laC z0 L kn5) 81 lv st5 le5 sh)))), (0, .ref o), (1, .int (nI 1)), (3, .int (nI nn)), (4, .int (nI L))]) hx hb dX11_round_93 rfl hl (by decide) rfl (fun ls hl => ?_)
                          refine lv_iload_n hx hb dX11_round_94 rfl (lv_at hl 0 rfl) ?_
                          refine lv_if_eq (tgt := 102) hx hb dX11_round_95 (by decide) (fun c_95 => ?_) (fun c_95 => ?_)
                          · have c_95 : 0 = 0 := nz_0 (by omega) c_95
                            refine lv_iconst (v := nI 0) hx hb dX11_round_102 (by decide) ?_
                            refine lv_istore (lv' := [(6, .int (nI 0)), (2, .int (nI 0)), (5, .int (nI (lowV (fO n (laC z0 L kn5) 81 lv st5 le5 sh) (fZ n (laC z0 L kn5) 81 lv st5 le5 sh)))), (0, .ref o), (1, .int (nI 1)), (3, .int (nI nn)), (4, .int (nI L))]) hx hb dX11_round_103 hl (by decide) rfl (fun ls hl => ?_)
                            have f_15 := f_15.trans (congrArg (fun g => some (hp_n X 400 g)) (show fb2 = kpN kn5 cnt1 0 (sz3 cnt1) fb2 0 from rfl))
                            have lp_105 : ∀ (kk105 : Nat) (k : Nat), (0 + k ≤ 4) → (4 - k) < kk105 → ∀ (μ1 : hp_M) (H : Heap) (locs : List Loc) (ls : Array Slot), (μ1 o = some (hp_o 7 [.int (nI n), .ref (o + 1), .ref (o + 2), .ref (o + 3), .ref (o + 4), .ref (o + 5), .ref (o + 6), .int (nB on), .int (nI tz), .ref (o + 7), .int (nI 81), .ref (o + 8), .ref (o + 9), .int (nI kd6), .int (nI kl6), .int (nI tc6), .ref (o + 10), .int (nI sd6), .ref (o + 11), .int (nI (fN n (laC z0 L kn5) 81 lv st5 le5 sh)), .ref (o + 12), .int (nI an), .ref (o + 13), .int (nI (fm5 + 1)), .int (nI cnt1), .ref (o + 14), .ref (o + 15), .int (nI kc5), .ref (o + 16)])) → (μ1 (o + 8) = some (hp_n X 160 sb6)) → (μ1 (o + 12) = some (hp_n X 64 H6)) → (μ1 (o + 14) = some (hp_n X 40 fz1)) → (μ1 (o + 15) = some (hp_n X 400 (kpN kn5 cnt1 0 (sz3 cnt1) fb2 k))) → (μ1 (o + 16) = some (hp_n X 40 kb5)) → (RW X μ1 o n lv (fS (laC z0 L kn5) 81 lv st5 le5 sh) (fL (laC z0 L kn5) 81 lv st5 le5 sh) sh) → hp_eqM [0, 4, 5, 8, 9, 10, 11, 12, 14, 15, 16] o μ1 μ → hp_w X cls μ1 nx H locs → lv_has ls 7 [(0, .ref o), (1, .int (nI 1)), (2, .int (nI 0)), (3, .int (nI (nn + k))), (4, .int (nI L)), (6, .int (nI (0 + k)))] → W p l e { frames := 7, cells := 0, slots := 0, locals := 280 } s m [.ref o].toArray below meth c H locs 0 0 (MQ below (hq_i X (po_i nx (nI cnt9) (fun z => ∃ (se8 kd8 kl8 tc8 sd8 hd8 kc8 : Nat) (sb8 H8 fz8 kb8 : Nat → Nat), z o = some (hp_o 7 [.int (nI n), .ref (o + 1), .ref (o + 2), .ref (o + 3), .ref (o + 4), .ref (o + 5), .ref (o + 6), .int (nB on), .int (nI tz), .ref (o + 7), .int (nI se8), .ref (o + 8), .ref (o + 9), .int (nI kd8), .int (nI kl8), .int (nI tc8), .ref (o + 10), .int (nI sd8), .ref (o + 11), .int (nI hd8), .ref (o + 12), .int (nI an), .ref (o + 13), .int (nI fm9), .int (nI cnt9), .ref (o + 14), .ref (o + 15), .int (nI kc8), .ref (o + 16)]) ∧ (∀ j, sb8 j < 2) ∧ z (o + 8) = some (hp_n X 160 sb8) ∧ z (o + 12) = some (hp_n X 64 H8) ∧ z (o + 14) = some (hp_n X 40 fz8) ∧ (∀ j, j < cnt9 → fz8 j = sz9 j) ∧ z (o + 15) = some (hp_n X 400 nb9) ∧ (∀ j, kb8 j < 2) ∧ z (o + 16) = some (hp_n X 40 kb8) ∧ RW X z o n lv st9 le9 sh ∧ hp_eqM [0, 4, 5, 8, 9, 10, 11, 12, 14, 15, 16] o z μ))) [.ref o].toArray s 0 0 (hp_A X)) (F0 m 105 ls []) := by
                              intro kk105
                              induction kk105 with
                              | zero =>
                                intro k hk hkk105
                                exact absurd hkk105 (Nat.not_lt_zero _)
                              | succ kk105 ih105 =>
                                intro k hk hkk105 μ1 H locs ls f_o f_8 f_12 f_14 f_15 f_16 hW fr hH hl
                                refine lv_iload hx hb dX11_round_105 (lv_at hl 5 rfl) ?_
                                refine lv_iconst (v := nI 4) hx hb dX11_round_107 (by decide) ?_
                                refine lv_icmp_ge (tgt := 140) hx hb dX11_round_108 (by decide) (fun c_108 => ?_) (fun c_108 => ?_)
                                · have c_108 : 4 ≤ (0 + k) := (nI_leI (by omega) (by omega)).mp c_108
                                  refine lv_iinc (v := nI (L + 1)) (lv' := [(4, .int (nI (L + 1))), (0, .ref o), (1, .int (nI 1)), (2, .int (nI 0)), (3, .int (nI (nn + k))), (6, .int (nI (0 + k)))]) hx hb dX11_round_140 hl (k := 4) rfl (nI_add _ 1) (by decide) rfl (fun ls hl => ?_)
                                  have ek : k = 4 := by omega
                                  subst ek
                                  refine lv_goto (tgt := 46) hx hb dX11_round_143 (by decide) ?_
                                  refine lv_iload_n hx hb dX11_round_46 rfl (lv_at hl 3 rfl) ?_
                                  refine lv_if_eq (tgt := 146) hx hb dX11_round_47 (by decide) (fun c_47 => ?_) (fun c_47 => ?_)
                                  · have c_47 : 0 = 0 := nz_0 (by omega) c_47
                                    refine lv_iload_n hx hb dX11_round_146 rfl (lv_at hl 2 rfl) ?_
                                    refine lv_if_ne (tgt := 155) hx hb dX11_round_147 (by decide) (fun c_147 => ?_) (fun c_147 => ?_)
                                    · have c_147 : ¬ (1 = 0) := nz_n (by omega) c_147
                                      refine lv_aload_n hx hb dX11_round_155 rfl (lv_at hl 1 rfl) ?_
                                      refine hp_get hx hb hown hS.2.1 hH (F_X11_54.use hS) f_o rfl dX11_round_156 ?_
                                      refine lv_aload_n hx hb dX11_round_159 rfl (lv_at hl 1 rfl) ?_
                                      refine hp_get hx hb hown hS.2.1 hH (F_X11_169.use hS) f_o rfl dX11_round_160 ?_
                                      refine lv_iload_n hx hb dX11_round_163 rfl (lv_at hl 4 rfl) ?_
                                      refine hp_iastN hx hb hS.ai hH f_14 (by omega) (by omega) dX11_round_164 (fun H locs μ1 fz fn hH => ?_)
                                      have hW := hW.put 14 fn (by decide)
                                      have f_o := (fn _ (by omega)).trans f_o
                                      have f_8 := (fn _ (by omega)).trans f_8
                                      have f_12 := (fn _ (by omega)).trans f_12
                                      have f_15 := (fn _ (by omega)).trans f_15
                                      have f_16 := (fn _ (by omega)).trans f_16
                                      have f_14 : μ1 (o + 14) = some (hp_n X 40 (setN fz1 cnt1 (nn + 4))) := fz
                                      have fr := hp_eqM.put (k := 14) fr (by decide) fn
                                      clear fz fn
                                      refine lv_aload_n hx hb dX11_round_165 rfl (lv_at hl 1 rfl) ?_
                                      refine lv_dup hx hb dX11_round_166 rfl ?_
                                      refine hp_get hx hb hown hS.2.1 hH (F_X11_169.use hS) f_o rfl dX11_round_167 ?_
                                      refine lv_iconst (v := nI 1) hx hb dX11_round_170 (by decide) ?_
                                      refine lv_iadd hx hb dX11_round_171 ?_
                                      refine hp_eqi (z := nI (cnt1 + 1)) (nI_add _ _) ?_
                                      refine hp_put hx hb hown hS.2.1 hH (P_X11_169.use hS) f_o rfl rfl (Nat.le_of_ble_eq_true rfl) dX11_round_172 (fun H locs μ1 fz fn hH => ?_)
                                      have hW := hW.put 0 fn (by decide)
                                      have f_8 := (fn _ (by omega)).trans f_8
                                      have f_12 := (fn _ (by omega)).trans f_12
                                      have f_14 := (fn _ (by omega)).trans f_14
                                      have f_15 := (fn _ (by omega)).trans f_15
                                      have f_16 := (fn _ (by omega)).trans f_16
                                      have f_o : μ1 o = some (hp_o 7 [.int (nI n), .ref (o + 1), .ref (o + 2), .ref (o + 3), .ref (o + 4), .ref (o + 5), .ref (o + 6), .int (nB on), .int (nI tz), .ref (o + 7), .int (nI 81), .ref (o + 8), .ref (o + 9), .int (nI kd6), .int (nI kl6), .int (nI tc6), .ref (o + 10), .int (nI sd6), .ref (o + 11), .int (nI (fN n (laC z0 L kn5) 81 lv st5 le5 sh)), .ref (o + 12), .int (nI an), .ref (o + 13), .int (nI (fm5 + 1)), .int (nI (cnt1 + 1)), .ref (o + 14), .ref (o + 15), .int (nI kc5), .ref (o + 16)]) := fz
                                      have fr := hp_eqM.put (k := 0) fr (by decide) fn
                                      clear fz fn
                                      refine lv_aload_n hx hb dX11_round_175 rfl (lv_at hl 1 rfl) ?_
                                      refine lv_iconst (v := nI 0) hx hb dX11_round_176 (by decide) ?_
                                      refine hp_put hx hb hown hS.2.1 hH (P_X11_104.use hS) f_o rfl rfl (Nat.le_of_ble_eq_true rfl) dX11_round_177 (fun H locs μ1 fz fn hH => ?_)
                                      have hW := hW.put 0 fn (by decide)
                                      have f_8 := (fn _ (by omega)).trans f_8
                                      have f_12 := (fn _ (by omega)).trans f_12
                                      have f_14 := (fn _ (by omega)).trans f_14
                                      have f_15 := (fn _ (by omega)).trans f_15
                                      have f_16 := (fn _ (by omega)).trans f_16
                                      have f_o : μ1 o = some (hp_o 7 [.int (nI n), .ref (o + 1), .ref (o + 2), .ref (o + 3), .ref (o + 4), .ref (o + 5), .ref (o + 6), .int (nB on), .int (nI tz), .ref (o + 7), .int (nI 0), .ref (o + 8), .ref (o + 9), .int (nI kd6), .int (nI kl6), .int (nI tc6), .ref (o + 10), .int (nI sd6), .ref (o + 11), .int (nI (fN n (laC z0 L kn5) 81 lv st5 le5 sh)), .ref (o + 12), .int (nI an), .ref (o + 13), .int (nI (fm5 + 1)), .int (nI (cnt1 + 1)), .ref (o + 14), .ref (o + 15), .int (nI kc5), .ref (o + 16)]) := fz
                                      have fr := hp_eqM.put (k := 0) fr (by decide) fn
                                      clear fz fn
                                      refine lv_aload_n hx hb dX11_round_180 rfl (lv_at hl 1 rfl) ?_
                                      refine lv_bipush (v := nI 80) hx hb dX11_round_181 (by decide) ?_
                                      refine hp_kvm (hp_runV (As := [.int (nI 80)]) (rest := []) hx hb hml hown hS hH (c_X11_put l X (v := 80) (by omega) (by omega) f_o f_8) M_X11_154 I_X11_put V_X11_put (ci := 7) rfl rfl f_o rfl hl.1 rfl (Nat.le_of_ble_eq_true rfl) dX11_round_183 ⟨Nat.le_of_ble_eq_true rfl, Nat.le_of_ble_eq_true rfl⟩ ⟨Nat.le_of_ble_eq_true rfl, Nat.le_of_ble_eq_true rfl⟩) hH (fun μ1 H locs hp hH => ?_)
                                      obtain ⟨fz0, fz1, fe⟩ := hp
                                      have hW := hW.keep fe (by decide)
                                      have f_12 := (fe.at 12 (by decide)).trans f_12
                                      have f_14 := (fe.at 14 (by decide)).trans f_14
                                      have f_15 := (fe.at 15 (by decide)).trans f_15
                                      have f_16 := (fe.at 16 (by decide)).trans f_16
                                      have f_o : μ1 o = some (hp_o 7 [.int (nI n), .ref (o + 1), .ref (o + 2), .ref (o + 3), .ref (o + 4), .ref (o + 5), .ref (o + 6), .int (nB on), .int (nI tz), .ref (o + 7), .int (nI 9), .ref (o + 8), .ref (o + 9), .int (nI kd6), .int (nI kl6), .int (nI tc6), .ref (o + 10), .int (nI sd6), .ref (o + 11), .int (nI (fN n (laC z0 L kn5) 81 lv st5 le5 sh)), .ref (o + 12), .int (nI an), .ref (o + 13), .int (nI (fm5 + 1)), .int (nI (cnt1 + 1)), .ref (o + 14), .ref (o + 15), .int (nI kc5), .ref (o + 16)]) := fz0
                                      have f_8 : μ1 (o + 8) = some (hp_n X 160 (apO sb6 0 80)) := fz1
                                      have fr := hp_eqM.tr fe fr (by decide)
                                      clear fe fz0 fz1
                                      refine lv_aload_n hx hb dX11_round_186 rfl (lv_at hl 1 rfl) ?_
                                      refine lv_iconst (v := nI 0) hx hb dX11_round_187 (by decide) ?_
                                      refine hp_kvm (hp_runV (As := [.int (nI 0)]) (rest := []) hx hb hml hown hS hH (c_X11_put l X (v := 0) (by omega) (by omega) f_o f_8) M_X11_154 I_X11_put V_X11_put (ci := 7) rfl rfl f_o rfl hl.1 rfl (Nat.le_of_ble_eq_true rfl) dX11_round_188 ⟨Nat.le_of_ble_eq_true rfl, Nat.le_of_ble_eq_true rfl⟩ ⟨Nat.le_of_ble_eq_true rfl, Nat.le_of_ble_eq_true rfl⟩) hH (fun μ1 H locs hp hH => ?_)
                                      obtain ⟨fz0, fz1, fe⟩ := hp
                                      have hW := hW.keep fe (by decide)
                                      have f_12 := (fe.at 12 (by decide)).trans f_12
                                      have f_14 := (fe.at 14 (by decide)).trans f_14
                                      have f_15 := (fe.at 15 (by decide)).trans f_15
                                      have f_16 := (fe.at 16 (by decide)).trans f_16
                                      have f_o : μ1 o = some (hp_o 7 [.int (nI n), .ref (o + 1), .ref (o + 2), .ref (o + 3), .ref (o + 4), .ref (o + 5), .ref (o + 6), .int (nB on), .int (nI tz), .ref (o + 7), .int (nI (9 * 2)), .ref (o + 8), .ref (o + 9), .int (nI kd6), .int (nI kl6), .int (nI tc6), .ref (o + 10), .int (nI sd6), .ref (o + 11), .int (nI (fN n (laC z0 L kn5) 81 lv st5 le5 sh)), .ref (o + 12), .int (nI an), .ref (o + 13), .int (nI (fm5 + 1)), .int (nI (cnt1 + 1)), .ref (o + 14), .ref (o + 15), .int (nI kc5), .ref (o + 16)]) := fz0
                                      have f_8 : μ1 (o + 8) = some (hp_n X 160 (apO (apO sb6 0 80) 9 0)) := fz1
                                      have fr := hp_eqM.tr fe fr (by decide)
                                      clear fe fz0 fz1
                                      refine lv_aload_n hx hb dX11_round_191 rfl (lv_at hl 1 rfl) ?_
                                      refine hp_kvm (hp_runV (As := []) (rest := []) hx hb hml hown hS hH (c_X11_putChecked l X (k := 2) (apO_01 (apO_01 hsb6 _ _) _ _) (by decide) (laH_beg hsb6) f_o f_8) M_X11_166 I_X11_putChecked V_X11_putChecked (ci := 7) rfl rfl f_o rfl hl.1 rfl (Nat.le_of_ble_eq_true rfl) dX11_round_192 ⟨Nat.le_of_ble_eq_true rfl, Nat.le_of_ble_eq_true rfl⟩ ⟨Nat.le_of_ble_eq_true rfl, Nat.le_of_ble_eq_true rfl⟩) hH (fun μ1 H locs hp hH => ?_)
                                      obtain ⟨fz0, fz1, fe⟩ := hp
                                      have hW := hW.keep fe (by decide)
                                      have f_12 := (fe.at 12 (by decide)).trans f_12
                                      have f_14 := (fe.at 14 (by decide)).trans f_14
                                      have f_15 := (fe.at 15 (by decide)).trans f_15
                                      have f_16 := (fe.at 16 (by decide)).trans f_16
                                      have f_o : μ1 o = some (hp_o 7 [.int (nI n), .ref (o + 1), .ref (o + 2), .ref (o + 3), .ref (o + 4), .ref (o + 5), .ref (o + 6), .int (nB on), .int (nI tz), .ref (o + 7), .int (nI 36), .ref (o + 8), .ref (o + 9), .int (nI kd6), .int (nI kl6), .int (nI tc6), .ref (o + 10), .int (nI sd6), .ref (o + 11), .int (nI (fN n (laC z0 L kn5) 81 lv st5 le5 sh)), .ref (o + 12), .int (nI an), .ref (o + 13), .int (nI (fm5 + 1)), .int (nI (cnt1 + 1)), .ref (o + 14), .ref (o + 15), .int (nI kc5), .ref (o + 16)]) := fz0
                                      have f_8 : μ1 (o + 8) = some (hp_n X 160 (laH sb6)) := fz1
                                      have fr := hp_eqM.tr fe fr (by decide)
                                      clear fe fz0 fz1
                                      refine lv_aload_n hx hb dX11_round_195 rfl (lv_at hl 1 rfl) ?_
                                      refine hp_kvm (hp_runV (As := []) (rest := []) hx hb hml hown hS hH (c_rsend l X (sb2 := laH z0) (laH_congr _ _) (laX_01 (apO_01 (apO_01 hsb6 _ _) _ _) _) (by omega) hn16 hlv (fS_lt _ _ _ _ hst5) (fun j hj => ⟨(fL_in _ _ _ _ hlv (fun j hj => ⟨(hle5 j hj).1, Nat.le_trans (hle5 j hj).2 (hlv j hj).2⟩) j hj).1, fL_le (hlv j hj).1 (hle5 j hj).2⟩) (fun h9 j hj => (f_out (hoff5 h9 j hj)).1) hW f_o f_8 f_12) M_X11_148 I_X11_send V_X11_send (ci := 7) rfl rfl f_o rfl hl.1 rfl (Nat.le_of_ble_eq_true rfl) dX11_round_196 ⟨Nat.le_of_ble_eq_true rfl, Nat.le_of_ble_eq_true rfl⟩ ⟨Nat.le_of_ble_eq_true rfl, Nat.le_of_ble_eq_true rfl⟩) hH (fun μ1 H locs hp hH => ?_)
                                      obtain ⟨kd9, kl9, tc9, sd9, H9, fz0, fz1, hW, hH9, fe⟩ := hp
                                      have f_8 := (fe.at 8 (by decide)).trans f_8
                                      have f_14 := (fe.at 14 (by decide)).trans f_14
                                      have f_15 := (fe.at 15 (by decide)).trans f_15
                                      have f_16 := (fe.at 16 (by decide)).trans f_16
                                      have f_o := fz0
                                      have f_12 := fz1
                                      have hfN := fN_le n (laH z0) 36 lv (fS (laC z0 L kn5) 81 lv st5 le5 sh) (fL (laC z0 L kn5) 81 lv st5 le5 sh) sh
                                      have fr := hp_eqM.tr fe fr (by decide)
                                      clear fe fz0 fz1
                                      cases hfo2
                                      rw [if_pos rfl] at hres1
                                      refine lv_goto (tgt := 7) hx hb dX11_round_199 (by decide) ?_
                                      exact ih7 (cnt1 + 1) (fS (laH z0) 36 lv (fS (laC z0 L kn5) 81 lv st5 le5 sh) (fL (laC z0 L kn5) 81 lv st5 le5 sh) sh) (fL (laH z0) 36 lv (fS (laC z0 L kn5) 81 lv st5 le5 sh) (fL (laC z0 L kn5) 81 lv st5 le5 sh) sh) (fm5 + 1 + 1) (kpN kn5 cnt1 0 (sz3 cnt1) fb2 4) (setN sz3 cnt1 (sz3 cnt1 + 4)) 36 kd9 kl9 tc9 sd9 (fN n (laH z0) 36 lv (fS (laC z0 L kn5) 81 lv st5 le5 sh) (fL (laC z0 L kn5) 81 lv st5 le5 sh) sh) kc5 (laH sb6) H9 (setN fz1 cnt1 (nn + 4)) kb5 (by omega) hkb5 (laX_01 (apO_01 (apO_01 hsb6 _ _) _ _) _) (fS_lt _ _ _ _ (fS_lt _ _ _ _ hst5)) (fun j hj => ⟨(fL_in _ _ _ _ hlv (fL_in _ _ _ _ hlv (fun j hj => ⟨(hle5 j hj).1, Nat.le_trans (hle5 j hj).2 (hlv j hj).2⟩)) j hj).1, fL_le (hlv j hj).1 (fL_le (hlv j hj).1 (hle5 j hj).2)⟩) (fun h9 j hj => (f_out (f_out (hoff5 h9 j hj)).1).1) (fun j hj => (Decidable.em (j = cnt1)).elim (fun e9 => by rw [e9, setN_s, setN_s, hnn]) (fun e9 => by rw [setN_o e9, setN_o e9]; exact hfz2 j (by omega))) (by rw [show 40 - (cnt1 + 1) = f9 by omega]; exact hres1) (by omega) _ _ _ _ f_o f_8 f_12 f_14 f_15 f_16 hW fr hH (lv_sub hl [1, 2] rfl)
                                    · exact absurd c_147 (by decide)
                                  · exact absurd c_47 (by decide)
                                · have c_108 : ¬ (4 ≤ (0 + k)) := fun z => c_108 ((nI_leI (by omega) (by omega)).mpr z)
                                  refine lv_aload_n hx hb dX11_round_111 rfl (lv_at hl 0 rfl) ?_
                                  refine hp_get hx hb hown hS.2.1 hH (F_X11_57.use hS) f_o rfl dX11_round_112 ?_
                                  refine lv_bipush (v := nI 10) hx hb dX11_round_115 (by decide) ?_
                                  refine lv_aload_n hx hb dX11_round_117 rfl (lv_at hl 0 rfl) ?_
                                  refine hp_get hx hb hown hS.2.1 hH (F_X11_169.use hS) f_o rfl dX11_round_118 ?_
                                  refine lv_imul hx hb dX11_round_121 ?_
                                  refine hp_eqi (z := nI (10 * cnt1)) (pk_mul _ _) ?_
                                  refine lv_iload_n hx hb dX11_round_122 rfl (lv_at hl 3 rfl) ?_
                                  refine lv_iadd hx hb dX11_round_123 ?_
                                  refine hp_eqi (z := nI ((10 * cnt1) + (nn + k))) (nI_add _ _) ?_
                                  refine lv_aload_n hx hb dX11_round_124 rfl (lv_at hl 0 rfl) ?_
                                  refine lv_iload hx hb dX11_round_125 (lv_at hl 5 rfl) ?_
                                  have hb9 : vaN kb5 (8 * (0 + k)) 8 = kn5 / 2 ^ (8 * (0 + k)) % 256 := vaN_of (n := 8) (fun j hj => by rw [hkbb _ (by omega), bt_div])
                                  refine hp_kip (hp_runV (As := [.int (nI (0 + k))]) (rest := [.int (nI ((10 * cnt1) + (nn + k))), .ref (o + 15)]) hx hb hml hown hS hH (c_X11_knownByte l X (i := 0 + k) hkb5 (by omega) f_o f_16) M_X11_160 I_X11_knownByte V_X11_knownByte (ci := 7) rfl rfl f_o rfl hl.1 rfl (Nat.le_of_ble_eq_true rfl) dX11_round_127 ⟨Nat.le_of_ble_eq_true rfl, Nat.le_of_ble_eq_true rfl⟩ ⟨Nat.le_of_ble_eq_true rfl, Nat.le_of_ble_eq_true rfl⟩) hH (fun H locs hH => ?_)
                                  refine hp_eqi (z := nI (kn5 / 2 ^ (8 * (0 + k)) % 256)) (congrArg nI hb9) ?_
                                  refine hp_iastN hx hb hS.ai hH f_15 (by omega) (by omega) dX11_round_130 (fun H locs μ1 fz fn hH => ?_)
                                  have hW := hW.put 15 fn (by decide)
                                  have f_o := (fn _ (by omega)).trans f_o
                                  have f_8 := (fn _ (by omega)).trans f_8
                                  have f_12 := (fn _ (by omega)).trans f_12
                                  have f_14 := (fn _ (by omega)).trans f_14
                                  have f_16 := (fn _ (by omega)).trans f_16
                                  have f_15 : μ1 (o + 15) = some (hp_n X 400 (setN (kpN kn5 cnt1 0 (sz3 cnt1) fb2 k) ((10 * cnt1) + (nn + k)) (kn5 / 2 ^ (8 * (0 + k)) % 256))) := fz
                                  have fr := hp_eqM.put (k := 15) fr (by decide) fn
                                  clear fz fn
                                  refine lv_iinc (v := nI (nn + k + 1)) (lv' := [(3, .int (nI (nn + k + 1))), (0, .ref o), (1, .int (nI 1)), (2, .int (nI 0)), (4, .int (nI L)), (6, .int (nI (0 + k)))]) hx hb dX11_round_131 hl (k := 3) rfl (nI_add _ 1) (by decide) rfl (fun ls hl => ?_)
                                  refine lv_iinc (v := nI (0 + k + 1)) (lv' := [(6, .int (nI (0 + k + 1))), (3, .int (nI (nn + k + 1))), (0, .ref o), (1, .int (nI 1)), (2, .int (nI 0)), (4, .int (nI L))]) hx hb dX11_round_134 hl (k := 5) rfl (nI_add _ 1) (by decide) rfl (fun ls hl => ?_)
                                  refine lv_goto (tgt := 105) hx hb dX11_round_137 (by decide) ?_
                                  have f_15 := f_15.trans (congrArg (fun g => some (hp_n X 400 g)) (show setN (kpN kn5 cnt1 0 (sz3 cnt1) fb2 k) ((10 * cnt1) + (nn + k)) (kn5 / 2 ^ (8 * (0 + k)) % 256) = kpN kn5 cnt1 0 (sz3 cnt1) fb2 (k + 1) from by rw [← hnn]; rfl))
                                  exact ih105 (k + 1) (by omega) (by omega) _ _ _ _ f_o f_8 f_12 f_14 f_15 f_16 hW fr hH (lv_sub hl [2, 3, 4, 1, 5, 0] rfl)
                            exact lp_105 ((4 - 0) + 1) 0 (by decide) (Nat.lt_succ_self _) _ _ _ _ f_o f_8 f_12 f_14 f_15 f_16 hW fr hH (lv_sub hl [3, 4, 1, 5, 6, 0] rfl)
                          · exact absurd c_95 (by decide)
                        · have c_85 : (lowV (fO n (laC z0 L kn5) 81 lv st5 le5 sh) (fZ n (laC z0 L kn5) 81 lv st5 le5 sh)) = 4 := (nI_eq (by omega) (by omega)).mp c_85
                          rw [if_pos (hcm.mp c_85)] at hfo2
                          have hL2 := ch_lt3 hL1 hL3 hlv (hcm.mp c_85).1
                          refine lv_iconst (v := nI 1) hx hb dX11_round_88 (by decide) ?_
                          refine lv_goto (tgt := 93) hx hb dX11_round_89 (by decide) ?_
                          refine lv_istore_n (lv' := [(2, .int (nI 1)), (5, .int (nI (lowV (fO n (laC z0 L kn5) 81 lv st5 le5 sh) (fZ n (laC z0 L kn5) 81 lv st5 le5 sh)))), (0, .ref o), (1, .int (nI 1)), (3, .int (nI nn)), (4, .int (nI L))]) hx hb dX11_round_93 rfl hl (by decide) rfl (fun ls hl => ?_)
                          refine lv_iload_n hx hb dX11_round_94 rfl (lv_at hl 0 rfl) ?_
                          refine lv_if_eq (tgt := 102) hx hb dX11_round_95 (by decide) (fun c_95 => ?_) (fun c_95 => ?_)
                          · exact absurd c_95 (by decide)
                          · have c_95 : ¬ (1 = 0) := nz_n (by omega) c_95
                            refine lv_iconst (v := nI 1) hx hb dX11_round_98 (by decide) ?_
                            refine lv_goto (tgt := 103) hx hb dX11_round_99 (by decide) ?_
                            refine lv_istore (lv' := [(6, .int (nI 1)), (2, .int (nI 1)), (5, .int (nI (lowV (fO n (laC z0 L kn5) 81 lv st5 le5 sh) (fZ n (laC z0 L kn5) 81 lv st5 le5 sh)))), (0, .ref o), (1, .int (nI 1)), (3, .int (nI nn)), (4, .int (nI L))]) hx hb dX11_round_103 hl (by decide) rfl (fun ls hl => ?_)
                            have f_15 := f_15.trans (congrArg (fun g => some (hp_n X 400 g)) (show fb2 = kpN kn5 cnt1 1 (sz3 cnt1) fb2 0 from rfl))
                            have lp_105 : ∀ (kk105 : Nat) (k : Nat), (1 + k ≤ 4) → (4 - k) < kk105 → ∀ (μ1 : hp_M) (H : Heap) (locs : List Loc) (ls : Array Slot), (μ1 o = some (hp_o 7 [.int (nI n), .ref (o + 1), .ref (o + 2), .ref (o + 3), .ref (o + 4), .ref (o + 5), .ref (o + 6), .int (nB on), .int (nI tz), .ref (o + 7), .int (nI 81), .ref (o + 8), .ref (o + 9), .int (nI kd6), .int (nI kl6), .int (nI tc6), .ref (o + 10), .int (nI sd6), .ref (o + 11), .int (nI (fN n (laC z0 L kn5) 81 lv st5 le5 sh)), .ref (o + 12), .int (nI an), .ref (o + 13), .int (nI (fm5 + 1)), .int (nI cnt1), .ref (o + 14), .ref (o + 15), .int (nI kc5), .ref (o + 16)])) → (μ1 (o + 8) = some (hp_n X 160 sb6)) → (μ1 (o + 12) = some (hp_n X 64 H6)) → (μ1 (o + 14) = some (hp_n X 40 fz1)) → (μ1 (o + 15) = some (hp_n X 400 (kpN kn5 cnt1 1 (sz3 cnt1) fb2 k))) → (μ1 (o + 16) = some (hp_n X 40 kb5)) → (RW X μ1 o n lv (fS (laC z0 L kn5) 81 lv st5 le5 sh) (fL (laC z0 L kn5) 81 lv st5 le5 sh) sh) → hp_eqM [0, 4, 5, 8, 9, 10, 11, 12, 14, 15, 16] o μ1 μ → hp_w X cls μ1 nx H locs → lv_has ls 7 [(0, .ref o), (1, .int (nI 1)), (2, .int (nI 1)), (3, .int (nI (nn + k))), (4, .int (nI L)), (6, .int (nI (1 + k)))] → W p l e { frames := 7, cells := 0, slots := 0, locals := 280 } s m [.ref o].toArray below meth c H locs 0 0 (MQ below (hq_i X (po_i nx (nI cnt9) (fun z => ∃ (se8 kd8 kl8 tc8 sd8 hd8 kc8 : Nat) (sb8 H8 fz8 kb8 : Nat → Nat), z o = some (hp_o 7 [.int (nI n), .ref (o + 1), .ref (o + 2), .ref (o + 3), .ref (o + 4), .ref (o + 5), .ref (o + 6), .int (nB on), .int (nI tz), .ref (o + 7), .int (nI se8), .ref (o + 8), .ref (o + 9), .int (nI kd8), .int (nI kl8), .int (nI tc8), .ref (o + 10), .int (nI sd8), .ref (o + 11), .int (nI hd8), .ref (o + 12), .int (nI an), .ref (o + 13), .int (nI fm9), .int (nI cnt9), .ref (o + 14), .ref (o + 15), .int (nI kc8), .ref (o + 16)]) ∧ (∀ j, sb8 j < 2) ∧ z (o + 8) = some (hp_n X 160 sb8) ∧ z (o + 12) = some (hp_n X 64 H8) ∧ z (o + 14) = some (hp_n X 40 fz8) ∧ (∀ j, j < cnt9 → fz8 j = sz9 j) ∧ z (o + 15) = some (hp_n X 400 nb9) ∧ (∀ j, kb8 j < 2) ∧ z (o + 16) = some (hp_n X 40 kb8) ∧ RW X z o n lv st9 le9 sh ∧ hp_eqM [0, 4, 5, 8, 9, 10, 11, 12, 14, 15, 16] o z μ))) [.ref o].toArray s 0 0 (hp_A X)) (F0 m 105 ls []) := by
                              intro kk105
                              induction kk105 with
                              | zero =>
                                intro k hk hkk105
                                exact absurd hkk105 (Nat.not_lt_zero _)
                              | succ kk105 ih105 =>
                                intro k hk hkk105 μ1 H locs ls f_o f_8 f_12 f_14 f_15 f_16 hW fr hH hl
                                refine lv_iload hx hb dX11_round_105 (lv_at hl 5 rfl) ?_
                                refine lv_iconst (v := nI 4) hx hb dX11_round_107 (by decide) ?_
                                refine lv_icmp_ge (tgt := 140) hx hb dX11_round_108 (by decide) (fun c_108 => ?_) (fun c_108 => ?_)
                                · have c_108 : 4 ≤ (1 + k) := (nI_leI (by omega) (by omega)).mp c_108
                                  refine lv_iinc (v := nI (L + 1)) (lv' := [(4, .int (nI (L + 1))), (0, .ref o), (1, .int (nI 1)), (2, .int (nI 1)), (3, .int (nI (nn + k))), (6, .int (nI (1 + k)))]) hx hb dX11_round_140 hl (k := 4) rfl (nI_add _ 1) (by decide) rfl (fun ls hl => ?_)
                                  have ek : k = 3 := by omega
                                  subst ek
                                  refine lv_goto (tgt := 46) hx hb dX11_round_143 (by decide) ?_
                                  exact ih46 (L + 1) (fS (laC z0 L kn5) 81 lv st5 le5 sh) (fL (laC z0 L kn5) 81 lv st5 le5 sh) (fm5 + 1) (kpN kn5 cnt1 1 (sz3 cnt1) fb2 3) (setN sz3 cnt1 (sz3 cnt1 + 3)) (nn + 3) 81 kd6 kl6 tc6 sd6 (fN n (laC z0 L kn5) 81 lv st5 le5 sh) kc5 sb6 H6 kb5 (by omega) (by omega) (by rw [setN_s, hnn]) (by omega) hkb5 hsb6 (fS_lt _ _ _ _ hst5) (fun j hj => ⟨(fL_in _ _ _ _ hlv (fun j hj => ⟨(hle5 j hj).1, Nat.le_trans (hle5 j hj).2 (hlv j hj).2⟩) j hj).1, fL_le (hlv j hj).1 (hle5 j hj).2⟩) (fun h9 j hj => (f_out (hoff5 h9 j hj)).1) (fun j hj => by rw [setN_o (by omega)]; exact hfz2 j hj) (by rw [show 4 - (L + 1) = f8 by omega]; exact hfo2) (by omega) _ _ _ _ f_o f_8 f_12 f_14 f_15 f_16 hW fr hH (lv_sub hl [1, 2, 3, 4, 0] rfl)
                                · have c_108 : ¬ (4 ≤ (1 + k)) := fun z => c_108 ((nI_leI (by omega) (by omega)).mpr z)
                                  refine lv_aload_n hx hb dX11_round_111 rfl (lv_at hl 0 rfl) ?_
                                  refine hp_get hx hb hown hS.2.1 hH (F_X11_57.use hS) f_o rfl dX11_round_112 ?_
                                  refine lv_bipush (v := nI 10) hx hb dX11_round_115 (by decide) ?_
                                  refine lv_aload_n hx hb dX11_round_117 rfl (lv_at hl 0 rfl) ?_
                                  refine hp_get hx hb hown hS.2.1 hH (F_X11_169.use hS) f_o rfl dX11_round_118 ?_
                                  refine lv_imul hx hb dX11_round_121 ?_
                                  refine hp_eqi (z := nI (10 * cnt1)) (pk_mul _ _) ?_
                                  refine lv_iload_n hx hb dX11_round_122 rfl (lv_at hl 3 rfl) ?_
                                  refine lv_iadd hx hb dX11_round_123 ?_
                                  refine hp_eqi (z := nI ((10 * cnt1) + (nn + k))) (nI_add _ _) ?_
                                  refine lv_aload_n hx hb dX11_round_124 rfl (lv_at hl 0 rfl) ?_
                                  refine lv_iload hx hb dX11_round_125 (lv_at hl 5 rfl) ?_
                                  have hb9 : vaN kb5 (8 * (1 + k)) 8 = kn5 / 2 ^ (8 * (1 + k)) % 256 := vaN_of (n := 8) (fun j hj => by rw [hkbb _ (by omega), bt_div])
                                  refine hp_kip (hp_runV (As := [.int (nI (1 + k))]) (rest := [.int (nI ((10 * cnt1) + (nn + k))), .ref (o + 15)]) hx hb hml hown hS hH (c_X11_knownByte l X (i := 1 + k) hkb5 (by omega) f_o f_16) M_X11_160 I_X11_knownByte V_X11_knownByte (ci := 7) rfl rfl f_o rfl hl.1 rfl (Nat.le_of_ble_eq_true rfl) dX11_round_127 ⟨Nat.le_of_ble_eq_true rfl, Nat.le_of_ble_eq_true rfl⟩ ⟨Nat.le_of_ble_eq_true rfl, Nat.le_of_ble_eq_true rfl⟩) hH (fun H locs hH => ?_)
                                  refine hp_eqi (z := nI (kn5 / 2 ^ (8 * (1 + k)) % 256)) (congrArg nI hb9) ?_
                                  refine hp_iastN hx hb hS.ai hH f_15 (by omega) (by omega) dX11_round_130 (fun H locs μ1 fz fn hH => ?_)
                                  have hW := hW.put 15 fn (by decide)
                                  have f_o := (fn _ (by omega)).trans f_o
                                  have f_8 := (fn _ (by omega)).trans f_8
                                  have f_12 := (fn _ (by omega)).trans f_12
                                  have f_14 := (fn _ (by omega)).trans f_14
                                  have f_16 := (fn _ (by omega)).trans f_16
                                  have f_15 : μ1 (o + 15) = some (hp_n X 400 (setN (kpN kn5 cnt1 1 (sz3 cnt1) fb2 k) ((10 * cnt1) + (nn + k)) (kn5 / 2 ^ (8 * (1 + k)) % 256))) := fz
                                  have fr := hp_eqM.put (k := 15) fr (by decide) fn
                                  clear fz fn
                                  refine lv_iinc (v := nI (nn + k + 1)) (lv' := [(3, .int (nI (nn + k + 1))), (0, .ref o), (1, .int (nI 1)), (2, .int (nI 1)), (4, .int (nI L)), (6, .int (nI (1 + k)))]) hx hb dX11_round_131 hl (k := 3) rfl (nI_add _ 1) (by decide) rfl (fun ls hl => ?_)
                                  refine lv_iinc (v := nI (1 + k + 1)) (lv' := [(6, .int (nI (1 + k + 1))), (3, .int (nI (nn + k + 1))), (0, .ref o), (1, .int (nI 1)), (2, .int (nI 1)), (4, .int (nI L))]) hx hb dX11_round_134 hl (k := 5) rfl (nI_add _ 1) (by decide) rfl (fun ls hl => ?_)
                                  refine lv_goto (tgt := 105) hx hb dX11_round_137 (by decide) ?_
                                  have f_15 := f_15.trans (congrArg (fun g => some (hp_n X 400 g)) (show setN (kpN kn5 cnt1 1 (sz3 cnt1) fb2 k) ((10 * cnt1) + (nn + k)) (kn5 / 2 ^ (8 * (1 + k)) % 256) = kpN kn5 cnt1 1 (sz3 cnt1) fb2 (k + 1) from by rw [← hnn]; rfl))
                                  exact ih105 (k + 1) (by omega) (by omega) _ _ _ _ f_o f_8 f_12 f_14 f_15 f_16 hW fr hH (lv_sub hl [2, 3, 4, 1, 5, 0] rfl)
                            exact lp_105 ((4 - 0) + 1) 0 (by decide) (Nat.lt_succ_self _) _ _ _ _ f_o f_8 f_12 f_14 f_15 f_16 hW fr hH (lv_sub hl [3, 4, 1, 5, 6, 0] rfl)
                      · exact absurd (nI_pos' (by omega)) c_74
                  · have c_56 : ok5 = false := nB_0 c_56
                    refine lv_aload_n hx hb dX11_round_59 rfl (lv_at hl 0 rfl) ?_
                    refine hp_get hx hb hown hS.2.1 hH (F_X11_169.use hS) f_o rfl dX11_round_60 ?_
                    rw [if_neg (by rw [c_56]; decide)] at hfo2
                    cases hfo2
                    rw [if_neg (by decide)] at hres1
                    cases hres1
                    exact hp_ri hx hb hr hlocks hS hH (⟨rfl, rfl, _, _, _, _, _, _, _, _, _, _, _, f_o, hsb5, f_8, f_12, f_14, hfz2, f_15, hkb5, f_16, hW, fr⟩) dX11_round_63
            exact lp_46 ((4 - 1) + 1) 1 (fS (rqB z0) 7 lv st1 le1 sh) (fL (rqB z0) 7 lv st1 le1 sh) (fm1 + 1) fb1 (setN sz2 cnt1 0) 0 7 kd7 kl7 tc7 sd7 (fN n (rqB z0) 7 lv st1 le1 sh) kc1 sb7 H7 kb1 (by decide) (by decide) (setN_s _ _ _) (by decide) hkb1 hsb7 (fS_lt _ _ _ _ hst1) (fun j hj => ⟨(fL_in _ _ _ _ hlv (fun j hj => ⟨(hle1 j hj).1, Nat.le_trans (hle1 j hj).2 (hlv j hj).2⟩) j hj).1, fL_le (hlv j hj).1 (hle1 j hj).2⟩) (fun h9 j hj => (f_out (hoff1 h9 j hj)).1) (fun j hj => by rw [setN_o (by omega)]; exact hfz j hj) hfo (Nat.lt_succ_self _) _ _ _ _ f_o f_8 f_12 f_14 f_15 f_16 hW fr hH (lv_sub hl [4, 3, 2, 1, 0] rfl)
  exact lp_7 ((40 - 0) + 1) 0 st le fm fb sz1 se kd kl tc sd hd kc sb hbb fz kb (by decide) hkb1 h01 hst hle hoff (fun j hj => absurd hj (Nat.not_lt_zero _)) hres (Nat.lt_succ_self _) _ _ _ _ f_o f_8 f_12 f_14 f_15 f_16 hW fr hH (lv_sub hl [1, 0] rfl)
