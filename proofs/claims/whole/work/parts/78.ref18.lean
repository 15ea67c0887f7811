set_option maxHeartbeats 4000000 in
set_option maxRecDepth 100000 in
theorem c_X11_knows (l : Launch) (X : hp_X) {μ : hp_M} {nx : Nat} {o n tz se kd kl tc sd hd an fm fo kc : Nat} {on : Bool} {sb hbb lv st le : Nat → Nat} {sh : Nat → Nat → Nat} {kb : Nat → Nat} {L : Nat} {ok : Bool} {st9 le9 : Nat → Nat} {fm9 kn9 kc9 : Nat} (hkb1 : ∀ j, kb j < 2) (hL1 : 1 ≤ L) (hL3 : L ≤ 3) (h01 : ∀ j, sb j < 2) (hn16 : n ≤ 16) (hlv : ∀ j, j < n → 1 ≤ lv j ∧ lv j ≤ 3) (hst : ∀ j, j < n → st j < 8) (hle : ∀ j, j < n → 1 ≤ le j ∧ le j ≤ lv j) (hoff : on = false → ∀ j, j < n → st j = 0) (hW : RW X μ o n lv st le sh) (hres : seN n lv sh L 40 st le fm 0 0 = (ok, st9, le9, fm9, kn9, kc9)) (f_o : μ o = some (hp_o 7 [.int (nI n), .ref (o + 1), .ref (o + 2), .ref (o + 3), .ref (o + 4), .ref (o + 5), .ref (o + 6), .int (nB on), .int (nI tz), .ref (o + 7), .int (nI se), .ref (o + 8), .ref (o + 9), .int (nI kd), .int (nI kl), .int (nI tc), .ref (o + 10), .int (nI sd), .ref (o + 11), .int (nI hd), .ref (o + 12), .int (nI an), .ref (o + 13), .int (nI fm), .int (nI fo), .ref (o + 14), .ref (o + 15), .int (nI kc), .ref (o + 16)])) (f_8 : μ (o + 8) = some (hp_n X 160 sb)) (f_12 : μ (o + 12) = some (hp_n X 64 hbb)) (f_16 : μ (o + 16) = some (hp_n X 40 kb)) : Ct l X yX11_knows cX11_knows 4 (some FieldType.boolean) 6 240 0 0 [.ref o, .int (nI L)] μ nx (hq_i X (po_i nx (nB ok) (fun z => ∃ (se8 kd8 kl8 tc8 sd8 hd8 : Nat) (sb8 H8 kb8 : Nat → Nat), z o = some (hp_o 7 [.int (nI n), .ref (o + 1), .ref (o + 2), .ref (o + 3), .ref (o + 4), .ref (o + 5), .ref (o + 6), .int (nB on), .int (nI tz), .ref (o + 7), .int (nI se8), .ref (o + 8), .ref (o + 9), .int (nI kd8), .int (nI kl8), .int (nI tc8), .ref (o + 10), .int (nI sd8), .ref (o + 11), .int (nI hd8), .ref (o + 12), .int (nI an), .ref (o + 13), .int (nI fm9), .int (nI fo), .ref (o + 14), .ref (o + 15), .int (nI kc9), .ref (o + 16)]) ∧ (∀ j, sb8 j < 2) ∧ z (o + 8) = some (hp_n X 160 sb8) ∧ z (o + 12) = some (hp_n X 64 H8) ∧ z (o + 16) = some (hp_n X 40 kb8) ∧ (∀ j, kb8 j < 2) ∧ (∀ j, j < kc9 → kb8 j = kn9 / 2 ^ j % 2) ∧ RW X z o n lv st9 le9 sh ∧ hp_eqM [0, 4, 5, 8, 9, 10, 11, 12, 16] o z μ))) := by
  refine hp_met (by decide) (Nat.le_of_ble_eq_true rfl) ?_
  intro p e s m below meth c ls hx hb hml hr hlocks hown hin hS hH hl
  have hl : lv_has ls 4 [(0, .ref o), (1, .int (nI L))] := hl
  have fr : hp_eqM [0, 4, 5, 8, 9, 10, 11, 12, 16] o μ μ := fun _ _ => rfl
  refine lv_aload_n hx hb dX11_knows_0 rfl (lv_at hl 0 rfl) ?_
  refine lv_iconst (v := nI 0) hx hb dX11_knows_1 (by decide) ?_
  refine hp_put hx hb hown hS.2.1 hH (P_X11_157.use hS) f_o rfl rfl (Nat.le_of_ble_eq_true rfl) dX11_knows_2 (fun H locs μ1 fz fn hH => ?_)
  have hW := hW.put 0 fn (by decide)
  have f_8 := (fn _ (by omega)).trans f_8
  have f_12 := (fn _ (by omega)).trans f_12
  have f_16 := (fn _ (by omega)).trans f_16
  have f_o : μ1 o = some (hp_o 7 [.int (nI n), .ref (o + 1), .ref (o + 2), .ref (o + 3), .ref (o + 4), .ref (o + 5), .ref (o + 6), .int (nB on), .int (nI tz), .ref (o + 7), .int (nI se), .ref (o + 8), .ref (o + 9), .int (nI kd), .int (nI kl), .int (nI tc), .ref (o + 10), .int (nI sd), .ref (o + 11), .int (nI hd), .ref (o + 12), .int (nI an), .ref (o + 13), .int (nI fm), .int (nI fo), .ref (o + 14), .ref (o + 15), .int (nI 0), .ref (o + 16)]) := fz
  have fr := hp_eqM.put (k := 0) fr (by decide) fn
  clear fz fn
  have lp_5 : ∀ (kk5 : Nat) (f0 : Nat) (st1 : Nat → Nat) (le1 : Nat → Nat) (fm1 : Nat) (kn1 : Nat) (kc1 : Nat) (se1 : Nat) (kd1 : Nat) (kl1 : Nat) (tc1 : Nat) (sd1 : Nat) (hd1 : Nat) (sb1 : Nat → Nat) (H1 : Nat → Nat) (kb1 : Nat → Nat), (40 - kc1 ≤ f0) → (kc1 ≤ 40) → (kn1 < 2 ^ kc1) → (∀ j, j < kc1 → kb1 j = kn1 / 2 ^ j % 2) → (∀ j, kb1 j < 2) → (∀ j, sb1 j < 2) → (∀ j, j < n → st1 j < 8) → (∀ j, j < n → 1 ≤ le1 j ∧ le1 j ≤ lv j) → (on = false → ∀ j, j < n → st1 j = 0) → (seN n lv sh L f0 st1 le1 fm1 kn1 kc1 = (ok, st9, le9, fm9, kn9, kc9)) → (40 - kc1) < kk5 → ∀ (μ1 : hp_M) (H : Heap) (locs : List Loc) (ls : Array Slot), (μ1 o = some (hp_o 7 [.int (nI n), .ref (o + 1), .ref (o + 2), .ref (o + 3), .ref (o + 4), .ref (o + 5), .ref (o + 6), .int (nB on), .int (nI tz), .ref (o + 7), .int (nI se1), .ref (o + 8), .ref (o + 9), .int (nI kd1), .int (nI kl1), .int (nI tc1), .ref (o + 10), .int (nI sd1), .ref (o + 11), .int (nI hd1), .ref (o + 12), .int (nI an), .ref (o + 13), .int (nI fm1), .int (nI fo), .ref (o + 14), .ref (o + 15), .int (nI kc1), .ref (o + 16)])) → (μ1 (o + 8) = some (hp_n X 160 sb1)) → (μ1 (o + 12) = some (hp_n X 64 H1)) → (μ1 (o + 16) = some (hp_n X 40 kb1)) → (RW X μ1 o n lv st1 le1 sh) → hp_eqM [0, 4, 5, 8, 9, 10, 11, 12, 16] o μ1 μ → hp_w X cls μ1 nx H locs → lv_has ls 4 [(0, .ref o), (1, .int (nI L))] → W p l e { frames := 6, cells := 0, slots := 0, locals := 240 } s m [.ref o, .int (nI L)].toArray below meth c H locs 0 0 (MQ below (hq_i X (po_i nx (nB ok) (fun z => ∃ (se8 kd8 kl8 tc8 sd8 hd8 : Nat) (sb8 H8 kb8 : Nat → Nat), z o = some (hp_o 7 [.int (nI n), .ref (o + 1), .ref (o + 2), .ref (o + 3), .ref (o + 4), .ref (o + 5), .ref (o + 6), .int (nB on), .int (nI tz), .ref (o + 7), .int (nI se8), .ref (o + 8), .ref (o + 9), .int (nI kd8), .int (nI kl8), .int (nI tc8), .ref (o + 10), .int (nI sd8), .ref (o + 11), .int (nI hd8), .ref (o + 12), .int (nI an), .ref (o + 13), .int (nI fm9), .int (nI fo), .ref (o + 14), .ref (o + 15), .int (nI kc9), .ref (o + 16)]) ∧ (∀ j, sb8 j < 2) ∧ z (o + 8) = some (hp_n X 160 sb8) ∧ z (o + 12) = some (hp_n X 64 H8) ∧ z (o + 16) = some (hp_n X 40 kb8) ∧ (∀ j, kb8 j < 2) ∧ (∀ j, j < kc9 → kb8 j = kn9 / 2 ^ j % 2) ∧ RW X z o n lv st9 le9 sh ∧ hp_eqM [0, 4, 5, 8, 9, 10, 11, 12, 16] o z μ))) [.ref o, .int (nI L)].toArray s 0 0 (hp_A X)) (F0 m 5 ls []) := by
    intro kk5
    induction kk5 with
    | zero =>
      intro f0 st1 le1 fm1 kn1 kc1 se1 kd1 kl1 tc1 sd1 hd1 sb1 H1 kb1 hf0 hkc1 hkn1 hkb hkb1 h011 hst1 hle1 hoff1 hres1 hkk5
      exact absurd hkk5 (Nat.not_lt_zero _)
    | succ kk5 ih5 =>
      intro f0 st1 le1 fm1 kn1 kc1 se1 kd1 kl1 tc1 sd1 hd1 sb1 H1 kb1 hf0 hkc1 hkn1 hkb hkb1 h011 hst1 hle1 hoff1 hres1 hkk5 μ1 H locs ls f_o f_8 f_12 f_16 hW fr hH hl
      refine lv_aload_n hx hb dX11_knows_5 rfl (lv_at hl 0 rfl) ?_
      refine hp_get hx hb hown hS.2.1 hH (F_X11_157.use hS) f_o rfl dX11_knows_6 ?_
      refine lv_bipush (v := nI 40) hx hb dX11_knows_9 (by decide) ?_
      refine lv_icmp_ge (tgt := 116) hx hb dX11_knows_11 (by decide) (fun c_11 => ?_) (fun c_11 => ?_)
      · have c_11 : 40 ≤ kc1 := (nI_leI (by omega) (by omega)).mp c_11
        refine lv_iconst (v := nI 1) hx hb dX11_knows_116 (by decide) ?_
        have hr4 : (true, st1, le1, fm1, kn1, kc1) = (ok, st9, le9, fm9, kn9, kc9) := by
          rw [← hres1]
          cases f0 with
          | zero => rfl
          | succ f9 =>
            simp only [seN]
            rw [if_pos (show 40 ≤ kc1 by omega)]
        cases hr4
        refine hp_eqi (z := nB true) (by decide) ?_
        exact hp_rz hx hb hr hlocks hS hH (nB_nar _) (⟨rfl, rfl, _, _, _, _, _, _, _, _, _, f_o, h011, f_8, f_12, f_16, hkb1, hkb, hW, fr⟩) dX11_knows_117
      · have c_11 : ¬ (40 ≤ kc1) := fun z => c_11 ((nI_leI (by omega) (by omega)).mpr z)
        refine lv_aload_n hx hb dX11_knows_14 rfl (lv_at hl 0 rfl) ?_
        refine lv_iload_n hx hb dX11_knows_15 rfl (lv_at hl 1 rfl) ?_
        obtain ⟨f9, ef9⟩ : ∃ f9, f0 = f9 + 1 := ⟨f0 - 1, by omega⟩
        rw [ef9] at hres1
        simp only [seN] at hres1
        rw [if_neg (show ¬ 40 ≤ kc1 by omega)] at hres1
        refine hp_kvm (hp_runV (As := [.int (nI L)]) (rest := []) hx hb hml hown hS hH (c_X11_sendSearch l X (L := L) (kn := kn1) hkb1 hkb hL3 (by omega) h011 hn16 hlv hst1 hle1 hoff1 hW f_o f_8 f_12 f_16) M_X11_163 I_X11_sendSearch V_X11_sendSearch (ci := 7) rfl rfl f_o rfl hl.1 rfl (Nat.le_of_ble_eq_true rfl) dX11_knows_16 ⟨Nat.le_of_ble_eq_true rfl, Nat.le_of_ble_eq_true rfl⟩ ⟨Nat.le_of_ble_eq_true rfl, Nat.le_of_ble_eq_true rfl⟩) hH (fun μ1 H locs hp hH => ?_)
        obtain ⟨kd9, kl9, tc9, sd9, sb9, H9, fz0, hsb9, fz1, fz2, hW, hH9, fe⟩ := hp
        have f_16 := (fe.at 16 (by decide)).trans f_16
        have f_o := fz0
        have f_8 := fz1
        have f_12 := fz2
        have hfN := fN_le n (laS z0 L kn1 kc1) (laZ kc1) lv st1 le1 sh
        have hlen := se_len (n := n) (lv := lv) (st := st1) (le := le1) (sh := sh) (kn := kn1) hL1 hL3 (show kc1 < 40 by omega)
        have fr := hp_eqM.tr fe fr (by decide)
        clear fe fz0 fz1 fz2
        refine lv_aload_n hx hb dX11_knows_19 rfl (lv_at hl 0 rfl) ?_
        refine hp_get hx hb hown hS.2.1 hH (F_X11_139.use hS) f_o rfl dX11_knows_20 ?_
        refine lv_if_ne (tgt := 28) hx hb dX11_knows_23 (by decide) (fun c_23 => ?_) (fun c_23 => ?_)
        · have c_23 : ¬ (fN n (laS z0 L kn1 kc1) (laZ kc1) lv st1 le1 sh = 0) := nz_n (by omega) c_23
          refine lv_iconst (v := nI 1) hx hb dX11_knows_28 (by decide) ?_
          refine lv_istore_n (lv' := [(2, .int (nI 1)), (0, .ref o), (1, .int (nI L))]) hx hb dX11_knows_29 rfl hl (by decide) rfl (fun ls hl => ?_)
          refine lv_iconst (v := nI 0) hx hb dX11_knows_30 (by decide) ?_
          refine lv_istore_n (lv' := [(3, .int (nI 0)), (2, .int (nI 1)), (0, .ref o), (1, .int (nI L))]) hx hb dX11_knows_31 rfl hl (by decide) rfl (fun ls hl => ?_)
          rw [if_neg c_23] at hres1
          have hlen2 := hlen.resolve_left c_23
          rcases hle9 : leR (fO n (laS z0 L kn1 kc1) (laZ kc1) lv st1 le1 sh) (fZ n (laS z0 L kn1 kc1) (laZ kc1) lv st1 le1 sh) (fN n (laS z0 L kn1 kc1) (laZ kc1) lv st1 le1 sh) kn1 kc1 with ⟨KN, KC⟩
          have hgt := leR_gt (on := fO n (laS z0 L kn1 kc1) (laZ kc1) lv st1 le1 sh) (ze := fZ n (laS z0 L kn1 kc1) (laZ kc1) lv st1 le1 sh) (len := fN n (laS z0 L kn1 kc1) (laZ kc1) lv st1 le1 sh) hkn1 (show kc1 < 40 by omega)
          rw [hle9] at hres1 hgt
          simp only at hres1 hgt
          have hl : lv_has ls 4 [(3, .int (nI (kc1 + kc1 / 8 - (kc1 + kc1 / 8)))), (2, .int (nI 1)), (0, .ref o), (1, .int (nI L))] := by rw [Nat.sub_self]; exact hl
          have lp_32 : ∀ (kk32 : Nat) (fi : Nat) (k2 : Nat) (c1 : Nat) (kb2 : Nat → Nat) (cl : Bool), (40 - c1 ≤ fi) → (c1 ≤ 40) → (kc1 ≤ c1) → (k2 < 2 ^ c1) → (∀ j, j < c1 → kb2 j = k2 / 2 ^ j % 2) → (∀ j, kb2 j < 2) → ((if cl = false then (k2, c1) else lrn (fO n (laS z0 L kn1 kc1) (laZ kc1) lv st1 le1 sh) (fZ n (laS z0 L kn1 kc1) (laZ kc1) lv st1 le1 sh) (fN n (laS z0 L kn1 kc1) (laZ kc1) lv st1 le1 sh) (kc1 + kc1 / 8) fi k2 c1) = (KN, KC)) → (40 - c1) < kk32 → ∀ (μ1 : hp_M) (H : Heap) (locs : List Loc) (ls : Array Slot), (μ1 o = some (hp_o 7 [.int (nI n), .ref (o + 1), .ref (o + 2), .ref (o + 3), .ref (o + 4), .ref (o + 5), .ref (o + 6), .int (nB on), .int (nI tz), .ref (o + 7), .int (nI (laZ kc1)), .ref (o + 8), .ref (o + 9), .int (nI kd9), .int (nI kl9), .int (nI tc9), .ref (o + 10), .int (nI sd9), .ref (o + 11), .int (nI (fN n (laS z0 L kn1 kc1) (laZ kc1) lv st1 le1 sh)), .ref (o + 12), .int (nI an), .ref (o + 13), .int (nI (fm1 + 1)), .int (nI fo), .ref (o + 14), .ref (o + 15), .int (nI c1), .ref (o + 16)])) → (μ1 (o + 8) = some (hp_n X 160 sb9)) → (μ1 (o + 12) = some (hp_n X 64 H9)) → (μ1 (o + 16) = some (hp_n X 40 kb2)) → (RW X μ1 o n lv (fS (laS z0 L kn1 kc1) (laZ kc1) lv st1 le1 sh) (fL (laS z0 L kn1 kc1) (laZ kc1) lv st1 le1 sh) sh) → hp_eqM [0, 4, 5, 8, 9, 10, 11, 12, 16] o μ1 μ → hp_w X cls μ1 nx H locs → lv_has ls 4 [(0, .ref o), (1, .int (nI L)), (2, .int (nB cl)), (3, .int (nI (c1 + c1 / 8 - (kc1 + kc1 / 8))))] → W p l e { frames := 6, cells := 0, slots := 0, locals := 240 } s m [.ref o, .int (nI L)].toArray below meth c H locs 0 0 (MQ below (hq_i X (po_i nx (nB ok) (fun z => ∃ (se8 kd8 kl8 tc8 sd8 hd8 : Nat) (sb8 H8 kb8 : Nat → Nat), z o = some (hp_o 7 [.int (nI n), .ref (o + 1), .ref (o + 2), .ref (o + 3), .ref (o + 4), .ref (o + 5), .ref (o + 6), .int (nB on), .int (nI tz), .ref (o + 7), .int (nI se8), .ref (o + 8), .ref (o + 9), .int (nI kd8), .int (nI kl8), .int (nI tc8), .ref (o + 10), .int (nI sd8), .ref (o + 11), .int (nI hd8), .ref (o + 12), .int (nI an), .ref (o + 13), .int (nI fm9), .int (nI fo), .ref (o + 14), .ref (o + 15), .int (nI kc9), .ref (o + 16)]) ∧ (∀ j, sb8 j < 2) ∧ z (o + 8) = some (hp_n X 160 sb8) ∧ z (o + 12) = some (hp_n X 64 H8) ∧ z (o + 16) = some (hp_n X 40 kb8) ∧ (∀ j, kb8 j < 2) ∧ (∀ j, j < kc9 → kb8 j = kn9 / 2 ^ j % 2) ∧ RW X z o n lv st9 le9 sh ∧ hp_eqM [0, 4, 5, 8, 9, 10, 11, 12, 16] o z μ))) [.ref o, .int (nI L)].toArray s 0 0 (hp_A X)) (F0 m 32 ls []) := by
            intro kk32
            induction kk32 with
            | zero =>
              intro fi k2 c1 kb2 cl hfi hc40 hcc hk2 hkb2 hkb21 hr2 hkk32
              exact absurd hkk32 (Nat.not_lt_zero _)
            | succ kk32 ih32 =>
              intro fi k2 c1 kb2 cl hfi hc40 hcc hk2 hkb2 hkb21 hr2 hkk32 μ1 H locs ls f_o f_8 f_12 f_16 hW fr hH hl
              refine lv_aload_n hx hb dX11_knows_32 rfl (lv_at hl 0 rfl) ?_
              refine hp_get hx hb hown hS.2.1 hH (F_X11_157.use hS) f_o rfl dX11_knows_33 ?_
              refine lv_bipush (v := nI 40) hx hb dX11_knows_36 (by decide) ?_
              refine lv_icmp_ge (tgt := 113) hx hb dX11_knows_38 (by decide) (fun c_38 => ?_) (fun c_38 => ?_)
              · have c_38 : 40 ≤ c1 := (nI_leI (by omega) (by omega)).mp c_38
                refine lv_goto (tgt := 5) hx hb dX11_knows_113 (by decide) ?_
                have hr3 : (k2, c1) = (KN, KC) := by
                  cases cl with
                  | false => exact hr2
                  | true =>
                    rw [if_neg (by decide)] at hr2
                    have e40 : c1 = 40 := by first | omega | exact absurd c_42 (by decide)
                    cases fi with
                    | zero => exact hr2
                    | succ f8 =>
                      simp only [lrn] at hr2
                      rw [if_neg (by omega)] at hr2
                      exact hr2
                have ek3 : k2 = KN := congrArg Prod.fst hr3
                have ec3 : c1 = KC := congrArg Prod.snd hr3
                have hgt3 : kc1 < c1 := by rw [ec3]; exact hgt
                exact ih5 f9 (fS (laS z0 L kn1 kc1) (laZ kc1) lv st1 le1 sh) (fL (laS z0 L kn1 kc1) (laZ kc1) lv st1 le1 sh) (fm1 + 1) k2 c1 (laZ kc1) kd9 kl9 tc9 sd9 (fN n (laS z0 L kn1 kc1) (laZ kc1) lv st1 le1 sh) sb9 H9 kb2 (by omega) (by omega) hk2 hkb2 hkb21 hsb9 (fS_lt _ _ _ _ hst1) (fun j hj => ⟨(fL_in _ _ _ _ hlv (fun j hj => ⟨(hle1 j hj).1, Nat.le_trans (hle1 j hj).2 (hlv j hj).2⟩) j hj).1, fL_le (hlv j hj).1 (hle1 j hj).2⟩) (fun h9 j hj => (f_out (hoff1 h9 j hj)).1) (by rw [ek3, ec3]; exact hres1) (by omega) _ _ _ _ f_o f_8 f_12 f_16 hW fr hH (lv_sub hl [0, 1] rfl)
              · have c_38 : ¬ (40 ≤ c1) := fun z => c_38 ((nI_leI (by omega) (by omega)).mpr z)
                refine lv_iload_n hx hb dX11_knows_41 rfl (lv_at hl 2 rfl) ?_
                refine lv_if_eq (tgt := 113) hx hb dX11_knows_42 (by decide) (fun c_42 => ?_) (fun c_42 => ?_)
                · have c_42 : cl = false := nB_0 c_42
                  refine lv_goto (tgt := 5) hx hb dX11_knows_113 (by decide) ?_
                  have hr3 : (k2, c1) = (KN, KC) := by
                    cases cl with
                    | false => exact hr2
                    | true =>
                      rw [if_neg (by decide)] at hr2
                      have e40 : c1 = 40 := by first | omega | exact absurd c_42 (by decide)
                      cases fi with
                      | zero => exact hr2
                      | succ f8 =>
                        simp only [lrn] at hr2
                        rw [if_neg (by omega)] at hr2
                        exact hr2
                  have ek3 : k2 = KN := congrArg Prod.fst hr3
                  have ec3 : c1 = KC := congrArg Prod.snd hr3
                  have hgt3 : kc1 < c1 := by rw [ec3]; exact hgt
                  exact ih5 f9 (fS (laS z0 L kn1 kc1) (laZ kc1) lv st1 le1 sh) (fL (laS z0 L kn1 kc1) (laZ kc1) lv st1 le1 sh) (fm1 + 1) k2 c1 (laZ kc1) kd9 kl9 tc9 sd9 (fN n (laS z0 L kn1 kc1) (laZ kc1) lv st1 le1 sh) sb9 H9 kb2 (by omega) (by omega) hk2 hkb2 hkb21 hsb9 (fS_lt _ _ _ _ hst1) (fun j hj => ⟨(fL_in _ _ _ _ hlv (fun j hj => ⟨(hle1 j hj).1, Nat.le_trans (hle1 j hj).2 (hlv j hj).2⟩) j hj).1, fL_le (hlv j hj).1 (hle1 j hj).2⟩) (fun h9 j hj => (f_out (hoff1 h9 j hj)).1) (by rw [ek3, ec3]; exact hres1) (by omega) _ _ _ _ f_o f_8 f_12 f_16 hW fr hH (lv_sub hl [0, 1] rfl)
                · have c_42 : cl = true := nB_n c_42
                  refine lv_aload_n hx hb dX11_knows_45 rfl (lv_at hl 0 rfl) ?_
                  refine hp_get hx hb hown hS.2.1 hH (F_X11_48.use hS) f_o rfl dX11_knows_46 ?_
                  refine lv_iload_n hx hb dX11_knows_49 rfl (lv_at hl 3 rfl) ?_
                  refine hp_ialdN hx hb hS.ai hH f_12 (by omega) (by omega) dX11_knows_50 ?_
                  refine hp_eqi (z := nI (digN (fO n (laS z0 L kn1 kc1) (laZ kc1) lv st1 le1 sh) (fZ n (laS z0 L kn1 kc1) (laZ kc1) lv st1 le1 sh) (c1 + c1 / 8 - (kc1 + kc1 / 8)))) (congrArg nI (hH9 _ (by omega))) ?_
                  refine lv_iconst (v := nI 2) hx hb dX11_knows_51 (by decide) ?_
                  have hd2 := digN_le (fO n (laS z0 L kn1 kc1) (laZ kc1) lv st1 le1 sh) (fZ n (laS z0 L kn1 kc1) (laZ kc1) lv st1 le1 sh) (c1 + c1 / 8 - (kc1 + kc1 / 8))
                  refine lv_icmp_ge (tgt := 59) hx hb dX11_knows_52 (by decide) (fun c_52 => ?_) (fun c_52 => ?_)
                  · have c_52 : 2 ≤ (digN (fO n (laS z0 L kn1 kc1) (laZ kc1) lv st1 le1 sh) (fZ n (laS z0 L kn1 kc1) (laZ kc1) lv st1 le1 sh) (c1 + c1 / 8 - (kc1 + kc1 / 8))) := (nI_leI (by omega) (by omega)).mp c_52
                    refine lv_iconst (v := nI 0) hx hb dX11_knows_59 (by decide) ?_
                    refine lv_istore_n (lv' := [(2, .int (nI 0)), (0, .ref o), (1, .int (nI L)), (3, .int (nI (c1 + c1 / 8 - (kc1 + kc1 / 8))))]) hx hb dX11_knows_60 rfl hl (by decide) rfl (fun ls hl => ?_)
                    refine lv_aload_n hx hb dX11_knows_61 rfl (lv_at hl 1 rfl) ?_
                    refine hp_get hx hb hown hS.2.1 hH (F_X11_60.use hS) f_o rfl dX11_knows_62 ?_
                    refine lv_aload_n hx hb dX11_knows_65 rfl (lv_at hl 1 rfl) ?_
                    refine hp_get hx hb hown hS.2.1 hH (F_X11_157.use hS) f_o rfl dX11_knows_66 ?_
                    refine lv_iload_n hx hb dX11_knows_69 rfl (lv_at hl 0 rfl) ?_
                    refine lv_if_eq (tgt := 82) hx hb dX11_knows_70 (by decide) (fun c_70 => ?_) (fun c_70 => ?_)
                    · have c_70 : 0 = 0 := nz_0 (by omega) c_70
                      refine lv_iconst (v := nI 1) hx hb dX11_knows_82 (by decide) ?_
                      refine hp_iastN hx hb hS.ai hH f_16 (by omega) (by omega) dX11_knows_83 (fun H locs μ1 fz fn hH => ?_)
                      have hW := hW.put 16 fn (by decide)
                      have f_o := (fn _ (by omega)).trans f_o
                      have f_8 := (fn _ (by omega)).trans f_8
                      have f_12 := (fn _ (by omega)).trans f_12
                      have f_16 : μ1 (o + 16) = some (hp_n X 40 (setN kb2 c1 1)) := fz
                      have fr := hp_eqM.put (k := 16) fr (by decide) fn
                      clear fz fn
                      refine lv_aload_n hx hb dX11_knows_84 rfl (lv_at hl 1 rfl) ?_
                      refine lv_dup hx hb dX11_knows_85 rfl ?_
                      refine hp_get hx hb hown hS.2.1 hH (F_X11_157.use hS) f_o rfl dX11_knows_86 ?_
                      refine lv_iconst (v := nI 1) hx hb dX11_knows_89 (by decide) ?_
                      refine lv_iadd hx hb dX11_knows_90 ?_
                      refine hp_eqi (z := nI (c1 + 1)) (nI_add _ _) ?_
                      refine hp_put hx hb hown hS.2.1 hH (P_X11_157.use hS) f_o rfl rfl (Nat.le_of_ble_eq_true rfl) dX11_knows_91 (fun H locs μ1 fz fn hH => ?_)
                      have hW := hW.put 0 fn (by decide)
                      have f_8 := (fn _ (by omega)).trans f_8
                      have f_12 := (fn _ (by omega)).trans f_12
                      have f_16 := (fn _ (by omega)).trans f_16
                      have f_o : μ1 o = some (hp_o 7 [.int (nI n), .ref (o + 1), .ref (o + 2), .ref (o + 3), .ref (o + 4), .ref (o + 5), .ref (o + 6), .int (nB on), .int (nI tz), .ref (o + 7), .int (nI (laZ kc1)), .ref (o + 8), .ref (o + 9), .int (nI kd9), .int (nI kl9), .int (nI tc9), .ref (o + 10), .int (nI sd9), .ref (o + 11), .int (nI (fN n (laS z0 L kn1 kc1) (laZ kc1) lv st1 le1 sh)), .ref (o + 12), .int (nI an), .ref (o + 13), .int (nI (fm1 + 1)), .int (nI fo), .ref (o + 14), .ref (o + 15), .int (nI (c1 + 1)), .ref (o + 16)]) := fz
                      have fr := hp_eqM.put (k := 0) fr (by decide) fn
                      clear fz fn
                      refine lv_aload_n hx hb dX11_knows_94 rfl (lv_at hl 1 rfl) ?_
                      refine hp_get hx hb hown hS.2.1 hH (F_X11_157.use hS) f_o rfl dX11_knows_95 ?_
                      refine lv_bipush (v := nI 8) hx hb dX11_knows_98 (by decide) ?_
                      refine lv_irem hx hb dX11_knows_100 (nI_ne0 (by omega) (by omega)) ?_
                      refine hp_eqi (z := nI ((c1 + 1) % 8)) (pk_rem (by omega) (by omega) (by omega)) ?_
                      refine lv_if_ne (tgt := 107) hx hb dX11_knows_101 (by decide) (fun c_101 => ?_) (fun c_101 => ?_)
                      · have c_101 : ¬ ((c1 + 1) % 8 = 0) := nz_n (by omega) c_101
                        refine lv_iinc (v := nI (c1 + c1 / 8 - (kc1 + kc1 / 8) + 1)) (lv' := [(3, .int (nI (c1 + c1 / 8 - (kc1 + kc1 / 8) + 1))), (2, .int (nI 0)), (0, .ref o), (1, .int (nI L))]) hx hb dX11_knows_107 hl (k := 3) rfl (nI_add _ 1) (by decide) rfl (fun ls hl => ?_)
                        refine lv_goto (tgt := 32) hx hb dX11_knows_110 (by decide) ?_
                        have hl : lv_has ls 4 [(3, .int (nI ((c1 + 1) + (c1 + 1) / 8 - (kc1 + kc1 / 8)))), (2, .int (nI 0)), (0, .ref o), (1, .int (nI L))] := by rw [show (c1 + 1) + (c1 + 1) / 8 - (kc1 + kc1 / 8) = c1 + c1 / 8 - (kc1 + kc1 / 8) + 1 by omega]; exact hl
                        obtain ⟨f8, ef8⟩ : ∃ f8, fi = f8 + 1 := ⟨fi - 1, by omega⟩
                        rw [c_42, if_neg (by decide), ef8] at hr2
                        simp only [lrn] at hr2
                        rw [if_pos (show c1 < 40 by omega), show dgN (fO n (laS z0 L kn1 kc1) (laZ kc1) lv st1 le1 sh) (fZ n (laS z0 L kn1 kc1) (laZ kc1) lv st1 le1 sh) (fN n (laS z0 L kn1 kc1) (laZ kc1) lv st1 le1 sh) (c1 + c1 / 8 - (kc1 + kc1 / 8)) = digN (fO n (laS z0 L kn1 kc1) (laZ kc1) lv st1 le1 sh) (fZ n (laS z0 L kn1 kc1) (laZ kc1) lv st1 le1 sh) (c1 + c1 / 8 - (kc1 + kc1 / 8)) from if_pos (by omega)] at hr2
                        exact ih32 f8 (k2 + 2 ^ c1) (c1 + 1) (setN kb2 c1 1) false (by omega) (by omega) (by omega) (by rw [Nat.pow_succ]; omega) (kb_2 hkb2 hk2) (setN_01 hkb21 (by decide)) (by rw [if_pos rfl]; rw [if_pos (show digN (fO n (laS z0 L kn1 kc1) (laZ kc1) lv st1 le1 sh) (fZ n (laS z0 L kn1 kc1) (laZ kc1) lv st1 le1 sh) (c1 + c1 / 8 - (kc1 + kc1 / 8)) = 2 by omega)] at hr2; exact hr2) (by omega) _ _ _ _ f_o f_8 f_12 f_16 hW fr hH (lv_sub hl [2, 3, 1, 0] rfl)
                      · have c_101 : ((c1 + 1) % 8) = 0 := nz_0 (by omega) c_101
                        refine lv_iinc (v := nI (c1 + c1 / 8 - (kc1 + kc1 / 8) + 1)) (lv' := [(3, .int (nI (c1 + c1 / 8 - (kc1 + kc1 / 8) + 1))), (2, .int (nI 0)), (0, .ref o), (1, .int (nI L))]) hx hb dX11_knows_104 hl (k := 3) rfl (nI_add _ 1) (by decide) rfl (fun ls hl => ?_)
                        refine lv_iinc (v := nI (c1 + c1 / 8 - (kc1 + kc1 / 8) + 1 + 1)) (lv' := [(3, .int (nI (c1 + c1 / 8 - (kc1 + kc1 / 8) + 1 + 1))), (2, .int (nI 0)), (0, .ref o), (1, .int (nI L))]) hx hb dX11_knows_107 hl (k := 0) rfl (nI_add _ 1) (by decide) rfl (fun ls hl => ?_)
                        refine lv_goto (tgt := 32) hx hb dX11_knows_110 (by decide) ?_
                        have hl : lv_has ls 4 [(3, .int (nI ((c1 + 1) + (c1 + 1) / 8 - (kc1 + kc1 / 8)))), (2, .int (nI 0)), (0, .ref o), (1, .int (nI L))] := by rw [show (c1 + 1) + (c1 + 1) / 8 - (kc1 + kc1 / 8) = c1 + c1 / 8 - (kc1 + kc1 / 8) + 1 + 1 by omega]; exact hl
                        obtain ⟨f8, ef8⟩ : ∃ f8, fi = f8 + 1 := ⟨fi - 1, by omega⟩
                        rw [c_42, if_neg (by decide), ef8] at hr2
                        simp only [lrn] at hr2
                        rw [if_pos (show c1 < 40 by omega), show dgN (fO n (laS z0 L kn1 kc1) (laZ kc1) lv st1 le1 sh) (fZ n (laS z0 L kn1 kc1) (laZ kc1) lv st1 le1 sh) (fN n (laS z0 L kn1 kc1) (laZ kc1) lv st1 le1 sh) (c1 + c1 / 8 - (kc1 + kc1 / 8)) = digN (fO n (laS z0 L kn1 kc1) (laZ kc1) lv st1 le1 sh) (fZ n (laS z0 L kn1 kc1) (laZ kc1) lv st1 le1 sh) (c1 + c1 / 8 - (kc1 + kc1 / 8)) from if_pos (by omega)] at hr2
                        exact ih32 f8 (k2 + 2 ^ c1) (c1 + 1) (setN kb2 c1 1) false (by omega) (by omega) (by omega) (by rw [Nat.pow_succ]; omega) (kb_2 hkb2 hk2) (setN_01 hkb21 (by decide)) (by rw [if_pos rfl]; rw [if_pos (show digN (fO n (laS z0 L kn1 kc1) (laZ kc1) lv st1 le1 sh) (fZ n (laS z0 L kn1 kc1) (laZ kc1) lv st1 le1 sh) (c1 + c1 / 8 - (kc1 + kc1 / 8)) = 2 by omega)] at hr2; exact hr2) (by omega) _ _ _ _ f_o f_8 f_12 f_16 hW fr hH (lv_sub hl [2, 3, 1, 0] rfl)
                    · exact absurd c_70 (by decide)
                  · have c_52 : ¬ (2 ≤ (digN (fO n (laS z0 L kn1 kc1) (laZ kc1) lv st1 le1 sh) (fZ n (laS z0 L kn1 kc1) (laZ kc1) lv st1 le1 sh) (c1 + c1 / 8 - (kc1 + kc1 / 8)))) := fun z => c_52 ((nI_leI (by omega) (by omega)).mpr z)
                    refine lv_iconst (v := nI 1) hx hb dX11_knows_55 (by decide) ?_
                    refine lv_goto (tgt := 60) hx hb dX11_knows_56 (by decide) ?_
                    refine lv_istore_n (lv' := [(2, .int (nI 1)), (0, .ref o), (1, .int (nI L)), (3, .int (nI (c1 + c1 / 8 - (kc1 + kc1 / 8))))]) hx hb dX11_knows_60 rfl hl (by decide) rfl (fun ls hl => ?_)
                    refine lv_aload_n hx hb dX11_knows_61 rfl (lv_at hl 1 rfl) ?_
                    refine hp_get hx hb hown hS.2.1 hH (F_X11_60.use hS) f_o rfl dX11_knows_62 ?_
                    refine lv_aload_n hx hb dX11_knows_65 rfl (lv_at hl 1 rfl) ?_
                    refine hp_get hx hb hown hS.2.1 hH (F_X11_157.use hS) f_o rfl dX11_knows_66 ?_
                    refine lv_iload_n hx hb dX11_knows_69 rfl (lv_at hl 0 rfl) ?_
                    refine lv_if_eq (tgt := 82) hx hb dX11_knows_70 (by decide) (fun c_70 => ?_) (fun c_70 => ?_)
                    · exact absurd c_70 (by decide)
                    · have c_70 : ¬ (1 = 0) := nz_n (by omega) c_70
                      refine lv_aload_n hx hb dX11_knows_73 rfl (lv_at hl 1 rfl) ?_
                      refine hp_get hx hb hown hS.2.1 hH (F_X11_48.use hS) f_o rfl dX11_knows_74 ?_
                      refine lv_iload_n hx hb dX11_knows_77 rfl (lv_at hl 3 rfl) ?_
                      refine hp_ialdN hx hb hS.ai hH f_12 (by omega) (by omega) dX11_knows_78 ?_
                      refine hp_eqi (z := nI (digN (fO n (laS z0 L kn1 kc1) (laZ kc1) lv st1 le1 sh) (fZ n (laS z0 L kn1 kc1) (laZ kc1) lv st1 le1 sh) (c1 + c1 / 8 - (kc1 + kc1 / 8)))) (congrArg nI (hH9 _ (by omega))) ?_
                      refine lv_goto (tgt := 83) hx hb dX11_knows_79 (by decide) ?_
                      refine hp_iastN hx hb hS.ai hH f_16 (by omega) (by omega) dX11_knows_83 (fun H locs μ1 fz fn hH => ?_)
                      have hW := hW.put 16 fn (by decide)
                      have f_o := (fn _ (by omega)).trans f_o
                      have f_8 := (fn _ (by omega)).trans f_8
                      have f_12 := (fn _ (by omega)).trans f_12
                      have f_16 : μ1 (o + 16) = some (hp_n X 40 (setN kb2 c1 (digN (fO n (laS z0 L kn1 kc1) (laZ kc1) lv st1 le1 sh) (fZ n (laS z0 L kn1 kc1) (laZ kc1) lv st1 le1 sh) (c1 + c1 / 8 - (kc1 + kc1 / 8))))) := fz
                      have fr := hp_eqM.put (k := 16) fr (by decide) fn
                      clear fz fn
                      refine lv_aload_n hx hb dX11_knows_84 rfl (lv_at hl 1 rfl) ?_
                      refine lv_dup hx hb dX11_knows_85 rfl ?_
                      refine hp_get hx hb hown hS.2.1 hH (F_X11_157.use hS) f_o rfl dX11_knows_86 ?_
                      refine lv_iconst (v := nI 1) hx hb dX11_knows_89 (by decide) ?_
                      refine lv_iadd hx hb dX11_knows_90 ?_
                      refine hp_eqi (z := nI (c1 + 1)) (nI_add _ _) ?_
                      refine hp_put hx hb hown hS.2.1 hH (P_X11_157.use hS) f_o rfl rfl (Nat.le_of_ble_eq_true rfl) dX11_knows_91 (fun H locs μ1 fz fn hH => ?_)
                      have hW := hW.put 0 fn (by decide)
                      have f_8 := (fn _ (by omega)).trans f_8
                      have f_12 := (fn _ (by omega)).trans f_12
                      have f_16 := (fn _ (by omega)).trans f_16
                      have f_o : μ1 o = some (hp_o 7 [.int (nI n), .ref (o + 1), .ref (o + 2), .ref (o + 3), .ref (o + 4), .ref (o + 5), .ref (o + 6), .int (nB on), .int (nI tz), .ref (o + 7), .int (nI (laZ kc1)), .ref (o + 8), .ref (o + 9), .int (nI kd9), .int (nI kl9), .int (nI tc9), .ref (o + 10), .int (nI sd9), .ref (o + 11), .int (nI (fN n (laS z0 L kn1 kc1) (laZ kc1) lv st1 le1 sh)), .ref (o + 12), .int (nI an), .ref (o + 13), .int (nI (fm1 + 1)), .int (nI fo), .ref (o + 14), .ref (o + 15), .int (nI (c1 + 1)), .ref (o + 16)]) := fz
                      have fr := hp_eqM.put (k := 0) fr (by decide) fn
                      clear fz fn
                      refine lv_aload_n hx hb dX11_knows_94 rfl (lv_at hl 1 rfl) ?_
                      refine hp_get hx hb hown hS.2.1 hH (F_X11_157.use hS) f_o rfl dX11_knows_95 ?_
                      refine lv_bipush (v := nI 8) hx hb dX11_knows_98 (by decide) ?_
                      refine lv_irem hx hb dX11_knows_100 (nI_ne0 (by omega) (by omega)) ?_
                      refine hp_eqi (z := nI ((c1 + 1) % 8)) (pk_rem (by omega) (by omega) (by omega)) ?_
                      refine lv_if_ne (tgt := 107) hx hb dX11_knows_101 (by decide) (fun c_101 => ?_) (fun c_101 => ?_)
                      · have c_101 : ¬ ((c1 + 1) % 8 = 0) := nz_n (by omega) c_101
                        refine lv_iinc (v := nI (c1 + c1 / 8 - (kc1 + kc1 / 8) + 1)) (lv' := [(3, .int (nI (c1 + c1 / 8 - (kc1 + kc1 / 8) + 1))), (2, .int (nI 1)), (0, .ref o), (1, .int (nI L))]) hx hb dX11_knows_107 hl (k := 3) rfl (nI_add _ 1) (by decide) rfl (fun ls hl => ?_)
                        refine lv_goto (tgt := 32) hx hb dX11_knows_110 (by decide) ?_
                        have hl : lv_has ls 4 [(3, .int (nI ((c1 + 1) + (c1 + 1) / 8 - (kc1 + kc1 / 8)))), (2, .int (nI 1)), (0, .ref o), (1, .int (nI L))] := by rw [show (c1 + 1) + (c1 + 1) / 8 - (kc1 + kc1 / 8) = c1 + c1 / 8 - (kc1 + kc1 / 8) + 1 by omega]; exact hl
                        obtain ⟨f8, ef8⟩ : ∃ f8, fi = f8 + 1 := ⟨fi - 1, by omega⟩
                        rw [c_42, if_neg (by decide), ef8] at hr2
                        simp only [lrn] at hr2
                        rw [if_pos (show c1 < 40 by omega), show dgN (fO n (laS z0 L kn1 kc1) (laZ kc1) lv st1 le1 sh) (fZ n (laS z0 L kn1 kc1) (laZ kc1) lv st1 le1 sh) (fN n (laS z0 L kn1 kc1) (laZ kc1) lv st1 le1 sh) (c1 + c1 / 8 - (kc1 + kc1 / 8)) = digN (fO n (laS z0 L kn1 kc1) (laZ kc1) lv st1 le1 sh) (fZ n (laS z0 L kn1 kc1) (laZ kc1) lv st1 le1 sh) (c1 + c1 / 8 - (kc1 + kc1 / 8)) from if_pos (by omega)] at hr2
                        exact ih32 f8 (if digN (fO n (laS z0 L kn1 kc1) (laZ kc1) lv st1 le1 sh) (fZ n (laS z0 L kn1 kc1) (laZ kc1) lv st1 le1 sh) (c1 + c1 / 8 - (kc1 + kc1 / 8)) = 1 then k2 + 2 ^ c1 else k2) (c1 + 1) (setN kb2 c1 (digN (fO n (laS z0 L kn1 kc1) (laZ kc1) lv st1 le1 sh) (fZ n (laS z0 L kn1 kc1) (laZ kc1) lv st1 le1 sh) (c1 + c1 / 8 - (kc1 + kc1 / 8)))) true (by omega) (by omega) (by omega) (by split <;> rw [Nat.pow_succ] <;> omega) (kb_d hkb2 hk2 (by omega)) (setN_01 hkb21 (by omega)) (by rw [if_neg (by decide)]; rw [if_neg (show ¬ digN (fO n (laS z0 L kn1 kc1) (laZ kc1) lv st1 le1 sh) (fZ n (laS z0 L kn1 kc1) (laZ kc1) lv st1 le1 sh) (c1 + c1 / 8 - (kc1 + kc1 / 8)) = 2 by omega)] at hr2; exact hr2) (by omega) _ _ _ _ f_o f_8 f_12 f_16 hW fr hH (lv_sub hl [2, 3, 1, 0] rfl)
                      · have c_101 : ((c1 + 1) % 8) = 0 := nz_0 (by omega) c_101
                        refine lv_iinc (v := nI (c1 + c1 / 8 - (kc1 + kc1 / 8) + 1)) (lv' := [(3, .int (nI (c1 + c1 / 8 - (kc1 + kc1 / 8) + 1))), (2, .int (nI 1)), (0, .ref o), (1, .int (nI L))]) hx hb dX11_knows_104 hl (k := 3) rfl (nI_add _ 1) (by decide) rfl (fun ls hl => ?_)
                        refine lv_iinc (v := nI (c1 + c1 / 8 - (kc1 + kc1 / 8) + 1 + 1)) (lv' := [(3, .int (nI (c1 + c1 / 8 - (kc1 + kc1 / 8) + 1 + 1))), (2, .int (nI 1)), (0, .ref o), (1, .int (nI L))]) hx hb dX11_knows_107 hl (k := 0) rfl (nI_add _ 1) (by decide) rfl (fun ls hl => ?_)
                        refine lv_goto (tgt := 32) hx hb dX11_knows_110 (by decide) ?_
                        have hl : lv_has ls 4 [(3, .int (nI ((c1 + 1) + (c1 + 1) / 8 - (kc1 + kc1 / 8)))), (2, .int (nI 1)), (0, .ref o), (1, .int (nI L))] := by rw [show (c1 + 1) + (c1 + 1) / 8 - (kc1 + kc1 / 8) = c1 + c1 / 8 - (kc1 + kc1 / 8) + 1 + 1 by omega]; exact hl
                        obtain ⟨f8, ef8⟩ : ∃ f8, fi = f8 + 1 := ⟨fi - 1, by omega⟩
                        rw [c_42, if_neg (by decide), ef8] at hr2
                        simp only [lrn] at hr2
                        rw [if_pos (show c1 < 40 by omega), show dgN (fO n (laS z0 L kn1 kc1) (laZ kc1) lv st1 le1 sh) (fZ n (laS z0 L kn1 kc1) (laZ kc1) lv st1 le1 sh) (fN n (laS z0 L kn1 kc1) (laZ kc1) lv st1 le1 sh) (c1 + c1 / 8 - (kc1 + kc1 / 8)) = digN (fO n (laS z0 L kn1 kc1) (laZ kc1) lv st1 le1 sh) (fZ n (laS z0 L kn1 kc1) (laZ kc1) lv st1 le1 sh) (c1 + c1 / 8 - (kc1 + kc1 / 8)) from if_pos (by omega)] at hr2
                        exact ih32 f8 (if digN (fO n (laS z0 L kn1 kc1) (laZ kc1) lv st1 le1 sh) (fZ n (laS z0 L kn1 kc1) (laZ kc1) lv st1 le1 sh) (c1 + c1 / 8 - (kc1 + kc1 / 8)) = 1 then k2 + 2 ^ c1 else k2) (c1 + 1) (setN kb2 c1 (digN (fO n (laS z0 L kn1 kc1) (laZ kc1) lv st1 le1 sh) (fZ n (laS z0 L kn1 kc1) (laZ kc1) lv st1 le1 sh) (c1 + c1 / 8 - (kc1 + kc1 / 8)))) true (by omega) (by omega) (by omega) (by split <;> rw [Nat.pow_succ] <;> omega) (kb_d hkb2 hk2 (by omega)) (setN_01 hkb21 (by omega)) (by rw [if_neg (by decide)]; rw [if_neg (show ¬ digN (fO n (laS z0 L kn1 kc1) (laZ kc1) lv st1 le1 sh) (fZ n (laS z0 L kn1 kc1) (laZ kc1) lv st1 le1 sh) (c1 + c1 / 8 - (kc1 + kc1 / 8)) = 2 by omega)] at hr2; exact hr2) (by omega) _ _ _ _ f_o f_8 f_12 f_16 hW fr hH (lv_sub hl [2, 3, 1, 0] rfl)
          exact lp_32 ((40 - kc1) + 1) 40 kn1 kc1 kb1 true (by omega) (by omega) (Nat.le_refl _) hkn1 hkb hkb1 hle9 (Nat.lt_succ_self _) _ _ _ _ f_o f_8 f_12 f_16 hW fr hH (lv_sub hl [2, 3, 1, 0] rfl)
        · have c_23 : (fN n (laS z0 L kn1 kc1) (laZ kc1) lv st1 le1 sh) = 0 := nz_0 (by omega) c_23
          refine lv_iconst (v := nI 0) hx hb dX11_knows_26 (by decide) ?_
          rw [if_pos c_23] at hres1
          cases hres1
          refine hp_eqi (z := nB false) (by decide) ?_
          exact hp_rz hx hb hr hlocks hS hH (nB_nar _) (⟨rfl, rfl, _, _, _, _, _, _, _, _, _, f_o, hsb9, f_8, f_12, f_16, hkb1, hkb, hW, fr⟩) dX11_knows_27
  exact lp_5 ((40 - 0) + 1) 40 st le fm 0 0 se kd kl tc sd hd sb hbb kb (by decide) (by decide) (by decide) (fun j hj => absurd hj (Nat.not_lt_zero _)) hkb1 h01 hst hle hoff hres (Nat.lt_succ_self _) _ _ _ _ f_o f_8 f_12 f_16 hW fr hH (lv_sub hl [0, 1] rfl)
