set_option maxHeartbeats 4000000 in
set_option maxRecDepth 100000 in
theorem c_X11_send (l : Launch) (X : hp_X) {μ : hp_M} {nx : Nat} {o n tz se kd kl tc sd hd an fm fo kc : Nat} {on : Bool} {sb Z S L sh2 D J hbb lv st le : Nat → Nat} {sh : Nat → Nat → Nat} {Bf : Nat → Int32} (h01 : ∀ j, sb j < 2) (hse : se ≤ 160) (hn16 : n ≤ 16) (hZr : ∀ j, j < n → Z (j + 1) = 3 * lv j + 1) (hSr : ∀ j, j < n → S (j + 1) = st j) (hLr : ∀ j, j < n → L (j + 1) = le j) (hlv : ∀ j, j < n → 1 ≤ lv j ∧ lv j ≤ 3) (hst : ∀ j, j < n → st j < 8) (hle : ∀ j, j < n → 1 ≤ le j ∧ le j ≤ lv j) (hsh2 : ∀ j, j < n → ∀ i, i < lv j → ∀ k, k < 40 → sh2 (120 * (j + 1) + 40 * i + k) = sh j i / 2 ^ k % 2) (hJ01 : ∀ j, J j < 2) (hoff : on = false → ∀ j, j < n → st j = 0)  (f_o : μ o = some (hp_o 7 [.int (nI n), .ref (o + 1), .ref (o + 2), .ref (o + 3), .ref (o + 4), .ref (o + 5), .ref (o + 6), .int (nB on), .int (nI tz), .ref (o + 7), .int (nI se), .ref (o + 8), .ref (o + 9), .int (nI kd), .int (nI kl), .int (nI tc), .ref (o + 10), .int (nI sd), .ref (o + 11), .int (nI hd), .ref (o + 12), .int (nI an), .ref (o + 13), .int (nI fm), .int (nI fo), .ref (o + 14), .ref (o + 15), .int (nI kc), .ref (o + 16)])) (f_1 : μ (o + 1) = some (hp_n X 17 Z)) (f_4 : μ (o + 4) = some (hp_n X 17 S)) (f_5 : μ (o + 5) = some (hp_n X 17 L)) (f_6 : μ (o + 6) = some (hp_n X 2040 sh2)) (f_8 : μ (o + 8) = some (hp_n X 160 sb)) (f_9 : μ (o + 9) = some (hp_i X 18 Bf)) (f_10 : μ (o + 10) = some (hp_n X 48 D)) (f_11 : μ (o + 11) = some (hp_n X 64 J)) (f_12 : μ (o + 12) = some (hp_n X 64 hbb)) : Ct l X yX11_send cX11_send 3 (none : Option Jvm.ClassFile.FieldType) 4 160 0 0 [.ref o] μ nx (hq_v X (po_v nx (fun z => ∃ (kd9 kl9 tc9 sd9 : Nat) (S9 L9 : Nat → Nat) (B9 : Nat → Int32) (D9 J9 H9 : Nat → Nat), z o = some (hp_o 7 [.int (nI n), .ref (o + 1), .ref (o + 2), .ref (o + 3), .ref (o + 4), .ref (o + 5), .ref (o + 6), .int (nB on), .int (nI tz), .ref (o + 7), .int (nI se), .ref (o + 8), .ref (o + 9), .int (nI kd9), .int (nI kl9), .int (nI tc9), .ref (o + 10), .int (nI sd9), .ref (o + 11), .int (nI (fN n sb se lv st le sh)), .ref (o + 12), .int (nI an), .ref (o + 13), .int (nI (fm + 1)), .int (nI fo), .ref (o + 14), .ref (o + 15), .int (nI kc), .ref (o + 16)]) ∧ z (o + 4) = some (hp_n X 17 S9) ∧ z (o + 5) = some (hp_n X 17 L9) ∧ z (o + 9) = some (hp_i X 18 B9) ∧ z (o + 10) = some (hp_n X 48 D9) ∧ z (o + 11) = some (hp_n X 64 J9) ∧ z (o + 12) = some (hp_n X 64 H9) ∧ (∀ j, j < n → S9 (j + 1) = fS sb se lv st le sh j) ∧ (∀ j, j < n → L9 (j + 1) = fL sb se lv st le sh j) ∧ (∀ j, J9 j < 2) ∧ (∀ x, x < fN n sb se lv st le sh → H9 x = digN (fO n sb se lv st le sh) (fZ n sb se lv st le sh) x) ∧ hp_eqM [0, 4, 5, 9, 10, 11, 12] o z μ))) := by
  refine hp_met (by decide) (Nat.le_of_ble_eq_true rfl) ?_
  intro p e s m below meth c ls hx hb hml hr hlocks hown hin hS hH hl
  have hl : lv_has ls 3 [(0, .ref o)] := hl
  have fr : hp_eqM [0, 4, 5, 9, 10, 11, 12] o μ μ := fun _ _ => rfl
  refine lv_aload_n hx hb dX11_send_0 rfl (lv_at hl 0 rfl) ?_
  refine lv_dup hx hb dX11_send_1 rfl ?_
  refine hp_get hx hb hown hS.2.1 hH (F_X11_136.use hS) f_o rfl dX11_send_2 ?_
  refine lv_iconst (v := nI 1) hx hb dX11_send_5 (by decide) ?_
  refine lv_iadd hx hb dX11_send_6 ?_
  refine hp_eqi (z := nI (fm + 1)) (nI_add _ _) ?_
  refine hp_put hx hb hown hS.2.1 hH (P_X11_136.use hS) f_o rfl rfl (Nat.le_of_ble_eq_true rfl) dX11_send_7 (fun H locs μ1 fz fn hH => ?_)
  have f_1 := (fn _ (by omega)).trans f_1
  have f_4 := (fn _ (by omega)).trans f_4
  have f_5 := (fn _ (by omega)).trans f_5
  have f_6 := (fn _ (by omega)).trans f_6
  have f_8 := (fn _ (by omega)).trans f_8
  have f_9 := (fn _ (by omega)).trans f_9
  have f_10 := (fn _ (by omega)).trans f_10
  have f_11 := (fn _ (by omega)).trans f_11
  have f_12 := (fn _ (by omega)).trans f_12
  have f_o : μ1 o = some (hp_o 7 [.int (nI n), .ref (o + 1), .ref (o + 2), .ref (o + 3), .ref (o + 4), .ref (o + 5), .ref (o + 6), .int (nB on), .int (nI tz), .ref (o + 7), .int (nI se), .ref (o + 8), .ref (o + 9), .int (nI kd), .int (nI kl), .int (nI tc), .ref (o + 10), .int (nI sd), .ref (o + 11), .int (nI hd), .ref (o + 12), .int (nI an), .ref (o + 13), .int (nI (fm + 1)), .int (nI fo), .ref (o + 14), .ref (o + 15), .int (nI kc), .ref (o + 16)]) := fz
  have fr := hp_eqM.put (k := 0) fr (by decide) fn
  clear fz fn
  refine lv_aload_n hx hb dX11_send_10 rfl (lv_at hl 0 rfl) ?_
  refine lv_iconst (v := nI 0) hx hb dX11_send_11 (by decide) ?_
  refine hp_put hx hb hown hS.2.1 hH (P_X11_139.use hS) f_o rfl rfl (Nat.le_of_ble_eq_true rfl) dX11_send_12 (fun H locs μ1 fz fn hH => ?_)
  have f_1 := (fn _ (by omega)).trans f_1
  have f_4 := (fn _ (by omega)).trans f_4
  have f_5 := (fn _ (by omega)).trans f_5
  have f_6 := (fn _ (by omega)).trans f_6
  have f_8 := (fn _ (by omega)).trans f_8
  have f_9 := (fn _ (by omega)).trans f_9
  have f_10 := (fn _ (by omega)).trans f_10
  have f_11 := (fn _ (by omega)).trans f_11
  have f_12 := (fn _ (by omega)).trans f_12
  have f_o : μ1 o = some (hp_o 7 [.int (nI n), .ref (o + 1), .ref (o + 2), .ref (o + 3), .ref (o + 4), .ref (o + 5), .ref (o + 6), .int (nB on), .int (nI tz), .ref (o + 7), .int (nI se), .ref (o + 8), .ref (o + 9), .int (nI kd), .int (nI kl), .int (nI tc), .ref (o + 10), .int (nI sd), .ref (o + 11), .int (nI 0), .ref (o + 12), .int (nI an), .ref (o + 13), .int (nI (fm + 1)), .int (nI fo), .ref (o + 14), .ref (o + 15), .int (nI kc), .ref (o + 16)]) := fz
  have fr := hp_eqM.put (k := 0) fr (by decide) fn
  clear fz fn
  refine lv_aload_n hx hb dX11_send_15 rfl (lv_at hl 0 rfl) ?_
  refine hp_get hx hb hown hS.2.1 hH (F_X11_29.use hS) f_o rfl dX11_send_16 ?_
  refine lv_if_ne (tgt := 23) hx hb dX11_send_19 (by decide) (fun c_19 => ?_) (fun c_19 => ?_)
  · have c_19 : on = true := nB_n c_19
    refine lv_aload_n hx hb dX11_send_23 rfl (lv_at hl 0 rfl) ?_
    refine hp_kvm (hp_runV (As := []) (rest := []) hx hb hml hown hS hH (c_X11_understand l X h01 hse f_o f_8 f_9 f_10) M_X11_142 I_X11_understand V_X11_understand (ci := 7) rfl rfl f_o rfl hl.1 rfl (Nat.le_of_ble_eq_true rfl) dX11_send_24 ⟨Nat.le_of_ble_eq_true rfl, Nat.le_of_ble_eq_true rfl⟩ ⟨Nat.le_of_ble_eq_true rfl, Nat.le_of_ble_eq_true rfl⟩) hH (fun μ1 H locs hp hH => ?_)
    obtain ⟨kl9, tc9, B9, D9, fz0, fz1, fz2, hk34, hk6, fe⟩ := hp
    have f_1 := (fe.at 1 (by decide)).trans f_1
    have f_4 := (fe.at 4 (by decide)).trans f_4
    have f_5 := (fe.at 5 (by decide)).trans f_5
    have f_6 := (fe.at 6 (by decide)).trans f_6
    have f_8 := (fe.at 8 (by decide)).trans f_8
    have f_11 := (fe.at 11 (by decide)).trans f_11
    have f_12 := (fe.at 12 (by decide)).trans f_12
    have f_o := fz0
    have f_9 := fz1
    have f_10 := fz2
    have fr := hp_eqM.tr fe fr (by decide)
    clear fe fz0 fz1 fz2
    have hK8 := rdK_lt sb se
    have hRC := rdC_le sb se
    have hlo := lvOf_le (valN sb se 0 8)
    have hB64 := fB_lt sb se lv st le sh
    have hC45 := fC_le sb se lv st le sh
    refine lv_iconst (v := nI 1) hx hb dX11_send_27 (by decide) ?_
    refine lv_istore_n (lv' := [(1, .int (nI 1)), (0, .ref o)]) hx hb dX11_send_28 rfl hl (by decide) rfl (fun ls hl => ?_)
    have lp_29 : ∀ (kk29 : Nat) (i : Nat) (sd1 : Nat) (S1 : Nat → Nat) (L1 : Nat → Nat) (J1 : Nat → Nat) (H1 : Nat → Nat), (i ≤ n) → (∀ j, j < n → S1 (j + 1) = mixN i (fS sb se lv st le sh) st j) → (∀ j, j < n → L1 (j + 1) = mixN i (fL sb se lv st le sh) le j) → (∀ j, J1 j < 2) → (∀ x, x < anL (fC sb se lv st le sh) i → H1 x = digN (anO (fB sb se lv st le sh) (fC sb se lv st le sh) i) (anZ (fB sb se lv st le sh) (fC sb se lv st le sh) i) x) → (n - i) < kk29 → ∀ (μ1 : hp_M) (H : Heap) (locs : List Loc) (ls : Array Slot), (μ1 o = some (hp_o 7 [.int (nI n), .ref (o + 1), .ref (o + 2), .ref (o + 3), .ref (o + 4), .ref (o + 5), .ref (o + 6), .int (nB on), .int (nI tz), .ref (o + 7), .int (nI se), .ref (o + 8), .ref (o + 9), .int (nI (rdK sb se)), .int (nI kl9), .int (nI tc9), .ref (o + 10), .int (nI sd1), .ref (o + 11), .int (nI (anL (fC sb se lv st le sh) i)), .ref (o + 12), .int (nI an), .ref (o + 13), .int (nI (fm + 1)), .int (nI fo), .ref (o + 14), .ref (o + 15), .int (nI kc), .ref (o + 16)])) → (μ1 (o + 1) = some (hp_n X 17 Z)) → (μ1 (o + 4) = some (hp_n X 17 S1)) → (μ1 (o + 5) = some (hp_n X 17 L1)) → (μ1 (o + 6) = some (hp_n X 2040 sh2)) → (μ1 (o + 8) = some (hp_n X 160 sb)) → (μ1 (o + 9) = some (hp_i X 18 B9)) → (μ1 (o + 10) = some (hp_n X 48 D9)) → (μ1 (o + 11) = some (hp_n X 64 J1)) → (μ1 (o + 12) = some (hp_n X 64 H1)) → hp_eqM [0, 4, 5, 9, 10, 11, 12] o μ1 μ → hp_w X cls μ1 nx H locs → lv_has ls 3 [(0, .ref o), (1, .int (nI (i + 1)))] → W p l e { frames := 4, cells := 0, slots := 0, locals := 160 } s m [.ref o].toArray below meth c H locs 0 0 (MQ below (hq_v X (po_v nx (fun z => ∃ (kd9 kl9 tc9 sd9 : Nat) (S9 L9 : Nat → Nat) (B9 : Nat → Int32) (D9 J9 H9 : Nat → Nat), z o = some (hp_o 7 [.int (nI n), .ref (o + 1), .ref (o + 2), .ref (o + 3), .ref (o + 4), .ref (o + 5), .ref (o + 6), .int (nB on), .int (nI tz), .ref (o + 7), .int (nI se), .ref (o + 8), .ref (o + 9), .int (nI kd9), .int (nI kl9), .int (nI tc9), .ref (o + 10), .int (nI sd9), .ref (o + 11), .int (nI (fN n sb se lv st le sh)), .ref (o + 12), .int (nI an), .ref (o + 13), .int (nI (fm + 1)), .int (nI fo), .ref (o + 14), .ref (o + 15), .int (nI kc), .ref (o + 16)]) ∧ z (o + 4) = some (hp_n X 17 S9) ∧ z (o + 5) = some (hp_n X 17 L9) ∧ z (o + 9) = some (hp_i X 18 B9) ∧ z (o + 10) = some (hp_n X 48 D9) ∧ z (o + 11) = some (hp_n X 64 J9) ∧ z (o + 12) = some (hp_n X 64 H9) ∧ (∀ j, j < n → S9 (j + 1) = fS sb se lv st le sh j) ∧ (∀ j, j < n → L9 (j + 1) = fL sb se lv st le sh j) ∧ (∀ j, J9 j < 2) ∧ (∀ x, x < fN n sb se lv st le sh → H9 x = digN (fO n sb se lv st le sh) (fZ n sb se lv st le sh) x) ∧ hp_eqM [0, 4, 5, 9, 10, 11, 12] o z μ))) [.ref o].toArray s 0 0 (hp_A X)) (F0 m 29 ls []) := by
      intro kk29
      induction kk29 with
      | zero =>
        intro i sd1 S1 L1 J1 H1 hi hS1 hL1 hJ1 hH1 hkk29
        exact absurd hkk29 (Nat.not_lt_zero _)
      | succ kk29 ih29 =>
        intro i sd1 S1 L1 J1 H1 hi hS1 hL1 hJ1 hH1 hkk29 μ1 H locs ls f_o f_1 f_4 f_5 f_6 f_8 f_9 f_10 f_11 f_12 fr hH hl
        refine lv_iload_n hx hb dX11_send_29 rfl (lv_at hl 1 rfl) ?_
        refine lv_aload_n hx hb dX11_send_30 rfl (lv_at hl 0 rfl) ?_
        refine hp_get hx hb hown hS.2.1 hH (F_X11_67.use hS) f_o rfl dX11_send_31 ?_
        refine lv_icmp_gt (tgt := 130) hx hb dX11_send_34 (by decide) (fun c_34 => ?_) (fun c_34 => ?_)
        · have c_34 : n < (i + 1) := (nI_ltI (by omega) (by omega)).mp c_34
          have ei : i = n := by omega
          subst ei
          exact hp_rv hx hb hr hlocks hS hH (⟨rfl, _, _, _, _, _, _, _, _, _, _, f_o, f_4, f_5, f_9, f_10, f_11, f_12, fun j hj => (hS1 j hj).trans (mixN_n _ _ hj), fun j hj => (hL1 j hj).trans (mixN_n _ _ hj), hJ1, hH1, fr⟩) dX11_send_130
        · have c_34 : ¬ (n < (i + 1)) := fun z => c_34 ((nI_ltI (by omega) (by omega)).mpr z)
          have hin : i < n := by omega
          have eS := (hS1 i hin).trans (mixN_i i _ _)
          have eL := (hL1 i hin).trans (mixN_i i _ _)
          have hle9 := hle i hin
          have hlv9 := hlv i hin
          have hst9 := hst i hin
          refine lv_aload_n hx hb dX11_send_37 rfl (lv_at hl 0 rfl) ?_
          refine lv_iconst (v := nI 0) hx hb dX11_send_38 (by decide) ?_
          refine hp_put hx hb hown hS.2.1 hH (P_X11_110.use hS) f_o rfl rfl (Nat.le_of_ble_eq_true rfl) dX11_send_39 (fun H locs μ1 fz fn hH => ?_)
          have f_1 := (fn _ (by omega)).trans f_1
          have f_4 := (fn _ (by omega)).trans f_4
          have f_5 := (fn _ (by omega)).trans f_5
          have f_6 := (fn _ (by omega)).trans f_6
          have f_8 := (fn _ (by omega)).trans f_8
          have f_9 := (fn _ (by omega)).trans f_9
          have f_10 := (fn _ (by omega)).trans f_10
          have f_11 := (fn _ (by omega)).trans f_11
          have f_12 := (fn _ (by omega)).trans f_12
          have f_o : μ1 o = some (hp_o 7 [.int (nI n), .ref (o + 1), .ref (o + 2), .ref (o + 3), .ref (o + 4), .ref (o + 5), .ref (o + 6), .int (nB on), .int (nI tz), .ref (o + 7), .int (nI se), .ref (o + 8), .ref (o + 9), .int (nI (rdK sb se)), .int (nI kl9), .int (nI tc9), .ref (o + 10), .int (nI 0), .ref (o + 11), .int (nI (anL (fC sb se lv st le sh) i)), .ref (o + 12), .int (nI an), .ref (o + 13), .int (nI (fm + 1)), .int (nI fo), .ref (o + 14), .ref (o + 15), .int (nI kc), .ref (o + 16)]) := fz
          have fr := hp_eqM.put (k := 0) fr (by decide) fn
          clear fz fn
          refine lv_aload_n hx hb dX11_send_42 rfl (lv_at hl 0 rfl) ?_
          refine hp_get hx hb hown hS.2.1 hH (F_X11_20.use hS) f_o rfl dX11_send_43 ?_
          refine lv_iload_n hx hb dX11_send_46 rfl (lv_at hl 1 rfl) ?_
          refine hp_ialdN hx hb hS.ai hH f_4 (by omega) (by omega) dX11_send_47 ?_
          refine hp_eqi (z := nI (st i)) (congrArg nI eS) ?_
          refine lv_if_le (tgt := 56) hx hb dX11_send_48 (by decide) (fun c_48 => ?_) (fun c_48 => ?_)
          · have c_48 : (st i) = 0 := nz_le (by omega) c_48
            have ho := f_out (sb := sb) (se := se) (lv := lv) (le := le) (sh := sh) c_48
            have hS2 : ∀ j, j < n → S1 (j + 1) = mixN (i + 1) (fS sb se lv st le sh) st j := fun j hj => by
              by_cases ej : j = i
              · rw [ej, mixN_s, ho.1, eS, c_48]
              · rw [mixN_o _ _ ej]; exact hS1 j hj
            have hL2 : ∀ j, j < n → L1 (j + 1) = mixN (i + 1) (fL sb se lv st le sh) le j := fun j hj => by
              by_cases ej : j = i
              · rw [ej, mixN_s, ho.2.1, eL]
              · rw [mixN_o _ _ ej]; exact hL1 j hj
            have hJ2 := hJ1
            have hC9 : 0 = fC sb se lv st le sh i := ho.2.2.symm
            have hbit : ∀ j, j < fC sb se lv st le sh i → J1 j = fB sb se lv st le sh i / 2 ^ j % 2 := fun j hj => by rw [ho.2.2] at hj; exact absurd hj (Nat.not_lt_zero _)
            have f_o : μ1 o = some (hp_o 7 [.int (nI n), .ref (o + 1), .ref (o + 2), .ref (o + 3), .ref (o + 4), .ref (o + 5), .ref (o + 6), .int (nB on), .int (nI tz), .ref (o + 7), .int (nI se), .ref (o + 8), .ref (o + 9), .int (nI (rdK sb se)), .int (nI kl9), .int (nI tc9), .ref (o + 10), .int (nI (fC sb se lv st le sh i)), .ref (o + 11), .int (nI (anL (fC sb se lv st le sh) i)), .ref (o + 12), .int (nI an), .ref (o + 13), .int (nI (fm + 1)), .int (nI fo), .ref (o + 14), .ref (o + 15), .int (nI kc), .ref (o + 16)]) := by rw [← hC9]; exact f_o
            generalize S1 = S2 at hS2 f_4
            generalize L1 = L2 at hL2 f_5
            generalize J1 = J2 at hJ2 hbit f_11
            refine lv_iconst (v := nI 0) hx hb dX11_send_56 (by decide) ?_
            refine lv_istore_n (lv' := [(2, .int (nI 0)), (0, .ref o), (1, .int (nI (i + 1)))]) hx hb dX11_send_57 rfl hl (by decide) rfl (fun ls hl => ?_)
            have hCi := hC45 i
            have hLi := anL_le hC45 i
            have f_o : μ1 o = some (hp_o 7 [.int (nI n), .ref (o + 1), .ref (o + 2), .ref (o + 3), .ref (o + 4), .ref (o + 5), .ref (o + 6), .int (nB on), .int (nI tz), .ref (o + 7), .int (nI se), .ref (o + 8), .ref (o + 9), .int (nI (rdK sb se)), .int (nI kl9), .int (nI tc9), .ref (o + 10), .int (nI (fC sb se lv st le sh i)), .ref (o + 11), .int (nI (max (anL (fC sb se lv st le sh) i) 0)), .ref (o + 12), .int (nI an), .ref (o + 13), .int (nI (fm + 1)), .int (nI fo), .ref (o + 14), .ref (o + 15), .int (nI kc), .ref (o + 16)]) := by rw [Nat.max_zero]; exact f_o
            have lp_58 : ∀ (kk58 : Nat) (k : Nat) (H2 : Nat → Nat), (k ≤ fC sb se lv st le sh i) → (∀ x, x < max (anL (fC sb se lv st le sh) i) k → H2 x = (if x < k then digN (anO (fB sb se lv st le sh) (fC sb se lv st le sh) (i + 1)) (anZ (fB sb se lv st le sh) (fC sb se lv st le sh) (i + 1)) x else digN (anO (fB sb se lv st le sh) (fC sb se lv st le sh) i) (anZ (fB sb se lv st le sh) (fC sb se lv st le sh) i) x)) → (fC sb se lv st le sh i - k) < kk58 → ∀ (μ1 : hp_M) (H : Heap) (locs : List Loc) (ls : Array Slot), (μ1 o = some (hp_o 7 [.int (nI n), .ref (o + 1), .ref (o + 2), .ref (o + 3), .ref (o + 4), .ref (o + 5), .ref (o + 6), .int (nB on), .int (nI tz), .ref (o + 7), .int (nI se), .ref (o + 8), .ref (o + 9), .int (nI (rdK sb se)), .int (nI kl9), .int (nI tc9), .ref (o + 10), .int (nI (fC sb se lv st le sh i)), .ref (o + 11), .int (nI (max (anL (fC sb se lv st le sh) i) k)), .ref (o + 12), .int (nI an), .ref (o + 13), .int (nI (fm + 1)), .int (nI fo), .ref (o + 14), .ref (o + 15), .int (nI kc), .ref (o + 16)])) → (μ1 (o + 1) = some (hp_n X 17 Z)) → (μ1 (o + 4) = some (hp_n X 17 S2)) → (μ1 (o + 5) = some (hp_n X 17 L2)) → (μ1 (o + 6) = some (hp_n X 2040 sh2)) → (μ1 (o + 8) = some (hp_n X 160 sb)) → (μ1 (o + 9) = some (hp_i X 18 B9)) → (μ1 (o + 10) = some (hp_n X 48 D9)) → (μ1 (o + 11) = some (hp_n X 64 J2)) → (μ1 (o + 12) = some (hp_n X 64 H2)) → hp_eqM [0, 4, 5, 9, 10, 11, 12] o μ1 μ → hp_w X cls μ1 nx H locs → lv_has ls 3 [(0, .ref o), (1, .int (nI (i + 1))), (2, .int (nI k))] → W p l e { frames := 4, cells := 0, slots := 0, locals := 160 } s m [.ref o].toArray below meth c H locs 0 0 (MQ below (hq_v X (po_v nx (fun z => ∃ (kd9 kl9 tc9 sd9 : Nat) (S9 L9 : Nat → Nat) (B9 : Nat → Int32) (D9 J9 H9 : Nat → Nat), z o = some (hp_o 7 [.int (nI n), .ref (o + 1), .ref (o + 2), .ref (o + 3), .ref (o + 4), .ref (o + 5), .ref (o + 6), .int (nB on), .int (nI tz), .ref (o + 7), .int (nI se), .ref (o + 8), .ref (o + 9), .int (nI kd9), .int (nI kl9), .int (nI tc9), .ref (o + 10), .int (nI sd9), .ref (o + 11), .int (nI (fN n sb se lv st le sh)), .ref (o + 12), .int (nI an), .ref (o + 13), .int (nI (fm + 1)), .int (nI fo), .ref (o + 14), .ref (o + 15), .int (nI kc), .ref (o + 16)]) ∧ z (o + 4) = some (hp_n X 17 S9) ∧ z (o + 5) = some (hp_n X 17 L9) ∧ z (o + 9) = some (hp_i X 18 B9) ∧ z (o + 10) = some (hp_n X 48 D9) ∧ z (o + 11) = some (hp_n X 64 J9) ∧ z (o + 12) = some (hp_n X 64 H9) ∧ (∀ j, j < n → S9 (j + 1) = fS sb se lv st le sh j) ∧ (∀ j, j < n → L9 (j + 1) = fL sb se lv st le sh j) ∧ (∀ j, J9 j < 2) ∧ (∀ x, x < fN n sb se lv st le sh → H9 x = digN (fO n sb se lv st le sh) (fZ n sb se lv st le sh) x) ∧ hp_eqM [0, 4, 5, 9, 10, 11, 12] o z μ))) [.ref o].toArray s 0 0 (hp_A X)) (F0 m 58 ls []) := by
              intro kk58
              induction kk58 with
              | zero =>
                intro k H2 hk hH2 hkk58
                exact absurd hkk58 (Nat.not_lt_zero _)
              | succ kk58 ih58 =>
                intro k H2 hk hH2 hkk58 μ1 H locs ls f_o f_1 f_4 f_5 f_6 f_8 f_9 f_10 f_11 f_12 fr hH hl
                refine lv_iload_n hx hb dX11_send_58 rfl (lv_at hl 2 rfl) ?_
                refine lv_aload_n hx hb dX11_send_59 rfl (lv_at hl 0 rfl) ?_
                refine hp_get hx hb hown hS.2.1 hH (F_X11_110.use hS) f_o rfl dX11_send_60 ?_
                refine lv_icmp_ge (tgt := 124) hx hb dX11_send_63 (by decide) (fun c_63 => ?_) (fun c_63 => ?_)
                · have c_63 : (fC sb se lv st le sh i) ≤ k := (nI_leI (by omega) (by omega)).mp c_63
                  refine lv_iinc (v := nI (i + 1 + 1)) (lv' := [(1, .int (nI (i + 1 + 1))), (0, .ref o), (2, .int (nI k))]) hx hb dX11_send_124 hl (k := 1) rfl (nI_add _ 1) (by decide) rfl (fun ls hl => ?_)
                  refine lv_goto (tgt := 29) hx hb dX11_send_127 (by decide) ?_
                  have f_o : μ1 o = some (hp_o 7 [.int (nI n), .ref (o + 1), .ref (o + 2), .ref (o + 3), .ref (o + 4), .ref (o + 5), .ref (o + 6), .int (nB on), .int (nI tz), .ref (o + 7), .int (nI se), .ref (o + 8), .ref (o + 9), .int (nI (rdK sb se)), .int (nI kl9), .int (nI tc9), .ref (o + 10), .int (nI (fC sb se lv st le sh i)), .ref (o + 11), .int (nI (anL (fC sb se lv st le sh) (i + 1))), .ref (o + 12), .int (nI an), .ref (o + 13), .int (nI (fm + 1)), .int (nI fo), .ref (o + 14), .ref (o + 15), .int (nI kc), .ref (o + 16)]) := by rw [show anL (fC sb se lv st le sh) (i + 1) = max (anL (fC sb se lv st le sh) i) k by show max (anL (fC sb se lv st le sh) i) (fC sb se lv st le sh i) = _; omega]; exact f_o
                  exact ih29 (i + 1) (fC sb se lv st le sh i) S2 L2 J2 H2 (by omega) hS2 hL2 hJ2 (fun x hx => by have hx2 : x < max (anL (fC sb se lv st le sh) i) (fC sb se lv st le sh i) := hx; rw [hH2 x (by omega)]; split; rfl; exact (mg_keep hB64 hC45 (by omega)).symm) (by omega) _ _ _ _ f_o f_1 f_4 f_5 f_6 f_8 f_9 f_10 f_11 f_12 fr hH (lv_sub hl [1, 0] rfl)
                · have c_63 : ¬ ((fC sb se lv st le sh i) ≤ k) := fun z => c_63 ((nI_leI (by omega) (by omega)).mpr z)
                  refine lv_iload_n hx hb dX11_send_66 rfl (lv_at hl 2 rfl) ?_
                  refine lv_aload_n hx hb dX11_send_67 rfl (lv_at hl 0 rfl) ?_
                  refine hp_get hx hb hown hS.2.1 hH (F_X11_139.use hS) f_o rfl dX11_send_68 ?_
                  refine lv_icmp_lt (tgt := 96) hx hb dX11_send_71 (by decide) (fun c_71 => ?_) (fun c_71 => ?_)
                  · have c_71 : k < (max (anL (fC sb se lv st le sh) i) k) := (nI_ltI (by omega) (by omega)).mp c_71
                    refine lv_aload_n hx hb dX11_send_96 rfl (lv_at hl 0 rfl) ?_
                    refine hp_get hx hb hown hS.2.1 hH (F_X11_48.use hS) f_o rfl dX11_send_97 ?_
                    refine lv_iload_n hx hb dX11_send_100 rfl (lv_at hl 2 rfl) ?_
                    refine hp_ialdN hx hb hS.ai hH f_12 (by omega) (by omega) dX11_send_101 ?_
                    refine hp_eqi (z := nI (digN (anO (fB sb se lv st le sh) (fC sb se lv st le sh) i) (anZ (fB sb se lv st le sh) (fC sb se lv st le sh) i) k)) (congrArg nI ((hH2 k (by omega)).trans (if_neg (Nat.lt_irrefl k)))) ?_
                    refine lv_aload_n hx hb dX11_send_102 rfl (lv_at hl 0 rfl) ?_
                    refine hp_get hx hb hown hS.2.1 hH (F_X11_45.use hS) f_o rfl dX11_send_103 ?_
                    refine lv_iload_n hx hb dX11_send_106 rfl (lv_at hl 2 rfl) ?_
                    refine hp_ialdN hx hb hS.ai hH f_11 (by omega) (by omega) dX11_send_107 ?_
                    refine hp_eqi (z := nI (fB sb se lv st le sh i / 2 ^ k % 2)) (congrArg nI (hbit k (by omega))) ?_
                    have hdg2 := digN_le (anO (fB sb se lv st le sh) (fC sb se lv st le sh) i) (anZ (fB sb se lv st le sh) (fC sb se lv st le sh) i) k
                    refine lv_icmp_eq (tgt := 118) hx hb dX11_send_108 (by decide) (fun c_108 => ?_) (fun c_108 => ?_)
                    · have c_108 : (digN (anO (fB sb se lv st le sh) (fC sb se lv st le sh) i) (anZ (fB sb se lv st le sh) (fC sb se lv st le sh) i) k) = (fB sb se lv st le sh i / 2 ^ k % 2) := (nI_eq (by omega) (by omega)).mp c_108
                      refine lv_iinc (v := nI (k + 1)) (lv' := [(2, .int (nI (k + 1))), (0, .ref o), (1, .int (nI (i + 1)))]) hx hb dX11_send_118 hl (k := 2) rfl (nI_add _ 1) (by decide) rfl (fun ls hl => ?_)
                      refine lv_goto (tgt := 58) hx hb dX11_send_121 (by decide) ?_
                      have f_o : μ1 o = some (hp_o 7 [.int (nI n), .ref (o + 1), .ref (o + 2), .ref (o + 3), .ref (o + 4), .ref (o + 5), .ref (o + 6), .int (nB on), .int (nI tz), .ref (o + 7), .int (nI se), .ref (o + 8), .ref (o + 9), .int (nI (rdK sb se)), .int (nI kl9), .int (nI tc9), .ref (o + 10), .int (nI (fC sb se lv st le sh i)), .ref (o + 11), .int (nI (max (anL (fC sb se lv st le sh) i) (k + 1))), .ref (o + 12), .int (nI an), .ref (o + 13), .int (nI (fm + 1)), .int (nI fo), .ref (o + 14), .ref (o + 15), .int (nI kc), .ref (o + 16)]) := by rw [show max (anL (fC sb se lv st le sh) i) (k + 1) = max (anL (fC sb se lv st le sh) i) k by omega]; exact f_o
                      have hH3 : ∀ x, x < max (anL (fC sb se lv st le sh) i) (k + 1) → (H2) x = (if x < k + 1 then digN (anO (fB sb se lv st le sh) (fC sb se lv st le sh) (i + 1)) (anZ (fB sb se lv st le sh) (fC sb se lv st le sh) (i + 1)) x else digN (anO (fB sb se lv st le sh) (fC sb se lv st le sh) i) (anZ (fB sb se lv st le sh) (fC sb se lv st le sh) i) x) := fun x hx => by
                        by_cases ex : x = k
                        · rw [ex, if_pos (Nat.lt_succ_self k), mg_old hB64 hC45 (by omega) (by omega), if_pos c_108, hH2 k (by omega), if_neg (Nat.lt_irrefl k)]
                        · refine (rfl : _ = H2 x).trans ((hH2 x (by omega)).trans ?_)
                          by_cases hxk : x < k
                          · rw [if_pos hxk, if_pos (show x < k + 1 by omega)]
                          · rw [if_neg hxk, if_neg (show ¬ x < k + 1 by omega)]
                      exact ih58 (k + 1) H2 (by omega) hH3 (by omega) _ _ _ _ f_o f_1 f_4 f_5 f_6 f_8 f_9 f_10 f_11 f_12 fr hH (lv_sub hl [1, 2, 0] rfl)
                    · have c_108 : ¬ ((digN (anO (fB sb se lv st le sh) (fC sb se lv st le sh) i) (anZ (fB sb se lv st le sh) (fC sb se lv st le sh) i) k) = (fB sb se lv st le sh i / 2 ^ k % 2)) := fun z => c_108 ((nI_eq (by omega) (by omega)).mpr z)
                      refine lv_aload_n hx hb dX11_send_111 rfl (lv_at hl 0 rfl) ?_
                      refine hp_get hx hb hown hS.2.1 hH (F_X11_48.use hS) f_o rfl dX11_send_112 ?_
                      refine lv_iload_n hx hb dX11_send_115 rfl (lv_at hl 2 rfl) ?_
                      refine lv_iconst (v := nI 2) hx hb dX11_send_116 (by decide) ?_
                      refine hp_iastN hx hb hS.ai hH f_12 (by omega) (by omega) dX11_send_117 (fun H locs μ1 fz fn hH => ?_)
                      have f_o := (fn _ (by omega)).trans f_o
                      have f_1 := (fn _ (by omega)).trans f_1
                      have f_4 := (fn _ (by omega)).trans f_4
                      have f_5 := (fn _ (by omega)).trans f_5
                      have f_6 := (fn _ (by omega)).trans f_6
                      have f_8 := (fn _ (by omega)).trans f_8
                      have f_9 := (fn _ (by omega)).trans f_9
                      have f_10 := (fn _ (by omega)).trans f_10
                      have f_11 := (fn _ (by omega)).trans f_11
                      have f_12 : μ1 (o + 12) = some (hp_n X 64 (setN H2 k 2)) := fz
                      have fr := hp_eqM.put (k := 12) fr (by decide) fn
                      clear fz fn
                      refine lv_iinc (v := nI (k + 1)) (lv' := [(2, .int (nI (k + 1))), (0, .ref o), (1, .int (nI (i + 1)))]) hx hb dX11_send_118 hl (k := 2) rfl (nI_add _ 1) (by decide) rfl (fun ls hl => ?_)
                      refine lv_goto (tgt := 58) hx hb dX11_send_121 (by decide) ?_
                      have f_o : μ1 o = some (hp_o 7 [.int (nI n), .ref (o + 1), .ref (o + 2), .ref (o + 3), .ref (o + 4), .ref (o + 5), .ref (o + 6), .int (nB on), .int (nI tz), .ref (o + 7), .int (nI se), .ref (o + 8), .ref (o + 9), .int (nI (rdK sb se)), .int (nI kl9), .int (nI tc9), .ref (o + 10), .int (nI (fC sb se lv st le sh i)), .ref (o + 11), .int (nI (max (anL (fC sb se lv st le sh) i) (k + 1))), .ref (o + 12), .int (nI an), .ref (o + 13), .int (nI (fm + 1)), .int (nI fo), .ref (o + 14), .ref (o + 15), .int (nI kc), .ref (o + 16)]) := by rw [show max (anL (fC sb se lv st le sh) i) (k + 1) = max (anL (fC sb se lv st le sh) i) k by omega]; exact f_o
                      have hH3 : ∀ x, x < max (anL (fC sb se lv st le sh) i) (k + 1) → (setN H2 k 2) x = (if x < k + 1 then digN (anO (fB sb se lv st le sh) (fC sb se lv st le sh) (i + 1)) (anZ (fB sb se lv st le sh) (fC sb se lv st le sh) (i + 1)) x else digN (anO (fB sb se lv st le sh) (fC sb se lv st le sh) i) (anZ (fB sb se lv st le sh) (fC sb se lv st le sh) i) x) := fun x hx => by
                        by_cases ex : x = k
                        · rw [ex, setN_s, if_pos (Nat.lt_succ_self k), mg_old hB64 hC45 (by omega) (by omega), if_neg c_108]
                        · refine (setN_o ex : _ = H2 x).trans ((hH2 x (by omega)).trans ?_)
                          by_cases hxk : x < k
                          · rw [if_pos hxk, if_pos (show x < k + 1 by omega)]
                          · rw [if_neg hxk, if_neg (show ¬ x < k + 1 by omega)]
                      exact ih58 (k + 1) (setN H2 k 2) (by omega) hH3 (by omega) _ _ _ _ f_o f_1 f_4 f_5 f_6 f_8 f_9 f_10 f_11 f_12 fr hH (lv_sub hl [1, 2, 0] rfl)
                  · have c_71 : ¬ (k < (max (anL (fC sb se lv st le sh) i) k)) := fun z => c_71 ((nI_ltI (by omega) (by omega)).mpr z)
                    refine lv_aload_n hx hb dX11_send_74 rfl (lv_at hl 0 rfl) ?_
                    refine hp_get hx hb hown hS.2.1 hH (F_X11_48.use hS) f_o rfl dX11_send_75 ?_
                    refine lv_iload_n hx hb dX11_send_78 rfl (lv_at hl 2 rfl) ?_
                    refine lv_aload_n hx hb dX11_send_79 rfl (lv_at hl 0 rfl) ?_
                    refine hp_get hx hb hown hS.2.1 hH (F_X11_45.use hS) f_o rfl dX11_send_80 ?_
                    refine lv_iload_n hx hb dX11_send_83 rfl (lv_at hl 2 rfl) ?_
                    refine hp_ialdN hx hb hS.ai hH f_11 (by omega) (by omega) dX11_send_84 ?_
                    refine hp_eqi (z := nI (fB sb se lv st le sh i / 2 ^ k % 2)) (congrArg nI (hbit k (by omega))) ?_
                    refine hp_iastN hx hb hS.ai hH f_12 (by omega) (by omega) dX11_send_85 (fun H locs μ1 fz fn hH => ?_)
                    have f_o := (fn _ (by omega)).trans f_o
                    have f_1 := (fn _ (by omega)).trans f_1
                    have f_4 := (fn _ (by omega)).trans f_4
                    have f_5 := (fn _ (by omega)).trans f_5
                    have f_6 := (fn _ (by omega)).trans f_6
                    have f_8 := (fn _ (by omega)).trans f_8
                    have f_9 := (fn _ (by omega)).trans f_9
                    have f_10 := (fn _ (by omega)).trans f_10
                    have f_11 := (fn _ (by omega)).trans f_11
                    have f_12 : μ1 (o + 12) = some (hp_n X 64 (setN H2 k (fB sb se lv st le sh i / 2 ^ k % 2))) := fz
                    have fr := hp_eqM.put (k := 12) fr (by decide) fn
                    clear fz fn
                    refine lv_aload_n hx hb dX11_send_86 rfl (lv_at hl 0 rfl) ?_
                    refine lv_iload_n hx hb dX11_send_87 rfl (lv_at hl 2 rfl) ?_
                    refine lv_iconst (v := nI 1) hx hb dX11_send_88 (by decide) ?_
                    refine lv_iadd hx hb dX11_send_89 ?_
                    refine hp_eqi (z := nI (k + 1)) (nI_add _ _) ?_
                    refine hp_put hx hb hown hS.2.1 hH (P_X11_139.use hS) f_o rfl rfl (Nat.le_of_ble_eq_true rfl) dX11_send_90 (fun H locs μ1 fz fn hH => ?_)
                    have f_1 := (fn _ (by omega)).trans f_1
                    have f_4 := (fn _ (by omega)).trans f_4
                    have f_5 := (fn _ (by omega)).trans f_5
                    have f_6 := (fn _ (by omega)).trans f_6
                    have f_8 := (fn _ (by omega)).trans f_8
                    have f_9 := (fn _ (by omega)).trans f_9
                    have f_10 := (fn _ (by omega)).trans f_10
                    have f_11 := (fn _ (by omega)).trans f_11
                    have f_12 := (fn _ (by omega)).trans f_12
                    have f_o : μ1 o = some (hp_o 7 [.int (nI n), .ref (o + 1), .ref (o + 2), .ref (o + 3), .ref (o + 4), .ref (o + 5), .ref (o + 6), .int (nB on), .int (nI tz), .ref (o + 7), .int (nI se), .ref (o + 8), .ref (o + 9), .int (nI (rdK sb se)), .int (nI kl9), .int (nI tc9), .ref (o + 10), .int (nI (fC sb se lv st le sh i)), .ref (o + 11), .int (nI (k + 1)), .ref (o + 12), .int (nI an), .ref (o + 13), .int (nI (fm + 1)), .int (nI fo), .ref (o + 14), .ref (o + 15), .int (nI kc), .ref (o + 16)]) := fz
                    have fr := hp_eqM.put (k := 0) fr (by decide) fn
                    clear fz fn
                    refine lv_goto (tgt := 118) hx hb dX11_send_93 (by decide) ?_
                    refine lv_iinc (v := nI (k + 1)) (lv' := [(2, .int (nI (k + 1))), (0, .ref o), (1, .int (nI (i + 1)))]) hx hb dX11_send_118 hl (k := 2) rfl (nI_add _ 1) (by decide) rfl (fun ls hl => ?_)
                    refine lv_goto (tgt := 58) hx hb dX11_send_121 (by decide) ?_
                    have f_o : μ1 o = some (hp_o 7 [.int (nI n), .ref (o + 1), .ref (o + 2), .ref (o + 3), .ref (o + 4), .ref (o + 5), .ref (o + 6), .int (nB on), .int (nI tz), .ref (o + 7), .int (nI se), .ref (o + 8), .ref (o + 9), .int (nI (rdK sb se)), .int (nI kl9), .int (nI tc9), .ref (o + 10), .int (nI (fC sb se lv st le sh i)), .ref (o + 11), .int (nI (max (anL (fC sb se lv st le sh) i) (k + 1))), .ref (o + 12), .int (nI an), .ref (o + 13), .int (nI (fm + 1)), .int (nI fo), .ref (o + 14), .ref (o + 15), .int (nI kc), .ref (o + 16)]) := by rw [show max (anL (fC sb se lv st le sh) i) (k + 1) = k + 1 by omega]; exact f_o
                    have hH3 : ∀ x, x < max (anL (fC sb se lv st le sh) i) (k + 1) → (setN H2 k (fB sb se lv st le sh i / 2 ^ k % 2)) x = (if x < k + 1 then digN (anO (fB sb se lv st le sh) (fC sb se lv st le sh) (i + 1)) (anZ (fB sb se lv st le sh) (fC sb se lv st le sh) (i + 1)) x else digN (anO (fB sb se lv st le sh) (fC sb se lv st le sh) i) (anZ (fB sb se lv st le sh) (fC sb se lv st le sh) i) x) := fun x hx => by
                      by_cases ex : x = k
                      · rw [ex, setN_s, if_pos (Nat.lt_succ_self k), mg_new hB64 hC45 (by omega) (by omega)]
                      · refine (setN_o ex : _ = H2 x).trans ((hH2 x (by omega)).trans ?_)
                        by_cases hxk : x < k
                        · rw [if_pos hxk, if_pos (show x < k + 1 by omega)]
                        · rw [if_neg hxk, if_neg (show ¬ x < k + 1 by omega)]
                    exact ih58 (k + 1) (setN H2 k (fB sb se lv st le sh i / 2 ^ k % 2)) (by omega) hH3 (by omega) _ _ _ _ f_o f_1 f_4 f_5 f_6 f_8 f_9 f_10 f_11 f_12 fr hH (lv_sub hl [1, 2, 0] rfl)
            exact lp_58 ((fC sb se lv st le sh i - 0) + 1) 0 H1 (Nat.zero_le _) (fun x hx => by rw [if_neg (Nat.not_lt_zero x)]; exact hH1 x (by omega)) (Nat.lt_succ_self _) _ _ _ _ f_o f_1 f_4 f_5 f_6 f_8 f_9 f_10 f_11 f_12 fr hH (lv_sub hl [1, 2, 0] rfl)
          · have c_48 : 0 < (st i) := nz_nle (by omega) c_48
            refine lv_aload_n hx hb dX11_send_51 rfl (lv_at hl 0 rfl) ?_
            refine lv_iload_n hx hb dX11_send_52 rfl (lv_at hl 1 rfl) ?_
            have tg := tg_ref (sb := sb) (se := se) (lv := lv) (st := st) (le := le) (sh := sh) (i := i) (kl := kl9) (tc := tc9) (fun hk => ⟨(hk34 hk).1, (hk34 hk).2.1⟩)
            refine hp_kvm (hp_runV (As := [.int (nI (i + 1))]) (rest := []) hx hb hml hown hS hH (c_X11_hear l X (t := i + 1) (sl := sh i (le i - 1)) (td := rdT sb se) (lv := lv i) (se2 := valN sb se 9 8) (by rw [eS]; exact c_48) (by rw [eS]; exact hst9) (by omega) (hZr i hin) hlv9.1 hlv9.2 (by rw [eL]; exact hle9.1) (by rw [eL]; omega) (by rw [eL]; exact hle9.2) hK8 (fun hk => by rw [(hk34 hk).1]; omega) (fun hk => ⟨by rw [(hk34 hk).2.1]; exact hRC, (hk34 hk).2.2⟩) (fun hk => ⟨hk6 hk, valN_lt h01 se 9 8⟩) hJ1 (fun k hk => by rw [eL]; exact hsh2 i hin (le i - 1) (by omega) k hk) f_o f_1 f_4 f_5 f_6 f_9 f_10 f_11) M_X11_145 I_X11_hear V_X11_hear (ci := 7) rfl rfl f_o rfl hl.1 rfl (Nat.le_of_ble_eq_true rfl) dX11_send_53 ⟨Nat.le_of_ble_eq_true rfl, Nat.le_of_ble_eq_true rfl⟩ ⟨Nat.le_of_ble_eq_true rfl, Nat.le_of_ble_eq_true rfl⟩) hH (fun μ1 H locs hp hH => ?_)
            obtain ⟨J2, hJ2, fz0, fz1, fz2, fz3, hbit, fe⟩ := hp
            have f_1 := (fe.at 1 (by decide)).trans f_1
            have f_6 := (fe.at 6 (by decide)).trans f_6
            have f_8 := (fe.at 8 (by decide)).trans f_8
            have f_9 := (fe.at 9 (by decide)).trans f_9
            have f_10 := (fe.at 10 (by decide)).trans f_10
            have f_12 := (fe.at 12 (by decide)).trans f_12
            rw [eS, eL] at fz0 fz1 fz2 hbit
            rw [tg.2.2.1] at fz0 hbit
            rw [tg.2.2.2] at hbit
            rw [tg.1] at fz1
            rw [tg.2.1] at fz2
            have f_o := fz0
            have f_4 := fz1
            have f_5 := fz2
            have f_11 := fz3
            have fr := hp_eqM.tr fe fr (by decide)
            clear fe fz0 fz1 fz2 fz3
            have hS2 : ∀ j, j < n → setN S1 (i + 1) (fS sb se lv st le sh i) (j + 1) = mixN (i + 1) (fS sb se lv st le sh) st j := fun j hj => by
              by_cases ej : j = i
              · rw [ej, mixN_s, setN_s]
              · rw [mixN_o _ _ ej, setN_o (by omega)]; exact hS1 j hj
            have hL2 : ∀ j, j < n → setN L1 (i + 1) (fL sb se lv st le sh i) (j + 1) = mixN (i + 1) (fL sb se lv st le sh) le j := fun j hj => by
              by_cases ej : j = i
              · rw [ej, mixN_s, setN_s]
              · rw [mixN_o _ _ ej, setN_o (by omega)]; exact hL1 j hj
            generalize setN S1 (i + 1) (fS sb se lv st le sh i) = S2 at hS2 f_4
            generalize setN L1 (i + 1) (fL sb se lv st le sh i) = L2 at hL2 f_5
            refine lv_iconst (v := nI 0) hx hb dX11_send_56 (by decide) ?_
            refine lv_istore_n (lv' := [(2, .int (nI 0)), (0, .ref o), (1, .int (nI (i + 1)))]) hx hb dX11_send_57 rfl hl (by decide) rfl (fun ls hl => ?_)
            have hCi := hC45 i
            have hLi := anL_le hC45 i
            have f_o : μ1 o = some (hp_o 7 [.int (nI n), .ref (o + 1), .ref (o + 2), .ref (o + 3), .ref (o + 4), .ref (o + 5), .ref (o + 6), .int (nB on), .int (nI tz), .ref (o + 7), .int (nI se), .ref (o + 8), .ref (o + 9), .int (nI (rdK sb se)), .int (nI kl9), .int (nI tc9), .ref (o + 10), .int (nI (fC sb se lv st le sh i)), .ref (o + 11), .int (nI (max (anL (fC sb se lv st le sh) i) 0)), .ref (o + 12), .int (nI an), .ref (o + 13), .int (nI (fm + 1)), .int (nI fo), .ref (o + 14), .ref (o + 15), .int (nI kc), .ref (o + 16)]) := by rw [Nat.max_zero]; exact f_o
            have lp_58 : ∀ (kk58 : Nat) (k : Nat) (H2 : Nat → Nat), (k ≤ fC sb se lv st le sh i) → (∀ x, x < max (anL (fC sb se lv st le sh) i) k → H2 x = (if x < k then digN (anO (fB sb se lv st le sh) (fC sb se lv st le sh) (i + 1)) (anZ (fB sb se lv st le sh) (fC sb se lv st le sh) (i + 1)) x else digN (anO (fB sb se lv st le sh) (fC sb se lv st le sh) i) (anZ (fB sb se lv st le sh) (fC sb se lv st le sh) i) x)) → (fC sb se lv st le sh i - k) < kk58 → ∀ (μ1 : hp_M) (H : Heap) (locs : List Loc) (ls : Array Slot), (μ1 o = some (hp_o 7 [.int (nI n), .ref (o + 1), .ref (o + 2), .ref (o + 3), .ref (o + 4), .ref (o + 5), .ref (o + 6), .int (nB on), .int (nI tz), .ref (o + 7), .int (nI se), .ref (o + 8), .ref (o + 9), .int (nI (rdK sb se)), .int (nI kl9), .int (nI tc9), .ref (o + 10), .int (nI (fC sb se lv st le sh i)), .ref (o + 11), .int (nI (max (anL (fC sb se lv st le sh) i) k)), .ref (o + 12), .int (nI an), .ref (o + 13), .int (nI (fm + 1)), .int (nI fo), .ref (o + 14), .ref (o + 15), .int (nI kc), .ref (o + 16)])) → (μ1 (o + 1) = some (hp_n X 17 Z)) → (μ1 (o + 4) = some (hp_n X 17 S2)) → (μ1 (o + 5) = some (hp_n X 17 L2)) → (μ1 (o + 6) = some (hp_n X 2040 sh2)) → (μ1 (o + 8) = some (hp_n X 160 sb)) → (μ1 (o + 9) = some (hp_i X 18 B9)) → (μ1 (o + 10) = some (hp_n X 48 D9)) → (μ1 (o + 11) = some (hp_n X 64 J2)) → (μ1 (o + 12) = some (hp_n X 64 H2)) → hp_eqM [0, 4, 5, 9, 10, 11, 12] o μ1 μ → hp_w X cls μ1 nx H locs → lv_has ls 3 [(0, .ref o), (1, .int (nI (i + 1))), (2, .int (nI k))] → W p l e { frames := 4, cells := 0, slots := 0, locals := 160 } s m [.ref o].toArray below meth c H locs 0 0 (MQ below (hq_v X (po_v nx (fun z => ∃ (kd9 kl9 tc9 sd9 : Nat) (S9 L9 : Nat → Nat) (B9 : Nat → Int32) (D9 J9 H9 : Nat → Nat), z o = some (hp_o 7 [.int (nI n), .ref (o + 1), .ref (o + 2), .ref (o + 3), .ref (o + 4), .ref (o + 5), .ref (o + 6), .int (nB on), .int (nI tz), .ref (o + 7), .int (nI se), .ref (o + 8), .ref (o + 9), .int (nI kd9), .int (nI kl9), .int (nI tc9), .ref (o + 10), .int (nI sd9), .ref (o + 11), .int (nI (fN n sb se lv st le sh)), .ref (o + 12), .int (nI an), .ref (o + 13), .int (nI (fm + 1)), .int (nI fo), .ref (o + 14), .ref (o + 15), .int (nI kc), .ref (o + 16)]) ∧ z (o + 4) = some (hp_n X 17 S9) ∧ z (o + 5) = some (hp_n X 17 L9) ∧ z (o + 9) = some (hp_i X 18 B9) ∧ z (o + 10) = some (hp_n X 48 D9) ∧ z (o + 11) = some (hp_n X 64 J9) ∧ z (o + 12) = some (hp_n X 64 H9) ∧ (∀ j, j < n → S9 (j + 1) = fS sb se lv st le sh j) ∧ (∀ j, j < n → L9 (j + 1) = fL sb se lv st le sh j) ∧ (∀ j, J9 j < 2) ∧ (∀ x, x < fN n sb se lv st le sh → H9 x = digN (fO n sb se lv st le sh) (fZ n sb se lv st le sh) x) ∧ hp_eqM [0, 4, 5, 9, 10, 11, 12] o z μ))) [.ref o].toArray s 0 0 (hp_A X)) (F0 m 58 ls []) := by
              intro kk58
              induction kk58 with
              | zero =>
                intro k H2 hk hH2 hkk58
                exact absurd hkk58 (Nat.not_lt_zero _)
              | succ kk58 ih58 =>
                intro k H2 hk hH2 hkk58 μ1 H locs ls f_o f_1 f_4 f_5 f_6 f_8 f_9 f_10 f_11 f_12 fr hH hl
                refine lv_iload_n hx hb dX11_send_58 rfl (lv_at hl 2 rfl) ?_
                refine lv_aload_n hx hb dX11_send_59 rfl (lv_at hl 0 rfl) ?_
                refine hp_get hx hb hown hS.2.1 hH (F_X11_110.use hS) f_o rfl dX11_send_60 ?_
                refine lv_icmp_ge (tgt := 124) hx hb dX11_send_63 (by decide) (fun c_63 => ?_) (fun c_63 => ?_)
                · have c_63 : (fC sb se lv st le sh i) ≤ k := (nI_leI (by omega) (by omega)).mp c_63
                  refine lv_iinc (v := nI (i + 1 + 1)) (lv' := [(1, .int (nI (i + 1 + 1))), (0, .ref o), (2, .int (nI k))]) hx hb dX11_send_124 hl (k := 1) rfl (nI_add _ 1) (by decide) rfl (fun ls hl => ?_)
                  refine lv_goto (tgt := 29) hx hb dX11_send_127 (by decide) ?_
                  have f_o : μ1 o = some (hp_o 7 [.int (nI n), .ref (o + 1), .ref (o + 2), .ref (o + 3), .ref (o + 4), .ref (o + 5), .ref (o + 6), .int (nB on), .int (nI tz), .ref (o + 7), .int (nI se), .ref (o + 8), .ref (o + 9), .int (nI (rdK sb se)), .int (nI kl9), .int (nI tc9), .ref (o + 10), .int (nI (fC sb se lv st le sh i)), .ref (o + 11), .int (nI (anL (fC sb se lv st le sh) (i + 1))), .ref (o + 12), .int (nI an), .ref (o + 13), .int (nI (fm + 1)), .int (nI fo), .ref (o + 14), .ref (o + 15), .int (nI kc), .ref (o + 16)]) := by rw [show anL (fC sb se lv st le sh) (i + 1) = max (anL (fC sb se lv st le sh) i) k by show max (anL (fC sb se lv st le sh) i) (fC sb se lv st le sh i) = _; omega]; exact f_o
                  exact ih29 (i + 1) (fC sb se lv st le sh i) S2 L2 J2 H2 (by omega) hS2 hL2 hJ2 (fun x hx => by have hx2 : x < max (anL (fC sb se lv st le sh) i) (fC sb se lv st le sh i) := hx; rw [hH2 x (by omega)]; split; rfl; exact (mg_keep hB64 hC45 (by omega)).symm) (by omega) _ _ _ _ f_o f_1 f_4 f_5 f_6 f_8 f_9 f_10 f_11 f_12 fr hH (lv_sub hl [1, 0] rfl)
                · have c_63 : ¬ ((fC sb se lv st le sh i) ≤ k) := fun z => c_63 ((nI_leI (by omega) (by omega)).mpr z)
                  refine lv_iload_n hx hb dX11_send_66 rfl (lv_at hl 2 rfl) ?_
                  refine lv_aload_n hx hb dX11_send_67 rfl (lv_at hl 0 rfl) ?_
                  refine hp_get hx hb hown hS.2.1 hH (F_X11_139.use hS) f_o rfl dX11_send_68 ?_
                  refine lv_icmp_lt (tgt := 96) hx hb dX11_send_71 (by decide) (fun c_71 => ?_) (fun c_71 => ?_)
                  · have c_71 : k < (max (anL (fC sb se lv st le sh) i) k) := (nI_ltI (by omega) (by omega)).mp c_71
                    refine lv_aload_n hx hb dX11_send_96 rfl (lv_at hl 0 rfl) ?_
                    refine hp_get hx hb hown hS.2.1 hH (F_X11_48.use hS) f_o rfl dX11_send_97 ?_
                    refine lv_iload_n hx hb dX11_send_100 rfl (lv_at hl 2 rfl) ?_
                    refine hp_ialdN hx hb hS.ai hH f_12 (by omega) (by omega) dX11_send_101 ?_
                    refine hp_eqi (z := nI (digN (anO (fB sb se lv st le sh) (fC sb se lv st le sh) i) (anZ (fB sb se lv st le sh) (fC sb se lv st le sh) i) k)) (congrArg nI ((hH2 k (by omega)).trans (if_neg (Nat.lt_irrefl k)))) ?_
                    refine lv_aload_n hx hb dX11_send_102 rfl (lv_at hl 0 rfl) ?_
                    refine hp_get hx hb hown hS.2.1 hH (F_X11_45.use hS) f_o rfl dX11_send_103 ?_
                    refine lv_iload_n hx hb dX11_send_106 rfl (lv_at hl 2 rfl) ?_
                    refine hp_ialdN hx hb hS.ai hH f_11 (by omega) (by omega) dX11_send_107 ?_
                    refine hp_eqi (z := nI (fB sb se lv st le sh i / 2 ^ k % 2)) (congrArg nI (hbit k (by omega))) ?_
                    have hdg2 := digN_le (anO (fB sb se lv st le sh) (fC sb se lv st le sh) i) (anZ (fB sb se lv st le sh) (fC sb se lv st le sh) i) k
                    refine lv_icmp_eq (tgt := 118) hx hb dX11_send_108 (by decide) (fun c_108 => ?_) (fun c_108 => ?_)
                    · have c_108 : (digN (anO (fB sb se lv st le sh) (fC sb se lv st le sh) i) (anZ (fB sb se lv st le sh) (fC sb se lv st le sh) i) k) = (fB sb se lv st le sh i / 2 ^ k % 2) := (nI_eq (by omega) (by omega)).mp c_108
                      refine lv_iinc (v := nI (k + 1)) (lv' := [(2, .int (nI (k + 1))), (0, .ref o), (1, .int (nI (i + 1)))]) hx hb dX11_send_118 hl (k := 2) rfl (nI_add _ 1) (by decide) rfl (fun ls hl => ?_)
                      refine lv_goto (tgt := 58) hx hb dX11_send_121 (by decide) ?_
                      have f_o : μ1 o = some (hp_o 7 [.int (nI n), .ref (o + 1), .ref (o + 2), .ref (o + 3), .ref (o + 4), .ref (o + 5), .ref (o + 6), .int (nB on), .int (nI tz), .ref (o + 7), .int (nI se), .ref (o + 8), .ref (o + 9), .int (nI (rdK sb se)), .int (nI kl9), .int (nI tc9), .ref (o + 10), .int (nI (fC sb se lv st le sh i)), .ref (o + 11), .int (nI (max (anL (fC sb se lv st le sh) i) (k + 1))), .ref (o + 12), .int (nI an), .ref (o + 13), .int (nI (fm + 1)), .int (nI fo), .ref (o + 14), .ref (o + 15), .int (nI kc), .ref (o + 16)]) := by rw [show max (anL (fC sb se lv st le sh) i) (k + 1) = max (anL (fC sb se lv st le sh) i) k by omega]; exact f_o
                      have hH3 : ∀ x, x < max (anL (fC sb se lv st le sh) i) (k + 1) → (H2) x = (if x < k + 1 then digN (anO (fB sb se lv st le sh) (fC sb se lv st le sh) (i + 1)) (anZ (fB sb se lv st le sh) (fC sb se lv st le sh) (i + 1)) x else digN (anO (fB sb se lv st le sh) (fC sb se lv st le sh) i) (anZ (fB sb se lv st le sh) (fC sb se lv st le sh) i) x) := fun x hx => by
                        by_cases ex : x = k
                        · rw [ex, if_pos (Nat.lt_succ_self k), mg_old hB64 hC45 (by omega) (by omega), if_pos c_108, hH2 k (by omega), if_neg (Nat.lt_irrefl k)]
                        · refine (rfl : _ = H2 x).trans ((hH2 x (by omega)).trans ?_)
                          by_cases hxk : x < k
                          · rw [if_pos hxk, if_pos (show x < k + 1 by omega)]
                          · rw [if_neg hxk, if_neg (show ¬ x < k + 1 by omega)]
                      exact ih58 (k + 1) H2 (by omega) hH3 (by omega) _ _ _ _ f_o f_1 f_4 f_5 f_6 f_8 f_9 f_10 f_11 f_12 fr hH (lv_sub hl [1, 2, 0] rfl)
                    · have c_108 : ¬ ((digN (anO (fB sb se lv st le sh) (fC sb se lv st le sh) i) (anZ (fB sb se lv st le sh) (fC sb se lv st le sh) i) k) = (fB sb se lv st le sh i / 2 ^ k % 2)) := fun z => c_108 ((nI_eq (by omega) (by omega)).mpr z)
                      refine lv_aload_n hx hb dX11_send_111 rfl (lv_at hl 0 rfl) ?_
                      refine hp_get hx hb hown hS.2.1 hH (F_X11_48.use hS) f_o rfl dX11_send_112 ?_
                      refine lv_iload_n hx hb dX11_send_115 rfl (lv_at hl 2 rfl) ?_
                      refine lv_iconst (v := nI 2) hx hb dX11_send_116 (by decide) ?_
                      refine hp_iastN hx hb hS.ai hH f_12 (by omega) (by omega) dX11_send_117 (fun H locs μ1 fz fn hH => ?_)
                      have f_o := (fn _ (by omega)).trans f_o
                      have f_1 := (fn _ (by omega)).trans f_1
                      have f_4 := (fn _ (by omega)).trans f_4
                      have f_5 := (fn _ (by omega)).trans f_5
                      have f_6 := (fn _ (by omega)).trans f_6
                      have f_8 := (fn _ (by omega)).trans f_8
                      have f_9 := (fn _ (by omega)).trans f_9
                      have f_10 := (fn _ (by omega)).trans f_10
                      have f_11 := (fn _ (by omega)).trans f_11
                      have f_12 : μ1 (o + 12) = some (hp_n X 64 (setN H2 k 2)) := fz
                      have fr := hp_eqM.put (k := 12) fr (by decide) fn
                      clear fz fn
                      refine lv_iinc (v := nI (k + 1)) (lv' := [(2, .int (nI (k + 1))), (0, .ref o), (1, .int (nI (i + 1)))]) hx hb dX11_send_118 hl (k := 2) rfl (nI_add _ 1) (by decide) rfl (fun ls hl => ?_)
                      refine lv_goto (tgt := 58) hx hb dX11_send_121 (by decide) ?_
                      have f_o : μ1 o = some (hp_o 7 [.int (nI n), .ref (o + 1), .ref (o + 2), .ref (o + 3), .ref (o + 4), .ref (o + 5), .ref (o + 6), .int (nB on), .int (nI tz), .ref (o + 7), .int (nI se), .ref (o + 8), .ref (o + 9), .int (nI (rdK sb se)), .int (nI kl9), .int (nI tc9), .ref (o + 10), .int (nI (fC sb se lv st le sh i)), .ref (o + 11), .int (nI (max (anL (fC sb se lv st le sh) i) (k + 1))), .ref (o + 12), .int (nI an), .ref (o + 13), .int (nI (fm + 1)), .int (nI fo), .ref (o + 14), .ref (o + 15), .int (nI kc), .ref (o + 16)]) := by rw [show max (anL (fC sb se lv st le sh) i) (k + 1) = max (anL (fC sb se lv st le sh) i) k by omega]; exact f_o
                      have hH3 : ∀ x, x < max (anL (fC sb se lv st le sh) i) (k + 1) → (setN H2 k 2) x = (if x < k + 1 then digN (anO (fB sb se lv st le sh) (fC sb se lv st le sh) (i + 1)) (anZ (fB sb se lv st le sh) (fC sb se lv st le sh) (i + 1)) x else digN (anO (fB sb se lv st le sh) (fC sb se lv st le sh) i) (anZ (fB sb se lv st le sh) (fC sb se lv st le sh) i) x) := fun x hx => by
                        by_cases ex : x = k
                        · rw [ex, setN_s, if_pos (Nat.lt_succ_self k), mg_old hB64 hC45 (by omega) (by omega), if_neg c_108]
                        · refine (setN_o ex : _ = H2 x).trans ((hH2 x (by omega)).trans ?_)
                          by_cases hxk : x < k
                          · rw [if_pos hxk, if_pos (show x < k + 1 by omega)]
                          · rw [if_neg hxk, if_neg (show ¬ x < k + 1 by omega)]
                      exact ih58 (k + 1) (setN H2 k 2) (by omega) hH3 (by omega) _ _ _ _ f_o f_1 f_4 f_5 f_6 f_8 f_9 f_10 f_11 f_12 fr hH (lv_sub hl [1, 2, 0] rfl)
                  · have c_71 : ¬ (k < (max (anL (fC sb se lv st le sh) i) k)) := fun z => c_71 ((nI_ltI (by omega) (by omega)).mpr z)
                    refine lv_aload_n hx hb dX11_send_74 rfl (lv_at hl 0 rfl) ?_
                    refine hp_get hx hb hown hS.2.1 hH (F_X11_48.use hS) f_o rfl dX11_send_75 ?_
                    refine lv_iload_n hx hb dX11_send_78 rfl (lv_at hl 2 rfl) ?_
                    refine lv_aload_n hx hb dX11_send_79 rfl (lv_at hl 0 rfl) ?_
                    refine hp_get hx hb hown hS.2.1 hH (F_X11_45.use hS) f_o rfl dX11_send_80 ?_
                    refine lv_iload_n hx hb dX11_send_83 rfl (lv_at hl 2 rfl) ?_
                    refine hp_ialdN hx hb hS.ai hH f_11 (by omega) (by omega) dX11_send_84 ?_
                    refine hp_eqi (z := nI (fB sb se lv st le sh i / 2 ^ k % 2)) (congrArg nI (hbit k (by omega))) ?_
                    refine hp_iastN hx hb hS.ai hH f_12 (by omega) (by omega) dX11_send_85 (fun H locs μ1 fz fn hH => ?_)
                    have f_o := (fn _ (by omega)).trans f_o
                    have f_1 := (fn _ (by omega)).trans f_1
                    have f_4 := (fn _ (by omega)).trans f_4
                    have f_5 := (fn _ (by omega)).trans f_5
                    have f_6 := (fn _ (by omega)).trans f_6
                    have f_8 := (fn _ (by omega)).trans f_8
                    have f_9 := (fn _ (by omega)).trans f_9
                    have f_10 := (fn _ (by omega)).trans f_10
                    have f_11 := (fn _ (by omega)).trans f_11
                    have f_12 : μ1 (o + 12) = some (hp_n X 64 (setN H2 k (fB sb se lv st le sh i / 2 ^ k % 2))) := fz
                    have fr := hp_eqM.put (k := 12) fr (by decide) fn
                    clear fz fn
                    refine lv_aload_n hx hb dX11_send_86 rfl (lv_at hl 0 rfl) ?_
                    refine lv_iload_n hx hb dX11_send_87 rfl (lv_at hl 2 rfl) ?_
                    refine lv_iconst (v := nI 1) hx hb dX11_send_88 (by decide) ?_
                    refine lv_iadd hx hb dX11_send_89 ?_
                    refine hp_eqi (z := nI (k + 1)) (nI_add _ _) ?_
                    refine hp_put hx hb hown hS.2.1 hH (P_X11_139.use hS) f_o rfl rfl (Nat.le_of_ble_eq_true rfl) dX11_send_90 (fun H locs μ1 fz fn hH => ?_)
                    have f_1 := (fn _ (by omega)).trans f_1
                    have f_4 := (fn _ (by omega)).trans f_4
                    have f_5 := (fn _ (by omega)).trans f_5
                    have f_6 := (fn _ (by omega)).trans f_6
                    have f_8 := (fn _ (by omega)).trans f_8
                    have f_9 := (fn _ (by omega)).trans f_9
                    have f_10 := (fn _ (by omega)).trans f_10
                    have f_11 := (fn _ (by omega)).trans f_11
                    have f_12 := (fn _ (by omega)).trans f_12
                    have f_o : μ1 o = some (hp_o 7 [.int (nI n), .ref (o + 1), .ref (o + 2), .ref (o + 3), .ref (o + 4), .ref (o + 5), .ref (o + 6), .int (nB on), .int (nI tz), .ref (o + 7), .int (nI se), .ref (o + 8), .ref (o + 9), .int (nI (rdK sb se)), .int (nI kl9), .int (nI tc9), .ref (o + 10), .int (nI (fC sb se lv st le sh i)), .ref (o + 11), .int (nI (k + 1)), .ref (o + 12), .int (nI an), .ref (o + 13), .int (nI (fm + 1)), .int (nI fo), .ref (o + 14), .ref (o + 15), .int (nI kc), .ref (o + 16)]) := fz
                    have fr := hp_eqM.put (k := 0) fr (by decide) fn
                    clear fz fn
                    refine lv_goto (tgt := 118) hx hb dX11_send_93 (by decide) ?_
                    refine lv_iinc (v := nI (k + 1)) (lv' := [(2, .int (nI (k + 1))), (0, .ref o), (1, .int (nI (i + 1)))]) hx hb dX11_send_118 hl (k := 2) rfl (nI_add _ 1) (by decide) rfl (fun ls hl => ?_)
                    refine lv_goto (tgt := 58) hx hb dX11_send_121 (by decide) ?_
                    have f_o : μ1 o = some (hp_o 7 [.int (nI n), .ref (o + 1), .ref (o + 2), .ref (o + 3), .ref (o + 4), .ref (o + 5), .ref (o + 6), .int (nB on), .int (nI tz), .ref (o + 7), .int (nI se), .ref (o + 8), .ref (o + 9), .int (nI (rdK sb se)), .int (nI kl9), .int (nI tc9), .ref (o + 10), .int (nI (fC sb se lv st le sh i)), .ref (o + 11), .int (nI (max (anL (fC sb se lv st le sh) i) (k + 1))), .ref (o + 12), .int (nI an), .ref (o + 13), .int (nI (fm + 1)), .int (nI fo), .ref (o + 14), .ref (o + 15), .int (nI kc), .ref (o + 16)]) := by rw [show max (anL (fC sb se lv st le sh) i) (k + 1) = k + 1 by omega]; exact f_o
                    have hH3 : ∀ x, x < max (anL (fC sb se lv st le sh) i) (k + 1) → (setN H2 k (fB sb se lv st le sh i / 2 ^ k % 2)) x = (if x < k + 1 then digN (anO (fB sb se lv st le sh) (fC sb se lv st le sh) (i + 1)) (anZ (fB sb se lv st le sh) (fC sb se lv st le sh) (i + 1)) x else digN (anO (fB sb se lv st le sh) (fC sb se lv st le sh) i) (anZ (fB sb se lv st le sh) (fC sb se lv st le sh) i) x) := fun x hx => by
                      by_cases ex : x = k
                      · rw [ex, setN_s, if_pos (Nat.lt_succ_self k), mg_new hB64 hC45 (by omega) (by omega)]
                      · refine (setN_o ex : _ = H2 x).trans ((hH2 x (by omega)).trans ?_)
                        by_cases hxk : x < k
                        · rw [if_pos hxk, if_pos (show x < k + 1 by omega)]
                        · rw [if_neg hxk, if_neg (show ¬ x < k + 1 by omega)]
                    exact ih58 (k + 1) (setN H2 k (fB sb se lv st le sh i / 2 ^ k % 2)) (by omega) hH3 (by omega) _ _ _ _ f_o f_1 f_4 f_5 f_6 f_8 f_9 f_10 f_11 f_12 fr hH (lv_sub hl [1, 2, 0] rfl)
            exact lp_58 ((fC sb se lv st le sh i - 0) + 1) 0 H1 (Nat.zero_le _) (fun x hx => by rw [if_neg (Nat.not_lt_zero x)]; exact hH1 x (by omega)) (Nat.lt_succ_self _) _ _ _ _ f_o f_1 f_4 f_5 f_6 f_8 f_9 f_10 f_11 f_12 fr hH (lv_sub hl [1, 2, 0] rfl)
    exact lp_29 ((n - 0) + 1) 0 sd S L J hbb (Nat.zero_le _) (fun j hj => by rw [mixN_0]; exact hSr j hj) (fun j hj => by rw [mixN_0]; exact hLr j hj) hJ01 (fun x hx => absurd hx (Nat.not_lt_zero _)) (Nat.lt_succ_self _) _ _ _ _ f_o f_1 f_4 f_5 f_6 f_8 f_9 f_10 f_11 f_12 fr hH (lv_sub hl [1, 0] rfl)
  · have c_19 : on = false := nB_0 c_19
    have h0 := hoff c_19
    have hN0 : fN n sb se lv st le sh = 0 := anL_0 (fun j hj => (f_out (h0 j hj)).2.2)
    have f_o : μ1 o = some (hp_o 7 [.int (nI n), .ref (o + 1), .ref (o + 2), .ref (o + 3), .ref (o + 4), .ref (o + 5), .ref (o + 6), .int (nB on), .int (nI tz), .ref (o + 7), .int (nI se), .ref (o + 8), .ref (o + 9), .int (nI kd), .int (nI kl), .int (nI tc), .ref (o + 10), .int (nI sd), .ref (o + 11), .int (nI (fN n sb se lv st le sh)), .ref (o + 12), .int (nI an), .ref (o + 13), .int (nI (fm + 1)), .int (nI fo), .ref (o + 14), .ref (o + 15), .int (nI kc), .ref (o + 16)]) := by rw [hN0]; exact f_o
    exact hp_rv hx hb hr hlocks hS hH (⟨rfl, _, _, _, _, _, _, _, _, _, _, f_o, f_4, f_5, f_9, f_10, f_11, f_12, fun j hj => by rw [(f_out (h0 j hj)).1, hSr j hj, h0 j hj], fun j hj => by rw [(f_out (h0 j hj)).2.1, hLr j hj], hJ01, fun x hx => by rw [hN0] at hx; exact absurd hx (Nat.not_lt_zero _), fr⟩) dX11_send_22
