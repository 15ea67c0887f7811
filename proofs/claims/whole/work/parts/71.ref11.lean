set_option maxHeartbeats 4000000 in
set_option maxRecDepth 100000 in
theorem c_X11_understand (l : Launch) (X : hp_X) {μ : hp_M} {nx : Nat} {o n tz se kd kl tc sd hd an fm fo kc : Nat} {on : Bool} {sb D : Nat → Nat} {Bf : Nat → Int32} (h01 : ∀ j, sb j < 2) (hse : se ≤ 160) (f_o : μ o = some (hp_o 7 [.int (nI n), .ref (o + 1), .ref (o + 2), .ref (o + 3), .ref (o + 4), .ref (o + 5), .ref (o + 6), .int (nB on), .int (nI tz), .ref (o + 7), .int (nI se), .ref (o + 8), .ref (o + 9), .int (nI kd), .int (nI kl), .int (nI tc), .ref (o + 10), .int (nI sd), .ref (o + 11), .int (nI hd), .ref (o + 12), .int (nI an), .ref (o + 13), .int (nI fm), .int (nI fo), .ref (o + 14), .ref (o + 15), .int (nI kc), .ref (o + 16)])) (f_8 : μ (o + 8) = some (hp_n X 160 sb)) (f_9 : μ (o + 9) = some (hp_i X 18 Bf)) (f_10 : μ (o + 10) = some (hp_n X 48 D)) : Ct l X yX11_understand cX11_understand 7 (none : Option Jvm.ClassFile.FieldType) 2 80 0 0 [.ref o] μ nx (hq_v X (po_v nx (fun z => ∃ (kl9 tc9 : Nat) (B9 : Nat → Int32) (D9 : Nat → Nat), z o = some (hp_o 7 [.int (nI n), .ref (o + 1), .ref (o + 2), .ref (o + 3), .ref (o + 4), .ref (o + 5), .ref (o + 6), .int (nB on), .int (nI tz), .ref (o + 7), .int (nI se), .ref (o + 8), .ref (o + 9), .int (nI (rdK sb se)), .int (nI kl9), .int (nI tc9), .ref (o + 10), .int (nI sd), .ref (o + 11), .int (nI hd), .ref (o + 12), .int (nI an), .ref (o + 13), .int (nI fm), .int (nI fo), .ref (o + 14), .ref (o + 15), .int (nI kc), .ref (o + 16)]) ∧ z (o + 9) = some (hp_i X 18 B9) ∧ z (o + 10) = some (hp_n X 48 D9) ∧ (rdK sb se = 3 ∨ rdK sb se = 4 → kl9 = lvOf (valN sb se 0 8) ∧ tc9 = rdC sb se ∧ ∀ k, k < tc9 → D9 k = rdT sb se / 2 ^ k % 2) ∧ (rdK sb se = 6 → B9 1 = nI (valN sb se 9 8)) ∧ hp_eqM [0, 9, 10] o z μ))) := by
  refine hp_met (by decide) (Nat.le_of_ble_eq_true rfl) ?_
  intro p e s m below meth c ls hx hb hml hr hlocks hown hin hS hH hl
  have hl : lv_has ls 7 [(0, .ref o)] := hl
  have fr : hp_eqM [0, 9, 10] o μ μ := fun _ _ => rfl
  refine lv_aload_n hx hb dX11_understand_0 rfl (lv_at hl 0 rfl) ?_
  refine lv_iconst (v := nI 0) hx hb dX11_understand_1 (by decide) ?_
  refine hp_put hx hb hown hS.2.1 hH (P_X11_98.use hS) f_o rfl rfl (Nat.le_of_ble_eq_true rfl) dX11_understand_2 (fun H locs μ1 fz fn hH => ?_)
  have f_8 := (fn _ (by omega)).trans f_8
  have f_9 := (fn _ (by omega)).trans f_9
  have f_10 := (fn _ (by omega)).trans f_10
  have f_o : μ1 o = some (hp_o 7 [.int (nI n), .ref (o + 1), .ref (o + 2), .ref (o + 3), .ref (o + 4), .ref (o + 5), .ref (o + 6), .int (nB on), .int (nI tz), .ref (o + 7), .int (nI se), .ref (o + 8), .ref (o + 9), .int (nI 0), .int (nI kl), .int (nI tc), .ref (o + 10), .int (nI sd), .ref (o + 11), .int (nI hd), .ref (o + 12), .int (nI an), .ref (o + 13), .int (nI fm), .int (nI fo), .ref (o + 14), .ref (o + 15), .int (nI kc), .ref (o + 16)]) := fz
  have fr := hp_eqM.put (k := 0) fr (by decide) fn
  clear fz fn
  refine lv_aload_n hx hb dX11_understand_5 rfl (lv_at hl 0 rfl) ?_
  refine lv_iconst (v := nI 0) hx hb dX11_understand_6 (by decide) ?_
  refine hp_put hx hb hown hS.2.1 hH (P_X11_101.use hS) f_o rfl rfl (Nat.le_of_ble_eq_true rfl) dX11_understand_7 (fun H locs μ1 fz fn hH => ?_)
  have f_8 := (fn _ (by omega)).trans f_8
  have f_9 := (fn _ (by omega)).trans f_9
  have f_10 := (fn _ (by omega)).trans f_10
  have f_o : μ1 o = some (hp_o 7 [.int (nI n), .ref (o + 1), .ref (o + 2), .ref (o + 3), .ref (o + 4), .ref (o + 5), .ref (o + 6), .int (nB on), .int (nI tz), .ref (o + 7), .int (nI se), .ref (o + 8), .ref (o + 9), .int (nI 0), .int (nI kl), .int (nI 0), .ref (o + 10), .int (nI sd), .ref (o + 11), .int (nI hd), .ref (o + 12), .int (nI an), .ref (o + 13), .int (nI fm), .int (nI fo), .ref (o + 14), .ref (o + 15), .int (nI kc), .ref (o + 16)]) := fz
  have fr := hp_eqM.put (k := 0) fr (by decide) fn
  clear fz fn
  refine lv_aload_n hx hb dX11_understand_10 rfl (lv_at hl 0 rfl) ?_
  refine hp_get hx hb hown hS.2.1 hH (F_X11_104.use hS) f_o rfl dX11_understand_11 ?_
  refine lv_bipush (v := nI 7) hx hb dX11_understand_14 (by decide) ?_
  refine lv_icmp_ne (tgt := 72) hx hb dX11_understand_16 (by decide) (fun c_16 => ?_) (fun c_16 => ?_)
  · have c_16 : ¬ (se = 7) := fun z => c_16 ((nI_eq (by omega) (by omega)).mpr z)
    refine lv_aload_n hx hb dX11_understand_72 rfl (lv_at hl 0 rfl) ?_
    refine hp_get hx hb hown hS.2.1 hH (F_X11_104.use hS) f_o rfl dX11_understand_73 ?_
    refine lv_bipush (v := nI 9) hx hb dX11_understand_76 (by decide) ?_
    refine lv_idiv hx hb dX11_understand_78 (nI_ne0 (by omega) (by omega)) ?_
    refine hp_eqi (z := nI (se / 9)) (pk_div (by omega) (by omega) (by omega)) ?_
    refine lv_istore_n (lv' := [(1, .int (nI (se / 9))), (0, .ref o)]) hx hb dX11_understand_79 rfl hl (by decide) rfl (fun ls hl => ?_)
    refine lv_iconst (v := nI 0) hx hb dX11_understand_80 (by decide) ?_
    refine lv_istore_n (lv' := [(2, .int (nI 0)), (1, .int (nI (se / 9))), (0, .ref o)]) hx hb dX11_understand_81 rfl hl (by decide) rfl (fun ls hl => ?_)
    have lp_82 : ∀ (kk82 : Nat) (i : Nat) (f1 : Nat → Int32), (i ≤ se / 9) → (begN sb se i = true) → (∀ j, j < i → f1 j = nI (vaN sb (9 * j) 8)) → (se / 9 - i) < kk82 → ∀ (μ1 : hp_M) (H : Heap) (locs : List Loc) (ls : Array Slot), (μ1 o = some (hp_o 7 [.int (nI n), .ref (o + 1), .ref (o + 2), .ref (o + 3), .ref (o + 4), .ref (o + 5), .ref (o + 6), .int (nB on), .int (nI tz), .ref (o + 7), .int (nI se), .ref (o + 8), .ref (o + 9), .int (nI 0), .int (nI kl), .int (nI 0), .ref (o + 10), .int (nI sd), .ref (o + 11), .int (nI hd), .ref (o + 12), .int (nI an), .ref (o + 13), .int (nI fm), .int (nI fo), .ref (o + 14), .ref (o + 15), .int (nI kc), .ref (o + 16)])) → (μ1 (o + 8) = some (hp_n X 160 sb)) → (μ1 (o + 9) = some (hp_i X 18 f1)) → (μ1 (o + 10) = some (hp_n X 48 D)) → hp_eqM [0, 9, 10] o μ1 μ → hp_w X cls μ1 nx H locs → lv_has ls 7 [(0, .ref o), (1, .int (nI (se / 9))), (2, .int (nI i))] → W p l e { frames := 2, cells := 0, slots := 0, locals := 80 } s m [.ref o].toArray below meth c H locs 0 0 (MQ below (hq_v X (po_v nx (fun z => ∃ (kl9 tc9 : Nat) (B9 : Nat → Int32) (D9 : Nat → Nat), z o = some (hp_o 7 [.int (nI n), .ref (o + 1), .ref (o + 2), .ref (o + 3), .ref (o + 4), .ref (o + 5), .ref (o + 6), .int (nB on), .int (nI tz), .ref (o + 7), .int (nI se), .ref (o + 8), .ref (o + 9), .int (nI (rdK sb se)), .int (nI kl9), .int (nI tc9), .ref (o + 10), .int (nI sd), .ref (o + 11), .int (nI hd), .ref (o + 12), .int (nI an), .ref (o + 13), .int (nI fm), .int (nI fo), .ref (o + 14), .ref (o + 15), .int (nI kc), .ref (o + 16)]) ∧ z (o + 9) = some (hp_i X 18 B9) ∧ z (o + 10) = some (hp_n X 48 D9) ∧ (rdK sb se = 3 ∨ rdK sb se = 4 → kl9 = lvOf (valN sb se 0 8) ∧ tc9 = rdC sb se ∧ ∀ k, k < tc9 → D9 k = rdT sb se / 2 ^ k % 2) ∧ (rdK sb se = 6 → B9 1 = nI (valN sb se 9 8)) ∧ hp_eqM [0, 9, 10] o z μ))) [.ref o].toArray s 0 0 (hp_A X)) (F0 m 82 ls []) := by
      intro kk82
      induction kk82 with
      | zero =>
        intro i f1 hi hg hB hkk82
        exact absurd hkk82 (Nat.not_lt_zero _)
      | succ kk82 ih82 =>
        intro i f1 hi hg hB hkk82 μ1 H locs ls f_o f_8 f_9 f_10 fr hH hl
        refine lv_iload_n hx hb dX11_understand_82 rfl (lv_at hl 2 rfl) ?_
        refine lv_iload_n hx hb dX11_understand_83 rfl (lv_at hl 1 rfl) ?_
        refine lv_icmp_ge (tgt := 120) hx hb dX11_understand_84 (by decide) (fun c_84 => ?_) (fun c_84 => ?_)
        · have c_84 : (se / 9) ≤ i := (nI_leI (by omega) (by omega)).mp c_84
          have ei : i = se / 9 := by omega
          subst ei
          refine lv_iload_n hx hb dX11_understand_120 rfl (lv_at hl 1 rfl) ?_
          refine lv_iconst (v := nI 2) hx hb dX11_understand_121 (by decide) ?_
          refine lv_icmp_ge (tgt := 126) hx hb dX11_understand_122 (by decide) (fun c_122 => ?_) (fun c_122 => ?_)
          · have c_122 : 2 ≤ (se / 9) := (nI_leI (by omega) (by omega)).mp c_122
            obtain ⟨F, hF⟩ : ∃ F, F = vaN sb 0 8 := ⟨_, rfl⟩
            obtain ⟨S2, hS2⟩ : ∃ S2, S2 = vaN sb 9 8 := ⟨_, rfl⟩
            have hFl : F < 256 := by rw [hF]; exact vaN_lt (n := 8) (fun j _ => h01 _)
            have hSl : S2 < 256 := by rw [hS2]; exact vaN_lt (n := 8) (fun j _ => h01 _)
            have hKg := rdK_g c_16 (by omega) hg hF hS2
            have hF0 : f1 0 = nI F := by rw [hF]; exact hB 0 (by omega)
            have hS0 : f1 1 = nI S2 := by rw [hS2]; exact hB 1 (by omega)
            refine lv_aload_n hx hb dX11_understand_126 rfl (lv_at hl 0 rfl) ?_
            refine hp_get hx hb hown hS.2.1 hH (F_X11_39.use hS) f_o rfl dX11_understand_127 ?_
            refine lv_iconst (v := nI 0) hx hb dX11_understand_130 (by decide) ?_
            refine hp_ialdI hx hb hS.ai hH f_9 (by omega) (by omega) dX11_understand_131 ?_
            refine hp_eqi (z := nI F) (hF0) ?_
            refine lv_istore_n (lv' := [(2, .int (nI F)), (0, .ref o), (1, .int (nI (se / 9)))]) hx hb dX11_understand_132 rfl hl (by decide) rfl (fun ls hl => ?_)
            refine lv_iload_n hx hb dX11_understand_133 rfl (lv_at hl 0 rfl) ?_
            refine lv_sipush (v := nI 147) hx hb dX11_understand_134 (by decide) ?_
            refine lv_icmp_eq (tgt := 154) hx hb dX11_understand_137 (by decide) (fun c_137 => ?_) (fun c_137 => ?_)
            · have c_137 : F = 147 := (nI_eq (by omega) (by omega)).mp c_137
              have hlv : lvOf F = (F - 145) / 2 := by rw [show F = 147 by omega]; rfl
              have hlv0 : 0 < lvOf F := by rw [show F = 147 by omega]; decide
              have hFe : F = 147 ∨ F = 149 ∨ F = 151 := by omega
              refine lv_iconst (v := nI 1) hx hb dX11_understand_154 (by decide) ?_
              refine lv_goto (tgt := 159) hx hb dX11_understand_155 (by decide) ?_
              refine lv_istore_n (lv' := [(3, .int (nI 1)), (2, .int (nI F)), (0, .ref o), (1, .int (nI (se / 9)))]) hx hb dX11_understand_159 rfl hl (by decide) rfl (fun ls hl => ?_)
              refine lv_iload_n hx hb dX11_understand_160 rfl (lv_at hl 0 rfl) ?_
              refine lv_if_eq (tgt := 356) hx hb dX11_understand_161 (by decide) (fun c_161 => ?_) (fun c_161 => ?_)
              · exact absurd c_161 (by decide)
              · have c_161 : ¬ (1 = 0) := nz_n (by omega) c_161
                refine lv_aload_n hx hb dX11_understand_164 rfl (lv_at hl 2 rfl) ?_
                refine hp_get hx hb hown hS.2.1 hH (F_X11_39.use hS) f_o rfl dX11_understand_165 ?_
                refine lv_iconst (v := nI 1) hx hb dX11_understand_168 (by decide) ?_
                refine hp_ialdI hx hb hS.ai hH f_9 (by omega) (by omega) dX11_understand_169 ?_
                refine hp_eqi (z := nI S2) (hS0) ?_
                refine lv_bipush (v := nI 112) hx hb dX11_understand_170 (by decide) ?_
                refine lv_icmp_eq (tgt := 356) hx hb dX11_understand_172 (by decide) (fun c_172 => ?_) (fun c_172 => ?_)
                · have c_172 : S2 = 112 := (nI_eq (by omega) (by omega)).mp c_172
                  refine lv_aload_n hx hb dX11_understand_356 rfl (lv_at hl 2 rfl) ?_
                  refine hp_get hx hb hown hS.2.1 hH (F_X11_104.use hS) f_o rfl dX11_understand_357 ?_
                  refine lv_bipush (v := nI 9) hx hb dX11_understand_360 (by decide) ?_
                  refine lv_irem hx hb dX11_understand_362 (nI_ne0 (by omega) (by omega)) ?_
                  refine hp_eqi (z := nI (se % 9)) (pk_rem (by omega) (by omega) (by omega)) ?_
                  refine lv_if_ne (tgt := 371) hx hb dX11_understand_363 (by decide) (fun c_363 => ?_) (fun c_363 => ?_)
                  · have c_363 : ¬ (se % 9 = 0) := nz_n (by omega) c_363
                    have hK : rdK sb se = 0 := by rw [hKg, if_neg (fun h9 => by omega)]; split; rfl; rename_i h8; rw [if_neg (fun h9 => by omega)]; unfold kdC; rw [if_neg (by omega), if_neg (by omega), if_neg (by omega)]
                    have f_o : μ1 o = some (hp_o 7 [.int (nI n), .ref (o + 1), .ref (o + 2), .ref (o + 3), .ref (o + 4), .ref (o + 5), .ref (o + 6), .int (nB on), .int (nI tz), .ref (o + 7), .int (nI se), .ref (o + 8), .ref (o + 9), .int (nI (rdK sb se)), .int (nI kl), .int (nI 0), .ref (o + 10), .int (nI sd), .ref (o + 11), .int (nI hd), .ref (o + 12), .int (nI an), .ref (o + 13), .int (nI fm), .int (nI fo), .ref (o + 14), .ref (o + 15), .int (nI kc), .ref (o + 16)]) := by rw [hK]; exact f_o
                    exact hp_rv hx hb hr hlocks hS hH (⟨rfl, _, _, _, _, f_o, f_9, f_10, fun h9 => h9.elim (fun h9 => absurd (hK.symm.trans h9) (by decide)) (fun h9 => absurd (hK.symm.trans h9) (by decide)), fun h9 => absurd (hK.symm.trans h9) (by decide), fr⟩) dX11_understand_371
                  · have c_363 : (se % 9) = 0 := nz_0 (by omega) c_363
                    refine lv_iload_n hx hb dX11_understand_366 rfl (lv_at hl 3 rfl) ?_
                    refine lv_iconst (v := nI 3) hx hb dX11_understand_367 (by decide) ?_
                    refine lv_icmp_ge (tgt := 372) hx hb dX11_understand_368 (by decide) (fun c_368 => ?_) (fun c_368 => ?_)
                    · have c_368 : 3 ≤ (se / 9) := (nI_leI (by omega) (by omega)).mp c_368
                      refine lv_sipush (v := nI 25443) hx hb dX11_understand_372 (by decide) ?_
                      refine lv_istore (lv' := [(4, .int (nI 25443)), (3, .int (nI 1)), (2, .int (nI F)), (0, .ref o), (1, .int (nI (se / 9)))]) hx hb dX11_understand_375 hl (by decide) rfl (fun ls hl => ?_)
                      refine lv_iconst (v := nI 0) hx hb dX11_understand_377 (by decide) ?_
                      refine lv_istore (lv' := [(5, .int (nI 0)), (4, .int (nI 25443)), (3, .int (nI 1)), (2, .int (nI F)), (0, .ref o), (1, .int (nI (se / 9)))]) hx hb dX11_understand_378 hl (by decide) rfl (fun ls hl => ?_)
                      have lp_380 : ∀ (kk380 : Nat) (i2 : Nat), (i2 ≤ se / 9 - 2) → (se / 9 - 2 - i2) < kk380 → ∀ (H : Heap) (locs : List Loc) (ls : Array Slot), hp_w X cls μ1 nx H locs → lv_has ls 7 [(0, .ref o), (1, .int (nI (se / 9))), (2, .int (nI F)), (3, .int (nI 1)), (4, .int (nI (crcN sb se i2))), (5, .int (nI i2))] → W p l e { frames := 2, cells := 0, slots := 0, locals := 80 } s m [.ref o].toArray below meth c H locs 0 0 (MQ below (hq_v X (po_v nx (fun z => ∃ (kl9 tc9 : Nat) (B9 : Nat → Int32) (D9 : Nat → Nat), z o = some (hp_o 7 [.int (nI n), .ref (o + 1), .ref (o + 2), .ref (o + 3), .ref (o + 4), .ref (o + 5), .ref (o + 6), .int (nB on), .int (nI tz), .ref (o + 7), .int (nI se), .ref (o + 8), .ref (o + 9), .int (nI (rdK sb se)), .int (nI kl9), .int (nI tc9), .ref (o + 10), .int (nI sd), .ref (o + 11), .int (nI hd), .ref (o + 12), .int (nI an), .ref (o + 13), .int (nI fm), .int (nI fo), .ref (o + 14), .ref (o + 15), .int (nI kc), .ref (o + 16)]) ∧ z (o + 9) = some (hp_i X 18 B9) ∧ z (o + 10) = some (hp_n X 48 D9) ∧ (rdK sb se = 3 ∨ rdK sb se = 4 → kl9 = lvOf (valN sb se 0 8) ∧ tc9 = rdC sb se ∧ ∀ k, k < tc9 → D9 k = rdT sb se / 2 ^ k % 2) ∧ (rdK sb se = 6 → B9 1 = nI (valN sb se 9 8)) ∧ hp_eqM [0, 9, 10] o z μ))) [.ref o].toArray s 0 0 (hp_A X)) (F0 m 380 ls []) := by
                        intro kk380
                        induction kk380 with
                        | zero =>
                          intro i2 hi2 hkk380
                          exact absurd hkk380 (Nat.not_lt_zero _)
                        | succ kk380 ih380 =>
                          intro i2 hi2 hkk380 H locs ls  hH hl
                          refine lv_iload hx hb dX11_understand_380 (lv_at hl 5 rfl) ?_
                          refine lv_iload_n hx hb dX11_understand_382 rfl (lv_at hl 1 rfl) ?_
                          refine lv_iconst (v := nI 2) hx hb dX11_understand_383 (by decide) ?_
                          refine lv_isub hx hb dX11_understand_384 ?_
                          refine hp_eqi (z := nI ((se / 9) - 2)) (pk_sub (by omega)) ?_
                          refine lv_icmp_ge (tgt := 408) hx hb dX11_understand_385 (by decide) (fun c_385 => ?_) (fun c_385 => ?_)
                          · have c_385 : ((se / 9) - 2) ≤ i2 := (nI_leI (by omega) (by omega)).mp c_385
                            have ei2 : i2 = se / 9 - 2 := by omega
                            subst ei2
                            have hxl := crcN_lt sb se (se / 9 - 2)
                            have hc9 := crcN_own (sb := sb) (se := se) (k := se / 9 - 2) h01 (by omega)
                            rw [show se / 9 - 2 + 2 = se / 9 by omega, show se / 9 - 2 + 1 = se / 9 - 1 by omega] at hc9
                            have hu1 : vaN sb (9 * (se / 9 - 2)) 8 < 256 := vaN_lt (n := 8) (fun j _ => h01 _)
                            have hu2 : vaN sb (9 * (se / 9 - 1)) 8 < 256 := vaN_lt (n := 8) (fun j _ => h01 _)
                            refine lv_aload_n hx hb dX11_understand_408 rfl (lv_at hl 0 rfl) ?_
                            refine hp_get hx hb hown hS.2.1 hH (F_X11_39.use hS) f_o rfl dX11_understand_409 ?_
                            refine lv_iload_n hx hb dX11_understand_412 rfl (lv_at hl 1 rfl) ?_
                            refine lv_iconst (v := nI 2) hx hb dX11_understand_413 (by decide) ?_
                            refine lv_isub hx hb dX11_understand_414 ?_
                            refine hp_eqi (z := nI ((se / 9) - 2)) (pk_sub (by omega)) ?_
                            refine hp_ialdI hx hb hS.ai hH f_9 (by omega) (by omega) dX11_understand_415 ?_
                            refine hp_eqi (z := nI (vaN sb (9 * (se / 9 - 2)) 8)) (hB _ (by omega)) ?_
                            refine lv_iload hx hb dX11_understand_416 (lv_at hl 4 rfl) ?_
                            refine lv_sipush (v := nI 256) hx hb dX11_understand_418 (by decide) ?_
                            refine lv_irem hx hb dX11_understand_421 (nI_ne0 (by omega) (by omega)) ?_
                            refine hp_eqi (z := nI ((crcN sb se (se / 9 - 2)) % 256)) (pk_rem (by omega) (by omega) (by omega)) ?_
                            refine lv_icmp_ne (tgt := 442) hx hb dX11_understand_422 (by decide) (fun c_422 => ?_) (fun c_422 => ?_)
                            · have c_422 : ¬ ((vaN sb (9 * (se / 9 - 2)) 8) = ((crcN sb se (se / 9 - 2)) % 256)) := fun z => c_422 ((nI_eq (by omega) (by omega)).mpr z)
                              have hK : rdK sb se = 0 := by rw [hKg, if_neg (fun h9 => by omega), if_pos (Or.inr (fun h9 => by have h8 := hc9.mp h9; omega))]
                              have f_o : μ1 o = some (hp_o 7 [.int (nI n), .ref (o + 1), .ref (o + 2), .ref (o + 3), .ref (o + 4), .ref (o + 5), .ref (o + 6), .int (nB on), .int (nI tz), .ref (o + 7), .int (nI se), .ref (o + 8), .ref (o + 9), .int (nI (rdK sb se)), .int (nI kl), .int (nI 0), .ref (o + 10), .int (nI sd), .ref (o + 11), .int (nI hd), .ref (o + 12), .int (nI an), .ref (o + 13), .int (nI fm), .int (nI fo), .ref (o + 14), .ref (o + 15), .int (nI kc), .ref (o + 16)]) := by rw [hK]; exact f_o
                              exact hp_rv hx hb hr hlocks hS hH (⟨rfl, _, _, _, _, f_o, f_9, f_10, fun h9 => h9.elim (fun h9 => absurd (hK.symm.trans h9) (by decide)) (fun h9 => absurd (hK.symm.trans h9) (by decide)), fun h9 => absurd (hK.symm.trans h9) (by decide), fr⟩) dX11_understand_442
                            · have c_422 : (vaN sb (9 * (se / 9 - 2)) 8) = ((crcN sb se (se / 9 - 2)) % 256) := (nI_eq (by omega) (by omega)).mp c_422
                              refine lv_aload_n hx hb dX11_understand_425 rfl (lv_at hl 0 rfl) ?_
                              refine hp_get hx hb hown hS.2.1 hH (F_X11_39.use hS) f_o rfl dX11_understand_426 ?_
                              refine lv_iload_n hx hb dX11_understand_429 rfl (lv_at hl 1 rfl) ?_
                              refine lv_iconst (v := nI 1) hx hb dX11_understand_430 (by decide) ?_
                              refine lv_isub hx hb dX11_understand_431 ?_
                              refine hp_eqi (z := nI ((se / 9) - 1)) (pk_sub (by omega)) ?_
                              refine hp_ialdI hx hb hS.ai hH f_9 (by omega) (by omega) dX11_understand_432 ?_
                              refine hp_eqi (z := nI (vaN sb (9 * (se / 9 - 1)) 8)) (hB _ (by omega)) ?_
                              refine lv_iload hx hb dX11_understand_433 (lv_at hl 4 rfl) ?_
                              refine lv_sipush (v := nI 256) hx hb dX11_understand_435 (by decide) ?_
                              refine lv_idiv hx hb dX11_understand_438 (nI_ne0 (by omega) (by omega)) ?_
                              refine hp_eqi (z := nI ((crcN sb se (se / 9 - 2)) / 256)) (pk_div (by omega) (by omega) (by omega)) ?_
                              refine lv_icmp_eq (tgt := 443) hx hb dX11_understand_439 (by decide) (fun c_439 => ?_) (fun c_439 => ?_)
                              · have c_439 : (vaN sb (9 * (se / 9 - 1)) 8) = ((crcN sb se (se / 9 - 2)) / 256) := (nI_eq (by omega) (by omega)).mp c_439
                                have hc0 := hc9.mpr ⟨c_422, c_439⟩
                                refine lv_iload_n hx hb dX11_understand_443 rfl (lv_at hl 3 rfl) ?_
                                refine lv_if_eq (tgt := 521) hx hb dX11_understand_444 (by decide) (fun c_444 => ?_) (fun c_444 => ?_)
                                · exact absurd c_444 (by decide)
                                · have c_444 : ¬ (1 = 0) := nz_n (by omega) c_444
                                  refine lv_iload_n hx hb dX11_understand_447 rfl (lv_at hl 1 rfl) ?_
                                  refine lv_bipush (v := nI 9) hx hb dX11_understand_448 (by decide) ?_
                                  refine lv_icmp_ne (tgt := 521) hx hb dX11_understand_450 (by decide) (fun c_450 => ?_) (fun c_450 => ?_)
                                  · have c_450 : ¬ ((se / 9) = 9) := fun z => c_450 ((nI_eq (by omega) (by omega)).mpr z)
                                    refine lv_iload_n hx hb dX11_understand_521 rfl (lv_at hl 1 rfl) ?_
                                    refine lv_iconst (v := nI 4) hx hb dX11_understand_522 (by decide) ?_
                                    refine lv_icmp_ne (tgt := 549) hx hb dX11_understand_523 (by decide) (fun c_523 => ?_) (fun c_523 => ?_)
                                    · have c_523 : ¬ ((se / 9) = 4) := fun z => c_523 ((nI_eq (by omega) (by omega)).mpr z)
                                      refine lv_iload_n hx hb dX11_understand_549 rfl (lv_at hl 1 rfl) ?_
                                      refine lv_iconst (v := nI 4) hx hb dX11_understand_550 (by decide) ?_
                                      refine lv_icmp_ne (tgt := 570) hx hb dX11_understand_551 (by decide) (fun c_551 => ?_) (fun c_551 => ?_)
                                      · have c_551 : ¬ ((se / 9) = 4) := fun z => c_551 ((nI_eq (by omega) (by omega)).mpr z)
                                        refine lv_iload_n hx hb dX11_understand_570 rfl (lv_at hl 1 rfl) ?_
                                        refine lv_iconst (v := nI 3) hx hb dX11_understand_571 (by decide) ?_
                                        refine lv_icmp_ne (tgt := 588) hx hb dX11_understand_572 (by decide) (fun c_572 => ?_) (fun c_572 => ?_)
                                        · have c_572 : ¬ ((se / 9) = 3) := fun z => c_572 ((nI_eq (by omega) (by omega)).mpr z)
                                          have hK : rdK sb se = 0 := by rw [hKg, if_neg (fun h9 => by omega), if_neg (fun h9 => by rw [hc0] at h9; omega), if_neg (fun h9 => by omega)]; unfold kdC; rw [if_neg (by omega), if_neg (by omega), if_neg (by omega)]
                                          have f_o : μ1 o = some (hp_o 7 [.int (nI n), .ref (o + 1), .ref (o + 2), .ref (o + 3), .ref (o + 4), .ref (o + 5), .ref (o + 6), .int (nB on), .int (nI tz), .ref (o + 7), .int (nI se), .ref (o + 8), .ref (o + 9), .int (nI (rdK sb se)), .int (nI kl), .int (nI 0), .ref (o + 10), .int (nI sd), .ref (o + 11), .int (nI hd), .ref (o + 12), .int (nI an), .ref (o + 13), .int (nI fm), .int (nI fo), .ref (o + 14), .ref (o + 15), .int (nI kc), .ref (o + 16)]) := by rw [hK]; exact f_o
                                          exact hp_rv hx hb hr hlocks hS hH (⟨rfl, _, _, _, _, f_o, f_9, f_10, fun h9 => h9.elim (fun h9 => absurd (hK.symm.trans h9) (by decide)) (fun h9 => absurd (hK.symm.trans h9) (by decide)), fun h9 => absurd (hK.symm.trans h9) (by decide), fr⟩) dX11_understand_588
                                        · have c_572 : (se / 9) = 3 := (nI_eq (by omega) (by omega)).mp c_572
                                          refine lv_iload_n hx hb dX11_understand_575 rfl (lv_at hl 2 rfl) ?_
                                          refine lv_sipush (v := nI 194) hx hb dX11_understand_576 (by decide) ?_
                                          refine lv_icmp_ne (tgt := 588) hx hb dX11_understand_579 (by decide) (fun c_579 => ?_) (fun c_579 => ?_)
                                          · have c_579 : ¬ (F = 194) := fun z => c_579 ((nI_eq (by omega) (by omega)).mpr z)
                                            have hK : rdK sb se = 0 := by rw [hKg, if_neg (fun h9 => by omega), if_neg (fun h9 => by rw [hc0] at h9; omega), if_neg (fun h9 => by omega)]; unfold kdC; rw [if_neg (by omega), if_neg (by omega), if_neg (by omega)]
                                            have f_o : μ1 o = some (hp_o 7 [.int (nI n), .ref (o + 1), .ref (o + 2), .ref (o + 3), .ref (o + 4), .ref (o + 5), .ref (o + 6), .int (nB on), .int (nI tz), .ref (o + 7), .int (nI se), .ref (o + 8), .ref (o + 9), .int (nI (rdK sb se)), .int (nI kl), .int (nI 0), .ref (o + 10), .int (nI sd), .ref (o + 11), .int (nI hd), .ref (o + 12), .int (nI an), .ref (o + 13), .int (nI fm), .int (nI fo), .ref (o + 14), .ref (o + 15), .int (nI kc), .ref (o + 16)]) := by rw [hK]; exact f_o
                                            exact hp_rv hx hb hr hlocks hS hH (⟨rfl, _, _, _, _, f_o, f_9, f_10, fun h9 => h9.elim (fun h9 => absurd (hK.symm.trans h9) (by decide)) (fun h9 => absurd (hK.symm.trans h9) (by decide)), fun h9 => absurd (hK.symm.trans h9) (by decide), fr⟩) dX11_understand_588
                                          · have c_579 : F = 194 := (nI_eq (by omega) (by omega)).mp c_579
                                            refine lv_aload_n hx hb dX11_understand_582 rfl (lv_at hl 0 rfl) ?_
                                            refine lv_bipush (v := nI 7) hx hb dX11_understand_583 (by decide) ?_
                                            refine hp_put hx hb hown hS.2.1 hH (P_X11_98.use hS) f_o rfl rfl (Nat.le_of_ble_eq_true rfl) dX11_understand_585 (fun H locs μ1 fz fn hH => ?_)
                                            have f_8 := (fn _ (by omega)).trans f_8
                                            have f_9 := (fn _ (by omega)).trans f_9
                                            have f_10 := (fn _ (by omega)).trans f_10
                                            have f_o : μ1 o = some (hp_o 7 [.int (nI n), .ref (o + 1), .ref (o + 2), .ref (o + 3), .ref (o + 4), .ref (o + 5), .ref (o + 6), .int (nB on), .int (nI tz), .ref (o + 7), .int (nI se), .ref (o + 8), .ref (o + 9), .int (nI 7), .int (nI kl), .int (nI 0), .ref (o + 10), .int (nI sd), .ref (o + 11), .int (nI hd), .ref (o + 12), .int (nI an), .ref (o + 13), .int (nI fm), .int (nI fo), .ref (o + 14), .ref (o + 15), .int (nI kc), .ref (o + 16)]) := fz
                                            have fr := hp_eqM.put (k := 0) fr (by decide) fn
                                            clear fz fn
                                            have hK : rdK sb se = 7 := by rw [hKg, if_neg (fun h9 => by omega), if_neg (fun h9 => by rw [hc0] at h9; omega), if_neg (fun h9 => by omega)]; unfold kdC; rw [if_neg (by omega), if_neg (by omega), if_pos (by omega)]
                                            have f_o : μ1 o = some (hp_o 7 [.int (nI n), .ref (o + 1), .ref (o + 2), .ref (o + 3), .ref (o + 4), .ref (o + 5), .ref (o + 6), .int (nB on), .int (nI tz), .ref (o + 7), .int (nI se), .ref (o + 8), .ref (o + 9), .int (nI (rdK sb se)), .int (nI kl), .int (nI 0), .ref (o + 10), .int (nI sd), .ref (o + 11), .int (nI hd), .ref (o + 12), .int (nI an), .ref (o + 13), .int (nI fm), .int (nI fo), .ref (o + 14), .ref (o + 15), .int (nI kc), .ref (o + 16)]) := by rw [hK]; exact f_o
                                            exact hp_rv hx hb hr hlocks hS hH (⟨rfl, _, _, _, _, f_o, f_9, f_10, fun h9 => h9.elim (fun h9 => absurd (hK.symm.trans h9) (by decide)) (fun h9 => absurd (hK.symm.trans h9) (by decide)), fun h9 => absurd (hK.symm.trans h9) (by decide), fr⟩) dX11_understand_588
                                      · have c_551 : (se / 9) = 4 := (nI_eq (by omega) (by omega)).mp c_551
                                        refine lv_iload_n hx hb dX11_understand_554 rfl (lv_at hl 2 rfl) ?_
                                        refine lv_sipush (v := nI 224) hx hb dX11_understand_555 (by decide) ?_
                                        refine lv_icmp_ne (tgt := 570) hx hb dX11_understand_558 (by decide) (fun c_558 => ?_) (fun c_558 => ?_)
                                        · have c_558 : ¬ (F = 224) := fun z => c_558 ((nI_eq (by omega) (by omega)).mpr z)
                                          refine lv_iload_n hx hb dX11_understand_570 rfl (lv_at hl 1 rfl) ?_
                                          refine lv_iconst (v := nI 3) hx hb dX11_understand_571 (by decide) ?_
                                          refine lv_icmp_ne (tgt := 588) hx hb dX11_understand_572 (by decide) (fun c_572 => ?_) (fun c_572 => ?_)
                                          · have c_572 : ¬ ((se / 9) = 3) := fun z => c_572 ((nI_eq (by omega) (by omega)).mpr z)
                                            have hK : rdK sb se = 0 := by rw [hKg, if_neg (fun h9 => by omega), if_neg (fun h9 => by rw [hc0] at h9; omega), if_neg (fun h9 => by omega)]; unfold kdC; rw [if_neg (by omega), if_neg (by omega), if_neg (by omega)]
                                            have f_o : μ1 o = some (hp_o 7 [.int (nI n), .ref (o + 1), .ref (o + 2), .ref (o + 3), .ref (o + 4), .ref (o + 5), .ref (o + 6), .int (nB on), .int (nI tz), .ref (o + 7), .int (nI se), .ref (o + 8), .ref (o + 9), .int (nI (rdK sb se)), .int (nI kl), .int (nI 0), .ref (o + 10), .int (nI sd), .ref (o + 11), .int (nI hd), .ref (o + 12), .int (nI an), .ref (o + 13), .int (nI fm), .int (nI fo), .ref (o + 14), .ref (o + 15), .int (nI kc), .ref (o + 16)]) := by rw [hK]; exact f_o
                                            exact hp_rv hx hb hr hlocks hS hH (⟨rfl, _, _, _, _, f_o, f_9, f_10, fun h9 => h9.elim (fun h9 => absurd (hK.symm.trans h9) (by decide)) (fun h9 => absurd (hK.symm.trans h9) (by decide)), fun h9 => absurd (hK.symm.trans h9) (by decide), fr⟩) dX11_understand_588
                                          · have c_572 : (se / 9) = 3 := (nI_eq (by omega) (by omega)).mp c_572
                                            refine lv_iload_n hx hb dX11_understand_575 rfl (lv_at hl 2 rfl) ?_
                                            refine lv_sipush (v := nI 194) hx hb dX11_understand_576 (by decide) ?_
                                            refine lv_icmp_ne (tgt := 588) hx hb dX11_understand_579 (by decide) (fun c_579 => ?_) (fun c_579 => ?_)
                                            · have c_579 : ¬ (F = 194) := fun z => c_579 ((nI_eq (by omega) (by omega)).mpr z)
                                              have hK : rdK sb se = 0 := by rw [hKg, if_neg (fun h9 => by omega), if_neg (fun h9 => by rw [hc0] at h9; omega), if_neg (fun h9 => by omega)]; unfold kdC; rw [if_neg (by omega), if_neg (by omega), if_neg (by omega)]
                                              have f_o : μ1 o = some (hp_o 7 [.int (nI n), .ref (o + 1), .ref (o + 2), .ref (o + 3), .ref (o + 4), .ref (o + 5), .ref (o + 6), .int (nB on), .int (nI tz), .ref (o + 7), .int (nI se), .ref (o + 8), .ref (o + 9), .int (nI (rdK sb se)), .int (nI kl), .int (nI 0), .ref (o + 10), .int (nI sd), .ref (o + 11), .int (nI hd), .ref (o + 12), .int (nI an), .ref (o + 13), .int (nI fm), .int (nI fo), .ref (o + 14), .ref (o + 15), .int (nI kc), .ref (o + 16)]) := by rw [hK]; exact f_o
                                              exact hp_rv hx hb hr hlocks hS hH (⟨rfl, _, _, _, _, f_o, f_9, f_10, fun h9 => h9.elim (fun h9 => absurd (hK.symm.trans h9) (by decide)) (fun h9 => absurd (hK.symm.trans h9) (by decide)), fun h9 => absurd (hK.symm.trans h9) (by decide), fr⟩) dX11_understand_588
                                            · have c_579 : F = 194 := (nI_eq (by omega) (by omega)).mp c_579
                                              refine lv_aload_n hx hb dX11_understand_582 rfl (lv_at hl 0 rfl) ?_
                                              refine lv_bipush (v := nI 7) hx hb dX11_understand_583 (by decide) ?_
                                              refine hp_put hx hb hown hS.2.1 hH (P_X11_98.use hS) f_o rfl rfl (Nat.le_of_ble_eq_true rfl) dX11_understand_585 (fun H locs μ1 fz fn hH => ?_)
                                              have f_8 := (fn _ (by omega)).trans f_8
                                              have f_9 := (fn _ (by omega)).trans f_9
                                              have f_10 := (fn _ (by omega)).trans f_10
                                              have f_o : μ1 o = some (hp_o 7 [.int (nI n), .ref (o + 1), .ref (o + 2), .ref (o + 3), .ref (o + 4), .ref (o + 5), .ref (o + 6), .int (nB on), .int (nI tz), .ref (o + 7), .int (nI se), .ref (o + 8), .ref (o + 9), .int (nI 7), .int (nI kl), .int (nI 0), .ref (o + 10), .int (nI sd), .ref (o + 11), .int (nI hd), .ref (o + 12), .int (nI an), .ref (o + 13), .int (nI fm), .int (nI fo), .ref (o + 14), .ref (o + 15), .int (nI kc), .ref (o + 16)]) := fz
                                              have fr := hp_eqM.put (k := 0) fr (by decide) fn
                                              clear fz fn
                                              have hK : rdK sb se = 7 := by rw [hKg, if_neg (fun h9 => by omega), if_neg (fun h9 => by rw [hc0] at h9; omega), if_neg (fun h9 => by omega)]; unfold kdC; rw [if_neg (by omega), if_neg (by omega), if_pos (by omega)]
                                              have f_o : μ1 o = some (hp_o 7 [.int (nI n), .ref (o + 1), .ref (o + 2), .ref (o + 3), .ref (o + 4), .ref (o + 5), .ref (o + 6), .int (nB on), .int (nI tz), .ref (o + 7), .int (nI se), .ref (o + 8), .ref (o + 9), .int (nI (rdK sb se)), .int (nI kl), .int (nI 0), .ref (o + 10), .int (nI sd), .ref (o + 11), .int (nI hd), .ref (o + 12), .int (nI an), .ref (o + 13), .int (nI fm), .int (nI fo), .ref (o + 14), .ref (o + 15), .int (nI kc), .ref (o + 16)]) := by rw [hK]; exact f_o
                                              exact hp_rv hx hb hr hlocks hS hH (⟨rfl, _, _, _, _, f_o, f_9, f_10, fun h9 => h9.elim (fun h9 => absurd (hK.symm.trans h9) (by decide)) (fun h9 => absurd (hK.symm.trans h9) (by decide)), fun h9 => absurd (hK.symm.trans h9) (by decide), fr⟩) dX11_understand_588
                                        · have c_558 : F = 224 := (nI_eq (by omega) (by omega)).mp c_558
                                          refine lv_aload_n hx hb dX11_understand_561 rfl (lv_at hl 0 rfl) ?_
                                          refine lv_bipush (v := nI 6) hx hb dX11_understand_562 (by decide) ?_
                                          refine hp_put hx hb hown hS.2.1 hH (P_X11_98.use hS) f_o rfl rfl (Nat.le_of_ble_eq_true rfl) dX11_understand_564 (fun H locs μ1 fz fn hH => ?_)
                                          have f_8 := (fn _ (by omega)).trans f_8
                                          have f_9 := (fn _ (by omega)).trans f_9
                                          have f_10 := (fn _ (by omega)).trans f_10
                                          have f_o : μ1 o = some (hp_o 7 [.int (nI n), .ref (o + 1), .ref (o + 2), .ref (o + 3), .ref (o + 4), .ref (o + 5), .ref (o + 6), .int (nB on), .int (nI tz), .ref (o + 7), .int (nI se), .ref (o + 8), .ref (o + 9), .int (nI 6), .int (nI kl), .int (nI 0), .ref (o + 10), .int (nI sd), .ref (o + 11), .int (nI hd), .ref (o + 12), .int (nI an), .ref (o + 13), .int (nI fm), .int (nI fo), .ref (o + 14), .ref (o + 15), .int (nI kc), .ref (o + 16)]) := fz
                                          have fr := hp_eqM.put (k := 0) fr (by decide) fn
                                          clear fz fn
                                          refine lv_goto (tgt := 588) hx hb dX11_understand_567 (by decide) ?_
                                          have hK : rdK sb se = 6 := by rw [hKg, if_neg (fun h9 => by omega), if_neg (fun h9 => by rw [hc0] at h9; omega), if_neg (fun h9 => by omega)]; unfold kdC; rw [if_neg (by omega), if_pos (by omega)]
                                          have f_o : μ1 o = some (hp_o 7 [.int (nI n), .ref (o + 1), .ref (o + 2), .ref (o + 3), .ref (o + 4), .ref (o + 5), .ref (o + 6), .int (nB on), .int (nI tz), .ref (o + 7), .int (nI se), .ref (o + 8), .ref (o + 9), .int (nI (rdK sb se)), .int (nI kl), .int (nI 0), .ref (o + 10), .int (nI sd), .ref (o + 11), .int (nI hd), .ref (o + 12), .int (nI an), .ref (o + 13), .int (nI fm), .int (nI fo), .ref (o + 14), .ref (o + 15), .int (nI kc), .ref (o + 16)]) := by rw [hK]; exact f_o
                                          exact hp_rv hx hb hr hlocks hS hH (⟨rfl, _, _, _, _, f_o, f_9, f_10, fun h9 => h9.elim (fun h9 => absurd (hK.symm.trans h9) (by decide)) (fun h9 => absurd (hK.symm.trans h9) (by decide)), fun _ => by rw [valN_va 8 (by omega), ← hS2]; exact hS0, fr⟩) dX11_understand_588
                                    · have c_523 : (se / 9) = 4 := (nI_eq (by omega) (by omega)).mp c_523
                                      refine lv_iload_n hx hb dX11_understand_526 rfl (lv_at hl 2 rfl) ?_
                                      refine lv_bipush (v := nI 80) hx hb dX11_understand_527 (by decide) ?_
                                      refine lv_icmp_ne (tgt := 549) hx hb dX11_understand_529 (by decide) (fun c_529 => ?_) (fun c_529 => ?_)
                                      · have c_529 : ¬ (F = 80) := fun z => c_529 ((nI_eq (by omega) (by omega)).mpr z)
                                        refine lv_iload_n hx hb dX11_understand_549 rfl (lv_at hl 1 rfl) ?_
                                        refine lv_iconst (v := nI 4) hx hb dX11_understand_550 (by decide) ?_
                                        refine lv_icmp_ne (tgt := 570) hx hb dX11_understand_551 (by decide) (fun c_551 => ?_) (fun c_551 => ?_)
                                        · have c_551 : ¬ ((se / 9) = 4) := fun z => c_551 ((nI_eq (by omega) (by omega)).mpr z)
                                          refine lv_iload_n hx hb dX11_understand_570 rfl (lv_at hl 1 rfl) ?_
                                          refine lv_iconst (v := nI 3) hx hb dX11_understand_571 (by decide) ?_
                                          refine lv_icmp_ne (tgt := 588) hx hb dX11_understand_572 (by decide) (fun c_572 => ?_) (fun c_572 => ?_)
                                          · have c_572 : ¬ ((se / 9) = 3) := fun z => c_572 ((nI_eq (by omega) (by omega)).mpr z)
                                            have hK : rdK sb se = 0 := by rw [hKg, if_neg (fun h9 => by omega), if_neg (fun h9 => by rw [hc0] at h9; omega), if_neg (fun h9 => by omega)]; unfold kdC; rw [if_neg (by omega), if_neg (by omega), if_neg (by omega)]
                                            have f_o : μ1 o = some (hp_o 7 [.int (nI n), .ref (o + 1), .ref (o + 2), .ref (o + 3), .ref (o + 4), .ref (o + 5), .ref (o + 6), .int (nB on), .int (nI tz), .ref (o + 7), .int (nI se), .ref (o + 8), .ref (o + 9), .int (nI (rdK sb se)), .int (nI kl), .int (nI 0), .ref (o + 10), .int (nI sd), .ref (o + 11), .int (nI hd), .ref (o + 12), .int (nI an), .ref (o + 13), .int (nI fm), .int (nI fo), .ref (o + 14), .ref (o + 15), .int (nI kc), .ref (o + 16)]) := by rw [hK]; exact f_o
                                            exact hp_rv hx hb hr hlocks hS hH (⟨rfl, _, _, _, _, f_o, f_9, f_10, fun h9 => h9.elim (fun h9 => absurd (hK.symm.trans h9) (by decide)) (fun h9 => absurd (hK.symm.trans h9) (by decide)), fun h9 => absurd (hK.symm.trans h9) (by decide), fr⟩) dX11_understand_588
                                          · have c_572 : (se / 9) = 3 := (nI_eq (by omega) (by omega)).mp c_572
                                            refine lv_iload_n hx hb dX11_understand_575 rfl (lv_at hl 2 rfl) ?_
                                            refine lv_sipush (v := nI 194) hx hb dX11_understand_576 (by decide) ?_
                                            refine lv_icmp_ne (tgt := 588) hx hb dX11_understand_579 (by decide) (fun c_579 => ?_) (fun c_579 => ?_)
                                            · have c_579 : ¬ (F = 194) := fun z => c_579 ((nI_eq (by omega) (by omega)).mpr z)
                                              have hK : rdK sb se = 0 := by rw [hKg, if_neg (fun h9 => by omega), if_neg (fun h9 => by rw [hc0] at h9; omega), if_neg (fun h9 => by omega)]; unfold kdC; rw [if_neg (by omega), if_neg (by omega), if_neg (by omega)]
                                              have f_o : μ1 o = some (hp_o 7 [.int (nI n), .ref (o + 1), .ref (o + 2), .ref (o + 3), .ref (o + 4), .ref (o + 5), .ref (o + 6), .int (nB on), .int (nI tz), .ref (o + 7), .int (nI se), .ref (o + 8), .ref (o + 9), .int (nI (rdK sb se)), .int (nI kl), .int (nI 0), .ref (o + 10), .int (nI sd), .ref (o + 11), .int (nI hd), .ref (o + 12), .int (nI an), .ref (o + 13), .int (nI fm), .int (nI fo), .ref (o + 14), .ref (o + 15), .int (nI kc), .ref (o + 16)]) := by rw [hK]; exact f_o
                                              exact hp_rv hx hb hr hlocks hS hH (⟨rfl, _, _, _, _, f_o, f_9, f_10, fun h9 => h9.elim (fun h9 => absurd (hK.symm.trans h9) (by decide)) (fun h9 => absurd (hK.symm.trans h9) (by decide)), fun h9 => absurd (hK.symm.trans h9) (by decide), fr⟩) dX11_understand_588
                                            · have c_579 : F = 194 := (nI_eq (by omega) (by omega)).mp c_579
                                              refine lv_aload_n hx hb dX11_understand_582 rfl (lv_at hl 0 rfl) ?_
                                              refine lv_bipush (v := nI 7) hx hb dX11_understand_583 (by decide) ?_
                                              refine hp_put hx hb hown hS.2.1 hH (P_X11_98.use hS) f_o rfl rfl (Nat.le_of_ble_eq_true rfl) dX11_understand_585 (fun H locs μ1 fz fn hH => ?_)
                                              have f_8 := (fn _ (by omega)).trans f_8
                                              have f_9 := (fn _ (by omega)).trans f_9
                                              have f_10 := (fn _ (by omega)).trans f_10
                                              have f_o : μ1 o = some (hp_o 7 [.int (nI n), .ref (o + 1), .ref (o + 2), .ref (o + 3), .ref (o + 4), .ref (o + 5), .ref (o + 6), .int (nB on), .int (nI tz), .ref (o + 7), .int (nI se), .ref (o + 8), .ref (o + 9), .int (nI 7), .int (nI kl), .int (nI 0), .ref (o + 10), .int (nI sd), .ref (o + 11), .int (nI hd), .ref (o + 12), .int (nI an), .ref (o + 13), .int (nI fm), .int (nI fo), .ref (o + 14), .ref (o + 15), .int (nI kc), .ref (o + 16)]) := fz
                                              have fr := hp_eqM.put (k := 0) fr (by decide) fn
                                              clear fz fn
                                              have hK : rdK sb se = 7 := by rw [hKg, if_neg (fun h9 => by omega), if_neg (fun h9 => by rw [hc0] at h9; omega), if_neg (fun h9 => by omega)]; unfold kdC; rw [if_neg (by omega), if_neg (by omega), if_pos (by omega)]
                                              have f_o : μ1 o = some (hp_o 7 [.int (nI n), .ref (o + 1), .ref (o + 2), .ref (o + 3), .ref (o + 4), .ref (o + 5), .ref (o + 6), .int (nB on), .int (nI tz), .ref (o + 7), .int (nI se), .ref (o + 8), .ref (o + 9), .int (nI (rdK sb se)), .int (nI kl), .int (nI 0), .ref (o + 10), .int (nI sd), .ref (o + 11), .int (nI hd), .ref (o + 12), .int (nI an), .ref (o + 13), .int (nI fm), .int (nI fo), .ref (o + 14), .ref (o + 15), .int (nI kc), .ref (o + 16)]) := by rw [hK]; exact f_o
                                              exact hp_rv hx hb hr hlocks hS hH (⟨rfl, _, _, _, _, f_o, f_9, f_10, fun h9 => h9.elim (fun h9 => absurd (hK.symm.trans h9) (by decide)) (fun h9 => absurd (hK.symm.trans h9) (by decide)), fun h9 => absurd (hK.symm.trans h9) (by decide), fr⟩) dX11_understand_588
                                        · have c_551 : (se / 9) = 4 := (nI_eq (by omega) (by omega)).mp c_551
                                          refine lv_iload_n hx hb dX11_understand_554 rfl (lv_at hl 2 rfl) ?_
                                          refine lv_sipush (v := nI 224) hx hb dX11_understand_555 (by decide) ?_
                                          refine lv_icmp_ne (tgt := 570) hx hb dX11_understand_558 (by decide) (fun c_558 => ?_) (fun c_558 => ?_)
                                          · have c_558 : ¬ (F = 224) := fun z => c_558 ((nI_eq (by omega) (by omega)).mpr z)
                                            refine lv_iload_n hx hb dX11_understand_570 rfl (lv_at hl 1 rfl) ?_
                                            refine lv_iconst (v := nI 3) hx hb dX11_understand_571 (by decide) ?_
                                            refine lv_icmp_ne (tgt := 588) hx hb dX11_understand_572 (by decide) (fun c_572 => ?_) (fun c_572 => ?_)
                                            · have c_572 : ¬ ((se / 9) = 3) := fun z => c_572 ((nI_eq (by omega) (by omega)).mpr z)
                                              have hK : rdK sb se = 0 := by rw [hKg, if_neg (fun h9 => by omega), if_neg (fun h9 => by rw [hc0] at h9; omega), if_neg (fun h9 => by omega)]; unfold kdC; rw [if_neg (by omega), if_neg (by omega), if_neg (by omega)]
                                              have f_o : μ1 o = some (hp_o 7 [.int (nI n), .ref (o + 1), .ref (o + 2), .ref (o + 3), .ref (o + 4), .ref (o + 5), .ref (o + 6), .int (nB on), .int (nI tz), .ref (o + 7), .int (nI se), .ref (o + 8), .ref (o + 9), .int (nI (rdK sb se)), .int (nI kl), .int (nI 0), .ref (o + 10), .int (nI sd), .ref (o + 11), .int (nI hd), .ref (o + 12), .int (nI an), .ref (o + 13), .int (nI fm), .int (nI fo), .ref (o + 14), .ref (o + 15), .int (nI kc), .ref (o + 16)]) := by rw [hK]; exact f_o
                                              exact hp_rv hx hb hr hlocks hS hH (⟨rfl, _, _, _, _, f_o, f_9, f_10, fun h9 => h9.elim (fun h9 => absurd (hK.symm.trans h9) (by decide)) (fun h9 => absurd (hK.symm.trans h9) (by decide)), fun h9 => absurd (hK.symm.trans h9) (by decide), fr⟩) dX11_understand_588
                                            · have c_572 : (se / 9) = 3 := (nI_eq (by omega) (by omega)).mp c_572
                                              refine lv_iload_n hx hb dX11_understand_575 rfl (lv_at hl 2 rfl) ?_
                                              refine lv_sipush (v := nI 194) hx hb dX11_understand_576 (by decide) ?_
                                              refine lv_icmp_ne (tgt := 588) hx hb dX11_understand_579 (by decide) (fun c_579 => ?_) (fun c_579 => ?_)
                                              · have c_579 : ¬ (F = 194) := fun z => c_579 ((nI_eq (by omega) (by omega)).mpr z)
                                                have hK : rdK sb se = 0 := by rw [hKg, if_neg (fun h9 => by omega), if_neg (fun h9 => by rw [hc0] at h9; omega), if_neg (fun h9 => by omega)]; unfold kdC; rw [if_neg (by omega), if_neg (by omega), if_neg (by omega)]
                                                have f_o : μ1 o = some (hp_o 7 [.int (nI n), .ref (o + 1), .ref (o + 2), .ref (o + 3), .ref (o + 4), .ref (o + 5), .ref (o + 6), .int (nB on), .int (nI tz), .ref (o + 7), .int (nI se), .ref (o + 8), .ref (o + 9), .int (nI (rdK sb se)), .int (nI kl), .int (nI 0), .ref (o + 10), .int (nI sd), .ref (o + 11), .int (nI hd), .ref (o + 12), .int (nI an), .ref (o + 13), .int (nI fm), .int (nI fo), .ref (o + 14), .ref (o + 15), .int (nI kc), .ref (o + 16)]) := by rw [hK]; exact f_o
                                                exact hp_rv hx hb hr hlocks hS hH (⟨rfl, _, _, _, _, f_o, f_9, f_10, fun h9 => h9.elim (fun h9 => absurd (hK.symm.trans h9) (by decide)) (fun h9 => absurd (hK.symm.trans h9) (by decide)), fun h9 => absurd (hK.symm.trans h9) (by decide), fr⟩) dX11_understand_588
                                              · have c_579 : F = 194 := (nI_eq (by omega) (by omega)).mp c_579
                                                refine lv_aload_n hx hb dX11_understand_582 rfl (lv_at hl 0 rfl) ?_
                                                refine lv_bipush (v := nI 7) hx hb dX11_understand_583 (by decide) ?_
                                                refine hp_put hx hb hown hS.2.1 hH (P_X11_98.use hS) f_o rfl rfl (Nat.le_of_ble_eq_true rfl) dX11_understand_585 (fun H locs μ1 fz fn hH => ?_)
                                                have f_8 := (fn _ (by omega)).trans f_8
                                                have f_9 := (fn _ (by omega)).trans f_9
                                                have f_10 := (fn _ (by omega)).trans f_10
                                                have f_o : μ1 o = some (hp_o 7 [.int (nI n), .ref (o + 1), .ref (o + 2), .ref (o + 3), .ref (o + 4), .ref (o + 5), .ref (o + 6), .int (nB on), .int (nI tz), .ref (o + 7), .int (nI se), .ref (o + 8), .ref (o + 9), .int (nI 7), .int (nI kl), .int (nI 0), .ref (o + 10), .int (nI sd), .ref (o + 11), .int (nI hd), .ref (o + 12), .int (nI an), .ref (o + 13), .int (nI fm), .int (nI fo), .ref (o + 14), .ref (o + 15), .int (nI kc), .ref (o + 16)]) := fz
                                                have fr := hp_eqM.put (k := 0) fr (by decide) fn
                                                clear fz fn
                                                have hK : rdK sb se = 7 := by rw [hKg, if_neg (fun h9 => by omega), if_neg (fun h9 => by rw [hc0] at h9; omega), if_neg (fun h9 => by omega)]; unfold kdC; rw [if_neg (by omega), if_neg (by omega), if_pos (by omega)]
                                                have f_o : μ1 o = some (hp_o 7 [.int (nI n), .ref (o + 1), .ref (o + 2), .ref (o + 3), .ref (o + 4), .ref (o + 5), .ref (o + 6), .int (nB on), .int (nI tz), .ref (o + 7), .int (nI se), .ref (o + 8), .ref (o + 9), .int (nI (rdK sb se)), .int (nI kl), .int (nI 0), .ref (o + 10), .int (nI sd), .ref (o + 11), .int (nI hd), .ref (o + 12), .int (nI an), .ref (o + 13), .int (nI fm), .int (nI fo), .ref (o + 14), .ref (o + 15), .int (nI kc), .ref (o + 16)]) := by rw [hK]; exact f_o
                                                exact hp_rv hx hb hr hlocks hS hH (⟨rfl, _, _, _, _, f_o, f_9, f_10, fun h9 => h9.elim (fun h9 => absurd (hK.symm.trans h9) (by decide)) (fun h9 => absurd (hK.symm.trans h9) (by decide)), fun h9 => absurd (hK.symm.trans h9) (by decide), fr⟩) dX11_understand_588
                                          · have c_558 : F = 224 := (nI_eq (by omega) (by omega)).mp c_558
                                            refine lv_aload_n hx hb dX11_understand_561 rfl (lv_at hl 0 rfl) ?_
                                            refine lv_bipush (v := nI 6) hx hb dX11_understand_562 (by decide) ?_
                                            refine hp_put hx hb hown hS.2.1 hH (P_X11_98.use hS) f_o rfl rfl (Nat.le_of_ble_eq_true rfl) dX11_understand_564 (fun H locs μ1 fz fn hH => ?_)
                                            have f_8 := (fn _ (by omega)).trans f_8
                                            have f_9 := (fn _ (by omega)).trans f_9
                                            have f_10 := (fn _ (by omega)).trans f_10
                                            have f_o : μ1 o = some (hp_o 7 [.int (nI n), .ref (o + 1), .ref (o + 2), .ref (o + 3), .ref (o + 4), .ref (o + 5), .ref (o + 6), .int (nB on), .int (nI tz), .ref (o + 7), .int (nI se), .ref (o + 8), .ref (o + 9), .int (nI 6), .int (nI kl), .int (nI 0), .ref (o + 10), .int (nI sd), .ref (o + 11), .int (nI hd), .ref (o + 12), .int (nI an), .ref (o + 13), .int (nI fm), .int (nI fo), .ref (o + 14), .ref (o + 15), .int (nI kc), .ref (o + 16)]) := fz
                                            have fr := hp_eqM.put (k := 0) fr (by decide) fn
                                            clear fz fn
                                            refine lv_goto (tgt := 588) hx hb dX11_understand_567 (by decide) ?_
                                            have hK : rdK sb se = 6 := by rw [hKg, if_neg (fun h9 => by omega), if_neg (fun h9 => by rw [hc0] at h9; omega), if_neg (fun h9 => by omega)]; unfold kdC; rw [if_neg (by omega), if_pos (by omega)]
                                            have f_o : μ1 o = some (hp_o 7 [.int (nI n), .ref (o + 1), .ref (o + 2), .ref (o + 3), .ref (o + 4), .ref (o + 5), .ref (o + 6), .int (nB on), .int (nI tz), .ref (o + 7), .int (nI se), .ref (o + 8), .ref (o + 9), .int (nI (rdK sb se)), .int (nI kl), .int (nI 0), .ref (o + 10), .int (nI sd), .ref (o + 11), .int (nI hd), .ref (o + 12), .int (nI an), .ref (o + 13), .int (nI fm), .int (nI fo), .ref (o + 14), .ref (o + 15), .int (nI kc), .ref (o + 16)]) := by rw [hK]; exact f_o
                                            exact hp_rv hx hb hr hlocks hS hH (⟨rfl, _, _, _, _, f_o, f_9, f_10, fun h9 => h9.elim (fun h9 => absurd (hK.symm.trans h9) (by decide)) (fun h9 => absurd (hK.symm.trans h9) (by decide)), fun _ => by rw [valN_va 8 (by omega), ← hS2]; exact hS0, fr⟩) dX11_understand_588
                                      · have c_529 : F = 80 := (nI_eq (by omega) (by omega)).mp c_529
                                        refine lv_aload_n hx hb dX11_understand_532 rfl (lv_at hl 0 rfl) ?_
                                        refine hp_get hx hb hown hS.2.1 hH (F_X11_39.use hS) f_o rfl dX11_understand_533 ?_
                                        refine lv_iconst (v := nI 1) hx hb dX11_understand_536 (by decide) ?_
                                        refine hp_ialdI hx hb hS.ai hH f_9 (by omega) (by omega) dX11_understand_537 ?_
                                        refine hp_eqi (z := nI S2) (hS0) ?_
                                        refine lv_if_ne (tgt := 549) hx hb dX11_understand_538 (by decide) (fun c_538 => ?_) (fun c_538 => ?_)
                                        · have c_538 : ¬ (S2 = 0) := nz_n (by omega) c_538
                                          refine lv_iload_n hx hb dX11_understand_549 rfl (lv_at hl 1 rfl) ?_
                                          refine lv_iconst (v := nI 4) hx hb dX11_understand_550 (by decide) ?_
                                          refine lv_icmp_ne (tgt := 570) hx hb dX11_understand_551 (by decide) (fun c_551 => ?_) (fun c_551 => ?_)
                                          · have c_551 : ¬ ((se / 9) = 4) := fun z => c_551 ((nI_eq (by omega) (by omega)).mpr z)
                                            refine lv_iload_n hx hb dX11_understand_570 rfl (lv_at hl 1 rfl) ?_
                                            refine lv_iconst (v := nI 3) hx hb dX11_understand_571 (by decide) ?_
                                            refine lv_icmp_ne (tgt := 588) hx hb dX11_understand_572 (by decide) (fun c_572 => ?_) (fun c_572 => ?_)
                                            · have c_572 : ¬ ((se / 9) = 3) := fun z => c_572 ((nI_eq (by omega) (by omega)).mpr z)
                                              have hK : rdK sb se = 0 := by rw [hKg, if_neg (fun h9 => by omega), if_neg (fun h9 => by rw [hc0] at h9; omega), if_neg (fun h9 => by omega)]; unfold kdC; rw [if_neg (by omega), if_neg (by omega), if_neg (by omega)]
                                              have f_o : μ1 o = some (hp_o 7 [.int (nI n), .ref (o + 1), .ref (o + 2), .ref (o + 3), .ref (o + 4), .ref (o + 5), .ref (o + 6), .int (nB on), .int (nI tz), .ref (o + 7), .int (nI se), .ref (o + 8), .ref (o + 9), .int (nI (rdK sb se)), .int (nI kl), .int (nI 0), .ref (o + 10), .int (nI sd), .ref (o + 11), .int (nI hd), .ref (o + 12), .int (nI an), .ref (o + 13), .int (nI fm), .int (nI fo), .ref (o + 14), .ref (o + 15), .int (nI kc), .ref (o + 16)]) := by rw [hK]; exact f_o
                                              exact hp_rv hx hb hr hlocks hS hH (⟨rfl, _, _, _, _, f_o, f_9, f_10, fun h9 => h9.elim (fun h9 => absurd (hK.symm.trans h9) (by decide)) (fun h9 => absurd (hK.symm.trans h9) (by decide)), fun h9 => absurd (hK.symm.trans h9) (by decide), fr⟩) dX11_understand_588
                                            · have c_572 : (se / 9) = 3 := (nI_eq (by omega) (by omega)).mp c_572
                                              refine lv_iload_n hx hb dX11_understand_575 rfl (lv_at hl 2 rfl) ?_
                                              refine lv_sipush (v := nI 194) hx hb dX11_understand_576 (by decide) ?_
                                              refine lv_icmp_ne (tgt := 588) hx hb dX11_understand_579 (by decide) (fun c_579 => ?_) (fun c_579 => ?_)
                                              · have c_579 : ¬ (F = 194) := fun z => c_579 ((nI_eq (by omega) (by omega)).mpr z)
                                                have hK : rdK sb se = 0 := by rw [hKg, if_neg (fun h9 => by omega), if_neg (fun h9 => by rw [hc0] at h9; omega), if_neg (fun h9 => by omega)]; unfold kdC; rw [if_neg (by omega), if_neg (by omega), if_neg (by omega)]
                                                have f_o : μ1 o = some (hp_o 7 [.int (nI n), .ref (o + 1), .ref (o + 2), .ref (o + 3), .ref (o + 4), .ref (o + 5), .ref (o + 6), .int (nB on), .int (nI tz), .ref (o + 7), .int (nI se), .ref (o + 8), .ref (o + 9), .int (nI (rdK sb se)), .int (nI kl), .int (nI 0), .ref (o + 10), .int (nI sd), .ref (o + 11), .int (nI hd), .ref (o + 12), .int (nI an), .ref (o + 13), .int (nI fm), .int (nI fo), .ref (o + 14), .ref (o + 15), .int (nI kc), .ref (o + 16)]) := by rw [hK]; exact f_o
                                                exact hp_rv hx hb hr hlocks hS hH (⟨rfl, _, _, _, _, f_o, f_9, f_10, fun h9 => h9.elim (fun h9 => absurd (hK.symm.trans h9) (by decide)) (fun h9 => absurd (hK.symm.trans h9) (by decide)), fun h9 => absurd (hK.symm.trans h9) (by decide), fr⟩) dX11_understand_588
                                              · have c_579 : F = 194 := (nI_eq (by omega) (by omega)).mp c_579
                                                refine lv_aload_n hx hb dX11_understand_582 rfl (lv_at hl 0 rfl) ?_
                                                refine lv_bipush (v := nI 7) hx hb dX11_understand_583 (by decide) ?_
                                                refine hp_put hx hb hown hS.2.1 hH (P_X11_98.use hS) f_o rfl rfl (Nat.le_of_ble_eq_true rfl) dX11_understand_585 (fun H locs μ1 fz fn hH => ?_)
                                                have f_8 := (fn _ (by omega)).trans f_8
                                                have f_9 := (fn _ (by omega)).trans f_9
                                                have f_10 := (fn _ (by omega)).trans f_10
                                                have f_o : μ1 o = some (hp_o 7 [.int (nI n), .ref (o + 1), .ref (o + 2), .ref (o + 3), .ref (o + 4), .ref (o + 5), .ref (o + 6), .int (nB on), .int (nI tz), .ref (o + 7), .int (nI se), .ref (o + 8), .ref (o + 9), .int (nI 7), .int (nI kl), .int (nI 0), .ref (o + 10), .int (nI sd), .ref (o + 11), .int (nI hd), .ref (o + 12), .int (nI an), .ref (o + 13), .int (nI fm), .int (nI fo), .ref (o + 14), .ref (o + 15), .int (nI kc), .ref (o + 16)]) := fz
                                                have fr := hp_eqM.put (k := 0) fr (by decide) fn
                                                clear fz fn
                                                have hK : rdK sb se = 7 := by rw [hKg, if_neg (fun h9 => by omega), if_neg (fun h9 => by rw [hc0] at h9; omega), if_neg (fun h9 => by omega)]; unfold kdC; rw [if_neg (by omega), if_neg (by omega), if_pos (by omega)]
                                                have f_o : μ1 o = some (hp_o 7 [.int (nI n), .ref (o + 1), .ref (o + 2), .ref (o + 3), .ref (o + 4), .ref (o + 5), .ref (o + 6), .int (nB on), .int (nI tz), .ref (o + 7), .int (nI se), .ref (o + 8), .ref (o + 9), .int (nI (rdK sb se)), .int (nI kl), .int (nI 0), .ref (o + 10), .int (nI sd), .ref (o + 11), .int (nI hd), .ref (o + 12), .int (nI an), .ref (o + 13), .int (nI fm), .int (nI fo), .ref (o + 14), .ref (o + 15), .int (nI kc), .ref (o + 16)]) := by rw [hK]; exact f_o
                                                exact hp_rv hx hb hr hlocks hS hH (⟨rfl, _, _, _, _, f_o, f_9, f_10, fun h9 => h9.elim (fun h9 => absurd (hK.symm.trans h9) (by decide)) (fun h9 => absurd (hK.symm.trans h9) (by decide)), fun h9 => absurd (hK.symm.trans h9) (by decide), fr⟩) dX11_understand_588
                                          · have c_551 : (se / 9) = 4 := (nI_eq (by omega) (by omega)).mp c_551
                                            refine lv_iload_n hx hb dX11_understand_554 rfl (lv_at hl 2 rfl) ?_
                                            refine lv_sipush (v := nI 224) hx hb dX11_understand_555 (by decide) ?_
                                            refine lv_icmp_ne (tgt := 570) hx hb dX11_understand_558 (by decide) (fun c_558 => ?_) (fun c_558 => ?_)
                                            · have c_558 : ¬ (F = 224) := fun z => c_558 ((nI_eq (by omega) (by omega)).mpr z)
                                              refine lv_iload_n hx hb dX11_understand_570 rfl (lv_at hl 1 rfl) ?_
                                              refine lv_iconst (v := nI 3) hx hb dX11_understand_571 (by decide) ?_
                                              refine lv_icmp_ne (tgt := 588) hx hb dX11_understand_572 (by decide) (fun c_572 => ?_) (fun c_572 => ?_)
                                              · have c_572 : ¬ ((se / 9) = 3) := fun z => c_572 ((nI_eq (by omega) (by omega)).mpr z)
                                                have hK : rdK sb se = 0 := by rw [hKg, if_neg (fun h9 => by omega), if_neg (fun h9 => by rw [hc0] at h9; omega), if_neg (fun h9 => by omega)]; unfold kdC; rw [if_neg (by omega), if_neg (by omega), if_neg (by omega)]
                                                have f_o : μ1 o = some (hp_o 7 [.int (nI n), .ref (o + 1), .ref (o + 2), .ref (o + 3), .ref (o + 4), .ref (o + 5), .ref (o + 6), .int (nB on), .int (nI tz), .ref (o + 7), .int (nI se), .ref (o + 8), .ref (o + 9), .int (nI (rdK sb se)), .int (nI kl), .int (nI 0), .ref (o + 10), .int (nI sd), .ref (o + 11), .int (nI hd), .ref (o + 12), .int (nI an), .ref (o + 13), .int (nI fm), .int (nI fo), .ref (o + 14), .ref (o + 15), .int (nI kc), .ref (o + 16)]) := by rw [hK]; exact f_o
                                                exact hp_rv hx hb hr hlocks hS hH (⟨rfl, _, _, _, _, f_o, f_9, f_10, fun h9 => h9.elim (fun h9 => absurd (hK.symm.trans h9) (by decide)) (fun h9 => absurd (hK.symm.trans h9) (by decide)), fun h9 => absurd (hK.symm.trans h9) (by decide), fr⟩) dX11_understand_588
                                              · have c_572 : (se / 9) = 3 := (nI_eq (by omega) (by omega)).mp c_572
                                                refine lv_iload_n hx hb dX11_understand_575 rfl (lv_at hl 2 rfl) ?_
                                                refine lv_sipush (v := nI 194) hx hb dX11_understand_576 (by decide) ?_
                                                refine lv_icmp_ne (tgt := 588) hx hb dX11_understand_579 (by decide) (fun c_579 => ?_) (fun c_579 => ?_)
                                                · have c_579 : ¬ (F = 194) := fun z => c_579 ((nI_eq (by omega) (by omega)).mpr z)
                                                  have hK : rdK sb se = 0 := by rw [hKg, if_neg (fun h9 => by omega), if_neg (fun h9 => by rw [hc0] at h9; omega), if_neg (fun h9 => by omega)]; unfold kdC; rw [if_neg (by omega), if_neg (by omega), if_neg (by omega)]
                                                  have f_o : μ1 o = some (hp_o 7 [.int (nI n), .ref (o + 1), .ref (o + 2), .ref (o + 3), .ref (o + 4), .ref (o + 5), .ref (o + 6), .int (nB on), .int (nI tz), .ref (o + 7), .int (nI se), .ref (o + 8), .ref (o + 9), .int (nI (rdK sb se)), .int (nI kl), .int (nI 0), .ref (o + 10), .int (nI sd), .ref (o + 11), .int (nI hd), .ref (o + 12), .int (nI an), .ref (o + 13), .int (nI fm), .int (nI fo), .ref (o + 14), .ref (o + 15), .int (nI kc), .ref (o + 16)]) := by rw [hK]; exact f_o
                                                  exact hp_rv hx hb hr hlocks hS hH (⟨rfl, _, _, _, _, f_o, f_9, f_10, fun h9 => h9.elim (fun h9 => absurd (hK.symm.trans h9) (by decide)) (fun h9 => absurd (hK.symm.trans h9) (by decide)), fun h9 => absurd (hK.symm.trans h9) (by decide), fr⟩) dX11_understand_588
                                                · have c_579 : F = 194 := (nI_eq (by omega) (by omega)).mp c_579
                                                  refine lv_aload_n hx hb dX11_understand_582 rfl (lv_at hl 0 rfl) ?_
                                                  refine lv_bipush (v := nI 7) hx hb dX11_understand_583 (by decide) ?_
                                                  refine hp_put hx hb hown hS.2.1 hH (P_X11_98.use hS) f_o rfl rfl (Nat.le_of_ble_eq_true rfl) dX11_understand_585 (fun H locs μ1 fz fn hH => ?_)
                                                  have f_8 := (fn _ (by omega)).trans f_8
                                                  have f_9 := (fn _ (by omega)).trans f_9
                                                  have f_10 := (fn _ (by omega)).trans f_10
                                                  have f_o : μ1 o = some (hp_o 7 [.int (nI n), .ref (o + 1), .ref (o + 2), .ref (o + 3), .ref (o + 4), .ref (o + 5), .ref (o + 6), .int (nB on), .int (nI tz), .ref (o + 7), .int (nI se), .ref (o + 8), .ref (o + 9), .int (nI 7), .int (nI kl), .int (nI 0), .ref (o + 10), .int (nI sd), .ref (o + 11), .int (nI hd), .ref (o + 12), .int (nI an), .ref (o + 13), .int (nI fm), .int (nI fo), .ref (o + 14), .ref (o + 15), .int (nI kc), .ref (o + 16)]) := fz
                                                  have fr := hp_eqM.put (k := 0) fr (by decide) fn
                                                  clear fz fn
                                                  have hK : rdK sb se = 7 := by rw [hKg, if_neg (fun h9 => by omega), if_neg (fun h9 => by rw [hc0] at h9; omega), if_neg (fun h9 => by omega)]; unfold kdC; rw [if_neg (by omega), if_neg (by omega), if_pos (by omega)]
                                                  have f_o : μ1 o = some (hp_o 7 [.int (nI n), .ref (o + 1), .ref (o + 2), .ref (o + 3), .ref (o + 4), .ref (o + 5), .ref (o + 6), .int (nB on), .int (nI tz), .ref (o + 7), .int (nI se), .ref (o + 8), .ref (o + 9), .int (nI (rdK sb se)), .int (nI kl), .int (nI 0), .ref (o + 10), .int (nI sd), .ref (o + 11), .int (nI hd), .ref (o + 12), .int (nI an), .ref (o + 13), .int (nI fm), .int (nI fo), .ref (o + 14), .ref (o + 15), .int (nI kc), .ref (o + 16)]) := by rw [hK]; exact f_o
                                                  exact hp_rv hx hb hr hlocks hS hH (⟨rfl, _, _, _, _, f_o, f_9, f_10, fun h9 => h9.elim (fun h9 => absurd (hK.symm.trans h9) (by decide)) (fun h9 => absurd (hK.symm.trans h9) (by decide)), fun h9 => absurd (hK.symm.trans h9) (by decide), fr⟩) dX11_understand_588
                                            · have c_558 : F = 224 := (nI_eq (by omega) (by omega)).mp c_558
                                              refine lv_aload_n hx hb dX11_understand_561 rfl (lv_at hl 0 rfl) ?_
                                              refine lv_bipush (v := nI 6) hx hb dX11_understand_562 (by decide) ?_
                                              refine hp_put hx hb hown hS.2.1 hH (P_X11_98.use hS) f_o rfl rfl (Nat.le_of_ble_eq_true rfl) dX11_understand_564 (fun H locs μ1 fz fn hH => ?_)
                                              have f_8 := (fn _ (by omega)).trans f_8
                                              have f_9 := (fn _ (by omega)).trans f_9
                                              have f_10 := (fn _ (by omega)).trans f_10
                                              have f_o : μ1 o = some (hp_o 7 [.int (nI n), .ref (o + 1), .ref (o + 2), .ref (o + 3), .ref (o + 4), .ref (o + 5), .ref (o + 6), .int (nB on), .int (nI tz), .ref (o + 7), .int (nI se), .ref (o + 8), .ref (o + 9), .int (nI 6), .int (nI kl), .int (nI 0), .ref (o + 10), .int (nI sd), .ref (o + 11), .int (nI hd), .ref (o + 12), .int (nI an), .ref (o + 13), .int (nI fm), .int (nI fo), .ref (o + 14), .ref (o + 15), .int (nI kc), .ref (o + 16)]) := fz
                                              have fr := hp_eqM.put (k := 0) fr (by decide) fn
                                              clear fz fn
                                              refine lv_goto (tgt := 588) hx hb dX11_understand_567 (by decide) ?_
                                              have hK : rdK sb se = 6 := by rw [hKg, if_neg (fun h9 => by omega), if_neg (fun h9 => by rw [hc0] at h9; omega), if_neg (fun h9 => by omega)]; unfold kdC; rw [if_neg (by omega), if_pos (by omega)]
                                              have f_o : μ1 o = some (hp_o 7 [.int (nI n), .ref (o + 1), .ref (o + 2), .ref (o + 3), .ref (o + 4), .ref (o + 5), .ref (o + 6), .int (nB on), .int (nI tz), .ref (o + 7), .int (nI se), .ref (o + 8), .ref (o + 9), .int (nI (rdK sb se)), .int (nI kl), .int (nI 0), .ref (o + 10), .int (nI sd), .ref (o + 11), .int (nI hd), .ref (o + 12), .int (nI an), .ref (o + 13), .int (nI fm), .int (nI fo), .ref (o + 14), .ref (o + 15), .int (nI kc), .ref (o + 16)]) := by rw [hK]; exact f_o
                                              exact hp_rv hx hb hr hlocks hS hH (⟨rfl, _, _, _, _, f_o, f_9, f_10, fun h9 => h9.elim (fun h9 => absurd (hK.symm.trans h9) (by decide)) (fun h9 => absurd (hK.symm.trans h9) (by decide)), fun _ => by rw [valN_va 8 (by omega), ← hS2]; exact hS0, fr⟩) dX11_understand_588
                                        · have c_538 : S2 = 0 := nz_0 (by omega) c_538
                                          refine lv_aload_n hx hb dX11_understand_541 rfl (lv_at hl 0 rfl) ?_
                                          refine lv_iconst (v := nI 5) hx hb dX11_understand_542 (by decide) ?_
                                          refine hp_put hx hb hown hS.2.1 hH (P_X11_98.use hS) f_o rfl rfl (Nat.le_of_ble_eq_true rfl) dX11_understand_543 (fun H locs μ1 fz fn hH => ?_)
                                          have f_8 := (fn _ (by omega)).trans f_8
                                          have f_9 := (fn _ (by omega)).trans f_9
                                          have f_10 := (fn _ (by omega)).trans f_10
                                          have f_o : μ1 o = some (hp_o 7 [.int (nI n), .ref (o + 1), .ref (o + 2), .ref (o + 3), .ref (o + 4), .ref (o + 5), .ref (o + 6), .int (nB on), .int (nI tz), .ref (o + 7), .int (nI se), .ref (o + 8), .ref (o + 9), .int (nI 5), .int (nI kl), .int (nI 0), .ref (o + 10), .int (nI sd), .ref (o + 11), .int (nI hd), .ref (o + 12), .int (nI an), .ref (o + 13), .int (nI fm), .int (nI fo), .ref (o + 14), .ref (o + 15), .int (nI kc), .ref (o + 16)]) := fz
                                          have fr := hp_eqM.put (k := 0) fr (by decide) fn
                                          clear fz fn
                                          refine lv_goto (tgt := 588) hx hb dX11_understand_546 (by decide) ?_
                                          have hK : rdK sb se = 5 := by rw [hKg, if_neg (fun h9 => by omega), if_neg (fun h9 => by rw [hc0] at h9; omega), if_neg (fun h9 => by omega)]; unfold kdC; rw [if_pos (by omega)]
                                          have f_o : μ1 o = some (hp_o 7 [.int (nI n), .ref (o + 1), .ref (o + 2), .ref (o + 3), .ref (o + 4), .ref (o + 5), .ref (o + 6), .int (nB on), .int (nI tz), .ref (o + 7), .int (nI se), .ref (o + 8), .ref (o + 9), .int (nI (rdK sb se)), .int (nI kl), .int (nI 0), .ref (o + 10), .int (nI sd), .ref (o + 11), .int (nI hd), .ref (o + 12), .int (nI an), .ref (o + 13), .int (nI fm), .int (nI fo), .ref (o + 14), .ref (o + 15), .int (nI kc), .ref (o + 16)]) := by rw [hK]; exact f_o
                                          exact hp_rv hx hb hr hlocks hS hH (⟨rfl, _, _, _, _, f_o, f_9, f_10, fun h9 => h9.elim (fun h9 => absurd (hK.symm.trans h9) (by decide)) (fun h9 => absurd (hK.symm.trans h9) (by decide)), fun h9 => absurd (hK.symm.trans h9) (by decide), fr⟩) dX11_understand_588
                                  · have c_450 : (se / 9) = 9 := (nI_eq (by omega) (by omega)).mp c_450
                                    refine lv_aload_n hx hb dX11_understand_453 rfl (lv_at hl 0 rfl) ?_
                                    refine lv_iconst (v := nI 4) hx hb dX11_understand_454 (by decide) ?_
                                    refine hp_put hx hb hown hS.2.1 hH (P_X11_98.use hS) f_o rfl rfl (Nat.le_of_ble_eq_true rfl) dX11_understand_455 (fun H locs μ1 fz fn hH => ?_)
                                    have f_8 := (fn _ (by omega)).trans f_8
                                    have f_9 := (fn _ (by omega)).trans f_9
                                    have f_10 := (fn _ (by omega)).trans f_10
                                    have f_o : μ1 o = some (hp_o 7 [.int (nI n), .ref (o + 1), .ref (o + 2), .ref (o + 3), .ref (o + 4), .ref (o + 5), .ref (o + 6), .int (nB on), .int (nI tz), .ref (o + 7), .int (nI se), .ref (o + 8), .ref (o + 9), .int (nI 4), .int (nI kl), .int (nI 0), .ref (o + 10), .int (nI sd), .ref (o + 11), .int (nI hd), .ref (o + 12), .int (nI an), .ref (o + 13), .int (nI fm), .int (nI fo), .ref (o + 14), .ref (o + 15), .int (nI kc), .ref (o + 16)]) := fz
                                    have fr := hp_eqM.put (k := 0) fr (by decide) fn
                                    clear fz fn
                                    refine lv_aload_n hx hb dX11_understand_458 rfl (lv_at hl 0 rfl) ?_
                                    refine lv_iload_n hx hb dX11_understand_459 rfl (lv_at hl 2 rfl) ?_
                                    refine lv_sipush (v := nI 145) hx hb dX11_understand_460 (by decide) ?_
                                    refine lv_isub hx hb dX11_understand_463 ?_
                                    refine hp_eqi (z := nI (F - 145)) (pk_sub (by omega)) ?_
                                    refine lv_iconst (v := nI 2) hx hb dX11_understand_464 (by decide) ?_
                                    refine lv_idiv hx hb dX11_understand_465 (nI_ne0 (by omega) (by omega)) ?_
                                    refine hp_eqi (z := nI ((F - 145) / 2)) (pk_div (by omega) (by omega) (by omega)) ?_
                                    refine hp_put hx hb hown hS.2.1 hH (P_X11_107.use hS) f_o rfl rfl (Nat.le_of_ble_eq_true rfl) dX11_understand_466 (fun H locs μ1 fz fn hH => ?_)
                                    have f_8 := (fn _ (by omega)).trans f_8
                                    have f_9 := (fn _ (by omega)).trans f_9
                                    have f_10 := (fn _ (by omega)).trans f_10
                                    have f_o : μ1 o = some (hp_o 7 [.int (nI n), .ref (o + 1), .ref (o + 2), .ref (o + 3), .ref (o + 4), .ref (o + 5), .ref (o + 6), .int (nB on), .int (nI tz), .ref (o + 7), .int (nI se), .ref (o + 8), .ref (o + 9), .int (nI 4), .int (nI ((F - 145) / 2)), .int (nI 0), .ref (o + 10), .int (nI sd), .ref (o + 11), .int (nI hd), .ref (o + 12), .int (nI an), .ref (o + 13), .int (nI fm), .int (nI fo), .ref (o + 14), .ref (o + 15), .int (nI kc), .ref (o + 16)]) := fz
                                    have fr := hp_eqM.put (k := 0) fr (by decide) fn
                                    clear fz fn
                                    refine lv_iconst (v := nI 0) hx hb dX11_understand_469 (by decide) ?_
                                    refine lv_istore (lv' := [(5, .int (nI 0)), (0, .ref o), (1, .int (nI (se / 9))), (2, .int (nI F)), (3, .int (nI 1)), (4, .int (nI (crcN sb se (se / 9 - 2))))]) hx hb dX11_understand_470 hl (by decide) rfl (fun ls hl => ?_)
                                    have lp_472 : ∀ (kk472 : Nat) (k : Nat) (D1 : Nat → Nat), (k ≤ 40) → (∀ j, j < k → D1 j = tdN sb se 5 0 / 2 ^ j % 2) → (40 - k) < kk472 → ∀ (μ1 : hp_M) (H : Heap) (locs : List Loc) (ls : Array Slot), (μ1 o = some (hp_o 7 [.int (nI n), .ref (o + 1), .ref (o + 2), .ref (o + 3), .ref (o + 4), .ref (o + 5), .ref (o + 6), .int (nB on), .int (nI tz), .ref (o + 7), .int (nI se), .ref (o + 8), .ref (o + 9), .int (nI 4), .int (nI ((F - 145) / 2)), .int (nI 0), .ref (o + 10), .int (nI sd), .ref (o + 11), .int (nI hd), .ref (o + 12), .int (nI an), .ref (o + 13), .int (nI fm), .int (nI fo), .ref (o + 14), .ref (o + 15), .int (nI kc), .ref (o + 16)])) → (μ1 (o + 8) = some (hp_n X 160 sb)) → (μ1 (o + 9) = some (hp_i X 18 f1)) → (μ1 (o + 10) = some (hp_n X 48 D1)) → hp_eqM [0, 9, 10] o μ1 μ → hp_w X cls μ1 nx H locs → lv_has ls 7 [(0, .ref o), (1, .int (nI (se / 9))), (2, .int (nI F)), (5, .int (nI k))] → W p l e { frames := 2, cells := 0, slots := 0, locals := 80 } s m [.ref o].toArray below meth c H locs 0 0 (MQ below (hq_v X (po_v nx (fun z => ∃ (kl9 tc9 : Nat) (B9 : Nat → Int32) (D9 : Nat → Nat), z o = some (hp_o 7 [.int (nI n), .ref (o + 1), .ref (o + 2), .ref (o + 3), .ref (o + 4), .ref (o + 5), .ref (o + 6), .int (nB on), .int (nI tz), .ref (o + 7), .int (nI se), .ref (o + 8), .ref (o + 9), .int (nI (rdK sb se)), .int (nI kl9), .int (nI tc9), .ref (o + 10), .int (nI sd), .ref (o + 11), .int (nI hd), .ref (o + 12), .int (nI an), .ref (o + 13), .int (nI fm), .int (nI fo), .ref (o + 14), .ref (o + 15), .int (nI kc), .ref (o + 16)]) ∧ z (o + 9) = some (hp_i X 18 B9) ∧ z (o + 10) = some (hp_n X 48 D9) ∧ (rdK sb se = 3 ∨ rdK sb se = 4 → kl9 = lvOf (valN sb se 0 8) ∧ tc9 = rdC sb se ∧ ∀ k, k < tc9 → D9 k = rdT sb se / 2 ^ k % 2) ∧ (rdK sb se = 6 → B9 1 = nI (valN sb se 9 8)) ∧ hp_eqM [0, 9, 10] o z μ))) [.ref o].toArray s 0 0 (hp_A X)) (F0 m 472 ls []) := by
                                      intro kk472
                                      induction kk472 with
                                      | zero =>
                                        intro k D1 hk hD1 hkk472
                                        exact absurd hkk472 (Nat.not_lt_zero _)
                                      | succ kk472 ih472 =>
                                        intro k D1 hk hD1 hkk472 μ1 H locs ls f_o f_8 f_9 f_10 fr hH hl
                                        refine lv_iload hx hb dX11_understand_472 (lv_at hl 3 rfl) ?_
                                        refine lv_bipush (v := nI 40) hx hb dX11_understand_474 (by decide) ?_
                                        refine lv_icmp_ge (tgt := 512) hx hb dX11_understand_476 (by decide) (fun c_476 => ?_) (fun c_476 => ?_)
                                        · have c_476 : 40 ≤ k := (nI_leI (by omega) (by omega)).mp c_476
                                          refine lv_aload_n hx hb dX11_understand_512 rfl (lv_at hl 0 rfl) ?_
                                          refine lv_bipush (v := nI 40) hx hb dX11_understand_513 (by decide) ?_
                                          refine hp_put hx hb hown hS.2.1 hH (P_X11_101.use hS) f_o rfl rfl (Nat.le_of_ble_eq_true rfl) dX11_understand_515 (fun H locs μ1 fz fn hH => ?_)
                                          have f_8 := (fn _ (by omega)).trans f_8
                                          have f_9 := (fn _ (by omega)).trans f_9
                                          have f_10 := (fn _ (by omega)).trans f_10
                                          have f_o : μ1 o = some (hp_o 7 [.int (nI n), .ref (o + 1), .ref (o + 2), .ref (o + 3), .ref (o + 4), .ref (o + 5), .ref (o + 6), .int (nB on), .int (nI tz), .ref (o + 7), .int (nI se), .ref (o + 8), .ref (o + 9), .int (nI 4), .int (nI ((F - 145) / 2)), .int (nI 40), .ref (o + 10), .int (nI sd), .ref (o + 11), .int (nI hd), .ref (o + 12), .int (nI an), .ref (o + 13), .int (nI fm), .int (nI fo), .ref (o + 14), .ref (o + 15), .int (nI kc), .ref (o + 16)]) := fz
                                          have fr := hp_eqM.put (k := 0) fr (by decide) fn
                                          clear fz fn
                                          refine lv_goto (tgt := 588) hx hb dX11_understand_518 (by decide) ?_
                                          have hK : rdK sb se = 4 := by rw [hKg, if_neg (fun h9 => by omega), if_neg (fun h9 => by rw [hc0] at h9; omega), if_pos ⟨hlv0, by omega, by omega⟩]
                                          have f_o : μ1 o = some (hp_o 7 [.int (nI n), .ref (o + 1), .ref (o + 2), .ref (o + 3), .ref (o + 4), .ref (o + 5), .ref (o + 6), .int (nB on), .int (nI tz), .ref (o + 7), .int (nI se), .ref (o + 8), .ref (o + 9), .int (nI (rdK sb se)), .int (nI ((F - 145) / 2)), .int (nI 40), .ref (o + 10), .int (nI sd), .ref (o + 11), .int (nI hd), .ref (o + 12), .int (nI an), .ref (o + 13), .int (nI fm), .int (nI fo), .ref (o + 14), .ref (o + 15), .int (nI kc), .ref (o + 16)]) := by rw [hK]; exact f_o
                                          have hk49 : k = 40 := by omega
                                          subst hk49
                                          have hT9 : rdT sb se = tdN sb se 5 0 := by unfold rdT; rw [if_neg (by rw [hK]; decide)]
                                          have hC9 : rdC sb se = 40 := by unfold rdC; rw [if_neg (by rw [hK]; decide)]
                                          exact hp_rv hx hb hr hlocks hS hH (⟨rfl, _, _, _, _, f_o, f_9, f_10, (fun _ => ⟨by rw [valN_va 8 (by omega), ← hF]; exact hlv.symm, hC9.symm, fun k9 hk9 => by rw [hT9]; exact hD1 k9 hk9⟩), fun h9 => absurd (hK.symm.trans h9) (by decide), fr⟩) dX11_understand_588
                                        · have c_476 : ¬ (40 ≤ k) := fun z => c_476 ((nI_leI (by omega) (by omega)).mpr z)
                                          refine lv_aload_n hx hb dX11_understand_479 rfl (lv_at hl 0 rfl) ?_
                                          refine hp_get hx hb hown hS.2.1 hH (F_X11_42.use hS) f_o rfl dX11_understand_480 ?_
                                          refine lv_iload hx hb dX11_understand_483 (lv_at hl 3 rfl) ?_
                                          refine lv_aload_n hx hb dX11_understand_485 rfl (lv_at hl 0 rfl) ?_
                                          refine hp_get hx hb hown hS.2.1 hH (F_X11_39.use hS) f_o rfl dX11_understand_486 ?_
                                          refine lv_iconst (v := nI 2) hx hb dX11_understand_489 (by decide) ?_
                                          refine lv_iload hx hb dX11_understand_490 (lv_at hl 3 rfl) ?_
                                          refine lv_bipush (v := nI 8) hx hb dX11_understand_492 (by decide) ?_
                                          refine lv_idiv hx hb dX11_understand_494 (nI_ne0 (by omega) (by omega)) ?_
                                          refine hp_eqi (z := nI (k / 8)) (pk_div (by omega) (by omega) (by omega)) ?_
                                          refine lv_iadd hx hb dX11_understand_495 ?_
                                          refine hp_eqi (z := nI (2 + (k / 8))) (nI_add _ _) ?_
                                          refine hp_ialdI hx hb hS.ai hH f_9 (by omega) (by omega) dX11_understand_496 ?_
                                          refine hp_eqi (z := nI (vaN sb (9 * (2 + k / 8)) 8)) (hB _ (by omega)) ?_
                                          refine lv_iload hx hb dX11_understand_497 (lv_at hl 3 rfl) ?_
                                          refine lv_bipush (v := nI 8) hx hb dX11_understand_499 (by decide) ?_
                                          refine lv_irem hx hb dX11_understand_501 (nI_ne0 (by omega) (by omega)) ?_
                                          refine hp_eqi (z := nI (k % 8)) (pk_rem (by omega) (by omega) (by omega)) ?_
                                          refine lv_ishr hx hb dX11_understand_502 ?_
                                          refine lv_iconst (v := nI 1) hx hb dX11_understand_503 (by decide) ?_
                                          refine lv_iand hx hb dX11_understand_504 ?_
                                          refine hp_eqi (z := nI (vaN sb (9 * (2 + k / 8)) 8 / 2 ^ (k % 8) % 2)) (by rw [z_sbI (by omega), bitI_n (Nat.lt_trans (vaN_lt (n := 8) (fun j _ => h01 _)) (by decide))]) ?_
                                          refine hp_iastN hx hb hS.ai hH f_10 (by omega) (by omega) dX11_understand_505 (fun H locs μ1 fz fn hH => ?_)
                                          have f_o := (fn _ (by omega)).trans f_o
                                          have f_8 := (fn _ (by omega)).trans f_8
                                          have f_9 := (fn _ (by omega)).trans f_9
                                          have f_10 : μ1 (o + 10) = some (hp_n X 48 (setN D1 k (vaN sb (9 * (2 + k / 8)) 8 / 2 ^ (k % 8) % 2))) := fz
                                          have fr := hp_eqM.put (k := 10) fr (by decide) fn
                                          clear fz fn
                                          refine lv_iinc (v := nI (k + 1)) (lv' := [(5, .int (nI (k + 1))), (0, .ref o), (1, .int (nI (se / 9))), (2, .int (nI F))]) hx hb dX11_understand_506 hl (k := 3) rfl (nI_add _ 1) (by decide) rfl (fun ls hl => ?_)
                                          refine lv_goto (tgt := 472) hx hb dX11_understand_509 (by decide) ?_
                                          exact ih472 (k + 1) (setN D1 k (vaN sb (9 * (2 + k / 8)) 8 / 2 ^ (k % 8) % 2)) (by omega) (fun j hj => (Decidable.em (j = k)).elim (fun e9 => by rw [e9, setN_s, tdN_lo h01 (by omega), valN_va 8 (by omega)]) (fun e9 => (setN_o e9).trans (hD1 j (by omega)))) (by omega) _ _ _ _ f_o f_8 f_9 f_10 fr hH (lv_sub hl [1, 2, 3, 0] rfl)
                                    exact lp_472 ((40 - 0) + 1) 0 D (Nat.zero_le _) (fun j hj => absurd hj (Nat.not_lt_zero _)) (Nat.lt_succ_self _) _ _ _ _ f_o f_8 f_9 f_10 fr hH (lv_sub hl [1, 2, 3, 0] rfl)
                              · have c_439 : ¬ ((vaN sb (9 * (se / 9 - 1)) 8) = ((crcN sb se (se / 9 - 2)) / 256)) := fun z => c_439 ((nI_eq (by omega) (by omega)).mpr z)
                                have hK : rdK sb se = 0 := by rw [hKg, if_neg (fun h9 => by omega), if_pos (Or.inr (fun h9 => by have h8 := hc9.mp h9; omega))]
                                have f_o : μ1 o = some (hp_o 7 [.int (nI n), .ref (o + 1), .ref (o + 2), .ref (o + 3), .ref (o + 4), .ref (o + 5), .ref (o + 6), .int (nB on), .int (nI tz), .ref (o + 7), .int (nI se), .ref (o + 8), .ref (o + 9), .int (nI (rdK sb se)), .int (nI kl), .int (nI 0), .ref (o + 10), .int (nI sd), .ref (o + 11), .int (nI hd), .ref (o + 12), .int (nI an), .ref (o + 13), .int (nI fm), .int (nI fo), .ref (o + 14), .ref (o + 15), .int (nI kc), .ref (o + 16)]) := by rw [hK]; exact f_o
                                exact hp_rv hx hb hr hlocks hS hH (⟨rfl, _, _, _, _, f_o, f_9, f_10, fun h9 => h9.elim (fun h9 => absurd (hK.symm.trans h9) (by decide)) (fun h9 => absurd (hK.symm.trans h9) (by decide)), fun h9 => absurd (hK.symm.trans h9) (by decide), fr⟩) dX11_understand_442
                          · have c_385 : ¬ (((se / 9) - 2) ≤ i2) := fun z => c_385 ((nI_leI (by omega) (by omega)).mpr z)
                            refine lv_iload hx hb dX11_understand_388 (lv_at hl 4 rfl) ?_
                            refine lv_aload_n hx hb dX11_understand_390 rfl (lv_at hl 0 rfl) ?_
                            refine hp_get hx hb hown hS.2.1 hH (F_X11_39.use hS) f_o rfl dX11_understand_391 ?_
                            refine lv_iload hx hb dX11_understand_394 (lv_at hl 5 rfl) ?_
                            refine hp_ialdI hx hb hS.ai hH f_9 (by omega) (by omega) dX11_understand_396 ?_
                            refine hp_eqi (z := nI (vaN sb (9 * i2) 8)) (hB _ (by omega)) ?_
                            have hv8 : vaN sb (9 * i2) 8 < 256 := vaN_lt (n := 8) (fun j _ => h01 _)
                            refine hp_kip (hp_runS (As := [.int (nI (crcN sb se i2)), .int (nI (vaN sb (9 * i2) 8))]) (rest := []) hx hb hml hown hS hH (c_X11_checked l X (crcN_lt _ _ _) hv8) M_X11_94 S_X11_checked rfl hl.1 rfl (Nat.le_of_ble_eq_true rfl) dX11_understand_397 ⟨Nat.le_of_ble_eq_true rfl, Nat.le_of_ble_eq_true rfl⟩ ⟨Nat.le_of_ble_eq_true rfl, Nat.le_of_ble_eq_true rfl⟩) hH (fun H locs hH => ?_)
                            refine hp_eqi (z := nI (crcN sb se (i2 + 1))) (by rw [crcN, valN_va 8 (by omega)]) ?_
                            refine lv_istore (lv' := [(4, .int (nI (crcN sb se (i2 + 1)))), (0, .ref o), (1, .int (nI (se / 9))), (2, .int (nI F)), (3, .int (nI 1)), (5, .int (nI i2))]) hx hb dX11_understand_400 hl (by decide) rfl (fun ls hl => ?_)
                            refine lv_iinc (v := nI (i2 + 1)) (lv' := [(5, .int (nI (i2 + 1))), (4, .int (nI (crcN sb se (i2 + 1)))), (0, .ref o), (1, .int (nI (se / 9))), (2, .int (nI F)), (3, .int (nI 1))]) hx hb dX11_understand_402 hl (k := 5) rfl (nI_add _ 1) (by decide) rfl (fun ls hl => ?_)
                            refine lv_goto (tgt := 380) hx hb dX11_understand_405 (by decide) ?_
                            exact ih380 (i2 + 1) (by omega) (by omega) _ _ _  hH (lv_sub hl [2, 3, 4, 5, 1, 0] rfl)
                      exact lp_380 ((se / 9 - 2 - 0) + 1) 0 (Nat.zero_le _) (Nat.lt_succ_self _) _ _ _  hH (lv_sub hl [4, 5, 3, 2, 1, 0] rfl)
                    · have c_368 : ¬ (3 ≤ (se / 9)) := fun z => c_368 ((nI_leI (by omega) (by omega)).mpr z)
                      have hK : rdK sb se = 0 := by rw [hKg, if_neg (fun h9 => by omega)]; split; rfl; rename_i h8; rw [if_neg (fun h9 => by omega)]; unfold kdC; rw [if_neg (by omega), if_neg (by omega), if_neg (by omega)]
                      have f_o : μ1 o = some (hp_o 7 [.int (nI n), .ref (o + 1), .ref (o + 2), .ref (o + 3), .ref (o + 4), .ref (o + 5), .ref (o + 6), .int (nB on), .int (nI tz), .ref (o + 7), .int (nI se), .ref (o + 8), .ref (o + 9), .int (nI (rdK sb se)), .int (nI kl), .int (nI 0), .ref (o + 10), .int (nI sd), .ref (o + 11), .int (nI hd), .ref (o + 12), .int (nI an), .ref (o + 13), .int (nI fm), .int (nI fo), .ref (o + 14), .ref (o + 15), .int (nI kc), .ref (o + 16)]) := by rw [hK]; exact f_o
                      exact hp_rv hx hb hr hlocks hS hH (⟨rfl, _, _, _, _, f_o, f_9, f_10, fun h9 => h9.elim (fun h9 => absurd (hK.symm.trans h9) (by decide)) (fun h9 => absurd (hK.symm.trans h9) (by decide)), fun h9 => absurd (hK.symm.trans h9) (by decide), fr⟩) dX11_understand_371
                · have c_172 : ¬ (S2 = 112) := fun z => c_172 ((nI_eq (by omega) (by omega)).mpr z)
                  refine lv_aload_n hx hb dX11_understand_175 rfl (lv_at hl 2 rfl) ?_
                  refine hp_get hx hb hown hS.2.1 hH (F_X11_39.use hS) f_o rfl dX11_understand_176 ?_
                  refine lv_iconst (v := nI 1) hx hb dX11_understand_179 (by decide) ?_
                  refine hp_ialdI hx hb hS.ai hH f_9 (by omega) (by omega) dX11_understand_180 ?_
                  refine hp_eqi (z := nI S2) (hS0) ?_
                  refine lv_bipush (v := nI 16) hx hb dX11_understand_181 (by decide) ?_
                  refine lv_idiv hx hb dX11_understand_183 (nI_ne0 (by omega) (by omega)) ?_
                  refine hp_eqi (z := nI (S2 / 16)) (pk_div (by omega) (by omega) (by omega)) ?_
                  refine lv_istore (lv' := [(4, .int (nI (S2 / 16))), (3, .int (nI 1)), (2, .int (nI F)), (0, .ref o), (1, .int (nI (se / 9)))]) hx hb dX11_understand_184 hl (by decide) rfl (fun ls hl => ?_)
                  refine lv_aload_n hx hb dX11_understand_186 rfl (lv_at hl 3 rfl) ?_
                  refine hp_get hx hb hown hS.2.1 hH (F_X11_39.use hS) f_o rfl dX11_understand_187 ?_
                  refine lv_iconst (v := nI 1) hx hb dX11_understand_190 (by decide) ?_
                  refine hp_ialdI hx hb hS.ai hH f_9 (by omega) (by omega) dX11_understand_191 ?_
                  refine hp_eqi (z := nI S2) (hS0) ?_
                  refine lv_bipush (v := nI 16) hx hb dX11_understand_192 (by decide) ?_
                  refine lv_irem hx hb dX11_understand_194 (nI_ne0 (by omega) (by omega)) ?_
                  refine hp_eqi (z := nI (S2 % 16)) (pk_rem (by omega) (by omega) (by omega)) ?_
                  refine lv_istore (lv' := [(5, .int (nI (S2 % 16))), (4, .int (nI (S2 / 16))), (3, .int (nI 1)), (2, .int (nI F)), (0, .ref o), (1, .int (nI (se / 9)))]) hx hb dX11_understand_195 hl (by decide) rfl (fun ls hl => ?_)
                  refine lv_iload hx hb dX11_understand_197 (lv_at hl 1 rfl) ?_
                  refine lv_iconst (v := nI 2) hx hb dX11_understand_199 (by decide) ?_
                  refine lv_icmp_lt (tgt := 232) hx hb dX11_understand_200 (by decide) (fun c_200 => ?_) (fun c_200 => ?_)
                  · have c_200 : (S2 / 16) < 2 := (nI_ltI (by omega) (by omega)).mp c_200
                    have hK : rdK sb se = 0 := by rw [hKg, if_neg (fun h9 => by omega)]; split; rfl; rw [if_neg (fun h9 => by omega)]; unfold kdC; rw [if_neg (by omega), if_neg (by omega), if_neg (by omega)]
                    have f_o : μ1 o = some (hp_o 7 [.int (nI n), .ref (o + 1), .ref (o + 2), .ref (o + 3), .ref (o + 4), .ref (o + 5), .ref (o + 6), .int (nB on), .int (nI tz), .ref (o + 7), .int (nI se), .ref (o + 8), .ref (o + 9), .int (nI (rdK sb se)), .int (nI kl), .int (nI 0), .ref (o + 10), .int (nI sd), .ref (o + 11), .int (nI hd), .ref (o + 12), .int (nI an), .ref (o + 13), .int (nI fm), .int (nI fo), .ref (o + 14), .ref (o + 15), .int (nI kc), .ref (o + 16)]) := by rw [hK]; exact f_o
                    exact hp_rv hx hb hr hlocks hS hH (⟨rfl, _, _, _, _, f_o, f_9, f_10, fun h9 => h9.elim (fun h9 => absurd (hK.symm.trans h9) (by decide)) (fun h9 => absurd (hK.symm.trans h9) (by decide)), fun h9 => absurd (hK.symm.trans h9) (by decide), fr⟩) dX11_understand_232
                  · have c_200 : ¬ ((S2 / 16) < 2) := fun z => c_200 ((nI_ltI (by omega) (by omega)).mpr z)
                    refine lv_iload hx hb dX11_understand_203 (lv_at hl 1 rfl) ?_
                    refine lv_bipush (v := nI 6) hx hb dX11_understand_205 (by decide) ?_
                    refine lv_icmp_gt (tgt := 232) hx hb dX11_understand_207 (by decide) (fun c_207 => ?_) (fun c_207 => ?_)
                    · have c_207 : 6 < (S2 / 16) := (nI_ltI (by omega) (by omega)).mp c_207
                      have hK : rdK sb se = 0 := by rw [hKg, if_neg (fun h9 => by omega)]; split; rfl; rw [if_neg (fun h9 => by omega)]; unfold kdC; rw [if_neg (by omega), if_neg (by omega), if_neg (by omega)]
                      have f_o : μ1 o = some (hp_o 7 [.int (nI n), .ref (o + 1), .ref (o + 2), .ref (o + 3), .ref (o + 4), .ref (o + 5), .ref (o + 6), .int (nB on), .int (nI tz), .ref (o + 7), .int (nI se), .ref (o + 8), .ref (o + 9), .int (nI (rdK sb se)), .int (nI kl), .int (nI 0), .ref (o + 10), .int (nI sd), .ref (o + 11), .int (nI hd), .ref (o + 12), .int (nI an), .ref (o + 13), .int (nI fm), .int (nI fo), .ref (o + 14), .ref (o + 15), .int (nI kc), .ref (o + 16)]) := by rw [hK]; exact f_o
                      exact hp_rv hx hb hr hlocks hS hH (⟨rfl, _, _, _, _, f_o, f_9, f_10, fun h9 => h9.elim (fun h9 => absurd (hK.symm.trans h9) (by decide)) (fun h9 => absurd (hK.symm.trans h9) (by decide)), fun h9 => absurd (hK.symm.trans h9) (by decide), fr⟩) dX11_understand_232
                    · have c_207 : ¬ (6 < (S2 / 16)) := fun z => c_207 ((nI_ltI (by omega) (by omega)).mpr z)
                      refine lv_iload hx hb dX11_understand_210 (lv_at hl 0 rfl) ?_
                      refine lv_bipush (v := nI 7) hx hb dX11_understand_212 (by decide) ?_
                      refine lv_icmp_gt (tgt := 232) hx hb dX11_understand_214 (by decide) (fun c_214 => ?_) (fun c_214 => ?_)
                      · have c_214 : 7 < (S2 % 16) := (nI_ltI (by omega) (by omega)).mp c_214
                        have hK : rdK sb se = 0 := by rw [hKg, if_neg (fun h9 => by omega)]; split; rfl; rw [if_neg (fun h9 => by omega)]; unfold kdC; rw [if_neg (by omega), if_neg (by omega), if_neg (by omega)]
                        have f_o : μ1 o = some (hp_o 7 [.int (nI n), .ref (o + 1), .ref (o + 2), .ref (o + 3), .ref (o + 4), .ref (o + 5), .ref (o + 6), .int (nB on), .int (nI tz), .ref (o + 7), .int (nI se), .ref (o + 8), .ref (o + 9), .int (nI (rdK sb se)), .int (nI kl), .int (nI 0), .ref (o + 10), .int (nI sd), .ref (o + 11), .int (nI hd), .ref (o + 12), .int (nI an), .ref (o + 13), .int (nI fm), .int (nI fo), .ref (o + 14), .ref (o + 15), .int (nI kc), .ref (o + 16)]) := by rw [hK]; exact f_o
                        exact hp_rv hx hb hr hlocks hS hH (⟨rfl, _, _, _, _, f_o, f_9, f_10, fun h9 => h9.elim (fun h9 => absurd (hK.symm.trans h9) (by decide)) (fun h9 => absurd (hK.symm.trans h9) (by decide)), fun h9 => absurd (hK.symm.trans h9) (by decide), fr⟩) dX11_understand_232
                      · have c_214 : ¬ (7 < (S2 % 16)) := fun z => c_214 ((nI_ltI (by omega) (by omega)).mpr z)
                        refine lv_aload_n hx hb dX11_understand_217 rfl (lv_at hl 4 rfl) ?_
                        refine hp_get hx hb hown hS.2.1 hH (F_X11_104.use hS) f_o rfl dX11_understand_218 ?_
                        refine lv_bipush (v := nI 9) hx hb dX11_understand_221 (by decide) ?_
                        refine lv_iload hx hb dX11_understand_223 (lv_at hl 1 rfl) ?_
                        refine lv_imul hx hb dX11_understand_225 ?_
                        refine hp_eqi (z := nI (9 * (S2 / 16))) (pk_mul _ _) ?_
                        refine lv_iload hx hb dX11_understand_226 (lv_at hl 0 rfl) ?_
                        refine lv_iadd hx hb dX11_understand_228 ?_
                        refine hp_eqi (z := nI ((9 * (S2 / 16)) + (S2 % 16))) (nI_add _ _) ?_
                        refine lv_icmp_eq (tgt := 233) hx hb dX11_understand_229 (by decide) (fun c_229 => ?_) (fun c_229 => ?_)
                        · have c_229 : se = ((9 * (S2 / 16)) + (S2 % 16)) := (nI_eq (by omega) (by omega)).mp c_229
                          refine lv_aload_n hx hb dX11_understand_233 rfl (lv_at hl 4 rfl) ?_
                          refine lv_iconst (v := nI 3) hx hb dX11_understand_234 (by decide) ?_
                          refine hp_put hx hb hown hS.2.1 hH (P_X11_98.use hS) f_o rfl rfl (Nat.le_of_ble_eq_true rfl) dX11_understand_235 (fun H locs μ1 fz fn hH => ?_)
                          have f_8 := (fn _ (by omega)).trans f_8
                          have f_9 := (fn _ (by omega)).trans f_9
                          have f_10 := (fn _ (by omega)).trans f_10
                          have f_o : μ1 o = some (hp_o 7 [.int (nI n), .ref (o + 1), .ref (o + 2), .ref (o + 3), .ref (o + 4), .ref (o + 5), .ref (o + 6), .int (nB on), .int (nI tz), .ref (o + 7), .int (nI se), .ref (o + 8), .ref (o + 9), .int (nI 3), .int (nI kl), .int (nI 0), .ref (o + 10), .int (nI sd), .ref (o + 11), .int (nI hd), .ref (o + 12), .int (nI an), .ref (o + 13), .int (nI fm), .int (nI fo), .ref (o + 14), .ref (o + 15), .int (nI kc), .ref (o + 16)]) := fz
                          have fr := hp_eqM.put (k := 0) fr (by decide) fn
                          clear fz fn
                          refine lv_aload_n hx hb dX11_understand_238 rfl (lv_at hl 4 rfl) ?_
                          refine lv_iload_n hx hb dX11_understand_239 rfl (lv_at hl 3 rfl) ?_
                          refine lv_sipush (v := nI 145) hx hb dX11_understand_240 (by decide) ?_
                          refine lv_isub hx hb dX11_understand_243 ?_
                          refine hp_eqi (z := nI (F - 145)) (pk_sub (by omega)) ?_
                          refine lv_iconst (v := nI 2) hx hb dX11_understand_244 (by decide) ?_
                          refine lv_idiv hx hb dX11_understand_245 (nI_ne0 (by omega) (by omega)) ?_
                          refine hp_eqi (z := nI ((F - 145) / 2)) (pk_div (by omega) (by omega) (by omega)) ?_
                          refine hp_put hx hb hown hS.2.1 hH (P_X11_107.use hS) f_o rfl rfl (Nat.le_of_ble_eq_true rfl) dX11_understand_246 (fun H locs μ1 fz fn hH => ?_)
                          have f_8 := (fn _ (by omega)).trans f_8
                          have f_9 := (fn _ (by omega)).trans f_9
                          have f_10 := (fn _ (by omega)).trans f_10
                          have f_o : μ1 o = some (hp_o 7 [.int (nI n), .ref (o + 1), .ref (o + 2), .ref (o + 3), .ref (o + 4), .ref (o + 5), .ref (o + 6), .int (nB on), .int (nI tz), .ref (o + 7), .int (nI se), .ref (o + 8), .ref (o + 9), .int (nI 3), .int (nI ((F - 145) / 2)), .int (nI 0), .ref (o + 10), .int (nI sd), .ref (o + 11), .int (nI hd), .ref (o + 12), .int (nI an), .ref (o + 13), .int (nI fm), .int (nI fo), .ref (o + 14), .ref (o + 15), .int (nI kc), .ref (o + 16)]) := fz
                          have fr := hp_eqM.put (k := 0) fr (by decide) fn
                          clear fz fn
                          refine lv_iconst (v := nI 0) hx hb dX11_understand_249 (by decide) ?_
                          refine lv_istore (lv' := [(6, .int (nI 0)), (5, .int (nI (S2 % 16))), (4, .int (nI (S2 / 16))), (3, .int (nI 1)), (2, .int (nI F)), (0, .ref o), (1, .int (nI (se / 9)))]) hx hb dX11_understand_250 hl (by decide) rfl (fun ls hl => ?_)
                          have lp_252 : ∀ (kk252 : Nat) (k : Nat) (D1 : Nat → Nat), (k ≤ 8 * (S2 / 16 - 2)) → (∀ j, j < k → D1 j = tdN sb se (S2 / 16 - 2) (S2 % 16) / 2 ^ j % 2) → (8 * (S2 / 16 - 2) - k) < kk252 → ∀ (μ1 : hp_M) (H : Heap) (locs : List Loc) (ls : Array Slot), (μ1 o = some (hp_o 7 [.int (nI n), .ref (o + 1), .ref (o + 2), .ref (o + 3), .ref (o + 4), .ref (o + 5), .ref (o + 6), .int (nB on), .int (nI tz), .ref (o + 7), .int (nI se), .ref (o + 8), .ref (o + 9), .int (nI 3), .int (nI ((F - 145) / 2)), .int (nI 0), .ref (o + 10), .int (nI sd), .ref (o + 11), .int (nI hd), .ref (o + 12), .int (nI an), .ref (o + 13), .int (nI fm), .int (nI fo), .ref (o + 14), .ref (o + 15), .int (nI kc), .ref (o + 16)])) → (μ1 (o + 8) = some (hp_n X 160 sb)) → (μ1 (o + 9) = some (hp_i X 18 f1)) → (μ1 (o + 10) = some (hp_n X 48 D1)) → hp_eqM [0, 9, 10] o μ1 μ → hp_w X cls μ1 nx H locs → lv_has ls 7 [(0, .ref o), (1, .int (nI (se / 9))), (2, .int (nI F)), (4, .int (nI (S2 / 16))), (5, .int (nI (S2 % 16))), (6, .int (nI k))] → W p l e { frames := 2, cells := 0, slots := 0, locals := 80 } s m [.ref o].toArray below meth c H locs 0 0 (MQ below (hq_v X (po_v nx (fun z => ∃ (kl9 tc9 : Nat) (B9 : Nat → Int32) (D9 : Nat → Nat), z o = some (hp_o 7 [.int (nI n), .ref (o + 1), .ref (o + 2), .ref (o + 3), .ref (o + 4), .ref (o + 5), .ref (o + 6), .int (nB on), .int (nI tz), .ref (o + 7), .int (nI se), .ref (o + 8), .ref (o + 9), .int (nI (rdK sb se)), .int (nI kl9), .int (nI tc9), .ref (o + 10), .int (nI sd), .ref (o + 11), .int (nI hd), .ref (o + 12), .int (nI an), .ref (o + 13), .int (nI fm), .int (nI fo), .ref (o + 14), .ref (o + 15), .int (nI kc), .ref (o + 16)]) ∧ z (o + 9) = some (hp_i X 18 B9) ∧ z (o + 10) = some (hp_n X 48 D9) ∧ (rdK sb se = 3 ∨ rdK sb se = 4 → kl9 = lvOf (valN sb se 0 8) ∧ tc9 = rdC sb se ∧ ∀ k, k < tc9 → D9 k = rdT sb se / 2 ^ k % 2) ∧ (rdK sb se = 6 → B9 1 = nI (valN sb se 9 8)) ∧ hp_eqM [0, 9, 10] o z μ))) [.ref o].toArray s 0 0 (hp_A X)) (F0 m 252 ls []) := by
                            intro kk252
                            induction kk252 with
                            | zero =>
                              intro k D1 hk hD1 hkk252
                              exact absurd hkk252 (Nat.not_lt_zero _)
                            | succ kk252 ih252 =>
                              intro k D1 hk hD1 hkk252 μ1 H locs ls f_o f_8 f_9 f_10 fr hH hl
                              refine lv_iload hx hb dX11_understand_252 (lv_at hl 5 rfl) ?_
                              refine lv_bipush (v := nI 8) hx hb dX11_understand_254 (by decide) ?_
                              refine lv_iload hx hb dX11_understand_256 (lv_at hl 3 rfl) ?_
                              refine lv_iconst (v := nI 2) hx hb dX11_understand_258 (by decide) ?_
                              refine lv_isub hx hb dX11_understand_259 ?_
                              refine hp_eqi (z := nI ((S2 / 16) - 2)) (pk_sub (by omega)) ?_
                              refine lv_imul hx hb dX11_understand_260 ?_
                              refine hp_eqi (z := nI (8 * ((S2 / 16) - 2))) (pk_mul _ _) ?_
                              refine lv_icmp_ge (tgt := 297) hx hb dX11_understand_261 (by decide) (fun c_261 => ?_) (fun c_261 => ?_)
                              · have c_261 : (8 * ((S2 / 16) - 2)) ≤ k := (nI_leI (by omega) (by omega)).mp c_261
                                refine lv_iconst (v := nI 0) hx hb dX11_understand_297 (by decide) ?_
                                refine lv_istore (lv' := [(6, .int (nI 0)), (0, .ref o), (1, .int (nI (se / 9))), (2, .int (nI F)), (4, .int (nI (S2 / 16))), (5, .int (nI (S2 % 16)))]) hx hb dX11_understand_298 hl (by decide) rfl (fun ls hl => ?_)
                                have ek9 : k = 8 * (S2 / 16 - 2) := by omega
                                have lp_300 : ∀ (kk300 : Nat) (k2 : Nat) (D2 : Nat → Nat), (k2 ≤ S2 % 16) → (∀ j, j < 8 * (S2 / 16 - 2) + k2 → D2 j = tdN sb se (S2 / 16 - 2) (S2 % 16) / 2 ^ j % 2) → (S2 % 16 - k2) < kk300 → ∀ (μ1 : hp_M) (H : Heap) (locs : List Loc) (ls : Array Slot), (μ1 o = some (hp_o 7 [.int (nI n), .ref (o + 1), .ref (o + 2), .ref (o + 3), .ref (o + 4), .ref (o + 5), .ref (o + 6), .int (nB on), .int (nI tz), .ref (o + 7), .int (nI se), .ref (o + 8), .ref (o + 9), .int (nI 3), .int (nI ((F - 145) / 2)), .int (nI 0), .ref (o + 10), .int (nI sd), .ref (o + 11), .int (nI hd), .ref (o + 12), .int (nI an), .ref (o + 13), .int (nI fm), .int (nI fo), .ref (o + 14), .ref (o + 15), .int (nI kc), .ref (o + 16)])) → (μ1 (o + 8) = some (hp_n X 160 sb)) → (μ1 (o + 9) = some (hp_i X 18 f1)) → (μ1 (o + 10) = some (hp_n X 48 D2)) → hp_eqM [0, 9, 10] o μ1 μ → hp_w X cls μ1 nx H locs → lv_has ls 7 [(0, .ref o), (1, .int (nI (se / 9))), (2, .int (nI F)), (4, .int (nI (S2 / 16))), (5, .int (nI (S2 % 16))), (6, .int (nI k2))] → W p l e { frames := 2, cells := 0, slots := 0, locals := 80 } s m [.ref o].toArray below meth c H locs 0 0 (MQ below (hq_v X (po_v nx (fun z => ∃ (kl9 tc9 : Nat) (B9 : Nat → Int32) (D9 : Nat → Nat), z o = some (hp_o 7 [.int (nI n), .ref (o + 1), .ref (o + 2), .ref (o + 3), .ref (o + 4), .ref (o + 5), .ref (o + 6), .int (nB on), .int (nI tz), .ref (o + 7), .int (nI se), .ref (o + 8), .ref (o + 9), .int (nI (rdK sb se)), .int (nI kl9), .int (nI tc9), .ref (o + 10), .int (nI sd), .ref (o + 11), .int (nI hd), .ref (o + 12), .int (nI an), .ref (o + 13), .int (nI fm), .int (nI fo), .ref (o + 14), .ref (o + 15), .int (nI kc), .ref (o + 16)]) ∧ z (o + 9) = some (hp_i X 18 B9) ∧ z (o + 10) = some (hp_n X 48 D9) ∧ (rdK sb se = 3 ∨ rdK sb se = 4 → kl9 = lvOf (valN sb se 0 8) ∧ tc9 = rdC sb se ∧ ∀ k, k < tc9 → D9 k = rdT sb se / 2 ^ k % 2) ∧ (rdK sb se = 6 → B9 1 = nI (valN sb se 9 8)) ∧ hp_eqM [0, 9, 10] o z μ))) [.ref o].toArray s 0 0 (hp_A X)) (F0 m 300 ls []) := by
                                  intro kk300
                                  induction kk300 with
                                  | zero =>
                                    intro k2 D2 hk2 hD2 hkk300
                                    exact absurd hkk300 (Nat.not_lt_zero _)
                                  | succ kk300 ih300 =>
                                    intro k2 D2 hk2 hD2 hkk300 μ1 H locs ls f_o f_8 f_9 f_10 fr hH hl
                                    refine lv_iload hx hb dX11_understand_300 (lv_at hl 5 rfl) ?_
                                    refine lv_iload hx hb dX11_understand_302 (lv_at hl 4 rfl) ?_
                                    refine lv_icmp_ge (tgt := 341) hx hb dX11_understand_304 (by decide) (fun c_304 => ?_) (fun c_304 => ?_)
                                    · have c_304 : (S2 % 16) ≤ k2 := (nI_leI (by omega) (by omega)).mp c_304
                                      refine lv_aload_n hx hb dX11_understand_341 rfl (lv_at hl 0 rfl) ?_
                                      refine lv_bipush (v := nI 8) hx hb dX11_understand_342 (by decide) ?_
                                      refine lv_iload hx hb dX11_understand_344 (lv_at hl 3 rfl) ?_
                                      refine lv_iconst (v := nI 2) hx hb dX11_understand_346 (by decide) ?_
                                      refine lv_isub hx hb dX11_understand_347 ?_
                                      refine hp_eqi (z := nI ((S2 / 16) - 2)) (pk_sub (by omega)) ?_
                                      refine lv_imul hx hb dX11_understand_348 ?_
                                      refine hp_eqi (z := nI (8 * ((S2 / 16) - 2))) (pk_mul _ _) ?_
                                      refine lv_iload hx hb dX11_understand_349 (lv_at hl 4 rfl) ?_
                                      refine lv_iadd hx hb dX11_understand_351 ?_
                                      refine hp_eqi (z := nI ((8 * ((S2 / 16) - 2)) + (S2 % 16))) (nI_add _ _) ?_
                                      refine hp_put hx hb hown hS.2.1 hH (P_X11_101.use hS) f_o rfl rfl (Nat.le_of_ble_eq_true rfl) dX11_understand_352 (fun H locs μ1 fz fn hH => ?_)
                                      have f_8 := (fn _ (by omega)).trans f_8
                                      have f_9 := (fn _ (by omega)).trans f_9
                                      have f_10 := (fn _ (by omega)).trans f_10
                                      have f_o : μ1 o = some (hp_o 7 [.int (nI n), .ref (o + 1), .ref (o + 2), .ref (o + 3), .ref (o + 4), .ref (o + 5), .ref (o + 6), .int (nB on), .int (nI tz), .ref (o + 7), .int (nI se), .ref (o + 8), .ref (o + 9), .int (nI 3), .int (nI ((F - 145) / 2)), .int (nI ((8 * ((S2 / 16) - 2)) + (S2 % 16))), .ref (o + 10), .int (nI sd), .ref (o + 11), .int (nI hd), .ref (o + 12), .int (nI an), .ref (o + 13), .int (nI fm), .int (nI fo), .ref (o + 14), .ref (o + 15), .int (nI kc), .ref (o + 16)]) := fz
                                      have fr := hp_eqM.put (k := 0) fr (by decide) fn
                                      clear fz fn
                                      have hK : rdK sb se = 3 := by rw [hKg, if_pos ⟨hlv0, by omega, by omega, by omega⟩]
                                      have f_o : μ1 o = some (hp_o 7 [.int (nI n), .ref (o + 1), .ref (o + 2), .ref (o + 3), .ref (o + 4), .ref (o + 5), .ref (o + 6), .int (nB on), .int (nI tz), .ref (o + 7), .int (nI se), .ref (o + 8), .ref (o + 9), .int (nI (rdK sb se)), .int (nI ((F - 145) / 2)), .int (nI ((8 * ((S2 / 16) - 2)) + (S2 % 16))), .ref (o + 10), .int (nI sd), .ref (o + 11), .int (nI hd), .ref (o + 12), .int (nI an), .ref (o + 13), .int (nI fm), .int (nI fo), .ref (o + 14), .ref (o + 15), .int (nI kc), .ref (o + 16)]) := by rw [hK]; exact f_o
                                      have hk29 : k2 = S2 % 16 := by omega
                                      subst hk29
                                      have hT9 : rdT sb se = tdN sb se (S2 / 16 - 2) (S2 % 16) := by unfold rdT; rw [if_pos hK, show se / 9 = S2 / 16 by omega, show se % 9 = S2 % 16 by omega]
                                      have hC9 : rdC sb se = 8 * (S2 / 16 - 2) + S2 % 16 := by unfold rdC; rw [if_pos hK, show se / 9 = S2 / 16 by omega, show se % 9 = S2 % 16 by omega]
                                      exact hp_rv hx hb hr hlocks hS hH (⟨rfl, _, _, _, _, f_o, f_9, f_10, (fun _ => ⟨by rw [valN_va 8 (by omega), ← hF]; exact hlv.symm, hC9.symm, fun k9 hk9 => by rw [hT9]; exact hD2 k9 hk9⟩), fun h9 => absurd (hK.symm.trans h9) (by decide), fr⟩) dX11_understand_355
                                    · have c_304 : ¬ ((S2 % 16) ≤ k2) := fun z => c_304 ((nI_leI (by omega) (by omega)).mpr z)
                                      refine lv_aload_n hx hb dX11_understand_307 rfl (lv_at hl 0 rfl) ?_
                                      refine hp_get hx hb hown hS.2.1 hH (F_X11_42.use hS) f_o rfl dX11_understand_308 ?_
                                      refine lv_bipush (v := nI 8) hx hb dX11_understand_311 (by decide) ?_
                                      refine lv_iload hx hb dX11_understand_313 (lv_at hl 3 rfl) ?_
                                      refine lv_iconst (v := nI 2) hx hb dX11_understand_315 (by decide) ?_
                                      refine lv_isub hx hb dX11_understand_316 ?_
                                      refine hp_eqi (z := nI ((S2 / 16) - 2)) (pk_sub (by omega)) ?_
                                      refine lv_imul hx hb dX11_understand_317 ?_
                                      refine hp_eqi (z := nI (8 * ((S2 / 16) - 2))) (pk_mul _ _) ?_
                                      refine lv_iload hx hb dX11_understand_318 (lv_at hl 5 rfl) ?_
                                      refine lv_iadd hx hb dX11_understand_320 ?_
                                      refine hp_eqi (z := nI ((8 * ((S2 / 16) - 2)) + k2)) (nI_add _ _) ?_
                                      refine lv_aload_n hx hb dX11_understand_321 rfl (lv_at hl 0 rfl) ?_
                                      refine hp_get hx hb hown hS.2.1 hH (F_X11_36.use hS) f_o rfl dX11_understand_322 ?_
                                      refine lv_bipush (v := nI 9) hx hb dX11_understand_325 (by decide) ?_
                                      refine lv_iload hx hb dX11_understand_327 (lv_at hl 3 rfl) ?_
                                      refine lv_imul hx hb dX11_understand_329 ?_
                                      refine hp_eqi (z := nI (9 * (S2 / 16))) (pk_mul _ _) ?_
                                      refine lv_iload hx hb dX11_understand_330 (lv_at hl 5 rfl) ?_
                                      refine lv_iadd hx hb dX11_understand_332 ?_
                                      refine hp_eqi (z := nI ((9 * (S2 / 16)) + k2)) (nI_add _ _) ?_
                                      refine hp_ialdN hx hb hS.ai hH f_8 (by omega) (by omega) dX11_understand_333 ?_
                                      refine hp_iastN hx hb hS.ai hH f_10 (by omega) (by omega) dX11_understand_334 (fun H locs μ1 fz fn hH => ?_)
                                      have f_o := (fn _ (by omega)).trans f_o
                                      have f_8 := (fn _ (by omega)).trans f_8
                                      have f_9 := (fn _ (by omega)).trans f_9
                                      have f_10 : μ1 (o + 10) = some (hp_n X 48 (setN D2 ((8 * ((S2 / 16) - 2)) + k2) (sb ((9 * (S2 / 16)) + k2)))) := fz
                                      have fr := hp_eqM.put (k := 10) fr (by decide) fn
                                      clear fz fn
                                      refine lv_iinc (v := nI (k2 + 1)) (lv' := [(6, .int (nI (k2 + 1))), (0, .ref o), (1, .int (nI (se / 9))), (2, .int (nI F)), (4, .int (nI (S2 / 16))), (5, .int (nI (S2 % 16)))]) hx hb dX11_understand_335 hl (k := 5) rfl (nI_add _ 1) (by decide) rfl (fun ls hl => ?_)
                                      refine lv_goto (tgt := 300) hx hb dX11_understand_338 (by decide) ?_
                                      exact ih300 (k2 + 1) (setN D2 ((8 * ((S2 / 16) - 2)) + k2) (sb ((9 * (S2 / 16)) + k2))) (by omega) (fun j hj => (Decidable.em (j = 8 * (S2 / 16 - 2) + k2)).elim (fun e9 => by rw [e9, setN_s, tdN_hi h01 (by omega) (by omega), show 9 * (2 + (S2 / 16 - 2)) = 9 * (S2 / 16) by omega]) (fun e9 => (setN_o e9).trans (hD2 j (by omega)))) (by omega) _ _ _ _ f_o f_8 f_9 f_10 fr hH (lv_sub hl [1, 2, 3, 4, 5, 0] rfl)
                                exact lp_300 ((S2 % 16 - 0) + 1) 0 D1 (Nat.zero_le _) (fun j hj => hD1 j (by omega)) (Nat.lt_succ_self _) _ _ _ _ f_o f_8 f_9 f_10 fr hH (lv_sub hl [1, 2, 3, 4, 5, 0] rfl)
                              · have c_261 : ¬ ((8 * ((S2 / 16) - 2)) ≤ k) := fun z => c_261 ((nI_leI (by omega) (by omega)).mpr z)
                                refine lv_aload_n hx hb dX11_understand_264 rfl (lv_at hl 0 rfl) ?_
                                refine hp_get hx hb hown hS.2.1 hH (F_X11_42.use hS) f_o rfl dX11_understand_265 ?_
                                refine lv_iload hx hb dX11_understand_268 (lv_at hl 5 rfl) ?_
                                refine lv_aload_n hx hb dX11_understand_270 rfl (lv_at hl 0 rfl) ?_
                                refine hp_get hx hb hown hS.2.1 hH (F_X11_39.use hS) f_o rfl dX11_understand_271 ?_
                                refine lv_iconst (v := nI 2) hx hb dX11_understand_274 (by decide) ?_
                                refine lv_iload hx hb dX11_understand_275 (lv_at hl 5 rfl) ?_
                                refine lv_bipush (v := nI 8) hx hb dX11_understand_277 (by decide) ?_
                                refine lv_idiv hx hb dX11_understand_279 (nI_ne0 (by omega) (by omega)) ?_
                                refine hp_eqi (z := nI (k / 8)) (pk_div (by omega) (by omega) (by omega)) ?_
                                refine lv_iadd hx hb dX11_understand_280 ?_
                                refine hp_eqi (z := nI (2 + (k / 8))) (nI_add _ _) ?_
                                refine hp_ialdI hx hb hS.ai hH f_9 (by omega) (by omega) dX11_understand_281 ?_
                                refine hp_eqi (z := nI (vaN sb (9 * (2 + k / 8)) 8)) (hB _ (by omega)) ?_
                                refine lv_iload hx hb dX11_understand_282 (lv_at hl 5 rfl) ?_
                                refine lv_bipush (v := nI 8) hx hb dX11_understand_284 (by decide) ?_
                                refine lv_irem hx hb dX11_understand_286 (nI_ne0 (by omega) (by omega)) ?_
                                refine hp_eqi (z := nI (k % 8)) (pk_rem (by omega) (by omega) (by omega)) ?_
                                refine lv_ishr hx hb dX11_understand_287 ?_
                                refine lv_iconst (v := nI 1) hx hb dX11_understand_288 (by decide) ?_
                                refine lv_iand hx hb dX11_understand_289 ?_
                                refine hp_eqi (z := nI (vaN sb (9 * (2 + k / 8)) 8 / 2 ^ (k % 8) % 2)) (by rw [z_sbI (by omega), bitI_n (Nat.lt_trans (vaN_lt (n := 8) (fun j _ => h01 _)) (by decide))]) ?_
                                refine hp_iastN hx hb hS.ai hH f_10 (by omega) (by omega) dX11_understand_290 (fun H locs μ1 fz fn hH => ?_)
                                have f_o := (fn _ (by omega)).trans f_o
                                have f_8 := (fn _ (by omega)).trans f_8
                                have f_9 := (fn _ (by omega)).trans f_9
                                have f_10 : μ1 (o + 10) = some (hp_n X 48 (setN D1 k (vaN sb (9 * (2 + k / 8)) 8 / 2 ^ (k % 8) % 2))) := fz
                                have fr := hp_eqM.put (k := 10) fr (by decide) fn
                                clear fz fn
                                refine lv_iinc (v := nI (k + 1)) (lv' := [(6, .int (nI (k + 1))), (0, .ref o), (1, .int (nI (se / 9))), (2, .int (nI F)), (4, .int (nI (S2 / 16))), (5, .int (nI (S2 % 16)))]) hx hb dX11_understand_291 hl (k := 5) rfl (nI_add _ 1) (by decide) rfl (fun ls hl => ?_)
                                refine lv_goto (tgt := 252) hx hb dX11_understand_294 (by decide) ?_
                                exact ih252 (k + 1) (setN D1 k (vaN sb (9 * (2 + k / 8)) 8 / 2 ^ (k % 8) % 2)) (by omega) (fun j hj => (Decidable.em (j = k)).elim (fun e9 => by rw [e9, setN_s, tdN_lo h01 (by omega), valN_va 8 (by omega)]) (fun e9 => (setN_o e9).trans (hD1 j (by omega)))) (by omega) _ _ _ _ f_o f_8 f_9 f_10 fr hH (lv_sub hl [1, 2, 3, 4, 5, 0] rfl)
                          exact lp_252 ((8 * (S2 / 16 - 2) - 0) + 1) 0 D (Nat.zero_le _) (fun j hj => absurd hj (Nat.not_lt_zero _)) (Nat.lt_succ_self _) _ _ _ _ f_o f_8 f_9 f_10 fr hH (lv_sub hl [5, 6, 4, 2, 1, 0] rfl)
                        · have c_229 : ¬ (se = ((9 * (S2 / 16)) + (S2 % 16))) := fun z => c_229 ((nI_eq (by omega) (by omega)).mpr z)
                          have hK : rdK sb se = 0 := by rw [hKg, if_neg (fun h9 => by omega)]; split; rfl; rw [if_neg (fun h9 => by omega)]; unfold kdC; rw [if_neg (by omega), if_neg (by omega), if_neg (by omega)]
                          have f_o : μ1 o = some (hp_o 7 [.int (nI n), .ref (o + 1), .ref (o + 2), .ref (o + 3), .ref (o + 4), .ref (o + 5), .ref (o + 6), .int (nB on), .int (nI tz), .ref (o + 7), .int (nI se), .ref (o + 8), .ref (o + 9), .int (nI (rdK sb se)), .int (nI kl), .int (nI 0), .ref (o + 10), .int (nI sd), .ref (o + 11), .int (nI hd), .ref (o + 12), .int (nI an), .ref (o + 13), .int (nI fm), .int (nI fo), .ref (o + 14), .ref (o + 15), .int (nI kc), .ref (o + 16)]) := by rw [hK]; exact f_o
                          exact hp_rv hx hb hr hlocks hS hH (⟨rfl, _, _, _, _, f_o, f_9, f_10, fun h9 => h9.elim (fun h9 => absurd (hK.symm.trans h9) (by decide)) (fun h9 => absurd (hK.symm.trans h9) (by decide)), fun h9 => absurd (hK.symm.trans h9) (by decide), fr⟩) dX11_understand_232
            · have c_137 : ¬ (F = 147) := fun z => c_137 ((nI_eq (by omega) (by omega)).mpr z)
              refine lv_iload_n hx hb dX11_understand_140 rfl (lv_at hl 0 rfl) ?_
              refine lv_sipush (v := nI 149) hx hb dX11_understand_141 (by decide) ?_
              refine lv_icmp_eq (tgt := 154) hx hb dX11_understand_144 (by decide) (fun c_144 => ?_) (fun c_144 => ?_)
              · have c_144 : F = 149 := (nI_eq (by omega) (by omega)).mp c_144
                have hlv : lvOf F = (F - 145) / 2 := by rw [show F = 149 by omega]; rfl
                have hlv0 : 0 < lvOf F := by rw [show F = 149 by omega]; decide
                have hFe : F = 147 ∨ F = 149 ∨ F = 151 := by omega
                refine lv_iconst (v := nI 1) hx hb dX11_understand_154 (by decide) ?_
                refine lv_goto (tgt := 159) hx hb dX11_understand_155 (by decide) ?_
                refine lv_istore_n (lv' := [(3, .int (nI 1)), (2, .int (nI F)), (0, .ref o), (1, .int (nI (se / 9)))]) hx hb dX11_understand_159 rfl hl (by decide) rfl (fun ls hl => ?_)
                refine lv_iload_n hx hb dX11_understand_160 rfl (lv_at hl 0 rfl) ?_
                refine lv_if_eq (tgt := 356) hx hb dX11_understand_161 (by decide) (fun c_161 => ?_) (fun c_161 => ?_)
                · exact absurd c_161 (by decide)
                · have c_161 : ¬ (1 = 0) := nz_n (by omega) c_161
                  refine lv_aload_n hx hb dX11_understand_164 rfl (lv_at hl 2 rfl) ?_
                  refine hp_get hx hb hown hS.2.1 hH (F_X11_39.use hS) f_o rfl dX11_understand_165 ?_
                  refine lv_iconst (v := nI 1) hx hb dX11_understand_168 (by decide) ?_
                  refine hp_ialdI hx hb hS.ai hH f_9 (by omega) (by omega) dX11_understand_169 ?_
                  refine hp_eqi (z := nI S2) (hS0) ?_
                  refine lv_bipush (v := nI 112) hx hb dX11_understand_170 (by decide) ?_
                  refine lv_icmp_eq (tgt := 356) hx hb dX11_understand_172 (by decide) (fun c_172 => ?_) (fun c_172 => ?_)
                  · have c_172 : S2 = 112 := (nI_eq (by omega) (by omega)).mp c_172
                    refine lv_aload_n hx hb dX11_understand_356 rfl (lv_at hl 2 rfl) ?_
                    refine hp_get hx hb hown hS.2.1 hH (F_X11_104.use hS) f_o rfl dX11_understand_357 ?_
                    refine lv_bipush (v := nI 9) hx hb dX11_understand_360 (by decide) ?_
                    refine lv_irem hx hb dX11_understand_362 (nI_ne0 (by omega) (by omega)) ?_
                    refine hp_eqi (z := nI (se % 9)) (pk_rem (by omega) (by omega) (by omega)) ?_
                    refine lv_if_ne (tgt := 371) hx hb dX11_understand_363 (by decide) (fun c_363 => ?_) (fun c_363 => ?_)
                    · have c_363 : ¬ (se % 9 = 0) := nz_n (by omega) c_363
                      have hK : rdK sb se = 0 := by rw [hKg, if_neg (fun h9 => by omega)]; split; rfl; rename_i h8; rw [if_neg (fun h9 => by omega)]; unfold kdC; rw [if_neg (by omega), if_neg (by omega), if_neg (by omega)]
                      have f_o : μ1 o = some (hp_o 7 [.int (nI n), .ref (o + 1), .ref (o + 2), .ref (o + 3), .ref (o + 4), .ref (o + 5), .ref (o + 6), .int (nB on), .int (nI tz), .ref (o + 7), .int (nI se), .ref (o + 8), .ref (o + 9), .int (nI (rdK sb se)), .int (nI kl), .int (nI 0), .ref (o + 10), .int (nI sd), .ref (o + 11), .int (nI hd), .ref (o + 12), .int (nI an), .ref (o + 13), .int (nI fm), .int (nI fo), .ref (o + 14), .ref (o + 15), .int (nI kc), .ref (o + 16)]) := by rw [hK]; exact f_o
                      exact hp_rv hx hb hr hlocks hS hH (⟨rfl, _, _, _, _, f_o, f_9, f_10, fun h9 => h9.elim (fun h9 => absurd (hK.symm.trans h9) (by decide)) (fun h9 => absurd (hK.symm.trans h9) (by decide)), fun h9 => absurd (hK.symm.trans h9) (by decide), fr⟩) dX11_understand_371
                    · have c_363 : (se % 9) = 0 := nz_0 (by omega) c_363
                      refine lv_iload_n hx hb dX11_understand_366 rfl (lv_at hl 3 rfl) ?_
                      refine lv_iconst (v := nI 3) hx hb dX11_understand_367 (by decide) ?_
                      refine lv_icmp_ge (tgt := 372) hx hb dX11_understand_368 (by decide) (fun c_368 => ?_) (fun c_368 => ?_)
                      · have c_368 : 3 ≤ (se / 9) := (nI_leI (by omega) (by omega)).mp c_368
                        refine lv_sipush (v := nI 25443) hx hb dX11_understand_372 (by decide) ?_
                        refine lv_istore (lv' := [(4, .int (nI 25443)), (3, .int (nI 1)), (2, .int (nI F)), (0, .ref o), (1, .int (nI (se / 9)))]) hx hb dX11_understand_375 hl (by decide) rfl (fun ls hl => ?_)
                        refine lv_iconst (v := nI 0) hx hb dX11_understand_377 (by decide) ?_
                        refine lv_istore (lv' := [(5, .int (nI 0)), (4, .int (nI 25443)), (3, .int (nI 1)), (2, .int (nI F)), (0, .ref o), (1, .int (nI (se / 9)))]) hx hb dX11_understand_378 hl (by decide) rfl (fun ls hl => ?_)
                        have lp_380 : ∀ (kk380 : Nat) (i2 : Nat), (i2 ≤ se / 9 - 2) → (se / 9 - 2 - i2) < kk380 → ∀ (H : Heap) (locs : List Loc) (ls : Array Slot), hp_w X cls μ1 nx H locs → lv_has ls 7 [(0, .ref o), (1, .int (nI (se / 9))), (2, .int (nI F)), (3, .int (nI 1)), (4, .int (nI (crcN sb se i2))), (5, .int (nI i2))] → W p l e { frames := 2, cells := 0, slots := 0, locals := 80 } s m [.ref o].toArray below meth c H locs 0 0 (MQ below (hq_v X (po_v nx (fun z => ∃ (kl9 tc9 : Nat) (B9 : Nat → Int32) (D9 : Nat → Nat), z o = some (hp_o 7 [.int (nI n), .ref (o + 1), .ref (o + 2), .ref (o + 3), .ref (o + 4), .ref (o + 5), .ref (o + 6), .int (nB on), .int (nI tz), .ref (o + 7), .int (nI se), .ref (o + 8), .ref (o + 9), .int (nI (rdK sb se)), .int (nI kl9), .int (nI tc9), .ref (o + 10), .int (nI sd), .ref (o + 11), .int (nI hd), .ref (o + 12), .int (nI an), .ref (o + 13), .int (nI fm), .int (nI fo), .ref (o + 14), .ref (o + 15), .int (nI kc), .ref (o + 16)]) ∧ z (o + 9) = some (hp_i X 18 B9) ∧ z (o + 10) = some (hp_n X 48 D9) ∧ (rdK sb se = 3 ∨ rdK sb se = 4 → kl9 = lvOf (valN sb se 0 8) ∧ tc9 = rdC sb se ∧ ∀ k, k < tc9 → D9 k = rdT sb se / 2 ^ k % 2) ∧ (rdK sb se = 6 → B9 1 = nI (valN sb se 9 8)) ∧ hp_eqM [0, 9, 10] o z μ))) [.ref o].toArray s 0 0 (hp_A X)) (F0 m 380 ls []) := by
                          intro kk380
                          induction kk380 with
                          | zero =>
                            intro i2 hi2 hkk380
                            exact absurd hkk380 (Nat.not_lt_zero _)
                          | succ kk380 ih380 =>
                            intro i2 hi2 hkk380 H locs ls  hH hl
                            refine lv_iload hx hb dX11_understand_380 (lv_at hl 5 rfl) ?_
                            refine lv_iload_n hx hb dX11_understand_382 rfl (lv_at hl 1 rfl) ?_
                            refine lv_iconst (v := nI 2) hx hb dX11_understand_383 (by decide) ?_
                            refine lv_isub hx hb dX11_understand_384 ?_
                            refine hp_eqi (z := nI ((se / 9) - 2)) (pk_sub (by omega)) ?_
                            refine lv_icmp_ge (tgt := 408) hx hb dX11_understand_385 (by decide) (fun c_385 => ?_) (fun c_385 => ?_)
                            · have c_385 : ((se / 9) - 2) ≤ i2 := (nI_leI (by omega) (by omega)).mp c_385
                              have ei2 : i2 = se / 9 - 2 := by omega
                              subst ei2
                              have hxl := crcN_lt sb se (se / 9 - 2)
                              have hc9 := crcN_own (sb := sb) (se := se) (k := se / 9 - 2) h01 (by omega)
                              rw [show se / 9 - 2 + 2 = se / 9 by omega, show se / 9 - 2 + 1 = se / 9 - 1 by omega] at hc9
                              have hu1 : vaN sb (9 * (se / 9 - 2)) 8 < 256 := vaN_lt (n := 8) (fun j _ => h01 _)
                              have hu2 : vaN sb (9 * (se / 9 - 1)) 8 < 256 := vaN_lt (n := 8) (fun j _ => h01 _)
                              refine lv_aload_n hx hb dX11_understand_408 rfl (lv_at hl 0 rfl) ?_
                              refine hp_get hx hb hown hS.2.1 hH (F_X11_39.use hS) f_o rfl dX11_understand_409 ?_
                              refine lv_iload_n hx hb dX11_understand_412 rfl (lv_at hl 1 rfl) ?_
                              refine lv_iconst (v := nI 2) hx hb dX11_understand_413 (by decide) ?_
                              refine lv_isub hx hb dX11_understand_414 ?_
                              refine hp_eqi (z := nI ((se / 9) - 2)) (pk_sub (by omega)) ?_
                              refine hp_ialdI hx hb hS.ai hH f_9 (by omega) (by omega) dX11_understand_415 ?_
                              refine hp_eqi (z := nI (vaN sb (9 * (se / 9 - 2)) 8)) (hB _ (by omega)) ?_
                              refine lv_iload hx hb dX11_understand_416 (lv_at hl 4 rfl) ?_
                              refine lv_sipush (v := nI 256) hx hb dX11_understand_418 (by decide) ?_
                              refine lv_irem hx hb dX11_understand_421 (nI_ne0 (by omega) (by omega)) ?_
                              refine hp_eqi (z := nI ((crcN sb se (se / 9 - 2)) % 256)) (pk_rem (by omega) (by omega) (by omega)) ?_
                              refine lv_icmp_ne (tgt := 442) hx hb dX11_understand_422 (by decide) (fun c_422 => ?_) (fun c_422 => ?_)
                              · have c_422 : ¬ ((vaN sb (9 * (se / 9 - 2)) 8) = ((crcN sb se (se / 9 - 2)) % 256)) := fun z => c_422 ((nI_eq (by omega) (by omega)).mpr z)
                                have hK : rdK sb se = 0 := by rw [hKg, if_neg (fun h9 => by omega), if_pos (Or.inr (fun h9 => by have h8 := hc9.mp h9; omega))]
                                have f_o : μ1 o = some (hp_o 7 [.int (nI n), .ref (o + 1), .ref (o + 2), .ref (o + 3), .ref (o + 4), .ref (o + 5), .ref (o + 6), .int (nB on), .int (nI tz), .ref (o + 7), .int (nI se), .ref (o + 8), .ref (o + 9), .int (nI (rdK sb se)), .int (nI kl), .int (nI 0), .ref (o + 10), .int (nI sd), .ref (o + 11), .int (nI hd), .ref (o + 12), .int (nI an), .ref (o + 13), .int (nI fm), .int (nI fo), .ref (o + 14), .ref (o + 15), .int (nI kc), .ref (o + 16)]) := by rw [hK]; exact f_o
                                exact hp_rv hx hb hr hlocks hS hH (⟨rfl, _, _, _, _, f_o, f_9, f_10, fun h9 => h9.elim (fun h9 => absurd (hK.symm.trans h9) (by decide)) (fun h9 => absurd (hK.symm.trans h9) (by decide)), fun h9 => absurd (hK.symm.trans h9) (by decide), fr⟩) dX11_understand_442
                              · have c_422 : (vaN sb (9 * (se / 9 - 2)) 8) = ((crcN sb se (se / 9 - 2)) % 256) := (nI_eq (by omega) (by omega)).mp c_422
                                refine lv_aload_n hx hb dX11_understand_425 rfl (lv_at hl 0 rfl) ?_
                                refine hp_get hx hb hown hS.2.1 hH (F_X11_39.use hS) f_o rfl dX11_understand_426 ?_
                                refine lv_iload_n hx hb dX11_understand_429 rfl (lv_at hl 1 rfl) ?_
                                refine lv_iconst (v := nI 1) hx hb dX11_understand_430 (by decide) ?_
                                refine lv_isub hx hb dX11_understand_431 ?_
                                refine hp_eqi (z := nI ((se / 9) - 1)) (pk_sub (by omega)) ?_
                                refine hp_ialdI hx hb hS.ai hH f_9 (by omega) (by omega) dX11_understand_432 ?_
                                refine hp_eqi (z := nI (vaN sb (9 * (se / 9 - 1)) 8)) (hB _ (by omega)) ?_
                                refine lv_iload hx hb dX11_understand_433 (lv_at hl 4 rfl) ?_
                                refine lv_sipush (v := nI 256) hx hb dX11_understand_435 (by decide) ?_
                                refine lv_idiv hx hb dX11_understand_438 (nI_ne0 (by omega) (by omega)) ?_
                                refine hp_eqi (z := nI ((crcN sb se (se / 9 - 2)) / 256)) (pk_div (by omega) (by omega) (by omega)) ?_
                                refine lv_icmp_eq (tgt := 443) hx hb dX11_understand_439 (by decide) (fun c_439 => ?_) (fun c_439 => ?_)
                                · have c_439 : (vaN sb (9 * (se / 9 - 1)) 8) = ((crcN sb se (se / 9 - 2)) / 256) := (nI_eq (by omega) (by omega)).mp c_439
                                  have hc0 := hc9.mpr ⟨c_422, c_439⟩
                                  refine lv_iload_n hx hb dX11_understand_443 rfl (lv_at hl 3 rfl) ?_
                                  refine lv_if_eq (tgt := 521) hx hb dX11_understand_444 (by decide) (fun c_444 => ?_) (fun c_444 => ?_)
                                  · exact absurd c_444 (by decide)
                                  · have c_444 : ¬ (1 = 0) := nz_n (by omega) c_444
                                    refine lv_iload_n hx hb dX11_understand_447 rfl (lv_at hl 1 rfl) ?_
                                    refine lv_bipush (v := nI 9) hx hb dX11_understand_448 (by decide) ?_
                                    refine lv_icmp_ne (tgt := 521) hx hb dX11_understand_450 (by decide) (fun c_450 => ?_) (fun c_450 => ?_)
                                    · have c_450 : ¬ ((se / 9) = 9) := fun z => c_450 ((nI_eq (by omega) (by omega)).mpr z)
                                      refine lv_iload_n hx hb dX11_understand_521 rfl (lv_at hl 1 rfl) ?_
                                      refine lv_iconst (v := nI 4) hx hb dX11_understand_522 (by decide) ?_
                                      refine lv_icmp_ne (tgt := 549) hx hb dX11_understand_523 (by decide) (fun c_523 => ?_) (fun c_523 => ?_)
                                      · have c_523 : ¬ ((se / 9) = 4) := fun z => c_523 ((nI_eq (by omega) (by omega)).mpr z)
                                        refine lv_iload_n hx hb dX11_understand_549 rfl (lv_at hl 1 rfl) ?_
                                        refine lv_iconst (v := nI 4) hx hb dX11_understand_550 (by decide) ?_
                                        refine lv_icmp_ne (tgt := 570) hx hb dX11_understand_551 (by decide) (fun c_551 => ?_) (fun c_551 => ?_)
                                        · have c_551 : ¬ ((se / 9) = 4) := fun z => c_551 ((nI_eq (by omega) (by omega)).mpr z)
                                          refine lv_iload_n hx hb dX11_understand_570 rfl (lv_at hl 1 rfl) ?_
                                          refine lv_iconst (v := nI 3) hx hb dX11_understand_571 (by decide) ?_
                                          refine lv_icmp_ne (tgt := 588) hx hb dX11_understand_572 (by decide) (fun c_572 => ?_) (fun c_572 => ?_)
                                          · have c_572 : ¬ ((se / 9) = 3) := fun z => c_572 ((nI_eq (by omega) (by omega)).mpr z)
                                            have hK : rdK sb se = 0 := by rw [hKg, if_neg (fun h9 => by omega), if_neg (fun h9 => by rw [hc0] at h9; omega), if_neg (fun h9 => by omega)]; unfold kdC; rw [if_neg (by omega), if_neg (by omega), if_neg (by omega)]
                                            have f_o : μ1 o = some (hp_o 7 [.int (nI n), .ref (o + 1), .ref (o + 2), .ref (o + 3), .ref (o + 4), .ref (o + 5), .ref (o + 6), .int (nB on), .int (nI tz), .ref (o + 7), .int (nI se), .ref (o + 8), .ref (o + 9), .int (nI (rdK sb se)), .int (nI kl), .int (nI 0), .ref (o + 10), .int (nI sd), .ref (o + 11), .int (nI hd), .ref (o + 12), .int (nI an), .ref (o + 13), .int (nI fm), .int (nI fo), .ref (o + 14), .ref (o + 15), .int (nI kc), .ref (o + 16)]) := by rw [hK]; exact f_o
                                            exact hp_rv hx hb hr hlocks hS hH (⟨rfl, _, _, _, _, f_o, f_9, f_10, fun h9 => h9.elim (fun h9 => absurd (hK.symm.trans h9) (by decide)) (fun h9 => absurd (hK.symm.trans h9) (by decide)), fun h9 => absurd (hK.symm.trans h9) (by decide), fr⟩) dX11_understand_588
                                          · have c_572 : (se / 9) = 3 := (nI_eq (by omega) (by omega)).mp c_572
                                            refine lv_iload_n hx hb dX11_understand_575 rfl (lv_at hl 2 rfl) ?_
                                            refine lv_sipush (v := nI 194) hx hb dX11_understand_576 (by decide) ?_
                                            refine lv_icmp_ne (tgt := 588) hx hb dX11_understand_579 (by decide) (fun c_579 => ?_) (fun c_579 => ?_)
                                            · have c_579 : ¬ (F = 194) := fun z => c_579 ((nI_eq (by omega) (by omega)).mpr z)
                                              have hK : rdK sb se = 0 := by rw [hKg, if_neg (fun h9 => by omega), if_neg (fun h9 => by rw [hc0] at h9; omega), if_neg (fun h9 => by omega)]; unfold kdC; rw [if_neg (by omega), if_neg (by omega), if_neg (by omega)]
                                              have f_o : μ1 o = some (hp_o 7 [.int (nI n), .ref (o + 1), .ref (o + 2), .ref (o + 3), .ref (o + 4), .ref (o + 5), .ref (o + 6), .int (nB on), .int (nI tz), .ref (o + 7), .int (nI se), .ref (o + 8), .ref (o + 9), .int (nI (rdK sb se)), .int (nI kl), .int (nI 0), .ref (o + 10), .int (nI sd), .ref (o + 11), .int (nI hd), .ref (o + 12), .int (nI an), .ref (o + 13), .int (nI fm), .int (nI fo), .ref (o + 14), .ref (o + 15), .int (nI kc), .ref (o + 16)]) := by rw [hK]; exact f_o
                                              exact hp_rv hx hb hr hlocks hS hH (⟨rfl, _, _, _, _, f_o, f_9, f_10, fun h9 => h9.elim (fun h9 => absurd (hK.symm.trans h9) (by decide)) (fun h9 => absurd (hK.symm.trans h9) (by decide)), fun h9 => absurd (hK.symm.trans h9) (by decide), fr⟩) dX11_understand_588
                                            · have c_579 : F = 194 := (nI_eq (by omega) (by omega)).mp c_579
                                              refine lv_aload_n hx hb dX11_understand_582 rfl (lv_at hl 0 rfl) ?_
                                              refine lv_bipush (v := nI 7) hx hb dX11_understand_583 (by decide) ?_
                                              refine hp_put hx hb hown hS.2.1 hH (P_X11_98.use hS) f_o rfl rfl (Nat.le_of_ble_eq_true rfl) dX11_understand_585 (fun H locs μ1 fz fn hH => ?_)
                                              have f_8 := (fn _ (by omega)).trans f_8
                                              have f_9 := (fn _ (by omega)).trans f_9
                                              have f_10 := (fn _ (by omega)).trans f_10
                                              have f_o : μ1 o = some (hp_o 7 [.int (nI n), .ref (o + 1), .ref (o + 2), .ref (o + 3), .ref (o + 4), .ref (o + 5), .ref (o + 6), .int (nB on), .int (nI tz), .ref (o + 7), .int (nI se), .ref (o + 8), .ref (o + 9), .int (nI 7), .int (nI kl), .int (nI 0), .ref (o + 10), .int (nI sd), .ref (o + 11), .int (nI hd), .ref (o + 12), .int (nI an), .ref (o + 13), .int (nI fm), .int (nI fo), .ref (o + 14), .ref (o + 15), .int (nI kc), .ref (o + 16)]) := fz
                                              have fr := hp_eqM.put (k := 0) fr (by decide) fn
                                              clear fz fn
                                              have hK : rdK sb se = 7 := by rw [hKg, if_neg (fun h9 => by omega), if_neg (fun h9 => by rw [hc0] at h9; omega), if_neg (fun h9 => by omega)]; unfold kdC; rw [if_neg (by omega), if_neg (by omega), if_pos (by omega)]
                                              have f_o : μ1 o = some (hp_o 7 [.int (nI n), .ref (o + 1), .ref (o + 2), .ref (o + 3), .ref (o + 4), .ref (o + 5), .ref (o + 6), .int (nB on), .int (nI tz), .ref (o + 7), .int (nI se), .ref (o + 8), .ref (o + 9), .int (nI (rdK sb se)), .int (nI kl), .int (nI 0), .ref (o + 10), .int (nI sd), .ref (o + 11), .int (nI hd), .ref (o + 12), .int (nI an), .ref (o + 13), .int (nI fm), .int (nI fo), .ref (o + 14), .ref (o + 15), .int (nI kc), .ref (o + 16)]) := by rw [hK]; exact f_o
                                              exact hp_rv hx hb hr hlocks hS hH (⟨rfl, _, _, _, _, f_o, f_9, f_10, fun h9 => h9.elim (fun h9 => absurd (hK.symm.trans h9) (by decide)) (fun h9 => absurd (hK.symm.trans h9) (by decide)), fun h9 => absurd (hK.symm.trans h9) (by decide), fr⟩) dX11_understand_588
                                        · have c_551 : (se / 9) = 4 := (nI_eq (by omega) (by omega)).mp c_551
                                          refine lv_iload_n hx hb dX11_understand_554 rfl (lv_at hl 2 rfl) ?_
                                          refine lv_sipush (v := nI 224) hx hb dX11_understand_555 (by decide) ?_
                                          refine lv_icmp_ne (tgt := 570) hx hb dX11_understand_558 (by decide) (fun c_558 => ?_) (fun c_558 => ?_)
                                          · have c_558 : ¬ (F = 224) := fun z => c_558 ((nI_eq (by omega) (by omega)).mpr z)
                                            refine lv_iload_n hx hb dX11_understand_570 rfl (lv_at hl 1 rfl) ?_
                                            refine lv_iconst (v := nI 3) hx hb dX11_understand_571 (by decide) ?_
                                            refine lv_icmp_ne (tgt := 588) hx hb dX11_understand_572 (by decide) (fun c_572 => ?_) (fun c_572 => ?_)
                                            · have c_572 : ¬ ((se / 9) = 3) := fun z => c_572 ((nI_eq (by omega) (by omega)).mpr z)
                                              have hK : rdK sb se = 0 := by rw [hKg, if_neg (fun h9 => by omega), if_neg (fun h9 => by rw [hc0] at h9; omega), if_neg (fun h9 => by omega)]; unfold kdC; rw [if_neg (by omega), if_neg (by omega), if_neg (by omega)]
                                              have f_o : μ1 o = some (hp_o 7 [.int (nI n), .ref (o + 1), .ref (o + 2), .ref (o + 3), .ref (o + 4), .ref (o + 5), .ref (o + 6), .int (nB on), .int (nI tz), .ref (o + 7), .int (nI se), .ref (o + 8), .ref (o + 9), .int (nI (rdK sb se)), .int (nI kl), .int (nI 0), .ref (o + 10), .int (nI sd), .ref (o + 11), .int (nI hd), .ref (o + 12), .int (nI an), .ref (o + 13), .int (nI fm), .int (nI fo), .ref (o + 14), .ref (o + 15), .int (nI kc), .ref (o + 16)]) := by rw [hK]; exact f_o
                                              exact hp_rv hx hb hr hlocks hS hH (⟨rfl, _, _, _, _, f_o, f_9, f_10, fun h9 => h9.elim (fun h9 => absurd (hK.symm.trans h9) (by decide)) (fun h9 => absurd (hK.symm.trans h9) (by decide)), fun h9 => absurd (hK.symm.trans h9) (by decide), fr⟩) dX11_understand_588
                                            · have c_572 : (se / 9) = 3 := (nI_eq (by omega) (by omega)).mp c_572
                                              refine lv_iload_n hx hb dX11_understand_575 rfl (lv_at hl 2 rfl) ?_
                                              refine lv_sipush (v := nI 194) hx hb dX11_understand_576 (by decide) ?_
                                              refine lv_icmp_ne (tgt := 588) hx hb dX11_understand_579 (by decide) (fun c_579 => ?_) (fun c_579 => ?_)
                                              · have c_579 : ¬ (F = 194) := fun z => c_579 ((nI_eq (by omega) (by omega)).mpr z)
                                                have hK : rdK sb se = 0 := by rw [hKg, if_neg (fun h9 => by omega), if_neg (fun h9 => by rw [hc0] at h9; omega), if_neg (fun h9 => by omega)]; unfold kdC; rw [if_neg (by omega), if_neg (by omega), if_neg (by omega)]
                                                have f_o : μ1 o = some (hp_o 7 [.int (nI n), .ref (o + 1), .ref (o + 2), .ref (o + 3), .ref (o + 4), .ref (o + 5), .ref (o + 6), .int (nB on), .int (nI tz), .ref (o + 7), .int (nI se), .ref (o + 8), .ref (o + 9), .int (nI (rdK sb se)), .int (nI kl), .int (nI 0), .ref (o + 10), .int (nI sd), .ref (o + 11), .int (nI hd), .ref (o + 12), .int (nI an), .ref (o + 13), .int (nI fm), .int (nI fo), .ref (o + 14), .ref (o + 15), .int (nI kc), .ref (o + 16)]) := by rw [hK]; exact f_o
                                                exact hp_rv hx hb hr hlocks hS hH (⟨rfl, _, _, _, _, f_o, f_9, f_10, fun h9 => h9.elim (fun h9 => absurd (hK.symm.trans h9) (by decide)) (fun h9 => absurd (hK.symm.trans h9) (by decide)), fun h9 => absurd (hK.symm.trans h9) (by decide), fr⟩) dX11_understand_588
                                              · have c_579 : F = 194 := (nI_eq (by omega) (by omega)).mp c_579
                                                refine lv_aload_n hx hb dX11_understand_582 rfl (lv_at hl 0 rfl) ?_
                                                refine lv_bipush (v := nI 7) hx hb dX11_understand_583 (by decide) ?_
                                                refine hp_put hx hb hown hS.2.1 hH (P_X11_98.use hS) f_o rfl rfl (Nat.le_of_ble_eq_true rfl) dX11_understand_585 (fun H locs μ1 fz fn hH => ?_)
                                                have f_8 := (fn _ (by omega)).trans f_8
                                                have f_9 := (fn _ (by omega)).trans f_9
                                                have f_10 := (fn _ (by omega)).trans f_10
                                                have f_o : μ1 o = some (hp_o 7 [.int (nI n), .ref (o + 1), .ref (o + 2), .ref (o + 3), .ref (o + 4), .ref (o + 5), .ref (o + 6), .int (nB on), .int (nI tz), .ref (o + 7), .int (nI se), .ref (o + 8), .ref (o + 9), .int (nI 7), .int (nI kl), .int (nI 0), .ref (o + 10), .int (nI sd), .ref (o + 11), .int (nI hd), .ref (o + 12), .int (nI an), .ref (o + 13), .int (nI fm), .int (nI fo), .ref (o + 14), .ref (o + 15), .int (nI kc), .ref (o + 16)]) := fz
                                                have fr := hp_eqM.put (k := 0) fr (by decide) fn
                                                clear fz fn
                                                have hK : rdK sb se = 7 := by rw [hKg, if_neg (fun h9 => by omega), if_neg (fun h9 => by rw [hc0] at h9; omega), if_neg (fun h9 => by omega)]; unfold kdC; rw [if_neg (by omega), if_neg (by omega), if_pos (by omega)]
                                                have f_o : μ1 o = some (hp_o 7 [.int (nI n), .ref (o + 1), .ref (o + 2), .ref (o + 3), .ref (o + 4), .ref (o + 5), .ref (o + 6), .int (nB on), .int (nI tz), .ref (o + 7), .int (nI se), .ref (o + 8), .ref (o + 9), .int (nI (rdK sb se)), .int (nI kl), .int (nI 0), .ref (o + 10), .int (nI sd), .ref (o + 11), .int (nI hd), .ref (o + 12), .int (nI an), .ref (o + 13), .int (nI fm), .int (nI fo), .ref (o + 14), .ref (o + 15), .int (nI kc), .ref (o + 16)]) := by rw [hK]; exact f_o
                                                exact hp_rv hx hb hr hlocks hS hH (⟨rfl, _, _, _, _, f_o, f_9, f_10, fun h9 => h9.elim (fun h9 => absurd (hK.symm.trans h9) (by decide)) (fun h9 => absurd (hK.symm.trans h9) (by decide)), fun h9 => absurd (hK.symm.trans h9) (by decide), fr⟩) dX11_understand_588
                                          · have c_558 : F = 224 := (nI_eq (by omega) (by omega)).mp c_558
                                            refine lv_aload_n hx hb dX11_understand_561 rfl (lv_at hl 0 rfl) ?_
                                            refine lv_bipush (v := nI 6) hx hb dX11_understand_562 (by decide) ?_
                                            refine hp_put hx hb hown hS.2.1 hH (P_X11_98.use hS) f_o rfl rfl (Nat.le_of_ble_eq_true rfl) dX11_understand_564 (fun H locs μ1 fz fn hH => ?_)
                                            have f_8 := (fn _ (by omega)).trans f_8
                                            have f_9 := (fn _ (by omega)).trans f_9
                                            have f_10 := (fn _ (by omega)).trans f_10
                                            have f_o : μ1 o = some (hp_o 7 [.int (nI n), .ref (o + 1), .ref (o + 2), .ref (o + 3), .ref (o + 4), .ref (o + 5), .ref (o + 6), .int (nB on), .int (nI tz), .ref (o + 7), .int (nI se), .ref (o + 8), .ref (o + 9), .int (nI 6), .int (nI kl), .int (nI 0), .ref (o + 10), .int (nI sd), .ref (o + 11), .int (nI hd), .ref (o + 12), .int (nI an), .ref (o + 13), .int (nI fm), .int (nI fo), .ref (o + 14), .ref (o + 15), .int (nI kc), .ref (o + 16)]) := fz
                                            have fr := hp_eqM.put (k := 0) fr (by decide) fn
                                            clear fz fn
                                            refine lv_goto (tgt := 588) hx hb dX11_understand_567 (by decide) ?_
                                            have hK : rdK sb se = 6 := by rw [hKg, if_neg (fun h9 => by omega), if_neg (fun h9 => by rw [hc0] at h9; omega), if_neg (fun h9 => by omega)]; unfold kdC; rw [if_neg (by omega), if_pos (by omega)]
                                            have f_o : μ1 o = some (hp_o 7 [.int (nI n), .ref (o + 1), .ref (o + 2), .ref (o + 3), .ref (o + 4), .ref (o + 5), .ref (o + 6), .int (nB on), .int (nI tz), .ref (o + 7), .int (nI se), .ref (o + 8), .ref (o + 9), .int (nI (rdK sb se)), .int (nI kl), .int (nI 0), .ref (o + 10), .int (nI sd), .ref (o + 11), .int (nI hd), .ref (o + 12), .int (nI an), .ref (o + 13), .int (nI fm), .int (nI fo), .ref (o + 14), .ref (o + 15), .int (nI kc), .ref (o + 16)]) := by rw [hK]; exact f_o
                                            exact hp_rv hx hb hr hlocks hS hH (⟨rfl, _, _, _, _, f_o, f_9, f_10, fun h9 => h9.elim (fun h9 => absurd (hK.symm.trans h9) (by decide)) (fun h9 => absurd (hK.symm.trans h9) (by decide)), fun _ => by rw [valN_va 8 (by omega), ← hS2]; exact hS0, fr⟩) dX11_understand_588
                                      · have c_523 : (se / 9) = 4 := (nI_eq (by omega) (by omega)).mp c_523
                                        refine lv_iload_n hx hb dX11_understand_526 rfl (lv_at hl 2 rfl) ?_
                                        refine lv_bipush (v := nI 80) hx hb dX11_understand_527 (by decide) ?_
                                        refine lv_icmp_ne (tgt := 549) hx hb dX11_understand_529 (by decide) (fun c_529 => ?_) (fun c_529 => ?_)
                                        · have c_529 : ¬ (F = 80) := fun z => c_529 ((nI_eq (by omega) (by omega)).mpr z)
                                          refine lv_iload_n hx hb dX11_understand_549 rfl (lv_at hl 1 rfl) ?_
                                          refine lv_iconst (v := nI 4) hx hb dX11_understand_550 (by decide) ?_
                                          refine lv_icmp_ne (tgt := 570) hx hb dX11_understand_551 (by decide) (fun c_551 => ?_) (fun c_551 => ?_)
                                          · have c_551 : ¬ ((se / 9) = 4) := fun z => c_551 ((nI_eq (by omega) (by omega)).mpr z)
                                            refine lv_iload_n hx hb dX11_understand_570 rfl (lv_at hl 1 rfl) ?_
                                            refine lv_iconst (v := nI 3) hx hb dX11_understand_571 (by decide) ?_
                                            refine lv_icmp_ne (tgt := 588) hx hb dX11_understand_572 (by decide) (fun c_572 => ?_) (fun c_572 => ?_)
                                            · have c_572 : ¬ ((se / 9) = 3) := fun z => c_572 ((nI_eq (by omega) (by omega)).mpr z)
                                              have hK : rdK sb se = 0 := by rw [hKg, if_neg (fun h9 => by omega), if_neg (fun h9 => by rw [hc0] at h9; omega), if_neg (fun h9 => by omega)]; unfold kdC; rw [if_neg (by omega), if_neg (by omega), if_neg (by omega)]
                                              have f_o : μ1 o = some (hp_o 7 [.int (nI n), .ref (o + 1), .ref (o + 2), .ref (o + 3), .ref (o + 4), .ref (o + 5), .ref (o + 6), .int (nB on), .int (nI tz), .ref (o + 7), .int (nI se), .ref (o + 8), .ref (o + 9), .int (nI (rdK sb se)), .int (nI kl), .int (nI 0), .ref (o + 10), .int (nI sd), .ref (o + 11), .int (nI hd), .ref (o + 12), .int (nI an), .ref (o + 13), .int (nI fm), .int (nI fo), .ref (o + 14), .ref (o + 15), .int (nI kc), .ref (o + 16)]) := by rw [hK]; exact f_o
                                              exact hp_rv hx hb hr hlocks hS hH (⟨rfl, _, _, _, _, f_o, f_9, f_10, fun h9 => h9.elim (fun h9 => absurd (hK.symm.trans h9) (by decide)) (fun h9 => absurd (hK.symm.trans h9) (by decide)), fun h9 => absurd (hK.symm.trans h9) (by decide), fr⟩) dX11_understand_588
                                            · have c_572 : (se / 9) = 3 := (nI_eq (by omega) (by omega)).mp c_572
                                              refine lv_iload_n hx hb dX11_understand_575 rfl (lv_at hl 2 rfl) ?_
                                              refine lv_sipush (v := nI 194) hx hb dX11_understand_576 (by decide) ?_
                                              refine lv_icmp_ne (tgt := 588) hx hb dX11_understand_579 (by decide) (fun c_579 => ?_) (fun c_579 => ?_)
                                              · have c_579 : ¬ (F = 194) := fun z => c_579 ((nI_eq (by omega) (by omega)).mpr z)
                                                have hK : rdK sb se = 0 := by rw [hKg, if_neg (fun h9 => by omega), if_neg (fun h9 => by rw [hc0] at h9; omega), if_neg (fun h9 => by omega)]; unfold kdC; rw [if_neg (by omega), if_neg (by omega), if_neg (by omega)]
                                                have f_o : μ1 o = some (hp_o 7 [.int (nI n), .ref (o + 1), .ref (o + 2), .ref (o + 3), .ref (o + 4), .ref (o + 5), .ref (o + 6), .int (nB on), .int (nI tz), .ref (o + 7), .int (nI se), .ref (o + 8), .ref (o + 9), .int (nI (rdK sb se)), .int (nI kl), .int (nI 0), .ref (o + 10), .int (nI sd), .ref (o + 11), .int (nI hd), .ref (o + 12), .int (nI an), .ref (o + 13), .int (nI fm), .int (nI fo), .ref (o + 14), .ref (o + 15), .int (nI kc), .ref (o + 16)]) := by rw [hK]; exact f_o
                                                exact hp_rv hx hb hr hlocks hS hH (⟨rfl, _, _, _, _, f_o, f_9, f_10, fun h9 => h9.elim (fun h9 => absurd (hK.symm.trans h9) (by decide)) (fun h9 => absurd (hK.symm.trans h9) (by decide)), fun h9 => absurd (hK.symm.trans h9) (by decide), fr⟩) dX11_understand_588
                                              · have c_579 : F = 194 := (nI_eq (by omega) (by omega)).mp c_579
                                                refine lv_aload_n hx hb dX11_understand_582 rfl (lv_at hl 0 rfl) ?_
                                                refine lv_bipush (v := nI 7) hx hb dX11_understand_583 (by decide) ?_
                                                refine hp_put hx hb hown hS.2.1 hH (P_X11_98.use hS) f_o rfl rfl (Nat.le_of_ble_eq_true rfl) dX11_understand_585 (fun H locs μ1 fz fn hH => ?_)
                                                have f_8 := (fn _ (by omega)).trans f_8
                                                have f_9 := (fn _ (by omega)).trans f_9
                                                have f_10 := (fn _ (by omega)).trans f_10
                                                have f_o : μ1 o = some (hp_o 7 [.int (nI n), .ref (o + 1), .ref (o + 2), .ref (o + 3), .ref (o + 4), .ref (o + 5), .ref (o + 6), .int (nB on), .int (nI tz), .ref (o + 7), .int (nI se), .ref (o + 8), .ref (o + 9), .int (nI 7), .int (nI kl), .int (nI 0), .ref (o + 10), .int (nI sd), .ref (o + 11), .int (nI hd), .ref (o + 12), .int (nI an), .ref (o + 13), .int (nI fm), .int (nI fo), .ref (o + 14), .ref (o + 15), .int (nI kc), .ref (o + 16)]) := fz
                                                have fr := hp_eqM.put (k := 0) fr (by decide) fn
                                                clear fz fn
                                                have hK : rdK sb se = 7 := by rw [hKg, if_neg (fun h9 => by omega), if_neg (fun h9 => by rw [hc0] at h9; omega), if_neg (fun h9 => by omega)]; unfold kdC; rw [if_neg (by omega), if_neg (by omega), if_pos (by omega)]
                                                have f_o : μ1 o = some (hp_o 7 [.int (nI n), .ref (o + 1), .ref (o + 2), .ref (o + 3), .ref (o + 4), .ref (o + 5), .ref (o + 6), .int (nB on), .int (nI tz), .ref (o + 7), .int (nI se), .ref (o + 8), .ref (o + 9), .int (nI (rdK sb se)), .int (nI kl), .int (nI 0), .ref (o + 10), .int (nI sd), .ref (o + 11), .int (nI hd), .ref (o + 12), .int (nI an), .ref (o + 13), .int (nI fm), .int (nI fo), .ref (o + 14), .ref (o + 15), .int (nI kc), .ref (o + 16)]) := by rw [hK]; exact f_o
                                                exact hp_rv hx hb hr hlocks hS hH (⟨rfl, _, _, _, _, f_o, f_9, f_10, fun h9 => h9.elim (fun h9 => absurd (hK.symm.trans h9) (by decide)) (fun h9 => absurd (hK.symm.trans h9) (by decide)), fun h9 => absurd (hK.symm.trans h9) (by decide), fr⟩) dX11_understand_588
                                          · have c_551 : (se / 9) = 4 := (nI_eq (by omega) (by omega)).mp c_551
                                            refine lv_iload_n hx hb dX11_understand_554 rfl (lv_at hl 2 rfl) ?_
                                            refine lv_sipush (v := nI 224) hx hb dX11_understand_555 (by decide) ?_
                                            refine lv_icmp_ne (tgt := 570) hx hb dX11_understand_558 (by decide) (fun c_558 => ?_) (fun c_558 => ?_)
                                            · have c_558 : ¬ (F = 224) := fun z => c_558 ((nI_eq (by omega) (by omega)).mpr z)
                                              refine lv_iload_n hx hb dX11_understand_570 rfl (lv_at hl 1 rfl) ?_
                                              refine lv_iconst (v := nI 3) hx hb dX11_understand_571 (by decide) ?_
                                              refine lv_icmp_ne (tgt := 588) hx hb dX11_understand_572 (by decide) (fun c_572 => ?_) (fun c_572 => ?_)
                                              · have c_572 : ¬ ((se / 9) = 3) := fun z => c_572 ((nI_eq (by omega) (by omega)).mpr z)
                                                have hK : rdK sb se = 0 := by rw [hKg, if_neg (fun h9 => by omega), if_neg (fun h9 => by rw [hc0] at h9; omega), if_neg (fun h9 => by omega)]; unfold kdC; rw [if_neg (by omega), if_neg (by omega), if_neg (by omega)]
                                                have f_o : μ1 o = some (hp_o 7 [.int (nI n), .ref (o + 1), .ref (o + 2), .ref (o + 3), .ref (o + 4), .ref (o + 5), .ref (o + 6), .int (nB on), .int (nI tz), .ref (o + 7), .int (nI se), .ref (o + 8), .ref (o + 9), .int (nI (rdK sb se)), .int (nI kl), .int (nI 0), .ref (o + 10), .int (nI sd), .ref (o + 11), .int (nI hd), .ref (o + 12), .int (nI an), .ref (o + 13), .int (nI fm), .int (nI fo), .ref (o + 14), .ref (o + 15), .int (nI kc), .ref (o + 16)]) := by rw [hK]; exact f_o
                                                exact hp_rv hx hb hr hlocks hS hH (⟨rfl, _, _, _, _, f_o, f_9, f_10, fun h9 => h9.elim (fun h9 => absurd (hK.symm.trans h9) (by decide)) (fun h9 => absurd (hK.symm.trans h9) (by decide)), fun h9 => absurd (hK.symm.trans h9) (by decide), fr⟩) dX11_understand_588
                                              · have c_572 : (se / 9) = 3 := (nI_eq (by omega) (by omega)).mp c_572
                                                refine lv_iload_n hx hb dX11_understand_575 rfl (lv_at hl 2 rfl) ?_
                                                refine lv_sipush (v := nI 194) hx hb dX11_understand_576 (by decide) ?_
                                                refine lv_icmp_ne (tgt := 588) hx hb dX11_understand_579 (by decide) (fun c_579 => ?_) (fun c_579 => ?_)
                                                · have c_579 : ¬ (F = 194) := fun z => c_579 ((nI_eq (by omega) (by omega)).mpr z)
                                                  have hK : rdK sb se = 0 := by rw [hKg, if_neg (fun h9 => by omega), if_neg (fun h9 => by rw [hc0] at h9; omega), if_neg (fun h9 => by omega)]; unfold kdC; rw [if_neg (by omega), if_neg (by omega), if_neg (by omega)]
                                                  have f_o : μ1 o = some (hp_o 7 [.int (nI n), .ref (o + 1), .ref (o + 2), .ref (o + 3), .ref (o + 4), .ref (o + 5), .ref (o + 6), .int (nB on), .int (nI tz), .ref (o + 7), .int (nI se), .ref (o + 8), .ref (o + 9), .int (nI (rdK sb se)), .int (nI kl), .int (nI 0), .ref (o + 10), .int (nI sd), .ref (o + 11), .int (nI hd), .ref (o + 12), .int (nI an), .ref (o + 13), .int (nI fm), .int (nI fo), .ref (o + 14), .ref (o + 15), .int (nI kc), .ref (o + 16)]) := by rw [hK]; exact f_o
                                                  exact hp_rv hx hb hr hlocks hS hH (⟨rfl, _, _, _, _, f_o, f_9, f_10, fun h9 => h9.elim (fun h9 => absurd (hK.symm.trans h9) (by decide)) (fun h9 => absurd (hK.symm.trans h9) (by decide)), fun h9 => absurd (hK.symm.trans h9) (by decide), fr⟩) dX11_understand_588
                                                · have c_579 : F = 194 := (nI_eq (by omega) (by omega)).mp c_579
                                                  refine lv_aload_n hx hb dX11_understand_582 rfl (lv_at hl 0 rfl) ?_
                                                  refine lv_bipush (v := nI 7) hx hb dX11_understand_583 (by decide) ?_
                                                  refine hp_put hx hb hown hS.2.1 hH (P_X11_98.use hS) f_o rfl rfl (Nat.le_of_ble_eq_true rfl) dX11_understand_585 (fun H locs μ1 fz fn hH => ?_)
                                                  have f_8 := (fn _ (by omega)).trans f_8
                                                  have f_9 := (fn _ (by omega)).trans f_9
                                                  have f_10 := (fn _ (by omega)).trans f_10
                                                  have f_o : μ1 o = some (hp_o 7 [.int (nI n), .ref (o + 1), .ref (o + 2), .ref (o + 3), .ref (o + 4), .ref (o + 5), .ref (o + 6), .int (nB on), .int (nI tz), .ref (o + 7), .int (nI se), .ref (o + 8), .ref (o + 9), .int (nI 7), .int (nI kl), .int (nI 0), .ref (o + 10), .int (nI sd), .ref (o + 11), .int (nI hd), .ref (o + 12), .int (nI an), .ref (o + 13), .int (nI fm), .int (nI fo), .ref (o + 14), .ref (o + 15), .int (nI kc), .ref (o + 16)]) := fz
                                                  have fr := hp_eqM.put (k := 0) fr (by decide) fn
                                                  clear fz fn
                                                  have hK : rdK sb se = 7 := by rw [hKg, if_neg (fun h9 => by omega), if_neg (fun h9 => by rw [hc0] at h9; omega), if_neg (fun h9 => by omega)]; unfold kdC; rw [if_neg (by omega), if_neg (by omega), if_pos (by omega)]
                                                  have f_o : μ1 o = some (hp_o 7 [.int (nI n), .ref (o + 1), .ref (o + 2), .ref (o + 3), .ref (o + 4), .ref (o + 5), .ref (o + 6), .int (nB on), .int (nI tz), .ref (o + 7), .int (nI se), .ref (o + 8), .ref (o + 9), .int (nI (rdK sb se)), .int (nI kl), .int (nI 0), .ref (o + 10), .int (nI sd), .ref (o + 11), .int (nI hd), .ref (o + 12), .int (nI an), .ref (o + 13), .int (nI fm), .int (nI fo), .ref (o + 14), .ref (o + 15), .int (nI kc), .ref (o + 16)]) := by rw [hK]; exact f_o
                                                  exact hp_rv hx hb hr hlocks hS hH (⟨rfl, _, _, _, _, f_o, f_9, f_10, fun h9 => h9.elim (fun h9 => absurd (hK.symm.trans h9) (by decide)) (fun h9 => absurd (hK.symm.trans h9) (by decide)), fun h9 => absurd (hK.symm.trans h9) (by decide), fr⟩) dX11_understand_588
                                            · have c_558 : F = 224 := (nI_eq (by omega) (by omega)).mp c_558
                                              refine lv_aload_n hx hb dX11_understand_561 rfl (lv_at hl 0 rfl) ?_
                                              refine lv_bipush (v := nI 6) hx hb dX11_understand_562 (by decide) ?_
                                              refine hp_put hx hb hown hS.2.1 hH (P_X11_98.use hS) f_o rfl rfl (Nat.le_of_ble_eq_true rfl) dX11_understand_564 (fun H locs μ1 fz fn hH => ?_)
                                              have f_8 := (fn _ (by omega)).trans f_8
                                              have f_9 := (fn _ (by omega)).trans f_9
                                              have f_10 := (fn _ (by omega)).trans f_10
                                              have f_o : μ1 o = some (hp_o 7 [.int (nI n), .ref (o + 1), .ref (o + 2), .ref (o + 3), .ref (o + 4), .ref (o + 5), .ref (o + 6), .int (nB on), .int (nI tz), .ref (o + 7), .int (nI se), .ref (o + 8), .ref (o + 9), .int (nI 6), .int (nI kl), .int (nI 0), .ref (o + 10), .int (nI sd), .ref (o + 11), .int (nI hd), .ref (o + 12), .int (nI an), .ref (o + 13), .int (nI fm), .int (nI fo), .ref (o + 14), .ref (o + 15), .int (nI kc), .ref (o + 16)]) := fz
                                              have fr := hp_eqM.put (k := 0) fr (by decide) fn
                                              clear fz fn
                                              refine lv_goto (tgt := 588) hx hb dX11_understand_567 (by decide) ?_
                                              have hK : rdK sb se = 6 := by rw [hKg, if_neg (fun h9 => by omega), if_neg (fun h9 => by rw [hc0] at h9; omega), if_neg (fun h9 => by omega)]; unfold kdC; rw [if_neg (by omega), if_pos (by omega)]
                                              have f_o : μ1 o = some (hp_o 7 [.int (nI n), .ref (o + 1), .ref (o + 2), .ref (o + 3), .ref (o + 4), .ref (o + 5), .ref (o + 6), .int (nB on), .int (nI tz), .ref (o + 7), .int (nI se), .ref (o + 8), .ref (o + 9), .int (nI (rdK sb se)), .int (nI kl), .int (nI 0), .ref (o + 10), .int (nI sd), .ref (o + 11), .int (nI hd), .ref (o + 12), .int (nI an), .ref (o + 13), .int (nI fm), .int (nI fo), .ref (o + 14), .ref (o + 15), .int (nI kc), .ref (o + 16)]) := by rw [hK]; exact f_o
                                              exact hp_rv hx hb hr hlocks hS hH (⟨rfl, _, _, _, _, f_o, f_9, f_10, fun h9 => h9.elim (fun h9 => absurd (hK.symm.trans h9) (by decide)) (fun h9 => absurd (hK.symm.trans h9) (by decide)), fun _ => by rw [valN_va 8 (by omega), ← hS2]; exact hS0, fr⟩) dX11_understand_588
                                        · have c_529 : F = 80 := (nI_eq (by omega) (by omega)).mp c_529
                                          refine lv_aload_n hx hb dX11_understand_532 rfl (lv_at hl 0 rfl) ?_
                                          refine hp_get hx hb hown hS.2.1 hH (F_X11_39.use hS) f_o rfl dX11_understand_533 ?_
                                          refine lv_iconst (v := nI 1) hx hb dX11_understand_536 (by decide) ?_
                                          refine hp_ialdI hx hb hS.ai hH f_9 (by omega) (by omega) dX11_understand_537 ?_
                                          refine hp_eqi (z := nI S2) (hS0) ?_
                                          refine lv_if_ne (tgt := 549) hx hb dX11_understand_538 (by decide) (fun c_538 => ?_) (fun c_538 => ?_)
                                          · have c_538 : ¬ (S2 = 0) := nz_n (by omega) c_538
                                            refine lv_iload_n hx hb dX11_understand_549 rfl (lv_at hl 1 rfl) ?_
                                            refine lv_iconst (v := nI 4) hx hb dX11_understand_550 (by decide) ?_
                                            refine lv_icmp_ne (tgt := 570) hx hb dX11_understand_551 (by decide) (fun c_551 => ?_) (fun c_551 => ?_)
                                            · have c_551 : ¬ ((se / 9) = 4) := fun z => c_551 ((nI_eq (by omega) (by omega)).mpr z)
                                              refine lv_iload_n hx hb dX11_understand_570 rfl (lv_at hl 1 rfl) ?_
                                              refine lv_iconst (v := nI 3) hx hb dX11_understand_571 (by decide) ?_
                                              refine lv_icmp_ne (tgt := 588) hx hb dX11_understand_572 (by decide) (fun c_572 => ?_) (fun c_572 => ?_)
                                              · have c_572 : ¬ ((se / 9) = 3) := fun z => c_572 ((nI_eq (by omega) (by omega)).mpr z)
                                                have hK : rdK sb se = 0 := by rw [hKg, if_neg (fun h9 => by omega), if_neg (fun h9 => by rw [hc0] at h9; omega), if_neg (fun h9 => by omega)]; unfold kdC; rw [if_neg (by omega), if_neg (by omega), if_neg (by omega)]
                                                have f_o : μ1 o = some (hp_o 7 [.int (nI n), .ref (o + 1), .ref (o + 2), .ref (o + 3), .ref (o + 4), .ref (o + 5), .ref (o + 6), .int (nB on), .int (nI tz), .ref (o + 7), .int (nI se), .ref (o + 8), .ref (o + 9), .int (nI (rdK sb se)), .int (nI kl), .int (nI 0), .ref (o + 10), .int (nI sd), .ref (o + 11), .int (nI hd), .ref (o + 12), .int (nI an), .ref (o + 13), .int (nI fm), .int (nI fo), .ref (o + 14), .ref (o + 15), .int (nI kc), .ref (o + 16)]) := by rw [hK]; exact f_o
                                                exact hp_rv hx hb hr hlocks hS hH (⟨rfl, _, _, _, _, f_o, f_9, f_10, fun h9 => h9.elim (fun h9 => absurd (hK.symm.trans h9) (by decide)) (fun h9 => absurd (hK.symm.trans h9) (by decide)), fun h9 => absurd (hK.symm.trans h9) (by decide), fr⟩) dX11_understand_588
                                              · have c_572 : (se / 9) = 3 := (nI_eq (by omega) (by omega)).mp c_572
                                                refine lv_iload_n hx hb dX11_understand_575 rfl (lv_at hl 2 rfl) ?_
                                                refine lv_sipush (v := nI 194) hx hb dX11_understand_576 (by decide) ?_
                                                refine lv_icmp_ne (tgt := 588) hx hb dX11_understand_579 (by decide) (fun c_579 => ?_) (fun c_579 => ?_)
                                                · have c_579 : ¬ (F = 194) := fun z => c_579 ((nI_eq (by omega) (by omega)).mpr z)
                                                  have hK : rdK sb se = 0 := by rw [hKg, if_neg (fun h9 => by omega), if_neg (fun h9 => by rw [hc0] at h9; omega), if_neg (fun h9 => by omega)]; unfold kdC; rw [if_neg (by omega), if_neg (by omega), if_neg (by omega)]
                                                  have f_o : μ1 o = some (hp_o 7 [.int (nI n), .ref (o + 1), .ref (o + 2), .ref (o + 3), .ref (o + 4), .ref (o + 5), .ref (o + 6), .int (nB on), .int (nI tz), .ref (o + 7), .int (nI se), .ref (o + 8), .ref (o + 9), .int (nI (rdK sb se)), .int (nI kl), .int (nI 0), .ref (o + 10), .int (nI sd), .ref (o + 11), .int (nI hd), .ref (o + 12), .int (nI an), .ref (o + 13), .int (nI fm), .int (nI fo), .ref (o + 14), .ref (o + 15), .int (nI kc), .ref (o + 16)]) := by rw [hK]; exact f_o
                                                  exact hp_rv hx hb hr hlocks hS hH (⟨rfl, _, _, _, _, f_o, f_9, f_10, fun h9 => h9.elim (fun h9 => absurd (hK.symm.trans h9) (by decide)) (fun h9 => absurd (hK.symm.trans h9) (by decide)), fun h9 => absurd (hK.symm.trans h9) (by decide), fr⟩) dX11_understand_588
                                                · have c_579 : F = 194 := (nI_eq (by omega) (by omega)).mp c_579
                                                  refine lv_aload_n hx hb dX11_understand_582 rfl (lv_at hl 0 rfl) ?_
                                                  refine lv_bipush (v := nI 7) hx hb dX11_understand_583 (by decide) ?_
                                                  refine hp_put hx hb hown hS.2.1 hH (P_X11_98.use hS) f_o rfl rfl (Nat.le_of_ble_eq_true rfl) dX11_understand_585 (fun H locs μ1 fz fn hH => ?_)
                                                  have f_8 := (fn _ (by omega)).trans f_8
                                                  have f_9 := (fn _ (by omega)).trans f_9
                                                  have f_10 := (fn _ (by omega)).trans f_10
                                                  have f_o : μ1 o = some (hp_o 7 [.int (nI n), .ref (o + 1), .ref (o + 2), .ref (o + 3), .ref (o + 4), .ref (o + 5), .ref (o + 6), .int (nB on), .int (nI tz), .ref (o + 7), .int (nI se), .ref (o + 8), .ref (o + 9), .int (nI 7), .int (nI kl), .int (nI 0), .ref (o + 10), .int (nI sd), .ref (o + 11), .int (nI hd), .ref (o + 12), .int (nI an), .ref (o + 13), .int (nI fm), .int (nI fo), .ref (o + 14), .ref (o + 15), .int (nI kc), .ref (o + 16)]) := fz
                                                  have fr := hp_eqM.put (k := 0) fr (by decide) fn
                                                  clear fz fn
                                                  have hK : rdK sb se = 7 := by rw [hKg, if_neg (fun h9 => by omega), if_neg (fun h9 => by rw [hc0] at h9; omega), if_neg (fun h9 => by omega)]; unfold kdC; rw [if_neg (by omega), if_neg (by omega), if_pos (by omega)]
                                                  have f_o : μ1 o = some (hp_o 7 [.int (nI n), .ref (o + 1), .ref (o + 2), .ref (o + 3), .ref (o + 4), .ref (o + 5), .ref (o + 6), .int (nB on), .int (nI tz), .ref (o + 7), .int (nI se), .ref (o + 8), .ref (o + 9), .int (nI (rdK sb se)), .int (nI kl), .int (nI 0), .ref (o + 10), .int (nI sd), .ref (o + 11), .int (nI hd), .ref (o + 12), .int (nI an), .ref (o + 13), .int (nI fm), .int (nI fo), .ref (o + 14), .ref (o + 15), .int (nI kc), .ref (o + 16)]) := by rw [hK]; exact f_o
                                                  exact hp_rv hx hb hr hlocks hS hH (⟨rfl, _, _, _, _, f_o, f_9, f_10, fun h9 => h9.elim (fun h9 => absurd (hK.symm.trans h9) (by decide)) (fun h9 => absurd (hK.symm.trans h9) (by decide)), fun h9 => absurd (hK.symm.trans h9) (by decide), fr⟩) dX11_understand_588
                                            · have c_551 : (se / 9) = 4 := (nI_eq (by omega) (by omega)).mp c_551
                                              refine lv_iload_n hx hb dX11_understand_554 rfl (lv_at hl 2 rfl) ?_
                                              refine lv_sipush (v := nI 224) hx hb dX11_understand_555 (by decide) ?_
                                              refine lv_icmp_ne (tgt := 570) hx hb dX11_understand_558 (by decide) (fun c_558 => ?_) (fun c_558 => ?_)
                                              · have c_558 : ¬ (F = 224) := fun z => c_558 ((nI_eq (by omega) (by omega)).mpr z)
                                                refine lv_iload_n hx hb dX11_understand_570 rfl (lv_at hl 1 rfl) ?_
                                                refine lv_iconst (v := nI 3) hx hb dX11_understand_571 (by decide) ?_
                                                refine lv_icmp_ne (tgt := 588) hx hb dX11_understand_572 (by decide) (fun c_572 => ?_) (fun c_572 => ?_)
                                                · have c_572 : ¬ ((se / 9) = 3) := fun z => c_572 ((nI_eq (by omega) (by omega)).mpr z)
                                                  have hK : rdK sb se = 0 := by rw [hKg, if_neg (fun h9 => by omega), if_neg (fun h9 => by rw [hc0] at h9; omega), if_neg (fun h9 => by omega)]; unfold kdC; rw [if_neg (by omega), if_neg (by omega), if_neg (by omega)]
                                                  have f_o : μ1 o = some (hp_o 7 [.int (nI n), .ref (o + 1), .ref (o + 2), .ref (o + 3), .ref (o + 4), .ref (o + 5), .ref (o + 6), .int (nB on), .int (nI tz), .ref (o + 7), .int (nI se), .ref (o + 8), .ref (o + 9), .int (nI (rdK sb se)), .int (nI kl), .int (nI 0), .ref (o + 10), .int (nI sd), .ref (o + 11), .int (nI hd), .ref (o + 12), .int (nI an), .ref (o + 13), .int (nI fm), .int (nI fo), .ref (o + 14), .ref (o + 15), .int (nI kc), .ref (o + 16)]) := by rw [hK]; exact f_o
                                                  exact hp_rv hx hb hr hlocks hS hH (⟨rfl, _, _, _, _, f_o, f_9, f_10, fun h9 => h9.elim (fun h9 => absurd (hK.symm.trans h9) (by decide)) (fun h9 => absurd (hK.symm.trans h9) (by decide)), fun h9 => absurd (hK.symm.trans h9) (by decide), fr⟩) dX11_understand_588
                                                · have c_572 : (se / 9) = 3 := (nI_eq (by omega) (by omega)).mp c_572
                                                  refine lv_iload_n hx hb dX11_understand_575 rfl (lv_at hl 2 rfl) ?_
                                                  refine lv_sipush (v := nI 194) hx hb dX11_understand_576 (by decide) ?_
                                                  refine lv_icmp_ne (tgt := 588) hx hb dX11_understand_579 (by decide) (fun c_579 => ?_) (fun c_579 => ?_)
                                                  · have c_579 : ¬ (F = 194) := fun z => c_579 ((nI_eq (by omega) (by omega)).mpr z)
                                                    have hK : rdK sb se = 0 := by rw [hKg, if_neg (fun h9 => by omega), if_neg (fun h9 => by rw [hc0] at h9; omega), if_neg (fun h9 => by omega)]; unfold kdC; rw [if_neg (by omega), if_neg (by omega), if_neg (by omega)]
                                                    have f_o : μ1 o = some (hp_o 7 [.int (nI n), .ref (o + 1), .ref (o + 2), .ref (o + 3), .ref (o + 4), .ref (o + 5), .ref (o + 6), .int (nB on), .int (nI tz), .ref (o + 7), .int (nI se), .ref (o + 8), .ref (o + 9), .int (nI (rdK sb se)), .int (nI kl), .int (nI 0), .ref (o + 10), .int (nI sd), .ref (o + 11), .int (nI hd), .ref (o + 12), .int (nI an), .ref (o + 13), .int (nI fm), .int (nI fo), .ref (o + 14), .ref (o + 15), .int (nI kc), .ref (o + 16)]) := by rw [hK]; exact f_o
                                                    exact hp_rv hx hb hr hlocks hS hH (⟨rfl, _, _, _, _, f_o, f_9, f_10, fun h9 => h9.elim (fun h9 => absurd (hK.symm.trans h9) (by decide)) (fun h9 => absurd (hK.symm.trans h9) (by decide)), fun h9 => absurd (hK.symm.trans h9) (by decide), fr⟩) dX11_understand_588
                                                  · have c_579 : F = 194 := (nI_eq (by omega) (by omega)).mp c_579
                                                    refine lv_aload_n hx hb dX11_understand_582 rfl (lv_at hl 0 rfl) ?_
                                                    refine lv_bipush (v := nI 7) hx hb dX11_understand_583 (by decide) ?_
                                                    refine hp_put hx hb hown hS.2.1 hH (P_X11_98.use hS) f_o rfl rfl (Nat.le_of_ble_eq_true rfl) dX11_understand_585 (fun H locs μ1 fz fn hH => ?_)
                                                    have f_8 := (fn _ (by omega)).trans f_8
                                                    have f_9 := (fn _ (by omega)).trans f_9
                                                    have f_10 := (fn _ (by omega)).trans f_10
                                                    have f_o : μ1 o = some (hp_o 7 [.int (nI n), .ref (o + 1), .ref (o + 2), .ref (o + 3), .ref (o + 4), .ref (o + 5), .ref (o + 6), .int (nB on), .int (nI tz), .ref (o + 7), .int (nI se), .ref (o + 8), .ref (o + 9), .int (nI 7), .int (nI kl), .int (nI 0), .ref (o + 10), .int (nI sd), .ref (o + 11), .int (nI hd), .ref (o + 12), .int (nI an), .ref (o + 13), .int (nI fm), .int (nI fo), .ref (o + 14), .ref (o + 15), .int (nI kc), .ref (o + 16)]) := fz
                                                    have fr := hp_eqM.put (k := 0) fr (by decide) fn
                                                    clear fz fn
                                                    have hK : rdK sb se = 7 := by rw [hKg, if_neg (fun h9 => by omega), if_neg (fun h9 => by rw [hc0] at h9; omega), if_neg (fun h9 => by omega)]; unfold kdC; rw [if_neg (by omega), if_neg (by omega), if_pos (by omega)]
                                                    have f_o : μ1 o = some (hp_o 7 [.int (nI n), .ref (o + 1), .ref (o + 2), .ref (o + 3), .ref (o + 4), .ref (o + 5), .ref (o + 6), .int (nB on), .int (nI tz), .ref (o + 7), .int (nI se), .ref (o + 8), .ref (o + 9), .int (nI (rdK sb se)), .int (nI kl), .int (nI 0), .ref (o + 10), .int (nI sd), .ref (o + 11), .int (nI hd), .ref (o + 12), .int (nI an), .ref (o + 13), .int (nI fm), .int (nI fo), .ref (o + 14), .ref (o + 15), .int (nI kc), .ref (o + 16)]) := by rw [hK]; exact f_o
                                                    exact hp_rv hx hb hr hlocks hS hH (⟨rfl, _, _, _, _, f_o, f_9, f_10, fun h9 => h9.elim (fun h9 => absurd (hK.symm.trans h9) (by decide)) (fun h9 => absurd (hK.symm.trans h9) (by decide)), fun h9 => absurd (hK.symm.trans h9) (by decide), fr⟩) dX11_understand_588
                                              · have c_558 : F = 224 := (nI_eq (by omega) (by omega)).mp c_558
                                                refine lv_aload_n hx hb dX11_understand_561 rfl (lv_at hl 0 rfl) ?_
                                                refine lv_bipush (v := nI 6) hx hb dX11_understand_562 (by decide) ?_
                                                refine hp_put hx hb hown hS.2.1 hH (P_X11_98.use hS) f_o rfl rfl (Nat.le_of_ble_eq_true rfl) dX11_understand_564 (fun H locs μ1 fz fn hH => ?_)
                                                have f_8 := (fn _ (by omega)).trans f_8
                                                have f_9 := (fn _ (by omega)).trans f_9
                                                have f_10 := (fn _ (by omega)).trans f_10
                                                have f_o : μ1 o = some (hp_o 7 [.int (nI n), .ref (o + 1), .ref (o + 2), .ref (o + 3), .ref (o + 4), .ref (o + 5), .ref (o + 6), .int (nB on), .int (nI tz), .ref (o + 7), .int (nI se), .ref (o + 8), .ref (o + 9), .int (nI 6), .int (nI kl), .int (nI 0), .ref (o + 10), .int (nI sd), .ref (o + 11), .int (nI hd), .ref (o + 12), .int (nI an), .ref (o + 13), .int (nI fm), .int (nI fo), .ref (o + 14), .ref (o + 15), .int (nI kc), .ref (o + 16)]) := fz
                                                have fr := hp_eqM.put (k := 0) fr (by decide) fn
                                                clear fz fn
                                                refine lv_goto (tgt := 588) hx hb dX11_understand_567 (by decide) ?_
                                                have hK : rdK sb se = 6 := by rw [hKg, if_neg (fun h9 => by omega), if_neg (fun h9 => by rw [hc0] at h9; omega), if_neg (fun h9 => by omega)]; unfold kdC; rw [if_neg (by omega), if_pos (by omega)]
                                                have f_o : μ1 o = some (hp_o 7 [.int (nI n), .ref (o + 1), .ref (o + 2), .ref (o + 3), .ref (o + 4), .ref (o + 5), .ref (o + 6), .int (nB on), .int (nI tz), .ref (o + 7), .int (nI se), .ref (o + 8), .ref (o + 9), .int (nI (rdK sb se)), .int (nI kl), .int (nI 0), .ref (o + 10), .int (nI sd), .ref (o + 11), .int (nI hd), .ref (o + 12), .int (nI an), .ref (o + 13), .int (nI fm), .int (nI fo), .ref (o + 14), .ref (o + 15), .int (nI kc), .ref (o + 16)]) := by rw [hK]; exact f_o
                                                exact hp_rv hx hb hr hlocks hS hH (⟨rfl, _, _, _, _, f_o, f_9, f_10, fun h9 => h9.elim (fun h9 => absurd (hK.symm.trans h9) (by decide)) (fun h9 => absurd (hK.symm.trans h9) (by decide)), fun _ => by rw [valN_va 8 (by omega), ← hS2]; exact hS0, fr⟩) dX11_understand_588
                                          · have c_538 : S2 = 0 := nz_0 (by omega) c_538
                                            refine lv_aload_n hx hb dX11_understand_541 rfl (lv_at hl 0 rfl) ?_
                                            refine lv_iconst (v := nI 5) hx hb dX11_understand_542 (by decide) ?_
                                            refine hp_put hx hb hown hS.2.1 hH (P_X11_98.use hS) f_o rfl rfl (Nat.le_of_ble_eq_true rfl) dX11_understand_543 (fun H locs μ1 fz fn hH => ?_)
                                            have f_8 := (fn _ (by omega)).trans f_8
                                            have f_9 := (fn _ (by omega)).trans f_9
                                            have f_10 := (fn _ (by omega)).trans f_10
                                            have f_o : μ1 o = some (hp_o 7 [.int (nI n), .ref (o + 1), .ref (o + 2), .ref (o + 3), .ref (o + 4), .ref (o + 5), .ref (o + 6), .int (nB on), .int (nI tz), .ref (o + 7), .int (nI se), .ref (o + 8), .ref (o + 9), .int (nI 5), .int (nI kl), .int (nI 0), .ref (o + 10), .int (nI sd), .ref (o + 11), .int (nI hd), .ref (o + 12), .int (nI an), .ref (o + 13), .int (nI fm), .int (nI fo), .ref (o + 14), .ref (o + 15), .int (nI kc), .ref (o + 16)]) := fz
                                            have fr := hp_eqM.put (k := 0) fr (by decide) fn
                                            clear fz fn
                                            refine lv_goto (tgt := 588) hx hb dX11_understand_546 (by decide) ?_
                                            have hK : rdK sb se = 5 := by rw [hKg, if_neg (fun h9 => by omega), if_neg (fun h9 => by rw [hc0] at h9; omega), if_neg (fun h9 => by omega)]; unfold kdC; rw [if_pos (by omega)]
                                            have f_o : μ1 o = some (hp_o 7 [.int (nI n), .ref (o + 1), .ref (o + 2), .ref (o + 3), .ref (o + 4), .ref (o + 5), .ref (o + 6), .int (nB on), .int (nI tz), .ref (o + 7), .int (nI se), .ref (o + 8), .ref (o + 9), .int (nI (rdK sb se)), .int (nI kl), .int (nI 0), .ref (o + 10), .int (nI sd), .ref (o + 11), .int (nI hd), .ref (o + 12), .int (nI an), .ref (o + 13), .int (nI fm), .int (nI fo), .ref (o + 14), .ref (o + 15), .int (nI kc), .ref (o + 16)]) := by rw [hK]; exact f_o
                                            exact hp_rv hx hb hr hlocks hS hH (⟨rfl, _, _, _, _, f_o, f_9, f_10, fun h9 => h9.elim (fun h9 => absurd (hK.symm.trans h9) (by decide)) (fun h9 => absurd (hK.symm.trans h9) (by decide)), fun h9 => absurd (hK.symm.trans h9) (by decide), fr⟩) dX11_understand_588
                                    · have c_450 : (se / 9) = 9 := (nI_eq (by omega) (by omega)).mp c_450
                                      refine lv_aload_n hx hb dX11_understand_453 rfl (lv_at hl 0 rfl) ?_
                                      refine lv_iconst (v := nI 4) hx hb dX11_understand_454 (by decide) ?_
                                      refine hp_put hx hb hown hS.2.1 hH (P_X11_98.use hS) f_o rfl rfl (Nat.le_of_ble_eq_true rfl) dX11_understand_455 (fun H locs μ1 fz fn hH => ?_)
                                      have f_8 := (fn _ (by omega)).trans f_8
                                      have f_9 := (fn _ (by omega)).trans f_9
                                      have f_10 := (fn _ (by omega)).trans f_10
                                      have f_o : μ1 o = some (hp_o 7 [.int (nI n), .ref (o + 1), .ref (o + 2), .ref (o + 3), .ref (o + 4), .ref (o + 5), .ref (o + 6), .int (nB on), .int (nI tz), .ref (o + 7), .int (nI se), .ref (o + 8), .ref (o + 9), .int (nI 4), .int (nI kl), .int (nI 0), .ref (o + 10), .int (nI sd), .ref (o + 11), .int (nI hd), .ref (o + 12), .int (nI an), .ref (o + 13), .int (nI fm), .int (nI fo), .ref (o + 14), .ref (o + 15), .int (nI kc), .ref (o + 16)]) := fz
                                      have fr := hp_eqM.put (k := 0) fr (by decide) fn
                                      clear fz fn
                                      refine lv_aload_n hx hb dX11_understand_458 rfl (lv_at hl 0 rfl) ?_
                                      refine lv_iload_n hx hb dX11_understand_459 rfl (lv_at hl 2 rfl) ?_
                                      refine lv_sipush (v := nI 145) hx hb dX11_understand_460 (by decide) ?_
                                      refine lv_isub hx hb dX11_understand_463 ?_
                                      refine hp_eqi (z := nI (F - 145)) (pk_sub (by omega)) ?_
                                      refine lv_iconst (v := nI 2) hx hb dX11_understand_464 (by decide) ?_
                                      refine lv_idiv hx hb dX11_understand_465 (nI_ne0 (by omega) (by omega)) ?_
                                      refine hp_eqi (z := nI ((F - 145) / 2)) (pk_div (by omega) (by omega) (by omega)) ?_
                                      refine hp_put hx hb hown hS.2.1 hH (P_X11_107.use hS) f_o rfl rfl (Nat.le_of_ble_eq_true rfl) dX11_understand_466 (fun H locs μ1 fz fn hH => ?_)
                                      have f_8 := (fn _ (by omega)).trans f_8
                                      have f_9 := (fn _ (by omega)).trans f_9
                                      have f_10 := (fn _ (by omega)).trans f_10
                                      have f_o : μ1 o = some (hp_o 7 [.int (nI n), .ref (o + 1), .ref (o + 2), .ref (o + 3), .ref (o + 4), .ref (o + 5), .ref (o + 6), .int (nB on), .int (nI tz), .ref (o + 7), .int (nI se), .ref (o + 8), .ref (o + 9), .int (nI 4), .int (nI ((F - 145) / 2)), .int (nI 0), .ref (o + 10), .int (nI sd), .ref (o + 11), .int (nI hd), .ref (o + 12), .int (nI an), .ref (o + 13), .int (nI fm), .int (nI fo), .ref (o + 14), .ref (o + 15), .int (nI kc), .ref (o + 16)]) := fz
                                      have fr := hp_eqM.put (k := 0) fr (by decide) fn
                                      clear fz fn
                                      refine lv_iconst (v := nI 0) hx hb dX11_understand_469 (by decide) ?_
                                      refine lv_istore (lv' := [(5, .int (nI 0)), (0, .ref o), (1, .int (nI (se / 9))), (2, .int (nI F)), (3, .int (nI 1)), (4, .int (nI (crcN sb se (se / 9 - 2))))]) hx hb dX11_understand_470 hl (by decide) rfl (fun ls hl => ?_)
                                      have lp_472 : ∀ (kk472 : Nat) (k : Nat) (D1 : Nat → Nat), (k ≤ 40) → (∀ j, j < k → D1 j = tdN sb se 5 0 / 2 ^ j % 2) → (40 - k) < kk472 → ∀ (μ1 : hp_M) (H : Heap) (locs : List Loc) (ls : Array Slot), (μ1 o = some (hp_o 7 [.int (nI n), .ref (o + 1), .ref (o + 2), .ref (o + 3), .ref (o + 4), .ref (o + 5), .ref (o + 6), .int (nB on), .int (nI tz), .ref (o + 7), .int (nI se), .ref (o + 8), .ref (o + 9), .int (nI 4), .int (nI ((F - 145) / 2)), .int (nI 0), .ref (o + 10), .int (nI sd), .ref (o + 11), .int (nI hd), .ref (o + 12), .int (nI an), .ref (o + 13), .int (nI fm), .int (nI fo), .ref (o + 14), .ref (o + 15), .int (nI kc), .ref (o + 16)])) → (μ1 (o + 8) = some (hp_n X 160 sb)) → (μ1 (o + 9) = some (hp_i X 18 f1)) → (μ1 (o + 10) = some (hp_n X 48 D1)) → hp_eqM [0, 9, 10] o μ1 μ → hp_w X cls μ1 nx H locs → lv_has ls 7 [(0, .ref o), (1, .int (nI (se / 9))), (2, .int (nI F)), (5, .int (nI k))] → W p l e { frames := 2, cells := 0, slots := 0, locals := 80 } s m [.ref o].toArray below meth c H locs 0 0 (MQ below (hq_v X (po_v nx (fun z => ∃ (kl9 tc9 : Nat) (B9 : Nat → Int32) (D9 : Nat → Nat), z o = some (hp_o 7 [.int (nI n), .ref (o + 1), .ref (o + 2), .ref (o + 3), .ref (o + 4), .ref (o + 5), .ref (o + 6), .int (nB on), .int (nI tz), .ref (o + 7), .int (nI se), .ref (o + 8), .ref (o + 9), .int (nI (rdK sb se)), .int (nI kl9), .int (nI tc9), .ref (o + 10), .int (nI sd), .ref (o + 11), .int (nI hd), .ref (o + 12), .int (nI an), .ref (o + 13), .int (nI fm), .int (nI fo), .ref (o + 14), .ref (o + 15), .int (nI kc), .ref (o + 16)]) ∧ z (o + 9) = some (hp_i X 18 B9) ∧ z (o + 10) = some (hp_n X 48 D9) ∧ (rdK sb se = 3 ∨ rdK sb se = 4 → kl9 = lvOf (valN sb se 0 8) ∧ tc9 = rdC sb se ∧ ∀ k, k < tc9 → D9 k = rdT sb se / 2 ^ k % 2) ∧ (rdK sb se = 6 → B9 1 = nI (valN sb se 9 8)) ∧ hp_eqM [0, 9, 10] o z μ))) [.ref o].toArray s 0 0 (hp_A X)) (F0 m 472 ls []) := by
                                        intro kk472
                                        induction kk472 with
                                        | zero =>
                                          intro k D1 hk hD1 hkk472
                                          exact absurd hkk472 (Nat.not_lt_zero _)
                                        | succ kk472 ih472 =>
                                          intro k D1 hk hD1 hkk472 μ1 H locs ls f_o f_8 f_9 f_10 fr hH hl
                                          refine lv_iload hx hb dX11_understand_472 (lv_at hl 3 rfl) ?_
                                          refine lv_bipush (v := nI 40) hx hb dX11_understand_474 (by decide) ?_
                                          refine lv_icmp_ge (tgt := 512) hx hb dX11_understand_476 (by decide) (fun c_476 => ?_) (fun c_476 => ?_)
                                          · have c_476 : 40 ≤ k := (nI_leI (by omega) (by omega)).mp c_476
                                            refine lv_aload_n hx hb dX11_understand_512 rfl (lv_at hl 0 rfl) ?_
                                            refine lv_bipush (v := nI 40) hx hb dX11_understand_513 (by decide) ?_
                                            refine hp_put hx hb hown hS.2.1 hH (P_X11_101.use hS) f_o rfl rfl (Nat.le_of_ble_eq_true rfl) dX11_understand_515 (fun H locs μ1 fz fn hH => ?_)
                                            have f_8 := (fn _ (by omega)).trans f_8
                                            have f_9 := (fn _ (by omega)).trans f_9
                                            have f_10 := (fn _ (by omega)).trans f_10
                                            have f_o : μ1 o = some (hp_o 7 [.int (nI n), .ref (o + 1), .ref (o + 2), .ref (o + 3), .ref (o + 4), .ref (o + 5), .ref (o + 6), .int (nB on), .int (nI tz), .ref (o + 7), .int (nI se), .ref (o + 8), .ref (o + 9), .int (nI 4), .int (nI ((F - 145) / 2)), .int (nI 40), .ref (o + 10), .int (nI sd), .ref (o + 11), .int (nI hd), .ref (o + 12), .int (nI an), .ref (o + 13), .int (nI fm), .int (nI fo), .ref (o + 14), .ref (o + 15), .int (nI kc), .ref (o + 16)]) := fz
                                            have fr := hp_eqM.put (k := 0) fr (by decide) fn
                                            clear fz fn
                                            refine lv_goto (tgt := 588) hx hb dX11_understand_518 (by decide) ?_
                                            have hK : rdK sb se = 4 := by rw [hKg, if_neg (fun h9 => by omega), if_neg (fun h9 => by rw [hc0] at h9; omega), if_pos ⟨hlv0, by omega, by omega⟩]
                                            have f_o : μ1 o = some (hp_o 7 [.int (nI n), .ref (o + 1), .ref (o + 2), .ref (o + 3), .ref (o + 4), .ref (o + 5), .ref (o + 6), .int (nB on), .int (nI tz), .ref (o + 7), .int (nI se), .ref (o + 8), .ref (o + 9), .int (nI (rdK sb se)), .int (nI ((F - 145) / 2)), .int (nI 40), .ref (o + 10), .int (nI sd), .ref (o + 11), .int (nI hd), .ref (o + 12), .int (nI an), .ref (o + 13), .int (nI fm), .int (nI fo), .ref (o + 14), .ref (o + 15), .int (nI kc), .ref (o + 16)]) := by rw [hK]; exact f_o
                                            have hk49 : k = 40 := by omega
                                            subst hk49
                                            have hT9 : rdT sb se = tdN sb se 5 0 := by unfold rdT; rw [if_neg (by rw [hK]; decide)]
                                            have hC9 : rdC sb se = 40 := by unfold rdC; rw [if_neg (by rw [hK]; decide)]
                                            exact hp_rv hx hb hr hlocks hS hH (⟨rfl, _, _, _, _, f_o, f_9, f_10, (fun _ => ⟨by rw [valN_va 8 (by omega), ← hF]; exact hlv.symm, hC9.symm, fun k9 hk9 => by rw [hT9]; exact hD1 k9 hk9⟩), fun h9 => absurd (hK.symm.trans h9) (by decide), fr⟩) dX11_understand_588
                                          · have c_476 : ¬ (40 ≤ k) := fun z => c_476 ((nI_leI (by omega) (by omega)).mpr z)
                                            refine lv_aload_n hx hb dX11_understand_479 rfl (lv_at hl 0 rfl) ?_
                                            refine hp_get hx hb hown hS.2.1 hH (F_X11_42.use hS) f_o rfl dX11_understand_480 ?_
                                            refine lv_iload hx hb dX11_understand_483 (lv_at hl 3 rfl) ?_
                                            refine lv_aload_n hx hb dX11_understand_485 rfl (lv_at hl 0 rfl) ?_
                                            refine hp_get hx hb hown hS.2.1 hH (F_X11_39.use hS) f_o rfl dX11_understand_486 ?_
                                            refine lv_iconst (v := nI 2) hx hb dX11_understand_489 (by decide) ?_
                                            refine lv_iload hx hb dX11_understand_490 (lv_at hl 3 rfl) ?_
                                            refine lv_bipush (v := nI 8) hx hb dX11_understand_492 (by decide) ?_
                                            refine lv_idiv hx hb dX11_understand_494 (nI_ne0 (by omega) (by omega)) ?_
                                            refine hp_eqi (z := nI (k / 8)) (pk_div (by omega) (by omega) (by omega)) ?_
                                            refine lv_iadd hx hb dX11_understand_495 ?_
                                            refine hp_eqi (z := nI (2 + (k / 8))) (nI_add _ _) ?_
                                            refine hp_ialdI hx hb hS.ai hH f_9 (by omega) (by omega) dX11_understand_496 ?_
                                            refine hp_eqi (z := nI (vaN sb (9 * (2 + k / 8)) 8)) (hB _ (by omega)) ?_
                                            refine lv_iload hx hb dX11_understand_497 (lv_at hl 3 rfl) ?_
                                            refine lv_bipush (v := nI 8) hx hb dX11_understand_499 (by decide) ?_
                                            refine lv_irem hx hb dX11_understand_501 (nI_ne0 (by omega) (by omega)) ?_
                                            refine hp_eqi (z := nI (k % 8)) (pk_rem (by omega) (by omega) (by omega)) ?_
                                            refine lv_ishr hx hb dX11_understand_502 ?_
                                            refine lv_iconst (v := nI 1) hx hb dX11_understand_503 (by decide) ?_
                                            refine lv_iand hx hb dX11_understand_504 ?_
                                            refine hp_eqi (z := nI (vaN sb (9 * (2 + k / 8)) 8 / 2 ^ (k % 8) % 2)) (by rw [z_sbI (by omega), bitI_n (Nat.lt_trans (vaN_lt (n := 8) (fun j _ => h01 _)) (by decide))]) ?_
                                            refine hp_iastN hx hb hS.ai hH f_10 (by omega) (by omega) dX11_understand_505 (fun H locs μ1 fz fn hH => ?_)
                                            have f_o := (fn _ (by omega)).trans f_o
                                            have f_8 := (fn _ (by omega)).trans f_8
                                            have f_9 := (fn _ (by omega)).trans f_9
                                            have f_10 : μ1 (o + 10) = some (hp_n X 48 (setN D1 k (vaN sb (9 * (2 + k / 8)) 8 / 2 ^ (k % 8) % 2))) := fz
                                            have fr := hp_eqM.put (k := 10) fr (by decide) fn
                                            clear fz fn
                                            refine lv_iinc (v := nI (k + 1)) (lv' := [(5, .int (nI (k + 1))), (0, .ref o), (1, .int (nI (se / 9))), (2, .int (nI F))]) hx hb dX11_understand_506 hl (k := 3) rfl (nI_add _ 1) (by decide) rfl (fun ls hl => ?_)
                                            refine lv_goto (tgt := 472) hx hb dX11_understand_509 (by decide) ?_
                                            exact ih472 (k + 1) (setN D1 k (vaN sb (9 * (2 + k / 8)) 8 / 2 ^ (k % 8) % 2)) (by omega) (fun j hj => (Decidable.em (j = k)).elim (fun e9 => by rw [e9, setN_s, tdN_lo h01 (by omega), valN_va 8 (by omega)]) (fun e9 => (setN_o e9).trans (hD1 j (by omega)))) (by omega) _ _ _ _ f_o f_8 f_9 f_10 fr hH (lv_sub hl [1, 2, 3, 0] rfl)
                                      exact lp_472 ((40 - 0) + 1) 0 D (Nat.zero_le _) (fun j hj => absurd hj (Nat.not_lt_zero _)) (Nat.lt_succ_self _) _ _ _ _ f_o f_8 f_9 f_10 fr hH (lv_sub hl [1, 2, 3, 0] rfl)
                                · have c_439 : ¬ ((vaN sb (9 * (se / 9 - 1)) 8) = ((crcN sb se (se / 9 - 2)) / 256)) := fun z => c_439 ((nI_eq (by omega) (by omega)).mpr z)
                                  have hK : rdK sb se = 0 := by rw [hKg, if_neg (fun h9 => by omega), if_pos (Or.inr (fun h9 => by have h8 := hc9.mp h9; omega))]
                                  have f_o : μ1 o = some (hp_o 7 [.int (nI n), .ref (o + 1), .ref (o + 2), .ref (o + 3), .ref (o + 4), .ref (o + 5), .ref (o + 6), .int (nB on), .int (nI tz), .ref (o + 7), .int (nI se), .ref (o + 8), .ref (o + 9), .int (nI (rdK sb se)), .int (nI kl), .int (nI 0), .ref (o + 10), .int (nI sd), .ref (o + 11), .int (nI hd), .ref (o + 12), .int (nI an), .ref (o + 13), .int (nI fm), .int (nI fo), .ref (o + 14), .ref (o + 15), .int (nI kc), .ref (o + 16)]) := by rw [hK]; exact f_o
                                  exact hp_rv hx hb hr hlocks hS hH (⟨rfl, _, _, _, _, f_o, f_9, f_10, fun h9 => h9.elim (fun h9 => absurd (hK.symm.trans h9) (by decide)) (fun h9 => absurd (hK.symm.trans h9) (by decide)), fun h9 => absurd (hK.symm.trans h9) (by decide), fr⟩) dX11_understand_442
                            · have c_385 : ¬ (((se / 9) - 2) ≤ i2) := fun z => c_385 ((nI_leI (by omega) (by omega)).mpr z)
                              refine lv_iload hx hb dX11_understand_388 (lv_at hl 4 rfl) ?_
                              refine lv_aload_n hx hb dX11_understand_390 rfl (lv_at hl 0 rfl) ?_
                              refine hp_get hx hb hown hS.2.1 hH (F_X11_39.use hS) f_o rfl dX11_understand_391 ?_
                              refine lv_iload hx hb dX11_understand_394 (lv_at hl 5 rfl) ?_
                              refine hp_ialdI hx hb hS.ai hH f_9 (by omega) (by omega) dX11_understand_396 ?_
                              refine hp_eqi (z := nI (vaN sb (9 * i2) 8)) (hB _ (by omega)) ?_
                              have hv8 : vaN sb (9 * i2) 8 < 256 := vaN_lt (n := 8) (fun j _ => h01 _)
                              refine hp_kip (hp_runS (As := [.int (nI (crcN sb se i2)), .int (nI (vaN sb (9 * i2) 8))]) (rest := []) hx hb hml hown hS hH (c_X11_checked l X (crcN_lt _ _ _) hv8) M_X11_94 S_X11_checked rfl hl.1 rfl (Nat.le_of_ble_eq_true rfl) dX11_understand_397 ⟨Nat.le_of_ble_eq_true rfl, Nat.le_of_ble_eq_true rfl⟩ ⟨Nat.le_of_ble_eq_true rfl, Nat.le_of_ble_eq_true rfl⟩) hH (fun H locs hH => ?_)
                              refine hp_eqi (z := nI (crcN sb se (i2 + 1))) (by rw [crcN, valN_va 8 (by omega)]) ?_
                              refine lv_istore (lv' := [(4, .int (nI (crcN sb se (i2 + 1)))), (0, .ref o), (1, .int (nI (se / 9))), (2, .int (nI F)), (3, .int (nI 1)), (5, .int (nI i2))]) hx hb dX11_understand_400 hl (by decide) rfl (fun ls hl => ?_)
                              refine lv_iinc (v := nI (i2 + 1)) (lv' := [(5, .int (nI (i2 + 1))), (4, .int (nI (crcN sb se (i2 + 1)))), (0, .ref o), (1, .int (nI (se / 9))), (2, .int (nI F)), (3, .int (nI 1))]) hx hb dX11_understand_402 hl (k := 5) rfl (nI_add _ 1) (by decide) rfl (fun ls hl => ?_)
                              refine lv_goto (tgt := 380) hx hb dX11_understand_405 (by decide) ?_
                              exact ih380 (i2 + 1) (by omega) (by omega) _ _ _  hH (lv_sub hl [2, 3, 4, 5, 1, 0] rfl)
                        exact lp_380 ((se / 9 - 2 - 0) + 1) 0 (Nat.zero_le _) (Nat.lt_succ_self _) _ _ _  hH (lv_sub hl [4, 5, 3, 2, 1, 0] rfl)
                      · have c_368 : ¬ (3 ≤ (se / 9)) := fun z => c_368 ((nI_leI (by omega) (by omega)).mpr z)
                        have hK : rdK sb se = 0 := by rw [hKg, if_neg (fun h9 => by omega)]; split; rfl; rename_i h8; rw [if_neg (fun h9 => by omega)]; unfold kdC; rw [if_neg (by omega), if_neg (by omega), if_neg (by omega)]
                        have f_o : μ1 o = some (hp_o 7 [.int (nI n), .ref (o + 1), .ref (o + 2), .ref (o + 3), .ref (o + 4), .ref (o + 5), .ref (o + 6), .int (nB on), .int (nI tz), .ref (o + 7), .int (nI se), .ref (o + 8), .ref (o + 9), .int (nI (rdK sb se)), .int (nI kl), .int (nI 0), .ref (o + 10), .int (nI sd), .ref (o + 11), .int (nI hd), .ref (o + 12), .int (nI an), .ref (o + 13), .int (nI fm), .int (nI fo), .ref (o + 14), .ref (o + 15), .int (nI kc), .ref (o + 16)]) := by rw [hK]; exact f_o
                        exact hp_rv hx hb hr hlocks hS hH (⟨rfl, _, _, _, _, f_o, f_9, f_10, fun h9 => h9.elim (fun h9 => absurd (hK.symm.trans h9) (by decide)) (fun h9 => absurd (hK.symm.trans h9) (by decide)), fun h9 => absurd (hK.symm.trans h9) (by decide), fr⟩) dX11_understand_371
                  · have c_172 : ¬ (S2 = 112) := fun z => c_172 ((nI_eq (by omega) (by omega)).mpr z)
                    refine lv_aload_n hx hb dX11_understand_175 rfl (lv_at hl 2 rfl) ?_
                    refine hp_get hx hb hown hS.2.1 hH (F_X11_39.use hS) f_o rfl dX11_understand_176 ?_
                    refine lv_iconst (v := nI 1) hx hb dX11_understand_179 (by decide) ?_
                    refine hp_ialdI hx hb hS.ai hH f_9 (by omega) (by omega) dX11_understand_180 ?_
                    refine hp_eqi (z := nI S2) (hS0) ?_
                    refine lv_bipush (v := nI 16) hx hb dX11_understand_181 (by decide) ?_
                    refine lv_idiv hx hb dX11_understand_183 (nI_ne0 (by omega) (by omega)) ?_
                    refine hp_eqi (z := nI (S2 / 16)) (pk_div (by omega) (by omega) (by omega)) ?_
                    refine lv_istore (lv' := [(4, .int (nI (S2 / 16))), (3, .int (nI 1)), (2, .int (nI F)), (0, .ref o), (1, .int (nI (se / 9)))]) hx hb dX11_understand_184 hl (by decide) rfl (fun ls hl => ?_)
                    refine lv_aload_n hx hb dX11_understand_186 rfl (lv_at hl 3 rfl) ?_
                    refine hp_get hx hb hown hS.2.1 hH (F_X11_39.use hS) f_o rfl dX11_understand_187 ?_
                    refine lv_iconst (v := nI 1) hx hb dX11_understand_190 (by decide) ?_
                    refine hp_ialdI hx hb hS.ai hH f_9 (by omega) (by omega) dX11_understand_191 ?_
                    refine hp_eqi (z := nI S2) (hS0) ?_
                    refine lv_bipush (v := nI 16) hx hb dX11_understand_192 (by decide) ?_
                    refine lv_irem hx hb dX11_understand_194 (nI_ne0 (by omega) (by omega)) ?_
                    refine hp_eqi (z := nI (S2 % 16)) (pk_rem (by omega) (by omega) (by omega)) ?_
                    refine lv_istore (lv' := [(5, .int (nI (S2 % 16))), (4, .int (nI (S2 / 16))), (3, .int (nI 1)), (2, .int (nI F)), (0, .ref o), (1, .int (nI (se / 9)))]) hx hb dX11_understand_195 hl (by decide) rfl (fun ls hl => ?_)
                    refine lv_iload hx hb dX11_understand_197 (lv_at hl 1 rfl) ?_
                    refine lv_iconst (v := nI 2) hx hb dX11_understand_199 (by decide) ?_
                    refine lv_icmp_lt (tgt := 232) hx hb dX11_understand_200 (by decide) (fun c_200 => ?_) (fun c_200 => ?_)
                    · have c_200 : (S2 / 16) < 2 := (nI_ltI (by omega) (by omega)).mp c_200
                      have hK : rdK sb se = 0 := by rw [hKg, if_neg (fun h9 => by omega)]; split; rfl; rw [if_neg (fun h9 => by omega)]; unfold kdC; rw [if_neg (by omega), if_neg (by omega), if_neg (by omega)]
                      have f_o : μ1 o = some (hp_o 7 [.int (nI n), .ref (o + 1), .ref (o + 2), .ref (o + 3), .ref (o + 4), .ref (o + 5), .ref (o + 6), .int (nB on), .int (nI tz), .ref (o + 7), .int (nI se), .ref (o + 8), .ref (o + 9), .int (nI (rdK sb se)), .int (nI kl), .int (nI 0), .ref (o + 10), .int (nI sd), .ref (o + 11), .int (nI hd), .ref (o + 12), .int (nI an), .ref (o + 13), .int (nI fm), .int (nI fo), .ref (o + 14), .ref (o + 15), .int (nI kc), .ref (o + 16)]) := by rw [hK]; exact f_o
                      exact hp_rv hx hb hr hlocks hS hH (⟨rfl, _, _, _, _, f_o, f_9, f_10, fun h9 => h9.elim (fun h9 => absurd (hK.symm.trans h9) (by decide)) (fun h9 => absurd (hK.symm.trans h9) (by decide)), fun h9 => absurd (hK.symm.trans h9) (by decide), fr⟩) dX11_understand_232
                    · have c_200 : ¬ ((S2 / 16) < 2) := fun z => c_200 ((nI_ltI (by omega) (by omega)).mpr z)
                      refine lv_iload hx hb dX11_understand_203 (lv_at hl 1 rfl) ?_
                      refine lv_bipush (v := nI 6) hx hb dX11_understand_205 (by decide) ?_
                      refine lv_icmp_gt (tgt := 232) hx hb dX11_understand_207 (by decide) (fun c_207 => ?_) (fun c_207 => ?_)
                      · have c_207 : 6 < (S2 / 16) := (nI_ltI (by omega) (by omega)).mp c_207
                        have hK : rdK sb se = 0 := by rw [hKg, if_neg (fun h9 => by omega)]; split; rfl; rw [if_neg (fun h9 => by omega)]; unfold kdC; rw [if_neg (by omega), if_neg (by omega), if_neg (by omega)]
                        have f_o : μ1 o = some (hp_o 7 [.int (nI n), .ref (o + 1), .ref (o + 2), .ref (o + 3), .ref (o + 4), .ref (o + 5), .ref (o + 6), .int (nB on), .int (nI tz), .ref (o + 7), .int (nI se), .ref (o + 8), .ref (o + 9), .int (nI (rdK sb se)), .int (nI kl), .int (nI 0), .ref (o + 10), .int (nI sd), .ref (o + 11), .int (nI hd), .ref (o + 12), .int (nI an), .ref (o + 13), .int (nI fm), .int (nI fo), .ref (o + 14), .ref (o + 15), .int (nI kc), .ref (o + 16)]) := by rw [hK]; exact f_o
                        exact hp_rv hx hb hr hlocks hS hH (⟨rfl, _, _, _, _, f_o, f_9, f_10, fun h9 => h9.elim (fun h9 => absurd (hK.symm.trans h9) (by decide)) (fun h9 => absurd (hK.symm.trans h9) (by decide)), fun h9 => absurd (hK.symm.trans h9) (by decide), fr⟩) dX11_understand_232
                      · have c_207 : ¬ (6 < (S2 / 16)) := fun z => c_207 ((nI_ltI (by omega) (by omega)).mpr z)
                        refine lv_iload hx hb dX11_understand_210 (lv_at hl 0 rfl) ?_
                        refine lv_bipush (v := nI 7) hx hb dX11_understand_212 (by decide) ?_
                        refine lv_icmp_gt (tgt := 232) hx hb dX11_understand_214 (by decide) (fun c_214 => ?_) (fun c_214 => ?_)
                        · have c_214 : 7 < (S2 % 16) := (nI_ltI (by omega) (by omega)).mp c_214
                          have hK : rdK sb se = 0 := by rw [hKg, if_neg (fun h9 => by omega)]; split; rfl; rw [if_neg (fun h9 => by omega)]; unfold kdC; rw [if_neg (by omega), if_neg (by omega), if_neg (by omega)]
                          have f_o : μ1 o = some (hp_o 7 [.int (nI n), .ref (o + 1), .ref (o + 2), .ref (o + 3), .ref (o + 4), .ref (o + 5), .ref (o + 6), .int (nB on), .int (nI tz), .ref (o + 7), .int (nI se), .ref (o + 8), .ref (o + 9), .int (nI (rdK sb se)), .int (nI kl), .int (nI 0), .ref (o + 10), .int (nI sd), .ref (o + 11), .int (nI hd), .ref (o + 12), .int (nI an), .ref (o + 13), .int (nI fm), .int (nI fo), .ref (o + 14), .ref (o + 15), .int (nI kc), .ref (o + 16)]) := by rw [hK]; exact f_o
                          exact hp_rv hx hb hr hlocks hS hH (⟨rfl, _, _, _, _, f_o, f_9, f_10, fun h9 => h9.elim (fun h9 => absurd (hK.symm.trans h9) (by decide)) (fun h9 => absurd (hK.symm.trans h9) (by decide)), fun h9 => absurd (hK.symm.trans h9) (by decide), fr⟩) dX11_understand_232
                        · have c_214 : ¬ (7 < (S2 % 16)) := fun z => c_214 ((nI_ltI (by omega) (by omega)).mpr z)
                          refine lv_aload_n hx hb dX11_understand_217 rfl (lv_at hl 4 rfl) ?_
                          refine hp_get hx hb hown hS.2.1 hH (F_X11_104.use hS) f_o rfl dX11_understand_218 ?_
                          refine lv_bipush (v := nI 9) hx hb dX11_understand_221 (by decide) ?_
                          refine lv_iload hx hb dX11_understand_223 (lv_at hl 1 rfl) ?_
                          refine lv_imul hx hb dX11_understand_225 ?_
                          refine hp_eqi (z := nI (9 * (S2 / 16))) (pk_mul _ _) ?_
                          refine lv_iload hx hb dX11_understand_226 (lv_at hl 0 rfl) ?_
                          refine lv_iadd hx hb dX11_understand_228 ?_
                          refine hp_eqi (z := nI ((9 * (S2 / 16)) + (S2 % 16))) (nI_add _ _) ?_
                          refine lv_icmp_eq (tgt := 233) hx hb dX11_understand_229 (by decide) (fun c_229 => ?_) (fun c_229 => ?_)
                          · have c_229 : se = ((9 * (S2 / 16)) + (S2 % 16)) := (nI_eq (by omega) (by omega)).mp c_229
                            refine lv_aload_n hx hb dX11_understand_233 rfl (lv_at hl 4 rfl) ?_
                            refine lv_iconst (v := nI 3) hx hb dX11_understand_234 (by decide) ?_
                            refine hp_put hx hb hown hS.2.1 hH (P_X11_98.use hS) f_o rfl rfl (Nat.le_of_ble_eq_true rfl) dX11_understand_235 (fun H locs μ1 fz fn hH => ?_)
                            have f_8 := (fn _ (by omega)).trans f_8
                            have f_9 := (fn _ (by omega)).trans f_9
                            have f_10 := (fn _ (by omega)).trans f_10
                            have f_o : μ1 o = some (hp_o 7 [.int (nI n), .ref (o + 1), .ref (o + 2), .ref (o + 3), .ref (o + 4), .ref (o + 5), .ref (o + 6), .int (nB on), .int (nI tz), .ref (o + 7), .int (nI se), .ref (o + 8), .ref (o + 9), .int (nI 3), .int (nI kl), .int (nI 0), .ref (o + 10), .int (nI sd), .ref (o + 11), .int (nI hd), .ref (o + 12), .int (nI an), .ref (o + 13), .int (nI fm), .int (nI fo), .ref (o + 14), .ref (o + 15), .int (nI kc), .ref (o + 16)]) := fz
                            have fr := hp_eqM.put (k := 0) fr (by decide) fn
                            clear fz fn
                            refine lv_aload_n hx hb dX11_understand_238 rfl (lv_at hl 4 rfl) ?_
                            refine lv_iload_n hx hb dX11_understand_239 rfl (lv_at hl 3 rfl) ?_
                            refine lv_sipush (v := nI 145) hx hb dX11_understand_240 (by decide) ?_
                            refine lv_isub hx hb dX11_understand_243 ?_
                            refine hp_eqi (z := nI (F - 145)) (pk_sub (by omega)) ?_
                            refine lv_iconst (v := nI 2) hx hb dX11_understand_244 (by decide) ?_
                            refine lv_idiv hx hb dX11_understand_245 (nI_ne0 (by omega) (by omega)) ?_
                            refine hp_eqi (z := nI ((F - 145) / 2)) (pk_div (by omega) (by omega) (by omega)) ?_
                            refine hp_put hx hb hown hS.2.1 hH (P_X11_107.use hS) f_o rfl rfl (Nat.le_of_ble_eq_true rfl) dX11_understand_246 (fun H locs μ1 fz fn hH => ?_)
                            have f_8 := (fn _ (by omega)).trans f_8
                            have f_9 := (fn _ (by omega)).trans f_9
                            have f_10 := (fn _ (by omega)).trans f_10
                            have f_o : μ1 o = some (hp_o 7 [.int (nI n), .ref (o + 1), .ref (o + 2), .ref (o + 3), .ref (o + 4), .ref (o + 5), .ref (o + 6), .int (nB on), .int (nI tz), .ref (o + 7), .int (nI se), .ref (o + 8), .ref (o + 9), .int (nI 3), .int (nI ((F - 145) / 2)), .int (nI 0), .ref (o + 10), .int (nI sd), .ref (o + 11), .int (nI hd), .ref (o + 12), .int (nI an), .ref (o + 13), .int (nI fm), .int (nI fo), .ref (o + 14), .ref (o + 15), .int (nI kc), .ref (o + 16)]) := fz
                            have fr := hp_eqM.put (k := 0) fr (by decide) fn
                            clear fz fn
                            refine lv_iconst (v := nI 0) hx hb dX11_understand_249 (by decide) ?_
                            refine lv_istore (lv' := [(6, .int (nI 0)), (5, .int (nI (S2 % 16))), (4, .int (nI (S2 / 16))), (3, .int (nI 1)), (2, .int (nI F)), (0, .ref o), (1, .int (nI (se / 9)))]) hx hb dX11_understand_250 hl (by decide) rfl (fun ls hl => ?_)
                            have lp_252 : ∀ (kk252 : Nat) (k : Nat) (D1 : Nat → Nat), (k ≤ 8 * (S2 / 16 - 2)) → (∀ j, j < k → D1 j = tdN sb se (S2 / 16 - 2) (S2 % 16) / 2 ^ j % 2) → (8 * (S2 / 16 - 2) - k) < kk252 → ∀ (μ1 : hp_M) (H : Heap) (locs : List Loc) (ls : Array Slot), (μ1 o = some (hp_o 7 [.int (nI n), .ref (o + 1), .ref (o + 2), .ref (o + 3), .ref (o + 4), .ref (o + 5), .ref (o + 6), .int (nB on), .int (nI tz), .ref (o + 7), .int (nI se), .ref (o + 8), .ref (o + 9), .int (nI 3), .int (nI ((F - 145) / 2)), .int (nI 0), .ref (o + 10), .int (nI sd), .ref (o + 11), .int (nI hd), .ref (o + 12), .int (nI an), .ref (o + 13), .int (nI fm), .int (nI fo), .ref (o + 14), .ref (o + 15), .int (nI kc), .ref (o + 16)])) → (μ1 (o + 8) = some (hp_n X 160 sb)) → (μ1 (o + 9) = some (hp_i X 18 f1)) → (μ1 (o + 10) = some (hp_n X 48 D1)) → hp_eqM [0, 9, 10] o μ1 μ → hp_w X cls μ1 nx H locs → lv_has ls 7 [(0, .ref o), (1, .int (nI (se / 9))), (2, .int (nI F)), (4, .int (nI (S2 / 16))), (5, .int (nI (S2 % 16))), (6, .int (nI k))] → W p l e { frames := 2, cells := 0, slots := 0, locals := 80 } s m [.ref o].toArray below meth c H locs 0 0 (MQ below (hq_v X (po_v nx (fun z => ∃ (kl9 tc9 : Nat) (B9 : Nat → Int32) (D9 : Nat → Nat), z o = some (hp_o 7 [.int (nI n), .ref (o + 1), .ref (o + 2), .ref (o + 3), .ref (o + 4), .ref (o + 5), .ref (o + 6), .int (nB on), .int (nI tz), .ref (o + 7), .int (nI se), .ref (o + 8), .ref (o + 9), .int (nI (rdK sb se)), .int (nI kl9), .int (nI tc9), .ref (o + 10), .int (nI sd), .ref (o + 11), .int (nI hd), .ref (o + 12), .int (nI an), .ref (o + 13), .int (nI fm), .int (nI fo), .ref (o + 14), .ref (o + 15), .int (nI kc), .ref (o + 16)]) ∧ z (o + 9) = some (hp_i X 18 B9) ∧ z (o + 10) = some (hp_n X 48 D9) ∧ (rdK sb se = 3 ∨ rdK sb se = 4 → kl9 = lvOf (valN sb se 0 8) ∧ tc9 = rdC sb se ∧ ∀ k, k < tc9 → D9 k = rdT sb se / 2 ^ k % 2) ∧ (rdK sb se = 6 → B9 1 = nI (valN sb se 9 8)) ∧ hp_eqM [0, 9, 10] o z μ))) [.ref o].toArray s 0 0 (hp_A X)) (F0 m 252 ls []) := by
                              intro kk252
                              induction kk252 with
                              | zero =>
                                intro k D1 hk hD1 hkk252
                                exact absurd hkk252 (Nat.not_lt_zero _)
                              | succ kk252 ih252 =>
                                intro k D1 hk hD1 hkk252 μ1 H locs ls f_o f_8 f_9 f_10 fr hH hl
                                refine lv_iload hx hb dX11_understand_252 (lv_at hl 5 rfl) ?_
                                refine lv_bipush (v := nI 8) hx hb dX11_understand_254 (by decide) ?_
                                refine lv_iload hx hb dX11_understand_256 (lv_at hl 3 rfl) ?_
                                refine lv_iconst (v := nI 2) hx hb dX11_understand_258 (by decide) ?_
                                refine lv_isub hx hb dX11_understand_259 ?_
                                refine hp_eqi (z := nI ((S2 / 16) - 2)) (pk_sub (by omega)) ?_
                                refine lv_imul hx hb dX11_understand_260 ?_
                                refine hp_eqi (z := nI (8 * ((S2 / 16) - 2))) (pk_mul _ _) ?_
                                refine lv_icmp_ge (tgt := 297) hx hb dX11_understand_261 (by decide) (fun c_261 => ?_) (fun c_261 => ?_)
                                · have c_261 : (8 * ((S2 / 16) - 2)) ≤ k := (nI_leI (by omega) (by omega)).mp c_261
                                  refine lv_iconst (v := nI 0) hx hb dX11_understand_297 (by decide) ?_
                                  refine lv_istore (lv' := [(6, .int (nI 0)), (0, .ref o), (1, .int (nI (se / 9))), (2, .int (nI F)), (4, .int (nI (S2 / 16))), (5, .int (nI (S2 % 16)))]) hx hb dX11_understand_298 hl (by decide) rfl (fun ls hl => ?_)
                                  have ek9 : k = 8 * (S2 / 16 - 2) := by omega
                                  have lp_300 : ∀ (kk300 : Nat) (k2 : Nat) (D2 : Nat → Nat), (k2 ≤ S2 % 16) → (∀ j, j < 8 * (S2 / 16 - 2) + k2 → D2 j = tdN sb se (S2 / 16 - 2) (S2 % 16) / 2 ^ j % 2) → (S2 % 16 - k2) < kk300 → ∀ (μ1 : hp_M) (H : Heap) (locs : List Loc) (ls : Array Slot), (μ1 o = some (hp_o 7 [.int (nI n), .ref (o + 1), .ref (o + 2), .ref (o + 3), .ref (o + 4), .ref (o + 5), .ref (o + 6), .int (nB on), .int (nI tz), .ref (o + 7), .int (nI se), .ref (o + 8), .ref (o + 9), .int (nI 3), .int (nI ((F - 145) / 2)), .int (nI 0), .ref (o + 10), .int (nI sd), .ref (o + 11), .int (nI hd), .ref (o + 12), .int (nI an), .ref (o + 13), .int (nI fm), .int (nI fo), .ref (o + 14), .ref (o + 15), .int (nI kc), .ref (o + 16)])) → (μ1 (o + 8) = some (hp_n X 160 sb)) → (μ1 (o + 9) = some (hp_i X 18 f1)) → (μ1 (o + 10) = some (hp_n X 48 D2)) → hp_eqM [0, 9, 10] o μ1 μ → hp_w X cls μ1 nx H locs → lv_has ls 7 [(0, .ref o), (1, .int (nI (se / 9))), (2, .int (nI F)), (4, .int (nI (S2 / 16))), (5, .int (nI (S2 % 16))), (6, .int (nI k2))] → W p l e { frames := 2, cells := 0, slots := 0, locals := 80 } s m [.ref o].toArray below meth c H locs 0 0 (MQ below (hq_v X (po_v nx (fun z => ∃ (kl9 tc9 : Nat) (B9 : Nat → Int32) (D9 : Nat → Nat), z o = some (hp_o 7 [.int (nI n), .ref (o + 1), .ref (o + 2), .ref (o + 3), .ref (o + 4), .ref (o + 5), .ref (o + 6), .int (nB on), .int (nI tz), .ref (o + 7), .int (nI se), .ref (o + 8), .ref (o + 9), .int (nI (rdK sb se)), .int (nI kl9), .int (nI tc9), .ref (o + 10), .int (nI sd), .ref (o + 11), .int (nI hd), .ref (o + 12), .int (nI an), .ref (o + 13), .int (nI fm), .int (nI fo), .ref (o + 14), .ref (o + 15), .int (nI kc), .ref (o + 16)]) ∧ z (o + 9) = some (hp_i X 18 B9) ∧ z (o + 10) = some (hp_n X 48 D9) ∧ (rdK sb se = 3 ∨ rdK sb se = 4 → kl9 = lvOf (valN sb se 0 8) ∧ tc9 = rdC sb se ∧ ∀ k, k < tc9 → D9 k = rdT sb se / 2 ^ k % 2) ∧ (rdK sb se = 6 → B9 1 = nI (valN sb se 9 8)) ∧ hp_eqM [0, 9, 10] o z μ))) [.ref o].toArray s 0 0 (hp_A X)) (F0 m 300 ls []) := by
                                    intro kk300
                                    induction kk300 with
                                    | zero =>
                                      intro k2 D2 hk2 hD2 hkk300
                                      exact absurd hkk300 (Nat.not_lt_zero _)
                                    | succ kk300 ih300 =>
                                      intro k2 D2 hk2 hD2 hkk300 μ1 H locs ls f_o f_8 f_9 f_10 fr hH hl
                                      refine lv_iload hx hb dX11_understand_300 (lv_at hl 5 rfl) ?_
                                      refine lv_iload hx hb dX11_understand_302 (lv_at hl 4 rfl) ?_
                                      refine lv_icmp_ge (tgt := 341) hx hb dX11_understand_304 (by decide) (fun c_304 => ?_) (fun c_304 => ?_)
                                      · have c_304 : (S2 % 16) ≤ k2 := (nI_leI (by omega) (by omega)).mp c_304
                                        refine lv_aload_n hx hb dX11_understand_341 rfl (lv_at hl 0 rfl) ?_
                                        refine lv_bipush (v := nI 8) hx hb dX11_understand_342 (by decide) ?_
                                        refine lv_iload hx hb dX11_understand_344 (lv_at hl 3 rfl) ?_
                                        refine lv_iconst (v := nI 2) hx hb dX11_understand_346 (by decide) ?_
                                        refine lv_isub hx hb dX11_understand_347 ?_
                                        refine hp_eqi (z := nI ((S2 / 16) - 2)) (pk_sub (by omega)) ?_
                                        refine lv_imul hx hb dX11_understand_348 ?_
                                        refine hp_eqi (z := nI (8 * ((S2 / 16) - 2))) (pk_mul _ _) ?_
                                        refine lv_iload hx hb dX11_understand_349 (lv_at hl 4 rfl) ?_
                                        refine lv_iadd hx hb dX11_understand_351 ?_
                                        refine hp_eqi (z := nI ((8 * ((S2 / 16) - 2)) + (S2 % 16))) (nI_add _ _) ?_
                                        refine hp_put hx hb hown hS.2.1 hH (P_X11_101.use hS) f_o rfl rfl (Nat.le_of_ble_eq_true rfl) dX11_understand_352 (fun H locs μ1 fz fn hH => ?_)
                                        have f_8 := (fn _ (by omega)).trans f_8
                                        have f_9 := (fn _ (by omega)).trans f_9
                                        have f_10 := (fn _ (by omega)).trans f_10
                                        have f_o : μ1 o = some (hp_o 7 [.int (nI n), .ref (o + 1), .ref (o + 2), .ref (o + 3), .ref (o + 4), .ref (o + 5), .ref (o + 6), .int (nB on), .int (nI tz), .ref (o + 7), .int (nI se), .ref (o + 8), .ref (o + 9), .int (nI 3), .int (nI ((F - 145) / 2)), .int (nI ((8 * ((S2 / 16) - 2)) + (S2 % 16))), .ref (o + 10), .int (nI sd), .ref (o + 11), .int (nI hd), .ref (o + 12), .int (nI an), .ref (o + 13), .int (nI fm), .int (nI fo), .ref (o + 14), .ref (o + 15), .int (nI kc), .ref (o + 16)]) := fz
                                        have fr := hp_eqM.put (k := 0) fr (by decide) fn
                                        clear fz fn
                                        have hK : rdK sb se = 3 := by rw [hKg, if_pos ⟨hlv0, by omega, by omega, by omega⟩]
                                        have f_o : μ1 o = some (hp_o 7 [.int (nI n), .ref (o + 1), .ref (o + 2), .ref (o + 3), .ref (o + 4), .ref (o + 5), .ref (o + 6), .int (nB on), .int (nI tz), .ref (o + 7), .int (nI se), .ref (o + 8), .ref (o + 9), .int (nI (rdK sb se)), .int (nI ((F - 145) / 2)), .int (nI ((8 * ((S2 / 16) - 2)) + (S2 % 16))), .ref (o + 10), .int (nI sd), .ref (o + 11), .int (nI hd), .ref (o + 12), .int (nI an), .ref (o + 13), .int (nI fm), .int (nI fo), .ref (o + 14), .ref (o + 15), .int (nI kc), .ref (o + 16)]) := by rw [hK]; exact f_o
                                        have hk29 : k2 = S2 % 16 := by omega
                                        subst hk29
                                        have hT9 : rdT sb se = tdN sb se (S2 / 16 - 2) (S2 % 16) := by unfold rdT; rw [if_pos hK, show se / 9 = S2 / 16 by omega, show se % 9 = S2 % 16 by omega]
                                        have hC9 : rdC sb se = 8 * (S2 / 16 - 2) + S2 % 16 := by unfold rdC; rw [if_pos hK, show se / 9 = S2 / 16 by omega, show se % 9 = S2 % 16 by omega]
                                        exact hp_rv hx hb hr hlocks hS hH (⟨rfl, _, _, _, _, f_o, f_9, f_10, (fun _ => ⟨by rw [valN_va 8 (by omega), ← hF]; exact hlv.symm, hC9.symm, fun k9 hk9 => by rw [hT9]; exact hD2 k9 hk9⟩), fun h9 => absurd (hK.symm.trans h9) (by decide), fr⟩) dX11_understand_355
                                      · have c_304 : ¬ ((S2 % 16) ≤ k2) := fun z => c_304 ((nI_leI (by omega) (by omega)).mpr z)
                                        refine lv_aload_n hx hb dX11_understand_307 rfl (lv_at hl 0 rfl) ?_
                                        refine hp_get hx hb hown hS.2.1 hH (F_X11_42.use hS) f_o rfl dX11_understand_308 ?_
                                        refine lv_bipush (v := nI 8) hx hb dX11_understand_311 (by decide) ?_
                                        refine lv_iload hx hb dX11_understand_313 (lv_at hl 3 rfl) ?_
                                        refine lv_iconst (v := nI 2) hx hb dX11_understand_315 (by decide) ?_
                                        refine lv_isub hx hb dX11_understand_316 ?_
                                        refine hp_eqi (z := nI ((S2 / 16) - 2)) (pk_sub (by omega)) ?_
                                        refine lv_imul hx hb dX11_understand_317 ?_
                                        refine hp_eqi (z := nI (8 * ((S2 / 16) - 2))) (pk_mul _ _) ?_
                                        refine lv_iload hx hb dX11_understand_318 (lv_at hl 5 rfl) ?_
                                        refine lv_iadd hx hb dX11_understand_320 ?_
                                        refine hp_eqi (z := nI ((8 * ((S2 / 16) - 2)) + k2)) (nI_add _ _) ?_
                                        refine lv_aload_n hx hb dX11_understand_321 rfl (lv_at hl 0 rfl) ?_
                                        refine hp_get hx hb hown hS.2.1 hH (F_X11_36.use hS) f_o rfl dX11_understand_322 ?_
                                        refine lv_bipush (v := nI 9) hx hb dX11_understand_325 (by decide) ?_
                                        refine lv_iload hx hb dX11_understand_327 (lv_at hl 3 rfl) ?_
                                        refine lv_imul hx hb dX11_understand_329 ?_
                                        refine hp_eqi (z := nI (9 * (S2 / 16))) (pk_mul _ _) ?_
                                        refine lv_iload hx hb dX11_understand_330 (lv_at hl 5 rfl) ?_
                                        refine lv_iadd hx hb dX11_understand_332 ?_
                                        refine hp_eqi (z := nI ((9 * (S2 / 16)) + k2)) (nI_add _ _) ?_
                                        refine hp_ialdN hx hb hS.ai hH f_8 (by omega) (by omega) dX11_understand_333 ?_
                                        refine hp_iastN hx hb hS.ai hH f_10 (by omega) (by omega) dX11_understand_334 (fun H locs μ1 fz fn hH => ?_)
                                        have f_o := (fn _ (by omega)).trans f_o
                                        have f_8 := (fn _ (by omega)).trans f_8
                                        have f_9 := (fn _ (by omega)).trans f_9
                                        have f_10 : μ1 (o + 10) = some (hp_n X 48 (setN D2 ((8 * ((S2 / 16) - 2)) + k2) (sb ((9 * (S2 / 16)) + k2)))) := fz
                                        have fr := hp_eqM.put (k := 10) fr (by decide) fn
                                        clear fz fn
                                        refine lv_iinc (v := nI (k2 + 1)) (lv' := [(6, .int (nI (k2 + 1))), (0, .ref o), (1, .int (nI (se / 9))), (2, .int (nI F)), (4, .int (nI (S2 / 16))), (5, .int (nI (S2 % 16)))]) hx hb dX11_understand_335 hl (k := 5) rfl (nI_add _ 1) (by decide) rfl (fun ls hl => ?_)
                                        refine lv_goto (tgt := 300) hx hb dX11_understand_338 (by decide) ?_
                                        exact ih300 (k2 + 1) (setN D2 ((8 * ((S2 / 16) - 2)) + k2) (sb ((9 * (S2 / 16)) + k2))) (by omega) (fun j hj => (Decidable.em (j = 8 * (S2 / 16 - 2) + k2)).elim (fun e9 => by rw [e9, setN_s, tdN_hi h01 (by omega) (by omega), show 9 * (2 + (S2 / 16 - 2)) = 9 * (S2 / 16) by omega]) (fun e9 => (setN_o e9).trans (hD2 j (by omega)))) (by omega) _ _ _ _ f_o f_8 f_9 f_10 fr hH (lv_sub hl [1, 2, 3, 4, 5, 0] rfl)
                                  exact lp_300 ((S2 % 16 - 0) + 1) 0 D1 (Nat.zero_le _) (fun j hj => hD1 j (by omega)) (Nat.lt_succ_self _) _ _ _ _ f_o f_8 f_9 f_10 fr hH (lv_sub hl [1, 2, 3, 4, 5, 0] rfl)
                                · have c_261 : ¬ ((8 * ((S2 / 16) - 2)) ≤ k) := fun z => c_261 ((nI_leI (by omega) (by omega)).mpr z)
                                  refine lv_aload_n hx hb dX11_understand_264 rfl (lv_at hl 0 rfl) ?_
                                  refine hp_get hx hb hown hS.2.1 hH (F_X11_42.use hS) f_o rfl dX11_understand_265 ?_
                                  refine lv_iload hx hb dX11_understand_268 (lv_at hl 5 rfl) ?_
                                  refine lv_aload_n hx hb dX11_understand_270 rfl (lv_at hl 0 rfl) ?_
                                  refine hp_get hx hb hown hS.2.1 hH (F_X11_39.use hS) f_o rfl dX11_understand_271 ?_
                                  refine lv_iconst (v := nI 2) hx hb dX11_understand_274 (by decide) ?_
                                  refine lv_iload hx hb dX11_understand_275 (lv_at hl 5 rfl) ?_
                                  refine lv_bipush (v := nI 8) hx hb dX11_understand_277 (by decide) ?_
                                  refine lv_idiv hx hb dX11_understand_279 (nI_ne0 (by omega) (by omega)) ?_
                                  refine hp_eqi (z := nI (k / 8)) (pk_div (by omega) (by omega) (by omega)) ?_
                                  refine lv_iadd hx hb dX11_understand_280 ?_
                                  refine hp_eqi (z := nI (2 + (k / 8))) (nI_add _ _) ?_
                                  refine hp_ialdI hx hb hS.ai hH f_9 (by omega) (by omega) dX11_understand_281 ?_
                                  refine hp_eqi (z := nI (vaN sb (9 * (2 + k / 8)) 8)) (hB _ (by omega)) ?_
                                  refine lv_iload hx hb dX11_understand_282 (lv_at hl 5 rfl) ?_
                                  refine lv_bipush (v := nI 8) hx hb dX11_understand_284 (by decide) ?_
                                  refine lv_irem hx hb dX11_understand_286 (nI_ne0 (by omega) (by omega)) ?_
                                  refine hp_eqi (z := nI (k % 8)) (pk_rem (by omega) (by omega) (by omega)) ?_
                                  refine lv_ishr hx hb dX11_understand_287 ?_
                                  refine lv_iconst (v := nI 1) hx hb dX11_understand_288 (by decide) ?_
                                  refine lv_iand hx hb dX11_understand_289 ?_
                                  refine hp_eqi (z := nI (vaN sb (9 * (2 + k / 8)) 8 / 2 ^ (k % 8) % 2)) (by rw [z_sbI (by omega), bitI_n (Nat.lt_trans (vaN_lt (n := 8) (fun j _ => h01 _)) (by decide))]) ?_
                                  refine hp_iastN hx hb hS.ai hH f_10 (by omega) (by omega) dX11_understand_290 (fun H locs μ1 fz fn hH => ?_)
                                  have f_o := (fn _ (by omega)).trans f_o
                                  have f_8 := (fn _ (by omega)).trans f_8
                                  have f_9 := (fn _ (by omega)).trans f_9
                                  have f_10 : μ1 (o + 10) = some (hp_n X 48 (setN D1 k (vaN sb (9 * (2 + k / 8)) 8 / 2 ^ (k % 8) % 2))) := fz
                                  have fr := hp_eqM.put (k := 10) fr (by decide) fn
                                  clear fz fn
                                  refine lv_iinc (v := nI (k + 1)) (lv' := [(6, .int (nI (k + 1))), (0, .ref o), (1, .int (nI (se / 9))), (2, .int (nI F)), (4, .int (nI (S2 / 16))), (5, .int (nI (S2 % 16)))]) hx hb dX11_understand_291 hl (k := 5) rfl (nI_add _ 1) (by decide) rfl (fun ls hl => ?_)
                                  refine lv_goto (tgt := 252) hx hb dX11_understand_294 (by decide) ?_
                                  exact ih252 (k + 1) (setN D1 k (vaN sb (9 * (2 + k / 8)) 8 / 2 ^ (k % 8) % 2)) (by omega) (fun j hj => (Decidable.em (j = k)).elim (fun e9 => by rw [e9, setN_s, tdN_lo h01 (by omega), valN_va 8 (by omega)]) (fun e9 => (setN_o e9).trans (hD1 j (by omega)))) (by omega) _ _ _ _ f_o f_8 f_9 f_10 fr hH (lv_sub hl [1, 2, 3, 4, 5, 0] rfl)
                            exact lp_252 ((8 * (S2 / 16 - 2) - 0) + 1) 0 D (Nat.zero_le _) (fun j hj => absurd hj (Nat.not_lt_zero _)) (Nat.lt_succ_self _) _ _ _ _ f_o f_8 f_9 f_10 fr hH (lv_sub hl [5, 6, 4, 2, 1, 0] rfl)
                          · have c_229 : ¬ (se = ((9 * (S2 / 16)) + (S2 % 16))) := fun z => c_229 ((nI_eq (by omega) (by omega)).mpr z)
                            have hK : rdK sb se = 0 := by rw [hKg, if_neg (fun h9 => by omega)]; split; rfl; rw [if_neg (fun h9 => by omega)]; unfold kdC; rw [if_neg (by omega), if_neg (by omega), if_neg (by omega)]
                            have f_o : μ1 o = some (hp_o 7 [.int (nI n), .ref (o + 1), .ref (o + 2), .ref (o + 3), .ref (o + 4), .ref (o + 5), .ref (o + 6), .int (nB on), .int (nI tz), .ref (o + 7), .int (nI se), .ref (o + 8), .ref (o + 9), .int (nI (rdK sb se)), .int (nI kl), .int (nI 0), .ref (o + 10), .int (nI sd), .ref (o + 11), .int (nI hd), .ref (o + 12), .int (nI an), .ref (o + 13), .int (nI fm), .int (nI fo), .ref (o + 14), .ref (o + 15), .int (nI kc), .ref (o + 16)]) := by rw [hK]; exact f_o
                            exact hp_rv hx hb hr hlocks hS hH (⟨rfl, _, _, _, _, f_o, f_9, f_10, fun h9 => h9.elim (fun h9 => absurd (hK.symm.trans h9) (by decide)) (fun h9 => absurd (hK.symm.trans h9) (by decide)), fun h9 => absurd (hK.symm.trans h9) (by decide), fr⟩) dX11_understand_232
              · have c_144 : ¬ (F = 149) := fun z => c_144 ((nI_eq (by omega) (by omega)).mpr z)
                refine lv_iload_n hx hb dX11_understand_147 rfl (lv_at hl 0 rfl) ?_
                refine lv_sipush (v := nI 151) hx hb dX11_understand_148 (by decide) ?_
                refine lv_icmp_ne (tgt := 158) hx hb dX11_understand_151 (by decide) (fun c_151 => ?_) (fun c_151 => ?_)
                · have c_151 : ¬ (F = 151) := fun z => c_151 ((nI_eq (by omega) (by omega)).mpr z)
                  have hlv0 : ¬ 0 < lvOf F := by unfold lvOf; rw [if_neg c_137, if_neg c_144, if_neg c_151]; decide
                  refine lv_iconst (v := nI 0) hx hb dX11_understand_158 (by decide) ?_
                  refine lv_istore_n (lv' := [(3, .int (nI 0)), (2, .int (nI F)), (0, .ref o), (1, .int (nI (se / 9)))]) hx hb dX11_understand_159 rfl hl (by decide) rfl (fun ls hl => ?_)
                  refine lv_iload_n hx hb dX11_understand_160 rfl (lv_at hl 0 rfl) ?_
                  refine lv_if_eq (tgt := 356) hx hb dX11_understand_161 (by decide) (fun c_161 => ?_) (fun c_161 => ?_)
                  · have c_161 : 0 = 0 := nz_0 (by omega) c_161
                    refine lv_aload_n hx hb dX11_understand_356 rfl (lv_at hl 2 rfl) ?_
                    refine hp_get hx hb hown hS.2.1 hH (F_X11_104.use hS) f_o rfl dX11_understand_357 ?_
                    refine lv_bipush (v := nI 9) hx hb dX11_understand_360 (by decide) ?_
                    refine lv_irem hx hb dX11_understand_362 (nI_ne0 (by omega) (by omega)) ?_
                    refine hp_eqi (z := nI (se % 9)) (pk_rem (by omega) (by omega) (by omega)) ?_
                    refine lv_if_ne (tgt := 371) hx hb dX11_understand_363 (by decide) (fun c_363 => ?_) (fun c_363 => ?_)
                    · have c_363 : ¬ (se % 9 = 0) := nz_n (by omega) c_363
                      have hK : rdK sb se = 0 := by rw [hKg, if_neg (fun h9 => hlv0 h9.1)]; split; rfl; rename_i h8; rw [if_neg (fun h9 => by omega)]; unfold kdC; rw [if_neg (by omega), if_neg (by omega), if_neg (by omega)]
                      have f_o : μ1 o = some (hp_o 7 [.int (nI n), .ref (o + 1), .ref (o + 2), .ref (o + 3), .ref (o + 4), .ref (o + 5), .ref (o + 6), .int (nB on), .int (nI tz), .ref (o + 7), .int (nI se), .ref (o + 8), .ref (o + 9), .int (nI (rdK sb se)), .int (nI kl), .int (nI 0), .ref (o + 10), .int (nI sd), .ref (o + 11), .int (nI hd), .ref (o + 12), .int (nI an), .ref (o + 13), .int (nI fm), .int (nI fo), .ref (o + 14), .ref (o + 15), .int (nI kc), .ref (o + 16)]) := by rw [hK]; exact f_o
                      exact hp_rv hx hb hr hlocks hS hH (⟨rfl, _, _, _, _, f_o, f_9, f_10, fun h9 => h9.elim (fun h9 => absurd (hK.symm.trans h9) (by decide)) (fun h9 => absurd (hK.symm.trans h9) (by decide)), fun h9 => absurd (hK.symm.trans h9) (by decide), fr⟩) dX11_understand_371
                    · have c_363 : (se % 9) = 0 := nz_0 (by omega) c_363
                      refine lv_iload_n hx hb dX11_understand_366 rfl (lv_at hl 3 rfl) ?_
                      refine lv_iconst (v := nI 3) hx hb dX11_understand_367 (by decide) ?_
                      refine lv_icmp_ge (tgt := 372) hx hb dX11_understand_368 (by decide) (fun c_368 => ?_) (fun c_368 => ?_)
                      · have c_368 : 3 ≤ (se / 9) := (nI_leI (by omega) (by omega)).mp c_368
                        refine lv_sipush (v := nI 25443) hx hb dX11_understand_372 (by decide) ?_
                        refine lv_istore (lv' := [(4, .int (nI 25443)), (3, .int (nI 0)), (2, .int (nI F)), (0, .ref o), (1, .int (nI (se / 9)))]) hx hb dX11_understand_375 hl (by decide) rfl (fun ls hl => ?_)
                        refine lv_iconst (v := nI 0) hx hb dX11_understand_377 (by decide) ?_
                        refine lv_istore (lv' := [(5, .int (nI 0)), (4, .int (nI 25443)), (3, .int (nI 0)), (2, .int (nI F)), (0, .ref o), (1, .int (nI (se / 9)))]) hx hb dX11_understand_378 hl (by decide) rfl (fun ls hl => ?_)
                        have lp_380 : ∀ (kk380 : Nat) (i2 : Nat), (i2 ≤ se / 9 - 2) → (se / 9 - 2 - i2) < kk380 → ∀ (H : Heap) (locs : List Loc) (ls : Array Slot), hp_w X cls μ1 nx H locs → lv_has ls 7 [(0, .ref o), (1, .int (nI (se / 9))), (2, .int (nI F)), (3, .int (nI 0)), (4, .int (nI (crcN sb se i2))), (5, .int (nI i2))] → W p l e { frames := 2, cells := 0, slots := 0, locals := 80 } s m [.ref o].toArray below meth c H locs 0 0 (MQ below (hq_v X (po_v nx (fun z => ∃ (kl9 tc9 : Nat) (B9 : Nat → Int32) (D9 : Nat → Nat), z o = some (hp_o 7 [.int (nI n), .ref (o + 1), .ref (o + 2), .ref (o + 3), .ref (o + 4), .ref (o + 5), .ref (o + 6), .int (nB on), .int (nI tz), .ref (o + 7), .int (nI se), .ref (o + 8), .ref (o + 9), .int (nI (rdK sb se)), .int (nI kl9), .int (nI tc9), .ref (o + 10), .int (nI sd), .ref (o + 11), .int (nI hd), .ref (o + 12), .int (nI an), .ref (o + 13), .int (nI fm), .int (nI fo), .ref (o + 14), .ref (o + 15), .int (nI kc), .ref (o + 16)]) ∧ z (o + 9) = some (hp_i X 18 B9) ∧ z (o + 10) = some (hp_n X 48 D9) ∧ (rdK sb se = 3 ∨ rdK sb se = 4 → kl9 = lvOf (valN sb se 0 8) ∧ tc9 = rdC sb se ∧ ∀ k, k < tc9 → D9 k = rdT sb se / 2 ^ k % 2) ∧ (rdK sb se = 6 → B9 1 = nI (valN sb se 9 8)) ∧ hp_eqM [0, 9, 10] o z μ))) [.ref o].toArray s 0 0 (hp_A X)) (F0 m 380 ls []) := by
                          intro kk380
                          induction kk380 with
                          | zero =>
                            intro i2 hi2 hkk380
                            exact absurd hkk380 (Nat.not_lt_zero _)
                          | succ kk380 ih380 =>
                            intro i2 hi2 hkk380 H locs ls  hH hl
                            refine lv_iload hx hb dX11_understand_380 (lv_at hl 5 rfl) ?_
                            refine lv_iload_n hx hb dX11_understand_382 rfl (lv_at hl 1 rfl) ?_
                            refine lv_iconst (v := nI 2) hx hb dX11_understand_383 (by decide) ?_
                            refine lv_isub hx hb dX11_understand_384 ?_
                            refine hp_eqi (z := nI ((se / 9) - 2)) (pk_sub (by omega)) ?_
                            refine lv_icmp_ge (tgt := 408) hx hb dX11_understand_385 (by decide) (fun c_385 => ?_) (fun c_385 => ?_)
                            · have c_385 : ((se / 9) - 2) ≤ i2 := (nI_leI (by omega) (by omega)).mp c_385
                              have ei2 : i2 = se / 9 - 2 := by omega
                              subst ei2
                              have hxl := crcN_lt sb se (se / 9 - 2)
                              have hc9 := crcN_own (sb := sb) (se := se) (k := se / 9 - 2) h01 (by omega)
                              rw [show se / 9 - 2 + 2 = se / 9 by omega, show se / 9 - 2 + 1 = se / 9 - 1 by omega] at hc9
                              have hu1 : vaN sb (9 * (se / 9 - 2)) 8 < 256 := vaN_lt (n := 8) (fun j _ => h01 _)
                              have hu2 : vaN sb (9 * (se / 9 - 1)) 8 < 256 := vaN_lt (n := 8) (fun j _ => h01 _)
                              refine lv_aload_n hx hb dX11_understand_408 rfl (lv_at hl 0 rfl) ?_
                              refine hp_get hx hb hown hS.2.1 hH (F_X11_39.use hS) f_o rfl dX11_understand_409 ?_
                              refine lv_iload_n hx hb dX11_understand_412 rfl (lv_at hl 1 rfl) ?_
                              refine lv_iconst (v := nI 2) hx hb dX11_understand_413 (by decide) ?_
                              refine lv_isub hx hb dX11_understand_414 ?_
                              refine hp_eqi (z := nI ((se / 9) - 2)) (pk_sub (by omega)) ?_
                              refine hp_ialdI hx hb hS.ai hH f_9 (by omega) (by omega) dX11_understand_415 ?_
                              refine hp_eqi (z := nI (vaN sb (9 * (se / 9 - 2)) 8)) (hB _ (by omega)) ?_
                              refine lv_iload hx hb dX11_understand_416 (lv_at hl 4 rfl) ?_
                              refine lv_sipush (v := nI 256) hx hb dX11_understand_418 (by decide) ?_
                              refine lv_irem hx hb dX11_understand_421 (nI_ne0 (by omega) (by omega)) ?_
                              refine hp_eqi (z := nI ((crcN sb se (se / 9 - 2)) % 256)) (pk_rem (by omega) (by omega) (by omega)) ?_
                              refine lv_icmp_ne (tgt := 442) hx hb dX11_understand_422 (by decide) (fun c_422 => ?_) (fun c_422 => ?_)
                              · have c_422 : ¬ ((vaN sb (9 * (se / 9 - 2)) 8) = ((crcN sb se (se / 9 - 2)) % 256)) := fun z => c_422 ((nI_eq (by omega) (by omega)).mpr z)
                                have hK : rdK sb se = 0 := by rw [hKg, if_neg (fun h9 => hlv0 h9.1), if_pos (Or.inr (fun h9 => by have h8 := hc9.mp h9; omega))]
                                have f_o : μ1 o = some (hp_o 7 [.int (nI n), .ref (o + 1), .ref (o + 2), .ref (o + 3), .ref (o + 4), .ref (o + 5), .ref (o + 6), .int (nB on), .int (nI tz), .ref (o + 7), .int (nI se), .ref (o + 8), .ref (o + 9), .int (nI (rdK sb se)), .int (nI kl), .int (nI 0), .ref (o + 10), .int (nI sd), .ref (o + 11), .int (nI hd), .ref (o + 12), .int (nI an), .ref (o + 13), .int (nI fm), .int (nI fo), .ref (o + 14), .ref (o + 15), .int (nI kc), .ref (o + 16)]) := by rw [hK]; exact f_o
                                exact hp_rv hx hb hr hlocks hS hH (⟨rfl, _, _, _, _, f_o, f_9, f_10, fun h9 => h9.elim (fun h9 => absurd (hK.symm.trans h9) (by decide)) (fun h9 => absurd (hK.symm.trans h9) (by decide)), fun h9 => absurd (hK.symm.trans h9) (by decide), fr⟩) dX11_understand_442
                              · have c_422 : (vaN sb (9 * (se / 9 - 2)) 8) = ((crcN sb se (se / 9 - 2)) % 256) := (nI_eq (by omega) (by omega)).mp c_422
                                refine lv_aload_n hx hb dX11_understand_425 rfl (lv_at hl 0 rfl) ?_
                                refine hp_get hx hb hown hS.2.1 hH (F_X11_39.use hS) f_o rfl dX11_understand_426 ?_
                                refine lv_iload_n hx hb dX11_understand_429 rfl (lv_at hl 1 rfl) ?_
                                refine lv_iconst (v := nI 1) hx hb dX11_understand_430 (by decide) ?_
                                refine lv_isub hx hb dX11_understand_431 ?_
                                refine hp_eqi (z := nI ((se / 9) - 1)) (pk_sub (by omega)) ?_
                                refine hp_ialdI hx hb hS.ai hH f_9 (by omega) (by omega) dX11_understand_432 ?_
                                refine hp_eqi (z := nI (vaN sb (9 * (se / 9 - 1)) 8)) (hB _ (by omega)) ?_
                                refine lv_iload hx hb dX11_understand_433 (lv_at hl 4 rfl) ?_
                                refine lv_sipush (v := nI 256) hx hb dX11_understand_435 (by decide) ?_
                                refine lv_idiv hx hb dX11_understand_438 (nI_ne0 (by omega) (by omega)) ?_
                                refine hp_eqi (z := nI ((crcN sb se (se / 9 - 2)) / 256)) (pk_div (by omega) (by omega) (by omega)) ?_
                                refine lv_icmp_eq (tgt := 443) hx hb dX11_understand_439 (by decide) (fun c_439 => ?_) (fun c_439 => ?_)
                                · have c_439 : (vaN sb (9 * (se / 9 - 1)) 8) = ((crcN sb se (se / 9 - 2)) / 256) := (nI_eq (by omega) (by omega)).mp c_439
                                  have hc0 := hc9.mpr ⟨c_422, c_439⟩
                                  refine lv_iload_n hx hb dX11_understand_443 rfl (lv_at hl 3 rfl) ?_
                                  refine lv_if_eq (tgt := 521) hx hb dX11_understand_444 (by decide) (fun c_444 => ?_) (fun c_444 => ?_)
                                  · have c_444 : 0 = 0 := nz_0 (by omega) c_444
                                    refine lv_iload_n hx hb dX11_understand_521 rfl (lv_at hl 1 rfl) ?_
                                    refine lv_iconst (v := nI 4) hx hb dX11_understand_522 (by decide) ?_
                                    refine lv_icmp_ne (tgt := 549) hx hb dX11_understand_523 (by decide) (fun c_523 => ?_) (fun c_523 => ?_)
                                    · have c_523 : ¬ ((se / 9) = 4) := fun z => c_523 ((nI_eq (by omega) (by omega)).mpr z)
                                      refine lv_iload_n hx hb dX11_understand_549 rfl (lv_at hl 1 rfl) ?_
                                      refine lv_iconst (v := nI 4) hx hb dX11_understand_550 (by decide) ?_
                                      refine lv_icmp_ne (tgt := 570) hx hb dX11_understand_551 (by decide) (fun c_551 => ?_) (fun c_551 => ?_)
                                      · have c_551 : ¬ ((se / 9) = 4) := fun z => c_551 ((nI_eq (by omega) (by omega)).mpr z)
                                        refine lv_iload_n hx hb dX11_understand_570 rfl (lv_at hl 1 rfl) ?_
                                        refine lv_iconst (v := nI 3) hx hb dX11_understand_571 (by decide) ?_
                                        refine lv_icmp_ne (tgt := 588) hx hb dX11_understand_572 (by decide) (fun c_572 => ?_) (fun c_572 => ?_)
                                        · have c_572 : ¬ ((se / 9) = 3) := fun z => c_572 ((nI_eq (by omega) (by omega)).mpr z)
                                          have hK : rdK sb se = 0 := by rw [hKg, if_neg (fun h9 => hlv0 h9.1), if_neg (fun h9 => by rw [hc0] at h9; omega), if_neg (fun h9 => hlv0 h9.1)]; unfold kdC; rw [if_neg (by omega), if_neg (by omega), if_neg (by omega)]
                                          have f_o : μ1 o = some (hp_o 7 [.int (nI n), .ref (o + 1), .ref (o + 2), .ref (o + 3), .ref (o + 4), .ref (o + 5), .ref (o + 6), .int (nB on), .int (nI tz), .ref (o + 7), .int (nI se), .ref (o + 8), .ref (o + 9), .int (nI (rdK sb se)), .int (nI kl), .int (nI 0), .ref (o + 10), .int (nI sd), .ref (o + 11), .int (nI hd), .ref (o + 12), .int (nI an), .ref (o + 13), .int (nI fm), .int (nI fo), .ref (o + 14), .ref (o + 15), .int (nI kc), .ref (o + 16)]) := by rw [hK]; exact f_o
                                          exact hp_rv hx hb hr hlocks hS hH (⟨rfl, _, _, _, _, f_o, f_9, f_10, fun h9 => h9.elim (fun h9 => absurd (hK.symm.trans h9) (by decide)) (fun h9 => absurd (hK.symm.trans h9) (by decide)), fun h9 => absurd (hK.symm.trans h9) (by decide), fr⟩) dX11_understand_588
                                        · have c_572 : (se / 9) = 3 := (nI_eq (by omega) (by omega)).mp c_572
                                          refine lv_iload_n hx hb dX11_understand_575 rfl (lv_at hl 2 rfl) ?_
                                          refine lv_sipush (v := nI 194) hx hb dX11_understand_576 (by decide) ?_
                                          refine lv_icmp_ne (tgt := 588) hx hb dX11_understand_579 (by decide) (fun c_579 => ?_) (fun c_579 => ?_)
                                          · have c_579 : ¬ (F = 194) := fun z => c_579 ((nI_eq (by omega) (by omega)).mpr z)
                                            have hK : rdK sb se = 0 := by rw [hKg, if_neg (fun h9 => hlv0 h9.1), if_neg (fun h9 => by rw [hc0] at h9; omega), if_neg (fun h9 => hlv0 h9.1)]; unfold kdC; rw [if_neg (by omega), if_neg (by omega), if_neg (by omega)]
                                            have f_o : μ1 o = some (hp_o 7 [.int (nI n), .ref (o + 1), .ref (o + 2), .ref (o + 3), .ref (o + 4), .ref (o + 5), .ref (o + 6), .int (nB on), .int (nI tz), .ref (o + 7), .int (nI se), .ref (o + 8), .ref (o + 9), .int (nI (rdK sb se)), .int (nI kl), .int (nI 0), .ref (o + 10), .int (nI sd), .ref (o + 11), .int (nI hd), .ref (o + 12), .int (nI an), .ref (o + 13), .int (nI fm), .int (nI fo), .ref (o + 14), .ref (o + 15), .int (nI kc), .ref (o + 16)]) := by rw [hK]; exact f_o
                                            exact hp_rv hx hb hr hlocks hS hH (⟨rfl, _, _, _, _, f_o, f_9, f_10, fun h9 => h9.elim (fun h9 => absurd (hK.symm.trans h9) (by decide)) (fun h9 => absurd (hK.symm.trans h9) (by decide)), fun h9 => absurd (hK.symm.trans h9) (by decide), fr⟩) dX11_understand_588
                                          · have c_579 : F = 194 := (nI_eq (by omega) (by omega)).mp c_579
                                            refine lv_aload_n hx hb dX11_understand_582 rfl (lv_at hl 0 rfl) ?_
                                            refine lv_bipush (v := nI 7) hx hb dX11_understand_583 (by decide) ?_
                                            refine hp_put hx hb hown hS.2.1 hH (P_X11_98.use hS) f_o rfl rfl (Nat.le_of_ble_eq_true rfl) dX11_understand_585 (fun H locs μ1 fz fn hH => ?_)
                                            have f_8 := (fn _ (by omega)).trans f_8
                                            have f_9 := (fn _ (by omega)).trans f_9
                                            have f_10 := (fn _ (by omega)).trans f_10
                                            have f_o : μ1 o = some (hp_o 7 [.int (nI n), .ref (o + 1), .ref (o + 2), .ref (o + 3), .ref (o + 4), .ref (o + 5), .ref (o + 6), .int (nB on), .int (nI tz), .ref (o + 7), .int (nI se), .ref (o + 8), .ref (o + 9), .int (nI 7), .int (nI kl), .int (nI 0), .ref (o + 10), .int (nI sd), .ref (o + 11), .int (nI hd), .ref (o + 12), .int (nI an), .ref (o + 13), .int (nI fm), .int (nI fo), .ref (o + 14), .ref (o + 15), .int (nI kc), .ref (o + 16)]) := fz
                                            have fr := hp_eqM.put (k := 0) fr (by decide) fn
                                            clear fz fn
                                            have hK : rdK sb se = 7 := by rw [hKg, if_neg (fun h9 => hlv0 h9.1), if_neg (fun h9 => by rw [hc0] at h9; omega), if_neg (fun h9 => hlv0 h9.1)]; unfold kdC; rw [if_neg (by omega), if_neg (by omega), if_pos (by omega)]
                                            have f_o : μ1 o = some (hp_o 7 [.int (nI n), .ref (o + 1), .ref (o + 2), .ref (o + 3), .ref (o + 4), .ref (o + 5), .ref (o + 6), .int (nB on), .int (nI tz), .ref (o + 7), .int (nI se), .ref (o + 8), .ref (o + 9), .int (nI (rdK sb se)), .int (nI kl), .int (nI 0), .ref (o + 10), .int (nI sd), .ref (o + 11), .int (nI hd), .ref (o + 12), .int (nI an), .ref (o + 13), .int (nI fm), .int (nI fo), .ref (o + 14), .ref (o + 15), .int (nI kc), .ref (o + 16)]) := by rw [hK]; exact f_o
                                            exact hp_rv hx hb hr hlocks hS hH (⟨rfl, _, _, _, _, f_o, f_9, f_10, fun h9 => h9.elim (fun h9 => absurd (hK.symm.trans h9) (by decide)) (fun h9 => absurd (hK.symm.trans h9) (by decide)), fun h9 => absurd (hK.symm.trans h9) (by decide), fr⟩) dX11_understand_588
                                      · have c_551 : (se / 9) = 4 := (nI_eq (by omega) (by omega)).mp c_551
                                        refine lv_iload_n hx hb dX11_understand_554 rfl (lv_at hl 2 rfl) ?_
                                        refine lv_sipush (v := nI 224) hx hb dX11_understand_555 (by decide) ?_
                                        refine lv_icmp_ne (tgt := 570) hx hb dX11_understand_558 (by decide) (fun c_558 => ?_) (fun c_558 => ?_)
                                        · have c_558 : ¬ (F = 224) := fun z => c_558 ((nI_eq (by omega) (by omega)).mpr z)
                                          refine lv_iload_n hx hb dX11_understand_570 rfl (lv_at hl 1 rfl) ?_
                                          refine lv_iconst (v := nI 3) hx hb dX11_understand_571 (by decide) ?_
                                          refine lv_icmp_ne (tgt := 588) hx hb dX11_understand_572 (by decide) (fun c_572 => ?_) (fun c_572 => ?_)
                                          · have c_572 : ¬ ((se / 9) = 3) := fun z => c_572 ((nI_eq (by omega) (by omega)).mpr z)
                                            have hK : rdK sb se = 0 := by rw [hKg, if_neg (fun h9 => hlv0 h9.1), if_neg (fun h9 => by rw [hc0] at h9; omega), if_neg (fun h9 => hlv0 h9.1)]; unfold kdC; rw [if_neg (by omega), if_neg (by omega), if_neg (by omega)]
                                            have f_o : μ1 o = some (hp_o 7 [.int (nI n), .ref (o + 1), .ref (o + 2), .ref (o + 3), .ref (o + 4), .ref (o + 5), .ref (o + 6), .int (nB on), .int (nI tz), .ref (o + 7), .int (nI se), .ref (o + 8), .ref (o + 9), .int (nI (rdK sb se)), .int (nI kl), .int (nI 0), .ref (o + 10), .int (nI sd), .ref (o + 11), .int (nI hd), .ref (o + 12), .int (nI an), .ref (o + 13), .int (nI fm), .int (nI fo), .ref (o + 14), .ref (o + 15), .int (nI kc), .ref (o + 16)]) := by rw [hK]; exact f_o
                                            exact hp_rv hx hb hr hlocks hS hH (⟨rfl, _, _, _, _, f_o, f_9, f_10, fun h9 => h9.elim (fun h9 => absurd (hK.symm.trans h9) (by decide)) (fun h9 => absurd (hK.symm.trans h9) (by decide)), fun h9 => absurd (hK.symm.trans h9) (by decide), fr⟩) dX11_understand_588
                                          · have c_572 : (se / 9) = 3 := (nI_eq (by omega) (by omega)).mp c_572
                                            refine lv_iload_n hx hb dX11_understand_575 rfl (lv_at hl 2 rfl) ?_
                                            refine lv_sipush (v := nI 194) hx hb dX11_understand_576 (by decide) ?_
                                            refine lv_icmp_ne (tgt := 588) hx hb dX11_understand_579 (by decide) (fun c_579 => ?_) (fun c_579 => ?_)
                                            · have c_579 : ¬ (F = 194) := fun z => c_579 ((nI_eq (by omega) (by omega)).mpr z)
                                              have hK : rdK sb se = 0 := by rw [hKg, if_neg (fun h9 => hlv0 h9.1), if_neg (fun h9 => by rw [hc0] at h9; omega), if_neg (fun h9 => hlv0 h9.1)]; unfold kdC; rw [if_neg (by omega), if_neg (by omega), if_neg (by omega)]
                                              have f_o : μ1 o = some (hp_o 7 [.int (nI n), .ref (o + 1), .ref (o + 2), .ref (o + 3), .ref (o + 4), .ref (o + 5), .ref (o + 6), .int (nB on), .int (nI tz), .ref (o + 7), .int (nI se), .ref (o + 8), .ref (o + 9), .int (nI (rdK sb se)), .int (nI kl), .int (nI 0), .ref (o + 10), .int (nI sd), .ref (o + 11), .int (nI hd), .ref (o + 12), .int (nI an), .ref (o + 13), .int (nI fm), .int (nI fo), .ref (o + 14), .ref (o + 15), .int (nI kc), .ref (o + 16)]) := by rw [hK]; exact f_o
                                              exact hp_rv hx hb hr hlocks hS hH (⟨rfl, _, _, _, _, f_o, f_9, f_10, fun h9 => h9.elim (fun h9 => absurd (hK.symm.trans h9) (by decide)) (fun h9 => absurd (hK.symm.trans h9) (by decide)), fun h9 => absurd (hK.symm.trans h9) (by decide), fr⟩) dX11_understand_588
                                            · have c_579 : F = 194 := (nI_eq (by omega) (by omega)).mp c_579
                                              refine lv_aload_n hx hb dX11_understand_582 rfl (lv_at hl 0 rfl) ?_
                                              refine lv_bipush (v := nI 7) hx hb dX11_understand_583 (by decide) ?_
                                              refine hp_put hx hb hown hS.2.1 hH (P_X11_98.use hS) f_o rfl rfl (Nat.le_of_ble_eq_true rfl) dX11_understand_585 (fun H locs μ1 fz fn hH => ?_)
                                              have f_8 := (fn _ (by omega)).trans f_8
                                              have f_9 := (fn _ (by omega)).trans f_9
                                              have f_10 := (fn _ (by omega)).trans f_10
                                              have f_o : μ1 o = some (hp_o 7 [.int (nI n), .ref (o + 1), .ref (o + 2), .ref (o + 3), .ref (o + 4), .ref (o + 5), .ref (o + 6), .int (nB on), .int (nI tz), .ref (o + 7), .int (nI se), .ref (o + 8), .ref (o + 9), .int (nI 7), .int (nI kl), .int (nI 0), .ref (o + 10), .int (nI sd), .ref (o + 11), .int (nI hd), .ref (o + 12), .int (nI an), .ref (o + 13), .int (nI fm), .int (nI fo), .ref (o + 14), .ref (o + 15), .int (nI kc), .ref (o + 16)]) := fz
                                              have fr := hp_eqM.put (k := 0) fr (by decide) fn
                                              clear fz fn
                                              have hK : rdK sb se = 7 := by rw [hKg, if_neg (fun h9 => hlv0 h9.1), if_neg (fun h9 => by rw [hc0] at h9; omega), if_neg (fun h9 => hlv0 h9.1)]; unfold kdC; rw [if_neg (by omega), if_neg (by omega), if_pos (by omega)]
                                              have f_o : μ1 o = some (hp_o 7 [.int (nI n), .ref (o + 1), .ref (o + 2), .ref (o + 3), .ref (o + 4), .ref (o + 5), .ref (o + 6), .int (nB on), .int (nI tz), .ref (o + 7), .int (nI se), .ref (o + 8), .ref (o + 9), .int (nI (rdK sb se)), .int (nI kl), .int (nI 0), .ref (o + 10), .int (nI sd), .ref (o + 11), .int (nI hd), .ref (o + 12), .int (nI an), .ref (o + 13), .int (nI fm), .int (nI fo), .ref (o + 14), .ref (o + 15), .int (nI kc), .ref (o + 16)]) := by rw [hK]; exact f_o
                                              exact hp_rv hx hb hr hlocks hS hH (⟨rfl, _, _, _, _, f_o, f_9, f_10, fun h9 => h9.elim (fun h9 => absurd (hK.symm.trans h9) (by decide)) (fun h9 => absurd (hK.symm.trans h9) (by decide)), fun h9 => absurd (hK.symm.trans h9) (by decide), fr⟩) dX11_understand_588
                                        · have c_558 : F = 224 := (nI_eq (by omega) (by omega)).mp c_558
                                          refine lv_aload_n hx hb dX11_understand_561 rfl (lv_at hl 0 rfl) ?_
                                          refine lv_bipush (v := nI 6) hx hb dX11_understand_562 (by decide) ?_
                                          refine hp_put hx hb hown hS.2.1 hH (P_X11_98.use hS) f_o rfl rfl (Nat.le_of_ble_eq_true rfl) dX11_understand_564 (fun H locs μ1 fz fn hH => ?_)
                                          have f_8 := (fn _ (by omega)).trans f_8
                                          have f_9 := (fn _ (by omega)).trans f_9
                                          have f_10 := (fn _ (by omega)).trans f_10
                                          have f_o : μ1 o = some (hp_o 7 [.int (nI n), .ref (o + 1), .ref (o + 2), .ref (o + 3), .ref (o + 4), .ref (o + 5), .ref (o + 6), .int (nB on), .int (nI tz), .ref (o + 7), .int (nI se), .ref (o + 8), .ref (o + 9), .int (nI 6), .int (nI kl), .int (nI 0), .ref (o + 10), .int (nI sd), .ref (o + 11), .int (nI hd), .ref (o + 12), .int (nI an), .ref (o + 13), .int (nI fm), .int (nI fo), .ref (o + 14), .ref (o + 15), .int (nI kc), .ref (o + 16)]) := fz
                                          have fr := hp_eqM.put (k := 0) fr (by decide) fn
                                          clear fz fn
                                          refine lv_goto (tgt := 588) hx hb dX11_understand_567 (by decide) ?_
                                          have hK : rdK sb se = 6 := by rw [hKg, if_neg (fun h9 => hlv0 h9.1), if_neg (fun h9 => by rw [hc0] at h9; omega), if_neg (fun h9 => hlv0 h9.1)]; unfold kdC; rw [if_neg (by omega), if_pos (by omega)]
                                          have f_o : μ1 o = some (hp_o 7 [.int (nI n), .ref (o + 1), .ref (o + 2), .ref (o + 3), .ref (o + 4), .ref (o + 5), .ref (o + 6), .int (nB on), .int (nI tz), .ref (o + 7), .int (nI se), .ref (o + 8), .ref (o + 9), .int (nI (rdK sb se)), .int (nI kl), .int (nI 0), .ref (o + 10), .int (nI sd), .ref (o + 11), .int (nI hd), .ref (o + 12), .int (nI an), .ref (o + 13), .int (nI fm), .int (nI fo), .ref (o + 14), .ref (o + 15), .int (nI kc), .ref (o + 16)]) := by rw [hK]; exact f_o
                                          exact hp_rv hx hb hr hlocks hS hH (⟨rfl, _, _, _, _, f_o, f_9, f_10, fun h9 => h9.elim (fun h9 => absurd (hK.symm.trans h9) (by decide)) (fun h9 => absurd (hK.symm.trans h9) (by decide)), fun _ => by rw [valN_va 8 (by omega), ← hS2]; exact hS0, fr⟩) dX11_understand_588
                                    · have c_523 : (se / 9) = 4 := (nI_eq (by omega) (by omega)).mp c_523
                                      refine lv_iload_n hx hb dX11_understand_526 rfl (lv_at hl 2 rfl) ?_
                                      refine lv_bipush (v := nI 80) hx hb dX11_understand_527 (by decide) ?_
                                      refine lv_icmp_ne (tgt := 549) hx hb dX11_understand_529 (by decide) (fun c_529 => ?_) (fun c_529 => ?_)
                                      · have c_529 : ¬ (F = 80) := fun z => c_529 ((nI_eq (by omega) (by omega)).mpr z)
                                        refine lv_iload_n hx hb dX11_understand_549 rfl (lv_at hl 1 rfl) ?_
                                        refine lv_iconst (v := nI 4) hx hb dX11_understand_550 (by decide) ?_
                                        refine lv_icmp_ne (tgt := 570) hx hb dX11_understand_551 (by decide) (fun c_551 => ?_) (fun c_551 => ?_)
                                        · have c_551 : ¬ ((se / 9) = 4) := fun z => c_551 ((nI_eq (by omega) (by omega)).mpr z)
                                          refine lv_iload_n hx hb dX11_understand_570 rfl (lv_at hl 1 rfl) ?_
                                          refine lv_iconst (v := nI 3) hx hb dX11_understand_571 (by decide) ?_
                                          refine lv_icmp_ne (tgt := 588) hx hb dX11_understand_572 (by decide) (fun c_572 => ?_) (fun c_572 => ?_)
                                          · have c_572 : ¬ ((se / 9) = 3) := fun z => c_572 ((nI_eq (by omega) (by omega)).mpr z)
                                            have hK : rdK sb se = 0 := by rw [hKg, if_neg (fun h9 => hlv0 h9.1), if_neg (fun h9 => by rw [hc0] at h9; omega), if_neg (fun h9 => hlv0 h9.1)]; unfold kdC; rw [if_neg (by omega), if_neg (by omega), if_neg (by omega)]
                                            have f_o : μ1 o = some (hp_o 7 [.int (nI n), .ref (o + 1), .ref (o + 2), .ref (o + 3), .ref (o + 4), .ref (o + 5), .ref (o + 6), .int (nB on), .int (nI tz), .ref (o + 7), .int (nI se), .ref (o + 8), .ref (o + 9), .int (nI (rdK sb se)), .int (nI kl), .int (nI 0), .ref (o + 10), .int (nI sd), .ref (o + 11), .int (nI hd), .ref (o + 12), .int (nI an), .ref (o + 13), .int (nI fm), .int (nI fo), .ref (o + 14), .ref (o + 15), .int (nI kc), .ref (o + 16)]) := by rw [hK]; exact f_o
                                            exact hp_rv hx hb hr hlocks hS hH (⟨rfl, _, _, _, _, f_o, f_9, f_10, fun h9 => h9.elim (fun h9 => absurd (hK.symm.trans h9) (by decide)) (fun h9 => absurd (hK.symm.trans h9) (by decide)), fun h9 => absurd (hK.symm.trans h9) (by decide), fr⟩) dX11_understand_588
                                          · have c_572 : (se / 9) = 3 := (nI_eq (by omega) (by omega)).mp c_572
                                            refine lv_iload_n hx hb dX11_understand_575 rfl (lv_at hl 2 rfl) ?_
                                            refine lv_sipush (v := nI 194) hx hb dX11_understand_576 (by decide) ?_
                                            refine lv_icmp_ne (tgt := 588) hx hb dX11_understand_579 (by decide) (fun c_579 => ?_) (fun c_579 => ?_)
                                            · have c_579 : ¬ (F = 194) := fun z => c_579 ((nI_eq (by omega) (by omega)).mpr z)
                                              have hK : rdK sb se = 0 := by rw [hKg, if_neg (fun h9 => hlv0 h9.1), if_neg (fun h9 => by rw [hc0] at h9; omega), if_neg (fun h9 => hlv0 h9.1)]; unfold kdC; rw [if_neg (by omega), if_neg (by omega), if_neg (by omega)]
                                              have f_o : μ1 o = some (hp_o 7 [.int (nI n), .ref (o + 1), .ref (o + 2), .ref (o + 3), .ref (o + 4), .ref (o + 5), .ref (o + 6), .int (nB on), .int (nI tz), .ref (o + 7), .int (nI se), .ref (o + 8), .ref (o + 9), .int (nI (rdK sb se)), .int (nI kl), .int (nI 0), .ref (o + 10), .int (nI sd), .ref (o + 11), .int (nI hd), .ref (o + 12), .int (nI an), .ref (o + 13), .int (nI fm), .int (nI fo), .ref (o + 14), .ref (o + 15), .int (nI kc), .ref (o + 16)]) := by rw [hK]; exact f_o
                                              exact hp_rv hx hb hr hlocks hS hH (⟨rfl, _, _, _, _, f_o, f_9, f_10, fun h9 => h9.elim (fun h9 => absurd (hK.symm.trans h9) (by decide)) (fun h9 => absurd (hK.symm.trans h9) (by decide)), fun h9 => absurd (hK.symm.trans h9) (by decide), fr⟩) dX11_understand_588
                                            · have c_579 : F = 194 := (nI_eq (by omega) (by omega)).mp c_579
                                              refine lv_aload_n hx hb dX11_understand_582 rfl (lv_at hl 0 rfl) ?_
                                              refine lv_bipush (v := nI 7) hx hb dX11_understand_583 (by decide) ?_
                                              refine hp_put hx hb hown hS.2.1 hH (P_X11_98.use hS) f_o rfl rfl (Nat.le_of_ble_eq_true rfl) dX11_understand_585 (fun H locs μ1 fz fn hH => ?_)
                                              have f_8 := (fn _ (by omega)).trans f_8
                                              have f_9 := (fn _ (by omega)).trans f_9
                                              have f_10 := (fn _ (by omega)).trans f_10
                                              have f_o : μ1 o = some (hp_o 7 [.int (nI n), .ref (o + 1), .ref (o + 2), .ref (o + 3), .ref (o + 4), .ref (o + 5), .ref (o + 6), .int (nB on), .int (nI tz), .ref (o + 7), .int (nI se), .ref (o + 8), .ref (o + 9), .int (nI 7), .int (nI kl), .int (nI 0), .ref (o + 10), .int (nI sd), .ref (o + 11), .int (nI hd), .ref (o + 12), .int (nI an), .ref (o + 13), .int (nI fm), .int (nI fo), .ref (o + 14), .ref (o + 15), .int (nI kc), .ref (o + 16)]) := fz
                                              have fr := hp_eqM.put (k := 0) fr (by decide) fn
                                              clear fz fn
                                              have hK : rdK sb se = 7 := by rw [hKg, if_neg (fun h9 => hlv0 h9.1), if_neg (fun h9 => by rw [hc0] at h9; omega), if_neg (fun h9 => hlv0 h9.1)]; unfold kdC; rw [if_neg (by omega), if_neg (by omega), if_pos (by omega)]
                                              have f_o : μ1 o = some (hp_o 7 [.int (nI n), .ref (o + 1), .ref (o + 2), .ref (o + 3), .ref (o + 4), .ref (o + 5), .ref (o + 6), .int (nB on), .int (nI tz), .ref (o + 7), .int (nI se), .ref (o + 8), .ref (o + 9), .int (nI (rdK sb se)), .int (nI kl), .int (nI 0), .ref (o + 10), .int (nI sd), .ref (o + 11), .int (nI hd), .ref (o + 12), .int (nI an), .ref (o + 13), .int (nI fm), .int (nI fo), .ref (o + 14), .ref (o + 15), .int (nI kc), .ref (o + 16)]) := by rw [hK]; exact f_o
                                              exact hp_rv hx hb hr hlocks hS hH (⟨rfl, _, _, _, _, f_o, f_9, f_10, fun h9 => h9.elim (fun h9 => absurd (hK.symm.trans h9) (by decide)) (fun h9 => absurd (hK.symm.trans h9) (by decide)), fun h9 => absurd (hK.symm.trans h9) (by decide), fr⟩) dX11_understand_588
                                        · have c_551 : (se / 9) = 4 := (nI_eq (by omega) (by omega)).mp c_551
                                          refine lv_iload_n hx hb dX11_understand_554 rfl (lv_at hl 2 rfl) ?_
                                          refine lv_sipush (v := nI 224) hx hb dX11_understand_555 (by decide) ?_
                                          refine lv_icmp_ne (tgt := 570) hx hb dX11_understand_558 (by decide) (fun c_558 => ?_) (fun c_558 => ?_)
                                          · have c_558 : ¬ (F = 224) := fun z => c_558 ((nI_eq (by omega) (by omega)).mpr z)
                                            refine lv_iload_n hx hb dX11_understand_570 rfl (lv_at hl 1 rfl) ?_
                                            refine lv_iconst (v := nI 3) hx hb dX11_understand_571 (by decide) ?_
                                            refine lv_icmp_ne (tgt := 588) hx hb dX11_understand_572 (by decide) (fun c_572 => ?_) (fun c_572 => ?_)
                                            · have c_572 : ¬ ((se / 9) = 3) := fun z => c_572 ((nI_eq (by omega) (by omega)).mpr z)
                                              have hK : rdK sb se = 0 := by rw [hKg, if_neg (fun h9 => hlv0 h9.1), if_neg (fun h9 => by rw [hc0] at h9; omega), if_neg (fun h9 => hlv0 h9.1)]; unfold kdC; rw [if_neg (by omega), if_neg (by omega), if_neg (by omega)]
                                              have f_o : μ1 o = some (hp_o 7 [.int (nI n), .ref (o + 1), .ref (o + 2), .ref (o + 3), .ref (o + 4), .ref (o + 5), .ref (o + 6), .int (nB on), .int (nI tz), .ref (o + 7), .int (nI se), .ref (o + 8), .ref (o + 9), .int (nI (rdK sb se)), .int (nI kl), .int (nI 0), .ref (o + 10), .int (nI sd), .ref (o + 11), .int (nI hd), .ref (o + 12), .int (nI an), .ref (o + 13), .int (nI fm), .int (nI fo), .ref (o + 14), .ref (o + 15), .int (nI kc), .ref (o + 16)]) := by rw [hK]; exact f_o
                                              exact hp_rv hx hb hr hlocks hS hH (⟨rfl, _, _, _, _, f_o, f_9, f_10, fun h9 => h9.elim (fun h9 => absurd (hK.symm.trans h9) (by decide)) (fun h9 => absurd (hK.symm.trans h9) (by decide)), fun h9 => absurd (hK.symm.trans h9) (by decide), fr⟩) dX11_understand_588
                                            · have c_572 : (se / 9) = 3 := (nI_eq (by omega) (by omega)).mp c_572
                                              refine lv_iload_n hx hb dX11_understand_575 rfl (lv_at hl 2 rfl) ?_
                                              refine lv_sipush (v := nI 194) hx hb dX11_understand_576 (by decide) ?_
                                              refine lv_icmp_ne (tgt := 588) hx hb dX11_understand_579 (by decide) (fun c_579 => ?_) (fun c_579 => ?_)
                                              · have c_579 : ¬ (F = 194) := fun z => c_579 ((nI_eq (by omega) (by omega)).mpr z)
                                                have hK : rdK sb se = 0 := by rw [hKg, if_neg (fun h9 => hlv0 h9.1), if_neg (fun h9 => by rw [hc0] at h9; omega), if_neg (fun h9 => hlv0 h9.1)]; unfold kdC; rw [if_neg (by omega), if_neg (by omega), if_neg (by omega)]
                                                have f_o : μ1 o = some (hp_o 7 [.int (nI n), .ref (o + 1), .ref (o + 2), .ref (o + 3), .ref (o + 4), .ref (o + 5), .ref (o + 6), .int (nB on), .int (nI tz), .ref (o + 7), .int (nI se), .ref (o + 8), .ref (o + 9), .int (nI (rdK sb se)), .int (nI kl), .int (nI 0), .ref (o + 10), .int (nI sd), .ref (o + 11), .int (nI hd), .ref (o + 12), .int (nI an), .ref (o + 13), .int (nI fm), .int (nI fo), .ref (o + 14), .ref (o + 15), .int (nI kc), .ref (o + 16)]) := by rw [hK]; exact f_o
                                                exact hp_rv hx hb hr hlocks hS hH (⟨rfl, _, _, _, _, f_o, f_9, f_10, fun h9 => h9.elim (fun h9 => absurd (hK.symm.trans h9) (by decide)) (fun h9 => absurd (hK.symm.trans h9) (by decide)), fun h9 => absurd (hK.symm.trans h9) (by decide), fr⟩) dX11_understand_588
                                              · have c_579 : F = 194 := (nI_eq (by omega) (by omega)).mp c_579
                                                refine lv_aload_n hx hb dX11_understand_582 rfl (lv_at hl 0 rfl) ?_
                                                refine lv_bipush (v := nI 7) hx hb dX11_understand_583 (by decide) ?_
                                                refine hp_put hx hb hown hS.2.1 hH (P_X11_98.use hS) f_o rfl rfl (Nat.le_of_ble_eq_true rfl) dX11_understand_585 (fun H locs μ1 fz fn hH => ?_)
                                                have f_8 := (fn _ (by omega)).trans f_8
                                                have f_9 := (fn _ (by omega)).trans f_9
                                                have f_10 := (fn _ (by omega)).trans f_10
                                                have f_o : μ1 o = some (hp_o 7 [.int (nI n), .ref (o + 1), .ref (o + 2), .ref (o + 3), .ref (o + 4), .ref (o + 5), .ref (o + 6), .int (nB on), .int (nI tz), .ref (o + 7), .int (nI se), .ref (o + 8), .ref (o + 9), .int (nI 7), .int (nI kl), .int (nI 0), .ref (o + 10), .int (nI sd), .ref (o + 11), .int (nI hd), .ref (o + 12), .int (nI an), .ref (o + 13), .int (nI fm), .int (nI fo), .ref (o + 14), .ref (o + 15), .int (nI kc), .ref (o + 16)]) := fz
                                                have fr := hp_eqM.put (k := 0) fr (by decide) fn
                                                clear fz fn
                                                have hK : rdK sb se = 7 := by rw [hKg, if_neg (fun h9 => hlv0 h9.1), if_neg (fun h9 => by rw [hc0] at h9; omega), if_neg (fun h9 => hlv0 h9.1)]; unfold kdC; rw [if_neg (by omega), if_neg (by omega), if_pos (by omega)]
                                                have f_o : μ1 o = some (hp_o 7 [.int (nI n), .ref (o + 1), .ref (o + 2), .ref (o + 3), .ref (o + 4), .ref (o + 5), .ref (o + 6), .int (nB on), .int (nI tz), .ref (o + 7), .int (nI se), .ref (o + 8), .ref (o + 9), .int (nI (rdK sb se)), .int (nI kl), .int (nI 0), .ref (o + 10), .int (nI sd), .ref (o + 11), .int (nI hd), .ref (o + 12), .int (nI an), .ref (o + 13), .int (nI fm), .int (nI fo), .ref (o + 14), .ref (o + 15), .int (nI kc), .ref (o + 16)]) := by rw [hK]; exact f_o
                                                exact hp_rv hx hb hr hlocks hS hH (⟨rfl, _, _, _, _, f_o, f_9, f_10, fun h9 => h9.elim (fun h9 => absurd (hK.symm.trans h9) (by decide)) (fun h9 => absurd (hK.symm.trans h9) (by decide)), fun h9 => absurd (hK.symm.trans h9) (by decide), fr⟩) dX11_understand_588
                                          · have c_558 : F = 224 := (nI_eq (by omega) (by omega)).mp c_558
                                            refine lv_aload_n hx hb dX11_understand_561 rfl (lv_at hl 0 rfl) ?_
                                            refine lv_bipush (v := nI 6) hx hb dX11_understand_562 (by decide) ?_
                                            refine hp_put hx hb hown hS.2.1 hH (P_X11_98.use hS) f_o rfl rfl (Nat.le_of_ble_eq_true rfl) dX11_understand_564 (fun H locs μ1 fz fn hH => ?_)
                                            have f_8 := (fn _ (by omega)).trans f_8
                                            have f_9 := (fn _ (by omega)).trans f_9
                                            have f_10 := (fn _ (by omega)).trans f_10
                                            have f_o : μ1 o = some (hp_o 7 [.int (nI n), .ref (o + 1), .ref (o + 2), .ref (o + 3), .ref (o + 4), .ref (o + 5), .ref (o + 6), .int (nB on), .int (nI tz), .ref (o + 7), .int (nI se), .ref (o + 8), .ref (o + 9), .int (nI 6), .int (nI kl), .int (nI 0), .ref (o + 10), .int (nI sd), .ref (o + 11), .int (nI hd), .ref (o + 12), .int (nI an), .ref (o + 13), .int (nI fm), .int (nI fo), .ref (o + 14), .ref (o + 15), .int (nI kc), .ref (o + 16)]) := fz
                                            have fr := hp_eqM.put (k := 0) fr (by decide) fn
                                            clear fz fn
                                            refine lv_goto (tgt := 588) hx hb dX11_understand_567 (by decide) ?_
                                            have hK : rdK sb se = 6 := by rw [hKg, if_neg (fun h9 => hlv0 h9.1), if_neg (fun h9 => by rw [hc0] at h9; omega), if_neg (fun h9 => hlv0 h9.1)]; unfold kdC; rw [if_neg (by omega), if_pos (by omega)]
                                            have f_o : μ1 o = some (hp_o 7 [.int (nI n), .ref (o + 1), .ref (o + 2), .ref (o + 3), .ref (o + 4), .ref (o + 5), .ref (o + 6), .int (nB on), .int (nI tz), .ref (o + 7), .int (nI se), .ref (o + 8), .ref (o + 9), .int (nI (rdK sb se)), .int (nI kl), .int (nI 0), .ref (o + 10), .int (nI sd), .ref (o + 11), .int (nI hd), .ref (o + 12), .int (nI an), .ref (o + 13), .int (nI fm), .int (nI fo), .ref (o + 14), .ref (o + 15), .int (nI kc), .ref (o + 16)]) := by rw [hK]; exact f_o
                                            exact hp_rv hx hb hr hlocks hS hH (⟨rfl, _, _, _, _, f_o, f_9, f_10, fun h9 => h9.elim (fun h9 => absurd (hK.symm.trans h9) (by decide)) (fun h9 => absurd (hK.symm.trans h9) (by decide)), fun _ => by rw [valN_va 8 (by omega), ← hS2]; exact hS0, fr⟩) dX11_understand_588
                                      · have c_529 : F = 80 := (nI_eq (by omega) (by omega)).mp c_529
                                        refine lv_aload_n hx hb dX11_understand_532 rfl (lv_at hl 0 rfl) ?_
                                        refine hp_get hx hb hown hS.2.1 hH (F_X11_39.use hS) f_o rfl dX11_understand_533 ?_
                                        refine lv_iconst (v := nI 1) hx hb dX11_understand_536 (by decide) ?_
                                        refine hp_ialdI hx hb hS.ai hH f_9 (by omega) (by omega) dX11_understand_537 ?_
                                        refine hp_eqi (z := nI S2) (hS0) ?_
                                        refine lv_if_ne (tgt := 549) hx hb dX11_understand_538 (by decide) (fun c_538 => ?_) (fun c_538 => ?_)
                                        · have c_538 : ¬ (S2 = 0) := nz_n (by omega) c_538
                                          refine lv_iload_n hx hb dX11_understand_549 rfl (lv_at hl 1 rfl) ?_
                                          refine lv_iconst (v := nI 4) hx hb dX11_understand_550 (by decide) ?_
                                          refine lv_icmp_ne (tgt := 570) hx hb dX11_understand_551 (by decide) (fun c_551 => ?_) (fun c_551 => ?_)
                                          · have c_551 : ¬ ((se / 9) = 4) := fun z => c_551 ((nI_eq (by omega) (by omega)).mpr z)
                                            refine lv_iload_n hx hb dX11_understand_570 rfl (lv_at hl 1 rfl) ?_
                                            refine lv_iconst (v := nI 3) hx hb dX11_understand_571 (by decide) ?_
                                            refine lv_icmp_ne (tgt := 588) hx hb dX11_understand_572 (by decide) (fun c_572 => ?_) (fun c_572 => ?_)
                                            · have c_572 : ¬ ((se / 9) = 3) := fun z => c_572 ((nI_eq (by omega) (by omega)).mpr z)
                                              have hK : rdK sb se = 0 := by rw [hKg, if_neg (fun h9 => hlv0 h9.1), if_neg (fun h9 => by rw [hc0] at h9; omega), if_neg (fun h9 => hlv0 h9.1)]; unfold kdC; rw [if_neg (by omega), if_neg (by omega), if_neg (by omega)]
                                              have f_o : μ1 o = some (hp_o 7 [.int (nI n), .ref (o + 1), .ref (o + 2), .ref (o + 3), .ref (o + 4), .ref (o + 5), .ref (o + 6), .int (nB on), .int (nI tz), .ref (o + 7), .int (nI se), .ref (o + 8), .ref (o + 9), .int (nI (rdK sb se)), .int (nI kl), .int (nI 0), .ref (o + 10), .int (nI sd), .ref (o + 11), .int (nI hd), .ref (o + 12), .int (nI an), .ref (o + 13), .int (nI fm), .int (nI fo), .ref (o + 14), .ref (o + 15), .int (nI kc), .ref (o + 16)]) := by rw [hK]; exact f_o
                                              exact hp_rv hx hb hr hlocks hS hH (⟨rfl, _, _, _, _, f_o, f_9, f_10, fun h9 => h9.elim (fun h9 => absurd (hK.symm.trans h9) (by decide)) (fun h9 => absurd (hK.symm.trans h9) (by decide)), fun h9 => absurd (hK.symm.trans h9) (by decide), fr⟩) dX11_understand_588
                                            · have c_572 : (se / 9) = 3 := (nI_eq (by omega) (by omega)).mp c_572
                                              refine lv_iload_n hx hb dX11_understand_575 rfl (lv_at hl 2 rfl) ?_
                                              refine lv_sipush (v := nI 194) hx hb dX11_understand_576 (by decide) ?_
                                              refine lv_icmp_ne (tgt := 588) hx hb dX11_understand_579 (by decide) (fun c_579 => ?_) (fun c_579 => ?_)
                                              · have c_579 : ¬ (F = 194) := fun z => c_579 ((nI_eq (by omega) (by omega)).mpr z)
                                                have hK : rdK sb se = 0 := by rw [hKg, if_neg (fun h9 => hlv0 h9.1), if_neg (fun h9 => by rw [hc0] at h9; omega), if_neg (fun h9 => hlv0 h9.1)]; unfold kdC; rw [if_neg (by omega), if_neg (by omega), if_neg (by omega)]
                                                have f_o : μ1 o = some (hp_o 7 [.int (nI n), .ref (o + 1), .ref (o + 2), .ref (o + 3), .ref (o + 4), .ref (o + 5), .ref (o + 6), .int (nB on), .int (nI tz), .ref (o + 7), .int (nI se), .ref (o + 8), .ref (o + 9), .int (nI (rdK sb se)), .int (nI kl), .int (nI 0), .ref (o + 10), .int (nI sd), .ref (o + 11), .int (nI hd), .ref (o + 12), .int (nI an), .ref (o + 13), .int (nI fm), .int (nI fo), .ref (o + 14), .ref (o + 15), .int (nI kc), .ref (o + 16)]) := by rw [hK]; exact f_o
                                                exact hp_rv hx hb hr hlocks hS hH (⟨rfl, _, _, _, _, f_o, f_9, f_10, fun h9 => h9.elim (fun h9 => absurd (hK.symm.trans h9) (by decide)) (fun h9 => absurd (hK.symm.trans h9) (by decide)), fun h9 => absurd (hK.symm.trans h9) (by decide), fr⟩) dX11_understand_588
                                              · have c_579 : F = 194 := (nI_eq (by omega) (by omega)).mp c_579
                                                refine lv_aload_n hx hb dX11_understand_582 rfl (lv_at hl 0 rfl) ?_
                                                refine lv_bipush (v := nI 7) hx hb dX11_understand_583 (by decide) ?_
                                                refine hp_put hx hb hown hS.2.1 hH (P_X11_98.use hS) f_o rfl rfl (Nat.le_of_ble_eq_true rfl) dX11_understand_585 (fun H locs μ1 fz fn hH => ?_)
                                                have f_8 := (fn _ (by omega)).trans f_8
                                                have f_9 := (fn _ (by omega)).trans f_9
                                                have f_10 := (fn _ (by omega)).trans f_10
                                                have f_o : μ1 o = some (hp_o 7 [.int (nI n), .ref (o + 1), .ref (o + 2), .ref (o + 3), .ref (o + 4), .ref (o + 5), .ref (o + 6), .int (nB on), .int (nI tz), .ref (o + 7), .int (nI se), .ref (o + 8), .ref (o + 9), .int (nI 7), .int (nI kl), .int (nI 0), .ref (o + 10), .int (nI sd), .ref (o + 11), .int (nI hd), .ref (o + 12), .int (nI an), .ref (o + 13), .int (nI fm), .int (nI fo), .ref (o + 14), .ref (o + 15), .int (nI kc), .ref (o + 16)]) := fz
                                                have fr := hp_eqM.put (k := 0) fr (by decide) fn
                                                clear fz fn
                                                have hK : rdK sb se = 7 := by rw [hKg, if_neg (fun h9 => hlv0 h9.1), if_neg (fun h9 => by rw [hc0] at h9; omega), if_neg (fun h9 => hlv0 h9.1)]; unfold kdC; rw [if_neg (by omega), if_neg (by omega), if_pos (by omega)]
                                                have f_o : μ1 o = some (hp_o 7 [.int (nI n), .ref (o + 1), .ref (o + 2), .ref (o + 3), .ref (o + 4), .ref (o + 5), .ref (o + 6), .int (nB on), .int (nI tz), .ref (o + 7), .int (nI se), .ref (o + 8), .ref (o + 9), .int (nI (rdK sb se)), .int (nI kl), .int (nI 0), .ref (o + 10), .int (nI sd), .ref (o + 11), .int (nI hd), .ref (o + 12), .int (nI an), .ref (o + 13), .int (nI fm), .int (nI fo), .ref (o + 14), .ref (o + 15), .int (nI kc), .ref (o + 16)]) := by rw [hK]; exact f_o
                                                exact hp_rv hx hb hr hlocks hS hH (⟨rfl, _, _, _, _, f_o, f_9, f_10, fun h9 => h9.elim (fun h9 => absurd (hK.symm.trans h9) (by decide)) (fun h9 => absurd (hK.symm.trans h9) (by decide)), fun h9 => absurd (hK.symm.trans h9) (by decide), fr⟩) dX11_understand_588
                                          · have c_551 : (se / 9) = 4 := (nI_eq (by omega) (by omega)).mp c_551
                                            refine lv_iload_n hx hb dX11_understand_554 rfl (lv_at hl 2 rfl) ?_
                                            refine lv_sipush (v := nI 224) hx hb dX11_understand_555 (by decide) ?_
                                            refine lv_icmp_ne (tgt := 570) hx hb dX11_understand_558 (by decide) (fun c_558 => ?_) (fun c_558 => ?_)
                                            · have c_558 : ¬ (F = 224) := fun z => c_558 ((nI_eq (by omega) (by omega)).mpr z)
                                              refine lv_iload_n hx hb dX11_understand_570 rfl (lv_at hl 1 rfl) ?_
                                              refine lv_iconst (v := nI 3) hx hb dX11_understand_571 (by decide) ?_
                                              refine lv_icmp_ne (tgt := 588) hx hb dX11_understand_572 (by decide) (fun c_572 => ?_) (fun c_572 => ?_)
                                              · have c_572 : ¬ ((se / 9) = 3) := fun z => c_572 ((nI_eq (by omega) (by omega)).mpr z)
                                                have hK : rdK sb se = 0 := by rw [hKg, if_neg (fun h9 => hlv0 h9.1), if_neg (fun h9 => by rw [hc0] at h9; omega), if_neg (fun h9 => hlv0 h9.1)]; unfold kdC; rw [if_neg (by omega), if_neg (by omega), if_neg (by omega)]
                                                have f_o : μ1 o = some (hp_o 7 [.int (nI n), .ref (o + 1), .ref (o + 2), .ref (o + 3), .ref (o + 4), .ref (o + 5), .ref (o + 6), .int (nB on), .int (nI tz), .ref (o + 7), .int (nI se), .ref (o + 8), .ref (o + 9), .int (nI (rdK sb se)), .int (nI kl), .int (nI 0), .ref (o + 10), .int (nI sd), .ref (o + 11), .int (nI hd), .ref (o + 12), .int (nI an), .ref (o + 13), .int (nI fm), .int (nI fo), .ref (o + 14), .ref (o + 15), .int (nI kc), .ref (o + 16)]) := by rw [hK]; exact f_o
                                                exact hp_rv hx hb hr hlocks hS hH (⟨rfl, _, _, _, _, f_o, f_9, f_10, fun h9 => h9.elim (fun h9 => absurd (hK.symm.trans h9) (by decide)) (fun h9 => absurd (hK.symm.trans h9) (by decide)), fun h9 => absurd (hK.symm.trans h9) (by decide), fr⟩) dX11_understand_588
                                              · have c_572 : (se / 9) = 3 := (nI_eq (by omega) (by omega)).mp c_572
                                                refine lv_iload_n hx hb dX11_understand_575 rfl (lv_at hl 2 rfl) ?_
                                                refine lv_sipush (v := nI 194) hx hb dX11_understand_576 (by decide) ?_
                                                refine lv_icmp_ne (tgt := 588) hx hb dX11_understand_579 (by decide) (fun c_579 => ?_) (fun c_579 => ?_)
                                                · have c_579 : ¬ (F = 194) := fun z => c_579 ((nI_eq (by omega) (by omega)).mpr z)
                                                  have hK : rdK sb se = 0 := by rw [hKg, if_neg (fun h9 => hlv0 h9.1), if_neg (fun h9 => by rw [hc0] at h9; omega), if_neg (fun h9 => hlv0 h9.1)]; unfold kdC; rw [if_neg (by omega), if_neg (by omega), if_neg (by omega)]
                                                  have f_o : μ1 o = some (hp_o 7 [.int (nI n), .ref (o + 1), .ref (o + 2), .ref (o + 3), .ref (o + 4), .ref (o + 5), .ref (o + 6), .int (nB on), .int (nI tz), .ref (o + 7), .int (nI se), .ref (o + 8), .ref (o + 9), .int (nI (rdK sb se)), .int (nI kl), .int (nI 0), .ref (o + 10), .int (nI sd), .ref (o + 11), .int (nI hd), .ref (o + 12), .int (nI an), .ref (o + 13), .int (nI fm), .int (nI fo), .ref (o + 14), .ref (o + 15), .int (nI kc), .ref (o + 16)]) := by rw [hK]; exact f_o
                                                  exact hp_rv hx hb hr hlocks hS hH (⟨rfl, _, _, _, _, f_o, f_9, f_10, fun h9 => h9.elim (fun h9 => absurd (hK.symm.trans h9) (by decide)) (fun h9 => absurd (hK.symm.trans h9) (by decide)), fun h9 => absurd (hK.symm.trans h9) (by decide), fr⟩) dX11_understand_588
                                                · have c_579 : F = 194 := (nI_eq (by omega) (by omega)).mp c_579
                                                  refine lv_aload_n hx hb dX11_understand_582 rfl (lv_at hl 0 rfl) ?_
                                                  refine lv_bipush (v := nI 7) hx hb dX11_understand_583 (by decide) ?_
                                                  refine hp_put hx hb hown hS.2.1 hH (P_X11_98.use hS) f_o rfl rfl (Nat.le_of_ble_eq_true rfl) dX11_understand_585 (fun H locs μ1 fz fn hH => ?_)
                                                  have f_8 := (fn _ (by omega)).trans f_8
                                                  have f_9 := (fn _ (by omega)).trans f_9
                                                  have f_10 := (fn _ (by omega)).trans f_10
                                                  have f_o : μ1 o = some (hp_o 7 [.int (nI n), .ref (o + 1), .ref (o + 2), .ref (o + 3), .ref (o + 4), .ref (o + 5), .ref (o + 6), .int (nB on), .int (nI tz), .ref (o + 7), .int (nI se), .ref (o + 8), .ref (o + 9), .int (nI 7), .int (nI kl), .int (nI 0), .ref (o + 10), .int (nI sd), .ref (o + 11), .int (nI hd), .ref (o + 12), .int (nI an), .ref (o + 13), .int (nI fm), .int (nI fo), .ref (o + 14), .ref (o + 15), .int (nI kc), .ref (o + 16)]) := fz
                                                  have fr := hp_eqM.put (k := 0) fr (by decide) fn
                                                  clear fz fn
                                                  have hK : rdK sb se = 7 := by rw [hKg, if_neg (fun h9 => hlv0 h9.1), if_neg (fun h9 => by rw [hc0] at h9; omega), if_neg (fun h9 => hlv0 h9.1)]; unfold kdC; rw [if_neg (by omega), if_neg (by omega), if_pos (by omega)]
                                                  have f_o : μ1 o = some (hp_o 7 [.int (nI n), .ref (o + 1), .ref (o + 2), .ref (o + 3), .ref (o + 4), .ref (o + 5), .ref (o + 6), .int (nB on), .int (nI tz), .ref (o + 7), .int (nI se), .ref (o + 8), .ref (o + 9), .int (nI (rdK sb se)), .int (nI kl), .int (nI 0), .ref (o + 10), .int (nI sd), .ref (o + 11), .int (nI hd), .ref (o + 12), .int (nI an), .ref (o + 13), .int (nI fm), .int (nI fo), .ref (o + 14), .ref (o + 15), .int (nI kc), .ref (o + 16)]) := by rw [hK]; exact f_o
                                                  exact hp_rv hx hb hr hlocks hS hH (⟨rfl, _, _, _, _, f_o, f_9, f_10, fun h9 => h9.elim (fun h9 => absurd (hK.symm.trans h9) (by decide)) (fun h9 => absurd (hK.symm.trans h9) (by decide)), fun h9 => absurd (hK.symm.trans h9) (by decide), fr⟩) dX11_understand_588
                                            · have c_558 : F = 224 := (nI_eq (by omega) (by omega)).mp c_558
                                              refine lv_aload_n hx hb dX11_understand_561 rfl (lv_at hl 0 rfl) ?_
                                              refine lv_bipush (v := nI 6) hx hb dX11_understand_562 (by decide) ?_
                                              refine hp_put hx hb hown hS.2.1 hH (P_X11_98.use hS) f_o rfl rfl (Nat.le_of_ble_eq_true rfl) dX11_understand_564 (fun H locs μ1 fz fn hH => ?_)
                                              have f_8 := (fn _ (by omega)).trans f_8
                                              have f_9 := (fn _ (by omega)).trans f_9
                                              have f_10 := (fn _ (by omega)).trans f_10
                                              have f_o : μ1 o = some (hp_o 7 [.int (nI n), .ref (o + 1), .ref (o + 2), .ref (o + 3), .ref (o + 4), .ref (o + 5), .ref (o + 6), .int (nB on), .int (nI tz), .ref (o + 7), .int (nI se), .ref (o + 8), .ref (o + 9), .int (nI 6), .int (nI kl), .int (nI 0), .ref (o + 10), .int (nI sd), .ref (o + 11), .int (nI hd), .ref (o + 12), .int (nI an), .ref (o + 13), .int (nI fm), .int (nI fo), .ref (o + 14), .ref (o + 15), .int (nI kc), .ref (o + 16)]) := fz
                                              have fr := hp_eqM.put (k := 0) fr (by decide) fn
                                              clear fz fn
                                              refine lv_goto (tgt := 588) hx hb dX11_understand_567 (by decide) ?_
                                              have hK : rdK sb se = 6 := by rw [hKg, if_neg (fun h9 => hlv0 h9.1), if_neg (fun h9 => by rw [hc0] at h9; omega), if_neg (fun h9 => hlv0 h9.1)]; unfold kdC; rw [if_neg (by omega), if_pos (by omega)]
                                              have f_o : μ1 o = some (hp_o 7 [.int (nI n), .ref (o + 1), .ref (o + 2), .ref (o + 3), .ref (o + 4), .ref (o + 5), .ref (o + 6), .int (nB on), .int (nI tz), .ref (o + 7), .int (nI se), .ref (o + 8), .ref (o + 9), .int (nI (rdK sb se)), .int (nI kl), .int (nI 0), .ref (o + 10), .int (nI sd), .ref (o + 11), .int (nI hd), .ref (o + 12), .int (nI an), .ref (o + 13), .int (nI fm), .int (nI fo), .ref (o + 14), .ref (o + 15), .int (nI kc), .ref (o + 16)]) := by rw [hK]; exact f_o
                                              exact hp_rv hx hb hr hlocks hS hH (⟨rfl, _, _, _, _, f_o, f_9, f_10, fun h9 => h9.elim (fun h9 => absurd (hK.symm.trans h9) (by decide)) (fun h9 => absurd (hK.symm.trans h9) (by decide)), fun _ => by rw [valN_va 8 (by omega), ← hS2]; exact hS0, fr⟩) dX11_understand_588
                                        · have c_538 : S2 = 0 := nz_0 (by omega) c_538
                                          refine lv_aload_n hx hb dX11_understand_541 rfl (lv_at hl 0 rfl) ?_
                                          refine lv_iconst (v := nI 5) hx hb dX11_understand_542 (by decide) ?_
                                          refine hp_put hx hb hown hS.2.1 hH (P_X11_98.use hS) f_o rfl rfl (Nat.le_of_ble_eq_true rfl) dX11_understand_543 (fun H locs μ1 fz fn hH => ?_)
                                          have f_8 := (fn _ (by omega)).trans f_8
                                          have f_9 := (fn _ (by omega)).trans f_9
                                          have f_10 := (fn _ (by omega)).trans f_10
                                          have f_o : μ1 o = some (hp_o 7 [.int (nI n), .ref (o + 1), .ref (o + 2), .ref (o + 3), .ref (o + 4), .ref (o + 5), .ref (o + 6), .int (nB on), .int (nI tz), .ref (o + 7), .int (nI se), .ref (o + 8), .ref (o + 9), .int (nI 5), .int (nI kl), .int (nI 0), .ref (o + 10), .int (nI sd), .ref (o + 11), .int (nI hd), .ref (o + 12), .int (nI an), .ref (o + 13), .int (nI fm), .int (nI fo), .ref (o + 14), .ref (o + 15), .int (nI kc), .ref (o + 16)]) := fz
                                          have fr := hp_eqM.put (k := 0) fr (by decide) fn
                                          clear fz fn
                                          refine lv_goto (tgt := 588) hx hb dX11_understand_546 (by decide) ?_
                                          have hK : rdK sb se = 5 := by rw [hKg, if_neg (fun h9 => hlv0 h9.1), if_neg (fun h9 => by rw [hc0] at h9; omega), if_neg (fun h9 => hlv0 h9.1)]; unfold kdC; rw [if_pos (by omega)]
                                          have f_o : μ1 o = some (hp_o 7 [.int (nI n), .ref (o + 1), .ref (o + 2), .ref (o + 3), .ref (o + 4), .ref (o + 5), .ref (o + 6), .int (nB on), .int (nI tz), .ref (o + 7), .int (nI se), .ref (o + 8), .ref (o + 9), .int (nI (rdK sb se)), .int (nI kl), .int (nI 0), .ref (o + 10), .int (nI sd), .ref (o + 11), .int (nI hd), .ref (o + 12), .int (nI an), .ref (o + 13), .int (nI fm), .int (nI fo), .ref (o + 14), .ref (o + 15), .int (nI kc), .ref (o + 16)]) := by rw [hK]; exact f_o
                                          exact hp_rv hx hb hr hlocks hS hH (⟨rfl, _, _, _, _, f_o, f_9, f_10, fun h9 => h9.elim (fun h9 => absurd (hK.symm.trans h9) (by decide)) (fun h9 => absurd (hK.symm.trans h9) (by decide)), fun h9 => absurd (hK.symm.trans h9) (by decide), fr⟩) dX11_understand_588
                                  · exact absurd c_444 (by decide)
                                · have c_439 : ¬ ((vaN sb (9 * (se / 9 - 1)) 8) = ((crcN sb se (se / 9 - 2)) / 256)) := fun z => c_439 ((nI_eq (by omega) (by omega)).mpr z)
                                  have hK : rdK sb se = 0 := by rw [hKg, if_neg (fun h9 => hlv0 h9.1), if_pos (Or.inr (fun h9 => by have h8 := hc9.mp h9; omega))]
                                  have f_o : μ1 o = some (hp_o 7 [.int (nI n), .ref (o + 1), .ref (o + 2), .ref (o + 3), .ref (o + 4), .ref (o + 5), .ref (o + 6), .int (nB on), .int (nI tz), .ref (o + 7), .int (nI se), .ref (o + 8), .ref (o + 9), .int (nI (rdK sb se)), .int (nI kl), .int (nI 0), .ref (o + 10), .int (nI sd), .ref (o + 11), .int (nI hd), .ref (o + 12), .int (nI an), .ref (o + 13), .int (nI fm), .int (nI fo), .ref (o + 14), .ref (o + 15), .int (nI kc), .ref (o + 16)]) := by rw [hK]; exact f_o
                                  exact hp_rv hx hb hr hlocks hS hH (⟨rfl, _, _, _, _, f_o, f_9, f_10, fun h9 => h9.elim (fun h9 => absurd (hK.symm.trans h9) (by decide)) (fun h9 => absurd (hK.symm.trans h9) (by decide)), fun h9 => absurd (hK.symm.trans h9) (by decide), fr⟩) dX11_understand_442
                            · have c_385 : ¬ (((se / 9) - 2) ≤ i2) := fun z => c_385 ((nI_leI (by omega) (by omega)).mpr z)
                              refine lv_iload hx hb dX11_understand_388 (lv_at hl 4 rfl) ?_
                              refine lv_aload_n hx hb dX11_understand_390 rfl (lv_at hl 0 rfl) ?_
                              refine hp_get hx hb hown hS.2.1 hH (F_X11_39.use hS) f_o rfl dX11_understand_391 ?_
                              refine lv_iload hx hb dX11_understand_394 (lv_at hl 5 rfl) ?_
                              refine hp_ialdI hx hb hS.ai hH f_9 (by omega) (by omega) dX11_understand_396 ?_
                              refine hp_eqi (z := nI (vaN sb (9 * i2) 8)) (hB _ (by omega)) ?_
                              have hv8 : vaN sb (9 * i2) 8 < 256 := vaN_lt (n := 8) (fun j _ => h01 _)
                              refine hp_kip (hp_runS (As := [.int (nI (crcN sb se i2)), .int (nI (vaN sb (9 * i2) 8))]) (rest := []) hx hb hml hown hS hH (c_X11_checked l X (crcN_lt _ _ _) hv8) M_X11_94 S_X11_checked rfl hl.1 rfl (Nat.le_of_ble_eq_true rfl) dX11_understand_397 ⟨Nat.le_of_ble_eq_true rfl, Nat.le_of_ble_eq_true rfl⟩ ⟨Nat.le_of_ble_eq_true rfl, Nat.le_of_ble_eq_true rfl⟩) hH (fun H locs hH => ?_)
                              refine hp_eqi (z := nI (crcN sb se (i2 + 1))) (by rw [crcN, valN_va 8 (by omega)]) ?_
                              refine lv_istore (lv' := [(4, .int (nI (crcN sb se (i2 + 1)))), (0, .ref o), (1, .int (nI (se / 9))), (2, .int (nI F)), (3, .int (nI 0)), (5, .int (nI i2))]) hx hb dX11_understand_400 hl (by decide) rfl (fun ls hl => ?_)
                              refine lv_iinc (v := nI (i2 + 1)) (lv' := [(5, .int (nI (i2 + 1))), (4, .int (nI (crcN sb se (i2 + 1)))), (0, .ref o), (1, .int (nI (se / 9))), (2, .int (nI F)), (3, .int (nI 0))]) hx hb dX11_understand_402 hl (k := 5) rfl (nI_add _ 1) (by decide) rfl (fun ls hl => ?_)
                              refine lv_goto (tgt := 380) hx hb dX11_understand_405 (by decide) ?_
                              exact ih380 (i2 + 1) (by omega) (by omega) _ _ _  hH (lv_sub hl [2, 3, 4, 5, 1, 0] rfl)
                        exact lp_380 ((se / 9 - 2 - 0) + 1) 0 (Nat.zero_le _) (Nat.lt_succ_self _) _ _ _  hH (lv_sub hl [4, 5, 3, 2, 1, 0] rfl)
                      · have c_368 : ¬ (3 ≤ (se / 9)) := fun z => c_368 ((nI_leI (by omega) (by omega)).mpr z)
                        have hK : rdK sb se = 0 := by rw [hKg, if_neg (fun h9 => hlv0 h9.1)]; split; rfl; rename_i h8; rw [if_neg (fun h9 => by omega)]; unfold kdC; rw [if_neg (by omega), if_neg (by omega), if_neg (by omega)]
                        have f_o : μ1 o = some (hp_o 7 [.int (nI n), .ref (o + 1), .ref (o + 2), .ref (o + 3), .ref (o + 4), .ref (o + 5), .ref (o + 6), .int (nB on), .int (nI tz), .ref (o + 7), .int (nI se), .ref (o + 8), .ref (o + 9), .int (nI (rdK sb se)), .int (nI kl), .int (nI 0), .ref (o + 10), .int (nI sd), .ref (o + 11), .int (nI hd), .ref (o + 12), .int (nI an), .ref (o + 13), .int (nI fm), .int (nI fo), .ref (o + 14), .ref (o + 15), .int (nI kc), .ref (o + 16)]) := by rw [hK]; exact f_o
                        exact hp_rv hx hb hr hlocks hS hH (⟨rfl, _, _, _, _, f_o, f_9, f_10, fun h9 => h9.elim (fun h9 => absurd (hK.symm.trans h9) (by decide)) (fun h9 => absurd (hK.symm.trans h9) (by decide)), fun h9 => absurd (hK.symm.trans h9) (by decide), fr⟩) dX11_understand_371
                  · exact absurd c_161 (by decide)
                · have c_151 : F = 151 := (nI_eq (by omega) (by omega)).mp c_151
                  have hlv : lvOf F = (F - 145) / 2 := by rw [show F = 151 by omega]; rfl
                  have hlv0 : 0 < lvOf F := by rw [show F = 151 by omega]; decide
                  have hFe : F = 147 ∨ F = 149 ∨ F = 151 := by omega
                  refine lv_iconst (v := nI 1) hx hb dX11_understand_154 (by decide) ?_
                  refine lv_goto (tgt := 159) hx hb dX11_understand_155 (by decide) ?_
                  refine lv_istore_n (lv' := [(3, .int (nI 1)), (2, .int (nI F)), (0, .ref o), (1, .int (nI (se / 9)))]) hx hb dX11_understand_159 rfl hl (by decide) rfl (fun ls hl => ?_)
                  refine lv_iload_n hx hb dX11_understand_160 rfl (lv_at hl 0 rfl) ?_
                  refine lv_if_eq (tgt := 356) hx hb dX11_understand_161 (by decide) (fun c_161 => ?_) (fun c_161 => ?_)
                  · exact absurd c_161 (by decide)
                  · have c_161 : ¬ (1 = 0) := nz_n (by omega) c_161
                    refine lv_aload_n hx hb dX11_understand_164 rfl (lv_at hl 2 rfl) ?_
                    refine hp_get hx hb hown hS.2.1 hH (F_X11_39.use hS) f_o rfl dX11_understand_165 ?_
                    refine lv_iconst (v := nI 1) hx hb dX11_understand_168 (by decide) ?_
                    refine hp_ialdI hx hb hS.ai hH f_9 (by omega) (by omega) dX11_understand_169 ?_
                    refine hp_eqi (z := nI S2) (hS0) ?_
                    refine lv_bipush (v := nI 112) hx hb dX11_understand_170 (by decide) ?_
                    refine lv_icmp_eq (tgt := 356) hx hb dX11_understand_172 (by decide) (fun c_172 => ?_) (fun c_172 => ?_)
                    · have c_172 : S2 = 112 := (nI_eq (by omega) (by omega)).mp c_172
                      refine lv_aload_n hx hb dX11_understand_356 rfl (lv_at hl 2 rfl) ?_
                      refine hp_get hx hb hown hS.2.1 hH (F_X11_104.use hS) f_o rfl dX11_understand_357 ?_
                      refine lv_bipush (v := nI 9) hx hb dX11_understand_360 (by decide) ?_
                      refine lv_irem hx hb dX11_understand_362 (nI_ne0 (by omega) (by omega)) ?_
                      refine hp_eqi (z := nI (se % 9)) (pk_rem (by omega) (by omega) (by omega)) ?_
                      refine lv_if_ne (tgt := 371) hx hb dX11_understand_363 (by decide) (fun c_363 => ?_) (fun c_363 => ?_)
                      · have c_363 : ¬ (se % 9 = 0) := nz_n (by omega) c_363
                        have hK : rdK sb se = 0 := by rw [hKg, if_neg (fun h9 => by omega)]; split; rfl; rename_i h8; rw [if_neg (fun h9 => by omega)]; unfold kdC; rw [if_neg (by omega), if_neg (by omega), if_neg (by omega)]
                        have f_o : μ1 o = some (hp_o 7 [.int (nI n), .ref (o + 1), .ref (o + 2), .ref (o + 3), .ref (o + 4), .ref (o + 5), .ref (o + 6), .int (nB on), .int (nI tz), .ref (o + 7), .int (nI se), .ref (o + 8), .ref (o + 9), .int (nI (rdK sb se)), .int (nI kl), .int (nI 0), .ref (o + 10), .int (nI sd), .ref (o + 11), .int (nI hd), .ref (o + 12), .int (nI an), .ref (o + 13), .int (nI fm), .int (nI fo), .ref (o + 14), .ref (o + 15), .int (nI kc), .ref (o + 16)]) := by rw [hK]; exact f_o
                        exact hp_rv hx hb hr hlocks hS hH (⟨rfl, _, _, _, _, f_o, f_9, f_10, fun h9 => h9.elim (fun h9 => absurd (hK.symm.trans h9) (by decide)) (fun h9 => absurd (hK.symm.trans h9) (by decide)), fun h9 => absurd (hK.symm.trans h9) (by decide), fr⟩) dX11_understand_371
                      · have c_363 : (se % 9) = 0 := nz_0 (by omega) c_363
                        refine lv_iload_n hx hb dX11_understand_366 rfl (lv_at hl 3 rfl) ?_
                        refine lv_iconst (v := nI 3) hx hb dX11_understand_367 (by decide) ?_
                        refine lv_icmp_ge (tgt := 372) hx hb dX11_understand_368 (by decide) (fun c_368 => ?_) (fun c_368 => ?_)
                        · have c_368 : 3 ≤ (se / 9) := (nI_leI (by omega) (by omega)).mp c_368
                          refine lv_sipush (v := nI 25443) hx hb dX11_understand_372 (by decide) ?_
                          refine lv_istore (lv' := [(4, .int (nI 25443)), (3, .int (nI 1)), (2, .int (nI F)), (0, .ref o), (1, .int (nI (se / 9)))]) hx hb dX11_understand_375 hl (by decide) rfl (fun ls hl => ?_)
                          refine lv_iconst (v := nI 0) hx hb dX11_understand_377 (by decide) ?_
                          refine lv_istore (lv' := [(5, .int (nI 0)), (4, .int (nI 25443)), (3, .int (nI 1)), (2, .int (nI F)), (0, .ref o), (1, .int (nI (se / 9)))]) hx hb dX11_understand_378 hl (by decide) rfl (fun ls hl => ?_)
                          have lp_380 : ∀ (kk380 : Nat) (i2 : Nat), (i2 ≤ se / 9 - 2) → (se / 9 - 2 - i2) < kk380 → ∀ (H : Heap) (locs : List Loc) (ls : Array Slot), hp_w X cls μ1 nx H locs → lv_has ls 7 [(0, .ref o), (1, .int (nI (se / 9))), (2, .int (nI F)), (3, .int (nI 1)), (4, .int (nI (crcN sb se i2))), (5, .int (nI i2))] → W p l e { frames := 2, cells := 0, slots := 0, locals := 80 } s m [.ref o].toArray below meth c H locs 0 0 (MQ below (hq_v X (po_v nx (fun z => ∃ (kl9 tc9 : Nat) (B9 : Nat → Int32) (D9 : Nat → Nat), z o = some (hp_o 7 [.int (nI n), .ref (o + 1), .ref (o + 2), .ref (o + 3), .ref (o + 4), .ref (o + 5), .ref (o + 6), .int (nB on), .int (nI tz), .ref (o + 7), .int (nI se), .ref (o + 8), .ref (o + 9), .int (nI (rdK sb se)), .int (nI kl9), .int (nI tc9), .ref (o + 10), .int (nI sd), .ref (o + 11), .int (nI hd), .ref (o + 12), .int (nI an), .ref (o + 13), .int (nI fm), .int (nI fo), .ref (o + 14), .ref (o + 15), .int (nI kc), .ref (o + 16)]) ∧ z (o + 9) = some (hp_i X 18 B9) ∧ z (o + 10) = some (hp_n X 48 D9) ∧ (rdK sb se = 3 ∨ rdK sb se = 4 → kl9 = lvOf (valN sb se 0 8) ∧ tc9 = rdC sb se ∧ ∀ k, k < tc9 → D9 k = rdT sb se / 2 ^ k % 2) ∧ (rdK sb se = 6 → B9 1 = nI (valN sb se 9 8)) ∧ hp_eqM [0, 9, 10] o z μ))) [.ref o].toArray s 0 0 (hp_A X)) (F0 m 380 ls []) := by
                            intro kk380
                            induction kk380 with
                            | zero =>
                              intro i2 hi2 hkk380
                              exact absurd hkk380 (Nat.not_lt_zero _)
                            | succ kk380 ih380 =>
                              intro i2 hi2 hkk380 H locs ls  hH hl
                              refine lv_iload hx hb dX11_understand_380 (lv_at hl 5 rfl) ?_
                              refine lv_iload_n hx hb dX11_understand_382 rfl (lv_at hl 1 rfl) ?_
                              refine lv_iconst (v := nI 2) hx hb dX11_understand_383 (by decide) ?_
                              refine lv_isub hx hb dX11_understand_384 ?_
                              refine hp_eqi (z := nI ((se / 9) - 2)) (pk_sub (by omega)) ?_
                              refine lv_icmp_ge (tgt := 408) hx hb dX11_understand_385 (by decide) (fun c_385 => ?_) (fun c_385 => ?_)
                              · have c_385 : ((se / 9) - 2) ≤ i2 := (nI_leI (by omega) (by omega)).mp c_385
                                have ei2 : i2 = se / 9 - 2 := by omega
                                subst ei2
                                have hxl := crcN_lt sb se (se / 9 - 2)
                                have hc9 := crcN_own (sb := sb) (se := se) (k := se / 9 - 2) h01 (by omega)
                                rw [show se / 9 - 2 + 2 = se / 9 by omega, show se / 9 - 2 + 1 = se / 9 - 1 by omega] at hc9
                                have hu1 : vaN sb (9 * (se / 9 - 2)) 8 < 256 := vaN_lt (n := 8) (fun j _ => h01 _)
                                have hu2 : vaN sb (9 * (se / 9 - 1)) 8 < 256 := vaN_lt (n := 8) (fun j _ => h01 _)
                                refine lv_aload_n hx hb dX11_understand_408 rfl (lv_at hl 0 rfl) ?_
                                refine hp_get hx hb hown hS.2.1 hH (F_X11_39.use hS) f_o rfl dX11_understand_409 ?_
                                refine lv_iload_n hx hb dX11_understand_412 rfl (lv_at hl 1 rfl) ?_
                                refine lv_iconst (v := nI 2) hx hb dX11_understand_413 (by decide) ?_
                                refine lv_isub hx hb dX11_understand_414 ?_
                                refine hp_eqi (z := nI ((se / 9) - 2)) (pk_sub (by omega)) ?_
                                refine hp_ialdI hx hb hS.ai hH f_9 (by omega) (by omega) dX11_understand_415 ?_
                                refine hp_eqi (z := nI (vaN sb (9 * (se / 9 - 2)) 8)) (hB _ (by omega)) ?_
                                refine lv_iload hx hb dX11_understand_416 (lv_at hl 4 rfl) ?_
                                refine lv_sipush (v := nI 256) hx hb dX11_understand_418 (by decide) ?_
                                refine lv_irem hx hb dX11_understand_421 (nI_ne0 (by omega) (by omega)) ?_
                                refine hp_eqi (z := nI ((crcN sb se (se / 9 - 2)) % 256)) (pk_rem (by omega) (by omega) (by omega)) ?_
                                refine lv_icmp_ne (tgt := 442) hx hb dX11_understand_422 (by decide) (fun c_422 => ?_) (fun c_422 => ?_)
                                · have c_422 : ¬ ((vaN sb (9 * (se / 9 - 2)) 8) = ((crcN sb se (se / 9 - 2)) % 256)) := fun z => c_422 ((nI_eq (by omega) (by omega)).mpr z)
                                  have hK : rdK sb se = 0 := by rw [hKg, if_neg (fun h9 => by omega), if_pos (Or.inr (fun h9 => by have h8 := hc9.mp h9; omega))]
                                  have f_o : μ1 o = some (hp_o 7 [.int (nI n), .ref (o + 1), .ref (o + 2), .ref (o + 3), .ref (o + 4), .ref (o + 5), .ref (o + 6), .int (nB on), .int (nI tz), .ref (o + 7), .int (nI se), .ref (o + 8), .ref (o + 9), .int (nI (rdK sb se)), .int (nI kl), .int (nI 0), .ref (o + 10), .int (nI sd), .ref (o + 11), .int (nI hd), .ref (o + 12), .int (nI an), .ref (o + 13), .int (nI fm), .int (nI fo), .ref (o + 14), .ref (o + 15), .int (nI kc), .ref (o + 16)]) := by rw [hK]; exact f_o
                                  exact hp_rv hx hb hr hlocks hS hH (⟨rfl, _, _, _, _, f_o, f_9, f_10, fun h9 => h9.elim (fun h9 => absurd (hK.symm.trans h9) (by decide)) (fun h9 => absurd (hK.symm.trans h9) (by decide)), fun h9 => absurd (hK.symm.trans h9) (by decide), fr⟩) dX11_understand_442
                                · have c_422 : (vaN sb (9 * (se / 9 - 2)) 8) = ((crcN sb se (se / 9 - 2)) % 256) := (nI_eq (by omega) (by omega)).mp c_422
                                  refine lv_aload_n hx hb dX11_understand_425 rfl (lv_at hl 0 rfl) ?_
                                  refine hp_get hx hb hown hS.2.1 hH (F_X11_39.use hS) f_o rfl dX11_understand_426 ?_
                                  refine lv_iload_n hx hb dX11_understand_429 rfl (lv_at hl 1 rfl) ?_
                                  refine lv_iconst (v := nI 1) hx hb dX11_understand_430 (by decide) ?_
                                  refine lv_isub hx hb dX11_understand_431 ?_
                                  refine hp_eqi (z := nI ((se / 9) - 1)) (pk_sub (by omega)) ?_
                                  refine hp_ialdI hx hb hS.ai hH f_9 (by omega) (by omega) dX11_understand_432 ?_
                                  refine hp_eqi (z := nI (vaN sb (9 * (se / 9 - 1)) 8)) (hB _ (by omega)) ?_
                                  refine lv_iload hx hb dX11_understand_433 (lv_at hl 4 rfl) ?_
                                  refine lv_sipush (v := nI 256) hx hb dX11_understand_435 (by decide) ?_
                                  refine lv_idiv hx hb dX11_understand_438 (nI_ne0 (by omega) (by omega)) ?_
                                  refine hp_eqi (z := nI ((crcN sb se (se / 9 - 2)) / 256)) (pk_div (by omega) (by omega) (by omega)) ?_
                                  refine lv_icmp_eq (tgt := 443) hx hb dX11_understand_439 (by decide) (fun c_439 => ?_) (fun c_439 => ?_)
                                  · have c_439 : (vaN sb (9 * (se / 9 - 1)) 8) = ((crcN sb se (se / 9 - 2)) / 256) := (nI_eq (by omega) (by omega)).mp c_439
                                    have hc0 := hc9.mpr ⟨c_422, c_439⟩
                                    refine lv_iload_n hx hb dX11_understand_443 rfl (lv_at hl 3 rfl) ?_
                                    refine lv_if_eq (tgt := 521) hx hb dX11_understand_444 (by decide) (fun c_444 => ?_) (fun c_444 => ?_)
                                    · exact absurd c_444 (by decide)
                                    · have c_444 : ¬ (1 = 0) := nz_n (by omega) c_444
                                      refine lv_iload_n hx hb dX11_understand_447 rfl (lv_at hl 1 rfl) ?_
                                      refine lv_bipush (v := nI 9) hx hb dX11_understand_448 (by decide) ?_
                                      refine lv_icmp_ne (tgt := 521) hx hb dX11_understand_450 (by decide) (fun c_450 => ?_) (fun c_450 => ?_)
                                      · have c_450 : ¬ ((se / 9) = 9) := fun z => c_450 ((nI_eq (by omega) (by omega)).mpr z)
                                        refine lv_iload_n hx hb dX11_understand_521 rfl (lv_at hl 1 rfl) ?_
                                        refine lv_iconst (v := nI 4) hx hb dX11_understand_522 (by decide) ?_
                                        refine lv_icmp_ne (tgt := 549) hx hb dX11_understand_523 (by decide) (fun c_523 => ?_) (fun c_523 => ?_)
                                        · have c_523 : ¬ ((se / 9) = 4) := fun z => c_523 ((nI_eq (by omega) (by omega)).mpr z)
                                          refine lv_iload_n hx hb dX11_understand_549 rfl (lv_at hl 1 rfl) ?_
                                          refine lv_iconst (v := nI 4) hx hb dX11_understand_550 (by decide) ?_
                                          refine lv_icmp_ne (tgt := 570) hx hb dX11_understand_551 (by decide) (fun c_551 => ?_) (fun c_551 => ?_)
                                          · have c_551 : ¬ ((se / 9) = 4) := fun z => c_551 ((nI_eq (by omega) (by omega)).mpr z)
                                            refine lv_iload_n hx hb dX11_understand_570 rfl (lv_at hl 1 rfl) ?_
                                            refine lv_iconst (v := nI 3) hx hb dX11_understand_571 (by decide) ?_
                                            refine lv_icmp_ne (tgt := 588) hx hb dX11_understand_572 (by decide) (fun c_572 => ?_) (fun c_572 => ?_)
                                            · have c_572 : ¬ ((se / 9) = 3) := fun z => c_572 ((nI_eq (by omega) (by omega)).mpr z)
                                              have hK : rdK sb se = 0 := by rw [hKg, if_neg (fun h9 => by omega), if_neg (fun h9 => by rw [hc0] at h9; omega), if_neg (fun h9 => by omega)]; unfold kdC; rw [if_neg (by omega), if_neg (by omega), if_neg (by omega)]
                                              have f_o : μ1 o = some (hp_o 7 [.int (nI n), .ref (o + 1), .ref (o + 2), .ref (o + 3), .ref (o + 4), .ref (o + 5), .ref (o + 6), .int (nB on), .int (nI tz), .ref (o + 7), .int (nI se), .ref (o + 8), .ref (o + 9), .int (nI (rdK sb se)), .int (nI kl), .int (nI 0), .ref (o + 10), .int (nI sd), .ref (o + 11), .int (nI hd), .ref (o + 12), .int (nI an), .ref (o + 13), .int (nI fm), .int (nI fo), .ref (o + 14), .ref (o + 15), .int (nI kc), .ref (o + 16)]) := by rw [hK]; exact f_o
                                              exact hp_rv hx hb hr hlocks hS hH (⟨rfl, _, _, _, _, f_o, f_9, f_10, fun h9 => h9.elim (fun h9 => absurd (hK.symm.trans h9) (by decide)) (fun h9 => absurd (hK.symm.trans h9) (by decide)), fun h9 => absurd (hK.symm.trans h9) (by decide), fr⟩) dX11_understand_588
                                            · have c_572 : (se / 9) = 3 := (nI_eq (by omega) (by omega)).mp c_572
                                              refine lv_iload_n hx hb dX11_understand_575 rfl (lv_at hl 2 rfl) ?_
                                              refine lv_sipush (v := nI 194) hx hb dX11_understand_576 (by decide) ?_
                                              refine lv_icmp_ne (tgt := 588) hx hb dX11_understand_579 (by decide) (fun c_579 => ?_) (fun c_579 => ?_)
                                              · have c_579 : ¬ (F = 194) := fun z => c_579 ((nI_eq (by omega) (by omega)).mpr z)
                                                have hK : rdK sb se = 0 := by rw [hKg, if_neg (fun h9 => by omega), if_neg (fun h9 => by rw [hc0] at h9; omega), if_neg (fun h9 => by omega)]; unfold kdC; rw [if_neg (by omega), if_neg (by omega), if_neg (by omega)]
                                                have f_o : μ1 o = some (hp_o 7 [.int (nI n), .ref (o + 1), .ref (o + 2), .ref (o + 3), .ref (o + 4), .ref (o + 5), .ref (o + 6), .int (nB on), .int (nI tz), .ref (o + 7), .int (nI se), .ref (o + 8), .ref (o + 9), .int (nI (rdK sb se)), .int (nI kl), .int (nI 0), .ref (o + 10), .int (nI sd), .ref (o + 11), .int (nI hd), .ref (o + 12), .int (nI an), .ref (o + 13), .int (nI fm), .int (nI fo), .ref (o + 14), .ref (o + 15), .int (nI kc), .ref (o + 16)]) := by rw [hK]; exact f_o
                                                exact hp_rv hx hb hr hlocks hS hH (⟨rfl, _, _, _, _, f_o, f_9, f_10, fun h9 => h9.elim (fun h9 => absurd (hK.symm.trans h9) (by decide)) (fun h9 => absurd (hK.symm.trans h9) (by decide)), fun h9 => absurd (hK.symm.trans h9) (by decide), fr⟩) dX11_understand_588
                                              · have c_579 : F = 194 := (nI_eq (by omega) (by omega)).mp c_579
                                                refine lv_aload_n hx hb dX11_understand_582 rfl (lv_at hl 0 rfl) ?_
                                                refine lv_bipush (v := nI 7) hx hb dX11_understand_583 (by decide) ?_
                                                refine hp_put hx hb hown hS.2.1 hH (P_X11_98.use hS) f_o rfl rfl (Nat.le_of_ble_eq_true rfl) dX11_understand_585 (fun H locs μ1 fz fn hH => ?_)
                                                have f_8 := (fn _ (by omega)).trans f_8
                                                have f_9 := (fn _ (by omega)).trans f_9
                                                have f_10 := (fn _ (by omega)).trans f_10
                                                have f_o : μ1 o = some (hp_o 7 [.int (nI n), .ref (o + 1), .ref (o + 2), .ref (o + 3), .ref (o + 4), .ref (o + 5), .ref (o + 6), .int (nB on), .int (nI tz), .ref (o + 7), .int (nI se), .ref (o + 8), .ref (o + 9), .int (nI 7), .int (nI kl), .int (nI 0), .ref (o + 10), .int (nI sd), .ref (o + 11), .int (nI hd), .ref (o + 12), .int (nI an), .ref (o + 13), .int (nI fm), .int (nI fo), .ref (o + 14), .ref (o + 15), .int (nI kc), .ref (o + 16)]) := fz
                                                have fr := hp_eqM.put (k := 0) fr (by decide) fn
                                                clear fz fn
                                                have hK : rdK sb se = 7 := by rw [hKg, if_neg (fun h9 => by omega), if_neg (fun h9 => by rw [hc0] at h9; omega), if_neg (fun h9 => by omega)]; unfold kdC; rw [if_neg (by omega), if_neg (by omega), if_pos (by omega)]
                                                have f_o : μ1 o = some (hp_o 7 [.int (nI n), .ref (o + 1), .ref (o + 2), .ref (o + 3), .ref (o + 4), .ref (o + 5), .ref (o + 6), .int (nB on), .int (nI tz), .ref (o + 7), .int (nI se), .ref (o + 8), .ref (o + 9), .int (nI (rdK sb se)), .int (nI kl), .int (nI 0), .ref (o + 10), .int (nI sd), .ref (o + 11), .int (nI hd), .ref (o + 12), .int (nI an), .ref (o + 13), .int (nI fm), .int (nI fo), .ref (o + 14), .ref (o + 15), .int (nI kc), .ref (o + 16)]) := by rw [hK]; exact f_o
                                                exact hp_rv hx hb hr hlocks hS hH (⟨rfl, _, _, _, _, f_o, f_9, f_10, fun h9 => h9.elim (fun h9 => absurd (hK.symm.trans h9) (by decide)) (fun h9 => absurd (hK.symm.trans h9) (by decide)), fun h9 => absurd (hK.symm.trans h9) (by decide), fr⟩) dX11_understand_588
                                          · have c_551 : (se / 9) = 4 := (nI_eq (by omega) (by omega)).mp c_551
                                            refine lv_iload_n hx hb dX11_understand_554 rfl (lv_at hl 2 rfl) ?_
                                            refine lv_sipush (v := nI 224) hx hb dX11_understand_555 (by decide) ?_
                                            refine lv_icmp_ne (tgt := 570) hx hb dX11_understand_558 (by decide) (fun c_558 => ?_) (fun c_558 => ?_)
                                            · have c_558 : ¬ (F = 224) := fun z => c_558 ((nI_eq (by omega) (by omega)).mpr z)
                                              refine lv_iload_n hx hb dX11_understand_570 rfl (lv_at hl 1 rfl) ?_
                                              refine lv_iconst (v := nI 3) hx hb dX11_understand_571 (by decide) ?_
                                              refine lv_icmp_ne (tgt := 588) hx hb dX11_understand_572 (by decide) (fun c_572 => ?_) (fun c_572 => ?_)
                                              · have c_572 : ¬ ((se / 9) = 3) := fun z => c_572 ((nI_eq (by omega) (by omega)).mpr z)
                                                have hK : rdK sb se = 0 := by rw [hKg, if_neg (fun h9 => by omega), if_neg (fun h9 => by rw [hc0] at h9; omega), if_neg (fun h9 => by omega)]; unfold kdC; rw [if_neg (by omega), if_neg (by omega), if_neg (by omega)]
                                                have f_o : μ1 o = some (hp_o 7 [.int (nI n), .ref (o + 1), .ref (o + 2), .ref (o + 3), .ref (o + 4), .ref (o + 5), .ref (o + 6), .int (nB on), .int (nI tz), .ref (o + 7), .int (nI se), .ref (o + 8), .ref (o + 9), .int (nI (rdK sb se)), .int (nI kl), .int (nI 0), .ref (o + 10), .int (nI sd), .ref (o + 11), .int (nI hd), .ref (o + 12), .int (nI an), .ref (o + 13), .int (nI fm), .int (nI fo), .ref (o + 14), .ref (o + 15), .int (nI kc), .ref (o + 16)]) := by rw [hK]; exact f_o
                                                exact hp_rv hx hb hr hlocks hS hH (⟨rfl, _, _, _, _, f_o, f_9, f_10, fun h9 => h9.elim (fun h9 => absurd (hK.symm.trans h9) (by decide)) (fun h9 => absurd (hK.symm.trans h9) (by decide)), fun h9 => absurd (hK.symm.trans h9) (by decide), fr⟩) dX11_understand_588
                                              · have c_572 : (se / 9) = 3 := (nI_eq (by omega) (by omega)).mp c_572
                                                refine lv_iload_n hx hb dX11_understand_575 rfl (lv_at hl 2 rfl) ?_
                                                refine lv_sipush (v := nI 194) hx hb dX11_understand_576 (by decide) ?_
                                                refine lv_icmp_ne (tgt := 588) hx hb dX11_understand_579 (by decide) (fun c_579 => ?_) (fun c_579 => ?_)
                                                · have c_579 : ¬ (F = 194) := fun z => c_579 ((nI_eq (by omega) (by omega)).mpr z)
                                                  have hK : rdK sb se = 0 := by rw [hKg, if_neg (fun h9 => by omega), if_neg (fun h9 => by rw [hc0] at h9; omega), if_neg (fun h9 => by omega)]; unfold kdC; rw [if_neg (by omega), if_neg (by omega), if_neg (by omega)]
                                                  have f_o : μ1 o = some (hp_o 7 [.int (nI n), .ref (o + 1), .ref (o + 2), .ref (o + 3), .ref (o + 4), .ref (o + 5), .ref (o + 6), .int (nB on), .int (nI tz), .ref (o + 7), .int (nI se), .ref (o + 8), .ref (o + 9), .int (nI (rdK sb se)), .int (nI kl), .int (nI 0), .ref (o + 10), .int (nI sd), .ref (o + 11), .int (nI hd), .ref (o + 12), .int (nI an), .ref (o + 13), .int (nI fm), .int (nI fo), .ref (o + 14), .ref (o + 15), .int (nI kc), .ref (o + 16)]) := by rw [hK]; exact f_o
                                                  exact hp_rv hx hb hr hlocks hS hH (⟨rfl, _, _, _, _, f_o, f_9, f_10, fun h9 => h9.elim (fun h9 => absurd (hK.symm.trans h9) (by decide)) (fun h9 => absurd (hK.symm.trans h9) (by decide)), fun h9 => absurd (hK.symm.trans h9) (by decide), fr⟩) dX11_understand_588
                                                · have c_579 : F = 194 := (nI_eq (by omega) (by omega)).mp c_579
                                                  refine lv_aload_n hx hb dX11_understand_582 rfl (lv_at hl 0 rfl) ?_
                                                  refine lv_bipush (v := nI 7) hx hb dX11_understand_583 (by decide) ?_
                                                  refine hp_put hx hb hown hS.2.1 hH (P_X11_98.use hS) f_o rfl rfl (Nat.le_of_ble_eq_true rfl) dX11_understand_585 (fun H locs μ1 fz fn hH => ?_)
                                                  have f_8 := (fn _ (by omega)).trans f_8
                                                  have f_9 := (fn _ (by omega)).trans f_9
                                                  have f_10 := (fn _ (by omega)).trans f_10
                                                  have f_o : μ1 o = some (hp_o 7 [.int (nI n), .ref (o + 1), .ref (o + 2), .ref (o + 3), .ref (o + 4), .ref (o + 5), .ref (o + 6), .int (nB on), .int (nI tz), .ref (o + 7), .int (nI se), .ref (o + 8), .ref (o + 9), .int (nI 7), .int (nI kl), .int (nI 0), .ref (o + 10), .int (nI sd), .ref (o + 11), .int (nI hd), .ref (o + 12), .int (nI an), .ref (o + 13), .int (nI fm), .int (nI fo), .ref (o + 14), .ref (o + 15), .int (nI kc), .ref (o + 16)]) := fz
                                                  have fr := hp_eqM.put (k := 0) fr (by decide) fn
                                                  clear fz fn
                                                  have hK : rdK sb se = 7 := by rw [hKg, if_neg (fun h9 => by omega), if_neg (fun h9 => by rw [hc0] at h9; omega), if_neg (fun h9 => by omega)]; unfold kdC; rw [if_neg (by omega), if_neg (by omega), if_pos (by omega)]
                                                  have f_o : μ1 o = some (hp_o 7 [.int (nI n), .ref (o + 1), .ref (o + 2), .ref (o + 3), .ref (o + 4), .ref (o + 5), .ref (o + 6), .int (nB on), .int (nI tz), .ref (o + 7), .int (nI se), .ref (o + 8), .ref (o + 9), .int (nI (rdK sb se)), .int (nI kl), .int (nI 0), .ref (o + 10), .int (nI sd), .ref (o + 11), .int (nI hd), .ref (o + 12), .int (nI an), .ref (o + 13), .int (nI fm), .int (nI fo), .ref (o + 14), .ref (o + 15), .int (nI kc), .ref (o + 16)]) := by rw [hK]; exact f_o
                                                  exact hp_rv hx hb hr hlocks hS hH (⟨rfl, _, _, _, _, f_o, f_9, f_10, fun h9 => h9.elim (fun h9 => absurd (hK.symm.trans h9) (by decide)) (fun h9 => absurd (hK.symm.trans h9) (by decide)), fun h9 => absurd (hK.symm.trans h9) (by decide), fr⟩) dX11_understand_588
                                            · have c_558 : F = 224 := (nI_eq (by omega) (by omega)).mp c_558
                                              refine lv_aload_n hx hb dX11_understand_561 rfl (lv_at hl 0 rfl) ?_
                                              refine lv_bipush (v := nI 6) hx hb dX11_understand_562 (by decide) ?_
                                              refine hp_put hx hb hown hS.2.1 hH (P_X11_98.use hS) f_o rfl rfl (Nat.le_of_ble_eq_true rfl) dX11_understand_564 (fun H locs μ1 fz fn hH => ?_)
                                              have f_8 := (fn _ (by omega)).trans f_8
                                              have f_9 := (fn _ (by omega)).trans f_9
                                              have f_10 := (fn _ (by omega)).trans f_10
                                              have f_o : μ1 o = some (hp_o 7 [.int (nI n), .ref (o + 1), .ref (o + 2), .ref (o + 3), .ref (o + 4), .ref (o + 5), .ref (o + 6), .int (nB on), .int (nI tz), .ref (o + 7), .int (nI se), .ref (o + 8), .ref (o + 9), .int (nI 6), .int (nI kl), .int (nI 0), .ref (o + 10), .int (nI sd), .ref (o + 11), .int (nI hd), .ref (o + 12), .int (nI an), .ref (o + 13), .int (nI fm), .int (nI fo), .ref (o + 14), .ref (o + 15), .int (nI kc), .ref (o + 16)]) := fz
                                              have fr := hp_eqM.put (k := 0) fr (by decide) fn
                                              clear fz fn
                                              refine lv_goto (tgt := 588) hx hb dX11_understand_567 (by decide) ?_
                                              have hK : rdK sb se = 6 := by rw [hKg, if_neg (fun h9 => by omega), if_neg (fun h9 => by rw [hc0] at h9; omega), if_neg (fun h9 => by omega)]; unfold kdC; rw [if_neg (by omega), if_pos (by omega)]
                                              have f_o : μ1 o = some (hp_o 7 [.int (nI n), .ref (o + 1), .ref (o + 2), .ref (o + 3), .ref (o + 4), .ref (o + 5), .ref (o + 6), .int (nB on), .int (nI tz), .ref (o + 7), .int (nI se), .ref (o + 8), .ref (o + 9), .int (nI (rdK sb se)), .int (nI kl), .int (nI 0), .ref (o + 10), .int (nI sd), .ref (o + 11), .int (nI hd), .ref (o + 12), .int (nI an), .ref (o + 13), .int (nI fm), .int (nI fo), .ref (o + 14), .ref (o + 15), .int (nI kc), .ref (o + 16)]) := by rw [hK]; exact f_o
                                              exact hp_rv hx hb hr hlocks hS hH (⟨rfl, _, _, _, _, f_o, f_9, f_10, fun h9 => h9.elim (fun h9 => absurd (hK.symm.trans h9) (by decide)) (fun h9 => absurd (hK.symm.trans h9) (by decide)), fun _ => by rw [valN_va 8 (by omega), ← hS2]; exact hS0, fr⟩) dX11_understand_588
                                        · have c_523 : (se / 9) = 4 := (nI_eq (by omega) (by omega)).mp c_523
                                          refine lv_iload_n hx hb dX11_understand_526 rfl (lv_at hl 2 rfl) ?_
                                          refine lv_bipush (v := nI 80) hx hb dX11_understand_527 (by decide) ?_
                                          refine lv_icmp_ne (tgt := 549) hx hb dX11_understand_529 (by decide) (fun c_529 => ?_) (fun c_529 => ?_)
                                          · have c_529 : ¬ (F = 80) := fun z => c_529 ((nI_eq (by omega) (by omega)).mpr z)
                                            refine lv_iload_n hx hb dX11_understand_549 rfl (lv_at hl 1 rfl) ?_
                                            refine lv_iconst (v := nI 4) hx hb dX11_understand_550 (by decide) ?_
                                            refine lv_icmp_ne (tgt := 570) hx hb dX11_understand_551 (by decide) (fun c_551 => ?_) (fun c_551 => ?_)
                                            · have c_551 : ¬ ((se / 9) = 4) := fun z => c_551 ((nI_eq (by omega) (by omega)).mpr z)
                                              refine lv_iload_n hx hb dX11_understand_570 rfl (lv_at hl 1 rfl) ?_
                                              refine lv_iconst (v := nI 3) hx hb dX11_understand_571 (by decide) ?_
                                              refine lv_icmp_ne (tgt := 588) hx hb dX11_understand_572 (by decide) (fun c_572 => ?_) (fun c_572 => ?_)
                                              · have c_572 : ¬ ((se / 9) = 3) := fun z => c_572 ((nI_eq (by omega) (by omega)).mpr z)
                                                have hK : rdK sb se = 0 := by rw [hKg, if_neg (fun h9 => by omega), if_neg (fun h9 => by rw [hc0] at h9; omega), if_neg (fun h9 => by omega)]; unfold kdC; rw [if_neg (by omega), if_neg (by omega), if_neg (by omega)]
                                                have f_o : μ1 o = some (hp_o 7 [.int (nI n), .ref (o + 1), .ref (o + 2), .ref (o + 3), .ref (o + 4), .ref (o + 5), .ref (o + 6), .int (nB on), .int (nI tz), .ref (o + 7), .int (nI se), .ref (o + 8), .ref (o + 9), .int (nI (rdK sb se)), .int (nI kl), .int (nI 0), .ref (o + 10), .int (nI sd), .ref (o + 11), .int (nI hd), .ref (o + 12), .int (nI an), .ref (o + 13), .int (nI fm), .int (nI fo), .ref (o + 14), .ref (o + 15), .int (nI kc), .ref (o + 16)]) := by rw [hK]; exact f_o
                                                exact hp_rv hx hb hr hlocks hS hH (⟨rfl, _, _, _, _, f_o, f_9, f_10, fun h9 => h9.elim (fun h9 => absurd (hK.symm.trans h9) (by decide)) (fun h9 => absurd (hK.symm.trans h9) (by decide)), fun h9 => absurd (hK.symm.trans h9) (by decide), fr⟩) dX11_understand_588
                                              · have c_572 : (se / 9) = 3 := (nI_eq (by omega) (by omega)).mp c_572
                                                refine lv_iload_n hx hb dX11_understand_575 rfl (lv_at hl 2 rfl) ?_
                                                refine lv_sipush (v := nI 194) hx hb dX11_understand_576 (by decide) ?_
                                                refine lv_icmp_ne (tgt := 588) hx hb dX11_understand_579 (by decide) (fun c_579 => ?_) (fun c_579 => ?_)
                                                · have c_579 : ¬ (F = 194) := fun z => c_579 ((nI_eq (by omega) (by omega)).mpr z)
                                                  have hK : rdK sb se = 0 := by rw [hKg, if_neg (fun h9 => by omega), if_neg (fun h9 => by rw [hc0] at h9; omega), if_neg (fun h9 => by omega)]; unfold kdC; rw [if_neg (by omega), if_neg (by omega), if_neg (by omega)]
                                                  have f_o : μ1 o = some (hp_o 7 [.int (nI n), .ref (o + 1), .ref (o + 2), .ref (o + 3), .ref (o + 4), .ref (o + 5), .ref (o + 6), .int (nB on), .int (nI tz), .ref (o + 7), .int (nI se), .ref (o + 8), .ref (o + 9), .int (nI (rdK sb se)), .int (nI kl), .int (nI 0), .ref (o + 10), .int (nI sd), .ref (o + 11), .int (nI hd), .ref (o + 12), .int (nI an), .ref (o + 13), .int (nI fm), .int (nI fo), .ref (o + 14), .ref (o + 15), .int (nI kc), .ref (o + 16)]) := by rw [hK]; exact f_o
                                                  exact hp_rv hx hb hr hlocks hS hH (⟨rfl, _, _, _, _, f_o, f_9, f_10, fun h9 => h9.elim (fun h9 => absurd (hK.symm.trans h9) (by decide)) (fun h9 => absurd (hK.symm.trans h9) (by decide)), fun h9 => absurd (hK.symm.trans h9) (by decide), fr⟩) dX11_understand_588
                                                · have c_579 : F = 194 := (nI_eq (by omega) (by omega)).mp c_579
                                                  refine lv_aload_n hx hb dX11_understand_582 rfl (lv_at hl 0 rfl) ?_
                                                  refine lv_bipush (v := nI 7) hx hb dX11_understand_583 (by decide) ?_
                                                  refine hp_put hx hb hown hS.2.1 hH (P_X11_98.use hS) f_o rfl rfl (Nat.le_of_ble_eq_true rfl) dX11_understand_585 (fun H locs μ1 fz fn hH => ?_)
                                                  have f_8 := (fn _ (by omega)).trans f_8
                                                  have f_9 := (fn _ (by omega)).trans f_9
                                                  have f_10 := (fn _ (by omega)).trans f_10
                                                  have f_o : μ1 o = some (hp_o 7 [.int (nI n), .ref (o + 1), .ref (o + 2), .ref (o + 3), .ref (o + 4), .ref (o + 5), .ref (o + 6), .int (nB on), .int (nI tz), .ref (o + 7), .int (nI se), .ref (o + 8), .ref (o + 9), .int (nI 7), .int (nI kl), .int (nI 0), .ref (o + 10), .int (nI sd), .ref (o + 11), .int (nI hd), .ref (o + 12), .int (nI an), .ref (o + 13), .int (nI fm), .int (nI fo), .ref (o + 14), .ref (o + 15), .int (nI kc), .ref (o + 16)]) := fz
                                                  have fr := hp_eqM.put (k := 0) fr (by decide) fn
                                                  clear fz fn
                                                  have hK : rdK sb se = 7 := by rw [hKg, if_neg (fun h9 => by omega), if_neg (fun h9 => by rw [hc0] at h9; omega), if_neg (fun h9 => by omega)]; unfold kdC; rw [if_neg (by omega), if_neg (by omega), if_pos (by omega)]
                                                  have f_o : μ1 o = some (hp_o 7 [.int (nI n), .ref (o + 1), .ref (o + 2), .ref (o + 3), .ref (o + 4), .ref (o + 5), .ref (o + 6), .int (nB on), .int (nI tz), .ref (o + 7), .int (nI se), .ref (o + 8), .ref (o + 9), .int (nI (rdK sb se)), .int (nI kl), .int (nI 0), .ref (o + 10), .int (nI sd), .ref (o + 11), .int (nI hd), .ref (o + 12), .int (nI an), .ref (o + 13), .int (nI fm), .int (nI fo), .ref (o + 14), .ref (o + 15), .int (nI kc), .ref (o + 16)]) := by rw [hK]; exact f_o
                                                  exact hp_rv hx hb hr hlocks hS hH (⟨rfl, _, _, _, _, f_o, f_9, f_10, fun h9 => h9.elim (fun h9 => absurd (hK.symm.trans h9) (by decide)) (fun h9 => absurd (hK.symm.trans h9) (by decide)), fun h9 => absurd (hK.symm.trans h9) (by decide), fr⟩) dX11_understand_588
                                            · have c_551 : (se / 9) = 4 := (nI_eq (by omega) (by omega)).mp c_551
                                              refine lv_iload_n hx hb dX11_understand_554 rfl (lv_at hl 2 rfl) ?_
                                              refine lv_sipush (v := nI 224) hx hb dX11_understand_555 (by decide) ?_
                                              refine lv_icmp_ne (tgt := 570) hx hb dX11_understand_558 (by decide) (fun c_558 => ?_) (fun c_558 => ?_)
                                              · have c_558 : ¬ (F = 224) := fun z => c_558 ((nI_eq (by omega) (by omega)).mpr z)
                                                refine lv_iload_n hx hb dX11_understand_570 rfl (lv_at hl 1 rfl) ?_
                                                refine lv_iconst (v := nI 3) hx hb dX11_understand_571 (by decide) ?_
                                                refine lv_icmp_ne (tgt := 588) hx hb dX11_understand_572 (by decide) (fun c_572 => ?_) (fun c_572 => ?_)
                                                · have c_572 : ¬ ((se / 9) = 3) := fun z => c_572 ((nI_eq (by omega) (by omega)).mpr z)
                                                  have hK : rdK sb se = 0 := by rw [hKg, if_neg (fun h9 => by omega), if_neg (fun h9 => by rw [hc0] at h9; omega), if_neg (fun h9 => by omega)]; unfold kdC; rw [if_neg (by omega), if_neg (by omega), if_neg (by omega)]
                                                  have f_o : μ1 o = some (hp_o 7 [.int (nI n), .ref (o + 1), .ref (o + 2), .ref (o + 3), .ref (o + 4), .ref (o + 5), .ref (o + 6), .int (nB on), .int (nI tz), .ref (o + 7), .int (nI se), .ref (o + 8), .ref (o + 9), .int (nI (rdK sb se)), .int (nI kl), .int (nI 0), .ref (o + 10), .int (nI sd), .ref (o + 11), .int (nI hd), .ref (o + 12), .int (nI an), .ref (o + 13), .int (nI fm), .int (nI fo), .ref (o + 14), .ref (o + 15), .int (nI kc), .ref (o + 16)]) := by rw [hK]; exact f_o
                                                  exact hp_rv hx hb hr hlocks hS hH (⟨rfl, _, _, _, _, f_o, f_9, f_10, fun h9 => h9.elim (fun h9 => absurd (hK.symm.trans h9) (by decide)) (fun h9 => absurd (hK.symm.trans h9) (by decide)), fun h9 => absurd (hK.symm.trans h9) (by decide), fr⟩) dX11_understand_588
                                                · have c_572 : (se / 9) = 3 := (nI_eq (by omega) (by omega)).mp c_572
                                                  refine lv_iload_n hx hb dX11_understand_575 rfl (lv_at hl 2 rfl) ?_
                                                  refine lv_sipush (v := nI 194) hx hb dX11_understand_576 (by decide) ?_
                                                  refine lv_icmp_ne (tgt := 588) hx hb dX11_understand_579 (by decide) (fun c_579 => ?_) (fun c_579 => ?_)
                                                  · have c_579 : ¬ (F = 194) := fun z => c_579 ((nI_eq (by omega) (by omega)).mpr z)
                                                    have hK : rdK sb se = 0 := by rw [hKg, if_neg (fun h9 => by omega), if_neg (fun h9 => by rw [hc0] at h9; omega), if_neg (fun h9 => by omega)]; unfold kdC; rw [if_neg (by omega), if_neg (by omega), if_neg (by omega)]
                                                    have f_o : μ1 o = some (hp_o 7 [.int (nI n), .ref (o + 1), .ref (o + 2), .ref (o + 3), .ref (o + 4), .ref (o + 5), .ref (o + 6), .int (nB on), .int (nI tz), .ref (o + 7), .int (nI se), .ref (o + 8), .ref (o + 9), .int (nI (rdK sb se)), .int (nI kl), .int (nI 0), .ref (o + 10), .int (nI sd), .ref (o + 11), .int (nI hd), .ref (o + 12), .int (nI an), .ref (o + 13), .int (nI fm), .int (nI fo), .ref (o + 14), .ref (o + 15), .int (nI kc), .ref (o + 16)]) := by rw [hK]; exact f_o
                                                    exact hp_rv hx hb hr hlocks hS hH (⟨rfl, _, _, _, _, f_o, f_9, f_10, fun h9 => h9.elim (fun h9 => absurd (hK.symm.trans h9) (by decide)) (fun h9 => absurd (hK.symm.trans h9) (by decide)), fun h9 => absurd (hK.symm.trans h9) (by decide), fr⟩) dX11_understand_588
                                                  · have c_579 : F = 194 := (nI_eq (by omega) (by omega)).mp c_579
                                                    refine lv_aload_n hx hb dX11_understand_582 rfl (lv_at hl 0 rfl) ?_
                                                    refine lv_bipush (v := nI 7) hx hb dX11_understand_583 (by decide) ?_
                                                    refine hp_put hx hb hown hS.2.1 hH (P_X11_98.use hS) f_o rfl rfl (Nat.le_of_ble_eq_true rfl) dX11_understand_585 (fun H locs μ1 fz fn hH => ?_)
                                                    have f_8 := (fn _ (by omega)).trans f_8
                                                    have f_9 := (fn _ (by omega)).trans f_9
                                                    have f_10 := (fn _ (by omega)).trans f_10
                                                    have f_o : μ1 o = some (hp_o 7 [.int (nI n), .ref (o + 1), .ref (o + 2), .ref (o + 3), .ref (o + 4), .ref (o + 5), .ref (o + 6), .int (nB on), .int (nI tz), .ref (o + 7), .int (nI se), .ref (o + 8), .ref (o + 9), .int (nI 7), .int (nI kl), .int (nI 0), .ref (o + 10), .int (nI sd), .ref (o + 11), .int (nI hd), .ref (o + 12), .int (nI an), .ref (o + 13), .int (nI fm), .int (nI fo), .ref (o + 14), .ref (o + 15), .int (nI kc), .ref (o + 16)]) := fz
                                                    have fr := hp_eqM.put (k := 0) fr (by decide) fn
                                                    clear fz fn
                                                    have hK : rdK sb se = 7 := by rw [hKg, if_neg (fun h9 => by omega), if_neg (fun h9 => by rw [hc0] at h9; omega), if_neg (fun h9 => by omega)]; unfold kdC; rw [if_neg (by omega), if_neg (by omega), if_pos (by omega)]
                                                    have f_o : μ1 o = some (hp_o 7 [.int (nI n), .ref (o + 1), .ref (o + 2), .ref (o + 3), .ref (o + 4), .ref (o + 5), .ref (o + 6), .int (nB on), .int (nI tz), .ref (o + 7), .int (nI se), .ref (o + 8), .ref (o + 9), .int (nI (rdK sb se)), .int (nI kl), .int (nI 0), .ref (o + 10), .int (nI sd), .ref (o + 11), .int (nI hd), .ref (o + 12), .int (nI an), .ref (o + 13), .int (nI fm), .int (nI fo), .ref (o + 14), .ref (o + 15), .int (nI kc), .ref (o + 16)]) := by rw [hK]; exact f_o
                                                    exact hp_rv hx hb hr hlocks hS hH (⟨rfl, _, _, _, _, f_o, f_9, f_10, fun h9 => h9.elim (fun h9 => absurd (hK.symm.trans h9) (by decide)) (fun h9 => absurd (hK.symm.trans h9) (by decide)), fun h9 => absurd (hK.symm.trans h9) (by decide), fr⟩) dX11_understand_588
                                              · have c_558 : F = 224 := (nI_eq (by omega) (by omega)).mp c_558
                                                refine lv_aload_n hx hb dX11_understand_561 rfl (lv_at hl 0 rfl) ?_
                                                refine lv_bipush (v := nI 6) hx hb dX11_understand_562 (by decide) ?_
                                                refine hp_put hx hb hown hS.2.1 hH (P_X11_98.use hS) f_o rfl rfl (Nat.le_of_ble_eq_true rfl) dX11_understand_564 (fun H locs μ1 fz fn hH => ?_)
                                                have f_8 := (fn _ (by omega)).trans f_8
                                                have f_9 := (fn _ (by omega)).trans f_9
                                                have f_10 := (fn _ (by omega)).trans f_10
                                                have f_o : μ1 o = some (hp_o 7 [.int (nI n), .ref (o + 1), .ref (o + 2), .ref (o + 3), .ref (o + 4), .ref (o + 5), .ref (o + 6), .int (nB on), .int (nI tz), .ref (o + 7), .int (nI se), .ref (o + 8), .ref (o + 9), .int (nI 6), .int (nI kl), .int (nI 0), .ref (o + 10), .int (nI sd), .ref (o + 11), .int (nI hd), .ref (o + 12), .int (nI an), .ref (o + 13), .int (nI fm), .int (nI fo), .ref (o + 14), .ref (o + 15), .int (nI kc), .ref (o + 16)]) := fz
                                                have fr := hp_eqM.put (k := 0) fr (by decide) fn
                                                clear fz fn
                                                refine lv_goto (tgt := 588) hx hb dX11_understand_567 (by decide) ?_
                                                have hK : rdK sb se = 6 := by rw [hKg, if_neg (fun h9 => by omega), if_neg (fun h9 => by rw [hc0] at h9; omega), if_neg (fun h9 => by omega)]; unfold kdC; rw [if_neg (by omega), if_pos (by omega)]
                                                have f_o : μ1 o = some (hp_o 7 [.int (nI n), .ref (o + 1), .ref (o + 2), .ref (o + 3), .ref (o + 4), .ref (o + 5), .ref (o + 6), .int (nB on), .int (nI tz), .ref (o + 7), .int (nI se), .ref (o + 8), .ref (o + 9), .int (nI (rdK sb se)), .int (nI kl), .int (nI 0), .ref (o + 10), .int (nI sd), .ref (o + 11), .int (nI hd), .ref (o + 12), .int (nI an), .ref (o + 13), .int (nI fm), .int (nI fo), .ref (o + 14), .ref (o + 15), .int (nI kc), .ref (o + 16)]) := by rw [hK]; exact f_o
                                                exact hp_rv hx hb hr hlocks hS hH (⟨rfl, _, _, _, _, f_o, f_9, f_10, fun h9 => h9.elim (fun h9 => absurd (hK.symm.trans h9) (by decide)) (fun h9 => absurd (hK.symm.trans h9) (by decide)), fun _ => by rw [valN_va 8 (by omega), ← hS2]; exact hS0, fr⟩) dX11_understand_588
                                          · have c_529 : F = 80 := (nI_eq (by omega) (by omega)).mp c_529
                                            refine lv_aload_n hx hb dX11_understand_532 rfl (lv_at hl 0 rfl) ?_
                                            refine hp_get hx hb hown hS.2.1 hH (F_X11_39.use hS) f_o rfl dX11_understand_533 ?_
                                            refine lv_iconst (v := nI 1) hx hb dX11_understand_536 (by decide) ?_
                                            refine hp_ialdI hx hb hS.ai hH f_9 (by omega) (by omega) dX11_understand_537 ?_
                                            refine hp_eqi (z := nI S2) (hS0) ?_
                                            refine lv_if_ne (tgt := 549) hx hb dX11_understand_538 (by decide) (fun c_538 => ?_) (fun c_538 => ?_)
                                            · have c_538 : ¬ (S2 = 0) := nz_n (by omega) c_538
                                              refine lv_iload_n hx hb dX11_understand_549 rfl (lv_at hl 1 rfl) ?_
                                              refine lv_iconst (v := nI 4) hx hb dX11_understand_550 (by decide) ?_
                                              refine lv_icmp_ne (tgt := 570) hx hb dX11_understand_551 (by decide) (fun c_551 => ?_) (fun c_551 => ?_)
                                              · have c_551 : ¬ ((se / 9) = 4) := fun z => c_551 ((nI_eq (by omega) (by omega)).mpr z)
                                                refine lv_iload_n hx hb dX11_understand_570 rfl (lv_at hl 1 rfl) ?_
                                                refine lv_iconst (v := nI 3) hx hb dX11_understand_571 (by decide) ?_
                                                refine lv_icmp_ne (tgt := 588) hx hb dX11_understand_572 (by decide) (fun c_572 => ?_) (fun c_572 => ?_)
                                                · have c_572 : ¬ ((se / 9) = 3) := fun z => c_572 ((nI_eq (by omega) (by omega)).mpr z)
                                                  have hK : rdK sb se = 0 := by rw [hKg, if_neg (fun h9 => by omega), if_neg (fun h9 => by rw [hc0] at h9; omega), if_neg (fun h9 => by omega)]; unfold kdC; rw [if_neg (by omega), if_neg (by omega), if_neg (by omega)]
                                                  have f_o : μ1 o = some (hp_o 7 [.int (nI n), .ref (o + 1), .ref (o + 2), .ref (o + 3), .ref (o + 4), .ref (o + 5), .ref (o + 6), .int (nB on), .int (nI tz), .ref (o + 7), .int (nI se), .ref (o + 8), .ref (o + 9), .int (nI (rdK sb se)), .int (nI kl), .int (nI 0), .ref (o + 10), .int (nI sd), .ref (o + 11), .int (nI hd), .ref (o + 12), .int (nI an), .ref (o + 13), .int (nI fm), .int (nI fo), .ref (o + 14), .ref (o + 15), .int (nI kc), .ref (o + 16)]) := by rw [hK]; exact f_o
                                                  exact hp_rv hx hb hr hlocks hS hH (⟨rfl, _, _, _, _, f_o, f_9, f_10, fun h9 => h9.elim (fun h9 => absurd (hK.symm.trans h9) (by decide)) (fun h9 => absurd (hK.symm.trans h9) (by decide)), fun h9 => absurd (hK.symm.trans h9) (by decide), fr⟩) dX11_understand_588
                                                · have c_572 : (se / 9) = 3 := (nI_eq (by omega) (by omega)).mp c_572
                                                  refine lv_iload_n hx hb dX11_understand_575 rfl (lv_at hl 2 rfl) ?_
                                                  refine lv_sipush (v := nI 194) hx hb dX11_understand_576 (by decide) ?_
                                                  refine lv_icmp_ne (tgt := 588) hx hb dX11_understand_579 (by decide) (fun c_579 => ?_) (fun c_579 => ?_)
                                                  · have c_579 : ¬ (F = 194) := fun z => c_579 ((nI_eq (by omega) (by omega)).mpr z)
                                                    have hK : rdK sb se = 0 := by rw [hKg, if_neg (fun h9 => by omega), if_neg (fun h9 => by rw [hc0] at h9; omega), if_neg (fun h9 => by omega)]; unfold kdC; rw [if_neg (by omega), if_neg (by omega), if_neg (by omega)]
                                                    have f_o : μ1 o = some (hp_o 7 [.int (nI n), .ref (o + 1), .ref (o + 2), .ref (o + 3), .ref (o + 4), .ref (o + 5), .ref (o + 6), .int (nB on), .int (nI tz), .ref (o + 7), .int (nI se), .ref (o + 8), .ref (o + 9), .int (nI (rdK sb se)), .int (nI kl), .int (nI 0), .ref (o + 10), .int (nI sd), .ref (o + 11), .int (nI hd), .ref (o + 12), .int (nI an), .ref (o + 13), .int (nI fm), .int (nI fo), .ref (o + 14), .ref (o + 15), .int (nI kc), .ref (o + 16)]) := by rw [hK]; exact f_o
                                                    exact hp_rv hx hb hr hlocks hS hH (⟨rfl, _, _, _, _, f_o, f_9, f_10, fun h9 => h9.elim (fun h9 => absurd (hK.symm.trans h9) (by decide)) (fun h9 => absurd (hK.symm.trans h9) (by decide)), fun h9 => absurd (hK.symm.trans h9) (by decide), fr⟩) dX11_understand_588
                                                  · have c_579 : F = 194 := (nI_eq (by omega) (by omega)).mp c_579
                                                    refine lv_aload_n hx hb dX11_understand_582 rfl (lv_at hl 0 rfl) ?_
                                                    refine lv_bipush (v := nI 7) hx hb dX11_understand_583 (by decide) ?_
                                                    refine hp_put hx hb hown hS.2.1 hH (P_X11_98.use hS) f_o rfl rfl (Nat.le_of_ble_eq_true rfl) dX11_understand_585 (fun H locs μ1 fz fn hH => ?_)
                                                    have f_8 := (fn _ (by omega)).trans f_8
                                                    have f_9 := (fn _ (by omega)).trans f_9
                                                    have f_10 := (fn _ (by omega)).trans f_10
                                                    have f_o : μ1 o = some (hp_o 7 [.int (nI n), .ref (o + 1), .ref (o + 2), .ref (o + 3), .ref (o + 4), .ref (o + 5), .ref (o + 6), .int (nB on), .int (nI tz), .ref (o + 7), .int (nI se), .ref (o + 8), .ref (o + 9), .int (nI 7), .int (nI kl), .int (nI 0), .ref (o + 10), .int (nI sd), .ref (o + 11), .int (nI hd), .ref (o + 12), .int (nI an), .ref (o + 13), .int (nI fm), .int (nI fo), .ref (o + 14), .ref (o + 15), .int (nI kc), .ref (o + 16)]) := fz
                                                    have fr := hp_eqM.put (k := 0) fr (by decide) fn
                                                    clear fz fn
                                                    have hK : rdK sb se = 7 := by rw [hKg, if_neg (fun h9 => by omega), if_neg (fun h9 => by rw [hc0] at h9; omega), if_neg (fun h9 => by omega)]; unfold kdC; rw [if_neg (by omega), if_neg (by omega), if_pos (by omega)]
                                                    have f_o : μ1 o = some (hp_o 7 [.int (nI n), .ref (o + 1), .ref (o + 2), .ref (o + 3), .ref (o + 4), .ref (o + 5), .ref (o + 6), .int (nB on), .int (nI tz), .ref (o + 7), .int (nI se), .ref (o + 8), .ref (o + 9), .int (nI (rdK sb se)), .int (nI kl), .int (nI 0), .ref (o + 10), .int (nI sd), .ref (o + 11), .int (nI hd), .ref (o + 12), .int (nI an), .ref (o + 13), .int (nI fm), .int (nI fo), .ref (o + 14), .ref (o + 15), .int (nI kc), .ref (o + 16)]) := by rw [hK]; exact f_o
                                                    exact hp_rv hx hb hr hlocks hS hH (⟨rfl, _, _, _, _, f_o, f_9, f_10, fun h9 => h9.elim (fun h9 => absurd (hK.symm.trans h9) (by decide)) (fun h9 => absurd (hK.symm.trans h9) (by decide)), fun h9 => absurd (hK.symm.trans h9) (by decide), fr⟩) dX11_understand_588
                                              · have c_551 : (se / 9) = 4 := (nI_eq (by omega) (by omega)).mp c_551
                                                refine lv_iload_n hx hb dX11_understand_554 rfl (lv_at hl 2 rfl) ?_
                                                refine lv_sipush (v := nI 224) hx hb dX11_understand_555 (by decide) ?_
                                                refine lv_icmp_ne (tgt := 570) hx hb dX11_understand_558 (by decide) (fun c_558 => ?_) (fun c_558 => ?_)
                                                · have c_558 : ¬ (F = 224) := fun z => c_558 ((nI_eq (by omega) (by omega)).mpr z)
                                                  refine lv_iload_n hx hb dX11_understand_570 rfl (lv_at hl 1 rfl) ?_
                                                  refine lv_iconst (v := nI 3) hx hb dX11_understand_571 (by decide) ?_
                                                  refine lv_icmp_ne (tgt := 588) hx hb dX11_understand_572 (by decide) (fun c_572 => ?_) (fun c_572 => ?_)
                                                  · have c_572 : ¬ ((se / 9) = 3) := fun z => c_572 ((nI_eq (by omega) (by omega)).mpr z)
                                                    have hK : rdK sb se = 0 := by rw [hKg, if_neg (fun h9 => by omega), if_neg (fun h9 => by rw [hc0] at h9; omega), if_neg (fun h9 => by omega)]; unfold kdC; rw [if_neg (by omega), if_neg (by omega), if_neg (by omega)]
                                                    have f_o : μ1 o = some (hp_o 7 [.int (nI n), .ref (o + 1), .ref (o + 2), .ref (o + 3), .ref (o + 4), .ref (o + 5), .ref (o + 6), .int (nB on), .int (nI tz), .ref (o + 7), .int (nI se), .ref (o + 8), .ref (o + 9), .int (nI (rdK sb se)), .int (nI kl), .int (nI 0), .ref (o + 10), .int (nI sd), .ref (o + 11), .int (nI hd), .ref (o + 12), .int (nI an), .ref (o + 13), .int (nI fm), .int (nI fo), .ref (o + 14), .ref (o + 15), .int (nI kc), .ref (o + 16)]) := by rw [hK]; exact f_o
                                                    exact hp_rv hx hb hr hlocks hS hH (⟨rfl, _, _, _, _, f_o, f_9, f_10, fun h9 => h9.elim (fun h9 => absurd (hK.symm.trans h9) (by decide)) (fun h9 => absurd (hK.symm.trans h9) (by decide)), fun h9 => absurd (hK.symm.trans h9) (by decide), fr⟩) dX11_understand_588
                                                  · have c_572 : (se / 9) = 3 := (nI_eq (by omega) (by omega)).mp c_572
                                                    refine lv_iload_n hx hb dX11_understand_575 rfl (lv_at hl 2 rfl) ?_
                                                    refine lv_sipush (v := nI 194) hx hb dX11_understand_576 (by decide) ?_
                                                    refine lv_icmp_ne (tgt := 588) hx hb dX11_understand_579 (by decide) (fun c_579 => ?_) (fun c_579 => ?_)
                                                    · have c_579 : ¬ (F = 194) := fun z => c_579 ((nI_eq (by omega) (by omega)).mpr z)
                                                      have hK : rdK sb se = 0 := by rw [hKg, if_neg (fun h9 => by omega), if_neg (fun h9 => by rw [hc0] at h9; omega), if_neg (fun h9 => by omega)]; unfold kdC; rw [if_neg (by omega), if_neg (by omega), if_neg (by omega)]
                                                      have f_o : μ1 o = some (hp_o 7 [.int (nI n), .ref (o + 1), .ref (o + 2), .ref (o + 3), .ref (o + 4), .ref (o + 5), .ref (o + 6), .int (nB on), .int (nI tz), .ref (o + 7), .int (nI se), .ref (o + 8), .ref (o + 9), .int (nI (rdK sb se)), .int (nI kl), .int (nI 0), .ref (o + 10), .int (nI sd), .ref (o + 11), .int (nI hd), .ref (o + 12), .int (nI an), .ref (o + 13), .int (nI fm), .int (nI fo), .ref (o + 14), .ref (o + 15), .int (nI kc), .ref (o + 16)]) := by rw [hK]; exact f_o
                                                      exact hp_rv hx hb hr hlocks hS hH (⟨rfl, _, _, _, _, f_o, f_9, f_10, fun h9 => h9.elim (fun h9 => absurd (hK.symm.trans h9) (by decide)) (fun h9 => absurd (hK.symm.trans h9) (by decide)), fun h9 => absurd (hK.symm.trans h9) (by decide), fr⟩) dX11_understand_588
                                                    · have c_579 : F = 194 := (nI_eq (by omega) (by omega)).mp c_579
                                                      refine lv_aload_n hx hb dX11_understand_582 rfl (lv_at hl 0 rfl) ?_
                                                      refine lv_bipush (v := nI 7) hx hb dX11_understand_583 (by decide) ?_
                                                      refine hp_put hx hb hown hS.2.1 hH (P_X11_98.use hS) f_o rfl rfl (Nat.le_of_ble_eq_true rfl) dX11_understand_585 (fun H locs μ1 fz fn hH => ?_)
                                                      have f_8 := (fn _ (by omega)).trans f_8
                                                      have f_9 := (fn _ (by omega)).trans f_9
                                                      have f_10 := (fn _ (by omega)).trans f_10
                                                      have f_o : μ1 o = some (hp_o 7 [.int (nI n), .ref (o + 1), .ref (o + 2), .ref (o + 3), .ref (o + 4), .ref (o + 5), .ref (o + 6), .int (nB on), .int (nI tz), .ref (o + 7), .int (nI se), .ref (o + 8), .ref (o + 9), .int (nI 7), .int (nI kl), .int (nI 0), .ref (o + 10), .int (nI sd), .ref (o + 11), .int (nI hd), .ref (o + 12), .int (nI an), .ref (o + 13), .int (nI fm), .int (nI fo), .ref (o + 14), .ref (o + 15), .int (nI kc), .ref (o + 16)]) := fz
                                                      have fr := hp_eqM.put (k := 0) fr (by decide) fn
                                                      clear fz fn
                                                      have hK : rdK sb se = 7 := by rw [hKg, if_neg (fun h9 => by omega), if_neg (fun h9 => by rw [hc0] at h9; omega), if_neg (fun h9 => by omega)]; unfold kdC; rw [if_neg (by omega), if_neg (by omega), if_pos (by omega)]
                                                      have f_o : μ1 o = some (hp_o 7 [.int (nI n), .ref (o + 1), .ref (o + 2), .ref (o + 3), .ref (o + 4), .ref (o + 5), .ref (o + 6), .int (nB on), .int (nI tz), .ref (o + 7), .int (nI se), .ref (o + 8), .ref (o + 9), .int (nI (rdK sb se)), .int (nI kl), .int (nI 0), .ref (o + 10), .int (nI sd), .ref (o + 11), .int (nI hd), .ref (o + 12), .int (nI an), .ref (o + 13), .int (nI fm), .int (nI fo), .ref (o + 14), .ref (o + 15), .int (nI kc), .ref (o + 16)]) := by rw [hK]; exact f_o
                                                      exact hp_rv hx hb hr hlocks hS hH (⟨rfl, _, _, _, _, f_o, f_9, f_10, fun h9 => h9.elim (fun h9 => absurd (hK.symm.trans h9) (by decide)) (fun h9 => absurd (hK.symm.trans h9) (by decide)), fun h9 => absurd (hK.symm.trans h9) (by decide), fr⟩) dX11_understand_588
                                                · have c_558 : F = 224 := (nI_eq (by omega) (by omega)).mp c_558
                                                  refine lv_aload_n hx hb dX11_understand_561 rfl (lv_at hl 0 rfl) ?_
                                                  refine lv_bipush (v := nI 6) hx hb dX11_understand_562 (by decide) ?_
                                                  refine hp_put hx hb hown hS.2.1 hH (P_X11_98.use hS) f_o rfl rfl (Nat.le_of_ble_eq_true rfl) dX11_understand_564 (fun H locs μ1 fz fn hH => ?_)
                                                  have f_8 := (fn _ (by omega)).trans f_8
                                                  have f_9 := (fn _ (by omega)).trans f_9
                                                  have f_10 := (fn _ (by omega)).trans f_10
                                                  have f_o : μ1 o = some (hp_o 7 [.int (nI n), .ref (o + 1), .ref (o + 2), .ref (o + 3), .ref (o + 4), .ref (o + 5), .ref (o + 6), .int (nB on), .int (nI tz), .ref (o + 7), .int (nI se), .ref (o + 8), .ref (o + 9), .int (nI 6), .int (nI kl), .int (nI 0), .ref (o + 10), .int (nI sd), .ref (o + 11), .int (nI hd), .ref (o + 12), .int (nI an), .ref (o + 13), .int (nI fm), .int (nI fo), .ref (o + 14), .ref (o + 15), .int (nI kc), .ref (o + 16)]) := fz
                                                  have fr := hp_eqM.put (k := 0) fr (by decide) fn
                                                  clear fz fn
                                                  refine lv_goto (tgt := 588) hx hb dX11_understand_567 (by decide) ?_
                                                  have hK : rdK sb se = 6 := by rw [hKg, if_neg (fun h9 => by omega), if_neg (fun h9 => by rw [hc0] at h9; omega), if_neg (fun h9 => by omega)]; unfold kdC; rw [if_neg (by omega), if_pos (by omega)]
                                                  have f_o : μ1 o = some (hp_o 7 [.int (nI n), .ref (o + 1), .ref (o + 2), .ref (o + 3), .ref (o + 4), .ref (o + 5), .ref (o + 6), .int (nB on), .int (nI tz), .ref (o + 7), .int (nI se), .ref (o + 8), .ref (o + 9), .int (nI (rdK sb se)), .int (nI kl), .int (nI 0), .ref (o + 10), .int (nI sd), .ref (o + 11), .int (nI hd), .ref (o + 12), .int (nI an), .ref (o + 13), .int (nI fm), .int (nI fo), .ref (o + 14), .ref (o + 15), .int (nI kc), .ref (o + 16)]) := by rw [hK]; exact f_o
                                                  exact hp_rv hx hb hr hlocks hS hH (⟨rfl, _, _, _, _, f_o, f_9, f_10, fun h9 => h9.elim (fun h9 => absurd (hK.symm.trans h9) (by decide)) (fun h9 => absurd (hK.symm.trans h9) (by decide)), fun _ => by rw [valN_va 8 (by omega), ← hS2]; exact hS0, fr⟩) dX11_understand_588
                                            · have c_538 : S2 = 0 := nz_0 (by omega) c_538
                                              refine lv_aload_n hx hb dX11_understand_541 rfl (lv_at hl 0 rfl) ?_
                                              refine lv_iconst (v := nI 5) hx hb dX11_understand_542 (by decide) ?_
                                              refine hp_put hx hb hown hS.2.1 hH (P_X11_98.use hS) f_o rfl rfl (Nat.le_of_ble_eq_true rfl) dX11_understand_543 (fun H locs μ1 fz fn hH => ?_)
                                              have f_8 := (fn _ (by omega)).trans f_8
                                              have f_9 := (fn _ (by omega)).trans f_9
                                              have f_10 := (fn _ (by omega)).trans f_10
                                              have f_o : μ1 o = some (hp_o 7 [.int (nI n), .ref (o + 1), .ref (o + 2), .ref (o + 3), .ref (o + 4), .ref (o + 5), .ref (o + 6), .int (nB on), .int (nI tz), .ref (o + 7), .int (nI se), .ref (o + 8), .ref (o + 9), .int (nI 5), .int (nI kl), .int (nI 0), .ref (o + 10), .int (nI sd), .ref (o + 11), .int (nI hd), .ref (o + 12), .int (nI an), .ref (o + 13), .int (nI fm), .int (nI fo), .ref (o + 14), .ref (o + 15), .int (nI kc), .ref (o + 16)]) := fz
                                              have fr := hp_eqM.put (k := 0) fr (by decide) fn
                                              clear fz fn
                                              refine lv_goto (tgt := 588) hx hb dX11_understand_546 (by decide) ?_
                                              have hK : rdK sb se = 5 := by rw [hKg, if_neg (fun h9 => by omega), if_neg (fun h9 => by rw [hc0] at h9; omega), if_neg (fun h9 => by omega)]; unfold kdC; rw [if_pos (by omega)]
                                              have f_o : μ1 o = some (hp_o 7 [.int (nI n), .ref (o + 1), .ref (o + 2), .ref (o + 3), .ref (o + 4), .ref (o + 5), .ref (o + 6), .int (nB on), .int (nI tz), .ref (o + 7), .int (nI se), .ref (o + 8), .ref (o + 9), .int (nI (rdK sb se)), .int (nI kl), .int (nI 0), .ref (o + 10), .int (nI sd), .ref (o + 11), .int (nI hd), .ref (o + 12), .int (nI an), .ref (o + 13), .int (nI fm), .int (nI fo), .ref (o + 14), .ref (o + 15), .int (nI kc), .ref (o + 16)]) := by rw [hK]; exact f_o
                                              exact hp_rv hx hb hr hlocks hS hH (⟨rfl, _, _, _, _, f_o, f_9, f_10, fun h9 => h9.elim (fun h9 => absurd (hK.symm.trans h9) (by decide)) (fun h9 => absurd (hK.symm.trans h9) (by decide)), fun h9 => absurd (hK.symm.trans h9) (by decide), fr⟩) dX11_understand_588
                                      · have c_450 : (se / 9) = 9 := (nI_eq (by omega) (by omega)).mp c_450
                                        refine lv_aload_n hx hb dX11_understand_453 rfl (lv_at hl 0 rfl) ?_
                                        refine lv_iconst (v := nI 4) hx hb dX11_understand_454 (by decide) ?_
                                        refine hp_put hx hb hown hS.2.1 hH (P_X11_98.use hS) f_o rfl rfl (Nat.le_of_ble_eq_true rfl) dX11_understand_455 (fun H locs μ1 fz fn hH => ?_)
                                        have f_8 := (fn _ (by omega)).trans f_8
                                        have f_9 := (fn _ (by omega)).trans f_9
                                        have f_10 := (fn _ (by omega)).trans f_10
                                        have f_o : μ1 o = some (hp_o 7 [.int (nI n), .ref (o + 1), .ref (o + 2), .ref (o + 3), .ref (o + 4), .ref (o + 5), .ref (o + 6), .int (nB on), .int (nI tz), .ref (o + 7), .int (nI se), .ref (o + 8), .ref (o + 9), .int (nI 4), .int (nI kl), .int (nI 0), .ref (o + 10), .int (nI sd), .ref (o + 11), .int (nI hd), .ref (o + 12), .int (nI an), .ref (o + 13), .int (nI fm), .int (nI fo), .ref (o + 14), .ref (o + 15), .int (nI kc), .ref (o + 16)]) := fz
                                        have fr := hp_eqM.put (k := 0) fr (by decide) fn
                                        clear fz fn
                                        refine lv_aload_n hx hb dX11_understand_458 rfl (lv_at hl 0 rfl) ?_
                                        refine lv_iload_n hx hb dX11_understand_459 rfl (lv_at hl 2 rfl) ?_
                                        refine lv_sipush (v := nI 145) hx hb dX11_understand_460 (by decide) ?_
                                        refine lv_isub hx hb dX11_understand_463 ?_
                                        refine hp_eqi (z := nI (F - 145)) (pk_sub (by omega)) ?_
                                        refine lv_iconst (v := nI 2) hx hb dX11_understand_464 (by decide) ?_
                                        refine lv_idiv hx hb dX11_understand_465 (nI_ne0 (by omega) (by omega)) ?_
                                        refine hp_eqi (z := nI ((F - 145) / 2)) (pk_div (by omega) (by omega) (by omega)) ?_
                                        refine hp_put hx hb hown hS.2.1 hH (P_X11_107.use hS) f_o rfl rfl (Nat.le_of_ble_eq_true rfl) dX11_understand_466 (fun H locs μ1 fz fn hH => ?_)
                                        have f_8 := (fn _ (by omega)).trans f_8
                                        have f_9 := (fn _ (by omega)).trans f_9
                                        have f_10 := (fn _ (by omega)).trans f_10
                                        have f_o : μ1 o = some (hp_o 7 [.int (nI n), .ref (o + 1), .ref (o + 2), .ref (o + 3), .ref (o + 4), .ref (o + 5), .ref (o + 6), .int (nB on), .int (nI tz), .ref (o + 7), .int (nI se), .ref (o + 8), .ref (o + 9), .int (nI 4), .int (nI ((F - 145) / 2)), .int (nI 0), .ref (o + 10), .int (nI sd), .ref (o + 11), .int (nI hd), .ref (o + 12), .int (nI an), .ref (o + 13), .int (nI fm), .int (nI fo), .ref (o + 14), .ref (o + 15), .int (nI kc), .ref (o + 16)]) := fz
                                        have fr := hp_eqM.put (k := 0) fr (by decide) fn
                                        clear fz fn
                                        refine lv_iconst (v := nI 0) hx hb dX11_understand_469 (by decide) ?_
                                        refine lv_istore (lv' := [(5, .int (nI 0)), (0, .ref o), (1, .int (nI (se / 9))), (2, .int (nI F)), (3, .int (nI 1)), (4, .int (nI (crcN sb se (se / 9 - 2))))]) hx hb dX11_understand_470 hl (by decide) rfl (fun ls hl => ?_)
                                        have lp_472 : ∀ (kk472 : Nat) (k : Nat) (D1 : Nat → Nat), (k ≤ 40) → (∀ j, j < k → D1 j = tdN sb se 5 0 / 2 ^ j % 2) → (40 - k) < kk472 → ∀ (μ1 : hp_M) (H : Heap) (locs : List Loc) (ls : Array Slot), (μ1 o = some (hp_o 7 [.int (nI n), .ref (o + 1), .ref (o + 2), .ref (o + 3), .ref (o + 4), .ref (o + 5), .ref (o + 6), .int (nB on), .int (nI tz), .ref (o + 7), .int (nI se), .ref (o + 8), .ref (o + 9), .int (nI 4), .int (nI ((F - 145) / 2)), .int (nI 0), .ref (o + 10), .int (nI sd), .ref (o + 11), .int (nI hd), .ref (o + 12), .int (nI an), .ref (o + 13), .int (nI fm), .int (nI fo), .ref (o + 14), .ref (o + 15), .int (nI kc), .ref (o + 16)])) → (μ1 (o + 8) = some (hp_n X 160 sb)) → (μ1 (o + 9) = some (hp_i X 18 f1)) → (μ1 (o + 10) = some (hp_n X 48 D1)) → hp_eqM [0, 9, 10] o μ1 μ → hp_w X cls μ1 nx H locs → lv_has ls 7 [(0, .ref o), (1, .int (nI (se / 9))), (2, .int (nI F)), (5, .int (nI k))] → W p l e { frames := 2, cells := 0, slots := 0, locals := 80 } s m [.ref o].toArray below meth c H locs 0 0 (MQ below (hq_v X (po_v nx (fun z => ∃ (kl9 tc9 : Nat) (B9 : Nat → Int32) (D9 : Nat → Nat), z o = some (hp_o 7 [.int (nI n), .ref (o + 1), .ref (o + 2), .ref (o + 3), .ref (o + 4), .ref (o + 5), .ref (o + 6), .int (nB on), .int (nI tz), .ref (o + 7), .int (nI se), .ref (o + 8), .ref (o + 9), .int (nI (rdK sb se)), .int (nI kl9), .int (nI tc9), .ref (o + 10), .int (nI sd), .ref (o + 11), .int (nI hd), .ref (o + 12), .int (nI an), .ref (o + 13), .int (nI fm), .int (nI fo), .ref (o + 14), .ref (o + 15), .int (nI kc), .ref (o + 16)]) ∧ z (o + 9) = some (hp_i X 18 B9) ∧ z (o + 10) = some (hp_n X 48 D9) ∧ (rdK sb se = 3 ∨ rdK sb se = 4 → kl9 = lvOf (valN sb se 0 8) ∧ tc9 = rdC sb se ∧ ∀ k, k < tc9 → D9 k = rdT sb se / 2 ^ k % 2) ∧ (rdK sb se = 6 → B9 1 = nI (valN sb se 9 8)) ∧ hp_eqM [0, 9, 10] o z μ))) [.ref o].toArray s 0 0 (hp_A X)) (F0 m 472 ls []) := by
                                          intro kk472
                                          induction kk472 with
                                          | zero =>
                                            intro k D1 hk hD1 hkk472
                                            exact absurd hkk472 (Nat.not_lt_zero _)
                                          | succ kk472 ih472 =>
                                            intro k D1 hk hD1 hkk472 μ1 H locs ls f_o f_8 f_9 f_10 fr hH hl
                                            refine lv_iload hx hb dX11_understand_472 (lv_at hl 3 rfl) ?_
                                            refine lv_bipush (v := nI 40) hx hb dX11_understand_474 (by decide) ?_
                                            refine lv_icmp_ge (tgt := 512) hx hb dX11_understand_476 (by decide) (fun c_476 => ?_) (fun c_476 => ?_)
                                            · have c_476 : 40 ≤ k := (nI_leI (by omega) (by omega)).mp c_476
                                              refine lv_aload_n hx hb dX11_understand_512 rfl (lv_at hl 0 rfl) ?_
                                              refine lv_bipush (v := nI 40) hx hb dX11_understand_513 (by decide) ?_
                                              refine hp_put hx hb hown hS.2.1 hH (P_X11_101.use hS) f_o rfl rfl (Nat.le_of_ble_eq_true rfl) dX11_understand_515 (fun H locs μ1 fz fn hH => ?_)
                                              have f_8 := (fn _ (by omega)).trans f_8
                                              have f_9 := (fn _ (by omega)).trans f_9
                                              have f_10 := (fn _ (by omega)).trans f_10
                                              have f_o : μ1 o = some (hp_o 7 [.int (nI n), .ref (o + 1), .ref (o + 2), .ref (o + 3), .ref (o + 4), .ref (o + 5), .ref (o + 6), .int (nB on), .int (nI tz), .ref (o + 7), .int (nI se), .ref (o + 8), .ref (o + 9), .int (nI 4), .int (nI ((F - 145) / 2)), .int (nI 40), .ref (o + 10), .int (nI sd), .ref (o + 11), .int (nI hd), .ref (o + 12), .int (nI an), .ref (o + 13), .int (nI fm), .int (nI fo), .ref (o + 14), .ref (o + 15), .int (nI kc), .ref (o + 16)]) := fz
                                              have fr := hp_eqM.put (k := 0) fr (by decide) fn
                                              clear fz fn
                                              refine lv_goto (tgt := 588) hx hb dX11_understand_518 (by decide) ?_
                                              have hK : rdK sb se = 4 := by rw [hKg, if_neg (fun h9 => by omega), if_neg (fun h9 => by rw [hc0] at h9; omega), if_pos ⟨hlv0, by omega, by omega⟩]
                                              have f_o : μ1 o = some (hp_o 7 [.int (nI n), .ref (o + 1), .ref (o + 2), .ref (o + 3), .ref (o + 4), .ref (o + 5), .ref (o + 6), .int (nB on), .int (nI tz), .ref (o + 7), .int (nI se), .ref (o + 8), .ref (o + 9), .int (nI (rdK sb se)), .int (nI ((F - 145) / 2)), .int (nI 40), .ref (o + 10), .int (nI sd), .ref (o + 11), .int (nI hd), .ref (o + 12), .int (nI an), .ref (o + 13), .int (nI fm), .int (nI fo), .ref (o + 14), .ref (o + 15), .int (nI kc), .ref (o + 16)]) := by rw [hK]; exact f_o
                                              have hk49 : k = 40 := by omega
                                              subst hk49
                                              have hT9 : rdT sb se = tdN sb se 5 0 := by unfold rdT; rw [if_neg (by rw [hK]; decide)]
                                              have hC9 : rdC sb se = 40 := by unfold rdC; rw [if_neg (by rw [hK]; decide)]
                                              exact hp_rv hx hb hr hlocks hS hH (⟨rfl, _, _, _, _, f_o, f_9, f_10, (fun _ => ⟨by rw [valN_va 8 (by omega), ← hF]; exact hlv.symm, hC9.symm, fun k9 hk9 => by rw [hT9]; exact hD1 k9 hk9⟩), fun h9 => absurd (hK.symm.trans h9) (by decide), fr⟩) dX11_understand_588
                                            · have c_476 : ¬ (40 ≤ k) := fun z => c_476 ((nI_leI (by omega) (by omega)).mpr z)
                                              refine lv_aload_n hx hb dX11_understand_479 rfl (lv_at hl 0 rfl) ?_
                                              refine hp_get hx hb hown hS.2.1 hH (F_X11_42.use hS) f_o rfl dX11_understand_480 ?_
                                              refine lv_iload hx hb dX11_understand_483 (lv_at hl 3 rfl) ?_
                                              refine lv_aload_n hx hb dX11_understand_485 rfl (lv_at hl 0 rfl) ?_
                                              refine hp_get hx hb hown hS.2.1 hH (F_X11_39.use hS) f_o rfl dX11_understand_486 ?_
                                              refine lv_iconst (v := nI 2) hx hb dX11_understand_489 (by decide) ?_
                                              refine lv_iload hx hb dX11_understand_490 (lv_at hl 3 rfl) ?_
                                              refine lv_bipush (v := nI 8) hx hb dX11_understand_492 (by decide) ?_
                                              refine lv_idiv hx hb dX11_understand_494 (nI_ne0 (by omega) (by omega)) ?_
                                              refine hp_eqi (z := nI (k / 8)) (pk_div (by omega) (by omega) (by omega)) ?_
                                              refine lv_iadd hx hb dX11_understand_495 ?_
                                              refine hp_eqi (z := nI (2 + (k / 8))) (nI_add _ _) ?_
                                              refine hp_ialdI hx hb hS.ai hH f_9 (by omega) (by omega) dX11_understand_496 ?_
                                              refine hp_eqi (z := nI (vaN sb (9 * (2 + k / 8)) 8)) (hB _ (by omega)) ?_
                                              refine lv_iload hx hb dX11_understand_497 (lv_at hl 3 rfl) ?_
                                              refine lv_bipush (v := nI 8) hx hb dX11_understand_499 (by decide) ?_
                                              refine lv_irem hx hb dX11_understand_501 (nI_ne0 (by omega) (by omega)) ?_
                                              refine hp_eqi (z := nI (k % 8)) (pk_rem (by omega) (by omega) (by omega)) ?_
                                              refine lv_ishr hx hb dX11_understand_502 ?_
                                              refine lv_iconst (v := nI 1) hx hb dX11_understand_503 (by decide) ?_
                                              refine lv_iand hx hb dX11_understand_504 ?_
                                              refine hp_eqi (z := nI (vaN sb (9 * (2 + k / 8)) 8 / 2 ^ (k % 8) % 2)) (by rw [z_sbI (by omega), bitI_n (Nat.lt_trans (vaN_lt (n := 8) (fun j _ => h01 _)) (by decide))]) ?_
                                              refine hp_iastN hx hb hS.ai hH f_10 (by omega) (by omega) dX11_understand_505 (fun H locs μ1 fz fn hH => ?_)
                                              have f_o := (fn _ (by omega)).trans f_o
                                              have f_8 := (fn _ (by omega)).trans f_8
                                              have f_9 := (fn _ (by omega)).trans f_9
                                              have f_10 : μ1 (o + 10) = some (hp_n X 48 (setN D1 k (vaN sb (9 * (2 + k / 8)) 8 / 2 ^ (k % 8) % 2))) := fz
                                              have fr := hp_eqM.put (k := 10) fr (by decide) fn
                                              clear fz fn
                                              refine lv_iinc (v := nI (k + 1)) (lv' := [(5, .int (nI (k + 1))), (0, .ref o), (1, .int (nI (se / 9))), (2, .int (nI F))]) hx hb dX11_understand_506 hl (k := 3) rfl (nI_add _ 1) (by decide) rfl (fun ls hl => ?_)
                                              refine lv_goto (tgt := 472) hx hb dX11_understand_509 (by decide) ?_
                                              exact ih472 (k + 1) (setN D1 k (vaN sb (9 * (2 + k / 8)) 8 / 2 ^ (k % 8) % 2)) (by omega) (fun j hj => (Decidable.em (j = k)).elim (fun e9 => by rw [e9, setN_s, tdN_lo h01 (by omega), valN_va 8 (by omega)]) (fun e9 => (setN_o e9).trans (hD1 j (by omega)))) (by omega) _ _ _ _ f_o f_8 f_9 f_10 fr hH (lv_sub hl [1, 2, 3, 0] rfl)
                                        exact lp_472 ((40 - 0) + 1) 0 D (Nat.zero_le _) (fun j hj => absurd hj (Nat.not_lt_zero _)) (Nat.lt_succ_self _) _ _ _ _ f_o f_8 f_9 f_10 fr hH (lv_sub hl [1, 2, 3, 0] rfl)
                                  · have c_439 : ¬ ((vaN sb (9 * (se / 9 - 1)) 8) = ((crcN sb se (se / 9 - 2)) / 256)) := fun z => c_439 ((nI_eq (by omega) (by omega)).mpr z)
                                    have hK : rdK sb se = 0 := by rw [hKg, if_neg (fun h9 => by omega), if_pos (Or.inr (fun h9 => by have h8 := hc9.mp h9; omega))]
                                    have f_o : μ1 o = some (hp_o 7 [.int (nI n), .ref (o + 1), .ref (o + 2), .ref (o + 3), .ref (o + 4), .ref (o + 5), .ref (o + 6), .int (nB on), .int (nI tz), .ref (o + 7), .int (nI se), .ref (o + 8), .ref (o + 9), .int (nI (rdK sb se)), .int (nI kl), .int (nI 0), .ref (o + 10), .int (nI sd), .ref (o + 11), .int (nI hd), .ref (o + 12), .int (nI an), .ref (o + 13), .int (nI fm), .int (nI fo), .ref (o + 14), .ref (o + 15), .int (nI kc), .ref (o + 16)]) := by rw [hK]; exact f_o
                                    exact hp_rv hx hb hr hlocks hS hH (⟨rfl, _, _, _, _, f_o, f_9, f_10, fun h9 => h9.elim (fun h9 => absurd (hK.symm.trans h9) (by decide)) (fun h9 => absurd (hK.symm.trans h9) (by decide)), fun h9 => absurd (hK.symm.trans h9) (by decide), fr⟩) dX11_understand_442
                              · have c_385 : ¬ (((se / 9) - 2) ≤ i2) := fun z => c_385 ((nI_leI (by omega) (by omega)).mpr z)
                                refine lv_iload hx hb dX11_understand_388 (lv_at hl 4 rfl) ?_
                                refine lv_aload_n hx hb dX11_understand_390 rfl (lv_at hl 0 rfl) ?_
                                refine hp_get hx hb hown hS.2.1 hH (F_X11_39.use hS) f_o rfl dX11_understand_391 ?_
                                refine lv_iload hx hb dX11_understand_394 (lv_at hl 5 rfl) ?_
                                refine hp_ialdI hx hb hS.ai hH f_9 (by omega) (by omega) dX11_understand_396 ?_
                                refine hp_eqi (z := nI (vaN sb (9 * i2) 8)) (hB _ (by omega)) ?_
                                have hv8 : vaN sb (9 * i2) 8 < 256 := vaN_lt (n := 8) (fun j _ => h01 _)
                                refine hp_kip (hp_runS (As := [.int (nI (crcN sb se i2)), .int (nI (vaN sb (9 * i2) 8))]) (rest := []) hx hb hml hown hS hH (c_X11_checked l X (crcN_lt _ _ _) hv8) M_X11_94 S_X11_checked rfl hl.1 rfl (Nat.le_of_ble_eq_true rfl) dX11_understand_397 ⟨Nat.le_of_ble_eq_true rfl, Nat.le_of_ble_eq_true rfl⟩ ⟨Nat.le_of_ble_eq_true rfl, Nat.le_of_ble_eq_true rfl⟩) hH (fun H locs hH => ?_)
                                refine hp_eqi (z := nI (crcN sb se (i2 + 1))) (by rw [crcN, valN_va 8 (by omega)]) ?_
                                refine lv_istore (lv' := [(4, .int (nI (crcN sb se (i2 + 1)))), (0, .ref o), (1, .int (nI (se / 9))), (2, .int (nI F)), (3, .int (nI 1)), (5, .int (nI i2))]) hx hb dX11_understand_400 hl (by decide) rfl (fun ls hl => ?_)
                                refine lv_iinc (v := nI (i2 + 1)) (lv' := [(5, .int (nI (i2 + 1))), (4, .int (nI (crcN sb se (i2 + 1)))), (0, .ref o), (1, .int (nI (se / 9))), (2, .int (nI F)), (3, .int (nI 1))]) hx hb dX11_understand_402 hl (k := 5) rfl (nI_add _ 1) (by decide) rfl (fun ls hl => ?_)
                                refine lv_goto (tgt := 380) hx hb dX11_understand_405 (by decide) ?_
                                exact ih380 (i2 + 1) (by omega) (by omega) _ _ _  hH (lv_sub hl [2, 3, 4, 5, 1, 0] rfl)
                          exact lp_380 ((se / 9 - 2 - 0) + 1) 0 (Nat.zero_le _) (Nat.lt_succ_self _) _ _ _  hH (lv_sub hl [4, 5, 3, 2, 1, 0] rfl)
                        · have c_368 : ¬ (3 ≤ (se / 9)) := fun z => c_368 ((nI_leI (by omega) (by omega)).mpr z)
                          have hK : rdK sb se = 0 := by rw [hKg, if_neg (fun h9 => by omega)]; split; rfl; rename_i h8; rw [if_neg (fun h9 => by omega)]; unfold kdC; rw [if_neg (by omega), if_neg (by omega), if_neg (by omega)]
                          have f_o : μ1 o = some (hp_o 7 [.int (nI n), .ref (o + 1), .ref (o + 2), .ref (o + 3), .ref (o + 4), .ref (o + 5), .ref (o + 6), .int (nB on), .int (nI tz), .ref (o + 7), .int (nI se), .ref (o + 8), .ref (o + 9), .int (nI (rdK sb se)), .int (nI kl), .int (nI 0), .ref (o + 10), .int (nI sd), .ref (o + 11), .int (nI hd), .ref (o + 12), .int (nI an), .ref (o + 13), .int (nI fm), .int (nI fo), .ref (o + 14), .ref (o + 15), .int (nI kc), .ref (o + 16)]) := by rw [hK]; exact f_o
                          exact hp_rv hx hb hr hlocks hS hH (⟨rfl, _, _, _, _, f_o, f_9, f_10, fun h9 => h9.elim (fun h9 => absurd (hK.symm.trans h9) (by decide)) (fun h9 => absurd (hK.symm.trans h9) (by decide)), fun h9 => absurd (hK.symm.trans h9) (by decide), fr⟩) dX11_understand_371
                    · have c_172 : ¬ (S2 = 112) := fun z => c_172 ((nI_eq (by omega) (by omega)).mpr z)
                      refine lv_aload_n hx hb dX11_understand_175 rfl (lv_at hl 2 rfl) ?_
                      refine hp_get hx hb hown hS.2.1 hH (F_X11_39.use hS) f_o rfl dX11_understand_176 ?_
                      refine lv_iconst (v := nI 1) hx hb dX11_understand_179 (by decide) ?_
                      refine hp_ialdI hx hb hS.ai hH f_9 (by omega) (by omega) dX11_understand_180 ?_
                      refine hp_eqi (z := nI S2) (hS0) ?_
                      refine lv_bipush (v := nI 16) hx hb dX11_understand_181 (by decide) ?_
                      refine lv_idiv hx hb dX11_understand_183 (nI_ne0 (by omega) (by omega)) ?_
                      refine hp_eqi (z := nI (S2 / 16)) (pk_div (by omega) (by omega) (by omega)) ?_
                      refine lv_istore (lv' := [(4, .int (nI (S2 / 16))), (3, .int (nI 1)), (2, .int (nI F)), (0, .ref o), (1, .int (nI (se / 9)))]) hx hb dX11_understand_184 hl (by decide) rfl (fun ls hl => ?_)
                      refine lv_aload_n hx hb dX11_understand_186 rfl (lv_at hl 3 rfl) ?_
                      refine hp_get hx hb hown hS.2.1 hH (F_X11_39.use hS) f_o rfl dX11_understand_187 ?_
                      refine lv_iconst (v := nI 1) hx hb dX11_understand_190 (by decide) ?_
                      refine hp_ialdI hx hb hS.ai hH f_9 (by omega) (by omega) dX11_understand_191 ?_
                      refine hp_eqi (z := nI S2) (hS0) ?_
                      refine lv_bipush (v := nI 16) hx hb dX11_understand_192 (by decide) ?_
                      refine lv_irem hx hb dX11_understand_194 (nI_ne0 (by omega) (by omega)) ?_
                      refine hp_eqi (z := nI (S2 % 16)) (pk_rem (by omega) (by omega) (by omega)) ?_
                      refine lv_istore (lv' := [(5, .int (nI (S2 % 16))), (4, .int (nI (S2 / 16))), (3, .int (nI 1)), (2, .int (nI F)), (0, .ref o), (1, .int (nI (se / 9)))]) hx hb dX11_understand_195 hl (by decide) rfl (fun ls hl => ?_)
                      refine lv_iload hx hb dX11_understand_197 (lv_at hl 1 rfl) ?_
                      refine lv_iconst (v := nI 2) hx hb dX11_understand_199 (by decide) ?_
                      refine lv_icmp_lt (tgt := 232) hx hb dX11_understand_200 (by decide) (fun c_200 => ?_) (fun c_200 => ?_)
                      · have c_200 : (S2 / 16) < 2 := (nI_ltI (by omega) (by omega)).mp c_200
                        have hK : rdK sb se = 0 := by rw [hKg, if_neg (fun h9 => by omega)]; split; rfl; rw [if_neg (fun h9 => by omega)]; unfold kdC; rw [if_neg (by omega), if_neg (by omega), if_neg (by omega)]
                        have f_o : μ1 o = some (hp_o 7 [.int (nI n), .ref (o + 1), .ref (o + 2), .ref (o + 3), .ref (o + 4), .ref (o + 5), .ref (o + 6), .int (nB on), .int (nI tz), .ref (o + 7), .int (nI se), .ref (o + 8), .ref (o + 9), .int (nI (rdK sb se)), .int (nI kl), .int (nI 0), .ref (o + 10), .int (nI sd), .ref (o + 11), .int (nI hd), .ref (o + 12), .int (nI an), .ref (o + 13), .int (nI fm), .int (nI fo), .ref (o + 14), .ref (o + 15), .int (nI kc), .ref (o + 16)]) := by rw [hK]; exact f_o
                        exact hp_rv hx hb hr hlocks hS hH (⟨rfl, _, _, _, _, f_o, f_9, f_10, fun h9 => h9.elim (fun h9 => absurd (hK.symm.trans h9) (by decide)) (fun h9 => absurd (hK.symm.trans h9) (by decide)), fun h9 => absurd (hK.symm.trans h9) (by decide), fr⟩) dX11_understand_232
                      · have c_200 : ¬ ((S2 / 16) < 2) := fun z => c_200 ((nI_ltI (by omega) (by omega)).mpr z)
                        refine lv_iload hx hb dX11_understand_203 (lv_at hl 1 rfl) ?_
                        refine lv_bipush (v := nI 6) hx hb dX11_understand_205 (by decide) ?_
                        refine lv_icmp_gt (tgt := 232) hx hb dX11_understand_207 (by decide) (fun c_207 => ?_) (fun c_207 => ?_)
                        · have c_207 : 6 < (S2 / 16) := (nI_ltI (by omega) (by omega)).mp c_207
                          have hK : rdK sb se = 0 := by rw [hKg, if_neg (fun h9 => by omega)]; split; rfl; rw [if_neg (fun h9 => by omega)]; unfold kdC; rw [if_neg (by omega), if_neg (by omega), if_neg (by omega)]
                          have f_o : μ1 o = some (hp_o 7 [.int (nI n), .ref (o + 1), .ref (o + 2), .ref (o + 3), .ref (o + 4), .ref (o + 5), .ref (o + 6), .int (nB on), .int (nI tz), .ref (o + 7), .int (nI se), .ref (o + 8), .ref (o + 9), .int (nI (rdK sb se)), .int (nI kl), .int (nI 0), .ref (o + 10), .int (nI sd), .ref (o + 11), .int (nI hd), .ref (o + 12), .int (nI an), .ref (o + 13), .int (nI fm), .int (nI fo), .ref (o + 14), .ref (o + 15), .int (nI kc), .ref (o + 16)]) := by rw [hK]; exact f_o
                          exact hp_rv hx hb hr hlocks hS hH (⟨rfl, _, _, _, _, f_o, f_9, f_10, fun h9 => h9.elim (fun h9 => absurd (hK.symm.trans h9) (by decide)) (fun h9 => absurd (hK.symm.trans h9) (by decide)), fun h9 => absurd (hK.symm.trans h9) (by decide), fr⟩) dX11_understand_232
                        · have c_207 : ¬ (6 < (S2 / 16)) := fun z => c_207 ((nI_ltI (by omega) (by omega)).mpr z)
                          refine lv_iload hx hb dX11_understand_210 (lv_at hl 0 rfl) ?_
                          refine lv_bipush (v := nI 7) hx hb dX11_understand_212 (by decide) ?_
                          refine lv_icmp_gt (tgt := 232) hx hb dX11_understand_214 (by decide) (fun c_214 => ?_) (fun c_214 => ?_)
                          · have c_214 : 7 < (S2 % 16) := (nI_ltI (by omega) (by omega)).mp c_214
                            have hK : rdK sb se = 0 := by rw [hKg, if_neg (fun h9 => by omega)]; split; rfl; rw [if_neg (fun h9 => by omega)]; unfold kdC; rw [if_neg (by omega), if_neg (by omega), if_neg (by omega)]
                            have f_o : μ1 o = some (hp_o 7 [.int (nI n), .ref (o + 1), .ref (o + 2), .ref (o + 3), .ref (o + 4), .ref (o + 5), .ref (o + 6), .int (nB on), .int (nI tz), .ref (o + 7), .int (nI se), .ref (o + 8), .ref (o + 9), .int (nI (rdK sb se)), .int (nI kl), .int (nI 0), .ref (o + 10), .int (nI sd), .ref (o + 11), .int (nI hd), .ref (o + 12), .int (nI an), .ref (o + 13), .int (nI fm), .int (nI fo), .ref (o + 14), .ref (o + 15), .int (nI kc), .ref (o + 16)]) := by rw [hK]; exact f_o
                            exact hp_rv hx hb hr hlocks hS hH (⟨rfl, _, _, _, _, f_o, f_9, f_10, fun h9 => h9.elim (fun h9 => absurd (hK.symm.trans h9) (by decide)) (fun h9 => absurd (hK.symm.trans h9) (by decide)), fun h9 => absurd (hK.symm.trans h9) (by decide), fr⟩) dX11_understand_232
                          · have c_214 : ¬ (7 < (S2 % 16)) := fun z => c_214 ((nI_ltI (by omega) (by omega)).mpr z)
                            refine lv_aload_n hx hb dX11_understand_217 rfl (lv_at hl 4 rfl) ?_
                            refine hp_get hx hb hown hS.2.1 hH (F_X11_104.use hS) f_o rfl dX11_understand_218 ?_
                            refine lv_bipush (v := nI 9) hx hb dX11_understand_221 (by decide) ?_
                            refine lv_iload hx hb dX11_understand_223 (lv_at hl 1 rfl) ?_
                            refine lv_imul hx hb dX11_understand_225 ?_
                            refine hp_eqi (z := nI (9 * (S2 / 16))) (pk_mul _ _) ?_
                            refine lv_iload hx hb dX11_understand_226 (lv_at hl 0 rfl) ?_
                            refine lv_iadd hx hb dX11_understand_228 ?_
                            refine hp_eqi (z := nI ((9 * (S2 / 16)) + (S2 % 16))) (nI_add _ _) ?_
                            refine lv_icmp_eq (tgt := 233) hx hb dX11_understand_229 (by decide) (fun c_229 => ?_) (fun c_229 => ?_)
                            · have c_229 : se = ((9 * (S2 / 16)) + (S2 % 16)) := (nI_eq (by omega) (by omega)).mp c_229
                              refine lv_aload_n hx hb dX11_understand_233 rfl (lv_at hl 4 rfl) ?_
                              refine lv_iconst (v := nI 3) hx hb dX11_understand_234 (by decide) ?_
                              refine hp_put hx hb hown hS.2.1 hH (P_X11_98.use hS) f_o rfl rfl (Nat.le_of_ble_eq_true rfl) dX11_understand_235 (fun H locs μ1 fz fn hH => ?_)
                              have f_8 := (fn _ (by omega)).trans f_8
                              have f_9 := (fn _ (by omega)).trans f_9
                              have f_10 := (fn _ (by omega)).trans f_10
                              have f_o : μ1 o = some (hp_o 7 [.int (nI n), .ref (o + 1), .ref (o + 2), .ref (o + 3), .ref (o + 4), .ref (o + 5), .ref (o + 6), .int (nB on), .int (nI tz), .ref (o + 7), .int (nI se), .ref (o + 8), .ref (o + 9), .int (nI 3), .int (nI kl), .int (nI 0), .ref (o + 10), .int (nI sd), .ref (o + 11), .int (nI hd), .ref (o + 12), .int (nI an), .ref (o + 13), .int (nI fm), .int (nI fo), .ref (o + 14), .ref (o + 15), .int (nI kc), .ref (o + 16)]) := fz
                              have fr := hp_eqM.put (k := 0) fr (by decide) fn
                              clear fz fn
                              refine lv_aload_n hx hb dX11_understand_238 rfl (lv_at hl 4 rfl) ?_
                              refine lv_iload_n hx hb dX11_understand_239 rfl (lv_at hl 3 rfl) ?_
                              refine lv_sipush (v := nI 145) hx hb dX11_understand_240 (by decide) ?_
                              refine lv_isub hx hb dX11_understand_243 ?_
                              refine hp_eqi (z := nI (F - 145)) (pk_sub (by omega)) ?_
                              refine lv_iconst (v := nI 2) hx hb dX11_understand_244 (by decide) ?_
                              refine lv_idiv hx hb dX11_understand_245 (nI_ne0 (by omega) (by omega)) ?_
                              refine hp_eqi (z := nI ((F - 145) / 2)) (pk_div (by omega) (by omega) (by omega)) ?_
                              refine hp_put hx hb hown hS.2.1 hH (P_X11_107.use hS) f_o rfl rfl (Nat.le_of_ble_eq_true rfl) dX11_understand_246 (fun H locs μ1 fz fn hH => ?_)
                              have f_8 := (fn _ (by omega)).trans f_8
                              have f_9 := (fn _ (by omega)).trans f_9
                              have f_10 := (fn _ (by omega)).trans f_10
                              have f_o : μ1 o = some (hp_o 7 [.int (nI n), .ref (o + 1), .ref (o + 2), .ref (o + 3), .ref (o + 4), .ref (o + 5), .ref (o + 6), .int (nB on), .int (nI tz), .ref (o + 7), .int (nI se), .ref (o + 8), .ref (o + 9), .int (nI 3), .int (nI ((F - 145) / 2)), .int (nI 0), .ref (o + 10), .int (nI sd), .ref (o + 11), .int (nI hd), .ref (o + 12), .int (nI an), .ref (o + 13), .int (nI fm), .int (nI fo), .ref (o + 14), .ref (o + 15), .int (nI kc), .ref (o + 16)]) := fz
                              have fr := hp_eqM.put (k := 0) fr (by decide) fn
                              clear fz fn
                              refine lv_iconst (v := nI 0) hx hb dX11_understand_249 (by decide) ?_
                              refine lv_istore (lv' := [(6, .int (nI 0)), (5, .int (nI (S2 % 16))), (4, .int (nI (S2 / 16))), (3, .int (nI 1)), (2, .int (nI F)), (0, .ref o), (1, .int (nI (se / 9)))]) hx hb dX11_understand_250 hl (by decide) rfl (fun ls hl => ?_)
                              have lp_252 : ∀ (kk252 : Nat) (k : Nat) (D1 : Nat → Nat), (k ≤ 8 * (S2 / 16 - 2)) → (∀ j, j < k → D1 j = tdN sb se (S2 / 16 - 2) (S2 % 16) / 2 ^ j % 2) → (8 * (S2 / 16 - 2) - k) < kk252 → ∀ (μ1 : hp_M) (H : Heap) (locs : List Loc) (ls : Array Slot), (μ1 o = some (hp_o 7 [.int (nI n), .ref (o + 1), .ref (o + 2), .ref (o + 3), .ref (o + 4), .ref (o + 5), .ref (o + 6), .int (nB on), .int (nI tz), .ref (o + 7), .int (nI se), .ref (o + 8), .ref (o + 9), .int (nI 3), .int (nI ((F - 145) / 2)), .int (nI 0), .ref (o + 10), .int (nI sd), .ref (o + 11), .int (nI hd), .ref (o + 12), .int (nI an), .ref (o + 13), .int (nI fm), .int (nI fo), .ref (o + 14), .ref (o + 15), .int (nI kc), .ref (o + 16)])) → (μ1 (o + 8) = some (hp_n X 160 sb)) → (μ1 (o + 9) = some (hp_i X 18 f1)) → (μ1 (o + 10) = some (hp_n X 48 D1)) → hp_eqM [0, 9, 10] o μ1 μ → hp_w X cls μ1 nx H locs → lv_has ls 7 [(0, .ref o), (1, .int (nI (se / 9))), (2, .int (nI F)), (4, .int (nI (S2 / 16))), (5, .int (nI (S2 % 16))), (6, .int (nI k))] → W p l e { frames := 2, cells := 0, slots := 0, locals := 80 } s m [.ref o].toArray below meth c H locs 0 0 (MQ below (hq_v X (po_v nx (fun z => ∃ (kl9 tc9 : Nat) (B9 : Nat → Int32) (D9 : Nat → Nat), z o = some (hp_o 7 [.int (nI n), .ref (o + 1), .ref (o + 2), .ref (o + 3), .ref (o + 4), .ref (o + 5), .ref (o + 6), .int (nB on), .int (nI tz), .ref (o + 7), .int (nI se), .ref (o + 8), .ref (o + 9), .int (nI (rdK sb se)), .int (nI kl9), .int (nI tc9), .ref (o + 10), .int (nI sd), .ref (o + 11), .int (nI hd), .ref (o + 12), .int (nI an), .ref (o + 13), .int (nI fm), .int (nI fo), .ref (o + 14), .ref (o + 15), .int (nI kc), .ref (o + 16)]) ∧ z (o + 9) = some (hp_i X 18 B9) ∧ z (o + 10) = some (hp_n X 48 D9) ∧ (rdK sb se = 3 ∨ rdK sb se = 4 → kl9 = lvOf (valN sb se 0 8) ∧ tc9 = rdC sb se ∧ ∀ k, k < tc9 → D9 k = rdT sb se / 2 ^ k % 2) ∧ (rdK sb se = 6 → B9 1 = nI (valN sb se 9 8)) ∧ hp_eqM [0, 9, 10] o z μ))) [.ref o].toArray s 0 0 (hp_A X)) (F0 m 252 ls []) := by
                                intro kk252
                                induction kk252 with
                                | zero =>
                                  intro k D1 hk hD1 hkk252
                                  exact absurd hkk252 (Nat.not_lt_zero _)
                                | succ kk252 ih252 =>
                                  intro k D1 hk hD1 hkk252 μ1 H locs ls f_o f_8 f_9 f_10 fr hH hl
                                  refine lv_iload hx hb dX11_understand_252 (lv_at hl 5 rfl) ?_
                                  refine lv_bipush (v := nI 8) hx hb dX11_understand_254 (by decide) ?_
                                  refine lv_iload hx hb dX11_understand_256 (lv_at hl 3 rfl) ?_
                                  refine lv_iconst (v := nI 2) hx hb dX11_understand_258 (by decide) ?_
                                  refine lv_isub hx hb dX11_understand_259 ?_
                                  refine hp_eqi (z := nI ((S2 / 16) - 2)) (pk_sub (by omega)) ?_
                                  refine lv_imul hx hb dX11_understand_260 ?_
                                  refine hp_eqi (z := nI (8 * ((S2 / 16) - 2))) (pk_mul _ _) ?_
                                  refine lv_icmp_ge (tgt := 297) hx hb dX11_understand_261 (by decide) (fun c_261 => ?_) (fun c_261 => ?_)
                                  · have c_261 : (8 * ((S2 / 16) - 2)) ≤ k := (nI_leI (by omega) (by omega)).mp c_261
                                    refine lv_iconst (v := nI 0) hx hb dX11_understand_297 (by decide) ?_
                                    refine lv_istore (lv' := [(6, .int (nI 0)), (0, .ref o), (1, .int (nI (se / 9))), (2, .int (nI F)), (4, .int (nI (S2 / 16))), (5, .int (nI (S2 % 16)))]) hx hb dX11_understand_298 hl (by decide) rfl (fun ls hl => ?_)
                                    have ek9 : k = 8 * (S2 / 16 - 2) := by omega
                                    have lp_300 : ∀ (kk300 : Nat) (k2 : Nat) (D2 : Nat → Nat), (k2 ≤ S2 % 16) → (∀ j, j < 8 * (S2 / 16 - 2) + k2 → D2 j = tdN sb se (S2 / 16 - 2) (S2 % 16) / 2 ^ j % 2) → (S2 % 16 - k2) < kk300 → ∀ (μ1 : hp_M) (H : Heap) (locs : List Loc) (ls : Array Slot), (μ1 o = some (hp_o 7 [.int (nI n), .ref (o + 1), .ref (o + 2), .ref (o + 3), .ref (o + 4), .ref (o + 5), .ref (o + 6), .int (nB on), .int (nI tz), .ref (o + 7), .int (nI se), .ref (o + 8), .ref (o + 9), .int (nI 3), .int (nI ((F - 145) / 2)), .int (nI 0), .ref (o + 10), .int (nI sd), .ref (o + 11), .int (nI hd), .ref (o + 12), .int (nI an), .ref (o + 13), .int (nI fm), .int (nI fo), .ref (o + 14), .ref (o + 15), .int (nI kc), .ref (o + 16)])) → (μ1 (o + 8) = some (hp_n X 160 sb)) → (μ1 (o + 9) = some (hp_i X 18 f1)) → (μ1 (o + 10) = some (hp_n X 48 D2)) → hp_eqM [0, 9, 10] o μ1 μ → hp_w X cls μ1 nx H locs → lv_has ls 7 [(0, .ref o), (1, .int (nI (se / 9))), (2, .int (nI F)), (4, .int (nI (S2 / 16))), (5, .int (nI (S2 % 16))), (6, .int (nI k2))] → W p l e { frames := 2, cells := 0, slots := 0, locals := 80 } s m [.ref o].toArray below meth c H locs 0 0 (MQ below (hq_v X (po_v nx (fun z => ∃ (kl9 tc9 : Nat) (B9 : Nat → Int32) (D9 : Nat → Nat), z o = some (hp_o 7 [.int (nI n), .ref (o + 1), .ref (o + 2), .ref (o + 3), .ref (o + 4), .ref (o + 5), .ref (o + 6), .int (nB on), .int (nI tz), .ref (o + 7), .int (nI se), .ref (o + 8), .ref (o + 9), .int (nI (rdK sb se)), .int (nI kl9), .int (nI tc9), .ref (o + 10), .int (nI sd), .ref (o + 11), .int (nI hd), .ref (o + 12), .int (nI an), .ref (o + 13), .int (nI fm), .int (nI fo), .ref (o + 14), .ref (o + 15), .int (nI kc), .ref (o + 16)]) ∧ z (o + 9) = some (hp_i X 18 B9) ∧ z (o + 10) = some (hp_n X 48 D9) ∧ (rdK sb se = 3 ∨ rdK sb se = 4 → kl9 = lvOf (valN sb se 0 8) ∧ tc9 = rdC sb se ∧ ∀ k, k < tc9 → D9 k = rdT sb se / 2 ^ k % 2) ∧ (rdK sb se = 6 → B9 1 = nI (valN sb se 9 8)) ∧ hp_eqM [0, 9, 10] o z μ))) [.ref o].toArray s 0 0 (hp_A X)) (F0 m 300 ls []) := by
                                      intro kk300
                                      induction kk300 with
                                      | zero =>
                                        intro k2 D2 hk2 hD2 hkk300
                                        exact absurd hkk300 (Nat.not_lt_zero _)
                                      | succ kk300 ih300 =>
                                        intro k2 D2 hk2 hD2 hkk300 μ1 H locs ls f_o f_8 f_9 f_10 fr hH hl
                                        refine lv_iload hx hb dX11_understand_300 (lv_at hl 5 rfl) ?_
                                        refine lv_iload hx hb dX11_understand_302 (lv_at hl 4 rfl) ?_
                                        refine lv_icmp_ge (tgt := 341) hx hb dX11_understand_304 (by decide) (fun c_304 => ?_) (fun c_304 => ?_)
                                        · have c_304 : (S2 % 16) ≤ k2 := (nI_leI (by omega) (by omega)).mp c_304
                                          refine lv_aload_n hx hb dX11_understand_341 rfl (lv_at hl 0 rfl) ?_
                                          refine lv_bipush (v := nI 8) hx hb dX11_understand_342 (by decide) ?_
                                          refine lv_iload hx hb dX11_understand_344 (lv_at hl 3 rfl) ?_
                                          refine lv_iconst (v := nI 2) hx hb dX11_understand_346 (by decide) ?_
                                          refine lv_isub hx hb dX11_understand_347 ?_
                                          refine hp_eqi (z := nI ((S2 / 16) - 2)) (pk_sub (by omega)) ?_
                                          refine lv_imul hx hb dX11_understand_348 ?_
                                          refine hp_eqi (z := nI (8 * ((S2 / 16) - 2))) (pk_mul _ _) ?_
                                          refine lv_iload hx hb dX11_understand_349 (lv_at hl 4 rfl) ?_
                                          refine lv_iadd hx hb dX11_understand_351 ?_
                                          refine hp_eqi (z := nI ((8 * ((S2 / 16) - 2)) + (S2 % 16))) (nI_add _ _) ?_
                                          refine hp_put hx hb hown hS.2.1 hH (P_X11_101.use hS) f_o rfl rfl (Nat.le_of_ble_eq_true rfl) dX11_understand_352 (fun H locs μ1 fz fn hH => ?_)
                                          have f_8 := (fn _ (by omega)).trans f_8
                                          have f_9 := (fn _ (by omega)).trans f_9
                                          have f_10 := (fn _ (by omega)).trans f_10
                                          have f_o : μ1 o = some (hp_o 7 [.int (nI n), .ref (o + 1), .ref (o + 2), .ref (o + 3), .ref (o + 4), .ref (o + 5), .ref (o + 6), .int (nB on), .int (nI tz), .ref (o + 7), .int (nI se), .ref (o + 8), .ref (o + 9), .int (nI 3), .int (nI ((F - 145) / 2)), .int (nI ((8 * ((S2 / 16) - 2)) + (S2 % 16))), .ref (o + 10), .int (nI sd), .ref (o + 11), .int (nI hd), .ref (o + 12), .int (nI an), .ref (o + 13), .int (nI fm), .int (nI fo), .ref (o + 14), .ref (o + 15), .int (nI kc), .ref (o + 16)]) := fz
                                          have fr := hp_eqM.put (k := 0) fr (by decide) fn
                                          clear fz fn
                                          have hK : rdK sb se = 3 := by rw [hKg, if_pos ⟨hlv0, by omega, by omega, by omega⟩]
                                          have f_o : μ1 o = some (hp_o 7 [.int (nI n), .ref (o + 1), .ref (o + 2), .ref (o + 3), .ref (o + 4), .ref (o + 5), .ref (o + 6), .int (nB on), .int (nI tz), .ref (o + 7), .int (nI se), .ref (o + 8), .ref (o + 9), .int (nI (rdK sb se)), .int (nI ((F - 145) / 2)), .int (nI ((8 * ((S2 / 16) - 2)) + (S2 % 16))), .ref (o + 10), .int (nI sd), .ref (o + 11), .int (nI hd), .ref (o + 12), .int (nI an), .ref (o + 13), .int (nI fm), .int (nI fo), .ref (o + 14), .ref (o + 15), .int (nI kc), .ref (o + 16)]) := by rw [hK]; exact f_o
                                          have hk29 : k2 = S2 % 16 := by omega
                                          subst hk29
                                          have hT9 : rdT sb se = tdN sb se (S2 / 16 - 2) (S2 % 16) := by unfold rdT; rw [if_pos hK, show se / 9 = S2 / 16 by omega, show se % 9 = S2 % 16 by omega]
                                          have hC9 : rdC sb se = 8 * (S2 / 16 - 2) + S2 % 16 := by unfold rdC; rw [if_pos hK, show se / 9 = S2 / 16 by omega, show se % 9 = S2 % 16 by omega]
                                          exact hp_rv hx hb hr hlocks hS hH (⟨rfl, _, _, _, _, f_o, f_9, f_10, (fun _ => ⟨by rw [valN_va 8 (by omega), ← hF]; exact hlv.symm, hC9.symm, fun k9 hk9 => by rw [hT9]; exact hD2 k9 hk9⟩), fun h9 => absurd (hK.symm.trans h9) (by decide), fr⟩) dX11_understand_355
                                        · have c_304 : ¬ ((S2 % 16) ≤ k2) := fun z => c_304 ((nI_leI (by omega) (by omega)).mpr z)
                                          refine lv_aload_n hx hb dX11_understand_307 rfl (lv_at hl 0 rfl) ?_
                                          refine hp_get hx hb hown hS.2.1 hH (F_X11_42.use hS) f_o rfl dX11_understand_308 ?_
                                          refine lv_bipush (v := nI 8) hx hb dX11_understand_311 (by decide) ?_
                                          refine lv_iload hx hb dX11_understand_313 (lv_at hl 3 rfl) ?_
                                          refine lv_iconst (v := nI 2) hx hb dX11_understand_315 (by decide) ?_
                                          refine lv_isub hx hb dX11_understand_316 ?_
                                          refine hp_eqi (z := nI ((S2 / 16) - 2)) (pk_sub (by omega)) ?_
                                          refine lv_imul hx hb dX11_understand_317 ?_
                                          refine hp_eqi (z := nI (8 * ((S2 / 16) - 2))) (pk_mul _ _) ?_
                                          refine lv_iload hx hb dX11_understand_318 (lv_at hl 5 rfl) ?_
                                          refine lv_iadd hx hb dX11_understand_320 ?_
                                          refine hp_eqi (z := nI ((8 * ((S2 / 16) - 2)) + k2)) (nI_add _ _) ?_
                                          refine lv_aload_n hx hb dX11_understand_321 rfl (lv_at hl 0 rfl) ?_
                                          refine hp_get hx hb hown hS.2.1 hH (F_X11_36.use hS) f_o rfl dX11_understand_322 ?_
                                          refine lv_bipush (v := nI 9) hx hb dX11_understand_325 (by decide) ?_
                                          refine lv_iload hx hb dX11_understand_327 (lv_at hl 3 rfl) ?_
                                          refine lv_imul hx hb dX11_understand_329 ?_
                                          refine hp_eqi (z := nI (9 * (S2 / 16))) (pk_mul _ _) ?_
                                          refine lv_iload hx hb dX11_understand_330 (lv_at hl 5 rfl) ?_
                                          refine lv_iadd hx hb dX11_understand_332 ?_
                                          refine hp_eqi (z := nI ((9 * (S2 / 16)) + k2)) (nI_add _ _) ?_
                                          refine hp_ialdN hx hb hS.ai hH f_8 (by omega) (by omega) dX11_understand_333 ?_
                                          refine hp_iastN hx hb hS.ai hH f_10 (by omega) (by omega) dX11_understand_334 (fun H locs μ1 fz fn hH => ?_)
                                          have f_o := (fn _ (by omega)).trans f_o
                                          have f_8 := (fn _ (by omega)).trans f_8
                                          have f_9 := (fn _ (by omega)).trans f_9
                                          have f_10 : μ1 (o + 10) = some (hp_n X 48 (setN D2 ((8 * ((S2 / 16) - 2)) + k2) (sb ((9 * (S2 / 16)) + k2)))) := fz
                                          have fr := hp_eqM.put (k := 10) fr (by decide) fn
                                          clear fz fn
                                          refine lv_iinc (v := nI (k2 + 1)) (lv' := [(6, .int (nI (k2 + 1))), (0, .ref o), (1, .int (nI (se / 9))), (2, .int (nI F)), (4, .int (nI (S2 / 16))), (5, .int (nI (S2 % 16)))]) hx hb dX11_understand_335 hl (k := 5) rfl (nI_add _ 1) (by decide) rfl (fun ls hl => ?_)
                                          refine lv_goto (tgt := 300) hx hb dX11_understand_338 (by decide) ?_
                                          exact ih300 (k2 + 1) (setN D2 ((8 * ((S2 / 16) - 2)) + k2) (sb ((9 * (S2 / 16)) + k2))) (by omega) (fun j hj => (Decidable.em (j = 8 * (S2 / 16 - 2) + k2)).elim (fun e9 => by rw [e9, setN_s, tdN_hi h01 (by omega) (by omega), show 9 * (2 + (S2 / 16 - 2)) = 9 * (S2 / 16) by omega]) (fun e9 => (setN_o e9).trans (hD2 j (by omega)))) (by omega) _ _ _ _ f_o f_8 f_9 f_10 fr hH (lv_sub hl [1, 2, 3, 4, 5, 0] rfl)
                                    exact lp_300 ((S2 % 16 - 0) + 1) 0 D1 (Nat.zero_le _) (fun j hj => hD1 j (by omega)) (Nat.lt_succ_self _) _ _ _ _ f_o f_8 f_9 f_10 fr hH (lv_sub hl [1, 2, 3, 4, 5, 0] rfl)
                                  · have c_261 : ¬ ((8 * ((S2 / 16) - 2)) ≤ k) := fun z => c_261 ((nI_leI (by omega) (by omega)).mpr z)
                                    refine lv_aload_n hx hb dX11_understand_264 rfl (lv_at hl 0 rfl) ?_
                                    refine hp_get hx hb hown hS.2.1 hH (F_X11_42.use hS) f_o rfl dX11_understand_265 ?_
                                    refine lv_iload hx hb dX11_understand_268 (lv_at hl 5 rfl) ?_
                                    refine lv_aload_n hx hb dX11_understand_270 rfl (lv_at hl 0 rfl) ?_
                                    refine hp_get hx hb hown hS.2.1 hH (F_X11_39.use hS) f_o rfl dX11_understand_271 ?_
                                    refine lv_iconst (v := nI 2) hx hb dX11_understand_274 (by decide) ?_
                                    refine lv_iload hx hb dX11_understand_275 (lv_at hl 5 rfl) ?_
                                    refine lv_bipush (v := nI 8) hx hb dX11_understand_277 (by decide) ?_
                                    refine lv_idiv hx hb dX11_understand_279 (nI_ne0 (by omega) (by omega)) ?_
                                    refine hp_eqi (z := nI (k / 8)) (pk_div (by omega) (by omega) (by omega)) ?_
                                    refine lv_iadd hx hb dX11_understand_280 ?_
                                    refine hp_eqi (z := nI (2 + (k / 8))) (nI_add _ _) ?_
                                    refine hp_ialdI hx hb hS.ai hH f_9 (by omega) (by omega) dX11_understand_281 ?_
                                    refine hp_eqi (z := nI (vaN sb (9 * (2 + k / 8)) 8)) (hB _ (by omega)) ?_
                                    refine lv_iload hx hb dX11_understand_282 (lv_at hl 5 rfl) ?_
                                    refine lv_bipush (v := nI 8) hx hb dX11_understand_284 (by decide) ?_
                                    refine lv_irem hx hb dX11_understand_286 (nI_ne0 (by omega) (by omega)) ?_
                                    refine hp_eqi (z := nI (k % 8)) (pk_rem (by omega) (by omega) (by omega)) ?_
                                    refine lv_ishr hx hb dX11_understand_287 ?_
                                    refine lv_iconst (v := nI 1) hx hb dX11_understand_288 (by decide) ?_
                                    refine lv_iand hx hb dX11_understand_289 ?_
                                    refine hp_eqi (z := nI (vaN sb (9 * (2 + k / 8)) 8 / 2 ^ (k % 8) % 2)) (by rw [z_sbI (by omega), bitI_n (Nat.lt_trans (vaN_lt (n := 8) (fun j _ => h01 _)) (by decide))]) ?_
                                    refine hp_iastN hx hb hS.ai hH f_10 (by omega) (by omega) dX11_understand_290 (fun H locs μ1 fz fn hH => ?_)
                                    have f_o := (fn _ (by omega)).trans f_o
                                    have f_8 := (fn _ (by omega)).trans f_8
                                    have f_9 := (fn _ (by omega)).trans f_9
                                    have f_10 : μ1 (o + 10) = some (hp_n X 48 (setN D1 k (vaN sb (9 * (2 + k / 8)) 8 / 2 ^ (k % 8) % 2))) := fz
                                    have fr := hp_eqM.put (k := 10) fr (by decide) fn
                                    clear fz fn
                                    refine lv_iinc (v := nI (k + 1)) (lv' := [(6, .int (nI (k + 1))), (0, .ref o), (1, .int (nI (se / 9))), (2, .int (nI F)), (4, .int (nI (S2 / 16))), (5, .int (nI (S2 % 16)))]) hx hb dX11_understand_291 hl (k := 5) rfl (nI_add _ 1) (by decide) rfl (fun ls hl => ?_)
                                    refine lv_goto (tgt := 252) hx hb dX11_understand_294 (by decide) ?_
                                    exact ih252 (k + 1) (setN D1 k (vaN sb (9 * (2 + k / 8)) 8 / 2 ^ (k % 8) % 2)) (by omega) (fun j hj => (Decidable.em (j = k)).elim (fun e9 => by rw [e9, setN_s, tdN_lo h01 (by omega), valN_va 8 (by omega)]) (fun e9 => (setN_o e9).trans (hD1 j (by omega)))) (by omega) _ _ _ _ f_o f_8 f_9 f_10 fr hH (lv_sub hl [1, 2, 3, 4, 5, 0] rfl)
                              exact lp_252 ((8 * (S2 / 16 - 2) - 0) + 1) 0 D (Nat.zero_le _) (fun j hj => absurd hj (Nat.not_lt_zero _)) (Nat.lt_succ_self _) _ _ _ _ f_o f_8 f_9 f_10 fr hH (lv_sub hl [5, 6, 4, 2, 1, 0] rfl)
                            · have c_229 : ¬ (se = ((9 * (S2 / 16)) + (S2 % 16))) := fun z => c_229 ((nI_eq (by omega) (by omega)).mpr z)
                              have hK : rdK sb se = 0 := by rw [hKg, if_neg (fun h9 => by omega)]; split; rfl; rw [if_neg (fun h9 => by omega)]; unfold kdC; rw [if_neg (by omega), if_neg (by omega), if_neg (by omega)]
                              have f_o : μ1 o = some (hp_o 7 [.int (nI n), .ref (o + 1), .ref (o + 2), .ref (o + 3), .ref (o + 4), .ref (o + 5), .ref (o + 6), .int (nB on), .int (nI tz), .ref (o + 7), .int (nI se), .ref (o + 8), .ref (o + 9), .int (nI (rdK sb se)), .int (nI kl), .int (nI 0), .ref (o + 10), .int (nI sd), .ref (o + 11), .int (nI hd), .ref (o + 12), .int (nI an), .ref (o + 13), .int (nI fm), .int (nI fo), .ref (o + 14), .ref (o + 15), .int (nI kc), .ref (o + 16)]) := by rw [hK]; exact f_o
                              exact hp_rv hx hb hr hlocks hS hH (⟨rfl, _, _, _, _, f_o, f_9, f_10, fun h9 => h9.elim (fun h9 => absurd (hK.symm.trans h9) (by decide)) (fun h9 => absurd (hK.symm.trans h9) (by decide)), fun h9 => absurd (hK.symm.trans h9) (by decide), fr⟩) dX11_understand_232
          · have c_122 : ¬ (2 ≤ (se / 9)) := fun z => c_122 ((nI_leI (by omega) (by omega)).mpr z)
            have hK : rdK sb se = 0 := by exact rdK_few c_16 (by omega)
            have f_o : μ1 o = some (hp_o 7 [.int (nI n), .ref (o + 1), .ref (o + 2), .ref (o + 3), .ref (o + 4), .ref (o + 5), .ref (o + 6), .int (nB on), .int (nI tz), .ref (o + 7), .int (nI se), .ref (o + 8), .ref (o + 9), .int (nI (rdK sb se)), .int (nI kl), .int (nI 0), .ref (o + 10), .int (nI sd), .ref (o + 11), .int (nI hd), .ref (o + 12), .int (nI an), .ref (o + 13), .int (nI fm), .int (nI fo), .ref (o + 14), .ref (o + 15), .int (nI kc), .ref (o + 16)]) := by rw [hK]; exact f_o
            exact hp_rv hx hb hr hlocks hS hH (⟨rfl, _, _, _, _, f_o, f_9, f_10, fun h9 => h9.elim (fun h9 => absurd (hK.symm.trans h9) (by decide)) (fun h9 => absurd (hK.symm.trans h9) (by decide)), fun h9 => absurd (hK.symm.trans h9) (by decide), fr⟩) dX11_understand_125
        · have c_84 : ¬ ((se / 9) ≤ i) := fun z => c_84 ((nI_leI (by omega) (by omega)).mpr z)
          refine lv_aload_n hx hb dX11_understand_87 rfl (lv_at hl 0 rfl) ?_
          refine hp_get hx hb hown hS.2.1 hH (F_X11_39.use hS) f_o rfl dX11_understand_88 ?_
          refine lv_iload_n hx hb dX11_understand_91 rfl (lv_at hl 2 rfl) ?_
          refine lv_aload_n hx hb dX11_understand_92 rfl (lv_at hl 0 rfl) ?_
          refine hp_get hx hb hown hS.2.1 hH (F_X11_36.use hS) f_o rfl dX11_understand_93 ?_
          refine lv_bipush (v := nI 9) hx hb dX11_understand_96 (by decide) ?_
          refine lv_iload_n hx hb dX11_understand_98 rfl (lv_at hl 2 rfl) ?_
          refine lv_imul hx hb dX11_understand_99 ?_
          refine hp_eqi (z := nI (9 * i)) (pk_mul _ _) ?_
          have hv8 : vaN sb (9 * i) 8 < 256 := vaN_lt (n := 8) (fun j _ => h01 _)
          by_cases hp : prN (vaN sb (9 * i) 8) 8 = sb (9 * i + 8)
          · refine hp_kip (hp_runS (As := [.ref (o + 8), .int (nI (9 * i))]) (rest := [.int (nI i), .ref (o + 9)]) hx hb hml hown hS hH (c_X11_read_ok l X (fun j _ => h01 _) (by omega) (by decide) hp f_8) M_X11_90 S_X11_read rfl hl.1 rfl (Nat.le_of_ble_eq_true rfl) dX11_understand_100 ⟨Nat.le_of_ble_eq_true rfl, Nat.le_of_ble_eq_true rfl⟩ ⟨Nat.le_of_ble_eq_true rfl, Nat.le_of_ble_eq_true rfl⟩) hH (fun H locs hH => ?_)
            refine hp_iastI hx hb hS.ai hH f_9 (by omega) (by omega) dX11_understand_103 (fun H locs μ1 fz fn hH => ?_)
            have f_o := (fn _ (by omega)).trans f_o
            have f_8 := (fn _ (by omega)).trans f_8
            have f_10 := (fn _ (by omega)).trans f_10
            have f_9 : μ1 (o + 9) = some (hp_i X 18 (setI f1 i (nI (vaN sb (9 * i) 8)))) := fz
            have fr := hp_eqM.put (k := 9) fr (by decide) fn
            clear fz fn
            refine lv_aload_n hx hb dX11_understand_104 rfl (lv_at hl 0 rfl) ?_
            refine hp_get hx hb hown hS.2.1 hH (F_X11_39.use hS) f_o rfl dX11_understand_105 ?_
            refine lv_iload_n hx hb dX11_understand_108 rfl (lv_at hl 2 rfl) ?_
            refine hp_ialdI hx hb hS.ai hH f_9 (by omega) (by omega) dX11_understand_109 ?_
            refine hp_eqi (z := nI (vaN sb (9 * i) 8)) (setI_s _ _ _) ?_
            refine lv_if_ge (tgt := 114) hx hb dX11_understand_110 (by decide) (fun c_110 => ?_) (fun c_110 => ?_)
            · refine lv_iinc (v := nI (i + 1)) (lv' := [(2, .int (nI (i + 1))), (0, .ref o), (1, .int (nI (se / 9)))]) hx hb dX11_understand_114 hl (k := 2) rfl (nI_add _ 1) (by decide) rfl (fun ls hl => ?_)
              refine lv_goto (tgt := 82) hx hb dX11_understand_117 (by decide) ?_
              exact ih82 (i + 1) (setI f1 i (nI (vaN sb (9 * i) 8))) (by omega) (by rw [begN_s h01 (by omega) hg]; exact decide_eq_true hp) (fun j hj => (Decidable.em (j = i)).elim (fun e9 => by rw [e9]; exact setI_s _ _ _) (fun e9 => (setI_o e9).trans (hB j (by omega)))) (by omega) _ _ _ _ f_o f_8 f_9 f_10 fr hH (lv_sub hl [1, 2, 0] rfl)
            · exact absurd (nI_pos' (by omega)) c_110
          · refine hp_kip (hp_runS (As := [.ref (o + 8), .int (nI (9 * i))]) (rest := [.int (nI i), .ref (o + 9)]) hx hb hml hown hS hH (c_X11_read_bad l X (fun j _ => h01 _) (by omega) (by decide) hp f_8) M_X11_90 S_X11_read rfl hl.1 rfl (Nat.le_of_ble_eq_true rfl) dX11_understand_100 ⟨Nat.le_of_ble_eq_true rfl, Nat.le_of_ble_eq_true rfl⟩ ⟨Nat.le_of_ble_eq_true rfl, Nat.le_of_ble_eq_true rfl⟩) hH (fun H locs hH => ?_)
            refine hp_iastI hx hb hS.ai hH f_9 (by omega) (by omega) dX11_understand_103 (fun H locs μ1 fz fn hH => ?_)
            have f_o := (fn _ (by omega)).trans f_o
            have f_8 := (fn _ (by omega)).trans f_8
            have f_10 := (fn _ (by omega)).trans f_10
            have f_9 : μ1 (o + 9) = some (hp_i X 18 (setI f1 i (-1))) := fz
            have fr := hp_eqM.put (k := 9) fr (by decide) fn
            clear fz fn
            refine lv_aload_n hx hb dX11_understand_104 rfl (lv_at hl 0 rfl) ?_
            refine hp_get hx hb hown hS.2.1 hH (F_X11_39.use hS) f_o rfl dX11_understand_105 ?_
            refine lv_iload_n hx hb dX11_understand_108 rfl (lv_at hl 2 rfl) ?_
            refine hp_ialdI hx hb hS.ai hH f_9 (by omega) (by omega) dX11_understand_109 ?_
            refine hp_eqi (z := (-1)) (setI_s _ _ _) ?_
            refine lv_if_ge (tgt := 114) hx hb dX11_understand_110 (by decide) (fun c_110 => ?_) (fun c_110 => ?_)
            · exact absurd c_110 (by decide)
            · have hK : rdK sb se = 0 := by exact rdK_bad c_16 (i := i + 1) (by rw [begN_s h01 (by omega) hg]; exact decide_eq_false hp) (by omega)
              have f_o : μ1 o = some (hp_o 7 [.int (nI n), .ref (o + 1), .ref (o + 2), .ref (o + 3), .ref (o + 4), .ref (o + 5), .ref (o + 6), .int (nB on), .int (nI tz), .ref (o + 7), .int (nI se), .ref (o + 8), .ref (o + 9), .int (nI (rdK sb se)), .int (nI kl), .int (nI 0), .ref (o + 10), .int (nI sd), .ref (o + 11), .int (nI hd), .ref (o + 12), .int (nI an), .ref (o + 13), .int (nI fm), .int (nI fo), .ref (o + 14), .ref (o + 15), .int (nI kc), .ref (o + 16)]) := by rw [hK]; exact f_o
              exact hp_rv hx hb hr hlocks hS hH (⟨rfl, _, _, _, _, f_o, f_9, f_10, fun h9 => h9.elim (fun h9 => absurd (hK.symm.trans h9) (by decide)) (fun h9 => absurd (hK.symm.trans h9) (by decide)), fun h9 => absurd (hK.symm.trans h9) (by decide), fr⟩) dX11_understand_113
    exact lp_82 ((se / 9 - 0) + 1) 0 Bf (Nat.zero_le _) rfl (fun j hj => absurd hj (Nat.not_lt_zero _)) (Nat.lt_succ_self _) _ _ _ _ f_o f_8 f_9 f_10 fr hH (lv_sub hl [2, 1, 0] rfl)
  · have c_16 : se = 7 := (nI_eq (by omega) (by omega)).mp c_16
    refine lv_iconst (v := nI 0) hx hb dX11_understand_19 (by decide) ?_
    refine lv_istore_n (lv' := [(1, .int (nI 0)), (0, .ref o)]) hx hb dX11_understand_20 rfl hl (by decide) rfl (fun ls hl => ?_)
    refine lv_iconst (v := nI 0) hx hb dX11_understand_21 (by decide) ?_
    refine lv_istore_n (lv' := [(2, .int (nI 0)), (1, .int (nI 0)), (0, .ref o)]) hx hb dX11_understand_22 rfl hl (by decide) rfl (fun ls hl => ?_)
    have lp_23 : ∀ (kk23 : Nat) (k : Nat), (k ≤ 7) → (7 - k) < kk23 → ∀ (H : Heap) (locs : List Loc) (ls : Array Slot), hp_w X cls μ1 nx H locs → lv_has ls 7 [(0, .ref o), (1, .int (nI (vaN sb 0 k))), (2, .int (nI k))] → W p l e { frames := 2, cells := 0, slots := 0, locals := 80 } s m [.ref o].toArray below meth c H locs 0 0 (MQ below (hq_v X (po_v nx (fun z => ∃ (kl9 tc9 : Nat) (B9 : Nat → Int32) (D9 : Nat → Nat), z o = some (hp_o 7 [.int (nI n), .ref (o + 1), .ref (o + 2), .ref (o + 3), .ref (o + 4), .ref (o + 5), .ref (o + 6), .int (nB on), .int (nI tz), .ref (o + 7), .int (nI se), .ref (o + 8), .ref (o + 9), .int (nI (rdK sb se)), .int (nI kl9), .int (nI tc9), .ref (o + 10), .int (nI sd), .ref (o + 11), .int (nI hd), .ref (o + 12), .int (nI an), .ref (o + 13), .int (nI fm), .int (nI fo), .ref (o + 14), .ref (o + 15), .int (nI kc), .ref (o + 16)]) ∧ z (o + 9) = some (hp_i X 18 B9) ∧ z (o + 10) = some (hp_n X 48 D9) ∧ (rdK sb se = 3 ∨ rdK sb se = 4 → kl9 = lvOf (valN sb se 0 8) ∧ tc9 = rdC sb se ∧ ∀ k, k < tc9 → D9 k = rdT sb se / 2 ^ k % 2) ∧ (rdK sb se = 6 → B9 1 = nI (valN sb se 9 8)) ∧ hp_eqM [0, 9, 10] o z μ))) [.ref o].toArray s 0 0 (hp_A X)) (F0 m 23 ls []) := by
      intro kk23
      induction kk23 with
      | zero =>
        intro k hk hkk23
        exact absurd hkk23 (Nat.not_lt_zero _)
      | succ kk23 ih23 =>
        intro k hk hkk23 H locs ls  hH hl
        refine lv_iload_n hx hb dX11_understand_23 rfl (lv_at hl 2 rfl) ?_
        refine lv_bipush (v := nI 7) hx hb dX11_understand_24 (by decide) ?_
        refine lv_icmp_ge (tgt := 46) hx hb dX11_understand_26 (by decide) (fun c_26 => ?_) (fun c_26 => ?_)
        · have c_26 : 7 ≤ k := (nI_leI (by omega) (by omega)).mp c_26
          have ek : k = 7 := by omega
          subst ek
          have hv7 : vaN sb 0 7 < 128 := vaN_lt (n := 7) (fun j _ => h01 _)
          refine lv_aload_n hx hb dX11_understand_46 rfl (lv_at hl 0 rfl) ?_
          refine lv_iload_n hx hb dX11_understand_47 rfl (lv_at hl 1 rfl) ?_
          refine lv_bipush (v := nI 38) hx hb dX11_understand_48 (by decide) ?_
          refine lv_icmp_ne (tgt := 57) hx hb dX11_understand_50 (by decide) (fun c_50 => ?_) (fun c_50 => ?_)
          · have c_50 : ¬ ((vaN sb 0 7) = 38) := fun z => c_50 ((nI_eq (by omega) (by omega)).mpr z)
            refine lv_iload_n hx hb dX11_understand_57 rfl (lv_at hl 1 rfl) ?_
            refine lv_bipush (v := nI 82) hx hb dX11_understand_58 (by decide) ?_
            refine lv_icmp_ne (tgt := 67) hx hb dX11_understand_60 (by decide) (fun c_60 => ?_) (fun c_60 => ?_)
            · have c_60 : ¬ ((vaN sb 0 7) = 82) := fun z => c_60 ((nI_eq (by omega) (by omega)).mpr z)
              refine lv_iconst (v := nI 0) hx hb dX11_understand_67 (by decide) ?_
              refine hp_put hx hb hown hS.2.1 hH (P_X11_98.use hS) f_o rfl rfl (Nat.le_of_ble_eq_true rfl) dX11_understand_68 (fun H locs μ1 fz fn hH => ?_)
              have f_8 := (fn _ (by omega)).trans f_8
              have f_9 := (fn _ (by omega)).trans f_9
              have f_10 := (fn _ (by omega)).trans f_10
              have f_o : μ1 o = some (hp_o 7 [.int (nI n), .ref (o + 1), .ref (o + 2), .ref (o + 3), .ref (o + 4), .ref (o + 5), .ref (o + 6), .int (nB on), .int (nI tz), .ref (o + 7), .int (nI se), .ref (o + 8), .ref (o + 9), .int (nI 0), .int (nI kl), .int (nI 0), .ref (o + 10), .int (nI sd), .ref (o + 11), .int (nI hd), .ref (o + 12), .int (nI an), .ref (o + 13), .int (nI fm), .int (nI fo), .ref (o + 14), .ref (o + 15), .int (nI kc), .ref (o + 16)]) := fz
              have fr := hp_eqM.put (k := 0) fr (by decide) fn
              clear fz fn
              have hK : rdK sb se = 0 := by rw [rdK_7 c_16]; unfold kdS; rw [if_neg c_50, if_neg c_60]
              have f_o : μ1 o = some (hp_o 7 [.int (nI n), .ref (o + 1), .ref (o + 2), .ref (o + 3), .ref (o + 4), .ref (o + 5), .ref (o + 6), .int (nB on), .int (nI tz), .ref (o + 7), .int (nI se), .ref (o + 8), .ref (o + 9), .int (nI (rdK sb se)), .int (nI kl), .int (nI 0), .ref (o + 10), .int (nI sd), .ref (o + 11), .int (nI hd), .ref (o + 12), .int (nI an), .ref (o + 13), .int (nI fm), .int (nI fo), .ref (o + 14), .ref (o + 15), .int (nI kc), .ref (o + 16)]) := by rw [hK]; exact f_o
              exact hp_rv hx hb hr hlocks hS hH (⟨rfl, _, _, _, _, f_o, f_9, f_10, fun h9 => h9.elim (fun h9 => absurd (hK.symm.trans h9) (by decide)) (fun h9 => absurd (hK.symm.trans h9) (by decide)), fun h9 => absurd (hK.symm.trans h9) (by decide), fr⟩) dX11_understand_71
            · have c_60 : (vaN sb 0 7) = 82 := (nI_eq (by omega) (by omega)).mp c_60
              refine lv_iconst (v := nI 2) hx hb dX11_understand_63 (by decide) ?_
              refine lv_goto (tgt := 68) hx hb dX11_understand_64 (by decide) ?_
              refine hp_put hx hb hown hS.2.1 hH (P_X11_98.use hS) f_o rfl rfl (Nat.le_of_ble_eq_true rfl) dX11_understand_68 (fun H locs μ1 fz fn hH => ?_)
              have f_8 := (fn _ (by omega)).trans f_8
              have f_9 := (fn _ (by omega)).trans f_9
              have f_10 := (fn _ (by omega)).trans f_10
              have f_o : μ1 o = some (hp_o 7 [.int (nI n), .ref (o + 1), .ref (o + 2), .ref (o + 3), .ref (o + 4), .ref (o + 5), .ref (o + 6), .int (nB on), .int (nI tz), .ref (o + 7), .int (nI se), .ref (o + 8), .ref (o + 9), .int (nI 2), .int (nI kl), .int (nI 0), .ref (o + 10), .int (nI sd), .ref (o + 11), .int (nI hd), .ref (o + 12), .int (nI an), .ref (o + 13), .int (nI fm), .int (nI fo), .ref (o + 14), .ref (o + 15), .int (nI kc), .ref (o + 16)]) := fz
              have fr := hp_eqM.put (k := 0) fr (by decide) fn
              clear fz fn
              have hK : rdK sb se = 2 := by rw [rdK_7 c_16]; unfold kdS; rw [if_neg c_50, if_pos c_60]
              have f_o : μ1 o = some (hp_o 7 [.int (nI n), .ref (o + 1), .ref (o + 2), .ref (o + 3), .ref (o + 4), .ref (o + 5), .ref (o + 6), .int (nB on), .int (nI tz), .ref (o + 7), .int (nI se), .ref (o + 8), .ref (o + 9), .int (nI (rdK sb se)), .int (nI kl), .int (nI 0), .ref (o + 10), .int (nI sd), .ref (o + 11), .int (nI hd), .ref (o + 12), .int (nI an), .ref (o + 13), .int (nI fm), .int (nI fo), .ref (o + 14), .ref (o + 15), .int (nI kc), .ref (o + 16)]) := by rw [hK]; exact f_o
              exact hp_rv hx hb hr hlocks hS hH (⟨rfl, _, _, _, _, f_o, f_9, f_10, fun h9 => h9.elim (fun h9 => absurd (hK.symm.trans h9) (by decide)) (fun h9 => absurd (hK.symm.trans h9) (by decide)), fun h9 => absurd (hK.symm.trans h9) (by decide), fr⟩) dX11_understand_71
          · have c_50 : (vaN sb 0 7) = 38 := (nI_eq (by omega) (by omega)).mp c_50
            refine lv_iconst (v := nI 1) hx hb dX11_understand_53 (by decide) ?_
            refine lv_goto (tgt := 68) hx hb dX11_understand_54 (by decide) ?_
            refine hp_put hx hb hown hS.2.1 hH (P_X11_98.use hS) f_o rfl rfl (Nat.le_of_ble_eq_true rfl) dX11_understand_68 (fun H locs μ1 fz fn hH => ?_)
            have f_8 := (fn _ (by omega)).trans f_8
            have f_9 := (fn _ (by omega)).trans f_9
            have f_10 := (fn _ (by omega)).trans f_10
            have f_o : μ1 o = some (hp_o 7 [.int (nI n), .ref (o + 1), .ref (o + 2), .ref (o + 3), .ref (o + 4), .ref (o + 5), .ref (o + 6), .int (nB on), .int (nI tz), .ref (o + 7), .int (nI se), .ref (o + 8), .ref (o + 9), .int (nI 1), .int (nI kl), .int (nI 0), .ref (o + 10), .int (nI sd), .ref (o + 11), .int (nI hd), .ref (o + 12), .int (nI an), .ref (o + 13), .int (nI fm), .int (nI fo), .ref (o + 14), .ref (o + 15), .int (nI kc), .ref (o + 16)]) := fz
            have fr := hp_eqM.put (k := 0) fr (by decide) fn
            clear fz fn
            have hK : rdK sb se = 1 := by rw [rdK_7 c_16]; unfold kdS; rw [if_pos c_50]
            have f_o : μ1 o = some (hp_o 7 [.int (nI n), .ref (o + 1), .ref (o + 2), .ref (o + 3), .ref (o + 4), .ref (o + 5), .ref (o + 6), .int (nB on), .int (nI tz), .ref (o + 7), .int (nI se), .ref (o + 8), .ref (o + 9), .int (nI (rdK sb se)), .int (nI kl), .int (nI 0), .ref (o + 10), .int (nI sd), .ref (o + 11), .int (nI hd), .ref (o + 12), .int (nI an), .ref (o + 13), .int (nI fm), .int (nI fo), .ref (o + 14), .ref (o + 15), .int (nI kc), .ref (o + 16)]) := by rw [hK]; exact f_o
            exact hp_rv hx hb hr hlocks hS hH (⟨rfl, _, _, _, _, f_o, f_9, f_10, fun h9 => h9.elim (fun h9 => absurd (hK.symm.trans h9) (by decide)) (fun h9 => absurd (hK.symm.trans h9) (by decide)), fun h9 => absurd (hK.symm.trans h9) (by decide), fr⟩) dX11_understand_71
        · have c_26 : ¬ (7 ≤ k) := fun z => c_26 ((nI_leI (by omega) (by omega)).mpr z)
          refine lv_iload_n hx hb dX11_understand_29 rfl (lv_at hl 1 rfl) ?_
          refine lv_aload_n hx hb dX11_understand_30 rfl (lv_at hl 0 rfl) ?_
          refine hp_get hx hb hown hS.2.1 hH (F_X11_36.use hS) f_o rfl dX11_understand_31 ?_
          refine lv_iload_n hx hb dX11_understand_34 rfl (lv_at hl 2 rfl) ?_
          refine hp_ialdN hx hb hS.ai hH f_8 (by omega) (by omega) dX11_understand_35 ?_
          refine hp_eqi (z := nI (sb (0 + k))) (by rw [Nat.zero_add]) ?_
          refine lv_iload_n hx hb dX11_understand_36 rfl (lv_at hl 2 rfl) ?_
          refine lv_ishl hx hb dX11_understand_37 ?_
          refine lv_ior hx hb dX11_understand_38 ?_
          refine hp_eqi (z := nI (vaN sb 0 (k + 1))) (z_or (vaN_lt (fun j hj => h01 _)) (h01 _) (by omega)) ?_
          refine lv_istore_n (lv' := [(1, .int (nI (vaN sb 0 (k + 1)))), (0, .ref o), (2, .int (nI k))]) hx hb dX11_understand_39 rfl hl (by decide) rfl (fun ls hl => ?_)
          refine lv_iinc (v := nI (k + 1)) (lv' := [(2, .int (nI (k + 1))), (1, .int (nI (vaN sb 0 (k + 1)))), (0, .ref o)]) hx hb dX11_understand_40 hl (k := 2) rfl (nI_add _ 1) (by decide) rfl (fun ls hl => ?_)
          refine lv_goto (tgt := 23) hx hb dX11_understand_43 (by decide) ?_
          exact ih23 (k + 1) (by omega) (by omega) _ _ _  hH (lv_sub hl [2, 1, 0] rfl)
    exact lp_23 ((7 - 0) + 1) 0 (Nat.zero_le _) (Nat.lt_succ_self _) _ _ _  hH (lv_sub hl [2, 1, 0] rfl)
