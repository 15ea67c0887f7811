set_option maxHeartbeats 4000000 in
set_option maxRecDepth 100000 in
theorem c_X11_tag_ok (l : Launch) (X : hp_X) {μ : hp_M} {nx : Nat} {o n tz se kd kl tc sd hd an fm fo kc : Nat} {on : Bool} {lv2 : Nat} {a b c1 : Int32} {Z Nu S L sh2 : Nat → Nat} {G : Nat → Bool} (hl1 : 1 ≤ lv2) (hl3 : lv2 ≤ 3) (hn16 : n ≤ 16) (hZ17 : ∀ j, j < n → Z (j + 1) < 2 ^ 20) (hN170 : ∀ j, Nu j < 2 ^ 20) (hunf : ¬ nbN a b c1 (3 * lv2 + 1 - 4) = 136) (hkn : ∀ j, j < n → ¬ smR Z Nu lv2 a b c1 j) (hnf : n < 16) (f_o : μ o = some (hp_o 7 [.int (nI n), .ref (o + 1), .ref (o + 2), .ref (o + 3), .ref (o + 4), .ref (o + 5), .ref (o + 6), .int (nB on), .int (nI tz), .ref (o + 7), .int (nI se), .ref (o + 8), .ref (o + 9), .int (nI kd), .int (nI kl), .int (nI tc), .ref (o + 10), .int (nI sd), .ref (o + 11), .int (nI hd), .ref (o + 12), .int (nI an), .ref (o + 13), .int (nI fm), .int (nI fo), .ref (o + 14), .ref (o + 15), .int (nI kc), .ref (o + 16)])) (f_1 : μ (o + 1) = some (hp_n X 17 Z)) (f_2 : μ (o + 2) = some (hp_n X 170 Nu)) (f_3 : μ (o + 3) = some (hp_b X 17 G)) (f_4 : μ (o + 4) = some (hp_n X 17 S)) (f_5 : μ (o + 5) = some (hp_n X 17 L)) (f_6 : μ (o + 6) = some (hp_n X 2040 sh2)) : Ct l X yX11_tag cX11_tag 10 (some FieldType.int) 2 80 0 0 [.ref o, .int (nI (3 * lv2 + 1)), .int a, .int b, .int c1] μ nx (hq_i X (po_i nx (nI (n + 1)) (fun z => z o = some (hp_o 7 [.int (nI (n + 1)), .ref (o + 1), .ref (o + 2), .ref (o + 3), .ref (o + 4), .ref (o + 5), .ref (o + 6), .int (nB on), .int (nI tz), .ref (o + 7), .int (nI se), .ref (o + 8), .ref (o + 9), .int (nI kd), .int (nI kl), .int (nI tc), .ref (o + 10), .int (nI sd), .ref (o + 11), .int (nI hd), .ref (o + 12), .int (nI an), .ref (o + 13), .int (nI fm), .int (nI fo), .ref (o + 14), .ref (o + 15), .int (nI kc), .ref (o + 16)]) ∧ z (o + 1) = some (hp_n X 17 (setN Z (n + 1) (3 * lv2 + 1))) ∧ z (o + 2) = some (hp_n X 170 (nuW Nu (10 * (n + 1)) a b c1 (3 * lv2 + 1))) ∧ z (o + 3) = some (hp_b X 17 (setB G (n + 1) false)) ∧ z (o + 4) = some (hp_n X 17 (setN S (n + 1) (if on = true then 1 else 0))) ∧ z (o + 5) = some (hp_n X 17 (setN L (n + 1) 1)) ∧ ∃ sh9 : Nat → Nat, z (o + 6) = some (hp_n X 2040 sh9) ∧ (∀ i, i < lv2 → ∀ k, k < 40 → sh9 (120 * (n + 1) + 40 * i + k) = shA a b c1 lv2 i / 2 ^ k % 2) ∧ (∀ j, j < 120 * (n + 1) ∨ 120 * (n + 1) + 40 * lv2 ≤ j → sh9 j = sh2 j) ∧ hp_eqM [0, 1, 2, 3, 4, 5, 6] o z μ))) := by
  refine hp_met (by decide) (Nat.le_of_ble_eq_true rfl) ?_
  intro p e s m below meth c ls hx hb hml hr hlocks hown hin hS hH hl
  have hl : lv_has ls 10 [(0, .ref o), (1, .int (nI (3 * lv2 + 1))), (2, .int a), (3, .int b), (4, .int c1)] := hl
  have fr : hp_eqM [0, 1, 2, 3, 4, 5, 6] o μ μ := fun _ _ => rfl
  refine lv_iload_n hx hb dX11_tag_0 rfl (lv_at hl 1 rfl) ?_
  refine lv_iconst (v := nI 4) hx hb dX11_tag_1 (by decide) ?_
  refine lv_icmp_eq (tgt := 20) hx hb dX11_tag_2 (by decide) (fun c_2 => ?_) (fun c_2 => ?_)
  · have c_2 : (3 * lv2 + 1) = 4 := (nI_eq (by omega) (by omega)).mp c_2
    refine lv_aload_n hx hb dX11_tag_20 rfl (lv_at hl 0 rfl) ?_
    refine lv_iload_n hx hb dX11_tag_21 rfl (lv_at hl 2 rfl) ?_
    refine lv_iload_n hx hb dX11_tag_22 rfl (lv_at hl 3 rfl) ?_
    refine lv_iload hx hb dX11_tag_23 (lv_at hl 4 rfl) ?_
    refine lv_iload_n hx hb dX11_tag_25 rfl (lv_at hl 1 rfl) ?_
    refine lv_iconst (v := nI 4) hx hb dX11_tag_26 (by decide) ?_
    refine lv_isub hx hb dX11_tag_27 ?_
    refine hp_eqi (z := nI ((3 * lv2 + 1) - 4)) (pk_sub (by omega)) ?_
    refine hp_kip (hp_runV (As := [.int a, .int b, .int c1, .int (nI ((3 * lv2 + 1) - 4))]) (rest := []) hx hb hml hown hS hH (c_X11_byteFrom l X (k := (3 * lv2 + 1) - 4) (a := a) (b := b) (c1 := c1) (by omega)) M_X11_63 I_X11_byteFrom V_X11_byteFrom (ci := 7) rfl rfl f_o rfl hl.1 rfl (Nat.le_of_ble_eq_true rfl) dX11_tag_28 ⟨Nat.le_of_ble_eq_true rfl, Nat.le_of_ble_eq_true rfl⟩ ⟨Nat.le_of_ble_eq_true rfl, Nat.le_of_ble_eq_true rfl⟩) hH (fun H locs hH => ?_)
    have hnb9 := nbN_lt a b c1 ((3 * lv2 + 1) - 4)
    refine lv_sipush (v := nI 136) hx hb dX11_tag_31 (by decide) ?_
    refine lv_icmp_ne (tgt := 40) hx hb dX11_tag_34 (by decide) (fun c_34 => ?_) (fun c_34 => ?_)
    · have c_34 : ¬ ((nbN a b c1 ((3 * lv2 + 1) - 4)) = 136) := fun z => c_34 ((nI_eq (by omega) (by omega)).mpr z)
      refine lv_iconst (v := nI 1) hx hb dX11_tag_40 (by decide) ?_
      refine lv_istore (lv' := [(5, .int (nI 1)), (0, .ref o), (1, .int (nI (3 * lv2 + 1))), (2, .int a), (3, .int b), (4, .int c1)]) hx hb dX11_tag_41 hl (by decide) rfl (fun ls hl => ?_)
      have lp_43 : ∀ (kk43 : Nat) (i : Nat), (i ≤ n) → (n - i) < kk43 → ∀ (H : Heap) (locs : List Loc) (ls : Array Slot), hp_w X cls μ nx H locs → lv_has ls 10 [(0, .ref o), (1, .int (nI (3 * lv2 + 1))), (2, .int a), (3, .int b), (4, .int c1), (5, .int (nI (i + 1)))] → W p l e { frames := 2, cells := 0, slots := 0, locals := 80 } s m [.ref o, .int (nI (3 * lv2 + 1)), .int a, .int b, .int c1].toArray below meth c H locs 0 0 (MQ below (hq_i X (po_i nx (nI (n + 1)) (fun z => z o = some (hp_o 7 [.int (nI (n + 1)), .ref (o + 1), .ref (o + 2), .ref (o + 3), .ref (o + 4), .ref (o + 5), .ref (o + 6), .int (nB on), .int (nI tz), .ref (o + 7), .int (nI se), .ref (o + 8), .ref (o + 9), .int (nI kd), .int (nI kl), .int (nI tc), .ref (o + 10), .int (nI sd), .ref (o + 11), .int (nI hd), .ref (o + 12), .int (nI an), .ref (o + 13), .int (nI fm), .int (nI fo), .ref (o + 14), .ref (o + 15), .int (nI kc), .ref (o + 16)]) ∧ z (o + 1) = some (hp_n X 17 (setN Z (n + 1) (3 * lv2 + 1))) ∧ z (o + 2) = some (hp_n X 170 (nuW Nu (10 * (n + 1)) a b c1 (3 * lv2 + 1))) ∧ z (o + 3) = some (hp_b X 17 (setB G (n + 1) false)) ∧ z (o + 4) = some (hp_n X 17 (setN S (n + 1) (if on = true then 1 else 0))) ∧ z (o + 5) = some (hp_n X 17 (setN L (n + 1) 1)) ∧ ∃ sh9 : Nat → Nat, z (o + 6) = some (hp_n X 2040 sh9) ∧ (∀ i, i < lv2 → ∀ k, k < 40 → sh9 (120 * (n + 1) + 40 * i + k) = shA a b c1 lv2 i / 2 ^ k % 2) ∧ (∀ j, j < 120 * (n + 1) ∨ 120 * (n + 1) + 40 * lv2 ≤ j → sh9 j = sh2 j) ∧ hp_eqM [0, 1, 2, 3, 4, 5, 6] o z μ))) [.ref o, .int (nI (3 * lv2 + 1)), .int a, .int b, .int c1].toArray s 0 0 (hp_A X)) (F0 m 43 ls []) := by
        intro kk43
        induction kk43 with
        | zero =>
          intro i hi hkk43
          exact absurd hkk43 (Nat.not_lt_zero _)
        | succ kk43 ih43 =>
          intro i hi hkk43 H locs ls  hH hl
          refine lv_iload hx hb dX11_tag_43 (lv_at hl 5 rfl) ?_
          refine lv_aload_n hx hb dX11_tag_45 rfl (lv_at hl 0 rfl) ?_
          refine hp_get hx hb hown hS.2.1 hH (F_X11_67.use hS) f_o rfl dX11_tag_46 ?_
          refine lv_icmp_gt (tgt := 137) hx hb dX11_tag_49 (by decide) (fun c_49 => ?_) (fun c_49 => ?_)
          · have c_49 : n < (i + 1) := (nI_ltI (by omega) (by omega)).mp c_49
            refine lv_aload_n hx hb dX11_tag_137 rfl (lv_at hl 0 rfl) ?_
            refine hp_get hx hb hown hS.2.1 hH (F_X11_67.use hS) f_o rfl dX11_tag_138 ?_
            refine lv_bipush (v := nI 16) hx hb dX11_tag_141 (by decide) ?_
            refine lv_icmp_ne (tgt := 149) hx hb dX11_tag_143 (by decide) (fun c_143 => ?_) (fun c_143 => ?_)
            · have c_143 : ¬ (n = 16) := fun z => c_143 ((nI_eq (by omega) (by omega)).mpr z)
              refine lv_aload_n hx hb dX11_tag_149 rfl (lv_at hl 0 rfl) ?_
              refine lv_dup hx hb dX11_tag_150 rfl ?_
              refine hp_get hx hb hown hS.2.1 hH (F_X11_67.use hS) f_o rfl dX11_tag_151 ?_
              refine lv_iconst (v := nI 1) hx hb dX11_tag_154 (by decide) ?_
              refine lv_iadd hx hb dX11_tag_155 ?_
              refine hp_eqi (z := nI (n + 1)) (nI_add _ _) ?_
              refine hp_put hx hb hown hS.2.1 hH (P_X11_67.use hS) f_o rfl rfl (Nat.le_of_ble_eq_true rfl) dX11_tag_156 (fun H locs μ1 fz fn hH => ?_)
              have f_1 := (fn _ (by omega)).trans f_1
              have f_2 := (fn _ (by omega)).trans f_2
              have f_3 := (fn _ (by omega)).trans f_3
              have f_4 := (fn _ (by omega)).trans f_4
              have f_5 := (fn _ (by omega)).trans f_5
              have f_6 := (fn _ (by omega)).trans f_6
              have f_o : μ1 o = some (hp_o 7 [.int (nI (n + 1)), .ref (o + 1), .ref (o + 2), .ref (o + 3), .ref (o + 4), .ref (o + 5), .ref (o + 6), .int (nB on), .int (nI tz), .ref (o + 7), .int (nI se), .ref (o + 8), .ref (o + 9), .int (nI kd), .int (nI kl), .int (nI tc), .ref (o + 10), .int (nI sd), .ref (o + 11), .int (nI hd), .ref (o + 12), .int (nI an), .ref (o + 13), .int (nI fm), .int (nI fo), .ref (o + 14), .ref (o + 15), .int (nI kc), .ref (o + 16)]) := fz
              have fr := hp_eqM.put (k := 0) fr (by decide) fn
              clear fz fn
              refine lv_aload_n hx hb dX11_tag_159 rfl (lv_at hl 0 rfl) ?_
              refine hp_get hx hb hown hS.2.1 hH (F_X11_67.use hS) f_o rfl dX11_tag_160 ?_
              refine lv_istore (lv' := [(5, .int (nI (n + 1))), (0, .ref o), (1, .int (nI (3 * lv2 + 1))), (2, .int a), (3, .int b), (4, .int c1)]) hx hb dX11_tag_163 hl (by decide) rfl (fun ls hl => ?_)
              refine lv_aload_n hx hb dX11_tag_165 rfl (lv_at hl 1 rfl) ?_
              refine hp_get hx hb hown hS.2.1 hH (F_X11_7.use hS) f_o rfl dX11_tag_166 ?_
              refine lv_iload hx hb dX11_tag_169 (lv_at hl 0 rfl) ?_
              refine lv_iload_n hx hb dX11_tag_171 rfl (lv_at hl 2 rfl) ?_
              refine hp_iastN hx hb hS.ai hH f_1 (by omega) (by omega) dX11_tag_172 (fun H locs μ1 fz fn hH => ?_)
              have f_o := (fn _ (by omega)).trans f_o
              have f_2 := (fn _ (by omega)).trans f_2
              have f_3 := (fn _ (by omega)).trans f_3
              have f_4 := (fn _ (by omega)).trans f_4
              have f_5 := (fn _ (by omega)).trans f_5
              have f_6 := (fn _ (by omega)).trans f_6
              have f_1 : μ1 (o + 1) = some (hp_n X 17 (setN Z (n + 1) (3 * lv2 + 1))) := fz
              have fr := hp_eqM.put (k := 1) fr (by decide) fn
              clear fz fn
              refine lv_iconst (v := nI 0) hx hb dX11_tag_173 (by decide) ?_
              refine lv_istore (lv' := [(6, .int (nI 0)), (5, .int (nI (n + 1))), (0, .ref o), (1, .int (nI (3 * lv2 + 1))), (2, .int a), (3, .int b), (4, .int c1)]) hx hb dX11_tag_174 hl (by decide) rfl (fun ls hl => ?_)
              have f_2 := f_2.trans (congrArg (fun g => some (hp_n X 170 g)) (show Nu = nuW Nu (10 * (n + 1)) a b c1 0 from nuW_0 _ _ _ _ _))
              have lp_176 : ∀ (kk176 : Nat) (k : Nat), (k ≤ 3 * lv2 + 1) → (3 * lv2 + 1 - k) < kk176 → ∀ (μ1 : hp_M) (H : Heap) (locs : List Loc) (ls : Array Slot), (μ1 o = some (hp_o 7 [.int (nI (n + 1)), .ref (o + 1), .ref (o + 2), .ref (o + 3), .ref (o + 4), .ref (o + 5), .ref (o + 6), .int (nB on), .int (nI tz), .ref (o + 7), .int (nI se), .ref (o + 8), .ref (o + 9), .int (nI kd), .int (nI kl), .int (nI tc), .ref (o + 10), .int (nI sd), .ref (o + 11), .int (nI hd), .ref (o + 12), .int (nI an), .ref (o + 13), .int (nI fm), .int (nI fo), .ref (o + 14), .ref (o + 15), .int (nI kc), .ref (o + 16)])) → (μ1 (o + 1) = some (hp_n X 17 (setN Z (n + 1) (3 * lv2 + 1)))) → (μ1 (o + 2) = some (hp_n X 170 (nuW Nu (10 * (n + 1)) a b c1 k))) → (μ1 (o + 3) = some (hp_b X 17 G)) → (μ1 (o + 4) = some (hp_n X 17 S)) → (μ1 (o + 5) = some (hp_n X 17 L)) → (μ1 (o + 6) = some (hp_n X 2040 sh2)) → hp_eqM [0, 1, 2, 3, 4, 5, 6] o μ1 μ → hp_w X cls μ1 nx H locs → lv_has ls 10 [(0, .ref o), (1, .int (nI (3 * lv2 + 1))), (2, .int a), (3, .int b), (4, .int c1), (5, .int (nI (n + 1))), (6, .int (nI k))] → W p l e { frames := 2, cells := 0, slots := 0, locals := 80 } s m [.ref o, .int (nI (3 * lv2 + 1)), .int a, .int b, .int c1].toArray below meth c H locs 0 0 (MQ below (hq_i X (po_i nx (nI (n + 1)) (fun z => z o = some (hp_o 7 [.int (nI (n + 1)), .ref (o + 1), .ref (o + 2), .ref (o + 3), .ref (o + 4), .ref (o + 5), .ref (o + 6), .int (nB on), .int (nI tz), .ref (o + 7), .int (nI se), .ref (o + 8), .ref (o + 9), .int (nI kd), .int (nI kl), .int (nI tc), .ref (o + 10), .int (nI sd), .ref (o + 11), .int (nI hd), .ref (o + 12), .int (nI an), .ref (o + 13), .int (nI fm), .int (nI fo), .ref (o + 14), .ref (o + 15), .int (nI kc), .ref (o + 16)]) ∧ z (o + 1) = some (hp_n X 17 (setN Z (n + 1) (3 * lv2 + 1))) ∧ z (o + 2) = some (hp_n X 170 (nuW Nu (10 * (n + 1)) a b c1 (3 * lv2 + 1))) ∧ z (o + 3) = some (hp_b X 17 (setB G (n + 1) false)) ∧ z (o + 4) = some (hp_n X 17 (setN S (n + 1) (if on = true then 1 else 0))) ∧ z (o + 5) = some (hp_n X 17 (setN L (n + 1) 1)) ∧ ∃ sh9 : Nat → Nat, z (o + 6) = some (hp_n X 2040 sh9) ∧ (∀ i, i < lv2 → ∀ k, k < 40 → sh9 (120 * (n + 1) + 40 * i + k) = shA a b c1 lv2 i / 2 ^ k % 2) ∧ (∀ j, j < 120 * (n + 1) ∨ 120 * (n + 1) + 40 * lv2 ≤ j → sh9 j = sh2 j) ∧ hp_eqM [0, 1, 2, 3, 4, 5, 6] o z μ))) [.ref o, .int (nI (3 * lv2 + 1)), .int a, .int b, .int c1].toArray s 0 0 (hp_A X)) (F0 m 176 ls []) := by
                intro kk176
                induction kk176 with
                | zero =>
                  intro k hk hkk176
                  exact absurd hkk176 (Nat.not_lt_zero _)
                | succ kk176 ih176 =>
                  intro k hk hkk176 μ1 H locs ls f_o f_1 f_2 f_3 f_4 f_5 f_6 fr hH hl
                  refine lv_iload hx hb dX11_tag_176 (lv_at hl 6 rfl) ?_
                  refine lv_iload_n hx hb dX11_tag_178 rfl (lv_at hl 1 rfl) ?_
                  refine lv_icmp_ge (tgt := 211) hx hb dX11_tag_179 (by decide) (fun c_179 => ?_) (fun c_179 => ?_)
                  · have c_179 : (3 * lv2 + 1) ≤ k := (nI_leI (by omega) (by omega)).mp c_179
                    have ek : k = 3 * lv2 + 1 := by omega
                    have f_2 : μ1 (o + 2) = some (hp_n X 170 (nuW Nu (10 * (n + 1)) a b c1 (3 * lv2 + 1))) := by rw [ek] at f_2; exact f_2
                    refine lv_bipush (v := nI 10) hx hb dX11_tag_211 (by decide) ?_
                    refine lv_iload hx hb dX11_tag_213 (lv_at hl 5 rfl) ?_
                    refine lv_imul hx hb dX11_tag_215 ?_
                    refine hp_eqi (z := nI (10 * (n + 1))) (pk_mul _ _) ?_
                    refine lv_istore (lv' := [(6, .int (nI (10 * (n + 1)))), (0, .ref o), (1, .int (nI (3 * lv2 + 1))), (2, .int a), (3, .int b), (4, .int c1), (5, .int (nI (n + 1)))]) hx hb dX11_tag_216 hl (by decide) rfl (fun ls hl => ?_)
                    refine lv_iload_n hx hb dX11_tag_218 rfl (lv_at hl 2 rfl) ?_
                    refine lv_iconst (v := nI 3) hx hb dX11_tag_219 (by decide) ?_
                    refine lv_idiv hx hb dX11_tag_220 (nI_ne0 (by omega) (by omega)) ?_
                    refine hp_eqi (z := nI ((3 * lv2 + 1) / 3)) (pk_div (by omega) (by omega) (by omega)) ?_
                    refine hp_eqi (z := nI lv2) (congrArg nI (show (3 * lv2 + 1) / 3 = lv2 by omega)) ?_
                    refine lv_istore (lv' := [(7, .int (nI lv2)), (6, .int (nI (10 * (n + 1)))), (0, .ref o), (1, .int (nI (3 * lv2 + 1))), (2, .int a), (3, .int b), (4, .int c1), (5, .int (nI (n + 1)))]) hx hb dX11_tag_221 hl (by decide) rfl (fun ls hl => ?_)
                    refine lv_iconst (v := nI 0) hx hb dX11_tag_223 (by decide) ?_
                    refine lv_istore (lv' := [(8, .int (nI 0)), (7, .int (nI lv2)), (6, .int (nI (10 * (n + 1)))), (0, .ref o), (1, .int (nI (3 * lv2 + 1))), (2, .int a), (3, .int b), (4, .int c1), (5, .int (nI (n + 1)))]) hx hb dX11_tag_224 hl (by decide) rfl (fun ls hl => ?_)
                    have lp_226 : ∀ (kk226 : Nat) (q : Nat) (sh3 : Nat → Nat), (q ≤ lv2) → (∀ i, i < q → ∀ k, k < 40 → sh3 (120 * (n + 1) + 40 * i + k) = shA a b c1 lv2 i / 2 ^ k % 2) → (∀ j, j < 120 * (n + 1) ∨ 120 * (n + 1) + 40 * q ≤ j → sh3 j = sh2 j) → (lv2 - q) < kk226 → ∀ (μ1 : hp_M) (H : Heap) (locs : List Loc) (ls : Array Slot), (μ1 o = some (hp_o 7 [.int (nI (n + 1)), .ref (o + 1), .ref (o + 2), .ref (o + 3), .ref (o + 4), .ref (o + 5), .ref (o + 6), .int (nB on), .int (nI tz), .ref (o + 7), .int (nI se), .ref (o + 8), .ref (o + 9), .int (nI kd), .int (nI kl), .int (nI tc), .ref (o + 10), .int (nI sd), .ref (o + 11), .int (nI hd), .ref (o + 12), .int (nI an), .ref (o + 13), .int (nI fm), .int (nI fo), .ref (o + 14), .ref (o + 15), .int (nI kc), .ref (o + 16)])) → (μ1 (o + 1) = some (hp_n X 17 (setN Z (n + 1) (3 * lv2 + 1)))) → (μ1 (o + 2) = some (hp_n X 170 (nuW Nu (10 * (n + 1)) a b c1 (3 * lv2 + 1)))) → (μ1 (o + 3) = some (hp_b X 17 G)) → (μ1 (o + 4) = some (hp_n X 17 S)) → (μ1 (o + 5) = some (hp_n X 17 L)) → (μ1 (o + 6) = some (hp_n X 2040 sh3)) → hp_eqM [0, 1, 2, 3, 4, 5, 6] o μ1 μ → hp_w X cls μ1 nx H locs → lv_has ls 10 [(0, .ref o), (1, .int (nI (3 * lv2 + 1))), (5, .int (nI (n + 1))), (6, .int (nI (10 * (n + 1)))), (7, .int (nI lv2)), (8, .int (nI q))] → W p l e { frames := 2, cells := 0, slots := 0, locals := 80 } s m [.ref o, .int (nI (3 * lv2 + 1)), .int a, .int b, .int c1].toArray below meth c H locs 0 0 (MQ below (hq_i X (po_i nx (nI (n + 1)) (fun z => z o = some (hp_o 7 [.int (nI (n + 1)), .ref (o + 1), .ref (o + 2), .ref (o + 3), .ref (o + 4), .ref (o + 5), .ref (o + 6), .int (nB on), .int (nI tz), .ref (o + 7), .int (nI se), .ref (o + 8), .ref (o + 9), .int (nI kd), .int (nI kl), .int (nI tc), .ref (o + 10), .int (nI sd), .ref (o + 11), .int (nI hd), .ref (o + 12), .int (nI an), .ref (o + 13), .int (nI fm), .int (nI fo), .ref (o + 14), .ref (o + 15), .int (nI kc), .ref (o + 16)]) ∧ z (o + 1) = some (hp_n X 17 (setN Z (n + 1) (3 * lv2 + 1))) ∧ z (o + 2) = some (hp_n X 170 (nuW Nu (10 * (n + 1)) a b c1 (3 * lv2 + 1))) ∧ z (o + 3) = some (hp_b X 17 (setB G (n + 1) false)) ∧ z (o + 4) = some (hp_n X 17 (setN S (n + 1) (if on = true then 1 else 0))) ∧ z (o + 5) = some (hp_n X 17 (setN L (n + 1) 1)) ∧ ∃ sh9 : Nat → Nat, z (o + 6) = some (hp_n X 2040 sh9) ∧ (∀ i, i < lv2 → ∀ k, k < 40 → sh9 (120 * (n + 1) + 40 * i + k) = shA a b c1 lv2 i / 2 ^ k % 2) ∧ (∀ j, j < 120 * (n + 1) ∨ 120 * (n + 1) + 40 * lv2 ≤ j → sh9 j = sh2 j) ∧ hp_eqM [0, 1, 2, 3, 4, 5, 6] o z μ))) [.ref o, .int (nI (3 * lv2 + 1)), .int a, .int b, .int c1].toArray s 0 0 (hp_A X)) (F0 m 226 ls []) := by
                      intro kk226
                      induction kk226 with
                      | zero =>
                        intro q sh3 hq hA hO9 hkk226
                        exact absurd hkk226 (Nat.not_lt_zero _)
                      | succ kk226 ih226 =>
                        intro q sh3 hq hA hO9 hkk226 μ1 H locs ls f_o f_1 f_2 f_3 f_4 f_5 f_6 fr hH hl
                        refine lv_iload hx hb dX11_tag_226 (lv_at hl 5 rfl) ?_
                        refine lv_iload hx hb dX11_tag_228 (lv_at hl 4 rfl) ?_
                        refine lv_icmp_ge (tgt := 338) hx hb dX11_tag_230 (by decide) (fun c_230 => ?_) (fun c_230 => ?_)
                        · have c_230 : lv2 ≤ q := (nI_leI (by omega) (by omega)).mp c_230
                          refine lv_aload_n hx hb dX11_tag_338 rfl (lv_at hl 0 rfl) ?_
                          refine hp_get hx hb hown hS.2.1 hH (F_X11_16.use hS) f_o rfl dX11_tag_339 ?_
                          refine lv_iload hx hb dX11_tag_342 (lv_at hl 2 rfl) ?_
                          refine lv_iconst (v := nI 0) hx hb dX11_tag_344 (by decide) ?_
                          refine hp_eqi (z := nB false) (by decide) ?_
                          refine hp_zast hx hb hS.ab hH f_3 (by omega) (by omega) dX11_tag_345 (fun H locs μ1 fz fn hH => ?_)
                          have f_o := (fn _ (by omega)).trans f_o
                          have f_1 := (fn _ (by omega)).trans f_1
                          have f_2 := (fn _ (by omega)).trans f_2
                          have f_4 := (fn _ (by omega)).trans f_4
                          have f_5 := (fn _ (by omega)).trans f_5
                          have f_6 := (fn _ (by omega)).trans f_6
                          have f_3 : μ1 (o + 3) = some (hp_b X 17 (setB G (n + 1) false)) := fz
                          have fr := hp_eqM.put (k := 3) fr (by decide) fn
                          clear fz fn
                          refine lv_aload_n hx hb dX11_tag_346 rfl (lv_at hl 0 rfl) ?_
                          refine hp_get hx hb hown hS.2.1 hH (F_X11_20.use hS) f_o rfl dX11_tag_347 ?_
                          refine lv_iload hx hb dX11_tag_350 (lv_at hl 2 rfl) ?_
                          refine lv_aload_n hx hb dX11_tag_352 rfl (lv_at hl 0 rfl) ?_
                          refine hp_get hx hb hown hS.2.1 hH (F_X11_29.use hS) f_o rfl dX11_tag_353 ?_
                          refine lv_if_eq (tgt := 363) hx hb dX11_tag_356 (by decide) (fun c_356 => ?_) (fun c_356 => ?_)
                          · have c_356 : on = false := nB_0 c_356
                            refine lv_iconst (v := nI 0) hx hb dX11_tag_363 (by decide) ?_
                            refine hp_iastN hx hb hS.ai hH f_4 (by omega) (by omega) dX11_tag_364 (fun H locs μ1 fz fn hH => ?_)
                            have f_o := (fn _ (by omega)).trans f_o
                            have f_1 := (fn _ (by omega)).trans f_1
                            have f_2 := (fn _ (by omega)).trans f_2
                            have f_3 := (fn _ (by omega)).trans f_3
                            have f_5 := (fn _ (by omega)).trans f_5
                            have f_6 := (fn _ (by omega)).trans f_6
                            have f_4 : μ1 (o + 4) = some (hp_n X 17 (setN S (n + 1) 0)) := fz
                            have fr := hp_eqM.put (k := 4) fr (by decide) fn
                            clear fz fn
                            refine lv_aload_n hx hb dX11_tag_365 rfl (lv_at hl 0 rfl) ?_
                            refine hp_get hx hb hown hS.2.1 hH (F_X11_23.use hS) f_o rfl dX11_tag_366 ?_
                            refine lv_iload hx hb dX11_tag_369 (lv_at hl 2 rfl) ?_
                            refine lv_iconst (v := nI 1) hx hb dX11_tag_371 (by decide) ?_
                            refine hp_iastN hx hb hS.ai hH f_5 (by omega) (by omega) dX11_tag_372 (fun H locs μ1 fz fn hH => ?_)
                            have f_o := (fn _ (by omega)).trans f_o
                            have f_1 := (fn _ (by omega)).trans f_1
                            have f_2 := (fn _ (by omega)).trans f_2
                            have f_3 := (fn _ (by omega)).trans f_3
                            have f_4 := (fn _ (by omega)).trans f_4
                            have f_6 := (fn _ (by omega)).trans f_6
                            have f_5 : μ1 (o + 5) = some (hp_n X 17 (setN L (n + 1) 1)) := fz
                            have fr := hp_eqM.put (k := 5) fr (by decide) fn
                            clear fz fn
                            refine lv_iload hx hb dX11_tag_373 (lv_at hl 2 rfl) ?_
                            have f_4 := f_4.trans (congrArg (fun g => some (hp_n X 17 g)) (show setN S (n + 1) 0 = setN S (n + 1) (if on = true then 1 else 0) from by rw [if_neg (by rw [c_356]; decide)]))
                            have eq9 : q = lv2 := by omega
                            rw [eq9] at hA hO9
                            exact hp_ri hx hb hr hlocks hS hH (⟨rfl, rfl, f_o, f_1, f_2, f_3, f_4, f_5, sh3, f_6, hA, hO9, fr⟩) dX11_tag_375
                          · have c_356 : on = true := nB_n c_356
                            refine lv_iconst (v := nI 1) hx hb dX11_tag_359 (by decide) ?_
                            refine lv_goto (tgt := 364) hx hb dX11_tag_360 (by decide) ?_
                            refine hp_iastN hx hb hS.ai hH f_4 (by omega) (by omega) dX11_tag_364 (fun H locs μ1 fz fn hH => ?_)
                            have f_o := (fn _ (by omega)).trans f_o
                            have f_1 := (fn _ (by omega)).trans f_1
                            have f_2 := (fn _ (by omega)).trans f_2
                            have f_3 := (fn _ (by omega)).trans f_3
                            have f_5 := (fn _ (by omega)).trans f_5
                            have f_6 := (fn _ (by omega)).trans f_6
                            have f_4 : μ1 (o + 4) = some (hp_n X 17 (setN S (n + 1) 1)) := fz
                            have fr := hp_eqM.put (k := 4) fr (by decide) fn
                            clear fz fn
                            refine lv_aload_n hx hb dX11_tag_365 rfl (lv_at hl 0 rfl) ?_
                            refine hp_get hx hb hown hS.2.1 hH (F_X11_23.use hS) f_o rfl dX11_tag_366 ?_
                            refine lv_iload hx hb dX11_tag_369 (lv_at hl 2 rfl) ?_
                            refine lv_iconst (v := nI 1) hx hb dX11_tag_371 (by decide) ?_
                            refine hp_iastN hx hb hS.ai hH f_5 (by omega) (by omega) dX11_tag_372 (fun H locs μ1 fz fn hH => ?_)
                            have f_o := (fn _ (by omega)).trans f_o
                            have f_1 := (fn _ (by omega)).trans f_1
                            have f_2 := (fn _ (by omega)).trans f_2
                            have f_3 := (fn _ (by omega)).trans f_3
                            have f_4 := (fn _ (by omega)).trans f_4
                            have f_6 := (fn _ (by omega)).trans f_6
                            have f_5 : μ1 (o + 5) = some (hp_n X 17 (setN L (n + 1) 1)) := fz
                            have fr := hp_eqM.put (k := 5) fr (by decide) fn
                            clear fz fn
                            refine lv_iload hx hb dX11_tag_373 (lv_at hl 2 rfl) ?_
                            have f_4 := f_4.trans (congrArg (fun g => some (hp_n X 17 g)) (show setN S (n + 1) 1 = setN S (n + 1) (if on = true then 1 else 0) from by rw [if_pos c_356]))
                            have eq9 : q = lv2 := by omega
                            rw [eq9] at hA hO9
                            exact hp_ri hx hb hr hlocks hS hH (⟨rfl, rfl, f_o, f_1, f_2, f_3, f_4, f_5, sh3, f_6, hA, hO9, fr⟩) dX11_tag_375
                        · have c_230 : ¬ (lv2 ≤ q) := fun z => c_230 ((nI_leI (by omega) (by omega)).mpr z)
                          refine lv_iload hx hb dX11_tag_233 (lv_at hl 3 rfl) ?_
                          refine lv_iconst (v := nI 3) hx hb dX11_tag_235 (by decide) ?_
                          refine lv_iload hx hb dX11_tag_236 (lv_at hl 5 rfl) ?_
                          refine lv_imul hx hb dX11_tag_238 ?_
                          refine hp_eqi (z := nI (3 * q)) (pk_mul _ _) ?_
                          refine lv_iadd hx hb dX11_tag_239 ?_
                          refine hp_eqi (z := nI ((10 * (n + 1)) + (3 * q))) (nI_add _ _) ?_
                          refine lv_istore (lv' := [(9, .int (nI ((10 * (n + 1)) + (3 * q)))), (0, .ref o), (1, .int (nI (3 * lv2 + 1))), (5, .int (nI (n + 1))), (6, .int (nI (10 * (n + 1)))), (7, .int (nI lv2)), (8, .int (nI q))]) hx hb dX11_tag_240 hl (by decide) rfl (fun ls hl => ?_)
                          refine lv_iload hx hb dX11_tag_242 (lv_at hl 6 rfl) ?_
                          refine lv_iconst (v := nI 1) hx hb dX11_tag_244 (by decide) ?_
                          refine lv_iadd hx hb dX11_tag_245 ?_
                          refine hp_eqi (z := nI (q + 1)) (nI_add _ _) ?_
                          refine lv_iload hx hb dX11_tag_246 (lv_at hl 5 rfl) ?_
                          refine lv_icmp_ge (tgt := 290) hx hb dX11_tag_248 (by decide) (fun c_248 => ?_) (fun c_248 => ?_)
                          · have c_248 : lv2 ≤ (q + 1) := (nI_leI (by omega) (by omega)).mp c_248
                            refine lv_aload_n hx hb dX11_tag_290 rfl (lv_at hl 1 rfl) ?_
                            refine lv_iload hx hb dX11_tag_291 (lv_at hl 3 rfl) ?_
                            refine lv_iload hx hb dX11_tag_293 (lv_at hl 6 rfl) ?_
                            refine lv_aload_n hx hb dX11_tag_295 rfl (lv_at hl 1 rfl) ?_
                            refine hp_get hx hb hown hS.2.1 hH (F_X11_13.use hS) f_o rfl dX11_tag_296 ?_
                            refine lv_iload hx hb dX11_tag_299 (lv_at hl 0 rfl) ?_
                            refine hp_ialdN hx hb hS.ai hH f_2 (by omega) (by omega) dX11_tag_301 ?_
                            refine hp_eqi (z := nI (nbN a b c1 (3 * q + 0))) (congrArg nI (nuW_at (i := 3 * q + 0) (by omega))) ?_
                            refine lv_aload_n hx hb dX11_tag_302 rfl (lv_at hl 1 rfl) ?_
                            refine hp_get hx hb hown hS.2.1 hH (F_X11_13.use hS) f_o rfl dX11_tag_303 ?_
                            refine lv_iload hx hb dX11_tag_306 (lv_at hl 0 rfl) ?_
                            refine lv_iconst (v := nI 1) hx hb dX11_tag_308 (by decide) ?_
                            refine lv_iadd hx hb dX11_tag_309 ?_
                            refine hp_eqi (z := nI (((10 * (n + 1)) + (3 * q)) + 1)) (nI_add _ _) ?_
                            refine hp_ialdN hx hb hS.ai hH f_2 (by omega) (by omega) dX11_tag_310 ?_
                            refine hp_eqi (z := nI (nbN a b c1 (3 * q + 1))) (congrArg nI (nuW_at (i := 3 * q + 1) (by omega))) ?_
                            refine lv_aload_n hx hb dX11_tag_311 rfl (lv_at hl 1 rfl) ?_
                            refine hp_get hx hb hown hS.2.1 hH (F_X11_13.use hS) f_o rfl dX11_tag_312 ?_
                            refine lv_iload hx hb dX11_tag_315 (lv_at hl 0 rfl) ?_
                            refine lv_iconst (v := nI 2) hx hb dX11_tag_317 (by decide) ?_
                            refine lv_iadd hx hb dX11_tag_318 ?_
                            refine hp_eqi (z := nI (((10 * (n + 1)) + (3 * q)) + 2)) (nI_add _ _) ?_
                            refine hp_ialdN hx hb hS.ai hH f_2 (by omega) (by omega) dX11_tag_319 ?_
                            refine hp_eqi (z := nI (nbN a b c1 (3 * q + 2))) (congrArg nI (nuW_at (i := 3 * q + 2) (by omega))) ?_
                            refine lv_aload_n hx hb dX11_tag_320 rfl (lv_at hl 1 rfl) ?_
                            refine hp_get hx hb hown hS.2.1 hH (F_X11_13.use hS) f_o rfl dX11_tag_321 ?_
                            refine lv_iload hx hb dX11_tag_324 (lv_at hl 0 rfl) ?_
                            refine lv_iconst (v := nI 3) hx hb dX11_tag_326 (by decide) ?_
                            refine lv_iadd hx hb dX11_tag_327 ?_
                            refine hp_eqi (z := nI (((10 * (n + 1)) + (3 * q)) + 3)) (nI_add _ _) ?_
                            refine hp_ialdN hx hb hS.ai hH f_2 (by omega) (by omega) dX11_tag_328 ?_
                            refine hp_eqi (z := nI (nbN a b c1 (3 * q + 3))) (congrArg nI (nuW_at (i := 3 * q + 3) (by omega))) ?_
                            have hx9 := nbN_lt a b c1 (3 * q + 0)
                            have hx9 := nbN_lt a b c1 (3 * q + 1)
                            have hx9 := nbN_lt a b c1 (3 * q + 2)
                            have hx9 := nbN_lt a b c1 (3 * q + 3)
                            refine hp_kvm (hp_runV (As := [.int (nI (n + 1)), .int (nI q), .int (nI (nbN a b c1 (3 * q + 0))), .int (nI (nbN a b c1 (3 * q + 1))), .int (nI (nbN a b c1 (3 * q + 2))), .int (nI (nbN a b c1 (3 * q + 3)))]) (rest := []) hx hb hml hown hS hH (c_X11_show l X (t := n + 1) (at0 := q) (a := nbN a b c1 (3 * q + 0)) (b := nbN a b c1 (3 * q + 1)) (c1 := nbN a b c1 (3 * q + 2)) (d1 := nbN a b c1 (3 * q + 3)) (by omega) (by omega) (nbN_lt _ _ _ _) (nbN_lt _ _ _ _) (nbN_lt _ _ _ _) (nbN_lt _ _ _ _) f_o f_6) M_X11_71 I_X11_show V_X11_show (ci := 7) rfl rfl f_o rfl hl.1 rfl (Nat.le_of_ble_eq_true rfl) dX11_tag_329 ⟨Nat.le_of_ble_eq_true rfl, Nat.le_of_ble_eq_true rfl⟩ ⟨Nat.le_of_ble_eq_true rfl, Nat.le_of_ble_eq_true rfl⟩) hH (fun μ1 H locs hp hH => ?_)
                            obtain ⟨fz0, fe⟩ := hp
                            have f_o := (fe.at0 (by decide)).trans f_o
                            have f_1 := (fe.at 1 (by decide)).trans f_1
                            have f_2 := (fe.at 2 (by decide)).trans f_2
                            have f_3 := (fe.at 3 (by decide)).trans f_3
                            have f_4 := (fe.at 4 (by decide)).trans f_4
                            have f_5 := (fe.at 5 (by decide)).trans f_5
                            have f_6 : μ1 (o + 6) = some (hp_n X 2040 (shW sh3 (120 * (n + 1) + 40 * q) (shV (shQ (nbN a b c1 (3 * q + 0)) (nbN a b c1 (3 * q + 1)) (nbN a b c1 (3 * q + 2)) (nbN a b c1 (3 * q + 3)))) 40)) := fz0
                            have fr := hp_eqM.tr fe fr (by decide)
                            clear fe fz0
                            refine lv_iinc (v := nI (q + 1)) (lv' := [(8, .int (nI (q + 1))), (9, .int (nI ((10 * (n + 1)) + (3 * q)))), (0, .ref o), (1, .int (nI (3 * lv2 + 1))), (5, .int (nI (n + 1))), (6, .int (nI (10 * (n + 1)))), (7, .int (nI lv2))]) hx hb dX11_tag_332 hl (k := 6) rfl (nI_add _ 1) (by decide) rfl (fun ls hl => ?_)
                            refine lv_goto (tgt := 226) hx hb dX11_tag_335 (by decide) ?_
                            have hV : shA a b c1 lv2 q = shV (shQ (nbN a b c1 (3 * q + 0)) (nbN a b c1 (3 * q + 1)) (nbN a b c1 (3 * q + 2)) (nbN a b c1 (3 * q + 3))) := by unfold shA; rw [if_pos (by omega), decide_eq_true (show q + 1 = lv2 by omega)]; rfl
                            have hA2 : ∀ i, i < q + 1 → ∀ k, k < 40 → (shW sh3 (120 * (n + 1) + 40 * q) (shV (shQ (nbN a b c1 (3 * q + 0)) (nbN a b c1 (3 * q + 1)) (nbN a b c1 (3 * q + 2)) (nbN a b c1 (3 * q + 3)))) 40) (120 * (n + 1) + 40 * i + k) = shA a b c1 lv2 i / 2 ^ k % 2 := fun i hi k hk => by
                              by_cases e9 : i = q
                              · subst e9; rw [shW_at hk, hV]
                              · rw [shW_out (by omega)]; exact hA i (by omega) k hk
                            have hO2 : ∀ j, j < 120 * (n + 1) ∨ 120 * (n + 1) + 40 * (q + 1) ≤ j → (shW sh3 (120 * (n + 1) + 40 * q) (shV (shQ (nbN a b c1 (3 * q + 0)) (nbN a b c1 (3 * q + 1)) (nbN a b c1 (3 * q + 2)) (nbN a b c1 (3 * q + 3)))) 40) j = sh2 j := fun j hj => by rw [shW_out (by omega)]; exact hO9 j (by omega)
                            exact ih226 (q + 1) (shW sh3 (120 * (n + 1) + 40 * q) (shV (shQ (nbN a b c1 (3 * q + 0)) (nbN a b c1 (3 * q + 1)) (nbN a b c1 (3 * q + 2)) (nbN a b c1 (3 * q + 3)))) 40) (by omega) hA2 hO2 (by omega) _ _ _ _ f_o f_1 f_2 f_3 f_4 f_5 f_6 fr hH (lv_sub hl [2, 3, 4, 5, 6, 0] rfl)
                          · have c_248 : ¬ (lv2 ≤ (q + 1)) := fun z => c_248 ((nI_leI (by omega) (by omega)).mpr z)
                            refine lv_aload_n hx hb dX11_tag_251 rfl (lv_at hl 1 rfl) ?_
                            refine lv_iload hx hb dX11_tag_252 (lv_at hl 3 rfl) ?_
                            refine lv_iload hx hb dX11_tag_254 (lv_at hl 6 rfl) ?_
                            refine lv_sipush (v := nI 136) hx hb dX11_tag_256 (by decide) ?_
                            refine lv_aload_n hx hb dX11_tag_259 rfl (lv_at hl 1 rfl) ?_
                            refine hp_get hx hb hown hS.2.1 hH (F_X11_13.use hS) f_o rfl dX11_tag_260 ?_
                            refine lv_iload hx hb dX11_tag_263 (lv_at hl 0 rfl) ?_
                            refine hp_ialdN hx hb hS.ai hH f_2 (by omega) (by omega) dX11_tag_265 ?_
                            refine hp_eqi (z := nI (nbN a b c1 (3 * q + 0))) (congrArg nI (nuW_at (i := 3 * q + 0) (by omega))) ?_
                            refine lv_aload_n hx hb dX11_tag_266 rfl (lv_at hl 1 rfl) ?_
                            refine hp_get hx hb hown hS.2.1 hH (F_X11_13.use hS) f_o rfl dX11_tag_267 ?_
                            refine lv_iload hx hb dX11_tag_270 (lv_at hl 0 rfl) ?_
                            refine lv_iconst (v := nI 1) hx hb dX11_tag_272 (by decide) ?_
                            refine lv_iadd hx hb dX11_tag_273 ?_
                            refine hp_eqi (z := nI (((10 * (n + 1)) + (3 * q)) + 1)) (nI_add _ _) ?_
                            refine hp_ialdN hx hb hS.ai hH f_2 (by omega) (by omega) dX11_tag_274 ?_
                            refine hp_eqi (z := nI (nbN a b c1 (3 * q + 1))) (congrArg nI (nuW_at (i := 3 * q + 1) (by omega))) ?_
                            refine lv_aload_n hx hb dX11_tag_275 rfl (lv_at hl 1 rfl) ?_
                            refine hp_get hx hb hown hS.2.1 hH (F_X11_13.use hS) f_o rfl dX11_tag_276 ?_
                            refine lv_iload hx hb dX11_tag_279 (lv_at hl 0 rfl) ?_
                            refine lv_iconst (v := nI 2) hx hb dX11_tag_281 (by decide) ?_
                            refine lv_iadd hx hb dX11_tag_282 ?_
                            refine hp_eqi (z := nI (((10 * (n + 1)) + (3 * q)) + 2)) (nI_add _ _) ?_
                            refine hp_ialdN hx hb hS.ai hH f_2 (by omega) (by omega) dX11_tag_283 ?_
                            refine hp_eqi (z := nI (nbN a b c1 (3 * q + 2))) (congrArg nI (nuW_at (i := 3 * q + 2) (by omega))) ?_
                            have hx9 := nbN_lt a b c1 (3 * q + 0)
                            have hx9 := nbN_lt a b c1 (3 * q + 1)
                            have hx9 := nbN_lt a b c1 (3 * q + 2)
                            refine hp_kvm (hp_runV (As := [.int (nI (n + 1)), .int (nI q), .int (nI 136), .int (nI (nbN a b c1 (3 * q + 0))), .int (nI (nbN a b c1 (3 * q + 1))), .int (nI (nbN a b c1 (3 * q + 2)))]) (rest := []) hx hb hml hown hS hH (c_X11_show l X (t := n + 1) (at0 := q) (a := 136) (b := nbN a b c1 (3 * q + 0)) (c1 := nbN a b c1 (3 * q + 1)) (d1 := nbN a b c1 (3 * q + 2)) (by omega) (by omega) (by decide) (nbN_lt _ _ _ _) (nbN_lt _ _ _ _) (nbN_lt _ _ _ _) f_o f_6) M_X11_71 I_X11_show V_X11_show (ci := 7) rfl rfl f_o rfl hl.1 rfl (Nat.le_of_ble_eq_true rfl) dX11_tag_284 ⟨Nat.le_of_ble_eq_true rfl, Nat.le_of_ble_eq_true rfl⟩ ⟨Nat.le_of_ble_eq_true rfl, Nat.le_of_ble_eq_true rfl⟩) hH (fun μ1 H locs hp hH => ?_)
                            obtain ⟨fz0, fe⟩ := hp
                            have f_o := (fe.at0 (by decide)).trans f_o
                            have f_1 := (fe.at 1 (by decide)).trans f_1
                            have f_2 := (fe.at 2 (by decide)).trans f_2
                            have f_3 := (fe.at 3 (by decide)).trans f_3
                            have f_4 := (fe.at 4 (by decide)).trans f_4
                            have f_5 := (fe.at 5 (by decide)).trans f_5
                            have f_6 : μ1 (o + 6) = some (hp_n X 2040 (shW sh3 (120 * (n + 1) + 40 * q) (shV (shQ 136 (nbN a b c1 (3 * q + 0)) (nbN a b c1 (3 * q + 1)) (nbN a b c1 (3 * q + 2)))) 40)) := fz0
                            have fr := hp_eqM.tr fe fr (by decide)
                            clear fe fz0
                            refine lv_goto (tgt := 332) hx hb dX11_tag_287 (by decide) ?_
                            refine lv_iinc (v := nI (q + 1)) (lv' := [(8, .int (nI (q + 1))), (9, .int (nI ((10 * (n + 1)) + (3 * q)))), (0, .ref o), (1, .int (nI (3 * lv2 + 1))), (5, .int (nI (n + 1))), (6, .int (nI (10 * (n + 1)))), (7, .int (nI lv2))]) hx hb dX11_tag_332 hl (k := 6) rfl (nI_add _ 1) (by decide) rfl (fun ls hl => ?_)
                            refine lv_goto (tgt := 226) hx hb dX11_tag_335 (by decide) ?_
                            have hV : shA a b c1 lv2 q = shV (shQ 136 (nbN a b c1 (3 * q + 0)) (nbN a b c1 (3 * q + 1)) (nbN a b c1 (3 * q + 2))) := by unfold shA; rw [if_pos (by omega), decide_eq_false (show ¬ q + 1 = lv2 by omega)]; rfl
                            have hA2 : ∀ i, i < q + 1 → ∀ k, k < 40 → (shW sh3 (120 * (n + 1) + 40 * q) (shV (shQ 136 (nbN a b c1 (3 * q + 0)) (nbN a b c1 (3 * q + 1)) (nbN a b c1 (3 * q + 2)))) 40) (120 * (n + 1) + 40 * i + k) = shA a b c1 lv2 i / 2 ^ k % 2 := fun i hi k hk => by
                              by_cases e9 : i = q
                              · subst e9; rw [shW_at hk, hV]
                              · rw [shW_out (by omega)]; exact hA i (by omega) k hk
                            have hO2 : ∀ j, j < 120 * (n + 1) ∨ 120 * (n + 1) + 40 * (q + 1) ≤ j → (shW sh3 (120 * (n + 1) + 40 * q) (shV (shQ 136 (nbN a b c1 (3 * q + 0)) (nbN a b c1 (3 * q + 1)) (nbN a b c1 (3 * q + 2)))) 40) j = sh2 j := fun j hj => by rw [shW_out (by omega)]; exact hO9 j (by omega)
                            exact ih226 (q + 1) (shW sh3 (120 * (n + 1) + 40 * q) (shV (shQ 136 (nbN a b c1 (3 * q + 0)) (nbN a b c1 (3 * q + 1)) (nbN a b c1 (3 * q + 2)))) 40) (by omega) hA2 hO2 (by omega) _ _ _ _ f_o f_1 f_2 f_3 f_4 f_5 f_6 fr hH (lv_sub hl [2, 3, 4, 5, 6, 0] rfl)
                    exact lp_226 ((lv2 - 0) + 1) 0 sh2 (Nat.zero_le _) (fun i hi => absurd hi (Nat.not_lt_zero _)) (fun j _ => rfl) (Nat.lt_succ_self _) _ _ _ _ f_o f_1 f_2 f_3 f_4 f_5 f_6 fr hH (lv_sub hl [3, 4, 8, 2, 1, 0] rfl)
                  · have c_179 : ¬ ((3 * lv2 + 1) ≤ k) := fun z => c_179 ((nI_leI (by omega) (by omega)).mpr z)
                    refine lv_aload_n hx hb dX11_tag_182 rfl (lv_at hl 0 rfl) ?_
                    refine hp_get hx hb hown hS.2.1 hH (F_X11_13.use hS) f_o rfl dX11_tag_183 ?_
                    refine lv_bipush (v := nI 10) hx hb dX11_tag_186 (by decide) ?_
                    refine lv_iload hx hb dX11_tag_188 (lv_at hl 5 rfl) ?_
                    refine lv_imul hx hb dX11_tag_190 ?_
                    refine hp_eqi (z := nI (10 * (n + 1))) (pk_mul _ _) ?_
                    refine lv_iload hx hb dX11_tag_191 (lv_at hl 6 rfl) ?_
                    refine lv_iadd hx hb dX11_tag_193 ?_
                    refine hp_eqi (z := nI ((10 * (n + 1)) + k)) (nI_add _ _) ?_
                    refine lv_aload_n hx hb dX11_tag_194 rfl (lv_at hl 0 rfl) ?_
                    refine lv_iload_n hx hb dX11_tag_195 rfl (lv_at hl 2 rfl) ?_
                    refine lv_iload_n hx hb dX11_tag_196 rfl (lv_at hl 3 rfl) ?_
                    refine lv_iload hx hb dX11_tag_197 (lv_at hl 4 rfl) ?_
                    refine lv_iload hx hb dX11_tag_199 (lv_at hl 6 rfl) ?_
                    refine hp_kip (hp_runV (As := [.int a, .int b, .int c1, .int (nI k)]) (rest := [.int (nI ((10 * (n + 1)) + k)), .ref (o + 2)]) hx hb hml hown hS hH (c_X11_byteFrom l X (k := k) (a := a) (b := b) (c1 := c1) (by omega)) M_X11_63 I_X11_byteFrom V_X11_byteFrom (ci := 7) rfl rfl f_o rfl hl.1 rfl (Nat.le_of_ble_eq_true rfl) dX11_tag_201 ⟨Nat.le_of_ble_eq_true rfl, Nat.le_of_ble_eq_true rfl⟩ ⟨Nat.le_of_ble_eq_true rfl, Nat.le_of_ble_eq_true rfl⟩) hH (fun H locs hH => ?_)
                    have hnb9 := nbN_lt a b c1 (k)
                    refine hp_iastN hx hb hS.ai hH f_2 (by omega) (by omega) dX11_tag_204 (fun H locs μ1 fz fn hH => ?_)
                    have f_o := (fn _ (by omega)).trans f_o
                    have f_1 := (fn _ (by omega)).trans f_1
                    have f_3 := (fn _ (by omega)).trans f_3
                    have f_4 := (fn _ (by omega)).trans f_4
                    have f_5 := (fn _ (by omega)).trans f_5
                    have f_6 := (fn _ (by omega)).trans f_6
                    have f_2 : μ1 (o + 2) = some (hp_n X 170 (setN (nuW Nu (10 * (n + 1)) a b c1 k) ((10 * (n + 1)) + k) (nbN a b c1 (k)))) := fz
                    have fr := hp_eqM.put (k := 2) fr (by decide) fn
                    clear fz fn
                    refine lv_iinc (v := nI (k + 1)) (lv' := [(6, .int (nI (k + 1))), (0, .ref o), (1, .int (nI (3 * lv2 + 1))), (2, .int a), (3, .int b), (4, .int c1), (5, .int (nI (n + 1)))]) hx hb dX11_tag_205 hl (k := 6) rfl (nI_add _ 1) (by decide) rfl (fun ls hl => ?_)
                    refine lv_goto (tgt := 176) hx hb dX11_tag_208 (by decide) ?_
                    have f_2 := f_2.trans (congrArg (fun g => some (hp_n X 170 g)) (show setN (nuW Nu (10 * (n + 1)) a b c1 k) ((10 * (n + 1)) + k) (nbN a b c1 (k)) = nuW Nu (10 * (n + 1)) a b c1 (k + 1) from nuW_s _ _ _ _ _ _))
                    exact ih176 (k + 1) (by omega) (by omega) _ _ _ _ f_o f_1 f_2 f_3 f_4 f_5 f_6 fr hH (lv_sub hl [1, 2, 3, 4, 5, 6, 0] rfl)
              exact lp_176 ((3 * lv2 + 1 - 0) + 1) 0 (Nat.zero_le _) (Nat.lt_succ_self _) _ _ _ _ f_o f_1 f_2 f_3 f_4 f_5 f_6 fr hH (lv_sub hl [2, 3, 4, 5, 6, 1, 0] rfl)
            · have c_143 : n = 16 := (nI_eq (by omega) (by omega)).mp c_143
              exact absurd c_143 (by omega)
          · have c_49 : ¬ (n < (i + 1)) := fun z => c_49 ((nI_ltI (by omega) (by omega)).mpr z)
            refine lv_aload_n hx hb dX11_tag_52 rfl (lv_at hl 0 rfl) ?_
            refine hp_get hx hb hown hS.2.1 hH (F_X11_7.use hS) f_o rfl dX11_tag_53 ?_
            refine lv_iload hx hb dX11_tag_56 (lv_at hl 5 rfl) ?_
            have hZi := hZ17 i (by omega)
            refine hp_ialdN hx hb hS.ai hH f_1 (by omega) (by omega) dX11_tag_58 ?_
            refine lv_iload_n hx hb dX11_tag_59 rfl (lv_at hl 1 rfl) ?_
            refine lv_icmp_ne (tgt := 67) hx hb dX11_tag_60 (by decide) (fun c_60 => ?_) (fun c_60 => ?_)
            · have c_60 : ¬ ((Z (i + 1)) = (3 * lv2 + 1)) := fun z => c_60 ((nI_eq (by omega) (by omega)).mpr z)
              refine lv_iconst (v := nI 0) hx hb dX11_tag_67 (by decide) ?_
              refine lv_istore (lv' := [(6, .int (nI 0)), (0, .ref o), (1, .int (nI (3 * lv2 + 1))), (2, .int a), (3, .int b), (4, .int c1), (5, .int (nI (i + 1)))]) hx hb dX11_tag_68 hl (by decide) rfl (fun ls hl => ?_)
              refine lv_iconst (v := nI 0) hx hb dX11_tag_70 (by decide) ?_
              refine lv_istore (lv' := [(7, .int (nI 0)), (6, .int (nI 0)), (0, .ref o), (1, .int (nI (3 * lv2 + 1))), (2, .int a), (3, .int b), (4, .int c1), (5, .int (nI (i + 1)))]) hx hb dX11_tag_71 hl (by decide) rfl (fun ls hl => ?_)
              have lp_73 : ∀ (kk73 : Nat) (k : Nat) (sm : Bool), (k ≤ 3 * lv2 + 1) → (sm = true → (Z (i + 1) = 3 * lv2 + 1 ∧ ∀ j, j < k → Nu (10 * (i + 1) + j) = nbN a b c1 j)) → (3 * lv2 + 1 - k) < kk73 → ∀ (H : Heap) (locs : List Loc) (ls : Array Slot), hp_w X cls μ nx H locs → lv_has ls 10 [(0, .ref o), (1, .int (nI (3 * lv2 + 1))), (2, .int a), (3, .int b), (4, .int c1), (5, .int (nI (i + 1))), (6, .int (nB sm)), (7, .int (nI k))] → W p l e { frames := 2, cells := 0, slots := 0, locals := 80 } s m [.ref o, .int (nI (3 * lv2 + 1)), .int a, .int b, .int c1].toArray below meth c H locs 0 0 (MQ below (hq_i X (po_i nx (nI (n + 1)) (fun z => z o = some (hp_o 7 [.int (nI (n + 1)), .ref (o + 1), .ref (o + 2), .ref (o + 3), .ref (o + 4), .ref (o + 5), .ref (o + 6), .int (nB on), .int (nI tz), .ref (o + 7), .int (nI se), .ref (o + 8), .ref (o + 9), .int (nI kd), .int (nI kl), .int (nI tc), .ref (o + 10), .int (nI sd), .ref (o + 11), .int (nI hd), .ref (o + 12), .int (nI an), .ref (o + 13), .int (nI fm), .int (nI fo), .ref (o + 14), .ref (o + 15), .int (nI kc), .ref (o + 16)]) ∧ z (o + 1) = some (hp_n X 17 (setN Z (n + 1) (3 * lv2 + 1))) ∧ z (o + 2) = some (hp_n X 170 (nuW Nu (10 * (n + 1)) a b c1 (3 * lv2 + 1))) ∧ z (o + 3) = some (hp_b X 17 (setB G (n + 1) false)) ∧ z (o + 4) = some (hp_n X 17 (setN S (n + 1) (if on = true then 1 else 0))) ∧ z (o + 5) = some (hp_n X 17 (setN L (n + 1) 1)) ∧ ∃ sh9 : Nat → Nat, z (o + 6) = some (hp_n X 2040 sh9) ∧ (∀ i, i < lv2 → ∀ k, k < 40 → sh9 (120 * (n + 1) + 40 * i + k) = shA a b c1 lv2 i / 2 ^ k % 2) ∧ (∀ j, j < 120 * (n + 1) ∨ 120 * (n + 1) + 40 * lv2 ≤ j → sh9 j = sh2 j) ∧ hp_eqM [0, 1, 2, 3, 4, 5, 6] o z μ))) [.ref o, .int (nI (3 * lv2 + 1)), .int a, .int b, .int c1].toArray s 0 0 (hp_A X)) (F0 m 73 ls []) := by
                intro kk73
                induction kk73 with
                | zero =>
                  intro k sm hk hsm hkk73
                  exact absurd hkk73 (Nat.not_lt_zero _)
                | succ kk73 ih73 =>
                  intro k sm hk hsm hkk73 H locs ls  hH hl
                  refine lv_iload hx hb dX11_tag_73 (lv_at hl 7 rfl) ?_
                  refine lv_iload_n hx hb dX11_tag_75 rfl (lv_at hl 1 rfl) ?_
                  refine lv_icmp_ge (tgt := 123) hx hb dX11_tag_76 (by decide) (fun c_76 => ?_) (fun c_76 => ?_)
                  · have c_76 : (3 * lv2 + 1) ≤ k := (nI_leI (by omega) (by omega)).mp c_76
                    refine lv_iload hx hb dX11_tag_123 (lv_at hl 6 rfl) ?_
                    refine lv_if_eq (tgt := 131) hx hb dX11_tag_125 (by decide) (fun c_125 => ?_) (fun c_125 => ?_)
                    · have c_125 : sm = false := nB_0 c_125
                      refine lv_iinc (v := nI (i + 1 + 1)) (lv' := [(5, .int (nI (i + 1 + 1))), (0, .ref o), (1, .int (nI (3 * lv2 + 1))), (2, .int a), (3, .int b), (4, .int c1), (6, .int (nB sm)), (7, .int (nI k))]) hx hb dX11_tag_131 hl (k := 5) rfl (nI_add _ 1) (by decide) rfl (fun ls hl => ?_)
                      refine lv_goto (tgt := 43) hx hb dX11_tag_134 (by decide) ?_
                      exact ih43 (i + 1) (by omega) (by omega) _ _ _  hH (lv_sub hl [1, 2, 3, 4, 5, 0] rfl)
                    · have c_125 : sm = true := nB_n c_125
                      exact absurd ⟨(hsm c_125).1, fun k9 hk9 => (hsm c_125).2 k9 (by omega)⟩ (hkn i (by omega))
                  · have c_76 : ¬ ((3 * lv2 + 1) ≤ k) := fun z => c_76 ((nI_leI (by omega) (by omega)).mpr z)
                    refine lv_iload hx hb dX11_tag_79 (lv_at hl 6 rfl) ?_
                    refine lv_if_eq (tgt := 114) hx hb dX11_tag_81 (by decide) (fun c_81 => ?_) (fun c_81 => ?_)
                    · have c_81 : sm = false := nB_0 c_81
                      refine lv_iconst (v := nI 0) hx hb dX11_tag_114 (by decide) ?_
                      refine lv_istore (lv' := [(6, .int (nI 0)), (0, .ref o), (1, .int (nI (3 * lv2 + 1))), (2, .int a), (3, .int b), (4, .int c1), (5, .int (nI (i + 1))), (7, .int (nI k))]) hx hb dX11_tag_115 hl (by decide) rfl (fun ls hl => ?_)
                      refine lv_iinc (v := nI (k + 1)) (lv' := [(7, .int (nI (k + 1))), (6, .int (nI 0)), (0, .ref o), (1, .int (nI (3 * lv2 + 1))), (2, .int a), (3, .int b), (4, .int c1), (5, .int (nI (i + 1)))]) hx hb dX11_tag_117 hl (k := 7) rfl (nI_add _ 1) (by decide) rfl (fun ls hl => ?_)
                      refine lv_goto (tgt := 73) hx hb dX11_tag_120 (by decide) ?_
                      exact ih73 (k + 1) false (by omega) (fun q => (nomatch q)) (by omega) _ _ _  hH (lv_sub hl [2, 3, 4, 5, 6, 7, 1, 0] rfl)
                    · have c_81 : sm = true := nB_n c_81
                      refine lv_aload_n hx hb dX11_tag_84 rfl (lv_at hl 0 rfl) ?_
                      refine hp_get hx hb hown hS.2.1 hH (F_X11_13.use hS) f_o rfl dX11_tag_85 ?_
                      refine lv_bipush (v := nI 10) hx hb dX11_tag_88 (by decide) ?_
                      refine lv_iload hx hb dX11_tag_90 (lv_at hl 5 rfl) ?_
                      refine lv_imul hx hb dX11_tag_92 ?_
                      refine hp_eqi (z := nI (10 * (i + 1))) (pk_mul _ _) ?_
                      refine lv_iload hx hb dX11_tag_93 (lv_at hl 7 rfl) ?_
                      refine lv_iadd hx hb dX11_tag_95 ?_
                      refine hp_eqi (z := nI ((10 * (i + 1)) + k)) (nI_add _ _) ?_
                      have hNi := hN170 (10 * (i + 1) + k)
                      refine hp_ialdN hx hb hS.ai hH f_2 (by omega) (by omega) dX11_tag_96 ?_
                      refine lv_aload_n hx hb dX11_tag_97 rfl (lv_at hl 0 rfl) ?_
                      refine lv_iload_n hx hb dX11_tag_98 rfl (lv_at hl 2 rfl) ?_
                      refine lv_iload_n hx hb dX11_tag_99 rfl (lv_at hl 3 rfl) ?_
                      refine lv_iload hx hb dX11_tag_100 (lv_at hl 4 rfl) ?_
                      refine lv_iload hx hb dX11_tag_102 (lv_at hl 7 rfl) ?_
                      refine hp_kip (hp_runV (As := [.int a, .int b, .int c1, .int (nI k)]) (rest := [.int (nI (Nu ((10 * (i + 1)) + k)))]) hx hb hml hown hS hH (c_X11_byteFrom l X (k := k) (a := a) (b := b) (c1 := c1) (by omega)) M_X11_63 I_X11_byteFrom V_X11_byteFrom (ci := 7) rfl rfl f_o rfl hl.1 rfl (Nat.le_of_ble_eq_true rfl) dX11_tag_104 ⟨Nat.le_of_ble_eq_true rfl, Nat.le_of_ble_eq_true rfl⟩ ⟨Nat.le_of_ble_eq_true rfl, Nat.le_of_ble_eq_true rfl⟩) hH (fun H locs hH => ?_)
                      have hnb9 := nbN_lt a b c1 (k)
                      refine lv_icmp_ne (tgt := 114) hx hb dX11_tag_107 (by decide) (fun c_107 => ?_) (fun c_107 => ?_)
                      · have c_107 : ¬ ((Nu ((10 * (i + 1)) + k)) = (nbN a b c1 (k))) := fun z => c_107 ((nI_eq (by omega) (by omega)).mpr z)
                        refine lv_iconst (v := nI 0) hx hb dX11_tag_114 (by decide) ?_
                        refine lv_istore (lv' := [(6, .int (nI 0)), (0, .ref o), (1, .int (nI (3 * lv2 + 1))), (2, .int a), (3, .int b), (4, .int c1), (5, .int (nI (i + 1))), (7, .int (nI k))]) hx hb dX11_tag_115 hl (by decide) rfl (fun ls hl => ?_)
                        refine lv_iinc (v := nI (k + 1)) (lv' := [(7, .int (nI (k + 1))), (6, .int (nI 0)), (0, .ref o), (1, .int (nI (3 * lv2 + 1))), (2, .int a), (3, .int b), (4, .int c1), (5, .int (nI (i + 1)))]) hx hb dX11_tag_117 hl (k := 7) rfl (nI_add _ 1) (by decide) rfl (fun ls hl => ?_)
                        refine lv_goto (tgt := 73) hx hb dX11_tag_120 (by decide) ?_
                        exact ih73 (k + 1) false (by omega) (fun q => (nomatch q)) (by omega) _ _ _  hH (lv_sub hl [2, 3, 4, 5, 6, 7, 1, 0] rfl)
                      · have c_107 : (Nu ((10 * (i + 1)) + k)) = (nbN a b c1 (k)) := (nI_eq (by omega) (by omega)).mp c_107
                        refine lv_iconst (v := nI 1) hx hb dX11_tag_110 (by decide) ?_
                        refine lv_goto (tgt := 115) hx hb dX11_tag_111 (by decide) ?_
                        refine lv_istore (lv' := [(6, .int (nI 1)), (0, .ref o), (1, .int (nI (3 * lv2 + 1))), (2, .int a), (3, .int b), (4, .int c1), (5, .int (nI (i + 1))), (7, .int (nI k))]) hx hb dX11_tag_115 hl (by decide) rfl (fun ls hl => ?_)
                        refine lv_iinc (v := nI (k + 1)) (lv' := [(7, .int (nI (k + 1))), (6, .int (nI 1)), (0, .ref o), (1, .int (nI (3 * lv2 + 1))), (2, .int a), (3, .int b), (4, .int c1), (5, .int (nI (i + 1)))]) hx hb dX11_tag_117 hl (k := 7) rfl (nI_add _ 1) (by decide) rfl (fun ls hl => ?_)
                        refine lv_goto (tgt := 73) hx hb dX11_tag_120 (by decide) ?_
                        exact ih73 (k + 1) true (by omega) (fun _ => ⟨(hsm c_81).1, fun j hj => (Nat.lt_succ_iff_lt_or_eq.mp hj).elim ((hsm c_81).2 j) (fun h => h ▸ c_107)⟩) (by omega) _ _ _  hH (lv_sub hl [2, 3, 4, 5, 6, 7, 1, 0] rfl)
              exact lp_73 ((3 * lv2 + 1 - 0) + 1) 0 false (Nat.zero_le _) (fun q => (nomatch q)) (Nat.lt_succ_self _) _ _ _  hH (lv_sub hl [2, 3, 4, 5, 6, 7, 1, 0] rfl)
            · have c_60 : (Z (i + 1)) = (3 * lv2 + 1) := (nI_eq (by omega) (by omega)).mp c_60
              refine lv_iconst (v := nI 1) hx hb dX11_tag_63 (by decide) ?_
              refine lv_goto (tgt := 68) hx hb dX11_tag_64 (by decide) ?_
              refine lv_istore (lv' := [(6, .int (nI 1)), (0, .ref o), (1, .int (nI (3 * lv2 + 1))), (2, .int a), (3, .int b), (4, .int c1), (5, .int (nI (i + 1)))]) hx hb dX11_tag_68 hl (by decide) rfl (fun ls hl => ?_)
              refine lv_iconst (v := nI 0) hx hb dX11_tag_70 (by decide) ?_
              refine lv_istore (lv' := [(7, .int (nI 0)), (6, .int (nI 1)), (0, .ref o), (1, .int (nI (3 * lv2 + 1))), (2, .int a), (3, .int b), (4, .int c1), (5, .int (nI (i + 1)))]) hx hb dX11_tag_71 hl (by decide) rfl (fun ls hl => ?_)
              have lp_73 : ∀ (kk73 : Nat) (k : Nat) (sm : Bool), (k ≤ 3 * lv2 + 1) → (sm = true → (Z (i + 1) = 3 * lv2 + 1 ∧ ∀ j, j < k → Nu (10 * (i + 1) + j) = nbN a b c1 j)) → (3 * lv2 + 1 - k) < kk73 → ∀ (H : Heap) (locs : List Loc) (ls : Array Slot), hp_w X cls μ nx H locs → lv_has ls 10 [(0, .ref o), (1, .int (nI (3 * lv2 + 1))), (2, .int a), (3, .int b), (4, .int c1), (5, .int (nI (i + 1))), (6, .int (nB sm)), (7, .int (nI k))] → W p l e { frames := 2, cells := 0, slots := 0, locals := 80 } s m [.ref o, .int (nI (3 * lv2 + 1)), .int a, .int b, .int c1].toArray below meth c H locs 0 0 (MQ below (hq_i X (po_i nx (nI (n + 1)) (fun z => z o = some (hp_o 7 [.int (nI (n + 1)), .ref (o + 1), .ref (o + 2), .ref (o + 3), .ref (o + 4), .ref (o + 5), .ref (o + 6), .int (nB on), .int (nI tz), .ref (o + 7), .int (nI se), .ref (o + 8), .ref (o + 9), .int (nI kd), .int (nI kl), .int (nI tc), .ref (o + 10), .int (nI sd), .ref (o + 11), .int (nI hd), .ref (o + 12), .int (nI an), .ref (o + 13), .int (nI fm), .int (nI fo), .ref (o + 14), .ref (o + 15), .int (nI kc), .ref (o + 16)]) ∧ z (o + 1) = some (hp_n X 17 (setN Z (n + 1) (3 * lv2 + 1))) ∧ z (o + 2) = some (hp_n X 170 (nuW Nu (10 * (n + 1)) a b c1 (3 * lv2 + 1))) ∧ z (o + 3) = some (hp_b X 17 (setB G (n + 1) false)) ∧ z (o + 4) = some (hp_n X 17 (setN S (n + 1) (if on = true then 1 else 0))) ∧ z (o + 5) = some (hp_n X 17 (setN L (n + 1) 1)) ∧ ∃ sh9 : Nat → Nat, z (o + 6) = some (hp_n X 2040 sh9) ∧ (∀ i, i < lv2 → ∀ k, k < 40 → sh9 (120 * (n + 1) + 40 * i + k) = shA a b c1 lv2 i / 2 ^ k % 2) ∧ (∀ j, j < 120 * (n + 1) ∨ 120 * (n + 1) + 40 * lv2 ≤ j → sh9 j = sh2 j) ∧ hp_eqM [0, 1, 2, 3, 4, 5, 6] o z μ))) [.ref o, .int (nI (3 * lv2 + 1)), .int a, .int b, .int c1].toArray s 0 0 (hp_A X)) (F0 m 73 ls []) := by
                intro kk73
                induction kk73 with
                | zero =>
                  intro k sm hk hsm hkk73
                  exact absurd hkk73 (Nat.not_lt_zero _)
                | succ kk73 ih73 =>
                  intro k sm hk hsm hkk73 H locs ls  hH hl
                  refine lv_iload hx hb dX11_tag_73 (lv_at hl 7 rfl) ?_
                  refine lv_iload_n hx hb dX11_tag_75 rfl (lv_at hl 1 rfl) ?_
                  refine lv_icmp_ge (tgt := 123) hx hb dX11_tag_76 (by decide) (fun c_76 => ?_) (fun c_76 => ?_)
                  · have c_76 : (3 * lv2 + 1) ≤ k := (nI_leI (by omega) (by omega)).mp c_76
                    refine lv_iload hx hb dX11_tag_123 (lv_at hl 6 rfl) ?_
                    refine lv_if_eq (tgt := 131) hx hb dX11_tag_125 (by decide) (fun c_125 => ?_) (fun c_125 => ?_)
                    · have c_125 : sm = false := nB_0 c_125
                      refine lv_iinc (v := nI (i + 1 + 1)) (lv' := [(5, .int (nI (i + 1 + 1))), (0, .ref o), (1, .int (nI (3 * lv2 + 1))), (2, .int a), (3, .int b), (4, .int c1), (6, .int (nB sm)), (7, .int (nI k))]) hx hb dX11_tag_131 hl (k := 5) rfl (nI_add _ 1) (by decide) rfl (fun ls hl => ?_)
                      refine lv_goto (tgt := 43) hx hb dX11_tag_134 (by decide) ?_
                      exact ih43 (i + 1) (by omega) (by omega) _ _ _  hH (lv_sub hl [1, 2, 3, 4, 5, 0] rfl)
                    · have c_125 : sm = true := nB_n c_125
                      exact absurd ⟨(hsm c_125).1, fun k9 hk9 => (hsm c_125).2 k9 (by omega)⟩ (hkn i (by omega))
                  · have c_76 : ¬ ((3 * lv2 + 1) ≤ k) := fun z => c_76 ((nI_leI (by omega) (by omega)).mpr z)
                    refine lv_iload hx hb dX11_tag_79 (lv_at hl 6 rfl) ?_
                    refine lv_if_eq (tgt := 114) hx hb dX11_tag_81 (by decide) (fun c_81 => ?_) (fun c_81 => ?_)
                    · have c_81 : sm = false := nB_0 c_81
                      refine lv_iconst (v := nI 0) hx hb dX11_tag_114 (by decide) ?_
                      refine lv_istore (lv' := [(6, .int (nI 0)), (0, .ref o), (1, .int (nI (3 * lv2 + 1))), (2, .int a), (3, .int b), (4, .int c1), (5, .int (nI (i + 1))), (7, .int (nI k))]) hx hb dX11_tag_115 hl (by decide) rfl (fun ls hl => ?_)
                      refine lv_iinc (v := nI (k + 1)) (lv' := [(7, .int (nI (k + 1))), (6, .int (nI 0)), (0, .ref o), (1, .int (nI (3 * lv2 + 1))), (2, .int a), (3, .int b), (4, .int c1), (5, .int (nI (i + 1)))]) hx hb dX11_tag_117 hl (k := 7) rfl (nI_add _ 1) (by decide) rfl (fun ls hl => ?_)
                      refine lv_goto (tgt := 73) hx hb dX11_tag_120 (by decide) ?_
                      exact ih73 (k + 1) false (by omega) (fun q => (nomatch q)) (by omega) _ _ _  hH (lv_sub hl [2, 3, 4, 5, 6, 7, 1, 0] rfl)
                    · have c_81 : sm = true := nB_n c_81
                      refine lv_aload_n hx hb dX11_tag_84 rfl (lv_at hl 0 rfl) ?_
                      refine hp_get hx hb hown hS.2.1 hH (F_X11_13.use hS) f_o rfl dX11_tag_85 ?_
                      refine lv_bipush (v := nI 10) hx hb dX11_tag_88 (by decide) ?_
                      refine lv_iload hx hb dX11_tag_90 (lv_at hl 5 rfl) ?_
                      refine lv_imul hx hb dX11_tag_92 ?_
                      refine hp_eqi (z := nI (10 * (i + 1))) (pk_mul _ _) ?_
                      refine lv_iload hx hb dX11_tag_93 (lv_at hl 7 rfl) ?_
                      refine lv_iadd hx hb dX11_tag_95 ?_
                      refine hp_eqi (z := nI ((10 * (i + 1)) + k)) (nI_add _ _) ?_
                      have hNi := hN170 (10 * (i + 1) + k)
                      refine hp_ialdN hx hb hS.ai hH f_2 (by omega) (by omega) dX11_tag_96 ?_
                      refine lv_aload_n hx hb dX11_tag_97 rfl (lv_at hl 0 rfl) ?_
                      refine lv_iload_n hx hb dX11_tag_98 rfl (lv_at hl 2 rfl) ?_
                      refine lv_iload_n hx hb dX11_tag_99 rfl (lv_at hl 3 rfl) ?_
                      refine lv_iload hx hb dX11_tag_100 (lv_at hl 4 rfl) ?_
                      refine lv_iload hx hb dX11_tag_102 (lv_at hl 7 rfl) ?_
                      refine hp_kip (hp_runV (As := [.int a, .int b, .int c1, .int (nI k)]) (rest := [.int (nI (Nu ((10 * (i + 1)) + k)))]) hx hb hml hown hS hH (c_X11_byteFrom l X (k := k) (a := a) (b := b) (c1 := c1) (by omega)) M_X11_63 I_X11_byteFrom V_X11_byteFrom (ci := 7) rfl rfl f_o rfl hl.1 rfl (Nat.le_of_ble_eq_true rfl) dX11_tag_104 ⟨Nat.le_of_ble_eq_true rfl, Nat.le_of_ble_eq_true rfl⟩ ⟨Nat.le_of_ble_eq_true rfl, Nat.le_of_ble_eq_true rfl⟩) hH (fun H locs hH => ?_)
                      have hnb9 := nbN_lt a b c1 (k)
                      refine lv_icmp_ne (tgt := 114) hx hb dX11_tag_107 (by decide) (fun c_107 => ?_) (fun c_107 => ?_)
                      · have c_107 : ¬ ((Nu ((10 * (i + 1)) + k)) = (nbN a b c1 (k))) := fun z => c_107 ((nI_eq (by omega) (by omega)).mpr z)
                        refine lv_iconst (v := nI 0) hx hb dX11_tag_114 (by decide) ?_
                        refine lv_istore (lv' := [(6, .int (nI 0)), (0, .ref o), (1, .int (nI (3 * lv2 + 1))), (2, .int a), (3, .int b), (4, .int c1), (5, .int (nI (i + 1))), (7, .int (nI k))]) hx hb dX11_tag_115 hl (by decide) rfl (fun ls hl => ?_)
                        refine lv_iinc (v := nI (k + 1)) (lv' := [(7, .int (nI (k + 1))), (6, .int (nI 0)), (0, .ref o), (1, .int (nI (3 * lv2 + 1))), (2, .int a), (3, .int b), (4, .int c1), (5, .int (nI (i + 1)))]) hx hb dX11_tag_117 hl (k := 7) rfl (nI_add _ 1) (by decide) rfl (fun ls hl => ?_)
                        refine lv_goto (tgt := 73) hx hb dX11_tag_120 (by decide) ?_
                        exact ih73 (k + 1) false (by omega) (fun q => (nomatch q)) (by omega) _ _ _  hH (lv_sub hl [2, 3, 4, 5, 6, 7, 1, 0] rfl)
                      · have c_107 : (Nu ((10 * (i + 1)) + k)) = (nbN a b c1 (k)) := (nI_eq (by omega) (by omega)).mp c_107
                        refine lv_iconst (v := nI 1) hx hb dX11_tag_110 (by decide) ?_
                        refine lv_goto (tgt := 115) hx hb dX11_tag_111 (by decide) ?_
                        refine lv_istore (lv' := [(6, .int (nI 1)), (0, .ref o), (1, .int (nI (3 * lv2 + 1))), (2, .int a), (3, .int b), (4, .int c1), (5, .int (nI (i + 1))), (7, .int (nI k))]) hx hb dX11_tag_115 hl (by decide) rfl (fun ls hl => ?_)
                        refine lv_iinc (v := nI (k + 1)) (lv' := [(7, .int (nI (k + 1))), (6, .int (nI 1)), (0, .ref o), (1, .int (nI (3 * lv2 + 1))), (2, .int a), (3, .int b), (4, .int c1), (5, .int (nI (i + 1)))]) hx hb dX11_tag_117 hl (k := 7) rfl (nI_add _ 1) (by decide) rfl (fun ls hl => ?_)
                        refine lv_goto (tgt := 73) hx hb dX11_tag_120 (by decide) ?_
                        exact ih73 (k + 1) true (by omega) (fun _ => ⟨(hsm c_81).1, fun j hj => (Nat.lt_succ_iff_lt_or_eq.mp hj).elim ((hsm c_81).2 j) (fun h => h ▸ c_107)⟩) (by omega) _ _ _  hH (lv_sub hl [2, 3, 4, 5, 6, 7, 1, 0] rfl)
              exact lp_73 ((3 * lv2 + 1 - 0) + 1) 0 true (Nat.zero_le _) (fun _ => ⟨c_60, fun j hj => absurd hj (Nat.not_lt_zero _)⟩) (Nat.lt_succ_self _) _ _ _  hH (lv_sub hl [2, 3, 4, 5, 6, 7, 1, 0] rfl)
      exact lp_43 ((n - 0) + 1) 0 (Nat.zero_le _) (Nat.lt_succ_self _) _ _ _  hH (lv_sub hl [1, 2, 3, 4, 5, 0] rfl)
    · have c_34 : (nbN a b c1 ((3 * lv2 + 1) - 4)) = 136 := (nI_eq (by omega) (by omega)).mp c_34
      exact absurd c_34 hunf
  · have c_2 : ¬ ((3 * lv2 + 1) = 4) := fun z => c_2 ((nI_eq (by omega) (by omega)).mpr z)
    refine lv_iload_n hx hb dX11_tag_5 rfl (lv_at hl 1 rfl) ?_
    refine lv_bipush (v := nI 7) hx hb dX11_tag_6 (by decide) ?_
    refine lv_icmp_eq (tgt := 20) hx hb dX11_tag_8 (by decide) (fun c_8 => ?_) (fun c_8 => ?_)
    · have c_8 : (3 * lv2 + 1) = 7 := (nI_eq (by omega) (by omega)).mp c_8
      refine lv_aload_n hx hb dX11_tag_20 rfl (lv_at hl 0 rfl) ?_
      refine lv_iload_n hx hb dX11_tag_21 rfl (lv_at hl 2 rfl) ?_
      refine lv_iload_n hx hb dX11_tag_22 rfl (lv_at hl 3 rfl) ?_
      refine lv_iload hx hb dX11_tag_23 (lv_at hl 4 rfl) ?_
      refine lv_iload_n hx hb dX11_tag_25 rfl (lv_at hl 1 rfl) ?_
      refine lv_iconst (v := nI 4) hx hb dX11_tag_26 (by decide) ?_
      refine lv_isub hx hb dX11_tag_27 ?_
      refine hp_eqi (z := nI ((3 * lv2 + 1) - 4)) (pk_sub (by omega)) ?_
      refine hp_kip (hp_runV (As := [.int a, .int b, .int c1, .int (nI ((3 * lv2 + 1) - 4))]) (rest := []) hx hb hml hown hS hH (c_X11_byteFrom l X (k := (3 * lv2 + 1) - 4) (a := a) (b := b) (c1 := c1) (by omega)) M_X11_63 I_X11_byteFrom V_X11_byteFrom (ci := 7) rfl rfl f_o rfl hl.1 rfl (Nat.le_of_ble_eq_true rfl) dX11_tag_28 ⟨Nat.le_of_ble_eq_true rfl, Nat.le_of_ble_eq_true rfl⟩ ⟨Nat.le_of_ble_eq_true rfl, Nat.le_of_ble_eq_true rfl⟩) hH (fun H locs hH => ?_)
      have hnb9 := nbN_lt a b c1 ((3 * lv2 + 1) - 4)
      refine lv_sipush (v := nI 136) hx hb dX11_tag_31 (by decide) ?_
      refine lv_icmp_ne (tgt := 40) hx hb dX11_tag_34 (by decide) (fun c_34 => ?_) (fun c_34 => ?_)
      · have c_34 : ¬ ((nbN a b c1 ((3 * lv2 + 1) - 4)) = 136) := fun z => c_34 ((nI_eq (by omega) (by omega)).mpr z)
        refine lv_iconst (v := nI 1) hx hb dX11_tag_40 (by decide) ?_
        refine lv_istore (lv' := [(5, .int (nI 1)), (0, .ref o), (1, .int (nI (3 * lv2 + 1))), (2, .int a), (3, .int b), (4, .int c1)]) hx hb dX11_tag_41 hl (by decide) rfl (fun ls hl => ?_)
        have lp_43 : ∀ (kk43 : Nat) (i : Nat), (i ≤ n) → (n - i) < kk43 → ∀ (H : Heap) (locs : List Loc) (ls : Array Slot), hp_w X cls μ nx H locs → lv_has ls 10 [(0, .ref o), (1, .int (nI (3 * lv2 + 1))), (2, .int a), (3, .int b), (4, .int c1), (5, .int (nI (i + 1)))] → W p l e { frames := 2, cells := 0, slots := 0, locals := 80 } s m [.ref o, .int (nI (3 * lv2 + 1)), .int a, .int b, .int c1].toArray below meth c H locs 0 0 (MQ below (hq_i X (po_i nx (nI (n + 1)) (fun z => z o = some (hp_o 7 [.int (nI (n + 1)), .ref (o + 1), .ref (o + 2), .ref (o + 3), .ref (o + 4), .ref (o + 5), .ref (o + 6), .int (nB on), .int (nI tz), .ref (o + 7), .int (nI se), .ref (o + 8), .ref (o + 9), .int (nI kd), .int (nI kl), .int (nI tc), .ref (o + 10), .int (nI sd), .ref (o + 11), .int (nI hd), .ref (o + 12), .int (nI an), .ref (o + 13), .int (nI fm), .int (nI fo), .ref (o + 14), .ref (o + 15), .int (nI kc), .ref (o + 16)]) ∧ z (o + 1) = some (hp_n X 17 (setN Z (n + 1) (3 * lv2 + 1))) ∧ z (o + 2) = some (hp_n X 170 (nuW Nu (10 * (n + 1)) a b c1 (3 * lv2 + 1))) ∧ z (o + 3) = some (hp_b X 17 (setB G (n + 1) false)) ∧ z (o + 4) = some (hp_n X 17 (setN S (n + 1) (if on = true then 1 else 0))) ∧ z (o + 5) = some (hp_n X 17 (setN L (n + 1) 1)) ∧ ∃ sh9 : Nat → Nat, z (o + 6) = some (hp_n X 2040 sh9) ∧ (∀ i, i < lv2 → ∀ k, k < 40 → sh9 (120 * (n + 1) + 40 * i + k) = shA a b c1 lv2 i / 2 ^ k % 2) ∧ (∀ j, j < 120 * (n + 1) ∨ 120 * (n + 1) + 40 * lv2 ≤ j → sh9 j = sh2 j) ∧ hp_eqM [0, 1, 2, 3, 4, 5, 6] o z μ))) [.ref o, .int (nI (3 * lv2 + 1)), .int a, .int b, .int c1].toArray s 0 0 (hp_A X)) (F0 m 43 ls []) := by
          intro kk43
          induction kk43 with
          | zero =>
            intro i hi hkk43
            exact absurd hkk43 (Nat.not_lt_zero _)
          | succ kk43 ih43 =>
            intro i hi hkk43 H locs ls  hH hl
            refine lv_iload hx hb dX11_tag_43 (lv_at hl 5 rfl) ?_
            refine lv_aload_n hx hb dX11_tag_45 rfl (lv_at hl 0 rfl) ?_
            refine hp_get hx hb hown hS.2.1 hH (F_X11_67.use hS) f_o rfl dX11_tag_46 ?_
            refine lv_icmp_gt (tgt := 137) hx hb dX11_tag_49 (by decide) (fun c_49 => ?_) (fun c_49 => ?_)
            · have c_49 : n < (i + 1) := (nI_ltI (by omega) (by omega)).mp c_49
              refine lv_aload_n hx hb dX11_tag_137 rfl (lv_at hl 0 rfl) ?_
              refine hp_get hx hb hown hS.2.1 hH (F_X11_67.use hS) f_o rfl dX11_tag_138 ?_
              refine lv_bipush (v := nI 16) hx hb dX11_tag_141 (by decide) ?_
              refine lv_icmp_ne (tgt := 149) hx hb dX11_tag_143 (by decide) (fun c_143 => ?_) (fun c_143 => ?_)
              · have c_143 : ¬ (n = 16) := fun z => c_143 ((nI_eq (by omega) (by omega)).mpr z)
                refine lv_aload_n hx hb dX11_tag_149 rfl (lv_at hl 0 rfl) ?_
                refine lv_dup hx hb dX11_tag_150 rfl ?_
                refine hp_get hx hb hown hS.2.1 hH (F_X11_67.use hS) f_o rfl dX11_tag_151 ?_
                refine lv_iconst (v := nI 1) hx hb dX11_tag_154 (by decide) ?_
                refine lv_iadd hx hb dX11_tag_155 ?_
                refine hp_eqi (z := nI (n + 1)) (nI_add _ _) ?_
                refine hp_put hx hb hown hS.2.1 hH (P_X11_67.use hS) f_o rfl rfl (Nat.le_of_ble_eq_true rfl) dX11_tag_156 (fun H locs μ1 fz fn hH => ?_)
                have f_1 := (fn _ (by omega)).trans f_1
                have f_2 := (fn _ (by omega)).trans f_2
                have f_3 := (fn _ (by omega)).trans f_3
                have f_4 := (fn _ (by omega)).trans f_4
                have f_5 := (fn _ (by omega)).trans f_5
                have f_6 := (fn _ (by omega)).trans f_6
                have f_o : μ1 o = some (hp_o 7 [.int (nI (n + 1)), .ref (o + 1), .ref (o + 2), .ref (o + 3), .ref (o + 4), .ref (o + 5), .ref (o + 6), .int (nB on), .int (nI tz), .ref (o + 7), .int (nI se), .ref (o + 8), .ref (o + 9), .int (nI kd), .int (nI kl), .int (nI tc), .ref (o + 10), .int (nI sd), .ref (o + 11), .int (nI hd), .ref (o + 12), .int (nI an), .ref (o + 13), .int (nI fm), .int (nI fo), .ref (o + 14), .ref (o + 15), .int (nI kc), .ref (o + 16)]) := fz
                have fr := hp_eqM.put (k := 0) fr (by decide) fn
                clear fz fn
                refine lv_aload_n hx hb dX11_tag_159 rfl (lv_at hl 0 rfl) ?_
                refine hp_get hx hb hown hS.2.1 hH (F_X11_67.use hS) f_o rfl dX11_tag_160 ?_
                refine lv_istore (lv' := [(5, .int (nI (n + 1))), (0, .ref o), (1, .int (nI (3 * lv2 + 1))), (2, .int a), (3, .int b), (4, .int c1)]) hx hb dX11_tag_163 hl (by decide) rfl (fun ls hl => ?_)
                refine lv_aload_n hx hb dX11_tag_165 rfl (lv_at hl 1 rfl) ?_
                refine hp_get hx hb hown hS.2.1 hH (F_X11_7.use hS) f_o rfl dX11_tag_166 ?_
                refine lv_iload hx hb dX11_tag_169 (lv_at hl 0 rfl) ?_
                refine lv_iload_n hx hb dX11_tag_171 rfl (lv_at hl 2 rfl) ?_
                refine hp_iastN hx hb hS.ai hH f_1 (by omega) (by omega) dX11_tag_172 (fun H locs μ1 fz fn hH => ?_)
                have f_o := (fn _ (by omega)).trans f_o
                have f_2 := (fn _ (by omega)).trans f_2
                have f_3 := (fn _ (by omega)).trans f_3
                have f_4 := (fn _ (by omega)).trans f_4
                have f_5 := (fn _ (by omega)).trans f_5
                have f_6 := (fn _ (by omega)).trans f_6
                have f_1 : μ1 (o + 1) = some (hp_n X 17 (setN Z (n + 1) (3 * lv2 + 1))) := fz
                have fr := hp_eqM.put (k := 1) fr (by decide) fn
                clear fz fn
                refine lv_iconst (v := nI 0) hx hb dX11_tag_173 (by decide) ?_
                refine lv_istore (lv' := [(6, .int (nI 0)), (5, .int (nI (n + 1))), (0, .ref o), (1, .int (nI (3 * lv2 + 1))), (2, .int a), (3, .int b), (4, .int c1)]) hx hb dX11_tag_174 hl (by decide) rfl (fun ls hl => ?_)
                have f_2 := f_2.trans (congrArg (fun g => some (hp_n X 170 g)) (show Nu = nuW Nu (10 * (n + 1)) a b c1 0 from nuW_0 _ _ _ _ _))
                have lp_176 : ∀ (kk176 : Nat) (k : Nat), (k ≤ 3 * lv2 + 1) → (3 * lv2 + 1 - k) < kk176 → ∀ (μ1 : hp_M) (H : Heap) (locs : List Loc) (ls : Array Slot), (μ1 o = some (hp_o 7 [.int (nI (n + 1)), .ref (o + 1), .ref (o + 2), .ref (o + 3), .ref (o + 4), .ref (o + 5), .ref (o + 6), .int (nB on), .int (nI tz), .ref (o + 7), .int (nI se), .ref (o + 8), .ref (o + 9), .int (nI kd), .int (nI kl), .int (nI tc), .ref (o + 10), .int (nI sd), .ref (o + 11), .int (nI hd), .ref (o + 12), .int (nI an), .ref (o + 13), .int (nI fm), .int (nI fo), .ref (o + 14), .ref (o + 15), .int (nI kc), .ref (o + 16)])) → (μ1 (o + 1) = some (hp_n X 17 (setN Z (n + 1) (3 * lv2 + 1)))) → (μ1 (o + 2) = some (hp_n X 170 (nuW Nu (10 * (n + 1)) a b c1 k))) → (μ1 (o + 3) = some (hp_b X 17 G)) → (μ1 (o + 4) = some (hp_n X 17 S)) → (μ1 (o + 5) = some (hp_n X 17 L)) → (μ1 (o + 6) = some (hp_n X 2040 sh2)) → hp_eqM [0, 1, 2, 3, 4, 5, 6] o μ1 μ → hp_w X cls μ1 nx H locs → lv_has ls 10 [(0, .ref o), (1, .int (nI (3 * lv2 + 1))), (2, .int a), (3, .int b), (4, .int c1), (5, .int (nI (n + 1))), (6, .int (nI k))] → W p l e { frames := 2, cells := 0, slots := 0, locals := 80 } s m [.ref o, .int (nI (3 * lv2 + 1)), .int a, .int b, .int c1].toArray below meth c H locs 0 0 (MQ below (hq_i X (po_i nx (nI (n + 1)) (fun z => z o = some (hp_o 7 [.int (nI (n + 1)), .ref (o + 1), .ref (o + 2), .ref (o + 3), .ref (o + 4), .ref (o + 5), .ref (o + 6), .int (nB on), .int (nI tz), .ref (o + 7), .int (nI se), .ref (o + 8), .ref (o + 9), .int (nI kd), .int (nI kl), .int (nI tc), .ref (o + 10), .int (nI sd), .ref (o + 11), .int (nI hd), .ref (o + 12), .int (nI an), .ref (o + 13), .int (nI fm), .int (nI fo), .ref (o + 14), .ref (o + 15), .int (nI kc), .ref (o + 16)]) ∧ z (o + 1) = some (hp_n X 17 (setN Z (n + 1) (3 * lv2 + 1))) ∧ z (o + 2) = some (hp_n X 170 (nuW Nu (10 * (n + 1)) a b c1 (3 * lv2 + 1))) ∧ z (o + 3) = some (hp_b X 17 (setB G (n + 1) false)) ∧ z (o + 4) = some (hp_n X 17 (setN S (n + 1) (if on = true then 1 else 0))) ∧ z (o + 5) = some (hp_n X 17 (setN L (n + 1) 1)) ∧ ∃ sh9 : Nat → Nat, z (o + 6) = some (hp_n X 2040 sh9) ∧ (∀ i, i < lv2 → ∀ k, k < 40 → sh9 (120 * (n + 1) + 40 * i + k) = shA a b c1 lv2 i / 2 ^ k % 2) ∧ (∀ j, j < 120 * (n + 1) ∨ 120 * (n + 1) + 40 * lv2 ≤ j → sh9 j = sh2 j) ∧ hp_eqM [0, 1, 2, 3, 4, 5, 6] o z μ))) [.ref o, .int (nI (3 * lv2 + 1)), .int a, .int b, .int c1].toArray s 0 0 (hp_A X)) (F0 m 176 ls []) := by
                  intro kk176
                  induction kk176 with
                  | zero =>
                    intro k hk hkk176
                    exact absurd hkk176 (Nat.not_lt_zero _)
                  | succ kk176 ih176 =>
                    intro k hk hkk176 μ1 H locs ls f_o f_1 f_2 f_3 f_4 f_5 f_6 fr hH hl
                    refine lv_iload hx hb dX11_tag_176 (lv_at hl 6 rfl) ?_
                    refine lv_iload_n hx hb dX11_tag_178 rfl (lv_at hl 1 rfl) ?_
                    refine lv_icmp_ge (tgt := 211) hx hb dX11_tag_179 (by decide) (fun c_179 => ?_) (fun c_179 => ?_)
                    · have c_179 : (3 * lv2 + 1) ≤ k := (nI_leI (by omega) (by omega)).mp c_179
                      have ek : k = 3 * lv2 + 1 := by omega
                      have f_2 : μ1 (o + 2) = some (hp_n X 170 (nuW Nu (10 * (n + 1)) a b c1 (3 * lv2 + 1))) := by rw [ek] at f_2; exact f_2
                      refine lv_bipush (v := nI 10) hx hb dX11_tag_211 (by decide) ?_
                      refine lv_iload hx hb dX11_tag_213 (lv_at hl 5 rfl) ?_
                      refine lv_imul hx hb dX11_tag_215 ?_
                      refine hp_eqi (z := nI (10 * (n + 1))) (pk_mul _ _) ?_
                      refine lv_istore (lv' := [(6, .int (nI (10 * (n + 1)))), (0, .ref o), (1, .int (nI (3 * lv2 + 1))), (2, .int a), (3, .int b), (4, .int c1), (5, .int (nI (n + 1)))]) hx hb dX11_tag_216 hl (by decide) rfl (fun ls hl => ?_)
                      refine lv_iload_n hx hb dX11_tag_218 rfl (lv_at hl 2 rfl) ?_
                      refine lv_iconst (v := nI 3) hx hb dX11_tag_219 (by decide) ?_
                      refine lv_idiv hx hb dX11_tag_220 (nI_ne0 (by omega) (by omega)) ?_
                      refine hp_eqi (z := nI ((3 * lv2 + 1) / 3)) (pk_div (by omega) (by omega) (by omega)) ?_
                      refine hp_eqi (z := nI lv2) (congrArg nI (show (3 * lv2 + 1) / 3 = lv2 by omega)) ?_
                      refine lv_istore (lv' := [(7, .int (nI lv2)), (6, .int (nI (10 * (n + 1)))), (0, .ref o), (1, .int (nI (3 * lv2 + 1))), (2, .int a), (3, .int b), (4, .int c1), (5, .int (nI (n + 1)))]) hx hb dX11_tag_221 hl (by decide) rfl (fun ls hl => ?_)
                      refine lv_iconst (v := nI 0) hx hb dX11_tag_223 (by decide) ?_
                      refine lv_istore (lv' := [(8, .int (nI 0)), (7, .int (nI lv2)), (6, .int (nI (10 * (n + 1)))), (0, .ref o), (1, .int (nI (3 * lv2 + 1))), (2, .int a), (3, .int b), (4, .int c1), (5, .int (nI (n + 1)))]) hx hb dX11_tag_224 hl (by decide) rfl (fun ls hl => ?_)
                      have lp_226 : ∀ (kk226 : Nat) (q : Nat) (sh3 : Nat → Nat), (q ≤ lv2) → (∀ i, i < q → ∀ k, k < 40 → sh3 (120 * (n + 1) + 40 * i + k) = shA a b c1 lv2 i / 2 ^ k % 2) → (∀ j, j < 120 * (n + 1) ∨ 120 * (n + 1) + 40 * q ≤ j → sh3 j = sh2 j) → (lv2 - q) < kk226 → ∀ (μ1 : hp_M) (H : Heap) (locs : List Loc) (ls : Array Slot), (μ1 o = some (hp_o 7 [.int (nI (n + 1)), .ref (o + 1), .ref (o + 2), .ref (o + 3), .ref (o + 4), .ref (o + 5), .ref (o + 6), .int (nB on), .int (nI tz), .ref (o + 7), .int (nI se), .ref (o + 8), .ref (o + 9), .int (nI kd), .int (nI kl), .int (nI tc), .ref (o + 10), .int (nI sd), .ref (o + 11), .int (nI hd), .ref (o + 12), .int (nI an), .ref (o + 13), .int (nI fm), .int (nI fo), .ref (o + 14), .ref (o + 15), .int (nI kc), .ref (o + 16)])) → (μ1 (o + 1) = some (hp_n X 17 (setN Z (n + 1) (3 * lv2 + 1)))) → (μ1 (o + 2) = some (hp_n X 170 (nuW Nu (10 * (n + 1)) a b c1 (3 * lv2 + 1)))) → (μ1 (o + 3) = some (hp_b X 17 G)) → (μ1 (o + 4) = some (hp_n X 17 S)) → (μ1 (o + 5) = some (hp_n X 17 L)) → (μ1 (o + 6) = some (hp_n X 2040 sh3)) → hp_eqM [0, 1, 2, 3, 4, 5, 6] o μ1 μ → hp_w X cls μ1 nx H locs → lv_has ls 10 [(0, .ref o), (1, .int (nI (3 * lv2 + 1))), (5, .int (nI (n + 1))), (6, .int (nI (10 * (n + 1)))), (7, .int (nI lv2)), (8, .int (nI q))] → W p l e { frames := 2, cells := 0, slots := 0, locals := 80 } s m [.ref o, .int (nI (3 * lv2 + 1)), .int a, .int b, .int c1].toArray below meth c H locs 0 0 (MQ below (hq_i X (po_i nx (nI (n + 1)) (fun z => z o = some (hp_o 7 [.int (nI (n + 1)), .ref (o + 1), .ref (o + 2), .ref (o + 3), .ref (o + 4), .ref (o + 5), .ref (o + 6), .int (nB on), .int (nI tz), .ref (o + 7), .int (nI se), .ref (o + 8), .ref (o + 9), .int (nI kd), .int (nI kl), .int (nI tc), .ref (o + 10), .int (nI sd), .ref (o + 11), .int (nI hd), .ref (o + 12), .int (nI an), .ref (o + 13), .int (nI fm), .int (nI fo), .ref (o + 14), .ref (o + 15), .int (nI kc), .ref (o + 16)]) ∧ z (o + 1) = some (hp_n X 17 (setN Z (n + 1) (3 * lv2 + 1))) ∧ z (o + 2) = some (hp_n X 170 (nuW Nu (10 * (n + 1)) a b c1 (3 * lv2 + 1))) ∧ z (o + 3) = some (hp_b X 17 (setB G (n + 1) false)) ∧ z (o + 4) = some (hp_n X 17 (setN S (n + 1) (if on = true then 1 else 0))) ∧ z (o + 5) = some (hp_n X 17 (setN L (n + 1) 1)) ∧ ∃ sh9 : Nat → Nat, z (o + 6) = some (hp_n X 2040 sh9) ∧ (∀ i, i < lv2 → ∀ k, k < 40 → sh9 (120 * (n + 1) + 40 * i + k) = shA a b c1 lv2 i / 2 ^ k % 2) ∧ (∀ j, j < 120 * (n + 1) ∨ 120 * (n + 1) + 40 * lv2 ≤ j → sh9 j = sh2 j) ∧ hp_eqM [0, 1, 2, 3, 4, 5, 6] o z μ))) [.ref o, .int (nI (3 * lv2 + 1)), .int a, .int b, .int c1].toArray s 0 0 (hp_A X)) (F0 m 226 ls []) := by
                        intro kk226
                        induction kk226 with
                        | zero =>
                          intro q sh3 hq hA hO9 hkk226
                          exact absurd hkk226 (Nat.not_lt_zero _)
                        | succ kk226 ih226 =>
                          intro q sh3 hq hA hO9 hkk226 μ1 H locs ls f_o f_1 f_2 f_3 f_4 f_5 f_6 fr hH hl
                          refine lv_iload hx hb dX11_tag_226 (lv_at hl 5 rfl) ?_
                          refine lv_iload hx hb dX11_tag_228 (lv_at hl 4 rfl) ?_
                          refine lv_icmp_ge (tgt := 338) hx hb dX11_tag_230 (by decide) (fun c_230 => ?_) (fun c_230 => ?_)
                          · have c_230 : lv2 ≤ q := (nI_leI (by omega) (by omega)).mp c_230
                            refine lv_aload_n hx hb dX11_tag_338 rfl (lv_at hl 0 rfl) ?_
                            refine hp_get hx hb hown hS.2.1 hH (F_X11_16.use hS) f_o rfl dX11_tag_339 ?_
                            refine lv_iload hx hb dX11_tag_342 (lv_at hl 2 rfl) ?_
                            refine lv_iconst (v := nI 0) hx hb dX11_tag_344 (by decide) ?_
                            refine hp_eqi (z := nB false) (by decide) ?_
                            refine hp_zast hx hb hS.ab hH f_3 (by omega) (by omega) dX11_tag_345 (fun H locs μ1 fz fn hH => ?_)
                            have f_o := (fn _ (by omega)).trans f_o
                            have f_1 := (fn _ (by omega)).trans f_1
                            have f_2 := (fn _ (by omega)).trans f_2
                            have f_4 := (fn _ (by omega)).trans f_4
                            have f_5 := (fn _ (by omega)).trans f_5
                            have f_6 := (fn _ (by omega)).trans f_6
                            have f_3 : μ1 (o + 3) = some (hp_b X 17 (setB G (n + 1) false)) := fz
                            have fr := hp_eqM.put (k := 3) fr (by decide) fn
                            clear fz fn
                            refine lv_aload_n hx hb dX11_tag_346 rfl (lv_at hl 0 rfl) ?_
                            refine hp_get hx hb hown hS.2.1 hH (F_X11_20.use hS) f_o rfl dX11_tag_347 ?_
                            refine lv_iload hx hb dX11_tag_350 (lv_at hl 2 rfl) ?_
                            refine lv_aload_n hx hb dX11_tag_352 rfl (lv_at hl 0 rfl) ?_
                            refine hp_get hx hb hown hS.2.1 hH (F_X11_29.use hS) f_o rfl dX11_tag_353 ?_
                            refine lv_if_eq (tgt := 363) hx hb dX11_tag_356 (by decide) (fun c_356 => ?_) (fun c_356 => ?_)
                            · have c_356 : on = false := nB_0 c_356
                              refine lv_iconst (v := nI 0) hx hb dX11_tag_363 (by decide) ?_
                              refine hp_iastN hx hb hS.ai hH f_4 (by omega) (by omega) dX11_tag_364 (fun H locs μ1 fz fn hH => ?_)
                              have f_o := (fn _ (by omega)).trans f_o
                              have f_1 := (fn _ (by omega)).trans f_1
                              have f_2 := (fn _ (by omega)).trans f_2
                              have f_3 := (fn _ (by omega)).trans f_3
                              have f_5 := (fn _ (by omega)).trans f_5
                              have f_6 := (fn _ (by omega)).trans f_6
                              have f_4 : μ1 (o + 4) = some (hp_n X 17 (setN S (n + 1) 0)) := fz
                              have fr := hp_eqM.put (k := 4) fr (by decide) fn
                              clear fz fn
                              refine lv_aload_n hx hb dX11_tag_365 rfl (lv_at hl 0 rfl) ?_
                              refine hp_get hx hb hown hS.2.1 hH (F_X11_23.use hS) f_o rfl dX11_tag_366 ?_
                              refine lv_iload hx hb dX11_tag_369 (lv_at hl 2 rfl) ?_
                              refine lv_iconst (v := nI 1) hx hb dX11_tag_371 (by decide) ?_
                              refine hp_iastN hx hb hS.ai hH f_5 (by omega) (by omega) dX11_tag_372 (fun H locs μ1 fz fn hH => ?_)
                              have f_o := (fn _ (by omega)).trans f_o
                              have f_1 := (fn _ (by omega)).trans f_1
                              have f_2 := (fn _ (by omega)).trans f_2
                              have f_3 := (fn _ (by omega)).trans f_3
                              have f_4 := (fn _ (by omega)).trans f_4
                              have f_6 := (fn _ (by omega)).trans f_6
                              have f_5 : μ1 (o + 5) = some (hp_n X 17 (setN L (n + 1) 1)) := fz
                              have fr := hp_eqM.put (k := 5) fr (by decide) fn
                              clear fz fn
                              refine lv_iload hx hb dX11_tag_373 (lv_at hl 2 rfl) ?_
                              have f_4 := f_4.trans (congrArg (fun g => some (hp_n X 17 g)) (show setN S (n + 1) 0 = setN S (n + 1) (if on = true then 1 else 0) from by rw [if_neg (by rw [c_356]; decide)]))
                              have eq9 : q = lv2 := by omega
                              rw [eq9] at hA hO9
                              exact hp_ri hx hb hr hlocks hS hH (⟨rfl, rfl, f_o, f_1, f_2, f_3, f_4, f_5, sh3, f_6, hA, hO9, fr⟩) dX11_tag_375
                            · have c_356 : on = true := nB_n c_356
                              refine lv_iconst (v := nI 1) hx hb dX11_tag_359 (by decide) ?_
                              refine lv_goto (tgt := 364) hx hb dX11_tag_360 (by decide) ?_
                              refine hp_iastN hx hb hS.ai hH f_4 (by omega) (by omega) dX11_tag_364 (fun H locs μ1 fz fn hH => ?_)
                              have f_o := (fn _ (by omega)).trans f_o
                              have f_1 := (fn _ (by omega)).trans f_1
                              have f_2 := (fn _ (by omega)).trans f_2
                              have f_3 := (fn _ (by omega)).trans f_3
                              have f_5 := (fn _ (by omega)).trans f_5
                              have f_6 := (fn _ (by omega)).trans f_6
                              have f_4 : μ1 (o + 4) = some (hp_n X 17 (setN S (n + 1) 1)) := fz
                              have fr := hp_eqM.put (k := 4) fr (by decide) fn
                              clear fz fn
                              refine lv_aload_n hx hb dX11_tag_365 rfl (lv_at hl 0 rfl) ?_
                              refine hp_get hx hb hown hS.2.1 hH (F_X11_23.use hS) f_o rfl dX11_tag_366 ?_
                              refine lv_iload hx hb dX11_tag_369 (lv_at hl 2 rfl) ?_
                              refine lv_iconst (v := nI 1) hx hb dX11_tag_371 (by decide) ?_
                              refine hp_iastN hx hb hS.ai hH f_5 (by omega) (by omega) dX11_tag_372 (fun H locs μ1 fz fn hH => ?_)
                              have f_o := (fn _ (by omega)).trans f_o
                              have f_1 := (fn _ (by omega)).trans f_1
                              have f_2 := (fn _ (by omega)).trans f_2
                              have f_3 := (fn _ (by omega)).trans f_3
                              have f_4 := (fn _ (by omega)).trans f_4
                              have f_6 := (fn _ (by omega)).trans f_6
                              have f_5 : μ1 (o + 5) = some (hp_n X 17 (setN L (n + 1) 1)) := fz
                              have fr := hp_eqM.put (k := 5) fr (by decide) fn
                              clear fz fn
                              refine lv_iload hx hb dX11_tag_373 (lv_at hl 2 rfl) ?_
                              have f_4 := f_4.trans (congrArg (fun g => some (hp_n X 17 g)) (show setN S (n + 1) 1 = setN S (n + 1) (if on = true then 1 else 0) from by rw [if_pos c_356]))
                              have eq9 : q = lv2 := by omega
                              rw [eq9] at hA hO9
                              exact hp_ri hx hb hr hlocks hS hH (⟨rfl, rfl, f_o, f_1, f_2, f_3, f_4, f_5, sh3, f_6, hA, hO9, fr⟩) dX11_tag_375
                          · have c_230 : ¬ (lv2 ≤ q) := fun z => c_230 ((nI_leI (by omega) (by omega)).mpr z)
                            refine lv_iload hx hb dX11_tag_233 (lv_at hl 3 rfl) ?_
                            refine lv_iconst (v := nI 3) hx hb dX11_tag_235 (by decide) ?_
                            refine lv_iload hx hb dX11_tag_236 (lv_at hl 5 rfl) ?_
                            refine lv_imul hx hb dX11_tag_238 ?_
                            refine hp_eqi (z := nI (3 * q)) (pk_mul _ _) ?_
                            refine lv_iadd hx hb dX11_tag_239 ?_
                            refine hp_eqi (z := nI ((10 * (n + 1)) + (3 * q))) (nI_add _ _) ?_
                            refine lv_istore (lv' := [(9, .int (nI ((10 * (n + 1)) + (3 * q)))), (0, .ref o), (1, .int (nI (3 * lv2 + 1))), (5, .int (nI (n + 1))), (6, .int (nI (10 * (n + 1)))), (7, .int (nI lv2)), (8, .int (nI q))]) hx hb dX11_tag_240 hl (by decide) rfl (fun ls hl => ?_)
                            refine lv_iload hx hb dX11_tag_242 (lv_at hl 6 rfl) ?_
                            refine lv_iconst (v := nI 1) hx hb dX11_tag_244 (by decide) ?_
                            refine lv_iadd hx hb dX11_tag_245 ?_
                            refine hp_eqi (z := nI (q + 1)) (nI_add _ _) ?_
                            refine lv_iload hx hb dX11_tag_246 (lv_at hl 5 rfl) ?_
                            refine lv_icmp_ge (tgt := 290) hx hb dX11_tag_248 (by decide) (fun c_248 => ?_) (fun c_248 => ?_)
                            · have c_248 : lv2 ≤ (q + 1) := (nI_leI (by omega) (by omega)).mp c_248
                              refine lv_aload_n hx hb dX11_tag_290 rfl (lv_at hl 1 rfl) ?_
                              refine lv_iload hx hb dX11_tag_291 (lv_at hl 3 rfl) ?_
                              refine lv_iload hx hb dX11_tag_293 (lv_at hl 6 rfl) ?_
                              refine lv_aload_n hx hb dX11_tag_295 rfl (lv_at hl 1 rfl) ?_
                              refine hp_get hx hb hown hS.2.1 hH (F_X11_13.use hS) f_o rfl dX11_tag_296 ?_
                              refine lv_iload hx hb dX11_tag_299 (lv_at hl 0 rfl) ?_
                              refine hp_ialdN hx hb hS.ai hH f_2 (by omega) (by omega) dX11_tag_301 ?_
                              refine hp_eqi (z := nI (nbN a b c1 (3 * q + 0))) (congrArg nI (nuW_at (i := 3 * q + 0) (by omega))) ?_
                              refine lv_aload_n hx hb dX11_tag_302 rfl (lv_at hl 1 rfl) ?_
                              refine hp_get hx hb hown hS.2.1 hH (F_X11_13.use hS) f_o rfl dX11_tag_303 ?_
                              refine lv_iload hx hb dX11_tag_306 (lv_at hl 0 rfl) ?_
                              refine lv_iconst (v := nI 1) hx hb dX11_tag_308 (by decide) ?_
                              refine lv_iadd hx hb dX11_tag_309 ?_
                              refine hp_eqi (z := nI (((10 * (n + 1)) + (3 * q)) + 1)) (nI_add _ _) ?_
                              refine hp_ialdN hx hb hS.ai hH f_2 (by omega) (by omega) dX11_tag_310 ?_
                              refine hp_eqi (z := nI (nbN a b c1 (3 * q + 1))) (congrArg nI (nuW_at (i := 3 * q + 1) (by omega))) ?_
                              refine lv_aload_n hx hb dX11_tag_311 rfl (lv_at hl 1 rfl) ?_
                              refine hp_get hx hb hown hS.2.1 hH (F_X11_13.use hS) f_o rfl dX11_tag_312 ?_
                              refine lv_iload hx hb dX11_tag_315 (lv_at hl 0 rfl) ?_
                              refine lv_iconst (v := nI 2) hx hb dX11_tag_317 (by decide) ?_
                              refine lv_iadd hx hb dX11_tag_318 ?_
                              refine hp_eqi (z := nI (((10 * (n + 1)) + (3 * q)) + 2)) (nI_add _ _) ?_
                              refine hp_ialdN hx hb hS.ai hH f_2 (by omega) (by omega) dX11_tag_319 ?_
                              refine hp_eqi (z := nI (nbN a b c1 (3 * q + 2))) (congrArg nI (nuW_at (i := 3 * q + 2) (by omega))) ?_
                              refine lv_aload_n hx hb dX11_tag_320 rfl (lv_at hl 1 rfl) ?_
                              refine hp_get hx hb hown hS.2.1 hH (F_X11_13.use hS) f_o rfl dX11_tag_321 ?_
                              refine lv_iload hx hb dX11_tag_324 (lv_at hl 0 rfl) ?_
                              refine lv_iconst (v := nI 3) hx hb dX11_tag_326 (by decide) ?_
                              refine lv_iadd hx hb dX11_tag_327 ?_
                              refine hp_eqi (z := nI (((10 * (n + 1)) + (3 * q)) + 3)) (nI_add _ _) ?_
                              refine hp_ialdN hx hb hS.ai hH f_2 (by omega) (by omega) dX11_tag_328 ?_
                              refine hp_eqi (z := nI (nbN a b c1 (3 * q + 3))) (congrArg nI (nuW_at (i := 3 * q + 3) (by omega))) ?_
                              have hx9 := nbN_lt a b c1 (3 * q + 0)
                              have hx9 := nbN_lt a b c1 (3 * q + 1)
                              have hx9 := nbN_lt a b c1 (3 * q + 2)
                              have hx9 := nbN_lt a b c1 (3 * q + 3)
                              refine hp_kvm (hp_runV (As := [.int (nI (n + 1)), .int (nI q), .int (nI (nbN a b c1 (3 * q + 0))), .int (nI (nbN a b c1 (3 * q + 1))), .int (nI (nbN a b c1 (3 * q + 2))), .int (nI (nbN a b c1 (3 * q + 3)))]) (rest := []) hx hb hml hown hS hH (c_X11_show l X (t := n + 1) (at0 := q) (a := nbN a b c1 (3 * q + 0)) (b := nbN a b c1 (3 * q + 1)) (c1 := nbN a b c1 (3 * q + 2)) (d1 := nbN a b c1 (3 * q + 3)) (by omega) (by omega) (nbN_lt _ _ _ _) (nbN_lt _ _ _ _) (nbN_lt _ _ _ _) (nbN_lt _ _ _ _) f_o f_6) M_X11_71 I_X11_show V_X11_show (ci := 7) rfl rfl f_o rfl hl.1 rfl (Nat.le_of_ble_eq_true rfl) dX11_tag_329 ⟨Nat.le_of_ble_eq_true rfl, Nat.le_of_ble_eq_true rfl⟩ ⟨Nat.le_of_ble_eq_true rfl, Nat.le_of_ble_eq_true rfl⟩) hH (fun μ1 H locs hp hH => ?_)
                              obtain ⟨fz0, fe⟩ := hp
                              have f_o := (fe.at0 (by decide)).trans f_o
                              have f_1 := (fe.at 1 (by decide)).trans f_1
                              have f_2 := (fe.at 2 (by decide)).trans f_2
                              have f_3 := (fe.at 3 (by decide)).trans f_3
                              have f_4 := (fe.at 4 (by decide)).trans f_4
                              have f_5 := (fe.at 5 (by decide)).trans f_5
                              have f_6 : μ1 (o + 6) = some (hp_n X 2040 (shW sh3 (120 * (n + 1) + 40 * q) (shV (shQ (nbN a b c1 (3 * q + 0)) (nbN a b c1 (3 * q + 1)) (nbN a b c1 (3 * q + 2)) (nbN a b c1 (3 * q + 3)))) 40)) := fz0
                              have fr := hp_eqM.tr fe fr (by decide)
                              clear fe fz0
                              refine lv_iinc (v := nI (q + 1)) (lv' := [(8, .int (nI (q + 1))), (9, .int (nI ((10 * (n + 1)) + (3 * q)))), (0, .ref o), (1, .int (nI (3 * lv2 + 1))), (5, .int (nI (n + 1))), (6, .int (nI (10 * (n + 1)))), (7, .int (nI lv2))]) hx hb dX11_tag_332 hl (k := 6) rfl (nI_add _ 1) (by decide) rfl (fun ls hl => ?_)
                              refine lv_goto (tgt := 226) hx hb dX11_tag_335 (by decide) ?_
                              have hV : shA a b c1 lv2 q = shV (shQ (nbN a b c1 (3 * q + 0)) (nbN a b c1 (3 * q + 1)) (nbN a b c1 (3 * q + 2)) (nbN a b c1 (3 * q + 3))) := by unfold shA; rw [if_pos (by omega), decide_eq_true (show q + 1 = lv2 by omega)]; rfl
                              have hA2 : ∀ i, i < q + 1 → ∀ k, k < 40 → (shW sh3 (120 * (n + 1) + 40 * q) (shV (shQ (nbN a b c1 (3 * q + 0)) (nbN a b c1 (3 * q + 1)) (nbN a b c1 (3 * q + 2)) (nbN a b c1 (3 * q + 3)))) 40) (120 * (n + 1) + 40 * i + k) = shA a b c1 lv2 i / 2 ^ k % 2 := fun i hi k hk => by
                                by_cases e9 : i = q
                                · subst e9; rw [shW_at hk, hV]
                                · rw [shW_out (by omega)]; exact hA i (by omega) k hk
                              have hO2 : ∀ j, j < 120 * (n + 1) ∨ 120 * (n + 1) + 40 * (q + 1) ≤ j → (shW sh3 (120 * (n + 1) + 40 * q) (shV (shQ (nbN a b c1 (3 * q + 0)) (nbN a b c1 (3 * q + 1)) (nbN a b c1 (3 * q + 2)) (nbN a b c1 (3 * q + 3)))) 40) j = sh2 j := fun j hj => by rw [shW_out (by omega)]; exact hO9 j (by omega)
                              exact ih226 (q + 1) (shW sh3 (120 * (n + 1) + 40 * q) (shV (shQ (nbN a b c1 (3 * q + 0)) (nbN a b c1 (3 * q + 1)) (nbN a b c1 (3 * q + 2)) (nbN a b c1 (3 * q + 3)))) 40) (by omega) hA2 hO2 (by omega) _ _ _ _ f_o f_1 f_2 f_3 f_4 f_5 f_6 fr hH (lv_sub hl [2, 3, 4, 5, 6, 0] rfl)
                            · have c_248 : ¬ (lv2 ≤ (q + 1)) := fun z => c_248 ((nI_leI (by omega) (by omega)).mpr z)
                              refine lv_aload_n hx hb dX11_tag_251 rfl (lv_at hl 1 rfl) ?_
                              refine lv_iload hx hb dX11_tag_252 (lv_at hl 3 rfl) ?_
                              refine lv_iload hx hb dX11_tag_254 (lv_at hl 6 rfl) ?_
                              refine lv_sipush (v := nI 136) hx hb dX11_tag_256 (by decide) ?_
                              refine lv_aload_n hx hb dX11_tag_259 rfl (lv_at hl 1 rfl) ?_
                              refine hp_get hx hb hown hS.2.1 hH (F_X11_13.use hS) f_o rfl dX11_tag_260 ?_
                              refine lv_iload hx hb dX11_tag_263 (lv_at hl 0 rfl) ?_
                              refine hp_ialdN hx hb hS.ai hH f_2 (by omega) (by omega) dX11_tag_265 ?_
                              refine hp_eqi (z := nI (nbN a b c1 (3 * q + 0))) (congrArg nI (nuW_at (i := 3 * q + 0) (by omega))) ?_
                              refine lv_aload_n hx hb dX11_tag_266 rfl (lv_at hl 1 rfl) ?_
                              refine hp_get hx hb hown hS.2.1 hH (F_X11_13.use hS) f_o rfl dX11_tag_267 ?_
                              refine lv_iload hx hb dX11_tag_270 (lv_at hl 0 rfl) ?_
                              refine lv_iconst (v := nI 1) hx hb dX11_tag_272 (by decide) ?_
                              refine lv_iadd hx hb dX11_tag_273 ?_
                              refine hp_eqi (z := nI (((10 * (n + 1)) + (3 * q)) + 1)) (nI_add _ _) ?_
                              refine hp_ialdN hx hb hS.ai hH f_2 (by omega) (by omega) dX11_tag_274 ?_
                              refine hp_eqi (z := nI (nbN a b c1 (3 * q + 1))) (congrArg nI (nuW_at (i := 3 * q + 1) (by omega))) ?_
                              refine lv_aload_n hx hb dX11_tag_275 rfl (lv_at hl 1 rfl) ?_
                              refine hp_get hx hb hown hS.2.1 hH (F_X11_13.use hS) f_o rfl dX11_tag_276 ?_
                              refine lv_iload hx hb dX11_tag_279 (lv_at hl 0 rfl) ?_
                              refine lv_iconst (v := nI 2) hx hb dX11_tag_281 (by decide) ?_
                              refine lv_iadd hx hb dX11_tag_282 ?_
                              refine hp_eqi (z := nI (((10 * (n + 1)) + (3 * q)) + 2)) (nI_add _ _) ?_
                              refine hp_ialdN hx hb hS.ai hH f_2 (by omega) (by omega) dX11_tag_283 ?_
                              refine hp_eqi (z := nI (nbN a b c1 (3 * q + 2))) (congrArg nI (nuW_at (i := 3 * q + 2) (by omega))) ?_
                              have hx9 := nbN_lt a b c1 (3 * q + 0)
                              have hx9 := nbN_lt a b c1 (3 * q + 1)
                              have hx9 := nbN_lt a b c1 (3 * q + 2)
                              refine hp_kvm (hp_runV (As := [.int (nI (n + 1)), .int (nI q), .int (nI 136), .int (nI (nbN a b c1 (3 * q + 0))), .int (nI (nbN a b c1 (3 * q + 1))), .int (nI (nbN a b c1 (3 * q + 2)))]) (rest := []) hx hb hml hown hS hH (c_X11_show l X (t := n + 1) (at0 := q) (a := 136) (b := nbN a b c1 (3 * q + 0)) (c1 := nbN a b c1 (3 * q + 1)) (d1 := nbN a b c1 (3 * q + 2)) (by omega) (by omega) (by decide) (nbN_lt _ _ _ _) (nbN_lt _ _ _ _) (nbN_lt _ _ _ _) f_o f_6) M_X11_71 I_X11_show V_X11_show (ci := 7) rfl rfl f_o rfl hl.1 rfl (Nat.le_of_ble_eq_true rfl) dX11_tag_284 ⟨Nat.le_of_ble_eq_true rfl, Nat.le_of_ble_eq_true rfl⟩ ⟨Nat.le_of_ble_eq_true rfl, Nat.le_of_ble_eq_true rfl⟩) hH (fun μ1 H locs hp hH => ?_)
                              obtain ⟨fz0, fe⟩ := hp
                              have f_o := (fe.at0 (by decide)).trans f_o
                              have f_1 := (fe.at 1 (by decide)).trans f_1
                              have f_2 := (fe.at 2 (by decide)).trans f_2
                              have f_3 := (fe.at 3 (by decide)).trans f_3
                              have f_4 := (fe.at 4 (by decide)).trans f_4
                              have f_5 := (fe.at 5 (by decide)).trans f_5
                              have f_6 : μ1 (o + 6) = some (hp_n X 2040 (shW sh3 (120 * (n + 1) + 40 * q) (shV (shQ 136 (nbN a b c1 (3 * q + 0)) (nbN a b c1 (3 * q + 1)) (nbN a b c1 (3 * q + 2)))) 40)) := fz0
                              have fr := hp_eqM.tr fe fr (by decide)
                              clear fe fz0
                              refine lv_goto (tgt := 332) hx hb dX11_tag_287 (by decide) ?_
                              refine lv_iinc (v := nI (q + 1)) (lv' := [(8, .int (nI (q + 1))), (9, .int (nI ((10 * (n + 1)) + (3 * q)))), (0, .ref o), (1, .int (nI (3 * lv2 + 1))), (5, .int (nI (n + 1))), (6, .int (nI (10 * (n + 1)))), (7, .int (nI lv2))]) hx hb dX11_tag_332 hl (k := 6) rfl (nI_add _ 1) (by decide) rfl (fun ls hl => ?_)
                              refine lv_goto (tgt := 226) hx hb dX11_tag_335 (by decide) ?_
                              have hV : shA a b c1 lv2 q = shV (shQ 136 (nbN a b c1 (3 * q + 0)) (nbN a b c1 (3 * q + 1)) (nbN a b c1 (3 * q + 2))) := by unfold shA; rw [if_pos (by omega), decide_eq_false (show ¬ q + 1 = lv2 by omega)]; rfl
                              have hA2 : ∀ i, i < q + 1 → ∀ k, k < 40 → (shW sh3 (120 * (n + 1) + 40 * q) (shV (shQ 136 (nbN a b c1 (3 * q + 0)) (nbN a b c1 (3 * q + 1)) (nbN a b c1 (3 * q + 2)))) 40) (120 * (n + 1) + 40 * i + k) = shA a b c1 lv2 i / 2 ^ k % 2 := fun i hi k hk => by
                                by_cases e9 : i = q
                                · subst e9; rw [shW_at hk, hV]
                                · rw [shW_out (by omega)]; exact hA i (by omega) k hk
                              have hO2 : ∀ j, j < 120 * (n + 1) ∨ 120 * (n + 1) + 40 * (q + 1) ≤ j → (shW sh3 (120 * (n + 1) + 40 * q) (shV (shQ 136 (nbN a b c1 (3 * q + 0)) (nbN a b c1 (3 * q + 1)) (nbN a b c1 (3 * q + 2)))) 40) j = sh2 j := fun j hj => by rw [shW_out (by omega)]; exact hO9 j (by omega)
                              exact ih226 (q + 1) (shW sh3 (120 * (n + 1) + 40 * q) (shV (shQ 136 (nbN a b c1 (3 * q + 0)) (nbN a b c1 (3 * q + 1)) (nbN a b c1 (3 * q + 2)))) 40) (by omega) hA2 hO2 (by omega) _ _ _ _ f_o f_1 f_2 f_3 f_4 f_5 f_6 fr hH (lv_sub hl [2, 3, 4, 5, 6, 0] rfl)
                      exact lp_226 ((lv2 - 0) + 1) 0 sh2 (Nat.zero_le _) (fun i hi => absurd hi (Nat.not_lt_zero _)) (fun j _ => rfl) (Nat.lt_succ_self _) _ _ _ _ f_o f_1 f_2 f_3 f_4 f_5 f_6 fr hH (lv_sub hl [3, 4, 8, 2, 1, 0] rfl)
                    · have c_179 : ¬ ((3 * lv2 + 1) ≤ k) := fun z => c_179 ((nI_leI (by omega) (by omega)).mpr z)
                      refine lv_aload_n hx hb dX11_tag_182 rfl (lv_at hl 0 rfl) ?_
                      refine hp_get hx hb hown hS.2.1 hH (F_X11_13.use hS) f_o rfl dX11_tag_183 ?_
                      refine lv_bipush (v := nI 10) hx hb dX11_tag_186 (by decide) ?_
                      refine lv_iload hx hb dX11_tag_188 (lv_at hl 5 rfl) ?_
                      refine lv_imul hx hb dX11_tag_190 ?_
                      refine hp_eqi (z := nI (10 * (n + 1))) (pk_mul _ _) ?_
                      refine lv_iload hx hb dX11_tag_191 (lv_at hl 6 rfl) ?_
                      refine lv_iadd hx hb dX11_tag_193 ?_
                      refine hp_eqi (z := nI ((10 * (n + 1)) + k)) (nI_add _ _) ?_
                      refine lv_aload_n hx hb dX11_tag_194 rfl (lv_at hl 0 rfl) ?_
                      refine lv_iload_n hx hb dX11_tag_195 rfl (lv_at hl 2 rfl) ?_
                      refine lv_iload_n hx hb dX11_tag_196 rfl (lv_at hl 3 rfl) ?_
                      refine lv_iload hx hb dX11_tag_197 (lv_at hl 4 rfl) ?_
                      refine lv_iload hx hb dX11_tag_199 (lv_at hl 6 rfl) ?_
                      refine hp_kip (hp_runV (As := [.int a, .int b, .int c1, .int (nI k)]) (rest := [.int (nI ((10 * (n + 1)) + k)), .ref (o + 2)]) hx hb hml hown hS hH (c_X11_byteFrom l X (k := k) (a := a) (b := b) (c1 := c1) (by omega)) M_X11_63 I_X11_byteFrom V_X11_byteFrom (ci := 7) rfl rfl f_o rfl hl.1 rfl (Nat.le_of_ble_eq_true rfl) dX11_tag_201 ⟨Nat.le_of_ble_eq_true rfl, Nat.le_of_ble_eq_true rfl⟩ ⟨Nat.le_of_ble_eq_true rfl, Nat.le_of_ble_eq_true rfl⟩) hH (fun H locs hH => ?_)
                      have hnb9 := nbN_lt a b c1 (k)
                      refine hp_iastN hx hb hS.ai hH f_2 (by omega) (by omega) dX11_tag_204 (fun H locs μ1 fz fn hH => ?_)
                      have f_o := (fn _ (by omega)).trans f_o
                      have f_1 := (fn _ (by omega)).trans f_1
                      have f_3 := (fn _ (by omega)).trans f_3
                      have f_4 := (fn _ (by omega)).trans f_4
                      have f_5 := (fn _ (by omega)).trans f_5
                      have f_6 := (fn _ (by omega)).trans f_6
                      have f_2 : μ1 (o + 2) = some (hp_n X 170 (setN (nuW Nu (10 * (n + 1)) a b c1 k) ((10 * (n + 1)) + k) (nbN a b c1 (k)))) := fz
                      have fr := hp_eqM.put (k := 2) fr (by decide) fn
                      clear fz fn
                      refine lv_iinc (v := nI (k + 1)) (lv' := [(6, .int (nI (k + 1))), (0, .ref o), (1, .int (nI (3 * lv2 + 1))), (2, .int a), (3, .int b), (4, .int c1), (5, .int (nI (n + 1)))]) hx hb dX11_tag_205 hl (k := 6) rfl (nI_add _ 1) (by decide) rfl (fun ls hl => ?_)
                      refine lv_goto (tgt := 176) hx hb dX11_tag_208 (by decide) ?_
                      have f_2 := f_2.trans (congrArg (fun g => some (hp_n X 170 g)) (show setN (nuW Nu (10 * (n + 1)) a b c1 k) ((10 * (n + 1)) + k) (nbN a b c1 (k)) = nuW Nu (10 * (n + 1)) a b c1 (k + 1) from nuW_s _ _ _ _ _ _))
                      exact ih176 (k + 1) (by omega) (by omega) _ _ _ _ f_o f_1 f_2 f_3 f_4 f_5 f_6 fr hH (lv_sub hl [1, 2, 3, 4, 5, 6, 0] rfl)
                exact lp_176 ((3 * lv2 + 1 - 0) + 1) 0 (Nat.zero_le _) (Nat.lt_succ_self _) _ _ _ _ f_o f_1 f_2 f_3 f_4 f_5 f_6 fr hH (lv_sub hl [2, 3, 4, 5, 6, 1, 0] rfl)
              · have c_143 : n = 16 := (nI_eq (by omega) (by omega)).mp c_143
                exact absurd c_143 (by omega)
            · have c_49 : ¬ (n < (i + 1)) := fun z => c_49 ((nI_ltI (by omega) (by omega)).mpr z)
              refine lv_aload_n hx hb dX11_tag_52 rfl (lv_at hl 0 rfl) ?_
              refine hp_get hx hb hown hS.2.1 hH (F_X11_7.use hS) f_o rfl dX11_tag_53 ?_
              refine lv_iload hx hb dX11_tag_56 (lv_at hl 5 rfl) ?_
              have hZi := hZ17 i (by omega)
              refine hp_ialdN hx hb hS.ai hH f_1 (by omega) (by omega) dX11_tag_58 ?_
              refine lv_iload_n hx hb dX11_tag_59 rfl (lv_at hl 1 rfl) ?_
              refine lv_icmp_ne (tgt := 67) hx hb dX11_tag_60 (by decide) (fun c_60 => ?_) (fun c_60 => ?_)
              · have c_60 : ¬ ((Z (i + 1)) = (3 * lv2 + 1)) := fun z => c_60 ((nI_eq (by omega) (by omega)).mpr z)
                refine lv_iconst (v := nI 0) hx hb dX11_tag_67 (by decide) ?_
                refine lv_istore (lv' := [(6, .int (nI 0)), (0, .ref o), (1, .int (nI (3 * lv2 + 1))), (2, .int a), (3, .int b), (4, .int c1), (5, .int (nI (i + 1)))]) hx hb dX11_tag_68 hl (by decide) rfl (fun ls hl => ?_)
                refine lv_iconst (v := nI 0) hx hb dX11_tag_70 (by decide) ?_
                refine lv_istore (lv' := [(7, .int (nI 0)), (6, .int (nI 0)), (0, .ref o), (1, .int (nI (3 * lv2 + 1))), (2, .int a), (3, .int b), (4, .int c1), (5, .int (nI (i + 1)))]) hx hb dX11_tag_71 hl (by decide) rfl (fun ls hl => ?_)
                have lp_73 : ∀ (kk73 : Nat) (k : Nat) (sm : Bool), (k ≤ 3 * lv2 + 1) → (sm = true → (Z (i + 1) = 3 * lv2 + 1 ∧ ∀ j, j < k → Nu (10 * (i + 1) + j) = nbN a b c1 j)) → (3 * lv2 + 1 - k) < kk73 → ∀ (H : Heap) (locs : List Loc) (ls : Array Slot), hp_w X cls μ nx H locs → lv_has ls 10 [(0, .ref o), (1, .int (nI (3 * lv2 + 1))), (2, .int a), (3, .int b), (4, .int c1), (5, .int (nI (i + 1))), (6, .int (nB sm)), (7, .int (nI k))] → W p l e { frames := 2, cells := 0, slots := 0, locals := 80 } s m [.ref o, .int (nI (3 * lv2 + 1)), .int a, .int b, .int c1].toArray below meth c H locs 0 0 (MQ below (hq_i X (po_i nx (nI (n + 1)) (fun z => z o = some (hp_o 7 [.int (nI (n + 1)), .ref (o + 1), .ref (o + 2), .ref (o + 3), .ref (o + 4), .ref (o + 5), .ref (o + 6), .int (nB on), .int (nI tz), .ref (o + 7), .int (nI se), .ref (o + 8), .ref (o + 9), .int (nI kd), .int (nI kl), .int (nI tc), .ref (o + 10), .int (nI sd), .ref (o + 11), .int (nI hd), .ref (o + 12), .int (nI an), .ref (o + 13), .int (nI fm), .int (nI fo), .ref (o + 14), .ref (o + 15), .int (nI kc), .ref (o + 16)]) ∧ z (o + 1) = some (hp_n X 17 (setN Z (n + 1) (3 * lv2 + 1))) ∧ z (o + 2) = some (hp_n X 170 (nuW Nu (10 * (n + 1)) a b c1 (3 * lv2 + 1))) ∧ z (o + 3) = some (hp_b X 17 (setB G (n + 1) false)) ∧ z (o + 4) = some (hp_n X 17 (setN S (n + 1) (if on = true then 1 else 0))) ∧ z (o + 5) = some (hp_n X 17 (setN L (n + 1) 1)) ∧ ∃ sh9 : Nat → Nat, z (o + 6) = some (hp_n X 2040 sh9) ∧ (∀ i, i < lv2 → ∀ k, k < 40 → sh9 (120 * (n + 1) + 40 * i + k) = shA a b c1 lv2 i / 2 ^ k % 2) ∧ (∀ j, j < 120 * (n + 1) ∨ 120 * (n + 1) + 40 * lv2 ≤ j → sh9 j = sh2 j) ∧ hp_eqM [0, 1, 2, 3, 4, 5, 6] o z μ))) [.ref o, .int (nI (3 * lv2 + 1)), .int a, .int b, .int c1].toArray s 0 0 (hp_A X)) (F0 m 73 ls []) := by
                  intro kk73
                  induction kk73 with
                  | zero =>
                    intro k sm hk hsm hkk73
                    exact absurd hkk73 (Nat.not_lt_zero _)
                  | succ kk73 ih73 =>
                    intro k sm hk hsm hkk73 H locs ls  hH hl
                    refine lv_iload hx hb dX11_tag_73 (lv_at hl 7 rfl) ?_
                    refine lv_iload_n hx hb dX11_tag_75 rfl (lv_at hl 1 rfl) ?_
                    refine lv_icmp_ge (tgt := 123) hx hb dX11_tag_76 (by decide) (fun c_76 => ?_) (fun c_76 => ?_)
                    · have c_76 : (3 * lv2 + 1) ≤ k := (nI_leI (by omega) (by omega)).mp c_76
                      refine lv_iload hx hb dX11_tag_123 (lv_at hl 6 rfl) ?_
                      refine lv_if_eq (tgt := 131) hx hb dX11_tag_125 (by decide) (fun c_125 => ?_) (fun c_125 => ?_)
                      · have c_125 : sm = false := nB_0 c_125
                        refine lv_iinc (v := nI (i + 1 + 1)) (lv' := [(5, .int (nI (i + 1 + 1))), (0, .ref o), (1, .int (nI (3 * lv2 + 1))), (2, .int a), (3, .int b), (4, .int c1), (6, .int (nB sm)), (7, .int (nI k))]) hx hb dX11_tag_131 hl (k := 5) rfl (nI_add _ 1) (by decide) rfl (fun ls hl => ?_)
                        refine lv_goto (tgt := 43) hx hb dX11_tag_134 (by decide) ?_
                        exact ih43 (i + 1) (by omega) (by omega) _ _ _  hH (lv_sub hl [1, 2, 3, 4, 5, 0] rfl)
                      · have c_125 : sm = true := nB_n c_125
                        exact absurd ⟨(hsm c_125).1, fun k9 hk9 => (hsm c_125).2 k9 (by omega)⟩ (hkn i (by omega))
                    · have c_76 : ¬ ((3 * lv2 + 1) ≤ k) := fun z => c_76 ((nI_leI (by omega) (by omega)).mpr z)
                      refine lv_iload hx hb dX11_tag_79 (lv_at hl 6 rfl) ?_
                      refine lv_if_eq (tgt := 114) hx hb dX11_tag_81 (by decide) (fun c_81 => ?_) (fun c_81 => ?_)
                      · have c_81 : sm = false := nB_0 c_81
                        refine lv_iconst (v := nI 0) hx hb dX11_tag_114 (by decide) ?_
                        refine lv_istore (lv' := [(6, .int (nI 0)), (0, .ref o), (1, .int (nI (3 * lv2 + 1))), (2, .int a), (3, .int b), (4, .int c1), (5, .int (nI (i + 1))), (7, .int (nI k))]) hx hb dX11_tag_115 hl (by decide) rfl (fun ls hl => ?_)
                        refine lv_iinc (v := nI (k + 1)) (lv' := [(7, .int (nI (k + 1))), (6, .int (nI 0)), (0, .ref o), (1, .int (nI (3 * lv2 + 1))), (2, .int a), (3, .int b), (4, .int c1), (5, .int (nI (i + 1)))]) hx hb dX11_tag_117 hl (k := 7) rfl (nI_add _ 1) (by decide) rfl (fun ls hl => ?_)
                        refine lv_goto (tgt := 73) hx hb dX11_tag_120 (by decide) ?_
                        exact ih73 (k + 1) false (by omega) (fun q => (nomatch q)) (by omega) _ _ _  hH (lv_sub hl [2, 3, 4, 5, 6, 7, 1, 0] rfl)
                      · have c_81 : sm = true := nB_n c_81
                        refine lv_aload_n hx hb dX11_tag_84 rfl (lv_at hl 0 rfl) ?_
                        refine hp_get hx hb hown hS.2.1 hH (F_X11_13.use hS) f_o rfl dX11_tag_85 ?_
                        refine lv_bipush (v := nI 10) hx hb dX11_tag_88 (by decide) ?_
                        refine lv_iload hx hb dX11_tag_90 (lv_at hl 5 rfl) ?_
                        refine lv_imul hx hb dX11_tag_92 ?_
                        refine hp_eqi (z := nI (10 * (i + 1))) (pk_mul _ _) ?_
                        refine lv_iload hx hb dX11_tag_93 (lv_at hl 7 rfl) ?_
                        refine lv_iadd hx hb dX11_tag_95 ?_
                        refine hp_eqi (z := nI ((10 * (i + 1)) + k)) (nI_add _ _) ?_
                        have hNi := hN170 (10 * (i + 1) + k)
                        refine hp_ialdN hx hb hS.ai hH f_2 (by omega) (by omega) dX11_tag_96 ?_
                        refine lv_aload_n hx hb dX11_tag_97 rfl (lv_at hl 0 rfl) ?_
                        refine lv_iload_n hx hb dX11_tag_98 rfl (lv_at hl 2 rfl) ?_
                        refine lv_iload_n hx hb dX11_tag_99 rfl (lv_at hl 3 rfl) ?_
                        refine lv_iload hx hb dX11_tag_100 (lv_at hl 4 rfl) ?_
                        refine lv_iload hx hb dX11_tag_102 (lv_at hl 7 rfl) ?_
                        refine hp_kip (hp_runV (As := [.int a, .int b, .int c1, .int (nI k)]) (rest := [.int (nI (Nu ((10 * (i + 1)) + k)))]) hx hb hml hown hS hH (c_X11_byteFrom l X (k := k) (a := a) (b := b) (c1 := c1) (by omega)) M_X11_63 I_X11_byteFrom V_X11_byteFrom (ci := 7) rfl rfl f_o rfl hl.1 rfl (Nat.le_of_ble_eq_true rfl) dX11_tag_104 ⟨Nat.le_of_ble_eq_true rfl, Nat.le_of_ble_eq_true rfl⟩ ⟨Nat.le_of_ble_eq_true rfl, Nat.le_of_ble_eq_true rfl⟩) hH (fun H locs hH => ?_)
                        have hnb9 := nbN_lt a b c1 (k)
                        refine lv_icmp_ne (tgt := 114) hx hb dX11_tag_107 (by decide) (fun c_107 => ?_) (fun c_107 => ?_)
                        · have c_107 : ¬ ((Nu ((10 * (i + 1)) + k)) = (nbN a b c1 (k))) := fun z => c_107 ((nI_eq (by omega) (by omega)).mpr z)
                          refine lv_iconst (v := nI 0) hx hb dX11_tag_114 (by decide) ?_
                          refine lv_istore (lv' := [(6, .int (nI 0)), (0, .ref o), (1, .int (nI (3 * lv2 + 1))), (2, .int a), (3, .int b), (4, .int c1), (5, .int (nI (i + 1))), (7, .int (nI k))]) hx hb dX11_tag_115 hl (by decide) rfl (fun ls hl => ?_)
                          refine lv_iinc (v := nI (k + 1)) (lv' := [(7, .int (nI (k + 1))), (6, .int (nI 0)), (0, .ref o), (1, .int (nI (3 * lv2 + 1))), (2, .int a), (3, .int b), (4, .int c1), (5, .int (nI (i + 1)))]) hx hb dX11_tag_117 hl (k := 7) rfl (nI_add _ 1) (by decide) rfl (fun ls hl => ?_)
                          refine lv_goto (tgt := 73) hx hb dX11_tag_120 (by decide) ?_
                          exact ih73 (k + 1) false (by omega) (fun q => (nomatch q)) (by omega) _ _ _  hH (lv_sub hl [2, 3, 4, 5, 6, 7, 1, 0] rfl)
                        · have c_107 : (Nu ((10 * (i + 1)) + k)) = (nbN a b c1 (k)) := (nI_eq (by omega) (by omega)).mp c_107
                          refine lv_iconst (v := nI 1) hx hb dX11_tag_110 (by decide) ?_
                          refine lv_goto (tgt := 115) hx hb dX11_tag_111 (by decide) ?_
                          refine lv_istore (lv' := [(6, .int (nI 1)), (0, .ref o), (1, .int (nI (3 * lv2 + 1))), (2, .int a), (3, .int b), (4, .int c1), (5, .int (nI (i + 1))), (7, .int (nI k))]) hx hb dX11_tag_115 hl (by decide) rfl (fun ls hl => ?_)
                          refine lv_iinc (v := nI (k + 1)) (lv' := [(7, .int (nI (k + 1))), (6, .int (nI 1)), (0, .ref o), (1, .int (nI (3 * lv2 + 1))), (2, .int a), (3, .int b), (4, .int c1), (5, .int (nI (i + 1)))]) hx hb dX11_tag_117 hl (k := 7) rfl (nI_add _ 1) (by decide) rfl (fun ls hl => ?_)
                          refine lv_goto (tgt := 73) hx hb dX11_tag_120 (by decide) ?_
                          exact ih73 (k + 1) true (by omega) (fun _ => ⟨(hsm c_81).1, fun j hj => (Nat.lt_succ_iff_lt_or_eq.mp hj).elim ((hsm c_81).2 j) (fun h => h ▸ c_107)⟩) (by omega) _ _ _  hH (lv_sub hl [2, 3, 4, 5, 6, 7, 1, 0] rfl)
                exact lp_73 ((3 * lv2 + 1 - 0) + 1) 0 false (Nat.zero_le _) (fun q => (nomatch q)) (Nat.lt_succ_self _) _ _ _  hH (lv_sub hl [2, 3, 4, 5, 6, 7, 1, 0] rfl)
              · have c_60 : (Z (i + 1)) = (3 * lv2 + 1) := (nI_eq (by omega) (by omega)).mp c_60
                refine lv_iconst (v := nI 1) hx hb dX11_tag_63 (by decide) ?_
                refine lv_goto (tgt := 68) hx hb dX11_tag_64 (by decide) ?_
                refine lv_istore (lv' := [(6, .int (nI 1)), (0, .ref o), (1, .int (nI (3 * lv2 + 1))), (2, .int a), (3, .int b), (4, .int c1), (5, .int (nI (i + 1)))]) hx hb dX11_tag_68 hl (by decide) rfl (fun ls hl => ?_)
                refine lv_iconst (v := nI 0) hx hb dX11_tag_70 (by decide) ?_
                refine lv_istore (lv' := [(7, .int (nI 0)), (6, .int (nI 1)), (0, .ref o), (1, .int (nI (3 * lv2 + 1))), (2, .int a), (3, .int b), (4, .int c1), (5, .int (nI (i + 1)))]) hx hb dX11_tag_71 hl (by decide) rfl (fun ls hl => ?_)
                have lp_73 : ∀ (kk73 : Nat) (k : Nat) (sm : Bool), (k ≤ 3 * lv2 + 1) → (sm = true → (Z (i + 1) = 3 * lv2 + 1 ∧ ∀ j, j < k → Nu (10 * (i + 1) + j) = nbN a b c1 j)) → (3 * lv2 + 1 - k) < kk73 → ∀ (H : Heap) (locs : List Loc) (ls : Array Slot), hp_w X cls μ nx H locs → lv_has ls 10 [(0, .ref o), (1, .int (nI (3 * lv2 + 1))), (2, .int a), (3, .int b), (4, .int c1), (5, .int (nI (i + 1))), (6, .int (nB sm)), (7, .int (nI k))] → W p l e { frames := 2, cells := 0, slots := 0, locals := 80 } s m [.ref o, .int (nI (3 * lv2 + 1)), .int a, .int b, .int c1].toArray below meth c H locs 0 0 (MQ below (hq_i X (po_i nx (nI (n + 1)) (fun z => z o = some (hp_o 7 [.int (nI (n + 1)), .ref (o + 1), .ref (o + 2), .ref (o + 3), .ref (o + 4), .ref (o + 5), .ref (o + 6), .int (nB on), .int (nI tz), .ref (o + 7), .int (nI se), .ref (o + 8), .ref (o + 9), .int (nI kd), .int (nI kl), .int (nI tc), .ref (o + 10), .int (nI sd), .ref (o + 11), .int (nI hd), .ref (o + 12), .int (nI an), .ref (o + 13), .int (nI fm), .int (nI fo), .ref (o + 14), .ref (o + 15), .int (nI kc), .ref (o + 16)]) ∧ z (o + 1) = some (hp_n X 17 (setN Z (n + 1) (3 * lv2 + 1))) ∧ z (o + 2) = some (hp_n X 170 (nuW Nu (10 * (n + 1)) a b c1 (3 * lv2 + 1))) ∧ z (o + 3) = some (hp_b X 17 (setB G (n + 1) false)) ∧ z (o + 4) = some (hp_n X 17 (setN S (n + 1) (if on = true then 1 else 0))) ∧ z (o + 5) = some (hp_n X 17 (setN L (n + 1) 1)) ∧ ∃ sh9 : Nat → Nat, z (o + 6) = some (hp_n X 2040 sh9) ∧ (∀ i, i < lv2 → ∀ k, k < 40 → sh9 (120 * (n + 1) + 40 * i + k) = shA a b c1 lv2 i / 2 ^ k % 2) ∧ (∀ j, j < 120 * (n + 1) ∨ 120 * (n + 1) + 40 * lv2 ≤ j → sh9 j = sh2 j) ∧ hp_eqM [0, 1, 2, 3, 4, 5, 6] o z μ))) [.ref o, .int (nI (3 * lv2 + 1)), .int a, .int b, .int c1].toArray s 0 0 (hp_A X)) (F0 m 73 ls []) := by
                  intro kk73
                  induction kk73 with
                  | zero =>
                    intro k sm hk hsm hkk73
                    exact absurd hkk73 (Nat.not_lt_zero _)
                  | succ kk73 ih73 =>
                    intro k sm hk hsm hkk73 H locs ls  hH hl
                    refine lv_iload hx hb dX11_tag_73 (lv_at hl 7 rfl) ?_
                    refine lv_iload_n hx hb dX11_tag_75 rfl (lv_at hl 1 rfl) ?_
                    refine lv_icmp_ge (tgt := 123) hx hb dX11_tag_76 (by decide) (fun c_76 => ?_) (fun c_76 => ?_)
                    · have c_76 : (3 * lv2 + 1) ≤ k := (nI_leI (by omega) (by omega)).mp c_76
                      refine lv_iload hx hb dX11_tag_123 (lv_at hl 6 rfl) ?_
                      refine lv_if_eq (tgt := 131) hx hb dX11_tag_125 (by decide) (fun c_125 => ?_) (fun c_125 => ?_)
                      · have c_125 : sm = false := nB_0 c_125
                        refine lv_iinc (v := nI (i + 1 + 1)) (lv' := [(5, .int (nI (i + 1 + 1))), (0, .ref o), (1, .int (nI (3 * lv2 + 1))), (2, .int a), (3, .int b), (4, .int c1), (6, .int (nB sm)), (7, .int (nI k))]) hx hb dX11_tag_131 hl (k := 5) rfl (nI_add _ 1) (by decide) rfl (fun ls hl => ?_)
                        refine lv_goto (tgt := 43) hx hb dX11_tag_134 (by decide) ?_
                        exact ih43 (i + 1) (by omega) (by omega) _ _ _  hH (lv_sub hl [1, 2, 3, 4, 5, 0] rfl)
                      · have c_125 : sm = true := nB_n c_125
                        exact absurd ⟨(hsm c_125).1, fun k9 hk9 => (hsm c_125).2 k9 (by omega)⟩ (hkn i (by omega))
                    · have c_76 : ¬ ((3 * lv2 + 1) ≤ k) := fun z => c_76 ((nI_leI (by omega) (by omega)).mpr z)
                      refine lv_iload hx hb dX11_tag_79 (lv_at hl 6 rfl) ?_
                      refine lv_if_eq (tgt := 114) hx hb dX11_tag_81 (by decide) (fun c_81 => ?_) (fun c_81 => ?_)
                      · have c_81 : sm = false := nB_0 c_81
                        refine lv_iconst (v := nI 0) hx hb dX11_tag_114 (by decide) ?_
                        refine lv_istore (lv' := [(6, .int (nI 0)), (0, .ref o), (1, .int (nI (3 * lv2 + 1))), (2, .int a), (3, .int b), (4, .int c1), (5, .int (nI (i + 1))), (7, .int (nI k))]) hx hb dX11_tag_115 hl (by decide) rfl (fun ls hl => ?_)
                        refine lv_iinc (v := nI (k + 1)) (lv' := [(7, .int (nI (k + 1))), (6, .int (nI 0)), (0, .ref o), (1, .int (nI (3 * lv2 + 1))), (2, .int a), (3, .int b), (4, .int c1), (5, .int (nI (i + 1)))]) hx hb dX11_tag_117 hl (k := 7) rfl (nI_add _ 1) (by decide) rfl (fun ls hl => ?_)
                        refine lv_goto (tgt := 73) hx hb dX11_tag_120 (by decide) ?_
                        exact ih73 (k + 1) false (by omega) (fun q => (nomatch q)) (by omega) _ _ _  hH (lv_sub hl [2, 3, 4, 5, 6, 7, 1, 0] rfl)
                      · have c_81 : sm = true := nB_n c_81
                        refine lv_aload_n hx hb dX11_tag_84 rfl (lv_at hl 0 rfl) ?_
                        refine hp_get hx hb hown hS.2.1 hH (F_X11_13.use hS) f_o rfl dX11_tag_85 ?_
                        refine lv_bipush (v := nI 10) hx hb dX11_tag_88 (by decide) ?_
                        refine lv_iload hx hb dX11_tag_90 (lv_at hl 5 rfl) ?_
                        refine lv_imul hx hb dX11_tag_92 ?_
                        refine hp_eqi (z := nI (10 * (i + 1))) (pk_mul _ _) ?_
                        refine lv_iload hx hb dX11_tag_93 (lv_at hl 7 rfl) ?_
                        refine lv_iadd hx hb dX11_tag_95 ?_
                        refine hp_eqi (z := nI ((10 * (i + 1)) + k)) (nI_add _ _) ?_
                        have hNi := hN170 (10 * (i + 1) + k)
                        refine hp_ialdN hx hb hS.ai hH f_2 (by omega) (by omega) dX11_tag_96 ?_
                        refine lv_aload_n hx hb dX11_tag_97 rfl (lv_at hl 0 rfl) ?_
                        refine lv_iload_n hx hb dX11_tag_98 rfl (lv_at hl 2 rfl) ?_
                        refine lv_iload_n hx hb dX11_tag_99 rfl (lv_at hl 3 rfl) ?_
                        refine lv_iload hx hb dX11_tag_100 (lv_at hl 4 rfl) ?_
                        refine lv_iload hx hb dX11_tag_102 (lv_at hl 7 rfl) ?_
                        refine hp_kip (hp_runV (As := [.int a, .int b, .int c1, .int (nI k)]) (rest := [.int (nI (Nu ((10 * (i + 1)) + k)))]) hx hb hml hown hS hH (c_X11_byteFrom l X (k := k) (a := a) (b := b) (c1 := c1) (by omega)) M_X11_63 I_X11_byteFrom V_X11_byteFrom (ci := 7) rfl rfl f_o rfl hl.1 rfl (Nat.le_of_ble_eq_true rfl) dX11_tag_104 ⟨Nat.le_of_ble_eq_true rfl, Nat.le_of_ble_eq_true rfl⟩ ⟨Nat.le_of_ble_eq_true rfl, Nat.le_of_ble_eq_true rfl⟩) hH (fun H locs hH => ?_)
                        have hnb9 := nbN_lt a b c1 (k)
                        refine lv_icmp_ne (tgt := 114) hx hb dX11_tag_107 (by decide) (fun c_107 => ?_) (fun c_107 => ?_)
                        · have c_107 : ¬ ((Nu ((10 * (i + 1)) + k)) = (nbN a b c1 (k))) := fun z => c_107 ((nI_eq (by omega) (by omega)).mpr z)
                          refine lv_iconst (v := nI 0) hx hb dX11_tag_114 (by decide) ?_
                          refine lv_istore (lv' := [(6, .int (nI 0)), (0, .ref o), (1, .int (nI (3 * lv2 + 1))), (2, .int a), (3, .int b), (4, .int c1), (5, .int (nI (i + 1))), (7, .int (nI k))]) hx hb dX11_tag_115 hl (by decide) rfl (fun ls hl => ?_)
                          refine lv_iinc (v := nI (k + 1)) (lv' := [(7, .int (nI (k + 1))), (6, .int (nI 0)), (0, .ref o), (1, .int (nI (3 * lv2 + 1))), (2, .int a), (3, .int b), (4, .int c1), (5, .int (nI (i + 1)))]) hx hb dX11_tag_117 hl (k := 7) rfl (nI_add _ 1) (by decide) rfl (fun ls hl => ?_)
                          refine lv_goto (tgt := 73) hx hb dX11_tag_120 (by decide) ?_
                          exact ih73 (k + 1) false (by omega) (fun q => (nomatch q)) (by omega) _ _ _  hH (lv_sub hl [2, 3, 4, 5, 6, 7, 1, 0] rfl)
                        · have c_107 : (Nu ((10 * (i + 1)) + k)) = (nbN a b c1 (k)) := (nI_eq (by omega) (by omega)).mp c_107
                          refine lv_iconst (v := nI 1) hx hb dX11_tag_110 (by decide) ?_
                          refine lv_goto (tgt := 115) hx hb dX11_tag_111 (by decide) ?_
                          refine lv_istore (lv' := [(6, .int (nI 1)), (0, .ref o), (1, .int (nI (3 * lv2 + 1))), (2, .int a), (3, .int b), (4, .int c1), (5, .int (nI (i + 1))), (7, .int (nI k))]) hx hb dX11_tag_115 hl (by decide) rfl (fun ls hl => ?_)
                          refine lv_iinc (v := nI (k + 1)) (lv' := [(7, .int (nI (k + 1))), (6, .int (nI 1)), (0, .ref o), (1, .int (nI (3 * lv2 + 1))), (2, .int a), (3, .int b), (4, .int c1), (5, .int (nI (i + 1)))]) hx hb dX11_tag_117 hl (k := 7) rfl (nI_add _ 1) (by decide) rfl (fun ls hl => ?_)
                          refine lv_goto (tgt := 73) hx hb dX11_tag_120 (by decide) ?_
                          exact ih73 (k + 1) true (by omega) (fun _ => ⟨(hsm c_81).1, fun j hj => (Nat.lt_succ_iff_lt_or_eq.mp hj).elim ((hsm c_81).2 j) (fun h => h ▸ c_107)⟩) (by omega) _ _ _  hH (lv_sub hl [2, 3, 4, 5, 6, 7, 1, 0] rfl)
                exact lp_73 ((3 * lv2 + 1 - 0) + 1) 0 true (Nat.zero_le _) (fun _ => ⟨c_60, fun j hj => absurd hj (Nat.not_lt_zero _)⟩) (Nat.lt_succ_self _) _ _ _  hH (lv_sub hl [2, 3, 4, 5, 6, 7, 1, 0] rfl)
        exact lp_43 ((n - 0) + 1) 0 (Nat.zero_le _) (Nat.lt_succ_self _) _ _ _  hH (lv_sub hl [1, 2, 3, 4, 5, 0] rfl)
      · have c_34 : (nbN a b c1 ((3 * lv2 + 1) - 4)) = 136 := (nI_eq (by omega) (by omega)).mp c_34
        exact absurd c_34 hunf
    · have c_8 : ¬ ((3 * lv2 + 1) = 7) := fun z => c_8 ((nI_eq (by omega) (by omega)).mpr z)
      refine lv_iload_n hx hb dX11_tag_11 rfl (lv_at hl 1 rfl) ?_
      refine lv_bipush (v := nI 10) hx hb dX11_tag_12 (by decide) ?_
      refine lv_icmp_eq (tgt := 20) hx hb dX11_tag_14 (by decide) (fun c_14 => ?_) (fun c_14 => ?_)
      · have c_14 : (3 * lv2 + 1) = 10 := (nI_eq (by omega) (by omega)).mp c_14
        refine lv_aload_n hx hb dX11_tag_20 rfl (lv_at hl 0 rfl) ?_
        refine lv_iload_n hx hb dX11_tag_21 rfl (lv_at hl 2 rfl) ?_
        refine lv_iload_n hx hb dX11_tag_22 rfl (lv_at hl 3 rfl) ?_
        refine lv_iload hx hb dX11_tag_23 (lv_at hl 4 rfl) ?_
        refine lv_iload_n hx hb dX11_tag_25 rfl (lv_at hl 1 rfl) ?_
        refine lv_iconst (v := nI 4) hx hb dX11_tag_26 (by decide) ?_
        refine lv_isub hx hb dX11_tag_27 ?_
        refine hp_eqi (z := nI ((3 * lv2 + 1) - 4)) (pk_sub (by omega)) ?_
        refine hp_kip (hp_runV (As := [.int a, .int b, .int c1, .int (nI ((3 * lv2 + 1) - 4))]) (rest := []) hx hb hml hown hS hH (c_X11_byteFrom l X (k := (3 * lv2 + 1) - 4) (a := a) (b := b) (c1 := c1) (by omega)) M_X11_63 I_X11_byteFrom V_X11_byteFrom (ci := 7) rfl rfl f_o rfl hl.1 rfl (Nat.le_of_ble_eq_true rfl) dX11_tag_28 ⟨Nat.le_of_ble_eq_true rfl, Nat.le_of_ble_eq_true rfl⟩ ⟨Nat.le_of_ble_eq_true rfl, Nat.le_of_ble_eq_true rfl⟩) hH (fun H locs hH => ?_)
        have hnb9 := nbN_lt a b c1 ((3 * lv2 + 1) - 4)
        refine lv_sipush (v := nI 136) hx hb dX11_tag_31 (by decide) ?_
        refine lv_icmp_ne (tgt := 40) hx hb dX11_tag_34 (by decide) (fun c_34 => ?_) (fun c_34 => ?_)
        · have c_34 : ¬ ((nbN a b c1 ((3 * lv2 + 1) - 4)) = 136) := fun z => c_34 ((nI_eq (by omega) (by omega)).mpr z)
          refine lv_iconst (v := nI 1) hx hb dX11_tag_40 (by decide) ?_
          refine lv_istore (lv' := [(5, .int (nI 1)), (0, .ref o), (1, .int (nI (3 * lv2 + 1))), (2, .int a), (3, .int b), (4, .int c1)]) hx hb dX11_tag_41 hl (by decide) rfl (fun ls hl => ?_)
          have lp_43 : ∀ (kk43 : Nat) (i : Nat), (i ≤ n) → (n - i) < kk43 → ∀ (H : Heap) (locs : List Loc) (ls : Array Slot), hp_w X cls μ nx H locs → lv_has ls 10 [(0, .ref o), (1, .int (nI (3 * lv2 + 1))), (2, .int a), (3, .int b), (4, .int c1), (5, .int (nI (i + 1)))] → W p l e { frames := 2, cells := 0, slots := 0, locals := 80 } s m [.ref o, .int (nI (3 * lv2 + 1)), .int a, .int b, .int c1].toArray below meth c H locs 0 0 (MQ below (hq_i X (po_i nx (nI (n + 1)) (fun z => z o = some (hp_o 7 [.int (nI (n + 1)), .ref (o + 1), .ref (o + 2), .ref (o + 3), .ref (o + 4), .ref (o + 5), .ref (o + 6), .int (nB on), .int (nI tz), .ref (o + 7), .int (nI se), .ref (o + 8), .ref (o + 9), .int (nI kd), .int (nI kl), .int (nI tc), .ref (o + 10), .int (nI sd), .ref (o + 11), .int (nI hd), .ref (o + 12), .int (nI an), .ref (o + 13), .int (nI fm), .int (nI fo), .ref (o + 14), .ref (o + 15), .int (nI kc), .ref (o + 16)]) ∧ z (o + 1) = some (hp_n X 17 (setN Z (n + 1) (3 * lv2 + 1))) ∧ z (o + 2) = some (hp_n X 170 (nuW Nu (10 * (n + 1)) a b c1 (3 * lv2 + 1))) ∧ z (o + 3) = some (hp_b X 17 (setB G (n + 1) false)) ∧ z (o + 4) = some (hp_n X 17 (setN S (n + 1) (if on = true then 1 else 0))) ∧ z (o + 5) = some (hp_n X 17 (setN L (n + 1) 1)) ∧ ∃ sh9 : Nat → Nat, z (o + 6) = some (hp_n X 2040 sh9) ∧ (∀ i, i < lv2 → ∀ k, k < 40 → sh9 (120 * (n + 1) + 40 * i + k) = shA a b c1 lv2 i / 2 ^ k % 2) ∧ (∀ j, j < 120 * (n + 1) ∨ 120 * (n + 1) + 40 * lv2 ≤ j → sh9 j = sh2 j) ∧ hp_eqM [0, 1, 2, 3, 4, 5, 6] o z μ))) [.ref o, .int (nI (3 * lv2 + 1)), .int a, .int b, .int c1].toArray s 0 0 (hp_A X)) (F0 m 43 ls []) := by
            intro kk43
            induction kk43 with
            | zero =>
              intro i hi hkk43
              exact absurd hkk43 (Nat.not_lt_zero _)
            | succ kk43 ih43 =>
              intro i hi hkk43 H locs ls  hH hl
              refine lv_iload hx hb dX11_tag_43 (lv_at hl 5 rfl) ?_
              refine lv_aload_n hx hb dX11_tag_45 rfl (lv_at hl 0 rfl) ?_
              refine hp_get hx hb hown hS.2.1 hH (F_X11_67.use hS) f_o rfl dX11_tag_46 ?_
              refine lv_icmp_gt (tgt := 137) hx hb dX11_tag_49 (by decide) (fun c_49 => ?_) (fun c_49 => ?_)
              · have c_49 : n < (i + 1) := (nI_ltI (by omega) (by omega)).mp c_49
                refine lv_aload_n hx hb dX11_tag_137 rfl (lv_at hl 0 rfl) ?_
                refine hp_get hx hb hown hS.2.1 hH (F_X11_67.use hS) f_o rfl dX11_tag_138 ?_
                refine lv_bipush (v := nI 16) hx hb dX11_tag_141 (by decide) ?_
                refine lv_icmp_ne (tgt := 149) hx hb dX11_tag_143 (by decide) (fun c_143 => ?_) (fun c_143 => ?_)
                · have c_143 : ¬ (n = 16) := fun z => c_143 ((nI_eq (by omega) (by omega)).mpr z)
                  refine lv_aload_n hx hb dX11_tag_149 rfl (lv_at hl 0 rfl) ?_
                  refine lv_dup hx hb dX11_tag_150 rfl ?_
                  refine hp_get hx hb hown hS.2.1 hH (F_X11_67.use hS) f_o rfl dX11_tag_151 ?_
                  refine lv_iconst (v := nI 1) hx hb dX11_tag_154 (by decide) ?_
                  refine lv_iadd hx hb dX11_tag_155 ?_
                  refine hp_eqi (z := nI (n + 1)) (nI_add _ _) ?_
                  refine hp_put hx hb hown hS.2.1 hH (P_X11_67.use hS) f_o rfl rfl (Nat.le_of_ble_eq_true rfl) dX11_tag_156 (fun H locs μ1 fz fn hH => ?_)
                  have f_1 := (fn _ (by omega)).trans f_1
                  have f_2 := (fn _ (by omega)).trans f_2
                  have f_3 := (fn _ (by omega)).trans f_3
                  have f_4 := (fn _ (by omega)).trans f_4
                  have f_5 := (fn _ (by omega)).trans f_5
                  have f_6 := (fn _ (by omega)).trans f_6
                  have f_o : μ1 o = some (hp_o 7 [.int (nI (n + 1)), .ref (o + 1), .ref (o + 2), .ref (o + 3), .ref (o + 4), .ref (o + 5), .ref (o + 6), .int (nB on), .int (nI tz), .ref (o + 7), .int (nI se), .ref (o + 8), .ref (o + 9), .int (nI kd), .int (nI kl), .int (nI tc), .ref (o + 10), .int (nI sd), .ref (o + 11), .int (nI hd), .ref (o + 12), .int (nI an), .ref (o + 13), .int (nI fm), .int (nI fo), .ref (o + 14), .ref (o + 15), .int (nI kc), .ref (o + 16)]) := fz
                  have fr := hp_eqM.put (k := 0) fr (by decide) fn
                  clear fz fn
                  refine lv_aload_n hx hb dX11_tag_159 rfl (lv_at hl 0 rfl) ?_
                  refine hp_get hx hb hown hS.2.1 hH (F_X11_67.use hS) f_o rfl dX11_tag_160 ?_
                  refine lv_istore (lv' := [(5, .int (nI (n + 1))), (0, .ref o), (1, .int (nI (3 * lv2 + 1))), (2, .int a), (3, .int b), (4, .int c1)]) hx hb dX11_tag_163 hl (by decide) rfl (fun ls hl => ?_)
                  refine lv_aload_n hx hb dX11_tag_165 rfl (lv_at hl 1 rfl) ?_
                  refine hp_get hx hb hown hS.2.1 hH (F_X11_7.use hS) f_o rfl dX11_tag_166 ?_
                  refine lv_iload hx hb dX11_tag_169 (lv_at hl 0 rfl) ?_
                  refine lv_iload_n hx hb dX11_tag_171 rfl (lv_at hl 2 rfl) ?_
                  refine hp_iastN hx hb hS.ai hH f_1 (by omega) (by omega) dX11_tag_172 (fun H locs μ1 fz fn hH => ?_)
                  have f_o := (fn _ (by omega)).trans f_o
                  have f_2 := (fn _ (by omega)).trans f_2
                  have f_3 := (fn _ (by omega)).trans f_3
                  have f_4 := (fn _ (by omega)).trans f_4
                  have f_5 := (fn _ (by omega)).trans f_5
                  have f_6 := (fn _ (by omega)).trans f_6
                  have f_1 : μ1 (o + 1) = some (hp_n X 17 (setN Z (n + 1) (3 * lv2 + 1))) := fz
                  have fr := hp_eqM.put (k := 1) fr (by decide) fn
                  clear fz fn
                  refine lv_iconst (v := nI 0) hx hb dX11_tag_173 (by decide) ?_
                  refine lv_istore (lv' := [(6, .int (nI 0)), (5, .int (nI (n + 1))), (0, .ref o), (1, .int (nI (3 * lv2 + 1))), (2, .int a), (3, .int b), (4, .int c1)]) hx hb dX11_tag_174 hl (by decide) rfl (fun ls hl => ?_)
                  have f_2 := f_2.trans (congrArg (fun g => some (hp_n X 170 g)) (show Nu = nuW Nu (10 * (n + 1)) a b c1 0 from nuW_0 _ _ _ _ _))
                  have lp_176 : ∀ (kk176 : Nat) (k : Nat), (k ≤ 3 * lv2 + 1) → (3 * lv2 + 1 - k) < kk176 → ∀ (μ1 : hp_M) (H : Heap) (locs : List Loc) (ls : Array Slot), (μ1 o = some (hp_o 7 [.int (nI (n + 1)), .ref (o + 1), .ref (o + 2), .ref (o + 3), .ref (o + 4), .ref (o + 5), .ref (o + 6), .int (nB on), .int (nI tz), .ref (o + 7), .int (nI se), .ref (o + 8), .ref (o + 9), .int (nI kd), .int (nI kl), .int (nI tc), .ref (o + 10), .int (nI sd), .ref (o + 11), .int (nI hd), .ref (o + 12), .int (nI an), .ref (o + 13), .int (nI fm), .int (nI fo), .ref (o + 14), .ref (o + 15), .int (nI kc), .ref (o + 16)])) → (μ1 (o + 1) = some (hp_n X 17 (setN Z (n + 1) (3 * lv2 + 1)))) → (μ1 (o + 2) = some (hp_n X 170 (nuW Nu (10 * (n + 1)) a b c1 k))) → (μ1 (o + 3) = some (hp_b X 17 G)) → (μ1 (o + 4) = some (hp_n X 17 S)) → (μ1 (o + 5) = some (hp_n X 17 L)) → (μ1 (o + 6) = some (hp_n X 2040 sh2)) → hp_eqM [0, 1, 2, 3, 4, 5, 6] o μ1 μ → hp_w X cls μ1 nx H locs → lv_has ls 10 [(0, .ref o), (1, .int (nI (3 * lv2 + 1))), (2, .int a), (3, .int b), (4, .int c1), (5, .int (nI (n + 1))), (6, .int (nI k))] → W p l e { frames := 2, cells := 0, slots := 0, locals := 80 } s m [.ref o, .int (nI (3 * lv2 + 1)), .int a, .int b, .int c1].toArray below meth c H locs 0 0 (MQ below (hq_i X (po_i nx (nI (n + 1)) (fun z => z o = some (hp_o 7 [.int (nI (n + 1)), .ref (o + 1), .ref (o + 2), .ref (o + 3), .ref (o + 4), .ref (o + 5), .ref (o + 6), .int (nB on), .int (nI tz), .ref (o + 7), .int (nI se), .ref (o + 8), .ref (o + 9), .int (nI kd), .int (nI kl), .int (nI tc), .ref (o + 10), .int (nI sd), .ref (o + 11), .int (nI hd), .ref (o + 12), .int (nI an), .ref (o + 13), .int (nI fm), .int (nI fo), .ref (o + 14), .ref (o + 15), .int (nI kc), .ref (o + 16)]) ∧ z (o + 1) = some (hp_n X 17 (setN Z (n + 1) (3 * lv2 + 1))) ∧ z (o + 2) = some (hp_n X 170 (nuW Nu (10 * (n + 1)) a b c1 (3 * lv2 + 1))) ∧ z (o + 3) = some (hp_b X 17 (setB G (n + 1) false)) ∧ z (o + 4) = some (hp_n X 17 (setN S (n + 1) (if on = true then 1 else 0))) ∧ z (o + 5) = some (hp_n X 17 (setN L (n + 1) 1)) ∧ ∃ sh9 : Nat → Nat, z (o + 6) = some (hp_n X 2040 sh9) ∧ (∀ i, i < lv2 → ∀ k, k < 40 → sh9 (120 * (n + 1) + 40 * i + k) = shA a b c1 lv2 i / 2 ^ k % 2) ∧ (∀ j, j < 120 * (n + 1) ∨ 120 * (n + 1) + 40 * lv2 ≤ j → sh9 j = sh2 j) ∧ hp_eqM [0, 1, 2, 3, 4, 5, 6] o z μ))) [.ref o, .int (nI (3 * lv2 + 1)), .int a, .int b, .int c1].toArray s 0 0 (hp_A X)) (F0 m 176 ls []) := by
                    intro kk176
                    induction kk176 with
                    | zero =>
                      intro k hk hkk176
                      exact absurd hkk176 (Nat.not_lt_zero _)
                    | succ kk176 ih176 =>
                      intro k hk hkk176 μ1 H locs ls f_o f_1 f_2 f_3 f_4 f_5 f_6 fr hH hl
                      refine lv_iload hx hb dX11_tag_176 (lv_at hl 6 rfl) ?_
                      refine lv_iload_n hx hb dX11_tag_178 rfl (lv_at hl 1 rfl) ?_
                      refine lv_icmp_ge (tgt := 211) hx hb dX11_tag_179 (by decide) (fun c_179 => ?_) (fun c_179 => ?_)
                      · have c_179 : (3 * lv2 + 1) ≤ k := (nI_leI (by omega) (by omega)).mp c_179
                        have ek : k = 3 * lv2 + 1 := by omega
                        have f_2 : μ1 (o + 2) = some (hp_n X 170 (nuW Nu (10 * (n + 1)) a b c1 (3 * lv2 + 1))) := by rw [ek] at f_2; exact f_2
                        refine lv_bipush (v := nI 10) hx hb dX11_tag_211 (by decide) ?_
                        refine lv_iload hx hb dX11_tag_213 (lv_at hl 5 rfl) ?_
                        refine lv_imul hx hb dX11_tag_215 ?_
                        refine hp_eqi (z := nI (10 * (n + 1))) (pk_mul _ _) ?_
                        refine lv_istore (lv' := [(6, .int (nI (10 * (n + 1)))), (0, .ref o), (1, .int (nI (3 * lv2 + 1))), (2, .int a), (3, .int b), (4, .int c1), (5, .int (nI (n + 1)))]) hx hb dX11_tag_216 hl (by decide) rfl (fun ls hl => ?_)
                        refine lv_iload_n hx hb dX11_tag_218 rfl (lv_at hl 2 rfl) ?_
                        refine lv_iconst (v := nI 3) hx hb dX11_tag_219 (by decide) ?_
                        refine lv_idiv hx hb dX11_tag_220 (nI_ne0 (by omega) (by omega)) ?_
                        refine hp_eqi (z := nI ((3 * lv2 + 1) / 3)) (pk_div (by omega) (by omega) (by omega)) ?_
                        refine hp_eqi (z := nI lv2) (congrArg nI (show (3 * lv2 + 1) / 3 = lv2 by omega)) ?_
                        refine lv_istore (lv' := [(7, .int (nI lv2)), (6, .int (nI (10 * (n + 1)))), (0, .ref o), (1, .int (nI (3 * lv2 + 1))), (2, .int a), (3, .int b), (4, .int c1), (5, .int (nI (n + 1)))]) hx hb dX11_tag_221 hl (by decide) rfl (fun ls hl => ?_)
                        refine lv_iconst (v := nI 0) hx hb dX11_tag_223 (by decide) ?_
                        refine lv_istore (lv' := [(8, .int (nI 0)), (7, .int (nI lv2)), (6, .int (nI (10 * (n + 1)))), (0, .ref o), (1, .int (nI (3 * lv2 + 1))), (2, .int a), (3, .int b), (4, .int c1), (5, .int (nI (n + 1)))]) hx hb dX11_tag_224 hl (by decide) rfl (fun ls hl => ?_)
                        have lp_226 : ∀ (kk226 : Nat) (q : Nat) (sh3 : Nat → Nat), (q ≤ lv2) → (∀ i, i < q → ∀ k, k < 40 → sh3 (120 * (n + 1) + 40 * i + k) = shA a b c1 lv2 i / 2 ^ k % 2) → (∀ j, j < 120 * (n + 1) ∨ 120 * (n + 1) + 40 * q ≤ j → sh3 j = sh2 j) → (lv2 - q) < kk226 → ∀ (μ1 : hp_M) (H : Heap) (locs : List Loc) (ls : Array Slot), (μ1 o = some (hp_o 7 [.int (nI (n + 1)), .ref (o + 1), .ref (o + 2), .ref (o + 3), .ref (o + 4), .ref (o + 5), .ref (o + 6), .int (nB on), .int (nI tz), .ref (o + 7), .int (nI se), .ref (o + 8), .ref (o + 9), .int (nI kd), .int (nI kl), .int (nI tc), .ref (o + 10), .int (nI sd), .ref (o + 11), .int (nI hd), .ref (o + 12), .int (nI an), .ref (o + 13), .int (nI fm), .int (nI fo), .ref (o + 14), .ref (o + 15), .int (nI kc), .ref (o + 16)])) → (μ1 (o + 1) = some (hp_n X 17 (setN Z (n + 1) (3 * lv2 + 1)))) → (μ1 (o + 2) = some (hp_n X 170 (nuW Nu (10 * (n + 1)) a b c1 (3 * lv2 + 1)))) → (μ1 (o + 3) = some (hp_b X 17 G)) → (μ1 (o + 4) = some (hp_n X 17 S)) → (μ1 (o + 5) = some (hp_n X 17 L)) → (μ1 (o + 6) = some (hp_n X 2040 sh3)) → hp_eqM [0, 1, 2, 3, 4, 5, 6] o μ1 μ → hp_w X cls μ1 nx H locs → lv_has ls 10 [(0, .ref o), (1, .int (nI (3 * lv2 + 1))), (5, .int (nI (n + 1))), (6, .int (nI (10 * (n + 1)))), (7, .int (nI lv2)), (8, .int (nI q))] → W p l e { frames := 2, cells := 0, slots := 0, locals := 80 } s m [.ref o, .int (nI (3 * lv2 + 1)), .int a, .int b, .int c1].toArray below meth c H locs 0 0 (MQ below (hq_i X (po_i nx (nI (n + 1)) (fun z => z o = some (hp_o 7 [.int (nI (n + 1)), .ref (o + 1), .ref (o + 2), .ref (o + 3), .ref (o + 4), .ref (o + 5), .ref (o + 6), .int (nB on), .int (nI tz), .ref (o + 7), .int (nI se), .ref (o + 8), .ref (o + 9), .int (nI kd), .int (nI kl), .int (nI tc), .ref (o + 10), .int (nI sd), .ref (o + 11), .int (nI hd), .ref (o + 12), .int (nI an), .ref (o + 13), .int (nI fm), .int (nI fo), .ref (o + 14), .ref (o + 15), .int (nI kc), .ref (o + 16)]) ∧ z (o + 1) = some (hp_n X 17 (setN Z (n + 1) (3 * lv2 + 1))) ∧ z (o + 2) = some (hp_n X 170 (nuW Nu (10 * (n + 1)) a b c1 (3 * lv2 + 1))) ∧ z (o + 3) = some (hp_b X 17 (setB G (n + 1) false)) ∧ z (o + 4) = some (hp_n X 17 (setN S (n + 1) (if on = true then 1 else 0))) ∧ z (o + 5) = some (hp_n X 17 (setN L (n + 1) 1)) ∧ ∃ sh9 : Nat → Nat, z (o + 6) = some (hp_n X 2040 sh9) ∧ (∀ i, i < lv2 → ∀ k, k < 40 → sh9 (120 * (n + 1) + 40 * i + k) = shA a b c1 lv2 i / 2 ^ k % 2) ∧ (∀ j, j < 120 * (n + 1) ∨ 120 * (n + 1) + 40 * lv2 ≤ j → sh9 j = sh2 j) ∧ hp_eqM [0, 1, 2, 3, 4, 5, 6] o z μ))) [.ref o, .int (nI (3 * lv2 + 1)), .int a, .int b, .int c1].toArray s 0 0 (hp_A X)) (F0 m 226 ls []) := by
                          intro kk226
                          induction kk226 with
                          | zero =>
                            intro q sh3 hq hA hO9 hkk226
                            exact absurd hkk226 (Nat.not_lt_zero _)
                          | succ kk226 ih226 =>
                            intro q sh3 hq hA hO9 hkk226 μ1 H locs ls f_o f_1 f_2 f_3 f_4 f_5 f_6 fr hH hl
                            refine lv_iload hx hb dX11_tag_226 (lv_at hl 5 rfl) ?_
                            refine lv_iload hx hb dX11_tag_228 (lv_at hl 4 rfl) ?_
                            refine lv_icmp_ge (tgt := 338) hx hb dX11_tag_230 (by decide) (fun c_230 => ?_) (fun c_230 => ?_)
                            · have c_230 : lv2 ≤ q := (nI_leI (by omega) (by omega)).mp c_230
                              refine lv_aload_n hx hb dX11_tag_338 rfl (lv_at hl 0 rfl) ?_
                              refine hp_get hx hb hown hS.2.1 hH (F_X11_16.use hS) f_o rfl dX11_tag_339 ?_
                              refine lv_iload hx hb dX11_tag_342 (lv_at hl 2 rfl) ?_
                              refine lv_iconst (v := nI 0) hx hb dX11_tag_344 (by decide) ?_
                              refine hp_eqi (z := nB false) (by decide) ?_
                              refine hp_zast hx hb hS.ab hH f_3 (by omega) (by omega) dX11_tag_345 (fun H locs μ1 fz fn hH => ?_)
                              have f_o := (fn _ (by omega)).trans f_o
                              have f_1 := (fn _ (by omega)).trans f_1
                              have f_2 := (fn _ (by omega)).trans f_2
                              have f_4 := (fn _ (by omega)).trans f_4
                              have f_5 := (fn _ (by omega)).trans f_5
                              have f_6 := (fn _ (by omega)).trans f_6
                              have f_3 : μ1 (o + 3) = some (hp_b X 17 (setB G (n + 1) false)) := fz
                              have fr := hp_eqM.put (k := 3) fr (by decide) fn
                              clear fz fn
                              refine lv_aload_n hx hb dX11_tag_346 rfl (lv_at hl 0 rfl) ?_
                              refine hp_get hx hb hown hS.2.1 hH (F_X11_20.use hS) f_o rfl dX11_tag_347 ?_
                              refine lv_iload hx hb dX11_tag_350 (lv_at hl 2 rfl) ?_
                              refine lv_aload_n hx hb dX11_tag_352 rfl (lv_at hl 0 rfl) ?_
                              refine hp_get hx hb hown hS.2.1 hH (F_X11_29.use hS) f_o rfl dX11_tag_353 ?_
                              refine lv_if_eq (tgt := 363) hx hb dX11_tag_356 (by decide) (fun c_356 => ?_) (fun c_356 => ?_)
                              · have c_356 : on = false := nB_0 c_356
                                refine lv_iconst (v := nI 0) hx hb dX11_tag_363 (by decide) ?_
                                refine hp_iastN hx hb hS.ai hH f_4 (by omega) (by omega) dX11_tag_364 (fun H locs μ1 fz fn hH => ?_)
                                have f_o := (fn _ (by omega)).trans f_o
                                have f_1 := (fn _ (by omega)).trans f_1
                                have f_2 := (fn _ (by omega)).trans f_2
                                have f_3 := (fn _ (by omega)).trans f_3
                                have f_5 := (fn _ (by omega)).trans f_5
                                have f_6 := (fn _ (by omega)).trans f_6
                                have f_4 : μ1 (o + 4) = some (hp_n X 17 (setN S (n + 1) 0)) := fz
                                have fr := hp_eqM.put (k := 4) fr (by decide) fn
                                clear fz fn
                                refine lv_aload_n hx hb dX11_tag_365 rfl (lv_at hl 0 rfl) ?_
                                refine hp_get hx hb hown hS.2.1 hH (F_X11_23.use hS) f_o rfl dX11_tag_366 ?_
                                refine lv_iload hx hb dX11_tag_369 (lv_at hl 2 rfl) ?_
                                refine lv_iconst (v := nI 1) hx hb dX11_tag_371 (by decide) ?_
                                refine hp_iastN hx hb hS.ai hH f_5 (by omega) (by omega) dX11_tag_372 (fun H locs μ1 fz fn hH => ?_)
                                have f_o := (fn _ (by omega)).trans f_o
                                have f_1 := (fn _ (by omega)).trans f_1
                                have f_2 := (fn _ (by omega)).trans f_2
                                have f_3 := (fn _ (by omega)).trans f_3
                                have f_4 := (fn _ (by omega)).trans f_4
                                have f_6 := (fn _ (by omega)).trans f_6
                                have f_5 : μ1 (o + 5) = some (hp_n X 17 (setN L (n + 1) 1)) := fz
                                have fr := hp_eqM.put (k := 5) fr (by decide) fn
                                clear fz fn
                                refine lv_iload hx hb dX11_tag_373 (lv_at hl 2 rfl) ?_
                                have f_4 := f_4.trans (congrArg (fun g => some (hp_n X 17 g)) (show setN S (n + 1) 0 = setN S (n + 1) (if on = true then 1 else 0) from by rw [if_neg (by rw [c_356]; decide)]))
                                have eq9 : q = lv2 := by omega
                                rw [eq9] at hA hO9
                                exact hp_ri hx hb hr hlocks hS hH (⟨rfl, rfl, f_o, f_1, f_2, f_3, f_4, f_5, sh3, f_6, hA, hO9, fr⟩) dX11_tag_375
                              · have c_356 : on = true := nB_n c_356
                                refine lv_iconst (v := nI 1) hx hb dX11_tag_359 (by decide) ?_
                                refine lv_goto (tgt := 364) hx hb dX11_tag_360 (by decide) ?_
                                refine hp_iastN hx hb hS.ai hH f_4 (by omega) (by omega) dX11_tag_364 (fun H locs μ1 fz fn hH => ?_)
                                have f_o := (fn _ (by omega)).trans f_o
                                have f_1 := (fn _ (by omega)).trans f_1
                                have f_2 := (fn _ (by omega)).trans f_2
                                have f_3 := (fn _ (by omega)).trans f_3
                                have f_5 := (fn _ (by omega)).trans f_5
                                have f_6 := (fn _ (by omega)).trans f_6
                                have f_4 : μ1 (o + 4) = some (hp_n X 17 (setN S (n + 1) 1)) := fz
                                have fr := hp_eqM.put (k := 4) fr (by decide) fn
                                clear fz fn
                                refine lv_aload_n hx hb dX11_tag_365 rfl (lv_at hl 0 rfl) ?_
                                refine hp_get hx hb hown hS.2.1 hH (F_X11_23.use hS) f_o rfl dX11_tag_366 ?_
                                refine lv_iload hx hb dX11_tag_369 (lv_at hl 2 rfl) ?_
                                refine lv_iconst (v := nI 1) hx hb dX11_tag_371 (by decide) ?_
                                refine hp_iastN hx hb hS.ai hH f_5 (by omega) (by omega) dX11_tag_372 (fun H locs μ1 fz fn hH => ?_)
                                have f_o := (fn _ (by omega)).trans f_o
                                have f_1 := (fn _ (by omega)).trans f_1
                                have f_2 := (fn _ (by omega)).trans f_2
                                have f_3 := (fn _ (by omega)).trans f_3
                                have f_4 := (fn _ (by omega)).trans f_4
                                have f_6 := (fn _ (by omega)).trans f_6
                                have f_5 : μ1 (o + 5) = some (hp_n X 17 (setN L (n + 1) 1)) := fz
                                have fr := hp_eqM.put (k := 5) fr (by decide) fn
                                clear fz fn
                                refine lv_iload hx hb dX11_tag_373 (lv_at hl 2 rfl) ?_
                                have f_4 := f_4.trans (congrArg (fun g => some (hp_n X 17 g)) (show setN S (n + 1) 1 = setN S (n + 1) (if on = true then 1 else 0) from by rw [if_pos c_356]))
                                have eq9 : q = lv2 := by omega
                                rw [eq9] at hA hO9
                                exact hp_ri hx hb hr hlocks hS hH (⟨rfl, rfl, f_o, f_1, f_2, f_3, f_4, f_5, sh3, f_6, hA, hO9, fr⟩) dX11_tag_375
                            · have c_230 : ¬ (lv2 ≤ q) := fun z => c_230 ((nI_leI (by omega) (by omega)).mpr z)
                              refine lv_iload hx hb dX11_tag_233 (lv_at hl 3 rfl) ?_
                              refine lv_iconst (v := nI 3) hx hb dX11_tag_235 (by decide) ?_
                              refine lv_iload hx hb dX11_tag_236 (lv_at hl 5 rfl) ?_
                              refine lv_imul hx hb dX11_tag_238 ?_
                              refine hp_eqi (z := nI (3 * q)) (pk_mul _ _) ?_
                              refine lv_iadd hx hb dX11_tag_239 ?_
                              refine hp_eqi (z := nI ((10 * (n + 1)) + (3 * q))) (nI_add _ _) ?_
                              refine lv_istore (lv' := [(9, .int (nI ((10 * (n + 1)) + (3 * q)))), (0, .ref o), (1, .int (nI (3 * lv2 + 1))), (5, .int (nI (n + 1))), (6, .int (nI (10 * (n + 1)))), (7, .int (nI lv2)), (8, .int (nI q))]) hx hb dX11_tag_240 hl (by decide) rfl (fun ls hl => ?_)
                              refine lv_iload hx hb dX11_tag_242 (lv_at hl 6 rfl) ?_
                              refine lv_iconst (v := nI 1) hx hb dX11_tag_244 (by decide) ?_
                              refine lv_iadd hx hb dX11_tag_245 ?_
                              refine hp_eqi (z := nI (q + 1)) (nI_add _ _) ?_
                              refine lv_iload hx hb dX11_tag_246 (lv_at hl 5 rfl) ?_
                              refine lv_icmp_ge (tgt := 290) hx hb dX11_tag_248 (by decide) (fun c_248 => ?_) (fun c_248 => ?_)
                              · have c_248 : lv2 ≤ (q + 1) := (nI_leI (by omega) (by omega)).mp c_248
                                refine lv_aload_n hx hb dX11_tag_290 rfl (lv_at hl 1 rfl) ?_
                                refine lv_iload hx hb dX11_tag_291 (lv_at hl 3 rfl) ?_
                                refine lv_iload hx hb dX11_tag_293 (lv_at hl 6 rfl) ?_
                                refine lv_aload_n hx hb dX11_tag_295 rfl (lv_at hl 1 rfl) ?_
                                refine hp_get hx hb hown hS.2.1 hH (F_X11_13.use hS) f_o rfl dX11_tag_296 ?_
                                refine lv_iload hx hb dX11_tag_299 (lv_at hl 0 rfl) ?_
                                refine hp_ialdN hx hb hS.ai hH f_2 (by omega) (by omega) dX11_tag_301 ?_
                                refine hp_eqi (z := nI (nbN a b c1 (3 * q + 0))) (congrArg nI (nuW_at (i := 3 * q + 0) (by omega))) ?_
                                refine lv_aload_n hx hb dX11_tag_302 rfl (lv_at hl 1 rfl) ?_
                                refine hp_get hx hb hown hS.2.1 hH (F_X11_13.use hS) f_o rfl dX11_tag_303 ?_
                                refine lv_iload hx hb dX11_tag_306 (lv_at hl 0 rfl) ?_
                                refine lv_iconst (v := nI 1) hx hb dX11_tag_308 (by decide) ?_
                                refine lv_iadd hx hb dX11_tag_309 ?_
                                refine hp_eqi (z := nI (((10 * (n + 1)) + (3 * q)) + 1)) (nI_add _ _) ?_
                                refine hp_ialdN hx hb hS.ai hH f_2 (by omega) (by omega) dX11_tag_310 ?_
                                refine hp_eqi (z := nI (nbN a b c1 (3 * q + 1))) (congrArg nI (nuW_at (i := 3 * q + 1) (by omega))) ?_
                                refine lv_aload_n hx hb dX11_tag_311 rfl (lv_at hl 1 rfl) ?_
                                refine hp_get hx hb hown hS.2.1 hH (F_X11_13.use hS) f_o rfl dX11_tag_312 ?_
                                refine lv_iload hx hb dX11_tag_315 (lv_at hl 0 rfl) ?_
                                refine lv_iconst (v := nI 2) hx hb dX11_tag_317 (by decide) ?_
                                refine lv_iadd hx hb dX11_tag_318 ?_
                                refine hp_eqi (z := nI (((10 * (n + 1)) + (3 * q)) + 2)) (nI_add _ _) ?_
                                refine hp_ialdN hx hb hS.ai hH f_2 (by omega) (by omega) dX11_tag_319 ?_
                                refine hp_eqi (z := nI (nbN a b c1 (3 * q + 2))) (congrArg nI (nuW_at (i := 3 * q + 2) (by omega))) ?_
                                refine lv_aload_n hx hb dX11_tag_320 rfl (lv_at hl 1 rfl) ?_
                                refine hp_get hx hb hown hS.2.1 hH (F_X11_13.use hS) f_o rfl dX11_tag_321 ?_
                                refine lv_iload hx hb dX11_tag_324 (lv_at hl 0 rfl) ?_
                                refine lv_iconst (v := nI 3) hx hb dX11_tag_326 (by decide) ?_
                                refine lv_iadd hx hb dX11_tag_327 ?_
                                refine hp_eqi (z := nI (((10 * (n + 1)) + (3 * q)) + 3)) (nI_add _ _) ?_
                                refine hp_ialdN hx hb hS.ai hH f_2 (by omega) (by omega) dX11_tag_328 ?_
                                refine hp_eqi (z := nI (nbN a b c1 (3 * q + 3))) (congrArg nI (nuW_at (i := 3 * q + 3) (by omega))) ?_
                                have hx9 := nbN_lt a b c1 (3 * q + 0)
                                have hx9 := nbN_lt a b c1 (3 * q + 1)
                                have hx9 := nbN_lt a b c1 (3 * q + 2)
                                have hx9 := nbN_lt a b c1 (3 * q + 3)
                                refine hp_kvm (hp_runV (As := [.int (nI (n + 1)), .int (nI q), .int (nI (nbN a b c1 (3 * q + 0))), .int (nI (nbN a b c1 (3 * q + 1))), .int (nI (nbN a b c1 (3 * q + 2))), .int (nI (nbN a b c1 (3 * q + 3)))]) (rest := []) hx hb hml hown hS hH (c_X11_show l X (t := n + 1) (at0 := q) (a := nbN a b c1 (3 * q + 0)) (b := nbN a b c1 (3 * q + 1)) (c1 := nbN a b c1 (3 * q + 2)) (d1 := nbN a b c1 (3 * q + 3)) (by omega) (by omega) (nbN_lt _ _ _ _) (nbN_lt _ _ _ _) (nbN_lt _ _ _ _) (nbN_lt _ _ _ _) f_o f_6) M_X11_71 I_X11_show V_X11_show (ci := 7) rfl rfl f_o rfl hl.1 rfl (Nat.le_of_ble_eq_true rfl) dX11_tag_329 ⟨Nat.le_of_ble_eq_true rfl, Nat.le_of_ble_eq_true rfl⟩ ⟨Nat.le_of_ble_eq_true rfl, Nat.le_of_ble_eq_true rfl⟩) hH (fun μ1 H locs hp hH => ?_)
                                obtain ⟨fz0, fe⟩ := hp
                                have f_o := (fe.at0 (by decide)).trans f_o
                                have f_1 := (fe.at 1 (by decide)).trans f_1
                                have f_2 := (fe.at 2 (by decide)).trans f_2
                                have f_3 := (fe.at 3 (by decide)).trans f_3
                                have f_4 := (fe.at 4 (by decide)).trans f_4
                                have f_5 := (fe.at 5 (by decide)).trans f_5
                                have f_6 : μ1 (o + 6) = some (hp_n X 2040 (shW sh3 (120 * (n + 1) + 40 * q) (shV (shQ (nbN a b c1 (3 * q + 0)) (nbN a b c1 (3 * q + 1)) (nbN a b c1 (3 * q + 2)) (nbN a b c1 (3 * q + 3)))) 40)) := fz0
                                have fr := hp_eqM.tr fe fr (by decide)
                                clear fe fz0
                                refine lv_iinc (v := nI (q + 1)) (lv' := [(8, .int (nI (q + 1))), (9, .int (nI ((10 * (n + 1)) + (3 * q)))), (0, .ref o), (1, .int (nI (3 * lv2 + 1))), (5, .int (nI (n + 1))), (6, .int (nI (10 * (n + 1)))), (7, .int (nI lv2))]) hx hb dX11_tag_332 hl (k := 6) rfl (nI_add _ 1) (by decide) rfl (fun ls hl => ?_)
                                refine lv_goto (tgt := 226) hx hb dX11_tag_335 (by decide) ?_
                                have hV : shA a b c1 lv2 q = shV (shQ (nbN a b c1 (3 * q + 0)) (nbN a b c1 (3 * q + 1)) (nbN a b c1 (3 * q + 2)) (nbN a b c1 (3 * q + 3))) := by unfold shA; rw [if_pos (by omega), decide_eq_true (show q + 1 = lv2 by omega)]; rfl
                                have hA2 : ∀ i, i < q + 1 → ∀ k, k < 40 → (shW sh3 (120 * (n + 1) + 40 * q) (shV (shQ (nbN a b c1 (3 * q + 0)) (nbN a b c1 (3 * q + 1)) (nbN a b c1 (3 * q + 2)) (nbN a b c1 (3 * q + 3)))) 40) (120 * (n + 1) + 40 * i + k) = shA a b c1 lv2 i / 2 ^ k % 2 := fun i hi k hk => by
                                  by_cases e9 : i = q
                                  · subst e9; rw [shW_at hk, hV]
                                  · rw [shW_out (by omega)]; exact hA i (by omega) k hk
                                have hO2 : ∀ j, j < 120 * (n + 1) ∨ 120 * (n + 1) + 40 * (q + 1) ≤ j → (shW sh3 (120 * (n + 1) + 40 * q) (shV (shQ (nbN a b c1 (3 * q + 0)) (nbN a b c1 (3 * q + 1)) (nbN a b c1 (3 * q + 2)) (nbN a b c1 (3 * q + 3)))) 40) j = sh2 j := fun j hj => by rw [shW_out (by omega)]; exact hO9 j (by omega)
                                exact ih226 (q + 1) (shW sh3 (120 * (n + 1) + 40 * q) (shV (shQ (nbN a b c1 (3 * q + 0)) (nbN a b c1 (3 * q + 1)) (nbN a b c1 (3 * q + 2)) (nbN a b c1 (3 * q + 3)))) 40) (by omega) hA2 hO2 (by omega) _ _ _ _ f_o f_1 f_2 f_3 f_4 f_5 f_6 fr hH (lv_sub hl [2, 3, 4, 5, 6, 0] rfl)
                              · have c_248 : ¬ (lv2 ≤ (q + 1)) := fun z => c_248 ((nI_leI (by omega) (by omega)).mpr z)
                                refine lv_aload_n hx hb dX11_tag_251 rfl (lv_at hl 1 rfl) ?_
                                refine lv_iload hx hb dX11_tag_252 (lv_at hl 3 rfl) ?_
                                refine lv_iload hx hb dX11_tag_254 (lv_at hl 6 rfl) ?_
                                refine lv_sipush (v := nI 136) hx hb dX11_tag_256 (by decide) ?_
                                refine lv_aload_n hx hb dX11_tag_259 rfl (lv_at hl 1 rfl) ?_
                                refine hp_get hx hb hown hS.2.1 hH (F_X11_13.use hS) f_o rfl dX11_tag_260 ?_
                                refine lv_iload hx hb dX11_tag_263 (lv_at hl 0 rfl) ?_
                                refine hp_ialdN hx hb hS.ai hH f_2 (by omega) (by omega) dX11_tag_265 ?_
                                refine hp_eqi (z := nI (nbN a b c1 (3 * q + 0))) (congrArg nI (nuW_at (i := 3 * q + 0) (by omega))) ?_
                                refine lv_aload_n hx hb dX11_tag_266 rfl (lv_at hl 1 rfl) ?_
                                refine hp_get hx hb hown hS.2.1 hH (F_X11_13.use hS) f_o rfl dX11_tag_267 ?_
                                refine lv_iload hx hb dX11_tag_270 (lv_at hl 0 rfl) ?_
                                refine lv_iconst (v := nI 1) hx hb dX11_tag_272 (by decide) ?_
                                refine lv_iadd hx hb dX11_tag_273 ?_
                                refine hp_eqi (z := nI (((10 * (n + 1)) + (3 * q)) + 1)) (nI_add _ _) ?_
                                refine hp_ialdN hx hb hS.ai hH f_2 (by omega) (by omega) dX11_tag_274 ?_
                                refine hp_eqi (z := nI (nbN a b c1 (3 * q + 1))) (congrArg nI (nuW_at (i := 3 * q + 1) (by omega))) ?_
                                refine lv_aload_n hx hb dX11_tag_275 rfl (lv_at hl 1 rfl) ?_
                                refine hp_get hx hb hown hS.2.1 hH (F_X11_13.use hS) f_o rfl dX11_tag_276 ?_
                                refine lv_iload hx hb dX11_tag_279 (lv_at hl 0 rfl) ?_
                                refine lv_iconst (v := nI 2) hx hb dX11_tag_281 (by decide) ?_
                                refine lv_iadd hx hb dX11_tag_282 ?_
                                refine hp_eqi (z := nI (((10 * (n + 1)) + (3 * q)) + 2)) (nI_add _ _) ?_
                                refine hp_ialdN hx hb hS.ai hH f_2 (by omega) (by omega) dX11_tag_283 ?_
                                refine hp_eqi (z := nI (nbN a b c1 (3 * q + 2))) (congrArg nI (nuW_at (i := 3 * q + 2) (by omega))) ?_
                                have hx9 := nbN_lt a b c1 (3 * q + 0)
                                have hx9 := nbN_lt a b c1 (3 * q + 1)
                                have hx9 := nbN_lt a b c1 (3 * q + 2)
                                refine hp_kvm (hp_runV (As := [.int (nI (n + 1)), .int (nI q), .int (nI 136), .int (nI (nbN a b c1 (3 * q + 0))), .int (nI (nbN a b c1 (3 * q + 1))), .int (nI (nbN a b c1 (3 * q + 2)))]) (rest := []) hx hb hml hown hS hH (c_X11_show l X (t := n + 1) (at0 := q) (a := 136) (b := nbN a b c1 (3 * q + 0)) (c1 := nbN a b c1 (3 * q + 1)) (d1 := nbN a b c1 (3 * q + 2)) (by omega) (by omega) (by decide) (nbN_lt _ _ _ _) (nbN_lt _ _ _ _) (nbN_lt _ _ _ _) f_o f_6) M_X11_71 I_X11_show V_X11_show (ci := 7) rfl rfl f_o rfl hl.1 rfl (Nat.le_of_ble_eq_true rfl) dX11_tag_284 ⟨Nat.le_of_ble_eq_true rfl, Nat.le_of_ble_eq_true rfl⟩ ⟨Nat.le_of_ble_eq_true rfl, Nat.le_of_ble_eq_true rfl⟩) hH (fun μ1 H locs hp hH => ?_)
                                obtain ⟨fz0, fe⟩ := hp
                                have f_o := (fe.at0 (by decide)).trans f_o
                                have f_1 := (fe.at 1 (by decide)).trans f_1
                                have f_2 := (fe.at 2 (by decide)).trans f_2
                                have f_3 := (fe.at 3 (by decide)).trans f_3
                                have f_4 := (fe.at 4 (by decide)).trans f_4
                                have f_5 := (fe.at 5 (by decide)).trans f_5
                                have f_6 : μ1 (o + 6) = some (hp_n X 2040 (shW sh3 (120 * (n + 1) + 40 * q) (shV (shQ 136 (nbN a b c1 (3 * q + 0)) (nbN a b c1 (3 * q + 1)) (nbN a b c1 (3 * q + 2)))) 40)) := fz0
                                have fr := hp_eqM.tr fe fr (by decide)
                                clear fe fz0
                                refine lv_goto (tgt := 332) hx hb dX11_tag_287 (by decide) ?_
                                refine lv_iinc (v := nI (q + 1)) (lv' := [(8, .int (nI (q + 1))), (9, .int (nI ((10 * (n + 1)) + (3 * q)))), (0, .ref o), (1, .int (nI (3 * lv2 + 1))), (5, .int (nI (n + 1))), (6, .int (nI (10 * (n + 1)))), (7, .int (nI lv2))]) hx hb dX11_tag_332 hl (k := 6) rfl (nI_add _ 1) (by decide) rfl (fun ls hl => ?_)
                                refine lv_goto (tgt := 226) hx hb dX11_tag_335 (by decide) ?_
                                have hV : shA a b c1 lv2 q = shV (shQ 136 (nbN a b c1 (3 * q + 0)) (nbN a b c1 (3 * q + 1)) (nbN a b c1 (3 * q + 2))) := by unfold shA; rw [if_pos (by omega), decide_eq_false (show ¬ q + 1 = lv2 by omega)]; rfl
                                have hA2 : ∀ i, i < q + 1 → ∀ k, k < 40 → (shW sh3 (120 * (n + 1) + 40 * q) (shV (shQ 136 (nbN a b c1 (3 * q + 0)) (nbN a b c1 (3 * q + 1)) (nbN a b c1 (3 * q + 2)))) 40) (120 * (n + 1) + 40 * i + k) = shA a b c1 lv2 i / 2 ^ k % 2 := fun i hi k hk => by
                                  by_cases e9 : i = q
                                  · subst e9; rw [shW_at hk, hV]
                                  · rw [shW_out (by omega)]; exact hA i (by omega) k hk
                                have hO2 : ∀ j, j < 120 * (n + 1) ∨ 120 * (n + 1) + 40 * (q + 1) ≤ j → (shW sh3 (120 * (n + 1) + 40 * q) (shV (shQ 136 (nbN a b c1 (3 * q + 0)) (nbN a b c1 (3 * q + 1)) (nbN a b c1 (3 * q + 2)))) 40) j = sh2 j := fun j hj => by rw [shW_out (by omega)]; exact hO9 j (by omega)
                                exact ih226 (q + 1) (shW sh3 (120 * (n + 1) + 40 * q) (shV (shQ 136 (nbN a b c1 (3 * q + 0)) (nbN a b c1 (3 * q + 1)) (nbN a b c1 (3 * q + 2)))) 40) (by omega) hA2 hO2 (by omega) _ _ _ _ f_o f_1 f_2 f_3 f_4 f_5 f_6 fr hH (lv_sub hl [2, 3, 4, 5, 6, 0] rfl)
                        exact lp_226 ((lv2 - 0) + 1) 0 sh2 (Nat.zero_le _) (fun i hi => absurd hi (Nat.not_lt_zero _)) (fun j _ => rfl) (Nat.lt_succ_self _) _ _ _ _ f_o f_1 f_2 f_3 f_4 f_5 f_6 fr hH (lv_sub hl [3, 4, 8, 2, 1, 0] rfl)
                      · have c_179 : ¬ ((3 * lv2 + 1) ≤ k) := fun z => c_179 ((nI_leI (by omega) (by omega)).mpr z)
                        refine lv_aload_n hx hb dX11_tag_182 rfl (lv_at hl 0 rfl) ?_
                        refine hp_get hx hb hown hS.2.1 hH (F_X11_13.use hS) f_o rfl dX11_tag_183 ?_
                        refine lv_bipush (v := nI 10) hx hb dX11_tag_186 (by decide) ?_
                        refine lv_iload hx hb dX11_tag_188 (lv_at hl 5 rfl) ?_
                        refine lv_imul hx hb dX11_tag_190 ?_
                        refine hp_eqi (z := nI (10 * (n + 1))) (pk_mul _ _) ?_
                        refine lv_iload hx hb dX11_tag_191 (lv_at hl 6 rfl) ?_
                        refine lv_iadd hx hb dX11_tag_193 ?_
                        refine hp_eqi (z := nI ((10 * (n + 1)) + k)) (nI_add _ _) ?_
                        refine lv_aload_n hx hb dX11_tag_194 rfl (lv_at hl 0 rfl) ?_
                        refine lv_iload_n hx hb dX11_tag_195 rfl (lv_at hl 2 rfl) ?_
                        refine lv_iload_n hx hb dX11_tag_196 rfl (lv_at hl 3 rfl) ?_
                        refine lv_iload hx hb dX11_tag_197 (lv_at hl 4 rfl) ?_
                        refine lv_iload hx hb dX11_tag_199 (lv_at hl 6 rfl) ?_
                        refine hp_kip (hp_runV (As := [.int a, .int b, .int c1, .int (nI k)]) (rest := [.int (nI ((10 * (n + 1)) + k)), .ref (o + 2)]) hx hb hml hown hS hH (c_X11_byteFrom l X (k := k) (a := a) (b := b) (c1 := c1) (by omega)) M_X11_63 I_X11_byteFrom V_X11_byteFrom (ci := 7) rfl rfl f_o rfl hl.1 rfl (Nat.le_of_ble_eq_true rfl) dX11_tag_201 ⟨Nat.le_of_ble_eq_true rfl, Nat.le_of_ble_eq_true rfl⟩ ⟨Nat.le_of_ble_eq_true rfl, Nat.le_of_ble_eq_true rfl⟩) hH (fun H locs hH => ?_)
                        have hnb9 := nbN_lt a b c1 (k)
                        refine hp_iastN hx hb hS.ai hH f_2 (by omega) (by omega) dX11_tag_204 (fun H locs μ1 fz fn hH => ?_)
                        have f_o := (fn _ (by omega)).trans f_o
                        have f_1 := (fn _ (by omega)).trans f_1
                        have f_3 := (fn _ (by omega)).trans f_3
                        have f_4 := (fn _ (by omega)).trans f_4
                        have f_5 := (fn _ (by omega)).trans f_5
                        have f_6 := (fn _ (by omega)).trans f_6
                        have f_2 : μ1 (o + 2) = some (hp_n X 170 (setN (nuW Nu (10 * (n + 1)) a b c1 k) ((10 * (n + 1)) + k) (nbN a b c1 (k)))) := fz
                        have fr := hp_eqM.put (k := 2) fr (by decide) fn
                        clear fz fn
                        refine lv_iinc (v := nI (k + 1)) (lv' := [(6, .int (nI (k + 1))), (0, .ref o), (1, .int (nI (3 * lv2 + 1))), (2, .int a), (3, .int b), (4, .int c1), (5, .int (nI (n + 1)))]) hx hb dX11_tag_205 hl (k := 6) rfl (nI_add _ 1) (by decide) rfl (fun ls hl => ?_)
                        refine lv_goto (tgt := 176) hx hb dX11_tag_208 (by decide) ?_
                        have f_2 := f_2.trans (congrArg (fun g => some (hp_n X 170 g)) (show setN (nuW Nu (10 * (n + 1)) a b c1 k) ((10 * (n + 1)) + k) (nbN a b c1 (k)) = nuW Nu (10 * (n + 1)) a b c1 (k + 1) from nuW_s _ _ _ _ _ _))
                        exact ih176 (k + 1) (by omega) (by omega) _ _ _ _ f_o f_1 f_2 f_3 f_4 f_5 f_6 fr hH (lv_sub hl [1, 2, 3, 4, 5, 6, 0] rfl)
                  exact lp_176 ((3 * lv2 + 1 - 0) + 1) 0 (Nat.zero_le _) (Nat.lt_succ_self _) _ _ _ _ f_o f_1 f_2 f_3 f_4 f_5 f_6 fr hH (lv_sub hl [2, 3, 4, 5, 6, 1, 0] rfl)
                · have c_143 : n = 16 := (nI_eq (by omega) (by omega)).mp c_143
                  exact absurd c_143 (by omega)
              · have c_49 : ¬ (n < (i + 1)) := fun z => c_49 ((nI_ltI (by omega) (by omega)).mpr z)
                refine lv_aload_n hx hb dX11_tag_52 rfl (lv_at hl 0 rfl) ?_
                refine hp_get hx hb hown hS.2.1 hH (F_X11_7.use hS) f_o rfl dX11_tag_53 ?_
                refine lv_iload hx hb dX11_tag_56 (lv_at hl 5 rfl) ?_
                have hZi := hZ17 i (by omega)
                refine hp_ialdN hx hb hS.ai hH f_1 (by omega) (by omega) dX11_tag_58 ?_
                refine lv_iload_n hx hb dX11_tag_59 rfl (lv_at hl 1 rfl) ?_
                refine lv_icmp_ne (tgt := 67) hx hb dX11_tag_60 (by decide) (fun c_60 => ?_) (fun c_60 => ?_)
                · have c_60 : ¬ ((Z (i + 1)) = (3 * lv2 + 1)) := fun z => c_60 ((nI_eq (by omega) (by omega)).mpr z)
                  refine lv_iconst (v := nI 0) hx hb dX11_tag_67 (by decide) ?_
                  refine lv_istore (lv' := [(6, .int (nI 0)), (0, .ref o), (1, .int (nI (3 * lv2 + 1))), (2, .int a), (3, .int b), (4, .int c1), (5, .int (nI (i + 1)))]) hx hb dX11_tag_68 hl (by decide) rfl (fun ls hl => ?_)
                  refine lv_iconst (v := nI 0) hx hb dX11_tag_70 (by decide) ?_
                  refine lv_istore (lv' := [(7, .int (nI 0)), (6, .int (nI 0)), (0, .ref o), (1, .int (nI (3 * lv2 + 1))), (2, .int a), (3, .int b), (4, .int c1), (5, .int (nI (i + 1)))]) hx hb dX11_tag_71 hl (by decide) rfl (fun ls hl => ?_)
                  have lp_73 : ∀ (kk73 : Nat) (k : Nat) (sm : Bool), (k ≤ 3 * lv2 + 1) → (sm = true → (Z (i + 1) = 3 * lv2 + 1 ∧ ∀ j, j < k → Nu (10 * (i + 1) + j) = nbN a b c1 j)) → (3 * lv2 + 1 - k) < kk73 → ∀ (H : Heap) (locs : List Loc) (ls : Array Slot), hp_w X cls μ nx H locs → lv_has ls 10 [(0, .ref o), (1, .int (nI (3 * lv2 + 1))), (2, .int a), (3, .int b), (4, .int c1), (5, .int (nI (i + 1))), (6, .int (nB sm)), (7, .int (nI k))] → W p l e { frames := 2, cells := 0, slots := 0, locals := 80 } s m [.ref o, .int (nI (3 * lv2 + 1)), .int a, .int b, .int c1].toArray below meth c H locs 0 0 (MQ below (hq_i X (po_i nx (nI (n + 1)) (fun z => z o = some (hp_o 7 [.int (nI (n + 1)), .ref (o + 1), .ref (o + 2), .ref (o + 3), .ref (o + 4), .ref (o + 5), .ref (o + 6), .int (nB on), .int (nI tz), .ref (o + 7), .int (nI se), .ref (o + 8), .ref (o + 9), .int (nI kd), .int (nI kl), .int (nI tc), .ref (o + 10), .int (nI sd), .ref (o + 11), .int (nI hd), .ref (o + 12), .int (nI an), .ref (o + 13), .int (nI fm), .int (nI fo), .ref (o + 14), .ref (o + 15), .int (nI kc), .ref (o + 16)]) ∧ z (o + 1) = some (hp_n X 17 (setN Z (n + 1) (3 * lv2 + 1))) ∧ z (o + 2) = some (hp_n X 170 (nuW Nu (10 * (n + 1)) a b c1 (3 * lv2 + 1))) ∧ z (o + 3) = some (hp_b X 17 (setB G (n + 1) false)) ∧ z (o + 4) = some (hp_n X 17 (setN S (n + 1) (if on = true then 1 else 0))) ∧ z (o + 5) = some (hp_n X 17 (setN L (n + 1) 1)) ∧ ∃ sh9 : Nat → Nat, z (o + 6) = some (hp_n X 2040 sh9) ∧ (∀ i, i < lv2 → ∀ k, k < 40 → sh9 (120 * (n + 1) + 40 * i + k) = shA a b c1 lv2 i / 2 ^ k % 2) ∧ (∀ j, j < 120 * (n + 1) ∨ 120 * (n + 1) + 40 * lv2 ≤ j → sh9 j = sh2 j) ∧ hp_eqM [0, 1, 2, 3, 4, 5, 6] o z μ))) [.ref o, .int (nI (3 * lv2 + 1)), .int a, .int b, .int c1].toArray s 0 0 (hp_A X)) (F0 m 73 ls []) := by
                    intro kk73
                    induction kk73 with
                    | zero =>
                      intro k sm hk hsm hkk73
                      exact absurd hkk73 (Nat.not_lt_zero _)
                    | succ kk73 ih73 =>
                      intro k sm hk hsm hkk73 H locs ls  hH hl
                      refine lv_iload hx hb dX11_tag_73 (lv_at hl 7 rfl) ?_
                      refine lv_iload_n hx hb dX11_tag_75 rfl (lv_at hl 1 rfl) ?_
                      refine lv_icmp_ge (tgt := 123) hx hb dX11_tag_76 (by decide) (fun c_76 => ?_) (fun c_76 => ?_)
                      · have c_76 : (3 * lv2 + 1) ≤ k := (nI_leI (by omega) (by omega)).mp c_76
                        refine lv_iload hx hb dX11_tag_123 (lv_at hl 6 rfl) ?_
                        refine lv_if_eq (tgt := 131) hx hb dX11_tag_125 (by decide) (fun c_125 => ?_) (fun c_125 => ?_)
                        · have c_125 : sm = false := nB_0 c_125
                          refine lv_iinc (v := nI (i + 1 + 1)) (lv' := [(5, .int (nI (i + 1 + 1))), (0, .ref o), (1, .int (nI (3 * lv2 + 1))), (2, .int a), (3, .int b), (4, .int c1), (6, .int (nB sm)), (7, .int (nI k))]) hx hb dX11_tag_131 hl (k := 5) rfl (nI_add _ 1) (by decide) rfl (fun ls hl => ?_)
                          refine lv_goto (tgt := 43) hx hb dX11_tag_134 (by decide) ?_
                          exact ih43 (i + 1) (by omega) (by omega) _ _ _  hH (lv_sub hl [1, 2, 3, 4, 5, 0] rfl)
                        · have c_125 : sm = true := nB_n c_125
                          exact absurd ⟨(hsm c_125).1, fun k9 hk9 => (hsm c_125).2 k9 (by omega)⟩ (hkn i (by omega))
                      · have c_76 : ¬ ((3 * lv2 + 1) ≤ k) := fun z => c_76 ((nI_leI (by omega) (by omega)).mpr z)
                        refine lv_iload hx hb dX11_tag_79 (lv_at hl 6 rfl) ?_
                        refine lv_if_eq (tgt := 114) hx hb dX11_tag_81 (by decide) (fun c_81 => ?_) (fun c_81 => ?_)
                        · have c_81 : sm = false := nB_0 c_81
                          refine lv_iconst (v := nI 0) hx hb dX11_tag_114 (by decide) ?_
                          refine lv_istore (lv' := [(6, .int (nI 0)), (0, .ref o), (1, .int (nI (3 * lv2 + 1))), (2, .int a), (3, .int b), (4, .int c1), (5, .int (nI (i + 1))), (7, .int (nI k))]) hx hb dX11_tag_115 hl (by decide) rfl (fun ls hl => ?_)
                          refine lv_iinc (v := nI (k + 1)) (lv' := [(7, .int (nI (k + 1))), (6, .int (nI 0)), (0, .ref o), (1, .int (nI (3 * lv2 + 1))), (2, .int a), (3, .int b), (4, .int c1), (5, .int (nI (i + 1)))]) hx hb dX11_tag_117 hl (k := 7) rfl (nI_add _ 1) (by decide) rfl (fun ls hl => ?_)
                          refine lv_goto (tgt := 73) hx hb dX11_tag_120 (by decide) ?_
                          exact ih73 (k + 1) false (by omega) (fun q => (nomatch q)) (by omega) _ _ _  hH (lv_sub hl [2, 3, 4, 5, 6, 7, 1, 0] rfl)
                        · have c_81 : sm = true := nB_n c_81
                          refine lv_aload_n hx hb dX11_tag_84 rfl (lv_at hl 0 rfl) ?_
                          refine hp_get hx hb hown hS.2.1 hH (F_X11_13.use hS) f_o rfl dX11_tag_85 ?_
                          refine lv_bipush (v := nI 10) hx hb dX11_tag_88 (by decide) ?_
                          refine lv_iload hx hb dX11_tag_90 (lv_at hl 5 rfl) ?_
                          refine lv_imul hx hb dX11_tag_92 ?_
                          refine hp_eqi (z := nI (10 * (i + 1))) (pk_mul _ _) ?_
                          refine lv_iload hx hb dX11_tag_93 (lv_at hl 7 rfl) ?_
                          refine lv_iadd hx hb dX11_tag_95 ?_
                          refine hp_eqi (z := nI ((10 * (i + 1)) + k)) (nI_add _ _) ?_
                          have hNi := hN170 (10 * (i + 1) + k)
                          refine hp_ialdN hx hb hS.ai hH f_2 (by omega) (by omega) dX11_tag_96 ?_
                          refine lv_aload_n hx hb dX11_tag_97 rfl (lv_at hl 0 rfl) ?_
                          refine lv_iload_n hx hb dX11_tag_98 rfl (lv_at hl 2 rfl) ?_
                          refine lv_iload_n hx hb dX11_tag_99 rfl (lv_at hl 3 rfl) ?_
                          refine lv_iload hx hb dX11_tag_100 (lv_at hl 4 rfl) ?_
                          refine lv_iload hx hb dX11_tag_102 (lv_at hl 7 rfl) ?_
                          refine hp_kip (hp_runV (As := [.int a, .int b, .int c1, .int (nI k)]) (rest := [.int (nI (Nu ((10 * (i + 1)) + k)))]) hx hb hml hown hS hH (c_X11_byteFrom l X (k := k) (a := a) (b := b) (c1 := c1) (by omega)) M_X11_63 I_X11_byteFrom V_X11_byteFrom (ci := 7) rfl rfl f_o rfl hl.1 rfl (Nat.le_of_ble_eq_true rfl) dX11_tag_104 ⟨Nat.le_of_ble_eq_true rfl, Nat.le_of_ble_eq_true rfl⟩ ⟨Nat.le_of_ble_eq_true rfl, Nat.le_of_ble_eq_true rfl⟩) hH (fun H locs hH => ?_)
                          have hnb9 := nbN_lt a b c1 (k)
                          refine lv_icmp_ne (tgt := 114) hx hb dX11_tag_107 (by decide) (fun c_107 => ?_) (fun c_107 => ?_)
                          · have c_107 : ¬ ((Nu ((10 * (i + 1)) + k)) = (nbN a b c1 (k))) := fun z => c_107 ((nI_eq (by omega) (by omega)).mpr z)
                            refine lv_iconst (v := nI 0) hx hb dX11_tag_114 (by decide) ?_
                            refine lv_istore (lv' := [(6, .int (nI 0)), (0, .ref o), (1, .int (nI (3 * lv2 + 1))), (2, .int a), (3, .int b), (4, .int c1), (5, .int (nI (i + 1))), (7, .int (nI k))]) hx hb dX11_tag_115 hl (by decide) rfl (fun ls hl => ?_)
                            refine lv_iinc (v := nI (k + 1)) (lv' := [(7, .int (nI (k + 1))), (6, .int (nI 0)), (0, .ref o), (1, .int (nI (3 * lv2 + 1))), (2, .int a), (3, .int b), (4, .int c1), (5, .int (nI (i + 1)))]) hx hb dX11_tag_117 hl (k := 7) rfl (nI_add _ 1) (by decide) rfl (fun ls hl => ?_)
                            refine lv_goto (tgt := 73) hx hb dX11_tag_120 (by decide) ?_
                            exact ih73 (k + 1) false (by omega) (fun q => (nomatch q)) (by omega) _ _ _  hH (lv_sub hl [2, 3, 4, 5, 6, 7, 1, 0] rfl)
                          · have c_107 : (Nu ((10 * (i + 1)) + k)) = (nbN a b c1 (k)) := (nI_eq (by omega) (by omega)).mp c_107
                            refine lv_iconst (v := nI 1) hx hb dX11_tag_110 (by decide) ?_
                            refine lv_goto (tgt := 115) hx hb dX11_tag_111 (by decide) ?_
                            refine lv_istore (lv' := [(6, .int (nI 1)), (0, .ref o), (1, .int (nI (3 * lv2 + 1))), (2, .int a), (3, .int b), (4, .int c1), (5, .int (nI (i + 1))), (7, .int (nI k))]) hx hb dX11_tag_115 hl (by decide) rfl (fun ls hl => ?_)
                            refine lv_iinc (v := nI (k + 1)) (lv' := [(7, .int (nI (k + 1))), (6, .int (nI 1)), (0, .ref o), (1, .int (nI (3 * lv2 + 1))), (2, .int a), (3, .int b), (4, .int c1), (5, .int (nI (i + 1)))]) hx hb dX11_tag_117 hl (k := 7) rfl (nI_add _ 1) (by decide) rfl (fun ls hl => ?_)
                            refine lv_goto (tgt := 73) hx hb dX11_tag_120 (by decide) ?_
                            exact ih73 (k + 1) true (by omega) (fun _ => ⟨(hsm c_81).1, fun j hj => (Nat.lt_succ_iff_lt_or_eq.mp hj).elim ((hsm c_81).2 j) (fun h => h ▸ c_107)⟩) (by omega) _ _ _  hH (lv_sub hl [2, 3, 4, 5, 6, 7, 1, 0] rfl)
                  exact lp_73 ((3 * lv2 + 1 - 0) + 1) 0 false (Nat.zero_le _) (fun q => (nomatch q)) (Nat.lt_succ_self _) _ _ _  hH (lv_sub hl [2, 3, 4, 5, 6, 7, 1, 0] rfl)
                · have c_60 : (Z (i + 1)) = (3 * lv2 + 1) := (nI_eq (by omega) (by omega)).mp c_60
                  refine lv_iconst (v := nI 1) hx hb dX11_tag_63 (by decide) ?_
                  refine lv_goto (tgt := 68) hx hb dX11_tag_64 (by decide) ?_
                  refine lv_istore (lv' := [(6, .int (nI 1)), (0, .ref o), (1, .int (nI (3 * lv2 + 1))), (2, .int a), (3, .int b), (4, .int c1), (5, .int (nI (i + 1)))]) hx hb dX11_tag_68 hl (by decide) rfl (fun ls hl => ?_)
                  refine lv_iconst (v := nI 0) hx hb dX11_tag_70 (by decide) ?_
                  refine lv_istore (lv' := [(7, .int (nI 0)), (6, .int (nI 1)), (0, .ref o), (1, .int (nI (3 * lv2 + 1))), (2, .int a), (3, .int b), (4, .int c1), (5, .int (nI (i + 1)))]) hx hb dX11_tag_71 hl (by decide) rfl (fun ls hl => ?_)
                  have lp_73 : ∀ (kk73 : Nat) (k : Nat) (sm : Bool), (k ≤ 3 * lv2 + 1) → (sm = true → (Z (i + 1) = 3 * lv2 + 1 ∧ ∀ j, j < k → Nu (10 * (i + 1) + j) = nbN a b c1 j)) → (3 * lv2 + 1 - k) < kk73 → ∀ (H : Heap) (locs : List Loc) (ls : Array Slot), hp_w X cls μ nx H locs → lv_has ls 10 [(0, .ref o), (1, .int (nI (3 * lv2 + 1))), (2, .int a), (3, .int b), (4, .int c1), (5, .int (nI (i + 1))), (6, .int (nB sm)), (7, .int (nI k))] → W p l e { frames := 2, cells := 0, slots := 0, locals := 80 } s m [.ref o, .int (nI (3 * lv2 + 1)), .int a, .int b, .int c1].toArray below meth c H locs 0 0 (MQ below (hq_i X (po_i nx (nI (n + 1)) (fun z => z o = some (hp_o 7 [.int (nI (n + 1)), .ref (o + 1), .ref (o + 2), .ref (o + 3), .ref (o + 4), .ref (o + 5), .ref (o + 6), .int (nB on), .int (nI tz), .ref (o + 7), .int (nI se), .ref (o + 8), .ref (o + 9), .int (nI kd), .int (nI kl), .int (nI tc), .ref (o + 10), .int (nI sd), .ref (o + 11), .int (nI hd), .ref (o + 12), .int (nI an), .ref (o + 13), .int (nI fm), .int (nI fo), .ref (o + 14), .ref (o + 15), .int (nI kc), .ref (o + 16)]) ∧ z (o + 1) = some (hp_n X 17 (setN Z (n + 1) (3 * lv2 + 1))) ∧ z (o + 2) = some (hp_n X 170 (nuW Nu (10 * (n + 1)) a b c1 (3 * lv2 + 1))) ∧ z (o + 3) = some (hp_b X 17 (setB G (n + 1) false)) ∧ z (o + 4) = some (hp_n X 17 (setN S (n + 1) (if on = true then 1 else 0))) ∧ z (o + 5) = some (hp_n X 17 (setN L (n + 1) 1)) ∧ ∃ sh9 : Nat → Nat, z (o + 6) = some (hp_n X 2040 sh9) ∧ (∀ i, i < lv2 → ∀ k, k < 40 → sh9 (120 * (n + 1) + 40 * i + k) = shA a b c1 lv2 i / 2 ^ k % 2) ∧ (∀ j, j < 120 * (n + 1) ∨ 120 * (n + 1) + 40 * lv2 ≤ j → sh9 j = sh2 j) ∧ hp_eqM [0, 1, 2, 3, 4, 5, 6] o z μ))) [.ref o, .int (nI (3 * lv2 + 1)), .int a, .int b, .int c1].toArray s 0 0 (hp_A X)) (F0 m 73 ls []) := by
                    intro kk73
                    induction kk73 with
                    | zero =>
                      intro k sm hk hsm hkk73
                      exact absurd hkk73 (Nat.not_lt_zero _)
                    | succ kk73 ih73 =>
                      intro k sm hk hsm hkk73 H locs ls  hH hl
                      refine lv_iload hx hb dX11_tag_73 (lv_at hl 7 rfl) ?_
                      refine lv_iload_n hx hb dX11_tag_75 rfl (lv_at hl 1 rfl) ?_
                      refine lv_icmp_ge (tgt := 123) hx hb dX11_tag_76 (by decide) (fun c_76 => ?_) (fun c_76 => ?_)
                      · have c_76 : (3 * lv2 + 1) ≤ k := (nI_leI (by omega) (by omega)).mp c_76
                        refine lv_iload hx hb dX11_tag_123 (lv_at hl 6 rfl) ?_
                        refine lv_if_eq (tgt := 131) hx hb dX11_tag_125 (by decide) (fun c_125 => ?_) (fun c_125 => ?_)
                        · have c_125 : sm = false := nB_0 c_125
                          refine lv_iinc (v := nI (i + 1 + 1)) (lv' := [(5, .int (nI (i + 1 + 1))), (0, .ref o), (1, .int (nI (3 * lv2 + 1))), (2, .int a), (3, .int b), (4, .int c1), (6, .int (nB sm)), (7, .int (nI k))]) hx hb dX11_tag_131 hl (k := 5) rfl (nI_add _ 1) (by decide) rfl (fun ls hl => ?_)
                          refine lv_goto (tgt := 43) hx hb dX11_tag_134 (by decide) ?_
                          exact ih43 (i + 1) (by omega) (by omega) _ _ _  hH (lv_sub hl [1, 2, 3, 4, 5, 0] rfl)
                        · have c_125 : sm = true := nB_n c_125
                          exact absurd ⟨(hsm c_125).1, fun k9 hk9 => (hsm c_125).2 k9 (by omega)⟩ (hkn i (by omega))
                      · have c_76 : ¬ ((3 * lv2 + 1) ≤ k) := fun z => c_76 ((nI_leI (by omega) (by omega)).mpr z)
                        refine lv_iload hx hb dX11_tag_79 (lv_at hl 6 rfl) ?_
                        refine lv_if_eq (tgt := 114) hx hb dX11_tag_81 (by decide) (fun c_81 => ?_) (fun c_81 => ?_)
                        · have c_81 : sm = false := nB_0 c_81
                          refine lv_iconst (v := nI 0) hx hb dX11_tag_114 (by decide) ?_
                          refine lv_istore (lv' := [(6, .int (nI 0)), (0, .ref o), (1, .int (nI (3 * lv2 + 1))), (2, .int a), (3, .int b), (4, .int c1), (5, .int (nI (i + 1))), (7, .int (nI k))]) hx hb dX11_tag_115 hl (by decide) rfl (fun ls hl => ?_)
                          refine lv_iinc (v := nI (k + 1)) (lv' := [(7, .int (nI (k + 1))), (6, .int (nI 0)), (0, .ref o), (1, .int (nI (3 * lv2 + 1))), (2, .int a), (3, .int b), (4, .int c1), (5, .int (nI (i + 1)))]) hx hb dX11_tag_117 hl (k := 7) rfl (nI_add _ 1) (by decide) rfl (fun ls hl => ?_)
                          refine lv_goto (tgt := 73) hx hb dX11_tag_120 (by decide) ?_
                          exact ih73 (k + 1) false (by omega) (fun q => (nomatch q)) (by omega) _ _ _  hH (lv_sub hl [2, 3, 4, 5, 6, 7, 1, 0] rfl)
                        · have c_81 : sm = true := nB_n c_81
                          refine lv_aload_n hx hb dX11_tag_84 rfl (lv_at hl 0 rfl) ?_
                          refine hp_get hx hb hown hS.2.1 hH (F_X11_13.use hS) f_o rfl dX11_tag_85 ?_
                          refine lv_bipush (v := nI 10) hx hb dX11_tag_88 (by decide) ?_
                          refine lv_iload hx hb dX11_tag_90 (lv_at hl 5 rfl) ?_
                          refine lv_imul hx hb dX11_tag_92 ?_
                          refine hp_eqi (z := nI (10 * (i + 1))) (pk_mul _ _) ?_
                          refine lv_iload hx hb dX11_tag_93 (lv_at hl 7 rfl) ?_
                          refine lv_iadd hx hb dX11_tag_95 ?_
                          refine hp_eqi (z := nI ((10 * (i + 1)) + k)) (nI_add _ _) ?_
                          have hNi := hN170 (10 * (i + 1) + k)
                          refine hp_ialdN hx hb hS.ai hH f_2 (by omega) (by omega) dX11_tag_96 ?_
                          refine lv_aload_n hx hb dX11_tag_97 rfl (lv_at hl 0 rfl) ?_
                          refine lv_iload_n hx hb dX11_tag_98 rfl (lv_at hl 2 rfl) ?_
                          refine lv_iload_n hx hb dX11_tag_99 rfl (lv_at hl 3 rfl) ?_
                          refine lv_iload hx hb dX11_tag_100 (lv_at hl 4 rfl) ?_
                          refine lv_iload hx hb dX11_tag_102 (lv_at hl 7 rfl) ?_
                          refine hp_kip (hp_runV (As := [.int a, .int b, .int c1, .int (nI k)]) (rest := [.int (nI (Nu ((10 * (i + 1)) + k)))]) hx hb hml hown hS hH (c_X11_byteFrom l X (k := k) (a := a) (b := b) (c1 := c1) (by omega)) M_X11_63 I_X11_byteFrom V_X11_byteFrom (ci := 7) rfl rfl f_o rfl hl.1 rfl (Nat.le_of_ble_eq_true rfl) dX11_tag_104 ⟨Nat.le_of_ble_eq_true rfl, Nat.le_of_ble_eq_true rfl⟩ ⟨Nat.le_of_ble_eq_true rfl, Nat.le_of_ble_eq_true rfl⟩) hH (fun H locs hH => ?_)
                          have hnb9 := nbN_lt a b c1 (k)
                          refine lv_icmp_ne (tgt := 114) hx hb dX11_tag_107 (by decide) (fun c_107 => ?_) (fun c_107 => ?_)
                          · have c_107 : ¬ ((Nu ((10 * (i + 1)) + k)) = (nbN a b c1 (k))) := fun z => c_107 ((nI_eq (by omega) (by omega)).mpr z)
                            refine lv_iconst (v := nI 0) hx hb dX11_tag_114 (by decide) ?_
                            refine lv_istore (lv' := [(6, .int (nI 0)), (0, .ref o), (1, .int (nI (3 * lv2 + 1))), (2, .int a), (3, .int b), (4, .int c1), (5, .int (nI (i + 1))), (7, .int (nI k))]) hx hb dX11_tag_115 hl (by decide) rfl (fun ls hl => ?_)
                            refine lv_iinc (v := nI (k + 1)) (lv' := [(7, .int (nI (k + 1))), (6, .int (nI 0)), (0, .ref o), (1, .int (nI (3 * lv2 + 1))), (2, .int a), (3, .int b), (4, .int c1), (5, .int (nI (i + 1)))]) hx hb dX11_tag_117 hl (k := 7) rfl (nI_add _ 1) (by decide) rfl (fun ls hl => ?_)
                            refine lv_goto (tgt := 73) hx hb dX11_tag_120 (by decide) ?_
                            exact ih73 (k + 1) false (by omega) (fun q => (nomatch q)) (by omega) _ _ _  hH (lv_sub hl [2, 3, 4, 5, 6, 7, 1, 0] rfl)
                          · have c_107 : (Nu ((10 * (i + 1)) + k)) = (nbN a b c1 (k)) := (nI_eq (by omega) (by omega)).mp c_107
                            refine lv_iconst (v := nI 1) hx hb dX11_tag_110 (by decide) ?_
                            refine lv_goto (tgt := 115) hx hb dX11_tag_111 (by decide) ?_
                            refine lv_istore (lv' := [(6, .int (nI 1)), (0, .ref o), (1, .int (nI (3 * lv2 + 1))), (2, .int a), (3, .int b), (4, .int c1), (5, .int (nI (i + 1))), (7, .int (nI k))]) hx hb dX11_tag_115 hl (by decide) rfl (fun ls hl => ?_)
                            refine lv_iinc (v := nI (k + 1)) (lv' := [(7, .int (nI (k + 1))), (6, .int (nI 1)), (0, .ref o), (1, .int (nI (3 * lv2 + 1))), (2, .int a), (3, .int b), (4, .int c1), (5, .int (nI (i + 1)))]) hx hb dX11_tag_117 hl (k := 7) rfl (nI_add _ 1) (by decide) rfl (fun ls hl => ?_)
                            refine lv_goto (tgt := 73) hx hb dX11_tag_120 (by decide) ?_
                            exact ih73 (k + 1) true (by omega) (fun _ => ⟨(hsm c_81).1, fun j hj => (Nat.lt_succ_iff_lt_or_eq.mp hj).elim ((hsm c_81).2 j) (fun h => h ▸ c_107)⟩) (by omega) _ _ _  hH (lv_sub hl [2, 3, 4, 5, 6, 7, 1, 0] rfl)
                  exact lp_73 ((3 * lv2 + 1 - 0) + 1) 0 true (Nat.zero_le _) (fun _ => ⟨c_60, fun j hj => absurd hj (Nat.not_lt_zero _)⟩) (Nat.lt_succ_self _) _ _ _  hH (lv_sub hl [2, 3, 4, 5, 6, 7, 1, 0] rfl)
          exact lp_43 ((n - 0) + 1) 0 (Nat.zero_le _) (Nat.lt_succ_self _) _ _ _  hH (lv_sub hl [1, 2, 3, 4, 5, 0] rfl)
        · have c_34 : (nbN a b c1 ((3 * lv2 + 1) - 4)) = 136 := (nI_eq (by omega) (by omega)).mp c_34
          exact absurd c_34 hunf
      · have c_14 : ¬ ((3 * lv2 + 1) = 10) := fun z => c_14 ((nI_eq (by omega) (by omega)).mpr z)
        exact absurd c_14 (by omega)
