set_option maxHeartbeats 4000000 in
set_option maxRecDepth 100000 in
theorem c_X11_sendSearch (l : Launch) (X : hp_X) {μ : hp_M} {nx : Nat} {o n tz se kd kl tc sd hd an fm fo kc : Nat} {on : Bool} {sb hbb lv st le : Nat → Nat} {sh : Nat → Nat → Nat} {kn : Nat} {kb : Nat → Nat} (hkb1 : ∀ j, kb j < 2) {L : Nat} (hkb : ∀ j, j < kc → kb j = kn / 2 ^ j % 2) (hL3 : L ≤ 3) (hkc : kc < 40) (h01 : ∀ j, sb j < 2) (hn16 : n ≤ 16) (hlv : ∀ j, j < n → 1 ≤ lv j ∧ lv j ≤ 3) (hst : ∀ j, j < n → st j < 8) (hle : ∀ j, j < n → 1 ≤ le j ∧ le j ≤ lv j) (hoff : on = false → ∀ j, j < n → st j = 0) (hW : RW X μ o n lv st le sh)  (f_o : μ o = some (hp_o 7 [.int (nI n), .ref (o + 1), .ref (o + 2), .ref (o + 3), .ref (o + 4), .ref (o + 5), .ref (o + 6), .int (nB on), .int (nI tz), .ref (o + 7), .int (nI se), .ref (o + 8), .ref (o + 9), .int (nI kd), .int (nI kl), .int (nI tc), .ref (o + 10), .int (nI sd), .ref (o + 11), .int (nI hd), .ref (o + 12), .int (nI an), .ref (o + 13), .int (nI fm), .int (nI fo), .ref (o + 14), .ref (o + 15), .int (nI kc), .ref (o + 16)])) (f_8 : μ (o + 8) = some (hp_n X 160 sb)) (f_12 : μ (o + 12) = some (hp_n X 64 hbb)) (f_16 : μ (o + 16) = some (hp_n X 40 kb)) : Ct l X yX11_sendSearch cX11_sendSearch 3 (none : Option Jvm.ClassFile.FieldType) 5 200 0 0 [.ref o, .int (nI L)] μ nx (hq_v X (po_v nx (fun z => ∃ (kd9 kl9 tc9 sd9 : Nat) (sb9 H9 : Nat → Nat), z o = some (hp_o 7 [.int (nI n), .ref (o + 1), .ref (o + 2), .ref (o + 3), .ref (o + 4), .ref (o + 5), .ref (o + 6), .int (nB on), .int (nI tz), .ref (o + 7), .int (nI (laZ kc)), .ref (o + 8), .ref (o + 9), .int (nI kd9), .int (nI kl9), .int (nI tc9), .ref (o + 10), .int (nI sd9), .ref (o + 11), .int (nI (fN n (laS z0 L kn kc) (laZ kc) lv st le sh)), .ref (o + 12), .int (nI an), .ref (o + 13), .int (nI (fm + 1)), .int (nI fo), .ref (o + 14), .ref (o + 15), .int (nI kc), .ref (o + 16)]) ∧ (∀ j, sb9 j < 2) ∧ z (o + 8) = some (hp_n X 160 sb9) ∧ z (o + 12) = some (hp_n X 64 H9) ∧ RW X z o n lv (fS (laS z0 L kn kc) (laZ kc) lv st le sh) (fL (laS z0 L kn kc) (laZ kc) lv st le sh) sh ∧ (∀ x, x < fN n (laS z0 L kn kc) (laZ kc) lv st le sh → H9 x = digN (fO n (laS z0 L kn kc) (laZ kc) lv st le sh) (fZ n (laS z0 L kn kc) (laZ kc) lv st le sh) x) ∧ hp_eqM [0, 4, 5, 8, 9, 10, 11, 12] o z μ))) := by
  refine hp_met (by decide) (Nat.le_of_ble_eq_true rfl) ?_
  intro p e s m below meth c ls hx hb hml hr hlocks hown hin hS hH hl
  have hl : lv_has ls 3 [(0, .ref o), (1, .int (nI L))] := hl
  have fr : hp_eqM [0, 4, 5, 8, 9, 10, 11, 12] o μ μ := fun _ _ => rfl
  refine lv_aload_n hx hb dX11_sendSearch_0 rfl (lv_at hl 0 rfl) ?_
  refine lv_iconst (v := nI 0) hx hb dX11_sendSearch_1 (by decide) ?_
  refine hp_put hx hb hown hS.2.1 hH (P_X11_104.use hS) f_o rfl rfl (Nat.le_of_ble_eq_true rfl) dX11_sendSearch_2 (fun H locs μ1 fz fn hH => ?_)
  have hW := hW.put 0 fn (by decide)
  have f_8 := (fn _ (by omega)).trans f_8
  have f_12 := (fn _ (by omega)).trans f_12
  have f_16 := (fn _ (by omega)).trans f_16
  have f_o : μ1 o = some (hp_o 7 [.int (nI n), .ref (o + 1), .ref (o + 2), .ref (o + 3), .ref (o + 4), .ref (o + 5), .ref (o + 6), .int (nB on), .int (nI tz), .ref (o + 7), .int (nI 0), .ref (o + 8), .ref (o + 9), .int (nI kd), .int (nI kl), .int (nI tc), .ref (o + 10), .int (nI sd), .ref (o + 11), .int (nI hd), .ref (o + 12), .int (nI an), .ref (o + 13), .int (nI fm), .int (nI fo), .ref (o + 14), .ref (o + 15), .int (nI kc), .ref (o + 16)]) := fz
  have fr := hp_eqM.put (k := 0) fr (by decide) fn
  clear fz fn
  refine lv_aload_n hx hb dX11_sendSearch_5 rfl (lv_at hl 0 rfl) ?_
  refine lv_sipush (v := nI 145) hx hb dX11_sendSearch_6 (by decide) ?_
  refine lv_iconst (v := nI 2) hx hb dX11_sendSearch_9 (by decide) ?_
  refine lv_iload_n hx hb dX11_sendSearch_10 rfl (lv_at hl 1 rfl) ?_
  refine lv_imul hx hb dX11_sendSearch_11 ?_
  refine hp_eqi (z := nI (2 * L)) (pk_mul _ _) ?_
  refine lv_iadd hx hb dX11_sendSearch_12 ?_
  refine hp_eqi (z := nI (145 + (2 * L))) (nI_add _ _) ?_
  refine hp_kvm (hp_runV (As := [.int (nI (145 + (2 * L)))]) (rest := []) hx hb hml hown hS hH (c_X11_put l X (v := 145 + (2 * L)) (by omega) (by omega) f_o f_8) M_X11_154 I_X11_put V_X11_put (ci := 7) rfl rfl f_o rfl hl.1 rfl (Nat.le_of_ble_eq_true rfl) dX11_sendSearch_13 ⟨Nat.le_of_ble_eq_true rfl, Nat.le_of_ble_eq_true rfl⟩ ⟨Nat.le_of_ble_eq_true rfl, Nat.le_of_ble_eq_true rfl⟩) hH (fun μ1 H locs hp hH => ?_)
  obtain ⟨fz0, fz1, fe⟩ := hp
  have hW := hW.keep fe (by decide)
  have f_12 := (fe.at 12 (by decide)).trans f_12
  have f_16 := (fe.at 16 (by decide)).trans f_16
  have f_o : μ1 o = some (hp_o 7 [.int (nI n), .ref (o + 1), .ref (o + 2), .ref (o + 3), .ref (o + 4), .ref (o + 5), .ref (o + 6), .int (nB on), .int (nI tz), .ref (o + 7), .int (nI 9), .ref (o + 8), .ref (o + 9), .int (nI kd), .int (nI kl), .int (nI tc), .ref (o + 10), .int (nI sd), .ref (o + 11), .int (nI hd), .ref (o + 12), .int (nI an), .ref (o + 13), .int (nI fm), .int (nI fo), .ref (o + 14), .ref (o + 15), .int (nI kc), .ref (o + 16)]) := fz0
  have f_8 : μ1 (o + 8) = some (hp_n X 160 (apO sb 0 (145 + 2 * L))) := fz1
  have fr := hp_eqM.tr fe fr (by decide)
  clear fe fz0 fz1
  refine lv_aload_n hx hb dX11_sendSearch_16 rfl (lv_at hl 0 rfl) ?_
  refine lv_bipush (v := nI 16) hx hb dX11_sendSearch_17 (by decide) ?_
  refine lv_iconst (v := nI 2) hx hb dX11_sendSearch_19 (by decide) ?_
  refine lv_aload_n hx hb dX11_sendSearch_20 rfl (lv_at hl 0 rfl) ?_
  refine hp_get hx hb hown hS.2.1 hH (F_X11_157.use hS) f_o rfl dX11_sendSearch_21 ?_
  refine lv_bipush (v := nI 8) hx hb dX11_sendSearch_24 (by decide) ?_
  refine lv_idiv hx hb dX11_sendSearch_26 (nI_ne0 (by omega) (by omega)) ?_
  refine hp_eqi (z := nI (kc / 8)) (pk_div (by omega) (by omega) (by omega)) ?_
  refine lv_iadd hx hb dX11_sendSearch_27 ?_
  refine hp_eqi (z := nI (2 + (kc / 8))) (nI_add _ _) ?_
  refine lv_imul hx hb dX11_sendSearch_28 ?_
  refine hp_eqi (z := nI (16 * (2 + (kc / 8)))) (pk_mul _ _) ?_
  refine lv_aload_n hx hb dX11_sendSearch_29 rfl (lv_at hl 0 rfl) ?_
  refine hp_get hx hb hown hS.2.1 hH (F_X11_157.use hS) f_o rfl dX11_sendSearch_30 ?_
  refine lv_bipush (v := nI 8) hx hb dX11_sendSearch_33 (by decide) ?_
  refine lv_irem hx hb dX11_sendSearch_35 (nI_ne0 (by omega) (by omega)) ?_
  refine hp_eqi (z := nI (kc % 8)) (pk_rem (by omega) (by omega) (by omega)) ?_
  refine lv_iadd hx hb dX11_sendSearch_36 ?_
  refine hp_eqi (z := nI ((16 * (2 + (kc / 8))) + (kc % 8))) (nI_add _ _) ?_
  have hv9 : laV kc < 256 := by unfold laV; omega
  refine hp_eqi (z := nI (laV kc)) (congrArg nI (by unfold laV; omega)) ?_
  refine hp_kvm (hp_runV (As := [.int (nI (laV kc))]) (rest := []) hx hb hml hown hS hH (c_X11_put l X (v := laV kc) (by omega) (by omega) f_o f_8) M_X11_154 I_X11_put V_X11_put (ci := 7) rfl rfl f_o rfl hl.1 rfl (Nat.le_of_ble_eq_true rfl) dX11_sendSearch_37 ⟨Nat.le_of_ble_eq_true rfl, Nat.le_of_ble_eq_true rfl⟩ ⟨Nat.le_of_ble_eq_true rfl, Nat.le_of_ble_eq_true rfl⟩) hH (fun μ1 H locs hp hH => ?_)
  obtain ⟨fz0, fz1, fe⟩ := hp
  have hW := hW.keep fe (by decide)
  have f_12 := (fe.at 12 (by decide)).trans f_12
  have f_16 := (fe.at 16 (by decide)).trans f_16
  have f_o : μ1 o = some (hp_o 7 [.int (nI n), .ref (o + 1), .ref (o + 2), .ref (o + 3), .ref (o + 4), .ref (o + 5), .ref (o + 6), .int (nB on), .int (nI tz), .ref (o + 7), .int (nI (9 * (2 + 0))), .ref (o + 8), .ref (o + 9), .int (nI kd), .int (nI kl), .int (nI tc), .ref (o + 10), .int (nI sd), .ref (o + 11), .int (nI hd), .ref (o + 12), .int (nI an), .ref (o + 13), .int (nI fm), .int (nI fo), .ref (o + 14), .ref (o + 15), .int (nI kc), .ref (o + 16)]) := fz0
  have f_8 : μ1 (o + 8) = some (hp_n X 160 (laK sb L (laV kc) kn 0)) := fz1
  have fr := hp_eqM.tr fe fr (by decide)
  clear fe fz0 fz1
  refine lv_iconst (v := nI 0) hx hb dX11_sendSearch_40 (by decide) ?_
  refine lv_istore_n (lv' := [(2, .int (nI 0)), (0, .ref o), (1, .int (nI L))]) hx hb dX11_sendSearch_41 rfl hl (by decide) rfl (fun ls hl => ?_)
  have lp_42 : ∀ (kk42 : Nat) (k : Nat), (k ≤ kc / 8) → (kc / 8 - k) < kk42 → ∀ (μ1 : hp_M) (H : Heap) (locs : List Loc) (ls : Array Slot), (μ1 o = some (hp_o 7 [.int (nI n), .ref (o + 1), .ref (o + 2), .ref (o + 3), .ref (o + 4), .ref (o + 5), .ref (o + 6), .int (nB on), .int (nI tz), .ref (o + 7), .int (nI (9 * (2 + k))), .ref (o + 8), .ref (o + 9), .int (nI kd), .int (nI kl), .int (nI tc), .ref (o + 10), .int (nI sd), .ref (o + 11), .int (nI hd), .ref (o + 12), .int (nI an), .ref (o + 13), .int (nI fm), .int (nI fo), .ref (o + 14), .ref (o + 15), .int (nI kc), .ref (o + 16)])) → (μ1 (o + 8) = some (hp_n X 160 (laK sb L (laV kc) kn k))) → (μ1 (o + 12) = some (hp_n X 64 hbb)) → (μ1 (o + 16) = some (hp_n X 40 kb)) → (RW X μ1 o n lv st le sh) → hp_eqM [0, 4, 5, 8, 9, 10, 11, 12] o μ1 μ → hp_w X cls μ1 nx H locs → lv_has ls 3 [(0, .ref o), (1, .int (nI L)), (2, .int (nI k))] → W p l e { frames := 5, cells := 0, slots := 0, locals := 200 } s m [.ref o, .int (nI L)].toArray below meth c H locs 0 0 (MQ below (hq_v X (po_v nx (fun z => ∃ (kd9 kl9 tc9 sd9 : Nat) (sb9 H9 : Nat → Nat), z o = some (hp_o 7 [.int (nI n), .ref (o + 1), .ref (o + 2), .ref (o + 3), .ref (o + 4), .ref (o + 5), .ref (o + 6), .int (nB on), .int (nI tz), .ref (o + 7), .int (nI (laZ kc)), .ref (o + 8), .ref (o + 9), .int (nI kd9), .int (nI kl9), .int (nI tc9), .ref (o + 10), .int (nI sd9), .ref (o + 11), .int (nI (fN n (laS z0 L kn kc) (laZ kc) lv st le sh)), .ref (o + 12), .int (nI an), .ref (o + 13), .int (nI (fm + 1)), .int (nI fo), .ref (o + 14), .ref (o + 15), .int (nI kc), .ref (o + 16)]) ∧ (∀ j, sb9 j < 2) ∧ z (o + 8) = some (hp_n X 160 sb9) ∧ z (o + 12) = some (hp_n X 64 H9) ∧ RW X z o n lv (fS (laS z0 L kn kc) (laZ kc) lv st le sh) (fL (laS z0 L kn kc) (laZ kc) lv st le sh) sh ∧ (∀ x, x < fN n (laS z0 L kn kc) (laZ kc) lv st le sh → H9 x = digN (fO n (laS z0 L kn kc) (laZ kc) lv st le sh) (fZ n (laS z0 L kn kc) (laZ kc) lv st le sh) x) ∧ hp_eqM [0, 4, 5, 8, 9, 10, 11, 12] o z μ))) [.ref o, .int (nI L)].toArray s 0 0 (hp_A X)) (F0 m 42 ls []) := by
    intro kk42
    induction kk42 with
    | zero =>
      intro k hk hkk42
      exact absurd hkk42 (Nat.not_lt_zero _)
    | succ kk42 ih42 =>
      intro k hk hkk42 μ1 H locs ls f_o f_8 f_12 f_16 hW fr hH hl
      refine lv_iload_n hx hb dX11_sendSearch_42 rfl (lv_at hl 2 rfl) ?_
      refine lv_aload_n hx hb dX11_sendSearch_43 rfl (lv_at hl 0 rfl) ?_
      refine hp_get hx hb hown hS.2.1 hH (F_X11_157.use hS) f_o rfl dX11_sendSearch_44 ?_
      refine lv_bipush (v := nI 8) hx hb dX11_sendSearch_47 (by decide) ?_
      refine lv_idiv hx hb dX11_sendSearch_49 (nI_ne0 (by omega) (by omega)) ?_
      refine hp_eqi (z := nI (kc / 8)) (pk_div (by omega) (by omega) (by omega)) ?_
      refine lv_icmp_ge (tgt := 68) hx hb dX11_sendSearch_50 (by decide) (fun c_50 => ?_) (fun c_50 => ?_)
      · have c_50 : (kc / 8) ≤ k := (nI_leI (by omega) (by omega)).mp c_50
        refine lv_aload_n hx hb dX11_sendSearch_68 rfl (lv_at hl 0 rfl) ?_
        refine hp_get hx hb hown hS.2.1 hH (F_X11_157.use hS) f_o rfl dX11_sendSearch_69 ?_
        refine lv_bipush (v := nI 8) hx hb dX11_sendSearch_72 (by decide) ?_
        refine lv_idiv hx hb dX11_sendSearch_74 (nI_ne0 (by omega) (by omega)) ?_
        refine hp_eqi (z := nI (kc / 8)) (pk_div (by omega) (by omega) (by omega)) ?_
        refine lv_bipush (v := nI 8) hx hb dX11_sendSearch_75 (by decide) ?_
        refine lv_imul hx hb dX11_sendSearch_77 ?_
        refine hp_eqi (z := nI ((kc / 8) * 8)) (pk_mul _ _) ?_
        refine lv_istore_n (lv' := [(2, .int (nI ((kc / 8) * 8))), (0, .ref o), (1, .int (nI L))]) hx hb dX11_sendSearch_78 rfl hl (by decide) rfl (fun ls hl => ?_)
        have ek : k = kc / 8 := by omega
        have f_8 : μ1 (o + 8) = some (hp_n X 160 (apB (laK sb L (laV kc) kn (kc / 8)) (9 * (2 + kc / 8)) (nI (kn / 2 ^ (8 * (kc / 8)) % 256)) 0)) := by rw [apB_0]; rw [ek] at f_8; exact f_8
        have f_o : μ1 o = some (hp_o 7 [.int (nI n), .ref (o + 1), .ref (o + 2), .ref (o + 3), .ref (o + 4), .ref (o + 5), .ref (o + 6), .int (nB on), .int (nI tz), .ref (o + 7), .int (nI (9 * (2 + kc / 8) + 0)), .ref (o + 8), .ref (o + 9), .int (nI kd), .int (nI kl), .int (nI tc), .ref (o + 10), .int (nI sd), .ref (o + 11), .int (nI hd), .ref (o + 12), .int (nI an), .ref (o + 13), .int (nI fm), .int (nI fo), .ref (o + 14), .ref (o + 15), .int (nI kc), .ref (o + 16)]) := by rw [ek] at f_o; exact f_o
        have hvk : kn / 2 ^ (8 * (kc / 8)) % 256 < 256 := Nat.mod_lt _ (by decide)
        have lp_79 : ∀ (kk79 : Nat) (j : Nat), (j ≤ kc % 8) → (kc % 8 - j) < kk79 → ∀ (μ1 : hp_M) (H : Heap) (locs : List Loc) (ls : Array Slot), (μ1 o = some (hp_o 7 [.int (nI n), .ref (o + 1), .ref (o + 2), .ref (o + 3), .ref (o + 4), .ref (o + 5), .ref (o + 6), .int (nB on), .int (nI tz), .ref (o + 7), .int (nI (9 * (2 + kc / 8) + j)), .ref (o + 8), .ref (o + 9), .int (nI kd), .int (nI kl), .int (nI tc), .ref (o + 10), .int (nI sd), .ref (o + 11), .int (nI hd), .ref (o + 12), .int (nI an), .ref (o + 13), .int (nI fm), .int (nI fo), .ref (o + 14), .ref (o + 15), .int (nI kc), .ref (o + 16)])) → (μ1 (o + 8) = some (hp_n X 160 (apB (laK sb L (laV kc) kn (kc / 8)) (9 * (2 + kc / 8)) (nI (kn / 2 ^ (8 * (kc / 8)) % 256)) j))) → (μ1 (o + 12) = some (hp_n X 64 hbb)) → (μ1 (o + 16) = some (hp_n X 40 kb)) → (RW X μ1 o n lv st le sh) → hp_eqM [0, 4, 5, 8, 9, 10, 11, 12] o μ1 μ → hp_w X cls μ1 nx H locs → lv_has ls 3 [(0, .ref o), (1, .int (nI L)), (2, .int (nI (kc / 8 * 8 + j)))] → W p l e { frames := 5, cells := 0, slots := 0, locals := 200 } s m [.ref o, .int (nI L)].toArray below meth c H locs 0 0 (MQ below (hq_v X (po_v nx (fun z => ∃ (kd9 kl9 tc9 sd9 : Nat) (sb9 H9 : Nat → Nat), z o = some (hp_o 7 [.int (nI n), .ref (o + 1), .ref (o + 2), .ref (o + 3), .ref (o + 4), .ref (o + 5), .ref (o + 6), .int (nB on), .int (nI tz), .ref (o + 7), .int (nI (laZ kc)), .ref (o + 8), .ref (o + 9), .int (nI kd9), .int (nI kl9), .int (nI tc9), .ref (o + 10), .int (nI sd9), .ref (o + 11), .int (nI (fN n (laS z0 L kn kc) (laZ kc) lv st le sh)), .ref (o + 12), .int (nI an), .ref (o + 13), .int (nI (fm + 1)), .int (nI fo), .ref (o + 14), .ref (o + 15), .int (nI kc), .ref (o + 16)]) ∧ (∀ j, sb9 j < 2) ∧ z (o + 8) = some (hp_n X 160 sb9) ∧ z (o + 12) = some (hp_n X 64 H9) ∧ RW X z o n lv (fS (laS z0 L kn kc) (laZ kc) lv st le sh) (fL (laS z0 L kn kc) (laZ kc) lv st le sh) sh ∧ (∀ x, x < fN n (laS z0 L kn kc) (laZ kc) lv st le sh → H9 x = digN (fO n (laS z0 L kn kc) (laZ kc) lv st le sh) (fZ n (laS z0 L kn kc) (laZ kc) lv st le sh) x) ∧ hp_eqM [0, 4, 5, 8, 9, 10, 11, 12] o z μ))) [.ref o, .int (nI L)].toArray s 0 0 (hp_A X)) (F0 m 79 ls []) := by
          intro kk79
          induction kk79 with
          | zero =>
            intro j hj hkk79
            exact absurd hkk79 (Nat.not_lt_zero _)
          | succ kk79 ih79 =>
            intro j hj hkk79 μ1 H locs ls f_o f_8 f_12 f_16 hW fr hH hl
            refine lv_iload_n hx hb dX11_sendSearch_79 rfl (lv_at hl 2 rfl) ?_
            refine lv_aload_n hx hb dX11_sendSearch_80 rfl (lv_at hl 0 rfl) ?_
            refine hp_get hx hb hown hS.2.1 hH (F_X11_157.use hS) f_o rfl dX11_sendSearch_81 ?_
            refine lv_icmp_ge (tgt := 118) hx hb dX11_sendSearch_84 (by decide) (fun c_84 => ?_) (fun c_84 => ?_)
            · have c_84 : kc ≤ (kc / 8 * 8 + j) := (nI_leI (by omega) (by omega)).mp c_84
              have ej : j = kc % 8 := by omega
              have f_8 : μ1 (o + 8) = some (hp_n X 160 (laS sb L kn kc)) := by rw [ej] at f_8; exact f_8
              have f_o : μ1 o = some (hp_o 7 [.int (nI n), .ref (o + 1), .ref (o + 2), .ref (o + 3), .ref (o + 4), .ref (o + 5), .ref (o + 6), .int (nB on), .int (nI tz), .ref (o + 7), .int (nI (laZ kc)), .ref (o + 8), .ref (o + 9), .int (nI kd), .int (nI kl), .int (nI tc), .ref (o + 10), .int (nI sd), .ref (o + 11), .int (nI hd), .ref (o + 12), .int (nI an), .ref (o + 13), .int (nI fm), .int (nI fo), .ref (o + 14), .ref (o + 15), .int (nI kc), .ref (o + 16)]) := by rw [ej] at f_o; exact f_o
              have hlz : laZ kc ≤ 160 := by unfold laZ; omega
              refine lv_aload_n hx hb dX11_sendSearch_118 rfl (lv_at hl 0 rfl) ?_
              refine hp_kvm (hp_runV (As := []) (rest := []) hx hb hml hown hS hH (c_rsend l X (sb2 := laS z0 L kn kc) (laS_congr _ _ _ _ _) (laS_01 h01 _ _ _) (by omega) hn16 hlv hst hle hoff hW f_o f_8 f_12) M_X11_148 I_X11_send V_X11_send (ci := 7) rfl rfl f_o rfl hl.1 rfl (Nat.le_of_ble_eq_true rfl) dX11_sendSearch_119 ⟨Nat.le_of_ble_eq_true rfl, Nat.le_of_ble_eq_true rfl⟩ ⟨Nat.le_of_ble_eq_true rfl, Nat.le_of_ble_eq_true rfl⟩) hH (fun μ1 H locs hp hH => ?_)
              obtain ⟨kd9, kl9, tc9, sd9, H9, fz0, fz1, hW, hH9, fe⟩ := hp
              have f_8 := (fe.at 8 (by decide)).trans f_8
              have f_16 := (fe.at 16 (by decide)).trans f_16
              have f_o := fz0
              have f_12 := fz1
              have hfN := fN_le n (laS z0 L kn kc) (laZ kc) lv st le sh
              have fr := hp_eqM.tr fe fr (by decide)
              clear fe fz0 fz1
              exact hp_rv hx hb hr hlocks hS hH (⟨rfl, _, _, _, _, _, _, f_o, laS_01 h01 _ _ _, f_8, f_12, hW, hH9, fr⟩) dX11_sendSearch_122
            · have c_84 : ¬ (kc ≤ (kc / 8 * 8 + j)) := fun z => c_84 ((nI_leI (by omega) (by omega)).mpr z)
              refine lv_aload_n hx hb dX11_sendSearch_87 rfl (lv_at hl 0 rfl) ?_
              refine hp_get hx hb hown hS.2.1 hH (F_X11_36.use hS) f_o rfl dX11_sendSearch_88 ?_
              refine lv_aload_n hx hb dX11_sendSearch_91 rfl (lv_at hl 0 rfl) ?_
              refine hp_get hx hb hown hS.2.1 hH (F_X11_104.use hS) f_o rfl dX11_sendSearch_92 ?_
              refine lv_aload_n hx hb dX11_sendSearch_95 rfl (lv_at hl 0 rfl) ?_
              refine hp_get hx hb hown hS.2.1 hH (F_X11_60.use hS) f_o rfl dX11_sendSearch_96 ?_
              refine lv_iload_n hx hb dX11_sendSearch_99 rfl (lv_at hl 2 rfl) ?_
              refine hp_ialdN hx hb hS.ai hH f_16 (by omega) (by omega) dX11_sendSearch_100 ?_
              refine hp_iastN hx hb hS.ai hH f_8 (by omega) (by omega) dX11_sendSearch_101 (fun H locs μ1 fz fn hH => ?_)
              have hW := hW.put 8 fn (by decide)
              have f_o := (fn _ (by omega)).trans f_o
              have f_12 := (fn _ (by omega)).trans f_12
              have f_16 := (fn _ (by omega)).trans f_16
              have f_8 : μ1 (o + 8) = some (hp_n X 160 (setN (apB (laK sb L (laV kc) kn (kc / 8)) (9 * (2 + kc / 8)) (nI (kn / 2 ^ (8 * (kc / 8)) % 256)) j) (9 * (2 + kc / 8) + j) (kb (kc / 8 * 8 + j)))) := fz
              have fr := hp_eqM.put (k := 8) fr (by decide) fn
              clear fz fn
              refine lv_aload_n hx hb dX11_sendSearch_102 rfl (lv_at hl 0 rfl) ?_
              refine lv_dup hx hb dX11_sendSearch_103 rfl ?_
              refine hp_get hx hb hown hS.2.1 hH (F_X11_104.use hS) f_o rfl dX11_sendSearch_104 ?_
              refine lv_iconst (v := nI 1) hx hb dX11_sendSearch_107 (by decide) ?_
              refine lv_iadd hx hb dX11_sendSearch_108 ?_
              refine hp_eqi (z := nI ((9 * (2 + kc / 8) + j) + 1)) (nI_add _ _) ?_
              refine hp_put hx hb hown hS.2.1 hH (P_X11_104.use hS) f_o rfl rfl (Nat.le_of_ble_eq_true rfl) dX11_sendSearch_109 (fun H locs μ1 fz fn hH => ?_)
              have hW := hW.put 0 fn (by decide)
              have f_8 := (fn _ (by omega)).trans f_8
              have f_12 := (fn _ (by omega)).trans f_12
              have f_16 := (fn _ (by omega)).trans f_16
              have f_o : μ1 o = some (hp_o 7 [.int (nI n), .ref (o + 1), .ref (o + 2), .ref (o + 3), .ref (o + 4), .ref (o + 5), .ref (o + 6), .int (nB on), .int (nI tz), .ref (o + 7), .int (nI ((9 * (2 + kc / 8) + j) + 1)), .ref (o + 8), .ref (o + 9), .int (nI kd), .int (nI kl), .int (nI tc), .ref (o + 10), .int (nI sd), .ref (o + 11), .int (nI hd), .ref (o + 12), .int (nI an), .ref (o + 13), .int (nI fm), .int (nI fo), .ref (o + 14), .ref (o + 15), .int (nI kc), .ref (o + 16)]) := fz
              have fr := hp_eqM.put (k := 0) fr (by decide) fn
              clear fz fn
              refine lv_iinc (v := nI (kc / 8 * 8 + j + 1)) (lv' := [(2, .int (nI (kc / 8 * 8 + j + 1))), (0, .ref o), (1, .int (nI L))]) hx hb dX11_sendSearch_112 hl (k := 2) rfl (nI_add _ 1) (by decide) rfl (fun ls hl => ?_)
              refine lv_goto (tgt := 79) hx hb dX11_sendSearch_115 (by decide) ?_
              have f_8 := f_8.trans (congrArg (fun g => some (hp_n X 160 g)) (show setN (apB (laK sb L (laV kc) kn (kc / 8)) (9 * (2 + kc / 8)) (nI (kn / 2 ^ (8 * (kc / 8)) % 256)) j) (9 * (2 + kc / 8) + j) (kb (kc / 8 * 8 + j)) = apB (laK sb L (laV kc) kn (kc / 8)) (9 * (2 + kc / 8)) (nI (kn / 2 ^ (8 * (kc / 8)) % 256)) (j + 1) from by rw [hkb _ (by omega), show kn / 2 ^ (kc / 8 * 8 + j) % 2 = bitI (nI (kn / 2 ^ (8 * (kc / 8)) % 256)) j by rw [bitI_n (by omega), bt_byte (by omega), Nat.mul_comm (kc / 8) 8]]; exact apB_s _ _ _ _))
              exact ih79 (j + 1) (by omega) (by omega) _ _ _ _ f_o f_8 f_12 f_16 hW fr hH (lv_sub hl [1, 2, 0] rfl)
        exact lp_79 ((kc % 8 - 0) + 1) 0 (Nat.zero_le _) (Nat.lt_succ_self _) _ _ _ _ f_o f_8 f_12 f_16 hW fr hH (lv_sub hl [1, 2, 0] rfl)
      · have c_50 : ¬ ((kc / 8) ≤ k) := fun z => c_50 ((nI_leI (by omega) (by omega)).mpr z)
        refine lv_aload_n hx hb dX11_sendSearch_53 rfl (lv_at hl 0 rfl) ?_
        refine lv_aload_n hx hb dX11_sendSearch_54 rfl (lv_at hl 0 rfl) ?_
        refine lv_iload_n hx hb dX11_sendSearch_55 rfl (lv_at hl 2 rfl) ?_
        have hb9 : vaN kb (8 * k) 8 = kn / 2 ^ (8 * k) % 256 := vaN_of (n := 8) (fun j hj => by rw [hkb _ (by omega), bt_div])
        refine hp_kip (hp_runV (As := [.int (nI k)]) (rest := [.ref o]) hx hb hml hown hS hH (c_X11_knownByte l X (i := k) hkb1 (by omega) f_o f_16) M_X11_160 I_X11_knownByte V_X11_knownByte (ci := 7) rfl rfl f_o rfl hl.1 rfl (Nat.le_of_ble_eq_true rfl) dX11_sendSearch_56 ⟨Nat.le_of_ble_eq_true rfl, Nat.le_of_ble_eq_true rfl⟩ ⟨Nat.le_of_ble_eq_true rfl, Nat.le_of_ble_eq_true rfl⟩) hH (fun H locs hH => ?_)
        refine hp_eqi (z := nI (kn / 2 ^ (8 * k) % 256)) (congrArg nI hb9) ?_
        refine hp_kvm (hp_runV (As := [.int (nI (kn / 2 ^ (8 * k) % 256))]) (rest := []) hx hb hml hown hS hH (c_X11_put l X (v := kn / 2 ^ (8 * k) % 256) (Nat.mod_lt _ (by decide)) (by omega) f_o f_8) M_X11_154 I_X11_put V_X11_put (ci := 7) rfl rfl f_o rfl hl.1 rfl (Nat.le_of_ble_eq_true rfl) dX11_sendSearch_59 ⟨Nat.le_of_ble_eq_true rfl, Nat.le_of_ble_eq_true rfl⟩ ⟨Nat.le_of_ble_eq_true rfl, Nat.le_of_ble_eq_true rfl⟩) hH (fun μ1 H locs hp hH => ?_)
        obtain ⟨fz0, fz1, fe⟩ := hp
        have hW := hW.keep fe (by decide)
        have f_12 := (fe.at 12 (by decide)).trans f_12
        have f_16 := (fe.at 16 (by decide)).trans f_16
        have f_o : μ1 o = some (hp_o 7 [.int (nI n), .ref (o + 1), .ref (o + 2), .ref (o + 3), .ref (o + 4), .ref (o + 5), .ref (o + 6), .int (nB on), .int (nI tz), .ref (o + 7), .int (nI (9 * (2 + k) + 9)), .ref (o + 8), .ref (o + 9), .int (nI kd), .int (nI kl), .int (nI tc), .ref (o + 10), .int (nI sd), .ref (o + 11), .int (nI hd), .ref (o + 12), .int (nI an), .ref (o + 13), .int (nI fm), .int (nI fo), .ref (o + 14), .ref (o + 15), .int (nI kc), .ref (o + 16)]) := fz0
        have f_8 : μ1 (o + 8) = some (hp_n X 160 (laK sb L (laV kc) kn (k + 1))) := fz1
        have fr := hp_eqM.tr fe fr (by decide)
        clear fe fz0 fz1
        refine lv_iinc (v := nI (k + 1)) (lv' := [(2, .int (nI (k + 1))), (0, .ref o), (1, .int (nI L))]) hx hb dX11_sendSearch_62 hl (k := 2) rfl (nI_add _ 1) (by decide) rfl (fun ls hl => ?_)
        refine lv_goto (tgt := 42) hx hb dX11_sendSearch_65 (by decide) ?_
        have f_o : μ1 o = some (hp_o 7 [.int (nI n), .ref (o + 1), .ref (o + 2), .ref (o + 3), .ref (o + 4), .ref (o + 5), .ref (o + 6), .int (nB on), .int (nI tz), .ref (o + 7), .int (nI (9 * (2 + (k + 1)))), .ref (o + 8), .ref (o + 9), .int (nI kd), .int (nI kl), .int (nI tc), .ref (o + 10), .int (nI sd), .ref (o + 11), .int (nI hd), .ref (o + 12), .int (nI an), .ref (o + 13), .int (nI fm), .int (nI fo), .ref (o + 14), .ref (o + 15), .int (nI kc), .ref (o + 16)]) := by rw [show 9 * (2 + (k + 1)) = 9 * (2 + k) + 9 by omega]; exact f_o
        exact ih42 (k + 1) (by omega) (by omega) _ _ _ _ f_o f_8 f_12 f_16 hW fr hH (lv_sub hl [1, 2, 0] rfl)
  exact lp_42 ((kc / 8 - 0) + 1) 0 (Nat.zero_le _) (Nat.lt_succ_self _) _ _ _ _ f_o f_8 f_12 f_16 hW fr hH (lv_sub hl [1, 2, 0] rfl)
