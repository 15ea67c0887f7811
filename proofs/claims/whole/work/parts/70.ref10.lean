set_option maxHeartbeats 4000000 in
set_option maxRecDepth 100000 in
theorem c_X11_hear_1 (l : Launch) (X : hp_X) {μ : hp_M} {nx : Nat} {o n tz se kd kl tc hd an fm fo kc : Nat} {on : Bool} {t sl td lv se2 : Nat} {Z S L sh2 D J : Nat → Nat} {Bf : Nat → Int32} (hs0 : S t = 1) (ht : t < 17) (hz : Z t = 3 * lv + 1) (hl1 : 1 ≤ lv) (hl3 : lv ≤ 3) (hL1 : 1 ≤ L t) (hL3 : L t ≤ 3) (hLlv : L t ≤ lv) (hkd8 : kd < 8) (hkl : kd = 3 ∨ kd = 4 → kl < 2 ^ 20) (hkd : kd = 3 ∨ kd = 4 → tc ≤ 40 ∧ ∀ k, k < tc → D k = td / 2 ^ k % 2) (hk6 : kd = 6 → Bf 1 = nI se2 ∧ se2 < 256) (h01 : ∀ j, J j < 2) (hsh : ∀ k, k < 40 → sh2 (120 * t + 40 * (L t - 1) + k) = sl / 2 ^ k % 2) (f_o : μ o = some (hp_o 7 [.int (nI n), .ref (o + 1), .ref (o + 2), .ref (o + 3), .ref (o + 4), .ref (o + 5), .ref (o + 6), .int (nB on), .int (nI tz), .ref (o + 7), .int (nI se), .ref (o + 8), .ref (o + 9), .int (nI kd), .int (nI kl), .int (nI tc), .ref (o + 10), .int (nI 0), .ref (o + 11), .int (nI hd), .ref (o + 12), .int (nI an), .ref (o + 13), .int (nI fm), .int (nI fo), .ref (o + 14), .ref (o + 15), .int (nI kc), .ref (o + 16)])) (f_1 : μ (o + 1) = some (hp_n X 17 Z)) (f_4 : μ (o + 4) = some (hp_n X 17 S)) (f_5 : μ (o + 5) = some (hp_n X 17 L)) (f_6 : μ (o + 6) = some (hp_n X 2040 sh2)) (f_9 : μ (o + 9) = some (hp_i X 18 Bf)) (f_10 : μ (o + 10) = some (hp_n X 48 D)) (f_11 : μ (o + 11) = some (hp_n X 64 J)) : Ct l X yX11_hear cX11_hear 6 (none : Option Jvm.ClassFile.FieldType) 3 120 0 0 [.ref o, .int (nI t)] μ nx (hq_v X (po_v nx (fun z => ∃ J9 : Nat → Nat, (∀ j, J9 j < 2) ∧ z o = some (hp_o 7 [.int (nI n), .ref (o + 1), .ref (o + 2), .ref (o + 3), .ref (o + 4), .ref (o + 5), .ref (o + 6), .int (nB on), .int (nI tz), .ref (o + 7), .int (nI se), .ref (o + 8), .ref (o + 9), .int (nI kd), .int (nI kl), .int (nI tc), .ref (o + 10), .int (nI (saL (hrR kd (decide (kl = L t)) (mtN sl td tc) lv 1 (L t)) tc)), .ref (o + 11), .int (nI hd), .ref (o + 12), .int (nI an), .ref (o + 13), .int (nI fm), .int (nI fo), .ref (o + 14), .ref (o + 15), .int (nI kc), .ref (o + 16)]) ∧ z (o + 4) = some (hp_n X 17 (setN S t (hrS kd (decide (kl = L t)) (mtN sl td tc) lv 1 (L t)))) ∧ z (o + 5) = some (hp_n X 17 (setN L t (hrL kd (decide (kl = L t)) (mtN sl td tc) lv 1 (L t)))) ∧ z (o + 11) = some (hp_n X 64 J9) ∧ (∀ j, j < saL (hrR kd (decide (kl = L t)) (mtN sl td tc) lv 1 (L t)) tc → J9 j = saB (hrR kd (decide (kl = L t)) (mtN sl td tc) lv 1 (L t)) lv sl se2 tc / 2 ^ j % 2) ∧ hp_eqM [0, 4, 5, 11] o z μ))) := by
  refine hp_met (by decide) (Nat.le_of_ble_eq_true rfl) ?_
  intro p e s m below meth c ls hx hb hml hr hlocks hown hin hS hH hl
  have hl : lv_has ls 6 [(0, .ref o), (1, .int (nI t))] := hl
  have fr : hp_eqM [0, 4, 5, 11] o μ μ := fun _ _ => rfl
  have hs : S t = 1 := hs0
  refine lv_aload_n hx hb dX11_hear_0 rfl (lv_at hl 0 rfl) ?_
  refine hp_get hx hb hown hS.2.1 hH (F_X11_20.use hS) f_o rfl dX11_hear_1 ?_
  refine lv_iload_n hx hb dX11_hear_4 rfl (lv_at hl 1 rfl) ?_
  refine hp_ialdN hx hb hS.ai hH f_4 (by omega) (by omega) dX11_hear_5 ?_
  refine hp_eqi (z := nI 1) (congrArg nI hs) ?_
  refine lv_istore_n (lv' := [(2, .int (nI 1)), (0, .ref o), (1, .int (nI t))]) hx hb dX11_hear_6 rfl hl (by decide) rfl (fun ls hl => ?_)
  refine lv_iload_n hx hb dX11_hear_7 rfl (lv_at hl 0 rfl) ?_
  refine lv_iconst (v := nI 1) hx hb dX11_hear_8 (by decide) ?_
  refine lv_icmp_ne (tgt := 37) hx hb dX11_hear_9 (by decide) (fun c_9 => ?_) (fun c_9 => ?_)
  · exact absurd c_9 (by decide)
  · have c_9 : 1 = 1 := (nI_eq (by omega) (by omega)).mp c_9
    refine lv_aload_n hx hb dX11_hear_12 rfl (lv_at hl 1 rfl) ?_
    refine hp_get hx hb hown hS.2.1 hH (F_X11_98.use hS) f_o rfl dX11_hear_13 ?_
    refine lv_iconst (v := nI 1) hx hb dX11_hear_16 (by decide) ?_
    refine lv_icmp_eq (tgt := 28) hx hb dX11_hear_17 (by decide) (fun c_17 => ?_) (fun c_17 => ?_)
    · have c_17 : kd = 1 := (nI_eq (by omega) (by omega)).mp c_17
      refine lv_aload_n hx hb dX11_hear_28 rfl (lv_at hl 1 rfl) ?_
      refine lv_iload_n hx hb dX11_hear_29 rfl (lv_at hl 2 rfl) ?_
      refine lv_iconst (v := nI 2) hx hb dX11_hear_30 (by decide) ?_
      refine hp_kvm (hp_runV (As := [.int (nI t), .int (nI 2)]) (rest := []) hx hb hml hown hS hH (c_X11_begin l X (as := 2) ht hz hl1 hl3 f_o f_1 f_4 f_5 f_11) M_X11_117 I_X11_begin V_X11_begin (ci := 7) rfl rfl f_o rfl hl.1 rfl (Nat.le_of_ble_eq_true rfl) dX11_hear_31 ⟨Nat.le_of_ble_eq_true rfl, Nat.le_of_ble_eq_true rfl⟩ ⟨Nat.le_of_ble_eq_true rfl, Nat.le_of_ble_eq_true rfl⟩) hH (fun μ1 H locs hp hH => ?_)
      obtain ⟨fz0, fz1, fz2, fz3, fe⟩ := hp
      have f_1 := (fe.at 1 (by decide)).trans f_1
      have f_6 := (fe.at 6 (by decide)).trans f_6
      have f_9 := (fe.at 9 (by decide)).trans f_9
      have f_10 := (fe.at 10 (by decide)).trans f_10
      have f_o : μ1 o = some (hp_o 7 [.int (nI n), .ref (o + 1), .ref (o + 2), .ref (o + 3), .ref (o + 4), .ref (o + 5), .ref (o + 6), .int (nB on), .int (nI tz), .ref (o + 7), .int (nI se), .ref (o + 8), .ref (o + 9), .int (nI kd), .int (nI kl), .int (nI tc), .ref (o + 10), .int (nI 18), .ref (o + 11), .int (nI hd), .ref (o + 12), .int (nI an), .ref (o + 13), .int (nI fm), .int (nI fo), .ref (o + 14), .ref (o + 15), .int (nI kc), .ref (o + 16)]) := fz0
      have f_4 : μ1 (o + 4) = some (hp_n X 17 (setN S t 2)) := fz1
      have f_5 : μ1 (o + 5) = some (hp_n X 17 (setN L t 1)) := fz2
      have f_11 : μ1 (o + 11) = some (hp_n X 64 (apO (apO J 0 (4 + 64 * (lv - 1))) 9 0)) := fz3
      have fr := hp_eqM.tr fe fr (by decide)
      clear fe fz0 fz1 fz2 fz3
      refine lv_goto (tgt := 348) hx hb dX11_hear_34 (by decide) ?_
      have hR : hrR kd (decide (kl = L t)) (mtN sl td tc) lv 1 (L t) = 1 := by first | (simp [hrR, c_17]; done) | (exfalso; omega)
      have hSn : hrS kd (decide (kl = L t)) (mtN sl td tc) lv 1 (L t) = 2 := by first | (simp [hrS, bkS, c_17]; done) | (exfalso; omega)
      have hLn : hrL kd (decide (kl = L t)) (mtN sl td tc) lv 1 (L t) = 1 := by first | (simp [hrL, c_17]; done) | (exfalso; omega)
      have f_4 := f_4.trans (congrArg (fun g => some (hp_n X 17 g)) (show setN S t 2 = setN S t (hrS kd (decide (kl = L t)) (mtN sl td tc) lv 1 (L t)) from by rw [hSn]))
      have f_5 := f_5.trans (congrArg (fun g => some (hp_n X 17 g)) (show setN L t 1 = setN L t (hrL kd (decide (kl = L t)) (mtN sl td tc) lv 1 (L t)) from by rw [hLn]))
      have f_o : μ1 o = some (hp_o 7 [.int (nI n), .ref (o + 1), .ref (o + 2), .ref (o + 3), .ref (o + 4), .ref (o + 5), .ref (o + 6), .int (nB on), .int (nI tz), .ref (o + 7), .int (nI se), .ref (o + 8), .ref (o + 9), .int (nI kd), .int (nI kl), .int (nI tc), .ref (o + 10), .int (nI (saL (hrR kd (decide (kl = L t)) (mtN sl td tc) lv 1 (L t)) tc)), .ref (o + 11), .int (nI hd), .ref (o + 12), .int (nI an), .ref (o + 13), .int (nI fm), .int (nI fo), .ref (o + 14), .ref (o + 15), .int (nI kc), .ref (o + 16)]) := by rw [hR]; exact f_o
      exact hp_rv hx hb hr hlocks hS hH (⟨rfl, (apO (apO J 0 (4 + 64 * (lv - 1))) 9 0), apO_01 (apO_01 h01 _ _) _ _, f_o, f_4, f_5, f_11, (fun j hj => by rw [hR] at hj ⊢; exact (bg_bits (by omega)) j hj), fr⟩) dX11_hear_348
    · have c_17 : ¬ (kd = 1) := fun z => c_17 ((nI_eq (by omega) (by omega)).mpr z)
      refine lv_aload_n hx hb dX11_hear_20 rfl (lv_at hl 1 rfl) ?_
      refine hp_get hx hb hown hS.2.1 hH (F_X11_98.use hS) f_o rfl dX11_hear_21 ?_
      refine lv_iconst (v := nI 2) hx hb dX11_hear_24 (by decide) ?_
      refine lv_icmp_ne (tgt := 348) hx hb dX11_hear_25 (by decide) (fun c_25 => ?_) (fun c_25 => ?_)
      · have c_25 : ¬ (kd = 2) := fun z => c_25 ((nI_eq (by omega) (by omega)).mpr z)
        have hR : hrR kd (decide (kl = L t)) (mtN sl td tc) lv 1 (L t) = 0 := by first | (simp [hrR, c_17, c_25]; done) | (exfalso; omega)
        have hSn : hrS kd (decide (kl = L t)) (mtN sl td tc) lv 1 (L t) = 1 := by first | (simp [hrS, bkS, c_17, c_25]; done) | (exfalso; omega)
        have hLn : hrL kd (decide (kl = L t)) (mtN sl td tc) lv 1 (L t) = L t := by first | (simp [hrL, c_17, c_25]; done) | (exfalso; omega)
        have f_4 := f_4.trans (congrArg (fun g => some (hp_n X 17 g)) (show S = setN S t (hrS kd (decide (kl = L t)) (mtN sl td tc) lv 1 (L t)) from by rw [hSn, ← hs, setN_id]))
        have f_5 := f_5.trans (congrArg (fun g => some (hp_n X 17 g)) (show L = setN L t (hrL kd (decide (kl = L t)) (mtN sl td tc) lv 1 (L t)) from by rw [hLn, setN_id]))
        have f_o : μ o = some (hp_o 7 [.int (nI n), .ref (o + 1), .ref (o + 2), .ref (o + 3), .ref (o + 4), .ref (o + 5), .ref (o + 6), .int (nB on), .int (nI tz), .ref (o + 7), .int (nI se), .ref (o + 8), .ref (o + 9), .int (nI kd), .int (nI kl), .int (nI tc), .ref (o + 10), .int (nI (saL (hrR kd (decide (kl = L t)) (mtN sl td tc) lv 1 (L t)) tc)), .ref (o + 11), .int (nI hd), .ref (o + 12), .int (nI an), .ref (o + 13), .int (nI fm), .int (nI fo), .ref (o + 14), .ref (o + 15), .int (nI kc), .ref (o + 16)]) := by rw [hR]; exact f_o
        exact hp_rv hx hb hr hlocks hS hH (⟨rfl, J, h01, f_o, f_4, f_5, f_11, (fun j hj => by rw [hR] at hj; exact absurd hj (Nat.not_lt_zero _)), fr⟩) dX11_hear_348
      · have c_25 : kd = 2 := (nI_eq (by omega) (by omega)).mp c_25
        refine lv_aload_n hx hb dX11_hear_28 rfl (lv_at hl 1 rfl) ?_
        refine lv_iload_n hx hb dX11_hear_29 rfl (lv_at hl 2 rfl) ?_
        refine lv_iconst (v := nI 2) hx hb dX11_hear_30 (by decide) ?_
        refine hp_kvm (hp_runV (As := [.int (nI t), .int (nI 2)]) (rest := []) hx hb hml hown hS hH (c_X11_begin l X (as := 2) ht hz hl1 hl3 f_o f_1 f_4 f_5 f_11) M_X11_117 I_X11_begin V_X11_begin (ci := 7) rfl rfl f_o rfl hl.1 rfl (Nat.le_of_ble_eq_true rfl) dX11_hear_31 ⟨Nat.le_of_ble_eq_true rfl, Nat.le_of_ble_eq_true rfl⟩ ⟨Nat.le_of_ble_eq_true rfl, Nat.le_of_ble_eq_true rfl⟩) hH (fun μ1 H locs hp hH => ?_)
        obtain ⟨fz0, fz1, fz2, fz3, fe⟩ := hp
        have f_1 := (fe.at 1 (by decide)).trans f_1
        have f_6 := (fe.at 6 (by decide)).trans f_6
        have f_9 := (fe.at 9 (by decide)).trans f_9
        have f_10 := (fe.at 10 (by decide)).trans f_10
        have f_o : μ1 o = some (hp_o 7 [.int (nI n), .ref (o + 1), .ref (o + 2), .ref (o + 3), .ref (o + 4), .ref (o + 5), .ref (o + 6), .int (nB on), .int (nI tz), .ref (o + 7), .int (nI se), .ref (o + 8), .ref (o + 9), .int (nI kd), .int (nI kl), .int (nI tc), .ref (o + 10), .int (nI 18), .ref (o + 11), .int (nI hd), .ref (o + 12), .int (nI an), .ref (o + 13), .int (nI fm), .int (nI fo), .ref (o + 14), .ref (o + 15), .int (nI kc), .ref (o + 16)]) := fz0
        have f_4 : μ1 (o + 4) = some (hp_n X 17 (setN S t 2)) := fz1
        have f_5 : μ1 (o + 5) = some (hp_n X 17 (setN L t 1)) := fz2
        have f_11 : μ1 (o + 11) = some (hp_n X 64 (apO (apO J 0 (4 + 64 * (lv - 1))) 9 0)) := fz3
        have fr := hp_eqM.tr fe fr (by decide)
        clear fe fz0 fz1 fz2 fz3
        refine lv_goto (tgt := 348) hx hb dX11_hear_34 (by decide) ?_
        have hR : hrR kd (decide (kl = L t)) (mtN sl td tc) lv 1 (L t) = 1 := by first | (simp [hrR, c_17, c_25]; done) | (exfalso; omega)
        have hSn : hrS kd (decide (kl = L t)) (mtN sl td tc) lv 1 (L t) = 2 := by first | (simp [hrS, bkS, c_17, c_25]; done) | (exfalso; omega)
        have hLn : hrL kd (decide (kl = L t)) (mtN sl td tc) lv 1 (L t) = 1 := by first | (simp [hrL, c_17, c_25]; done) | (exfalso; omega)
        have f_4 := f_4.trans (congrArg (fun g => some (hp_n X 17 g)) (show setN S t 2 = setN S t (hrS kd (decide (kl = L t)) (mtN sl td tc) lv 1 (L t)) from by rw [hSn]))
        have f_5 := f_5.trans (congrArg (fun g => some (hp_n X 17 g)) (show setN L t 1 = setN L t (hrL kd (decide (kl = L t)) (mtN sl td tc) lv 1 (L t)) from by rw [hLn]))
        have f_o : μ1 o = some (hp_o 7 [.int (nI n), .ref (o + 1), .ref (o + 2), .ref (o + 3), .ref (o + 4), .ref (o + 5), .ref (o + 6), .int (nB on), .int (nI tz), .ref (o + 7), .int (nI se), .ref (o + 8), .ref (o + 9), .int (nI kd), .int (nI kl), .int (nI tc), .ref (o + 10), .int (nI (saL (hrR kd (decide (kl = L t)) (mtN sl td tc) lv 1 (L t)) tc)), .ref (o + 11), .int (nI hd), .ref (o + 12), .int (nI an), .ref (o + 13), .int (nI fm), .int (nI fo), .ref (o + 14), .ref (o + 15), .int (nI kc), .ref (o + 16)]) := by rw [hR]; exact f_o
        exact hp_rv hx hb hr hlocks hS hH (⟨rfl, (apO (apO J 0 (4 + 64 * (lv - 1))) 9 0), apO_01 (apO_01 h01 _ _) _ _, f_o, f_4, f_5, f_11, (fun j hj => by rw [hR] at hj ⊢; exact (bg_bits (by omega)) j hj), fr⟩) dX11_hear_348

set_option maxHeartbeats 4000000 in
set_option maxRecDepth 100000 in
theorem c_X11_hear_2 (l : Launch) (X : hp_X) {μ : hp_M} {nx : Nat} {o n tz se kd kl tc hd an fm fo kc : Nat} {on : Bool} {t sl td lv se2 : Nat} {Z S L sh2 D J : Nat → Nat} {Bf : Nat → Int32} (hs0 : S t = 2) (ht : t < 17) (hz : Z t = 3 * lv + 1) (hl1 : 1 ≤ lv) (hl3 : lv ≤ 3) (hL1 : 1 ≤ L t) (hL3 : L t ≤ 3) (hLlv : L t ≤ lv) (hkd8 : kd < 8) (hkl : kd = 3 ∨ kd = 4 → kl < 2 ^ 20) (hkd : kd = 3 ∨ kd = 4 → tc ≤ 40 ∧ ∀ k, k < tc → D k = td / 2 ^ k % 2) (hk6 : kd = 6 → Bf 1 = nI se2 ∧ se2 < 256) (h01 : ∀ j, J j < 2) (hsh : ∀ k, k < 40 → sh2 (120 * t + 40 * (L t - 1) + k) = sl / 2 ^ k % 2) (f_o : μ o = some (hp_o 7 [.int (nI n), .ref (o + 1), .ref (o + 2), .ref (o + 3), .ref (o + 4), .ref (o + 5), .ref (o + 6), .int (nB on), .int (nI tz), .ref (o + 7), .int (nI se), .ref (o + 8), .ref (o + 9), .int (nI kd), .int (nI kl), .int (nI tc), .ref (o + 10), .int (nI 0), .ref (o + 11), .int (nI hd), .ref (o + 12), .int (nI an), .ref (o + 13), .int (nI fm), .int (nI fo), .ref (o + 14), .ref (o + 15), .int (nI kc), .ref (o + 16)])) (f_1 : μ (o + 1) = some (hp_n X 17 Z)) (f_4 : μ (o + 4) = some (hp_n X 17 S)) (f_5 : μ (o + 5) = some (hp_n X 17 L)) (f_6 : μ (o + 6) = some (hp_n X 2040 sh2)) (f_9 : μ (o + 9) = some (hp_i X 18 Bf)) (f_10 : μ (o + 10) = some (hp_n X 48 D)) (f_11 : μ (o + 11) = some (hp_n X 64 J)) : Ct l X yX11_hear cX11_hear 6 (none : Option Jvm.ClassFile.FieldType) 3 120 0 0 [.ref o, .int (nI t)] μ nx (hq_v X (po_v nx (fun z => ∃ J9 : Nat → Nat, (∀ j, J9 j < 2) ∧ z o = some (hp_o 7 [.int (nI n), .ref (o + 1), .ref (o + 2), .ref (o + 3), .ref (o + 4), .ref (o + 5), .ref (o + 6), .int (nB on), .int (nI tz), .ref (o + 7), .int (nI se), .ref (o + 8), .ref (o + 9), .int (nI kd), .int (nI kl), .int (nI tc), .ref (o + 10), .int (nI (saL (hrR kd (decide (kl = L t)) (mtN sl td tc) lv 2 (L t)) tc)), .ref (o + 11), .int (nI hd), .ref (o + 12), .int (nI an), .ref (o + 13), .int (nI fm), .int (nI fo), .ref (o + 14), .ref (o + 15), .int (nI kc), .ref (o + 16)]) ∧ z (o + 4) = some (hp_n X 17 (setN S t (hrS kd (decide (kl = L t)) (mtN sl td tc) lv 2 (L t)))) ∧ z (o + 5) = some (hp_n X 17 (setN L t (hrL kd (decide (kl = L t)) (mtN sl td tc) lv 2 (L t)))) ∧ z (o + 11) = some (hp_n X 64 J9) ∧ (∀ j, j < saL (hrR kd (decide (kl = L t)) (mtN sl td tc) lv 2 (L t)) tc → J9 j = saB (hrR kd (decide (kl = L t)) (mtN sl td tc) lv 2 (L t)) lv sl se2 tc / 2 ^ j % 2) ∧ hp_eqM [0, 4, 5, 11] o z μ))) := by
  refine hp_met (by decide) (Nat.le_of_ble_eq_true rfl) ?_
  intro p e s m below meth c ls hx hb hml hr hlocks hown hin hS hH hl
  have hl : lv_has ls 6 [(0, .ref o), (1, .int (nI t))] := hl
  have fr : hp_eqM [0, 4, 5, 11] o μ μ := fun _ _ => rfl
  have hs : S t = 2 := hs0
  refine lv_aload_n hx hb dX11_hear_0 rfl (lv_at hl 0 rfl) ?_
  refine hp_get hx hb hown hS.2.1 hH (F_X11_20.use hS) f_o rfl dX11_hear_1 ?_
  refine lv_iload_n hx hb dX11_hear_4 rfl (lv_at hl 1 rfl) ?_
  refine hp_ialdN hx hb hS.ai hH f_4 (by omega) (by omega) dX11_hear_5 ?_
  refine hp_eqi (z := nI 2) (congrArg nI hs) ?_
  refine lv_istore_n (lv' := [(2, .int (nI 2)), (0, .ref o), (1, .int (nI t))]) hx hb dX11_hear_6 rfl hl (by decide) rfl (fun ls hl => ?_)
  refine lv_iload_n hx hb dX11_hear_7 rfl (lv_at hl 0 rfl) ?_
  refine lv_iconst (v := nI 1) hx hb dX11_hear_8 (by decide) ?_
  refine lv_icmp_ne (tgt := 37) hx hb dX11_hear_9 (by decide) (fun c_9 => ?_) (fun c_9 => ?_)
  · have c_9 : ¬ (2 = 1) := fun z => c_9 ((nI_eq (by omega) (by omega)).mpr z)
    refine lv_iload_n hx hb dX11_hear_37 rfl (lv_at hl 0 rfl) ?_
    refine lv_iconst (v := nI 4) hx hb dX11_hear_38 (by decide) ?_
    refine lv_icmp_ne (tgt := 59) hx hb dX11_hear_39 (by decide) (fun c_39 => ?_) (fun c_39 => ?_)
    · have c_39 : ¬ (2 = 4) := fun z => c_39 ((nI_eq (by omega) (by omega)).mpr z)
      refine lv_iload_n hx hb dX11_hear_59 rfl (lv_at hl 0 rfl) ?_
      refine lv_iconst (v := nI 2) hx hb dX11_hear_60 (by decide) ?_
      refine lv_icmp_eq (tgt := 69) hx hb dX11_hear_61 (by decide) (fun c_61 => ?_) (fun c_61 => ?_)
      · have c_61 : 2 = 2 := (nI_eq (by omega) (by omega)).mp c_61
        refine lv_aload_n hx hb dX11_hear_69 rfl (lv_at hl 1 rfl) ?_
        refine hp_get hx hb hown hS.2.1 hH (F_X11_98.use hS) f_o rfl dX11_hear_70 ?_
        refine lv_iconst (v := nI 3) hx hb dX11_hear_73 (by decide) ?_
        refine lv_icmp_eq (tgt := 85) hx hb dX11_hear_74 (by decide) (fun c_74 => ?_) (fun c_74 => ?_)
        · have c_74 : kd = 3 := (nI_eq (by omega) (by omega)).mp c_74
          have hkl9 := hkl (by omega)
          refine lv_aload_n hx hb dX11_hear_85 rfl (lv_at hl 1 rfl) ?_
          refine hp_get hx hb hown hS.2.1 hH (F_X11_107.use hS) f_o rfl dX11_hear_86 ?_
          refine lv_aload_n hx hb dX11_hear_89 rfl (lv_at hl 1 rfl) ?_
          refine hp_get hx hb hown hS.2.1 hH (F_X11_23.use hS) f_o rfl dX11_hear_90 ?_
          refine lv_iload_n hx hb dX11_hear_93 rfl (lv_at hl 2 rfl) ?_
          refine hp_ialdN hx hb hS.ai hH f_5 (by omega) (by omega) dX11_hear_94 ?_
          refine lv_icmp_ne (tgt := 102) hx hb dX11_hear_95 (by decide) (fun c_95 => ?_) (fun c_95 => ?_)
          · have c_95 : ¬ (kl = (L t)) := fun z => c_95 ((nI_eq (by omega) (by omega)).mpr z)
            refine lv_iconst (v := nI 0) hx hb dX11_hear_102 (by decide) ?_
            refine lv_istore_n (lv' := [(3, .int (nI 0)), (2, .int (nI 2)), (0, .ref o), (1, .int (nI t))]) hx hb dX11_hear_103 rfl hl (by decide) rfl (fun ls hl => ?_)
            refine lv_iload_n hx hb dX11_hear_104 rfl (lv_at hl 0 rfl) ?_
            refine lv_if_eq (tgt := 120) hx hb dX11_hear_105 (by decide) (fun c_105 => ?_) (fun c_105 => ?_)
            · have c_105 : 0 = 0 := nz_0 (by omega) c_105
              refine lv_iconst (v := nI 0) hx hb dX11_hear_120 (by decide) ?_
              refine lv_istore (lv' := [(4, .int (nI 0)), (3, .int (nI 0)), (2, .int (nI 2)), (0, .ref o), (1, .int (nI t))]) hx hb dX11_hear_121 hl (by decide) rfl (fun ls hl => ?_)
              refine lv_iload_n hx hb dX11_hear_123 rfl (lv_at hl 1 rfl) ?_
              refine lv_if_eq (tgt := 148) hx hb dX11_hear_124 (by decide) (fun c_124 => ?_) (fun c_124 => ?_)
              · have c_124 : 0 = 0 := nz_0 (by omega) c_124
                refine lv_iload hx hb dX11_hear_148 (lv_at hl 0 rfl) ?_
                refine lv_if_eq (tgt := 224) hx hb dX11_hear_150 (by decide) (fun c_150 => ?_) (fun c_150 => ?_)
                · have c_150 : 0 = 0 := nz_0 (by omega) c_150
                  refine lv_aload_n hx hb dX11_hear_224 rfl (lv_at hl 3 rfl) ?_
                  refine lv_iload_n hx hb dX11_hear_225 rfl (lv_at hl 4 rfl) ?_
                  refine hp_kvm (hp_runV (As := [.int (nI t)]) (rest := []) hx hb hml hown hS hH (c_X11_back l X ht (by omega) f_o f_4) M_X11_133 I_X11_back V_X11_back (ci := 7) rfl rfl f_o rfl hl.1 rfl (Nat.le_of_ble_eq_true rfl) dX11_hear_226 ⟨Nat.le_of_ble_eq_true rfl, Nat.le_of_ble_eq_true rfl⟩ ⟨Nat.le_of_ble_eq_true rfl, Nat.le_of_ble_eq_true rfl⟩) hH (fun μ1 H locs hp hH => ?_)
                  obtain ⟨fz0, fe⟩ := hp
                  have f_o := (fe.at0 (by decide)).trans f_o
                  have f_1 := (fe.at 1 (by decide)).trans f_1
                  have f_5 := (fe.at 5 (by decide)).trans f_5
                  have f_6 := (fe.at 6 (by decide)).trans f_6
                  have f_9 := (fe.at 9 (by decide)).trans f_9
                  have f_10 := (fe.at 10 (by decide)).trans f_10
                  have f_11 := (fe.at 11 (by decide)).trans f_11
                  have f_4 : μ1 (o + 4) = some (hp_n X 17 (setN S t (if S t < 4 then 1 else 4))) := fz0
                  have fr := hp_eqM.tr fe fr (by decide)
                  clear fe fz0
                  have f_4 := f_4.trans (congrArg (fun g => some (hp_n X 17 g)) (show setN S t (if S t < 4 then 1 else 4) = setN S t 1 from by rw [hs]; rfl))
                  refine lv_goto (tgt := 348) hx hb dX11_hear_229 (by decide) ?_
                  have hR : hrR kd (decide (kl = L t)) (mtN sl td tc) lv 2 (L t) = 0 := by first | (simp [hrR, c_74, c_95]; done) | (exfalso; omega)
                  have hSn : hrS kd (decide (kl = L t)) (mtN sl td tc) lv 2 (L t) = 1 := by first | (simp [hrS, bkS, c_74, c_95]; done) | (exfalso; omega)
                  have hLn : hrL kd (decide (kl = L t)) (mtN sl td tc) lv 2 (L t) = L t := by first | (simp [hrL, c_74, c_95]; done) | (exfalso; omega)
                  have f_4 := f_4.trans (congrArg (fun g => some (hp_n X 17 g)) (show setN S t 1 = setN S t (hrS kd (decide (kl = L t)) (mtN sl td tc) lv 2 (L t)) from by rw [hSn]))
                  have f_5 := f_5.trans (congrArg (fun g => some (hp_n X 17 g)) (show L = setN L t (hrL kd (decide (kl = L t)) (mtN sl td tc) lv 2 (L t)) from by rw [hLn, setN_id]))
                  have f_o : μ1 o = some (hp_o 7 [.int (nI n), .ref (o + 1), .ref (o + 2), .ref (o + 3), .ref (o + 4), .ref (o + 5), .ref (o + 6), .int (nB on), .int (nI tz), .ref (o + 7), .int (nI se), .ref (o + 8), .ref (o + 9), .int (nI kd), .int (nI kl), .int (nI tc), .ref (o + 10), .int (nI (saL (hrR kd (decide (kl = L t)) (mtN sl td tc) lv 2 (L t)) tc)), .ref (o + 11), .int (nI hd), .ref (o + 12), .int (nI an), .ref (o + 13), .int (nI fm), .int (nI fo), .ref (o + 14), .ref (o + 15), .int (nI kc), .ref (o + 16)]) := by rw [hR]; exact f_o
                  exact hp_rv hx hb hr hlocks hS hH (⟨rfl, J, h01, f_o, f_4, f_5, f_11, (fun j hj => by rw [hR] at hj; exact absurd hj (Nat.not_lt_zero _)), fr⟩) dX11_hear_348
                · exact absurd c_150 (by decide)
              · exact absurd c_124 (by decide)
            · exact absurd c_105 (by decide)
          · have c_95 : kl = (L t) := (nI_eq (by omega) (by omega)).mp c_95
            refine lv_iconst (v := nI 1) hx hb dX11_hear_98 (by decide) ?_
            refine lv_goto (tgt := 103) hx hb dX11_hear_99 (by decide) ?_
            refine lv_istore_n (lv' := [(3, .int (nI 1)), (2, .int (nI 2)), (0, .ref o), (1, .int (nI t))]) hx hb dX11_hear_103 rfl hl (by decide) rfl (fun ls hl => ?_)
            refine lv_iload_n hx hb dX11_hear_104 rfl (lv_at hl 0 rfl) ?_
            refine lv_if_eq (tgt := 120) hx hb dX11_hear_105 (by decide) (fun c_105 => ?_) (fun c_105 => ?_)
            · exact absurd c_105 (by decide)
            · have c_105 : ¬ (1 = 0) := nz_n (by omega) c_105
              refine lv_aload_n hx hb dX11_hear_108 rfl (lv_at hl 2 rfl) ?_
              refine lv_iload_n hx hb dX11_hear_109 rfl (lv_at hl 3 rfl) ?_
              refine hp_kip (hp_runV (As := [.int (nI t)]) (rest := []) hx hb hml hown hS hH (c_X11_shows l X ht hL1 hL3 (hkd (by omega)).1 hsh (hkd (by omega)).2 f_o f_5 f_6 f_10) M_X11_121 I_X11_shows V_X11_shows (ci := 7) rfl rfl f_o rfl hl.1 rfl (Nat.le_of_ble_eq_true rfl) dX11_hear_110 ⟨Nat.le_of_ble_eq_true rfl, Nat.le_of_ble_eq_true rfl⟩ ⟨Nat.le_of_ble_eq_true rfl, Nat.le_of_ble_eq_true rfl⟩) hH (fun H locs hH => ?_)
              refine lv_if_eq (tgt := 120) hx hb dX11_hear_113 (by decide) (fun c_113 => ?_) (fun c_113 => ?_)
              · have c_113 : (mtN sl td tc) = false := nB_0 c_113
                refine lv_iconst (v := nI 0) hx hb dX11_hear_120 (by decide) ?_
                refine lv_istore (lv' := [(4, .int (nI 0)), (3, .int (nI 1)), (2, .int (nI 2)), (0, .ref o), (1, .int (nI t))]) hx hb dX11_hear_121 hl (by decide) rfl (fun ls hl => ?_)
                refine lv_iload_n hx hb dX11_hear_123 rfl (lv_at hl 1 rfl) ?_
                refine lv_if_eq (tgt := 148) hx hb dX11_hear_124 (by decide) (fun c_124 => ?_) (fun c_124 => ?_)
                · exact absurd c_124 (by decide)
                · have c_124 : ¬ (1 = 0) := nz_n (by omega) c_124
                  refine lv_aload_n hx hb dX11_hear_127 rfl (lv_at hl 3 rfl) ?_
                  refine hp_get hx hb hown hS.2.1 hH (F_X11_98.use hS) f_o rfl dX11_hear_128 ?_
                  refine lv_iconst (v := nI 3) hx hb dX11_hear_131 (by decide) ?_
                  refine lv_icmp_ne (tgt := 148) hx hb dX11_hear_132 (by decide) (fun c_132 => ?_) (fun c_132 => ?_)
                  · have c_132 : ¬ (kd = 3) := fun z => c_132 ((nI_eq (by omega) (by omega)).mpr z)
                    refine lv_iload hx hb dX11_hear_148 (lv_at hl 0 rfl) ?_
                    refine lv_if_eq (tgt := 224) hx hb dX11_hear_150 (by decide) (fun c_150 => ?_) (fun c_150 => ?_)
                    · have c_150 : 0 = 0 := nz_0 (by omega) c_150
                      refine lv_aload_n hx hb dX11_hear_224 rfl (lv_at hl 3 rfl) ?_
                      refine lv_iload_n hx hb dX11_hear_225 rfl (lv_at hl 4 rfl) ?_
                      refine hp_kvm (hp_runV (As := [.int (nI t)]) (rest := []) hx hb hml hown hS hH (c_X11_back l X ht (by omega) f_o f_4) M_X11_133 I_X11_back V_X11_back (ci := 7) rfl rfl f_o rfl hl.1 rfl (Nat.le_of_ble_eq_true rfl) dX11_hear_226 ⟨Nat.le_of_ble_eq_true rfl, Nat.le_of_ble_eq_true rfl⟩ ⟨Nat.le_of_ble_eq_true rfl, Nat.le_of_ble_eq_true rfl⟩) hH (fun μ1 H locs hp hH => ?_)
                      obtain ⟨fz0, fe⟩ := hp
                      have f_o := (fe.at0 (by decide)).trans f_o
                      have f_1 := (fe.at 1 (by decide)).trans f_1
                      have f_5 := (fe.at 5 (by decide)).trans f_5
                      have f_6 := (fe.at 6 (by decide)).trans f_6
                      have f_9 := (fe.at 9 (by decide)).trans f_9
                      have f_10 := (fe.at 10 (by decide)).trans f_10
                      have f_11 := (fe.at 11 (by decide)).trans f_11
                      have f_4 : μ1 (o + 4) = some (hp_n X 17 (setN S t (if S t < 4 then 1 else 4))) := fz0
                      have fr := hp_eqM.tr fe fr (by decide)
                      clear fe fz0
                      have f_4 := f_4.trans (congrArg (fun g => some (hp_n X 17 g)) (show setN S t (if S t < 4 then 1 else 4) = setN S t 1 from by rw [hs]; rfl))
                      refine lv_goto (tgt := 348) hx hb dX11_hear_229 (by decide) ?_
                      have hR : hrR kd (decide (kl = L t)) (mtN sl td tc) lv 2 (L t) = 0 := by first | (simp [hrR, c_74, c_95, c_113]; done) | (exfalso; omega)
                      have hSn : hrS kd (decide (kl = L t)) (mtN sl td tc) lv 2 (L t) = 1 := by first | (simp [hrS, bkS, c_74, c_95, c_113]; done) | (exfalso; omega)
                      have hLn : hrL kd (decide (kl = L t)) (mtN sl td tc) lv 2 (L t) = L t := by first | (simp [hrL, c_74, c_95, c_113]; done) | (exfalso; omega)
                      have f_4 := f_4.trans (congrArg (fun g => some (hp_n X 17 g)) (show setN S t 1 = setN S t (hrS kd (decide (kl = L t)) (mtN sl td tc) lv 2 (L t)) from by rw [hSn]))
                      have f_5 := f_5.trans (congrArg (fun g => some (hp_n X 17 g)) (show L = setN L t (hrL kd (decide (kl = L t)) (mtN sl td tc) lv 2 (L t)) from by rw [hLn, setN_id]))
                      have f_o : μ1 o = some (hp_o 7 [.int (nI n), .ref (o + 1), .ref (o + 2), .ref (o + 3), .ref (o + 4), .ref (o + 5), .ref (o + 6), .int (nB on), .int (nI tz), .ref (o + 7), .int (nI se), .ref (o + 8), .ref (o + 9), .int (nI kd), .int (nI kl), .int (nI tc), .ref (o + 10), .int (nI (saL (hrR kd (decide (kl = L t)) (mtN sl td tc) lv 2 (L t)) tc)), .ref (o + 11), .int (nI hd), .ref (o + 12), .int (nI an), .ref (o + 13), .int (nI fm), .int (nI fo), .ref (o + 14), .ref (o + 15), .int (nI kc), .ref (o + 16)]) := by rw [hR]; exact f_o
                      exact hp_rv hx hb hr hlocks hS hH (⟨rfl, J, h01, f_o, f_4, f_5, f_11, (fun j hj => by rw [hR] at hj; exact absurd hj (Nat.not_lt_zero _)), fr⟩) dX11_hear_348
                    · exact absurd c_150 (by decide)
                  · have c_132 : kd = 3 := (nI_eq (by omega) (by omega)).mp c_132
                    refine lv_iload hx hb dX11_hear_135 (lv_at hl 0 rfl) ?_
                    refine lv_if_eq (tgt := 229) hx hb dX11_hear_137 (by decide) (fun c_137 => ?_) (fun c_137 => ?_)
                    · have c_137 : 0 = 0 := nz_0 (by omega) c_137
                      refine lv_goto (tgt := 348) hx hb dX11_hear_229 (by decide) ?_
                      have hR : hrR kd (decide (kl = L t)) (mtN sl td tc) lv 2 (L t) = 0 := by first | (simp [hrR, c_74, c_95, c_113]; done) | (exfalso; omega)
                      have hSn : hrS kd (decide (kl = L t)) (mtN sl td tc) lv 2 (L t) = 2 := by first | (simp [hrS, bkS, c_74, c_95, c_113]; done) | (exfalso; omega)
                      have hLn : hrL kd (decide (kl = L t)) (mtN sl td tc) lv 2 (L t) = L t := by first | (simp [hrL, c_74, c_95, c_113]; done) | (exfalso; omega)
                      have f_4 := f_4.trans (congrArg (fun g => some (hp_n X 17 g)) (show S = setN S t (hrS kd (decide (kl = L t)) (mtN sl td tc) lv 2 (L t)) from by rw [hSn, ← hs, setN_id]))
                      have f_5 := f_5.trans (congrArg (fun g => some (hp_n X 17 g)) (show L = setN L t (hrL kd (decide (kl = L t)) (mtN sl td tc) lv 2 (L t)) from by rw [hLn, setN_id]))
                      have f_o : μ o = some (hp_o 7 [.int (nI n), .ref (o + 1), .ref (o + 2), .ref (o + 3), .ref (o + 4), .ref (o + 5), .ref (o + 6), .int (nB on), .int (nI tz), .ref (o + 7), .int (nI se), .ref (o + 8), .ref (o + 9), .int (nI kd), .int (nI kl), .int (nI tc), .ref (o + 10), .int (nI (saL (hrR kd (decide (kl = L t)) (mtN sl td tc) lv 2 (L t)) tc)), .ref (o + 11), .int (nI hd), .ref (o + 12), .int (nI an), .ref (o + 13), .int (nI fm), .int (nI fo), .ref (o + 14), .ref (o + 15), .int (nI kc), .ref (o + 16)]) := by rw [hR]; exact f_o
                      exact hp_rv hx hb hr hlocks hS hH (⟨rfl, J, h01, f_o, f_4, f_5, f_11, (fun j hj => by rw [hR] at hj; exact absurd hj (Nat.not_lt_zero _)), fr⟩) dX11_hear_348
                    · exact absurd c_137 (by decide)
              · have c_113 : (mtN sl td tc) = true := nB_n c_113
                refine lv_iconst (v := nI 1) hx hb dX11_hear_116 (by decide) ?_
                refine lv_goto (tgt := 121) hx hb dX11_hear_117 (by decide) ?_
                refine lv_istore (lv' := [(4, .int (nI 1)), (3, .int (nI 1)), (2, .int (nI 2)), (0, .ref o), (1, .int (nI t))]) hx hb dX11_hear_121 hl (by decide) rfl (fun ls hl => ?_)
                refine lv_iload_n hx hb dX11_hear_123 rfl (lv_at hl 1 rfl) ?_
                refine lv_if_eq (tgt := 148) hx hb dX11_hear_124 (by decide) (fun c_124 => ?_) (fun c_124 => ?_)
                · exact absurd c_124 (by decide)
                · have c_124 : ¬ (1 = 0) := nz_n (by omega) c_124
                  refine lv_aload_n hx hb dX11_hear_127 rfl (lv_at hl 3 rfl) ?_
                  refine hp_get hx hb hown hS.2.1 hH (F_X11_98.use hS) f_o rfl dX11_hear_128 ?_
                  refine lv_iconst (v := nI 3) hx hb dX11_hear_131 (by decide) ?_
                  refine lv_icmp_ne (tgt := 148) hx hb dX11_hear_132 (by decide) (fun c_132 => ?_) (fun c_132 => ?_)
                  · have c_132 : ¬ (kd = 3) := fun z => c_132 ((nI_eq (by omega) (by omega)).mpr z)
                    refine lv_iload hx hb dX11_hear_148 (lv_at hl 0 rfl) ?_
                    refine lv_if_eq (tgt := 224) hx hb dX11_hear_150 (by decide) (fun c_150 => ?_) (fun c_150 => ?_)
                    · exact absurd c_150 (by decide)
                    · have c_150 : ¬ (1 = 0) := nz_n (by omega) c_150
                      refine lv_aload_n hx hb dX11_hear_153 rfl (lv_at hl 3 rfl) ?_
                      refine hp_get hx hb hown hS.2.1 hH (F_X11_23.use hS) f_o rfl dX11_hear_154 ?_
                      refine lv_iload_n hx hb dX11_hear_157 rfl (lv_at hl 4 rfl) ?_
                      refine hp_ialdN hx hb hS.ai hH f_5 (by omega) (by omega) dX11_hear_158 ?_
                      refine lv_aload_n hx hb dX11_hear_159 rfl (lv_at hl 3 rfl) ?_
                      refine lv_iload_n hx hb dX11_hear_160 rfl (lv_at hl 4 rfl) ?_
                      refine hp_kip (hp_runV (As := [.int (nI t)]) (rest := [.int (nI (L t))]) hx hb hml hown hS hH (c_X11_levels l X ht (by omega) f_o f_1) M_X11_127 I_X11_levels V_X11_levels (ci := 7) rfl rfl f_o rfl hl.1 rfl (Nat.le_of_ble_eq_true rfl) dX11_hear_161 ⟨Nat.le_of_ble_eq_true rfl, Nat.le_of_ble_eq_true rfl⟩ ⟨Nat.le_of_ble_eq_true rfl, Nat.le_of_ble_eq_true rfl⟩) hH (fun H locs hH => ?_)
                      refine hp_eqi (z := nI lv) (congrArg nI (show Z t / 3 = lv by omega)) ?_
                      refine lv_icmp_ne (tgt := 171) hx hb dX11_hear_164 (by decide) (fun c_164 => ?_) (fun c_164 => ?_)
                      · have c_164 : ¬ ((L t) = lv) := fun z => c_164 ((nI_eq (by omega) (by omega)).mpr z)
                        have hlt : L t < lv := by omega
                        refine lv_iconst (v := nI 0) hx hb dX11_hear_171 (by decide) ?_
                        refine lv_istore (lv' := [(5, .int (nI 0)), (4, .int (nI 1)), (3, .int (nI 1)), (2, .int (nI 2)), (0, .ref o), (1, .int (nI t))]) hx hb dX11_hear_172 hl (by decide) rfl (fun ls hl => ?_)
                        refine lv_aload_n hx hb dX11_hear_174 rfl (lv_at hl 4 rfl) ?_
                        refine lv_iload hx hb dX11_hear_175 (lv_at hl 0 rfl) ?_
                        refine lv_if_eq (tgt := 185) hx hb dX11_hear_177 (by decide) (fun c_177 => ?_) (fun c_177 => ?_)
                        · have c_177 : 0 = 0 := nz_0 (by omega) c_177
                          refine lv_iconst (v := nI 4) hx hb dX11_hear_185 (by decide) ?_
                          refine hp_kvm (hp_runV (As := [.int (nI 4)]) (rest := []) hx hb hml hown hS hH (c_X11_say l X (v := 4) (by omega) (by omega) f_o f_11) M_X11_113 I_X11_say V_X11_say (ci := 7) rfl rfl f_o rfl hl.1 rfl (Nat.le_of_ble_eq_true rfl) dX11_hear_186 ⟨Nat.le_of_ble_eq_true rfl, Nat.le_of_ble_eq_true rfl⟩ ⟨Nat.le_of_ble_eq_true rfl, Nat.le_of_ble_eq_true rfl⟩) hH (fun μ1 H locs hp hH => ?_)
                          obtain ⟨fz0, fz1, fe⟩ := hp
                          have f_1 := (fe.at 1 (by decide)).trans f_1
                          have f_4 := (fe.at 4 (by decide)).trans f_4
                          have f_5 := (fe.at 5 (by decide)).trans f_5
                          have f_6 := (fe.at 6 (by decide)).trans f_6
                          have f_9 := (fe.at 9 (by decide)).trans f_9
                          have f_10 := (fe.at 10 (by decide)).trans f_10
                          have f_o : μ1 o = some (hp_o 7 [.int (nI n), .ref (o + 1), .ref (o + 2), .ref (o + 3), .ref (o + 4), .ref (o + 5), .ref (o + 6), .int (nB on), .int (nI tz), .ref (o + 7), .int (nI se), .ref (o + 8), .ref (o + 9), .int (nI kd), .int (nI kl), .int (nI tc), .ref (o + 10), .int (nI 9), .ref (o + 11), .int (nI hd), .ref (o + 12), .int (nI an), .ref (o + 13), .int (nI fm), .int (nI fo), .ref (o + 14), .ref (o + 15), .int (nI kc), .ref (o + 16)]) := fz0
                          have f_11 : μ1 (o + 11) = some (hp_n X 64 (apO J 0 4)) := fz1
                          have fr := hp_eqM.tr fe fr (by decide)
                          clear fe fz0 fz1
                          refine lv_aload_n hx hb dX11_hear_189 rfl (lv_at hl 4 rfl) ?_
                          refine lv_iconst (v := nI 0) hx hb dX11_hear_190 (by decide) ?_
                          refine hp_kvm (hp_runV (As := [.int (nI 0)]) (rest := []) hx hb hml hown hS hH (c_X11_sayChecked l X (k := 1) (Bv := 4) (apO_01 h01 _ _) (by decide) (o1_bits (v := 4) (by omega)) f_o f_11) M_X11_130 I_X11_sayChecked V_X11_sayChecked (ci := 7) rfl rfl f_o rfl hl.1 rfl (Nat.le_of_ble_eq_true rfl) dX11_hear_191 ⟨Nat.le_of_ble_eq_true rfl, Nat.le_of_ble_eq_true rfl⟩ ⟨Nat.le_of_ble_eq_true rfl, Nat.le_of_ble_eq_true rfl⟩) hH (fun μ1 H locs hp hH => ?_)
                          obtain ⟨fz0, fz1, fe⟩ := hp
                          have f_1 := (fe.at 1 (by decide)).trans f_1
                          have f_4 := (fe.at 4 (by decide)).trans f_4
                          have f_5 := (fe.at 5 (by decide)).trans f_5
                          have f_6 := (fe.at 6 (by decide)).trans f_6
                          have f_9 := (fe.at 9 (by decide)).trans f_9
                          have f_10 := (fe.at 10 (by decide)).trans f_10
                          have f_o : μ1 o = some (hp_o 7 [.int (nI n), .ref (o + 1), .ref (o + 2), .ref (o + 3), .ref (o + 4), .ref (o + 5), .ref (o + 6), .int (nB on), .int (nI tz), .ref (o + 7), .int (nI se), .ref (o + 8), .ref (o + 9), .int (nI kd), .int (nI kl), .int (nI tc), .ref (o + 10), .int (nI 27), .ref (o + 11), .int (nI hd), .ref (o + 12), .int (nI an), .ref (o + 13), .int (nI fm), .int (nI fo), .ref (o + 14), .ref (o + 15), .int (nI kc), .ref (o + 16)]) := fz0
                          have f_11 : μ1 (o + 11) = some (hp_n X 64 (apO (apO (apO J 0 4) (9 * 1) (crcB 4 1 % 256)) (9 * 1 + 9) (crcB 4 1 / 256))) := fz1
                          have fr := hp_eqM.tr fe fr (by decide)
                          clear fe fz0 fz1
                          refine lv_iload hx hb dX11_hear_194 (lv_at hl 0 rfl) ?_
                          refine lv_if_eq (tgt := 211) hx hb dX11_hear_196 (by decide) (fun c_196 => ?_) (fun c_196 => ?_)
                          · have c_196 : 0 = 0 := nz_0 (by omega) c_196
                            refine lv_aload_n hx hb dX11_hear_211 rfl (lv_at hl 4 rfl) ?_
                            refine hp_get hx hb hown hS.2.1 hH (F_X11_23.use hS) f_o rfl dX11_hear_212 ?_
                            refine lv_iload_n hx hb dX11_hear_215 rfl (lv_at hl 5 rfl) ?_
                            refine lv_dup2_11 hx hb dX11_hear_216 rfl rfl ?_
                            refine hp_ialdN hx hb hS.ai hH f_5 (by omega) (by omega) dX11_hear_217 ?_
                            refine lv_iconst (v := nI 1) hx hb dX11_hear_218 (by decide) ?_
                            refine lv_iadd hx hb dX11_hear_219 ?_
                            refine hp_eqi (z := nI ((L t) + 1)) (nI_add _ _) ?_
                            refine hp_iastN hx hb hS.ai hH f_5 (by omega) (by omega) dX11_hear_220 (fun H locs μ1 fz fn hH => ?_)
                            have f_o := (fn _ (by omega)).trans f_o
                            have f_1 := (fn _ (by omega)).trans f_1
                            have f_4 := (fn _ (by omega)).trans f_4
                            have f_6 := (fn _ (by omega)).trans f_6
                            have f_9 := (fn _ (by omega)).trans f_9
                            have f_10 := (fn _ (by omega)).trans f_10
                            have f_11 := (fn _ (by omega)).trans f_11
                            have f_5 : μ1 (o + 5) = some (hp_n X 17 (setN L t ((L t) + 1))) := fz
                            have fr := hp_eqM.put (k := 5) fr (by decide) fn
                            clear fz fn
                            refine lv_goto (tgt := 229) hx hb dX11_hear_221 (by decide) ?_
                            refine lv_goto (tgt := 348) hx hb dX11_hear_229 (by decide) ?_
                            have hR : hrR kd (decide (kl = L t)) (mtN sl td tc) lv 2 (L t) = 3 := by first | (simp [hrR, c_74, c_95, c_113, hlt]; done) | (exfalso; omega)
                            have hSn : hrS kd (decide (kl = L t)) (mtN sl td tc) lv 2 (L t) = 2 := by first | (simp [hrS, bkS, c_74, c_95, c_113, hlt]; done) | (exfalso; omega)
                            have hLn : hrL kd (decide (kl = L t)) (mtN sl td tc) lv 2 (L t) = ((L t) + 1) := by first | (simp [hrL, c_74, c_95, c_113, hlt]; done) | (exfalso; omega)
                            have f_4 := f_4.trans (congrArg (fun g => some (hp_n X 17 g)) (show S = setN S t (hrS kd (decide (kl = L t)) (mtN sl td tc) lv 2 (L t)) from by rw [hSn, ← hs, setN_id]))
                            have f_5 := f_5.trans (congrArg (fun g => some (hp_n X 17 g)) (show setN L t ((L t) + 1) = setN L t (hrL kd (decide (kl = L t)) (mtN sl td tc) lv 2 (L t)) from by rw [hLn]))
                            have f_o : μ1 o = some (hp_o 7 [.int (nI n), .ref (o + 1), .ref (o + 2), .ref (o + 3), .ref (o + 4), .ref (o + 5), .ref (o + 6), .int (nB on), .int (nI tz), .ref (o + 7), .int (nI se), .ref (o + 8), .ref (o + 9), .int (nI kd), .int (nI kl), .int (nI tc), .ref (o + 10), .int (nI (saL (hrR kd (decide (kl = L t)) (mtN sl td tc) lv 2 (L t)) tc)), .ref (o + 11), .int (nI hd), .ref (o + 12), .int (nI an), .ref (o + 13), .int (nI fm), .int (nI fo), .ref (o + 14), .ref (o + 15), .int (nI kc), .ref (o + 16)]) := by rw [hR]; exact f_o
                            exact hp_rv hx hb hr hlocks hS hH (⟨rfl, (apO (apO (apO J 0 4) (9 * 1) (crcB 4 1 % 256)) (9 * 1 + 9) (crcB 4 1 / 256)), apO_01 (apO_01 (apO_01 h01 _ _) _ _) _ _, f_o, f_4, f_5, f_11, (fun j hj => by rw [hR] at hj ⊢; exact (sc_bits (k := 1) (B := 4) (by omega) (o1_bits (v := 4) (by omega))) j hj), fr⟩) dX11_hear_348
                          · exact absurd c_196 (by decide)
                        · exact absurd c_177 (by decide)
                      · have c_164 : (L t) = lv := (nI_eq (by omega) (by omega)).mp c_164
                        have hlt : ¬ L t < lv := by omega
                        refine lv_iconst (v := nI 1) hx hb dX11_hear_167 (by decide) ?_
                        refine lv_goto (tgt := 172) hx hb dX11_hear_168 (by decide) ?_
                        refine lv_istore (lv' := [(5, .int (nI 1)), (4, .int (nI 1)), (3, .int (nI 1)), (2, .int (nI 2)), (0, .ref o), (1, .int (nI t))]) hx hb dX11_hear_172 hl (by decide) rfl (fun ls hl => ?_)
                        refine lv_aload_n hx hb dX11_hear_174 rfl (lv_at hl 4 rfl) ?_
                        refine lv_iload hx hb dX11_hear_175 (lv_at hl 0 rfl) ?_
                        refine lv_if_eq (tgt := 185) hx hb dX11_hear_177 (by decide) (fun c_177 => ?_) (fun c_177 => ?_)
                        · exact absurd c_177 (by decide)
                        · have c_177 : ¬ (1 = 0) := nz_n (by omega) c_177
                          refine lv_bipush (v := nI 32) hx hb dX11_hear_180 (by decide) ?_
                          refine lv_goto (tgt := 186) hx hb dX11_hear_182 (by decide) ?_
                          refine hp_kvm (hp_runV (As := [.int (nI 32)]) (rest := []) hx hb hml hown hS hH (c_X11_say l X (v := 32) (by omega) (by omega) f_o f_11) M_X11_113 I_X11_say V_X11_say (ci := 7) rfl rfl f_o rfl hl.1 rfl (Nat.le_of_ble_eq_true rfl) dX11_hear_186 ⟨Nat.le_of_ble_eq_true rfl, Nat.le_of_ble_eq_true rfl⟩ ⟨Nat.le_of_ble_eq_true rfl, Nat.le_of_ble_eq_true rfl⟩) hH (fun μ1 H locs hp hH => ?_)
                          obtain ⟨fz0, fz1, fe⟩ := hp
                          have f_1 := (fe.at 1 (by decide)).trans f_1
                          have f_4 := (fe.at 4 (by decide)).trans f_4
                          have f_5 := (fe.at 5 (by decide)).trans f_5
                          have f_6 := (fe.at 6 (by decide)).trans f_6
                          have f_9 := (fe.at 9 (by decide)).trans f_9
                          have f_10 := (fe.at 10 (by decide)).trans f_10
                          have f_o : μ1 o = some (hp_o 7 [.int (nI n), .ref (o + 1), .ref (o + 2), .ref (o + 3), .ref (o + 4), .ref (o + 5), .ref (o + 6), .int (nB on), .int (nI tz), .ref (o + 7), .int (nI se), .ref (o + 8), .ref (o + 9), .int (nI kd), .int (nI kl), .int (nI tc), .ref (o + 10), .int (nI 9), .ref (o + 11), .int (nI hd), .ref (o + 12), .int (nI an), .ref (o + 13), .int (nI fm), .int (nI fo), .ref (o + 14), .ref (o + 15), .int (nI kc), .ref (o + 16)]) := fz0
                          have f_11 : μ1 (o + 11) = some (hp_n X 64 (apO J 0 32)) := fz1
                          have fr := hp_eqM.tr fe fr (by decide)
                          clear fe fz0 fz1
                          refine lv_aload_n hx hb dX11_hear_189 rfl (lv_at hl 4 rfl) ?_
                          refine lv_iconst (v := nI 0) hx hb dX11_hear_190 (by decide) ?_
                          refine hp_kvm (hp_runV (As := [.int (nI 0)]) (rest := []) hx hb hml hown hS hH (c_X11_sayChecked l X (k := 1) (Bv := 32) (apO_01 h01 _ _) (by decide) (o1_bits (v := 32) (by omega)) f_o f_11) M_X11_130 I_X11_sayChecked V_X11_sayChecked (ci := 7) rfl rfl f_o rfl hl.1 rfl (Nat.le_of_ble_eq_true rfl) dX11_hear_191 ⟨Nat.le_of_ble_eq_true rfl, Nat.le_of_ble_eq_true rfl⟩ ⟨Nat.le_of_ble_eq_true rfl, Nat.le_of_ble_eq_true rfl⟩) hH (fun μ1 H locs hp hH => ?_)
                          obtain ⟨fz0, fz1, fe⟩ := hp
                          have f_1 := (fe.at 1 (by decide)).trans f_1
                          have f_4 := (fe.at 4 (by decide)).trans f_4
                          have f_5 := (fe.at 5 (by decide)).trans f_5
                          have f_6 := (fe.at 6 (by decide)).trans f_6
                          have f_9 := (fe.at 9 (by decide)).trans f_9
                          have f_10 := (fe.at 10 (by decide)).trans f_10
                          have f_o : μ1 o = some (hp_o 7 [.int (nI n), .ref (o + 1), .ref (o + 2), .ref (o + 3), .ref (o + 4), .ref (o + 5), .ref (o + 6), .int (nB on), .int (nI tz), .ref (o + 7), .int (nI se), .ref (o + 8), .ref (o + 9), .int (nI kd), .int (nI kl), .int (nI tc), .ref (o + 10), .int (nI 27), .ref (o + 11), .int (nI hd), .ref (o + 12), .int (nI an), .ref (o + 13), .int (nI fm), .int (nI fo), .ref (o + 14), .ref (o + 15), .int (nI kc), .ref (o + 16)]) := fz0
                          have f_11 : μ1 (o + 11) = some (hp_n X 64 (apO (apO (apO J 0 32) (9 * 1) (crcB 32 1 % 256)) (9 * 1 + 9) (crcB 32 1 / 256))) := fz1
                          have fr := hp_eqM.tr fe fr (by decide)
                          clear fe fz0 fz1
                          refine lv_iload hx hb dX11_hear_194 (lv_at hl 0 rfl) ?_
                          refine lv_if_eq (tgt := 211) hx hb dX11_hear_196 (by decide) (fun c_196 => ?_) (fun c_196 => ?_)
                          · exact absurd c_196 (by decide)
                          · have c_196 : ¬ (1 = 0) := nz_n (by omega) c_196
                            refine lv_aload_n hx hb dX11_hear_199 rfl (lv_at hl 4 rfl) ?_
                            refine hp_get hx hb hown hS.2.1 hH (F_X11_20.use hS) f_o rfl dX11_hear_200 ?_
                            refine lv_iload_n hx hb dX11_hear_203 rfl (lv_at hl 5 rfl) ?_
                            refine lv_iload_n hx hb dX11_hear_204 rfl (lv_at hl 3 rfl) ?_
                            refine lv_iconst (v := nI 1) hx hb dX11_hear_205 (by decide) ?_
                            refine lv_iadd hx hb dX11_hear_206 ?_
                            refine hp_eqi (z := nI 3) (nI_add _ _) ?_
                            refine hp_iastN hx hb hS.ai hH f_4 (by omega) (by omega) dX11_hear_207 (fun H locs μ1 fz fn hH => ?_)
                            have f_o := (fn _ (by omega)).trans f_o
                            have f_1 := (fn _ (by omega)).trans f_1
                            have f_5 := (fn _ (by omega)).trans f_5
                            have f_6 := (fn _ (by omega)).trans f_6
                            have f_9 := (fn _ (by omega)).trans f_9
                            have f_10 := (fn _ (by omega)).trans f_10
                            have f_11 := (fn _ (by omega)).trans f_11
                            have f_4 : μ1 (o + 4) = some (hp_n X 17 (setN S t 3)) := fz
                            have fr := hp_eqM.put (k := 4) fr (by decide) fn
                            clear fz fn
                            refine lv_goto (tgt := 221) hx hb dX11_hear_208 (by decide) ?_
                            refine lv_goto (tgt := 229) hx hb dX11_hear_221 (by decide) ?_
                            refine lv_goto (tgt := 348) hx hb dX11_hear_229 (by decide) ?_
                            have hR : hrR kd (decide (kl = L t)) (mtN sl td tc) lv 2 (L t) = 4 := by first | (simp [hrR, c_74, c_95, c_113, hlt]; done) | (exfalso; omega)
                            have hSn : hrS kd (decide (kl = L t)) (mtN sl td tc) lv 2 (L t) = 3 := by first | (simp [hrS, bkS, c_74, c_95, c_113, hlt]; done) | (exfalso; omega)
                            have hLn : hrL kd (decide (kl = L t)) (mtN sl td tc) lv 2 (L t) = L t := by first | (simp [hrL, c_74, c_95, c_113, hlt]; done) | (exfalso; omega)
                            have f_4 := f_4.trans (congrArg (fun g => some (hp_n X 17 g)) (show setN S t 3 = setN S t (hrS kd (decide (kl = L t)) (mtN sl td tc) lv 2 (L t)) from by rw [hSn]))
                            have f_5 := f_5.trans (congrArg (fun g => some (hp_n X 17 g)) (show L = setN L t (hrL kd (decide (kl = L t)) (mtN sl td tc) lv 2 (L t)) from by rw [hLn, setN_id]))
                            have f_o : μ1 o = some (hp_o 7 [.int (nI n), .ref (o + 1), .ref (o + 2), .ref (o + 3), .ref (o + 4), .ref (o + 5), .ref (o + 6), .int (nB on), .int (nI tz), .ref (o + 7), .int (nI se), .ref (o + 8), .ref (o + 9), .int (nI kd), .int (nI kl), .int (nI tc), .ref (o + 10), .int (nI (saL (hrR kd (decide (kl = L t)) (mtN sl td tc) lv 2 (L t)) tc)), .ref (o + 11), .int (nI hd), .ref (o + 12), .int (nI an), .ref (o + 13), .int (nI fm), .int (nI fo), .ref (o + 14), .ref (o + 15), .int (nI kc), .ref (o + 16)]) := by rw [hR]; exact f_o
                            exact hp_rv hx hb hr hlocks hS hH (⟨rfl, (apO (apO (apO J 0 32) (9 * 1) (crcB 32 1 % 256)) (9 * 1 + 9) (crcB 32 1 / 256)), apO_01 (apO_01 (apO_01 h01 _ _) _ _) _ _, f_o, f_4, f_5, f_11, (fun j hj => by rw [hR] at hj ⊢; exact (sc_bits (k := 1) (B := 32) (by omega) (o1_bits (v := 32) (by omega))) j hj), fr⟩) dX11_hear_348
                  · have c_132 : kd = 3 := (nI_eq (by omega) (by omega)).mp c_132
                    refine lv_iload hx hb dX11_hear_135 (lv_at hl 0 rfl) ?_
                    refine lv_if_eq (tgt := 229) hx hb dX11_hear_137 (by decide) (fun c_137 => ?_) (fun c_137 => ?_)
                    · exact absurd c_137 (by decide)
                    · have c_137 : ¬ (1 = 0) := nz_n (by omega) c_137
                      refine lv_aload_n hx hb dX11_hear_140 rfl (lv_at hl 3 rfl) ?_
                      refine lv_iload_n hx hb dX11_hear_141 rfl (lv_at hl 4 rfl) ?_
                      refine hp_kvm (hp_runV (As := [.int (nI t)]) (rest := []) hx hb hml hown hS hH (c_X11_sayRest l X ht hL1 hL3 (hkd (by omega)).1 h01 hsh f_o f_5 f_6 f_11) M_X11_124 I_X11_sayRest V_X11_sayRest (ci := 7) rfl rfl f_o rfl hl.1 rfl (Nat.le_of_ble_eq_true rfl) dX11_hear_142 ⟨Nat.le_of_ble_eq_true rfl, Nat.le_of_ble_eq_true rfl⟩ ⟨Nat.le_of_ble_eq_true rfl, Nat.le_of_ble_eq_true rfl⟩) hH (fun μ1 H locs hp hH => ?_)
                      obtain ⟨J9, h019, fz0, fz1, hJ9, fe⟩ := hp
                      have f_1 := (fe.at 1 (by decide)).trans f_1
                      have f_4 := (fe.at 4 (by decide)).trans f_4
                      have f_5 := (fe.at 5 (by decide)).trans f_5
                      have f_6 := (fe.at 6 (by decide)).trans f_6
                      have f_9 := (fe.at 9 (by decide)).trans f_9
                      have f_10 := (fe.at 10 (by decide)).trans f_10
                      have f_o := fz0
                      have f_11 := fz1
                      have fr := hp_eqM.tr fe fr (by decide)
                      refine lv_goto (tgt := 229) hx hb dX11_hear_145 (by decide) ?_
                      refine lv_goto (tgt := 348) hx hb dX11_hear_229 (by decide) ?_
                      have hR : hrR kd (decide (kl = L t)) (mtN sl td tc) lv 2 (L t) = 2 := by first | (simp [hrR, c_74, c_95, c_113]; done) | (exfalso; omega)
                      have hSn : hrS kd (decide (kl = L t)) (mtN sl td tc) lv 2 (L t) = 2 := by first | (simp [hrS, bkS, c_74, c_95, c_113]; done) | (exfalso; omega)
                      have hLn : hrL kd (decide (kl = L t)) (mtN sl td tc) lv 2 (L t) = L t := by first | (simp [hrL, c_74, c_95, c_113]; done) | (exfalso; omega)
                      have f_4 := f_4.trans (congrArg (fun g => some (hp_n X 17 g)) (show S = setN S t (hrS kd (decide (kl = L t)) (mtN sl td tc) lv 2 (L t)) from by rw [hSn, ← hs, setN_id]))
                      have f_5 := f_5.trans (congrArg (fun g => some (hp_n X 17 g)) (show L = setN L t (hrL kd (decide (kl = L t)) (mtN sl td tc) lv 2 (L t)) from by rw [hLn, setN_id]))
                      have f_o : μ1 o = some (hp_o 7 [.int (nI n), .ref (o + 1), .ref (o + 2), .ref (o + 3), .ref (o + 4), .ref (o + 5), .ref (o + 6), .int (nB on), .int (nI tz), .ref (o + 7), .int (nI se), .ref (o + 8), .ref (o + 9), .int (nI kd), .int (nI kl), .int (nI tc), .ref (o + 10), .int (nI (saL (hrR kd (decide (kl = L t)) (mtN sl td tc) lv 2 (L t)) tc)), .ref (o + 11), .int (nI hd), .ref (o + 12), .int (nI an), .ref (o + 13), .int (nI fm), .int (nI fo), .ref (o + 14), .ref (o + 15), .int (nI kc), .ref (o + 16)]) := by rw [hR]; exact f_o
                      exact hp_rv hx hb hr hlocks hS hH (⟨rfl, J9, h019, f_o, f_4, f_5, f_11, (fun j hj => by rw [hR] at hj ⊢; exact hJ9 j hj), fr⟩) dX11_hear_348
        · have c_74 : ¬ (kd = 3) := fun z => c_74 ((nI_eq (by omega) (by omega)).mpr z)
          refine lv_aload_n hx hb dX11_hear_77 rfl (lv_at hl 1 rfl) ?_
          refine hp_get hx hb hown hS.2.1 hH (F_X11_98.use hS) f_o rfl dX11_hear_78 ?_
          refine lv_iconst (v := nI 4) hx hb dX11_hear_81 (by decide) ?_
          refine lv_icmp_ne (tgt := 102) hx hb dX11_hear_82 (by decide) (fun c_82 => ?_) (fun c_82 => ?_)
          · have c_82 : ¬ (kd = 4) := fun z => c_82 ((nI_eq (by omega) (by omega)).mpr z)
            refine lv_iconst (v := nI 0) hx hb dX11_hear_102 (by decide) ?_
            refine lv_istore_n (lv' := [(3, .int (nI 0)), (2, .int (nI 2)), (0, .ref o), (1, .int (nI t))]) hx hb dX11_hear_103 rfl hl (by decide) rfl (fun ls hl => ?_)
            refine lv_iload_n hx hb dX11_hear_104 rfl (lv_at hl 0 rfl) ?_
            refine lv_if_eq (tgt := 120) hx hb dX11_hear_105 (by decide) (fun c_105 => ?_) (fun c_105 => ?_)
            · have c_105 : 0 = 0 := nz_0 (by omega) c_105
              refine lv_iconst (v := nI 0) hx hb dX11_hear_120 (by decide) ?_
              refine lv_istore (lv' := [(4, .int (nI 0)), (3, .int (nI 0)), (2, .int (nI 2)), (0, .ref o), (1, .int (nI t))]) hx hb dX11_hear_121 hl (by decide) rfl (fun ls hl => ?_)
              refine lv_iload_n hx hb dX11_hear_123 rfl (lv_at hl 1 rfl) ?_
              refine lv_if_eq (tgt := 148) hx hb dX11_hear_124 (by decide) (fun c_124 => ?_) (fun c_124 => ?_)
              · have c_124 : 0 = 0 := nz_0 (by omega) c_124
                refine lv_iload hx hb dX11_hear_148 (lv_at hl 0 rfl) ?_
                refine lv_if_eq (tgt := 224) hx hb dX11_hear_150 (by decide) (fun c_150 => ?_) (fun c_150 => ?_)
                · have c_150 : 0 = 0 := nz_0 (by omega) c_150
                  refine lv_aload_n hx hb dX11_hear_224 rfl (lv_at hl 3 rfl) ?_
                  refine lv_iload_n hx hb dX11_hear_225 rfl (lv_at hl 4 rfl) ?_
                  refine hp_kvm (hp_runV (As := [.int (nI t)]) (rest := []) hx hb hml hown hS hH (c_X11_back l X ht (by omega) f_o f_4) M_X11_133 I_X11_back V_X11_back (ci := 7) rfl rfl f_o rfl hl.1 rfl (Nat.le_of_ble_eq_true rfl) dX11_hear_226 ⟨Nat.le_of_ble_eq_true rfl, Nat.le_of_ble_eq_true rfl⟩ ⟨Nat.le_of_ble_eq_true rfl, Nat.le_of_ble_eq_true rfl⟩) hH (fun μ1 H locs hp hH => ?_)
                  obtain ⟨fz0, fe⟩ := hp
                  have f_o := (fe.at0 (by decide)).trans f_o
                  have f_1 := (fe.at 1 (by decide)).trans f_1
                  have f_5 := (fe.at 5 (by decide)).trans f_5
                  have f_6 := (fe.at 6 (by decide)).trans f_6
                  have f_9 := (fe.at 9 (by decide)).trans f_9
                  have f_10 := (fe.at 10 (by decide)).trans f_10
                  have f_11 := (fe.at 11 (by decide)).trans f_11
                  have f_4 : μ1 (o + 4) = some (hp_n X 17 (setN S t (if S t < 4 then 1 else 4))) := fz0
                  have fr := hp_eqM.tr fe fr (by decide)
                  clear fe fz0
                  have f_4 := f_4.trans (congrArg (fun g => some (hp_n X 17 g)) (show setN S t (if S t < 4 then 1 else 4) = setN S t 1 from by rw [hs]; rfl))
                  refine lv_goto (tgt := 348) hx hb dX11_hear_229 (by decide) ?_
                  have hR : hrR kd (decide (kl = L t)) (mtN sl td tc) lv 2 (L t) = 0 := by first | (simp [hrR, c_74, c_82]; done) | (exfalso; omega)
                  have hSn : hrS kd (decide (kl = L t)) (mtN sl td tc) lv 2 (L t) = 1 := by first | (simp [hrS, bkS, c_74, c_82]; done) | (exfalso; omega)
                  have hLn : hrL kd (decide (kl = L t)) (mtN sl td tc) lv 2 (L t) = L t := by first | (simp [hrL, c_74, c_82]; done) | (exfalso; omega)
                  have f_4 := f_4.trans (congrArg (fun g => some (hp_n X 17 g)) (show setN S t 1 = setN S t (hrS kd (decide (kl = L t)) (mtN sl td tc) lv 2 (L t)) from by rw [hSn]))
                  have f_5 := f_5.trans (congrArg (fun g => some (hp_n X 17 g)) (show L = setN L t (hrL kd (decide (kl = L t)) (mtN sl td tc) lv 2 (L t)) from by rw [hLn, setN_id]))
                  have f_o : μ1 o = some (hp_o 7 [.int (nI n), .ref (o + 1), .ref (o + 2), .ref (o + 3), .ref (o + 4), .ref (o + 5), .ref (o + 6), .int (nB on), .int (nI tz), .ref (o + 7), .int (nI se), .ref (o + 8), .ref (o + 9), .int (nI kd), .int (nI kl), .int (nI tc), .ref (o + 10), .int (nI (saL (hrR kd (decide (kl = L t)) (mtN sl td tc) lv 2 (L t)) tc)), .ref (o + 11), .int (nI hd), .ref (o + 12), .int (nI an), .ref (o + 13), .int (nI fm), .int (nI fo), .ref (o + 14), .ref (o + 15), .int (nI kc), .ref (o + 16)]) := by rw [hR]; exact f_o
                  exact hp_rv hx hb hr hlocks hS hH (⟨rfl, J, h01, f_o, f_4, f_5, f_11, (fun j hj => by rw [hR] at hj; exact absurd hj (Nat.not_lt_zero _)), fr⟩) dX11_hear_348
                · exact absurd c_150 (by decide)
              · exact absurd c_124 (by decide)
            · exact absurd c_105 (by decide)
          · have c_82 : kd = 4 := (nI_eq (by omega) (by omega)).mp c_82
            have hkl9 := hkl (by omega)
            refine lv_aload_n hx hb dX11_hear_85 rfl (lv_at hl 1 rfl) ?_
            refine hp_get hx hb hown hS.2.1 hH (F_X11_107.use hS) f_o rfl dX11_hear_86 ?_
            refine lv_aload_n hx hb dX11_hear_89 rfl (lv_at hl 1 rfl) ?_
            refine hp_get hx hb hown hS.2.1 hH (F_X11_23.use hS) f_o rfl dX11_hear_90 ?_
            refine lv_iload_n hx hb dX11_hear_93 rfl (lv_at hl 2 rfl) ?_
            refine hp_ialdN hx hb hS.ai hH f_5 (by omega) (by omega) dX11_hear_94 ?_
            refine lv_icmp_ne (tgt := 102) hx hb dX11_hear_95 (by decide) (fun c_95 => ?_) (fun c_95 => ?_)
            · have c_95 : ¬ (kl = (L t)) := fun z => c_95 ((nI_eq (by omega) (by omega)).mpr z)
              refine lv_iconst (v := nI 0) hx hb dX11_hear_102 (by decide) ?_
              refine lv_istore_n (lv' := [(3, .int (nI 0)), (2, .int (nI 2)), (0, .ref o), (1, .int (nI t))]) hx hb dX11_hear_103 rfl hl (by decide) rfl (fun ls hl => ?_)
              refine lv_iload_n hx hb dX11_hear_104 rfl (lv_at hl 0 rfl) ?_
              refine lv_if_eq (tgt := 120) hx hb dX11_hear_105 (by decide) (fun c_105 => ?_) (fun c_105 => ?_)
              · have c_105 : 0 = 0 := nz_0 (by omega) c_105
                refine lv_iconst (v := nI 0) hx hb dX11_hear_120 (by decide) ?_
                refine lv_istore (lv' := [(4, .int (nI 0)), (3, .int (nI 0)), (2, .int (nI 2)), (0, .ref o), (1, .int (nI t))]) hx hb dX11_hear_121 hl (by decide) rfl (fun ls hl => ?_)
                refine lv_iload_n hx hb dX11_hear_123 rfl (lv_at hl 1 rfl) ?_
                refine lv_if_eq (tgt := 148) hx hb dX11_hear_124 (by decide) (fun c_124 => ?_) (fun c_124 => ?_)
                · have c_124 : 0 = 0 := nz_0 (by omega) c_124
                  refine lv_iload hx hb dX11_hear_148 (lv_at hl 0 rfl) ?_
                  refine lv_if_eq (tgt := 224) hx hb dX11_hear_150 (by decide) (fun c_150 => ?_) (fun c_150 => ?_)
                  · have c_150 : 0 = 0 := nz_0 (by omega) c_150
                    refine lv_aload_n hx hb dX11_hear_224 rfl (lv_at hl 3 rfl) ?_
                    refine lv_iload_n hx hb dX11_hear_225 rfl (lv_at hl 4 rfl) ?_
                    refine hp_kvm (hp_runV (As := [.int (nI t)]) (rest := []) hx hb hml hown hS hH (c_X11_back l X ht (by omega) f_o f_4) M_X11_133 I_X11_back V_X11_back (ci := 7) rfl rfl f_o rfl hl.1 rfl (Nat.le_of_ble_eq_true rfl) dX11_hear_226 ⟨Nat.le_of_ble_eq_true rfl, Nat.le_of_ble_eq_true rfl⟩ ⟨Nat.le_of_ble_eq_true rfl, Nat.le_of_ble_eq_true rfl⟩) hH (fun μ1 H locs hp hH => ?_)
                    obtain ⟨fz0, fe⟩ := hp
                    have f_o := (fe.at0 (by decide)).trans f_o
                    have f_1 := (fe.at 1 (by decide)).trans f_1
                    have f_5 := (fe.at 5 (by decide)).trans f_5
                    have f_6 := (fe.at 6 (by decide)).trans f_6
                    have f_9 := (fe.at 9 (by decide)).trans f_9
                    have f_10 := (fe.at 10 (by decide)).trans f_10
                    have f_11 := (fe.at 11 (by decide)).trans f_11
                    have f_4 : μ1 (o + 4) = some (hp_n X 17 (setN S t (if S t < 4 then 1 else 4))) := fz0
                    have fr := hp_eqM.tr fe fr (by decide)
                    clear fe fz0
                    have f_4 := f_4.trans (congrArg (fun g => some (hp_n X 17 g)) (show setN S t (if S t < 4 then 1 else 4) = setN S t 1 from by rw [hs]; rfl))
                    refine lv_goto (tgt := 348) hx hb dX11_hear_229 (by decide) ?_
                    have hR : hrR kd (decide (kl = L t)) (mtN sl td tc) lv 2 (L t) = 0 := by first | (simp [hrR, c_74, c_82, c_95]; done) | (exfalso; omega)
                    have hSn : hrS kd (decide (kl = L t)) (mtN sl td tc) lv 2 (L t) = 1 := by first | (simp [hrS, bkS, c_74, c_82, c_95]; done) | (exfalso; omega)
                    have hLn : hrL kd (decide (kl = L t)) (mtN sl td tc) lv 2 (L t) = L t := by first | (simp [hrL, c_74, c_82, c_95]; done) | (exfalso; omega)
                    have f_4 := f_4.trans (congrArg (fun g => some (hp_n X 17 g)) (show setN S t 1 = setN S t (hrS kd (decide (kl = L t)) (mtN sl td tc) lv 2 (L t)) from by rw [hSn]))
                    have f_5 := f_5.trans (congrArg (fun g => some (hp_n X 17 g)) (show L = setN L t (hrL kd (decide (kl = L t)) (mtN sl td tc) lv 2 (L t)) from by rw [hLn, setN_id]))
                    have f_o : μ1 o = some (hp_o 7 [.int (nI n), .ref (o + 1), .ref (o + 2), .ref (o + 3), .ref (o + 4), .ref (o + 5), .ref (o + 6), .int (nB on), .int (nI tz), .ref (o + 7), .int (nI se), .ref (o + 8), .ref (o + 9), .int (nI kd), .int (nI kl), .int (nI tc), .ref (o + 10), .int (nI (saL (hrR kd (decide (kl = L t)) (mtN sl td tc) lv 2 (L t)) tc)), .ref (o + 11), .int (nI hd), .ref (o + 12), .int (nI an), .ref (o + 13), .int (nI fm), .int (nI fo), .ref (o + 14), .ref (o + 15), .int (nI kc), .ref (o + 16)]) := by rw [hR]; exact f_o
                    exact hp_rv hx hb hr hlocks hS hH (⟨rfl, J, h01, f_o, f_4, f_5, f_11, (fun j hj => by rw [hR] at hj; exact absurd hj (Nat.not_lt_zero _)), fr⟩) dX11_hear_348
                  · exact absurd c_150 (by decide)
                · exact absurd c_124 (by decide)
              · exact absurd c_105 (by decide)
            · have c_95 : kl = (L t) := (nI_eq (by omega) (by omega)).mp c_95
              refine lv_iconst (v := nI 1) hx hb dX11_hear_98 (by decide) ?_
              refine lv_goto (tgt := 103) hx hb dX11_hear_99 (by decide) ?_
              refine lv_istore_n (lv' := [(3, .int (nI 1)), (2, .int (nI 2)), (0, .ref o), (1, .int (nI t))]) hx hb dX11_hear_103 rfl hl (by decide) rfl (fun ls hl => ?_)
              refine lv_iload_n hx hb dX11_hear_104 rfl (lv_at hl 0 rfl) ?_
              refine lv_if_eq (tgt := 120) hx hb dX11_hear_105 (by decide) (fun c_105 => ?_) (fun c_105 => ?_)
              · exact absurd c_105 (by decide)
              · have c_105 : ¬ (1 = 0) := nz_n (by omega) c_105
                refine lv_aload_n hx hb dX11_hear_108 rfl (lv_at hl 2 rfl) ?_
                refine lv_iload_n hx hb dX11_hear_109 rfl (lv_at hl 3 rfl) ?_
                refine hp_kip (hp_runV (As := [.int (nI t)]) (rest := []) hx hb hml hown hS hH (c_X11_shows l X ht hL1 hL3 (hkd (by omega)).1 hsh (hkd (by omega)).2 f_o f_5 f_6 f_10) M_X11_121 I_X11_shows V_X11_shows (ci := 7) rfl rfl f_o rfl hl.1 rfl (Nat.le_of_ble_eq_true rfl) dX11_hear_110 ⟨Nat.le_of_ble_eq_true rfl, Nat.le_of_ble_eq_true rfl⟩ ⟨Nat.le_of_ble_eq_true rfl, Nat.le_of_ble_eq_true rfl⟩) hH (fun H locs hH => ?_)
                refine lv_if_eq (tgt := 120) hx hb dX11_hear_113 (by decide) (fun c_113 => ?_) (fun c_113 => ?_)
                · have c_113 : (mtN sl td tc) = false := nB_0 c_113
                  refine lv_iconst (v := nI 0) hx hb dX11_hear_120 (by decide) ?_
                  refine lv_istore (lv' := [(4, .int (nI 0)), (3, .int (nI 1)), (2, .int (nI 2)), (0, .ref o), (1, .int (nI t))]) hx hb dX11_hear_121 hl (by decide) rfl (fun ls hl => ?_)
                  refine lv_iload_n hx hb dX11_hear_123 rfl (lv_at hl 1 rfl) ?_
                  refine lv_if_eq (tgt := 148) hx hb dX11_hear_124 (by decide) (fun c_124 => ?_) (fun c_124 => ?_)
                  · exact absurd c_124 (by decide)
                  · have c_124 : ¬ (1 = 0) := nz_n (by omega) c_124
                    refine lv_aload_n hx hb dX11_hear_127 rfl (lv_at hl 3 rfl) ?_
                    refine hp_get hx hb hown hS.2.1 hH (F_X11_98.use hS) f_o rfl dX11_hear_128 ?_
                    refine lv_iconst (v := nI 3) hx hb dX11_hear_131 (by decide) ?_
                    refine lv_icmp_ne (tgt := 148) hx hb dX11_hear_132 (by decide) (fun c_132 => ?_) (fun c_132 => ?_)
                    · have c_132 : ¬ (kd = 3) := fun z => c_132 ((nI_eq (by omega) (by omega)).mpr z)
                      refine lv_iload hx hb dX11_hear_148 (lv_at hl 0 rfl) ?_
                      refine lv_if_eq (tgt := 224) hx hb dX11_hear_150 (by decide) (fun c_150 => ?_) (fun c_150 => ?_)
                      · have c_150 : 0 = 0 := nz_0 (by omega) c_150
                        refine lv_aload_n hx hb dX11_hear_224 rfl (lv_at hl 3 rfl) ?_
                        refine lv_iload_n hx hb dX11_hear_225 rfl (lv_at hl 4 rfl) ?_
                        refine hp_kvm (hp_runV (As := [.int (nI t)]) (rest := []) hx hb hml hown hS hH (c_X11_back l X ht (by omega) f_o f_4) M_X11_133 I_X11_back V_X11_back (ci := 7) rfl rfl f_o rfl hl.1 rfl (Nat.le_of_ble_eq_true rfl) dX11_hear_226 ⟨Nat.le_of_ble_eq_true rfl, Nat.le_of_ble_eq_true rfl⟩ ⟨Nat.le_of_ble_eq_true rfl, Nat.le_of_ble_eq_true rfl⟩) hH (fun μ1 H locs hp hH => ?_)
                        obtain ⟨fz0, fe⟩ := hp
                        have f_o := (fe.at0 (by decide)).trans f_o
                        have f_1 := (fe.at 1 (by decide)).trans f_1
                        have f_5 := (fe.at 5 (by decide)).trans f_5
                        have f_6 := (fe.at 6 (by decide)).trans f_6
                        have f_9 := (fe.at 9 (by decide)).trans f_9
                        have f_10 := (fe.at 10 (by decide)).trans f_10
                        have f_11 := (fe.at 11 (by decide)).trans f_11
                        have f_4 : μ1 (o + 4) = some (hp_n X 17 (setN S t (if S t < 4 then 1 else 4))) := fz0
                        have fr := hp_eqM.tr fe fr (by decide)
                        clear fe fz0
                        have f_4 := f_4.trans (congrArg (fun g => some (hp_n X 17 g)) (show setN S t (if S t < 4 then 1 else 4) = setN S t 1 from by rw [hs]; rfl))
                        refine lv_goto (tgt := 348) hx hb dX11_hear_229 (by decide) ?_
                        have hR : hrR kd (decide (kl = L t)) (mtN sl td tc) lv 2 (L t) = 0 := by first | (simp [hrR, c_74, c_82, c_95, c_113]; done) | (exfalso; omega)
                        have hSn : hrS kd (decide (kl = L t)) (mtN sl td tc) lv 2 (L t) = 1 := by first | (simp [hrS, bkS, c_74, c_82, c_95, c_113]; done) | (exfalso; omega)
                        have hLn : hrL kd (decide (kl = L t)) (mtN sl td tc) lv 2 (L t) = L t := by first | (simp [hrL, c_74, c_82, c_95, c_113]; done) | (exfalso; omega)
                        have f_4 := f_4.trans (congrArg (fun g => some (hp_n X 17 g)) (show setN S t 1 = setN S t (hrS kd (decide (kl = L t)) (mtN sl td tc) lv 2 (L t)) from by rw [hSn]))
                        have f_5 := f_5.trans (congrArg (fun g => some (hp_n X 17 g)) (show L = setN L t (hrL kd (decide (kl = L t)) (mtN sl td tc) lv 2 (L t)) from by rw [hLn, setN_id]))
                        have f_o : μ1 o = some (hp_o 7 [.int (nI n), .ref (o + 1), .ref (o + 2), .ref (o + 3), .ref (o + 4), .ref (o + 5), .ref (o + 6), .int (nB on), .int (nI tz), .ref (o + 7), .int (nI se), .ref (o + 8), .ref (o + 9), .int (nI kd), .int (nI kl), .int (nI tc), .ref (o + 10), .int (nI (saL (hrR kd (decide (kl = L t)) (mtN sl td tc) lv 2 (L t)) tc)), .ref (o + 11), .int (nI hd), .ref (o + 12), .int (nI an), .ref (o + 13), .int (nI fm), .int (nI fo), .ref (o + 14), .ref (o + 15), .int (nI kc), .ref (o + 16)]) := by rw [hR]; exact f_o
                        exact hp_rv hx hb hr hlocks hS hH (⟨rfl, J, h01, f_o, f_4, f_5, f_11, (fun j hj => by rw [hR] at hj; exact absurd hj (Nat.not_lt_zero _)), fr⟩) dX11_hear_348
                      · exact absurd c_150 (by decide)
                    · have c_132 : kd = 3 := (nI_eq (by omega) (by omega)).mp c_132
                      refine lv_iload hx hb dX11_hear_135 (lv_at hl 0 rfl) ?_
                      refine lv_if_eq (tgt := 229) hx hb dX11_hear_137 (by decide) (fun c_137 => ?_) (fun c_137 => ?_)
                      · have c_137 : 0 = 0 := nz_0 (by omega) c_137
                        refine lv_goto (tgt := 348) hx hb dX11_hear_229 (by decide) ?_
                        have hR : hrR kd (decide (kl = L t)) (mtN sl td tc) lv 2 (L t) = 0 := by first | (simp [hrR, c_74, c_82, c_95, c_113]; done) | (exfalso; omega)
                        have hSn : hrS kd (decide (kl = L t)) (mtN sl td tc) lv 2 (L t) = 2 := by first | (simp [hrS, bkS, c_74, c_82, c_95, c_113]; done) | (exfalso; omega)
                        have hLn : hrL kd (decide (kl = L t)) (mtN sl td tc) lv 2 (L t) = L t := by first | (simp [hrL, c_74, c_82, c_95, c_113]; done) | (exfalso; omega)
                        have f_4 := f_4.trans (congrArg (fun g => some (hp_n X 17 g)) (show S = setN S t (hrS kd (decide (kl = L t)) (mtN sl td tc) lv 2 (L t)) from by rw [hSn, ← hs, setN_id]))
                        have f_5 := f_5.trans (congrArg (fun g => some (hp_n X 17 g)) (show L = setN L t (hrL kd (decide (kl = L t)) (mtN sl td tc) lv 2 (L t)) from by rw [hLn, setN_id]))
                        have f_o : μ o = some (hp_o 7 [.int (nI n), .ref (o + 1), .ref (o + 2), .ref (o + 3), .ref (o + 4), .ref (o + 5), .ref (o + 6), .int (nB on), .int (nI tz), .ref (o + 7), .int (nI se), .ref (o + 8), .ref (o + 9), .int (nI kd), .int (nI kl), .int (nI tc), .ref (o + 10), .int (nI (saL (hrR kd (decide (kl = L t)) (mtN sl td tc) lv 2 (L t)) tc)), .ref (o + 11), .int (nI hd), .ref (o + 12), .int (nI an), .ref (o + 13), .int (nI fm), .int (nI fo), .ref (o + 14), .ref (o + 15), .int (nI kc), .ref (o + 16)]) := by rw [hR]; exact f_o
                        exact hp_rv hx hb hr hlocks hS hH (⟨rfl, J, h01, f_o, f_4, f_5, f_11, (fun j hj => by rw [hR] at hj; exact absurd hj (Nat.not_lt_zero _)), fr⟩) dX11_hear_348
                      · exact absurd c_137 (by decide)
                · have c_113 : (mtN sl td tc) = true := nB_n c_113
                  refine lv_iconst (v := nI 1) hx hb dX11_hear_116 (by decide) ?_
                  refine lv_goto (tgt := 121) hx hb dX11_hear_117 (by decide) ?_
                  refine lv_istore (lv' := [(4, .int (nI 1)), (3, .int (nI 1)), (2, .int (nI 2)), (0, .ref o), (1, .int (nI t))]) hx hb dX11_hear_121 hl (by decide) rfl (fun ls hl => ?_)
                  refine lv_iload_n hx hb dX11_hear_123 rfl (lv_at hl 1 rfl) ?_
                  refine lv_if_eq (tgt := 148) hx hb dX11_hear_124 (by decide) (fun c_124 => ?_) (fun c_124 => ?_)
                  · exact absurd c_124 (by decide)
                  · have c_124 : ¬ (1 = 0) := nz_n (by omega) c_124
                    refine lv_aload_n hx hb dX11_hear_127 rfl (lv_at hl 3 rfl) ?_
                    refine hp_get hx hb hown hS.2.1 hH (F_X11_98.use hS) f_o rfl dX11_hear_128 ?_
                    refine lv_iconst (v := nI 3) hx hb dX11_hear_131 (by decide) ?_
                    refine lv_icmp_ne (tgt := 148) hx hb dX11_hear_132 (by decide) (fun c_132 => ?_) (fun c_132 => ?_)
                    · have c_132 : ¬ (kd = 3) := fun z => c_132 ((nI_eq (by omega) (by omega)).mpr z)
                      refine lv_iload hx hb dX11_hear_148 (lv_at hl 0 rfl) ?_
                      refine lv_if_eq (tgt := 224) hx hb dX11_hear_150 (by decide) (fun c_150 => ?_) (fun c_150 => ?_)
                      · exact absurd c_150 (by decide)
                      · have c_150 : ¬ (1 = 0) := nz_n (by omega) c_150
                        refine lv_aload_n hx hb dX11_hear_153 rfl (lv_at hl 3 rfl) ?_
                        refine hp_get hx hb hown hS.2.1 hH (F_X11_23.use hS) f_o rfl dX11_hear_154 ?_
                        refine lv_iload_n hx hb dX11_hear_157 rfl (lv_at hl 4 rfl) ?_
                        refine hp_ialdN hx hb hS.ai hH f_5 (by omega) (by omega) dX11_hear_158 ?_
                        refine lv_aload_n hx hb dX11_hear_159 rfl (lv_at hl 3 rfl) ?_
                        refine lv_iload_n hx hb dX11_hear_160 rfl (lv_at hl 4 rfl) ?_
                        refine hp_kip (hp_runV (As := [.int (nI t)]) (rest := [.int (nI (L t))]) hx hb hml hown hS hH (c_X11_levels l X ht (by omega) f_o f_1) M_X11_127 I_X11_levels V_X11_levels (ci := 7) rfl rfl f_o rfl hl.1 rfl (Nat.le_of_ble_eq_true rfl) dX11_hear_161 ⟨Nat.le_of_ble_eq_true rfl, Nat.le_of_ble_eq_true rfl⟩ ⟨Nat.le_of_ble_eq_true rfl, Nat.le_of_ble_eq_true rfl⟩) hH (fun H locs hH => ?_)
                        refine hp_eqi (z := nI lv) (congrArg nI (show Z t / 3 = lv by omega)) ?_
                        refine lv_icmp_ne (tgt := 171) hx hb dX11_hear_164 (by decide) (fun c_164 => ?_) (fun c_164 => ?_)
                        · have c_164 : ¬ ((L t) = lv) := fun z => c_164 ((nI_eq (by omega) (by omega)).mpr z)
                          have hlt : L t < lv := by omega
                          refine lv_iconst (v := nI 0) hx hb dX11_hear_171 (by decide) ?_
                          refine lv_istore (lv' := [(5, .int (nI 0)), (4, .int (nI 1)), (3, .int (nI 1)), (2, .int (nI 2)), (0, .ref o), (1, .int (nI t))]) hx hb dX11_hear_172 hl (by decide) rfl (fun ls hl => ?_)
                          refine lv_aload_n hx hb dX11_hear_174 rfl (lv_at hl 4 rfl) ?_
                          refine lv_iload hx hb dX11_hear_175 (lv_at hl 0 rfl) ?_
                          refine lv_if_eq (tgt := 185) hx hb dX11_hear_177 (by decide) (fun c_177 => ?_) (fun c_177 => ?_)
                          · have c_177 : 0 = 0 := nz_0 (by omega) c_177
                            refine lv_iconst (v := nI 4) hx hb dX11_hear_185 (by decide) ?_
                            refine hp_kvm (hp_runV (As := [.int (nI 4)]) (rest := []) hx hb hml hown hS hH (c_X11_say l X (v := 4) (by omega) (by omega) f_o f_11) M_X11_113 I_X11_say V_X11_say (ci := 7) rfl rfl f_o rfl hl.1 rfl (Nat.le_of_ble_eq_true rfl) dX11_hear_186 ⟨Nat.le_of_ble_eq_true rfl, Nat.le_of_ble_eq_true rfl⟩ ⟨Nat.le_of_ble_eq_true rfl, Nat.le_of_ble_eq_true rfl⟩) hH (fun μ1 H locs hp hH => ?_)
                            obtain ⟨fz0, fz1, fe⟩ := hp
                            have f_1 := (fe.at 1 (by decide)).trans f_1
                            have f_4 := (fe.at 4 (by decide)).trans f_4
                            have f_5 := (fe.at 5 (by decide)).trans f_5
                            have f_6 := (fe.at 6 (by decide)).trans f_6
                            have f_9 := (fe.at 9 (by decide)).trans f_9
                            have f_10 := (fe.at 10 (by decide)).trans f_10
                            have f_o : μ1 o = some (hp_o 7 [.int (nI n), .ref (o + 1), .ref (o + 2), .ref (o + 3), .ref (o + 4), .ref (o + 5), .ref (o + 6), .int (nB on), .int (nI tz), .ref (o + 7), .int (nI se), .ref (o + 8), .ref (o + 9), .int (nI kd), .int (nI kl), .int (nI tc), .ref (o + 10), .int (nI 9), .ref (o + 11), .int (nI hd), .ref (o + 12), .int (nI an), .ref (o + 13), .int (nI fm), .int (nI fo), .ref (o + 14), .ref (o + 15), .int (nI kc), .ref (o + 16)]) := fz0
                            have f_11 : μ1 (o + 11) = some (hp_n X 64 (apO J 0 4)) := fz1
                            have fr := hp_eqM.tr fe fr (by decide)
                            clear fe fz0 fz1
                            refine lv_aload_n hx hb dX11_hear_189 rfl (lv_at hl 4 rfl) ?_
                            refine lv_iconst (v := nI 0) hx hb dX11_hear_190 (by decide) ?_
                            refine hp_kvm (hp_runV (As := [.int (nI 0)]) (rest := []) hx hb hml hown hS hH (c_X11_sayChecked l X (k := 1) (Bv := 4) (apO_01 h01 _ _) (by decide) (o1_bits (v := 4) (by omega)) f_o f_11) M_X11_130 I_X11_sayChecked V_X11_sayChecked (ci := 7) rfl rfl f_o rfl hl.1 rfl (Nat.le_of_ble_eq_true rfl) dX11_hear_191 ⟨Nat.le_of_ble_eq_true rfl, Nat.le_of_ble_eq_true rfl⟩ ⟨Nat.le_of_ble_eq_true rfl, Nat.le_of_ble_eq_true rfl⟩) hH (fun μ1 H locs hp hH => ?_)
                            obtain ⟨fz0, fz1, fe⟩ := hp
                            have f_1 := (fe.at 1 (by decide)).trans f_1
                            have f_4 := (fe.at 4 (by decide)).trans f_4
                            have f_5 := (fe.at 5 (by decide)).trans f_5
                            have f_6 := (fe.at 6 (by decide)).trans f_6
                            have f_9 := (fe.at 9 (by decide)).trans f_9
                            have f_10 := (fe.at 10 (by decide)).trans f_10
                            have f_o : μ1 o = some (hp_o 7 [.int (nI n), .ref (o + 1), .ref (o + 2), .ref (o + 3), .ref (o + 4), .ref (o + 5), .ref (o + 6), .int (nB on), .int (nI tz), .ref (o + 7), .int (nI se), .ref (o + 8), .ref (o + 9), .int (nI kd), .int (nI kl), .int (nI tc), .ref (o + 10), .int (nI 27), .ref (o + 11), .int (nI hd), .ref (o + 12), .int (nI an), .ref (o + 13), .int (nI fm), .int (nI fo), .ref (o + 14), .ref (o + 15), .int (nI kc), .ref (o + 16)]) := fz0
                            have f_11 : μ1 (o + 11) = some (hp_n X 64 (apO (apO (apO J 0 4) (9 * 1) (crcB 4 1 % 256)) (9 * 1 + 9) (crcB 4 1 / 256))) := fz1
                            have fr := hp_eqM.tr fe fr (by decide)
                            clear fe fz0 fz1
                            refine lv_iload hx hb dX11_hear_194 (lv_at hl 0 rfl) ?_
                            refine lv_if_eq (tgt := 211) hx hb dX11_hear_196 (by decide) (fun c_196 => ?_) (fun c_196 => ?_)
                            · have c_196 : 0 = 0 := nz_0 (by omega) c_196
                              refine lv_aload_n hx hb dX11_hear_211 rfl (lv_at hl 4 rfl) ?_
                              refine hp_get hx hb hown hS.2.1 hH (F_X11_23.use hS) f_o rfl dX11_hear_212 ?_
                              refine lv_iload_n hx hb dX11_hear_215 rfl (lv_at hl 5 rfl) ?_
                              refine lv_dup2_11 hx hb dX11_hear_216 rfl rfl ?_
                              refine hp_ialdN hx hb hS.ai hH f_5 (by omega) (by omega) dX11_hear_217 ?_
                              refine lv_iconst (v := nI 1) hx hb dX11_hear_218 (by decide) ?_
                              refine lv_iadd hx hb dX11_hear_219 ?_
                              refine hp_eqi (z := nI ((L t) + 1)) (nI_add _ _) ?_
                              refine hp_iastN hx hb hS.ai hH f_5 (by omega) (by omega) dX11_hear_220 (fun H locs μ1 fz fn hH => ?_)
                              have f_o := (fn _ (by omega)).trans f_o
                              have f_1 := (fn _ (by omega)).trans f_1
                              have f_4 := (fn _ (by omega)).trans f_4
                              have f_6 := (fn _ (by omega)).trans f_6
                              have f_9 := (fn _ (by omega)).trans f_9
                              have f_10 := (fn _ (by omega)).trans f_10
                              have f_11 := (fn _ (by omega)).trans f_11
                              have f_5 : μ1 (o + 5) = some (hp_n X 17 (setN L t ((L t) + 1))) := fz
                              have fr := hp_eqM.put (k := 5) fr (by decide) fn
                              clear fz fn
                              refine lv_goto (tgt := 229) hx hb dX11_hear_221 (by decide) ?_
                              refine lv_goto (tgt := 348) hx hb dX11_hear_229 (by decide) ?_
                              have hR : hrR kd (decide (kl = L t)) (mtN sl td tc) lv 2 (L t) = 3 := by first | (simp [hrR, c_74, c_82, c_95, c_113, hlt]; done) | (exfalso; omega)
                              have hSn : hrS kd (decide (kl = L t)) (mtN sl td tc) lv 2 (L t) = 2 := by first | (simp [hrS, bkS, c_74, c_82, c_95, c_113, hlt]; done) | (exfalso; omega)
                              have hLn : hrL kd (decide (kl = L t)) (mtN sl td tc) lv 2 (L t) = ((L t) + 1) := by first | (simp [hrL, c_74, c_82, c_95, c_113, hlt]; done) | (exfalso; omega)
                              have f_4 := f_4.trans (congrArg (fun g => some (hp_n X 17 g)) (show S = setN S t (hrS kd (decide (kl = L t)) (mtN sl td tc) lv 2 (L t)) from by rw [hSn, ← hs, setN_id]))
                              have f_5 := f_5.trans (congrArg (fun g => some (hp_n X 17 g)) (show setN L t ((L t) + 1) = setN L t (hrL kd (decide (kl = L t)) (mtN sl td tc) lv 2 (L t)) from by rw [hLn]))
                              have f_o : μ1 o = some (hp_o 7 [.int (nI n), .ref (o + 1), .ref (o + 2), .ref (o + 3), .ref (o + 4), .ref (o + 5), .ref (o + 6), .int (nB on), .int (nI tz), .ref (o + 7), .int (nI se), .ref (o + 8), .ref (o + 9), .int (nI kd), .int (nI kl), .int (nI tc), .ref (o + 10), .int (nI (saL (hrR kd (decide (kl = L t)) (mtN sl td tc) lv 2 (L t)) tc)), .ref (o + 11), .int (nI hd), .ref (o + 12), .int (nI an), .ref (o + 13), .int (nI fm), .int (nI fo), .ref (o + 14), .ref (o + 15), .int (nI kc), .ref (o + 16)]) := by rw [hR]; exact f_o
                              exact hp_rv hx hb hr hlocks hS hH (⟨rfl, (apO (apO (apO J 0 4) (9 * 1) (crcB 4 1 % 256)) (9 * 1 + 9) (crcB 4 1 / 256)), apO_01 (apO_01 (apO_01 h01 _ _) _ _) _ _, f_o, f_4, f_5, f_11, (fun j hj => by rw [hR] at hj ⊢; exact (sc_bits (k := 1) (B := 4) (by omega) (o1_bits (v := 4) (by omega))) j hj), fr⟩) dX11_hear_348
                            · exact absurd c_196 (by decide)
                          · exact absurd c_177 (by decide)
                        · have c_164 : (L t) = lv := (nI_eq (by omega) (by omega)).mp c_164
                          have hlt : ¬ L t < lv := by omega
                          refine lv_iconst (v := nI 1) hx hb dX11_hear_167 (by decide) ?_
                          refine lv_goto (tgt := 172) hx hb dX11_hear_168 (by decide) ?_
                          refine lv_istore (lv' := [(5, .int (nI 1)), (4, .int (nI 1)), (3, .int (nI 1)), (2, .int (nI 2)), (0, .ref o), (1, .int (nI t))]) hx hb dX11_hear_172 hl (by decide) rfl (fun ls hl => ?_)
                          refine lv_aload_n hx hb dX11_hear_174 rfl (lv_at hl 4 rfl) ?_
                          refine lv_iload hx hb dX11_hear_175 (lv_at hl 0 rfl) ?_
                          refine lv_if_eq (tgt := 185) hx hb dX11_hear_177 (by decide) (fun c_177 => ?_) (fun c_177 => ?_)
                          · exact absurd c_177 (by decide)
                          · have c_177 : ¬ (1 = 0) := nz_n (by omega) c_177
                            refine lv_bipush (v := nI 32) hx hb dX11_hear_180 (by decide) ?_
                            refine lv_goto (tgt := 186) hx hb dX11_hear_182 (by decide) ?_
                            refine hp_kvm (hp_runV (As := [.int (nI 32)]) (rest := []) hx hb hml hown hS hH (c_X11_say l X (v := 32) (by omega) (by omega) f_o f_11) M_X11_113 I_X11_say V_X11_say (ci := 7) rfl rfl f_o rfl hl.1 rfl (Nat.le_of_ble_eq_true rfl) dX11_hear_186 ⟨Nat.le_of_ble_eq_true rfl, Nat.le_of_ble_eq_true rfl⟩ ⟨Nat.le_of_ble_eq_true rfl, Nat.le_of_ble_eq_true rfl⟩) hH (fun μ1 H locs hp hH => ?_)
                            obtain ⟨fz0, fz1, fe⟩ := hp
                            have f_1 := (fe.at 1 (by decide)).trans f_1
                            have f_4 := (fe.at 4 (by decide)).trans f_4
                            have f_5 := (fe.at 5 (by decide)).trans f_5
                            have f_6 := (fe.at 6 (by decide)).trans f_6
                            have f_9 := (fe.at 9 (by decide)).trans f_9
                            have f_10 := (fe.at 10 (by decide)).trans f_10
                            have f_o : μ1 o = some (hp_o 7 [.int (nI n), .ref (o + 1), .ref (o + 2), .ref (o + 3), .ref (o + 4), .ref (o + 5), .ref (o + 6), .int (nB on), .int (nI tz), .ref (o + 7), .int (nI se), .ref (o + 8), .ref (o + 9), .int (nI kd), .int (nI kl), .int (nI tc), .ref (o + 10), .int (nI 9), .ref (o + 11), .int (nI hd), .ref (o + 12), .int (nI an), .ref (o + 13), .int (nI fm), .int (nI fo), .ref (o + 14), .ref (o + 15), .int (nI kc), .ref (o + 16)]) := fz0
                            have f_11 : μ1 (o + 11) = some (hp_n X 64 (apO J 0 32)) := fz1
                            have fr := hp_eqM.tr fe fr (by decide)
                            clear fe fz0 fz1
                            refine lv_aload_n hx hb dX11_hear_189 rfl (lv_at hl 4 rfl) ?_
                            refine lv_iconst (v := nI 0) hx hb dX11_hear_190 (by decide) ?_
                            refine hp_kvm (hp_runV (As := [.int (nI 0)]) (rest := []) hx hb hml hown hS hH (c_X11_sayChecked l X (k := 1) (Bv := 32) (apO_01 h01 _ _) (by decide) (o1_bits (v := 32) (by omega)) f_o f_11) M_X11_130 I_X11_sayChecked V_X11_sayChecked (ci := 7) rfl rfl f_o rfl hl.1 rfl (Nat.le_of_ble_eq_true rfl) dX11_hear_191 ⟨Nat.le_of_ble_eq_true rfl, Nat.le_of_ble_eq_true rfl⟩ ⟨Nat.le_of_ble_eq_true rfl, Nat.le_of_ble_eq_true rfl⟩) hH (fun μ1 H locs hp hH => ?_)
                            obtain ⟨fz0, fz1, fe⟩ := hp
                            have f_1 := (fe.at 1 (by decide)).trans f_1
                            have f_4 := (fe.at 4 (by decide)).trans f_4
                            have f_5 := (fe.at 5 (by decide)).trans f_5
                            have f_6 := (fe.at 6 (by decide)).trans f_6
                            have f_9 := (fe.at 9 (by decide)).trans f_9
                            have f_10 := (fe.at 10 (by decide)).trans f_10
                            have f_o : μ1 o = some (hp_o 7 [.int (nI n), .ref (o + 1), .ref (o + 2), .ref (o + 3), .ref (o + 4), .ref (o + 5), .ref (o + 6), .int (nB on), .int (nI tz), .ref (o + 7), .int (nI se), .ref (o + 8), .ref (o + 9), .int (nI kd), .int (nI kl), .int (nI tc), .ref (o + 10), .int (nI 27), .ref (o + 11), .int (nI hd), .ref (o + 12), .int (nI an), .ref (o + 13), .int (nI fm), .int (nI fo), .ref (o + 14), .ref (o + 15), .int (nI kc), .ref (o + 16)]) := fz0
                            have f_11 : μ1 (o + 11) = some (hp_n X 64 (apO (apO (apO J 0 32) (9 * 1) (crcB 32 1 % 256)) (9 * 1 + 9) (crcB 32 1 / 256))) := fz1
                            have fr := hp_eqM.tr fe fr (by decide)
                            clear fe fz0 fz1
                            refine lv_iload hx hb dX11_hear_194 (lv_at hl 0 rfl) ?_
                            refine lv_if_eq (tgt := 211) hx hb dX11_hear_196 (by decide) (fun c_196 => ?_) (fun c_196 => ?_)
                            · exact absurd c_196 (by decide)
                            · have c_196 : ¬ (1 = 0) := nz_n (by omega) c_196
                              refine lv_aload_n hx hb dX11_hear_199 rfl (lv_at hl 4 rfl) ?_
                              refine hp_get hx hb hown hS.2.1 hH (F_X11_20.use hS) f_o rfl dX11_hear_200 ?_
                              refine lv_iload_n hx hb dX11_hear_203 rfl (lv_at hl 5 rfl) ?_
                              refine lv_iload_n hx hb dX11_hear_204 rfl (lv_at hl 3 rfl) ?_
                              refine lv_iconst (v := nI 1) hx hb dX11_hear_205 (by decide) ?_
                              refine lv_iadd hx hb dX11_hear_206 ?_
                              refine hp_eqi (z := nI 3) (nI_add _ _) ?_
                              refine hp_iastN hx hb hS.ai hH f_4 (by omega) (by omega) dX11_hear_207 (fun H locs μ1 fz fn hH => ?_)
                              have f_o := (fn _ (by omega)).trans f_o
                              have f_1 := (fn _ (by omega)).trans f_1
                              have f_5 := (fn _ (by omega)).trans f_5
                              have f_6 := (fn _ (by omega)).trans f_6
                              have f_9 := (fn _ (by omega)).trans f_9
                              have f_10 := (fn _ (by omega)).trans f_10
                              have f_11 := (fn _ (by omega)).trans f_11
                              have f_4 : μ1 (o + 4) = some (hp_n X 17 (setN S t 3)) := fz
                              have fr := hp_eqM.put (k := 4) fr (by decide) fn
                              clear fz fn
                              refine lv_goto (tgt := 221) hx hb dX11_hear_208 (by decide) ?_
                              refine lv_goto (tgt := 229) hx hb dX11_hear_221 (by decide) ?_
                              refine lv_goto (tgt := 348) hx hb dX11_hear_229 (by decide) ?_
                              have hR : hrR kd (decide (kl = L t)) (mtN sl td tc) lv 2 (L t) = 4 := by first | (simp [hrR, c_74, c_82, c_95, c_113, hlt]; done) | (exfalso; omega)
                              have hSn : hrS kd (decide (kl = L t)) (mtN sl td tc) lv 2 (L t) = 3 := by first | (simp [hrS, bkS, c_74, c_82, c_95, c_113, hlt]; done) | (exfalso; omega)
                              have hLn : hrL kd (decide (kl = L t)) (mtN sl td tc) lv 2 (L t) = L t := by first | (simp [hrL, c_74, c_82, c_95, c_113, hlt]; done) | (exfalso; omega)
                              have f_4 := f_4.trans (congrArg (fun g => some (hp_n X 17 g)) (show setN S t 3 = setN S t (hrS kd (decide (kl = L t)) (mtN sl td tc) lv 2 (L t)) from by rw [hSn]))
                              have f_5 := f_5.trans (congrArg (fun g => some (hp_n X 17 g)) (show L = setN L t (hrL kd (decide (kl = L t)) (mtN sl td tc) lv 2 (L t)) from by rw [hLn, setN_id]))
                              have f_o : μ1 o = some (hp_o 7 [.int (nI n), .ref (o + 1), .ref (o + 2), .ref (o + 3), .ref (o + 4), .ref (o + 5), .ref (o + 6), .int (nB on), .int (nI tz), .ref (o + 7), .int (nI se), .ref (o + 8), .ref (o + 9), .int (nI kd), .int (nI kl), .int (nI tc), .ref (o + 10), .int (nI (saL (hrR kd (decide (kl = L t)) (mtN sl td tc) lv 2 (L t)) tc)), .ref (o + 11), .int (nI hd), .ref (o + 12), .int (nI an), .ref (o + 13), .int (nI fm), .int (nI fo), .ref (o + 14), .ref (o + 15), .int (nI kc), .ref (o + 16)]) := by rw [hR]; exact f_o
                              exact hp_rv hx hb hr hlocks hS hH (⟨rfl, (apO (apO (apO J 0 32) (9 * 1) (crcB 32 1 % 256)) (9 * 1 + 9) (crcB 32 1 / 256)), apO_01 (apO_01 (apO_01 h01 _ _) _ _) _ _, f_o, f_4, f_5, f_11, (fun j hj => by rw [hR] at hj ⊢; exact (sc_bits (k := 1) (B := 32) (by omega) (o1_bits (v := 32) (by omega))) j hj), fr⟩) dX11_hear_348
                    · have c_132 : kd = 3 := (nI_eq (by omega) (by omega)).mp c_132
                      refine lv_iload hx hb dX11_hear_135 (lv_at hl 0 rfl) ?_
                      refine lv_if_eq (tgt := 229) hx hb dX11_hear_137 (by decide) (fun c_137 => ?_) (fun c_137 => ?_)
                      · exact absurd c_137 (by decide)
                      · have c_137 : ¬ (1 = 0) := nz_n (by omega) c_137
                        refine lv_aload_n hx hb dX11_hear_140 rfl (lv_at hl 3 rfl) ?_
                        refine lv_iload_n hx hb dX11_hear_141 rfl (lv_at hl 4 rfl) ?_
                        refine hp_kvm (hp_runV (As := [.int (nI t)]) (rest := []) hx hb hml hown hS hH (c_X11_sayRest l X ht hL1 hL3 (hkd (by omega)).1 h01 hsh f_o f_5 f_6 f_11) M_X11_124 I_X11_sayRest V_X11_sayRest (ci := 7) rfl rfl f_o rfl hl.1 rfl (Nat.le_of_ble_eq_true rfl) dX11_hear_142 ⟨Nat.le_of_ble_eq_true rfl, Nat.le_of_ble_eq_true rfl⟩ ⟨Nat.le_of_ble_eq_true rfl, Nat.le_of_ble_eq_true rfl⟩) hH (fun μ1 H locs hp hH => ?_)
                        obtain ⟨J9, h019, fz0, fz1, hJ9, fe⟩ := hp
                        have f_1 := (fe.at 1 (by decide)).trans f_1
                        have f_4 := (fe.at 4 (by decide)).trans f_4
                        have f_5 := (fe.at 5 (by decide)).trans f_5
                        have f_6 := (fe.at 6 (by decide)).trans f_6
                        have f_9 := (fe.at 9 (by decide)).trans f_9
                        have f_10 := (fe.at 10 (by decide)).trans f_10
                        have f_o := fz0
                        have f_11 := fz1
                        have fr := hp_eqM.tr fe fr (by decide)
                        refine lv_goto (tgt := 229) hx hb dX11_hear_145 (by decide) ?_
                        refine lv_goto (tgt := 348) hx hb dX11_hear_229 (by decide) ?_
                        have hR : hrR kd (decide (kl = L t)) (mtN sl td tc) lv 2 (L t) = 2 := by first | (simp [hrR, c_74, c_82, c_95, c_113]; done) | (exfalso; omega)
                        have hSn : hrS kd (decide (kl = L t)) (mtN sl td tc) lv 2 (L t) = 2 := by first | (simp [hrS, bkS, c_74, c_82, c_95, c_113]; done) | (exfalso; omega)
                        have hLn : hrL kd (decide (kl = L t)) (mtN sl td tc) lv 2 (L t) = L t := by first | (simp [hrL, c_74, c_82, c_95, c_113]; done) | (exfalso; omega)
                        have f_4 := f_4.trans (congrArg (fun g => some (hp_n X 17 g)) (show S = setN S t (hrS kd (decide (kl = L t)) (mtN sl td tc) lv 2 (L t)) from by rw [hSn, ← hs, setN_id]))
                        have f_5 := f_5.trans (congrArg (fun g => some (hp_n X 17 g)) (show L = setN L t (hrL kd (decide (kl = L t)) (mtN sl td tc) lv 2 (L t)) from by rw [hLn, setN_id]))
                        have f_o : μ1 o = some (hp_o 7 [.int (nI n), .ref (o + 1), .ref (o + 2), .ref (o + 3), .ref (o + 4), .ref (o + 5), .ref (o + 6), .int (nB on), .int (nI tz), .ref (o + 7), .int (nI se), .ref (o + 8), .ref (o + 9), .int (nI kd), .int (nI kl), .int (nI tc), .ref (o + 10), .int (nI (saL (hrR kd (decide (kl = L t)) (mtN sl td tc) lv 2 (L t)) tc)), .ref (o + 11), .int (nI hd), .ref (o + 12), .int (nI an), .ref (o + 13), .int (nI fm), .int (nI fo), .ref (o + 14), .ref (o + 15), .int (nI kc), .ref (o + 16)]) := by rw [hR]; exact f_o
                        exact hp_rv hx hb hr hlocks hS hH (⟨rfl, J9, h019, f_o, f_4, f_5, f_11, (fun j hj => by rw [hR] at hj ⊢; exact hJ9 j hj), fr⟩) dX11_hear_348
      · exact absurd c_61 (by decide)
    · exact absurd c_39 (by decide)
  · exact absurd c_9 (by decide)

set_option maxHeartbeats 4000000 in
set_option maxRecDepth 100000 in
theorem c_X11_hear_3 (l : Launch) (X : hp_X) {μ : hp_M} {nx : Nat} {o n tz se kd kl tc hd an fm fo kc : Nat} {on : Bool} {t sl td lv se2 : Nat} {Z S L sh2 D J : Nat → Nat} {Bf : Nat → Int32} (hs0 : S t = 3) (ht : t < 17) (hz : Z t = 3 * lv + 1) (hl1 : 1 ≤ lv) (hl3 : lv ≤ 3) (hL1 : 1 ≤ L t) (hL3 : L t ≤ 3) (hLlv : L t ≤ lv) (hkd8 : kd < 8) (hkl : kd = 3 ∨ kd = 4 → kl < 2 ^ 20) (hkd : kd = 3 ∨ kd = 4 → tc ≤ 40 ∧ ∀ k, k < tc → D k = td / 2 ^ k % 2) (hk6 : kd = 6 → Bf 1 = nI se2 ∧ se2 < 256) (h01 : ∀ j, J j < 2) (hsh : ∀ k, k < 40 → sh2 (120 * t + 40 * (L t - 1) + k) = sl / 2 ^ k % 2) (f_o : μ o = some (hp_o 7 [.int (nI n), .ref (o + 1), .ref (o + 2), .ref (o + 3), .ref (o + 4), .ref (o + 5), .ref (o + 6), .int (nB on), .int (nI tz), .ref (o + 7), .int (nI se), .ref (o + 8), .ref (o + 9), .int (nI kd), .int (nI kl), .int (nI tc), .ref (o + 10), .int (nI 0), .ref (o + 11), .int (nI hd), .ref (o + 12), .int (nI an), .ref (o + 13), .int (nI fm), .int (nI fo), .ref (o + 14), .ref (o + 15), .int (nI kc), .ref (o + 16)])) (f_1 : μ (o + 1) = some (hp_n X 17 Z)) (f_4 : μ (o + 4) = some (hp_n X 17 S)) (f_5 : μ (o + 5) = some (hp_n X 17 L)) (f_6 : μ (o + 6) = some (hp_n X 2040 sh2)) (f_9 : μ (o + 9) = some (hp_i X 18 Bf)) (f_10 : μ (o + 10) = some (hp_n X 48 D)) (f_11 : μ (o + 11) = some (hp_n X 64 J)) : Ct l X yX11_hear cX11_hear 6 (none : Option Jvm.ClassFile.FieldType) 3 120 0 0 [.ref o, .int (nI t)] μ nx (hq_v X (po_v nx (fun z => ∃ J9 : Nat → Nat, (∀ j, J9 j < 2) ∧ z o = some (hp_o 7 [.int (nI n), .ref (o + 1), .ref (o + 2), .ref (o + 3), .ref (o + 4), .ref (o + 5), .ref (o + 6), .int (nB on), .int (nI tz), .ref (o + 7), .int (nI se), .ref (o + 8), .ref (o + 9), .int (nI kd), .int (nI kl), .int (nI tc), .ref (o + 10), .int (nI (saL (hrR kd (decide (kl = L t)) (mtN sl td tc) lv 3 (L t)) tc)), .ref (o + 11), .int (nI hd), .ref (o + 12), .int (nI an), .ref (o + 13), .int (nI fm), .int (nI fo), .ref (o + 14), .ref (o + 15), .int (nI kc), .ref (o + 16)]) ∧ z (o + 4) = some (hp_n X 17 (setN S t (hrS kd (decide (kl = L t)) (mtN sl td tc) lv 3 (L t)))) ∧ z (o + 5) = some (hp_n X 17 (setN L t (hrL kd (decide (kl = L t)) (mtN sl td tc) lv 3 (L t)))) ∧ z (o + 11) = some (hp_n X 64 J9) ∧ (∀ j, j < saL (hrR kd (decide (kl = L t)) (mtN sl td tc) lv 3 (L t)) tc → J9 j = saB (hrR kd (decide (kl = L t)) (mtN sl td tc) lv 3 (L t)) lv sl se2 tc / 2 ^ j % 2) ∧ hp_eqM [0, 4, 5, 11] o z μ))) := by
  refine hp_met (by decide) (Nat.le_of_ble_eq_true rfl) ?_
  intro p e s m below meth c ls hx hb hml hr hlocks hown hin hS hH hl
  have hl : lv_has ls 6 [(0, .ref o), (1, .int (nI t))] := hl
  have fr : hp_eqM [0, 4, 5, 11] o μ μ := fun _ _ => rfl
  have hs : S t = 3 := hs0
  refine lv_aload_n hx hb dX11_hear_0 rfl (lv_at hl 0 rfl) ?_
  refine hp_get hx hb hown hS.2.1 hH (F_X11_20.use hS) f_o rfl dX11_hear_1 ?_
  refine lv_iload_n hx hb dX11_hear_4 rfl (lv_at hl 1 rfl) ?_
  refine hp_ialdN hx hb hS.ai hH f_4 (by omega) (by omega) dX11_hear_5 ?_
  refine hp_eqi (z := nI 3) (congrArg nI hs) ?_
  refine lv_istore_n (lv' := [(2, .int (nI 3)), (0, .ref o), (1, .int (nI t))]) hx hb dX11_hear_6 rfl hl (by decide) rfl (fun ls hl => ?_)
  refine lv_iload_n hx hb dX11_hear_7 rfl (lv_at hl 0 rfl) ?_
  refine lv_iconst (v := nI 1) hx hb dX11_hear_8 (by decide) ?_
  refine lv_icmp_ne (tgt := 37) hx hb dX11_hear_9 (by decide) (fun c_9 => ?_) (fun c_9 => ?_)
  · have c_9 : ¬ (3 = 1) := fun z => c_9 ((nI_eq (by omega) (by omega)).mpr z)
    refine lv_iload_n hx hb dX11_hear_37 rfl (lv_at hl 0 rfl) ?_
    refine lv_iconst (v := nI 4) hx hb dX11_hear_38 (by decide) ?_
    refine lv_icmp_ne (tgt := 59) hx hb dX11_hear_39 (by decide) (fun c_39 => ?_) (fun c_39 => ?_)
    · have c_39 : ¬ (3 = 4) := fun z => c_39 ((nI_eq (by omega) (by omega)).mpr z)
      refine lv_iload_n hx hb dX11_hear_59 rfl (lv_at hl 0 rfl) ?_
      refine lv_iconst (v := nI 2) hx hb dX11_hear_60 (by decide) ?_
      refine lv_icmp_eq (tgt := 69) hx hb dX11_hear_61 (by decide) (fun c_61 => ?_) (fun c_61 => ?_)
      · exact absurd c_61 (by decide)
      · have c_61 : ¬ (3 = 2) := fun z => c_61 ((nI_eq (by omega) (by omega)).mpr z)
        refine lv_iload_n hx hb dX11_hear_64 rfl (lv_at hl 0 rfl) ?_
        refine lv_iconst (v := nI 5) hx hb dX11_hear_65 (by decide) ?_
        refine lv_icmp_ne (tgt := 232) hx hb dX11_hear_66 (by decide) (fun c_66 => ?_) (fun c_66 => ?_)
        · have c_66 : ¬ (3 = 5) := fun z => c_66 ((nI_eq (by omega) (by omega)).mpr z)
          refine lv_iload_n hx hb dX11_hear_232 rfl (lv_at hl 0 rfl) ?_
          refine lv_iconst (v := nI 3) hx hb dX11_hear_233 (by decide) ?_
          refine lv_icmp_eq (tgt := 243) hx hb dX11_hear_234 (by decide) (fun c_234 => ?_) (fun c_234 => ?_)
          · have c_234 : 3 = 3 := (nI_eq (by omega) (by omega)).mp c_234
            refine lv_aload_n hx hb dX11_hear_243 rfl (lv_at hl 1 rfl) ?_
            refine hp_get hx hb hown hS.2.1 hH (F_X11_98.use hS) f_o rfl dX11_hear_244 ?_
            refine lv_iconst (v := nI 5) hx hb dX11_hear_247 (by decide) ?_
            refine lv_icmp_ne (tgt := 261) hx hb dX11_hear_248 (by decide) (fun c_248 => ?_) (fun c_248 => ?_)
            · have c_248 : ¬ (kd = 5) := fun z => c_248 ((nI_eq (by omega) (by omega)).mpr z)
              refine lv_aload_n hx hb dX11_hear_261 rfl (lv_at hl 1 rfl) ?_
              refine hp_get hx hb hown hS.2.1 hH (F_X11_98.use hS) f_o rfl dX11_hear_262 ?_
              refine lv_bipush (v := nI 6) hx hb dX11_hear_265 (by decide) ?_
              refine lv_icmp_ne (tgt := 306) hx hb dX11_hear_267 (by decide) (fun c_267 => ?_) (fun c_267 => ?_)
              · have c_267 : ¬ (kd = 6) := fun z => c_267 ((nI_eq (by omega) (by omega)).mpr z)
                refine lv_aload_n hx hb dX11_hear_306 rfl (lv_at hl 1 rfl) ?_
                refine lv_iload_n hx hb dX11_hear_307 rfl (lv_at hl 2 rfl) ?_
                refine hp_kvm (hp_runV (As := [.int (nI t)]) (rest := []) hx hb hml hown hS hH (c_X11_back l X ht (by omega) f_o f_4) M_X11_133 I_X11_back V_X11_back (ci := 7) rfl rfl f_o rfl hl.1 rfl (Nat.le_of_ble_eq_true rfl) dX11_hear_308 ⟨Nat.le_of_ble_eq_true rfl, Nat.le_of_ble_eq_true rfl⟩ ⟨Nat.le_of_ble_eq_true rfl, Nat.le_of_ble_eq_true rfl⟩) hH (fun μ1 H locs hp hH => ?_)
                obtain ⟨fz0, fe⟩ := hp
                have f_o := (fe.at0 (by decide)).trans f_o
                have f_1 := (fe.at 1 (by decide)).trans f_1
                have f_5 := (fe.at 5 (by decide)).trans f_5
                have f_6 := (fe.at 6 (by decide)).trans f_6
                have f_9 := (fe.at 9 (by decide)).trans f_9
                have f_10 := (fe.at 10 (by decide)).trans f_10
                have f_11 := (fe.at 11 (by decide)).trans f_11
                have f_4 : μ1 (o + 4) = some (hp_n X 17 (setN S t (if S t < 4 then 1 else 4))) := fz0
                have fr := hp_eqM.tr fe fr (by decide)
                clear fe fz0
                have f_4 := f_4.trans (congrArg (fun g => some (hp_n X 17 g)) (show setN S t (if S t < 4 then 1 else 4) = setN S t 1 from by rw [hs]; rfl))
                refine lv_goto (tgt := 348) hx hb dX11_hear_311 (by decide) ?_
                have hR : hrR kd (decide (kl = L t)) (mtN sl td tc) lv 3 (L t) = 0 := by first | (simp [hrR, c_248, c_267]; done) | (exfalso; omega)
                have hSn : hrS kd (decide (kl = L t)) (mtN sl td tc) lv 3 (L t) = 1 := by first | (simp [hrS, bkS, c_248, c_267]; done) | (exfalso; omega)
                have hLn : hrL kd (decide (kl = L t)) (mtN sl td tc) lv 3 (L t) = L t := by first | (simp [hrL, c_248, c_267]; done) | (exfalso; omega)
                have f_4 := f_4.trans (congrArg (fun g => some (hp_n X 17 g)) (show setN S t 1 = setN S t (hrS kd (decide (kl = L t)) (mtN sl td tc) lv 3 (L t)) from by rw [hSn]))
                have f_5 := f_5.trans (congrArg (fun g => some (hp_n X 17 g)) (show L = setN L t (hrL kd (decide (kl = L t)) (mtN sl td tc) lv 3 (L t)) from by rw [hLn, setN_id]))
                have f_o : μ1 o = some (hp_o 7 [.int (nI n), .ref (o + 1), .ref (o + 2), .ref (o + 3), .ref (o + 4), .ref (o + 5), .ref (o + 6), .int (nB on), .int (nI tz), .ref (o + 7), .int (nI se), .ref (o + 8), .ref (o + 9), .int (nI kd), .int (nI kl), .int (nI tc), .ref (o + 10), .int (nI (saL (hrR kd (decide (kl = L t)) (mtN sl td tc) lv 3 (L t)) tc)), .ref (o + 11), .int (nI hd), .ref (o + 12), .int (nI an), .ref (o + 13), .int (nI fm), .int (nI fo), .ref (o + 14), .ref (o + 15), .int (nI kc), .ref (o + 16)]) := by rw [hR]; exact f_o
                exact hp_rv hx hb hr hlocks hS hH (⟨rfl, J, h01, f_o, f_4, f_5, f_11, (fun j hj => by rw [hR] at hj; exact absurd hj (Nat.not_lt_zero _)), fr⟩) dX11_hear_348
              · have c_267 : kd = 6 := (nI_eq (by omega) (by omega)).mp c_267
                refine lv_aload_n hx hb dX11_hear_270 rfl (lv_at hl 1 rfl) ?_
                refine hp_get hx hb hown hS.2.1 hH (F_X11_20.use hS) f_o rfl dX11_hear_271 ?_
                refine lv_iload_n hx hb dX11_hear_274 rfl (lv_at hl 2 rfl) ?_
                refine lv_bipush (v := nI 7) hx hb dX11_hear_275 (by decide) ?_
                refine hp_iastN hx hb hS.ai hH f_4 (by omega) (by omega) dX11_hear_277 (fun H locs μ1 fz fn hH => ?_)
                have f_o := (fn _ (by omega)).trans f_o
                have f_1 := (fn _ (by omega)).trans f_1
                have f_5 := (fn _ (by omega)).trans f_5
                have f_6 := (fn _ (by omega)).trans f_6
                have f_9 := (fn _ (by omega)).trans f_9
                have f_10 := (fn _ (by omega)).trans f_10
                have f_11 := (fn _ (by omega)).trans f_11
                have f_4 : μ1 (o + 4) = some (hp_n X 17 (setN S t 7)) := fz
                have fr := hp_eqM.put (k := 4) fr (by decide) fn
                clear fz fn
                refine lv_aload_n hx hb dX11_hear_278 rfl (lv_at hl 1 rfl) ?_
                refine lv_iconst (v := nI 3) hx hb dX11_hear_279 (by decide) ?_
                refine hp_kvm (hp_runV (As := [.int (nI 3)]) (rest := []) hx hb hml hown hS hH (c_X11_say l X (v := 3) (by omega) (by omega) f_o f_11) M_X11_113 I_X11_say V_X11_say (ci := 7) rfl rfl f_o rfl hl.1 rfl (Nat.le_of_ble_eq_true rfl) dX11_hear_280 ⟨Nat.le_of_ble_eq_true rfl, Nat.le_of_ble_eq_true rfl⟩ ⟨Nat.le_of_ble_eq_true rfl, Nat.le_of_ble_eq_true rfl⟩) hH (fun μ1 H locs hp hH => ?_)
                obtain ⟨fz0, fz1, fe⟩ := hp
                have f_1 := (fe.at 1 (by decide)).trans f_1
                have f_4 := (fe.at 4 (by decide)).trans f_4
                have f_5 := (fe.at 5 (by decide)).trans f_5
                have f_6 := (fe.at 6 (by decide)).trans f_6
                have f_9 := (fe.at 9 (by decide)).trans f_9
                have f_10 := (fe.at 10 (by decide)).trans f_10
                have f_o : μ1 o = some (hp_o 7 [.int (nI n), .ref (o + 1), .ref (o + 2), .ref (o + 3), .ref (o + 4), .ref (o + 5), .ref (o + 6), .int (nB on), .int (nI tz), .ref (o + 7), .int (nI se), .ref (o + 8), .ref (o + 9), .int (nI kd), .int (nI kl), .int (nI tc), .ref (o + 10), .int (nI 9), .ref (o + 11), .int (nI hd), .ref (o + 12), .int (nI an), .ref (o + 13), .int (nI fm), .int (nI fo), .ref (o + 14), .ref (o + 15), .int (nI kc), .ref (o + 16)]) := fz0
                have f_11 : μ1 (o + 11) = some (hp_n X 64 (apO J 0 3)) := fz1
                have fr := hp_eqM.tr fe fr (by decide)
                clear fe fz0 fz1
                refine lv_aload_n hx hb dX11_hear_283 rfl (lv_at hl 1 rfl) ?_
                refine lv_iconst (v := nI 2) hx hb dX11_hear_284 (by decide) ?_
                refine hp_kvm (hp_runV (As := [.int (nI 2)]) (rest := []) hx hb hml hown hS hH (c_X11_say l X (v := 2) (by omega) (by omega) f_o f_11) M_X11_113 I_X11_say V_X11_say (ci := 7) rfl rfl f_o rfl hl.1 rfl (Nat.le_of_ble_eq_true rfl) dX11_hear_285 ⟨Nat.le_of_ble_eq_true rfl, Nat.le_of_ble_eq_true rfl⟩ ⟨Nat.le_of_ble_eq_true rfl, Nat.le_of_ble_eq_true rfl⟩) hH (fun μ1 H locs hp hH => ?_)
                obtain ⟨fz0, fz1, fe⟩ := hp
                have f_1 := (fe.at 1 (by decide)).trans f_1
                have f_4 := (fe.at 4 (by decide)).trans f_4
                have f_5 := (fe.at 5 (by decide)).trans f_5
                have f_6 := (fe.at 6 (by decide)).trans f_6
                have f_9 := (fe.at 9 (by decide)).trans f_9
                have f_10 := (fe.at 10 (by decide)).trans f_10
                have f_o : μ1 o = some (hp_o 7 [.int (nI n), .ref (o + 1), .ref (o + 2), .ref (o + 3), .ref (o + 4), .ref (o + 5), .ref (o + 6), .int (nB on), .int (nI tz), .ref (o + 7), .int (nI se), .ref (o + 8), .ref (o + 9), .int (nI kd), .int (nI kl), .int (nI tc), .ref (o + 10), .int (nI 18), .ref (o + 11), .int (nI hd), .ref (o + 12), .int (nI an), .ref (o + 13), .int (nI fm), .int (nI fo), .ref (o + 14), .ref (o + 15), .int (nI kc), .ref (o + 16)]) := fz0
                have f_11 : μ1 (o + 11) = some (hp_n X 64 (apO (apO J 0 3) 9 2)) := fz1
                have fr := hp_eqM.tr fe fr (by decide)
                clear fe fz0 fz1
                refine lv_aload_n hx hb dX11_hear_288 rfl (lv_at hl 1 rfl) ?_
                refine lv_aload_n hx hb dX11_hear_289 rfl (lv_at hl 1 rfl) ?_
                refine hp_get hx hb hown hS.2.1 hH (F_X11_39.use hS) f_o rfl dX11_hear_290 ?_
                refine lv_iconst (v := nI 1) hx hb dX11_hear_293 (by decide) ?_
                refine hp_ialdI hx hb hS.ai hH f_9 (by omega) (by omega) dX11_hear_294 ?_
                refine hp_eqi (z := nI se2) ((hk6 c_267).1) ?_
                refine hp_kvm (hp_runV (As := [.int (nI se2)]) (rest := []) hx hb hml hown hS hH (c_X11_say l X (v := se2) (by omega) (by omega) f_o f_11) M_X11_113 I_X11_say V_X11_say (ci := 7) rfl rfl f_o rfl hl.1 rfl (Nat.le_of_ble_eq_true rfl) dX11_hear_295 ⟨Nat.le_of_ble_eq_true rfl, Nat.le_of_ble_eq_true rfl⟩ ⟨Nat.le_of_ble_eq_true rfl, Nat.le_of_ble_eq_true rfl⟩) hH (fun μ1 H locs hp hH => ?_)
                obtain ⟨fz0, fz1, fe⟩ := hp
                have f_1 := (fe.at 1 (by decide)).trans f_1
                have f_4 := (fe.at 4 (by decide)).trans f_4
                have f_5 := (fe.at 5 (by decide)).trans f_5
                have f_6 := (fe.at 6 (by decide)).trans f_6
                have f_9 := (fe.at 9 (by decide)).trans f_9
                have f_10 := (fe.at 10 (by decide)).trans f_10
                have f_o : μ1 o = some (hp_o 7 [.int (nI n), .ref (o + 1), .ref (o + 2), .ref (o + 3), .ref (o + 4), .ref (o + 5), .ref (o + 6), .int (nB on), .int (nI tz), .ref (o + 7), .int (nI se), .ref (o + 8), .ref (o + 9), .int (nI kd), .int (nI kl), .int (nI tc), .ref (o + 10), .int (nI 27), .ref (o + 11), .int (nI hd), .ref (o + 12), .int (nI an), .ref (o + 13), .int (nI fm), .int (nI fo), .ref (o + 14), .ref (o + 15), .int (nI kc), .ref (o + 16)]) := fz0
                have f_11 : μ1 (o + 11) = some (hp_n X 64 (apO (apO (apO J 0 3) 9 2) 18 se2)) := fz1
                have fr := hp_eqM.tr fe fr (by decide)
                clear fe fz0 fz1
                refine lv_aload_n hx hb dX11_hear_298 rfl (lv_at hl 1 rfl) ?_
                refine lv_iconst (v := nI 0) hx hb dX11_hear_299 (by decide) ?_
                have hs6 := (hk6 c_267).2
                refine hp_kvm (hp_runV (As := [.int (nI 0)]) (rest := []) hx hb hml hown hS hH (c_X11_sayChecked l X (k := 3) (Bv := 515 + se2 * 65536) (apO_01 (apO_01 (apO_01 h01 _ _) _ _) _ _) (by decide) (o3_bits (hk6 c_267).2) f_o f_11) M_X11_130 I_X11_sayChecked V_X11_sayChecked (ci := 7) rfl rfl f_o rfl hl.1 rfl (Nat.le_of_ble_eq_true rfl) dX11_hear_300 ⟨Nat.le_of_ble_eq_true rfl, Nat.le_of_ble_eq_true rfl⟩ ⟨Nat.le_of_ble_eq_true rfl, Nat.le_of_ble_eq_true rfl⟩) hH (fun μ1 H locs hp hH => ?_)
                obtain ⟨fz0, fz1, fe⟩ := hp
                have f_1 := (fe.at 1 (by decide)).trans f_1
                have f_4 := (fe.at 4 (by decide)).trans f_4
                have f_5 := (fe.at 5 (by decide)).trans f_5
                have f_6 := (fe.at 6 (by decide)).trans f_6
                have f_9 := (fe.at 9 (by decide)).trans f_9
                have f_10 := (fe.at 10 (by decide)).trans f_10
                have f_o : μ1 o = some (hp_o 7 [.int (nI n), .ref (o + 1), .ref (o + 2), .ref (o + 3), .ref (o + 4), .ref (o + 5), .ref (o + 6), .int (nB on), .int (nI tz), .ref (o + 7), .int (nI se), .ref (o + 8), .ref (o + 9), .int (nI kd), .int (nI kl), .int (nI tc), .ref (o + 10), .int (nI 45), .ref (o + 11), .int (nI hd), .ref (o + 12), .int (nI an), .ref (o + 13), .int (nI fm), .int (nI fo), .ref (o + 14), .ref (o + 15), .int (nI kc), .ref (o + 16)]) := fz0
                have f_11 : μ1 (o + 11) = some (hp_n X 64 (apO (apO (apO (apO (apO J 0 3) 9 2) 18 se2) (9 * 3) (crcB (515 + se2 * 65536) 3 % 256)) (9 * 3 + 9) (crcB (515 + se2 * 65536) 3 / 256))) := fz1
                have fr := hp_eqM.tr fe fr (by decide)
                clear fe fz0 fz1
                refine lv_goto (tgt := 348) hx hb dX11_hear_303 (by decide) ?_
                have hR : hrR kd (decide (kl = L t)) (mtN sl td tc) lv 3 (L t) = 5 := by first | (simp [hrR, c_248, c_267]; done) | (exfalso; omega)
                have hSn : hrS kd (decide (kl = L t)) (mtN sl td tc) lv 3 (L t) = 7 := by first | (simp [hrS, bkS, c_248, c_267]; done) | (exfalso; omega)
                have hLn : hrL kd (decide (kl = L t)) (mtN sl td tc) lv 3 (L t) = L t := by first | (simp [hrL, c_248, c_267]; done) | (exfalso; omega)
                have f_4 := f_4.trans (congrArg (fun g => some (hp_n X 17 g)) (show setN S t 7 = setN S t (hrS kd (decide (kl = L t)) (mtN sl td tc) lv 3 (L t)) from by rw [hSn]))
                have f_5 := f_5.trans (congrArg (fun g => some (hp_n X 17 g)) (show L = setN L t (hrL kd (decide (kl = L t)) (mtN sl td tc) lv 3 (L t)) from by rw [hLn, setN_id]))
                have f_o : μ1 o = some (hp_o 7 [.int (nI n), .ref (o + 1), .ref (o + 2), .ref (o + 3), .ref (o + 4), .ref (o + 5), .ref (o + 6), .int (nB on), .int (nI tz), .ref (o + 7), .int (nI se), .ref (o + 8), .ref (o + 9), .int (nI kd), .int (nI kl), .int (nI tc), .ref (o + 10), .int (nI (saL (hrR kd (decide (kl = L t)) (mtN sl td tc) lv 3 (L t)) tc)), .ref (o + 11), .int (nI hd), .ref (o + 12), .int (nI an), .ref (o + 13), .int (nI fm), .int (nI fo), .ref (o + 14), .ref (o + 15), .int (nI kc), .ref (o + 16)]) := by rw [hR]; exact f_o
                exact hp_rv hx hb hr hlocks hS hH (⟨rfl, (apO (apO (apO (apO (apO J 0 3) 9 2) 18 se2) (9 * 3) (crcB (515 + se2 * 65536) 3 % 256)) (9 * 3 + 9) (crcB (515 + se2 * 65536) 3 / 256)), apO_01 (apO_01 (apO_01 (apO_01 (apO_01 h01 _ _) _ _) _ _) _ _) _ _, f_o, f_4, f_5, f_11, (fun j hj => by rw [hR] at hj ⊢; exact (sc_bits (k := 3) (B := 515 + se2 * 65536) (by omega) (o3_bits (hk6 c_267).2)) j hj), fr⟩) dX11_hear_348
            · have c_248 : kd = 5 := (nI_eq (by omega) (by omega)).mp c_248
              refine lv_aload_n hx hb dX11_hear_251 rfl (lv_at hl 1 rfl) ?_
              refine hp_get hx hb hown hS.2.1 hH (F_X11_20.use hS) f_o rfl dX11_hear_252 ?_
              refine lv_iload_n hx hb dX11_hear_255 rfl (lv_at hl 2 rfl) ?_
              refine lv_iconst (v := nI 4) hx hb dX11_hear_256 (by decide) ?_
              refine hp_iastN hx hb hS.ai hH f_4 (by omega) (by omega) dX11_hear_257 (fun H locs μ1 fz fn hH => ?_)
              have f_o := (fn _ (by omega)).trans f_o
              have f_1 := (fn _ (by omega)).trans f_1
              have f_5 := (fn _ (by omega)).trans f_5
              have f_6 := (fn _ (by omega)).trans f_6
              have f_9 := (fn _ (by omega)).trans f_9
              have f_10 := (fn _ (by omega)).trans f_10
              have f_11 := (fn _ (by omega)).trans f_11
              have f_4 : μ1 (o + 4) = some (hp_n X 17 (setN S t 4)) := fz
              have fr := hp_eqM.put (k := 4) fr (by decide) fn
              clear fz fn
              refine lv_goto (tgt := 348) hx hb dX11_hear_258 (by decide) ?_
              have hR : hrR kd (decide (kl = L t)) (mtN sl td tc) lv 3 (L t) = 0 := by first | (simp [hrR, c_248]; done) | (exfalso; omega)
              have hSn : hrS kd (decide (kl = L t)) (mtN sl td tc) lv 3 (L t) = 4 := by first | (simp [hrS, bkS, c_248]; done) | (exfalso; omega)
              have hLn : hrL kd (decide (kl = L t)) (mtN sl td tc) lv 3 (L t) = L t := by first | (simp [hrL, c_248]; done) | (exfalso; omega)
              have f_4 := f_4.trans (congrArg (fun g => some (hp_n X 17 g)) (show setN S t 4 = setN S t (hrS kd (decide (kl = L t)) (mtN sl td tc) lv 3 (L t)) from by rw [hSn]))
              have f_5 := f_5.trans (congrArg (fun g => some (hp_n X 17 g)) (show L = setN L t (hrL kd (decide (kl = L t)) (mtN sl td tc) lv 3 (L t)) from by rw [hLn, setN_id]))
              have f_o : μ1 o = some (hp_o 7 [.int (nI n), .ref (o + 1), .ref (o + 2), .ref (o + 3), .ref (o + 4), .ref (o + 5), .ref (o + 6), .int (nB on), .int (nI tz), .ref (o + 7), .int (nI se), .ref (o + 8), .ref (o + 9), .int (nI kd), .int (nI kl), .int (nI tc), .ref (o + 10), .int (nI (saL (hrR kd (decide (kl = L t)) (mtN sl td tc) lv 3 (L t)) tc)), .ref (o + 11), .int (nI hd), .ref (o + 12), .int (nI an), .ref (o + 13), .int (nI fm), .int (nI fo), .ref (o + 14), .ref (o + 15), .int (nI kc), .ref (o + 16)]) := by rw [hR]; exact f_o
              exact hp_rv hx hb hr hlocks hS hH (⟨rfl, J, h01, f_o, f_4, f_5, f_11, (fun j hj => by rw [hR] at hj; exact absurd hj (Nat.not_lt_zero _)), fr⟩) dX11_hear_348
          · exact absurd c_234 (by decide)
        · exact absurd c_66 (by decide)
    · exact absurd c_39 (by decide)
  · exact absurd c_9 (by decide)

set_option maxHeartbeats 4000000 in
set_option maxRecDepth 100000 in
theorem c_X11_hear_4 (l : Launch) (X : hp_X) {μ : hp_M} {nx : Nat} {o n tz se kd kl tc hd an fm fo kc : Nat} {on : Bool} {t sl td lv se2 : Nat} {Z S L sh2 D J : Nat → Nat} {Bf : Nat → Int32} (hs0 : S t = 4) (ht : t < 17) (hz : Z t = 3 * lv + 1) (hl1 : 1 ≤ lv) (hl3 : lv ≤ 3) (hL1 : 1 ≤ L t) (hL3 : L t ≤ 3) (hLlv : L t ≤ lv) (hkd8 : kd < 8) (hkl : kd = 3 ∨ kd = 4 → kl < 2 ^ 20) (hkd : kd = 3 ∨ kd = 4 → tc ≤ 40 ∧ ∀ k, k < tc → D k = td / 2 ^ k % 2) (hk6 : kd = 6 → Bf 1 = nI se2 ∧ se2 < 256) (h01 : ∀ j, J j < 2) (hsh : ∀ k, k < 40 → sh2 (120 * t + 40 * (L t - 1) + k) = sl / 2 ^ k % 2) (f_o : μ o = some (hp_o 7 [.int (nI n), .ref (o + 1), .ref (o + 2), .ref (o + 3), .ref (o + 4), .ref (o + 5), .ref (o + 6), .int (nB on), .int (nI tz), .ref (o + 7), .int (nI se), .ref (o + 8), .ref (o + 9), .int (nI kd), .int (nI kl), .int (nI tc), .ref (o + 10), .int (nI 0), .ref (o + 11), .int (nI hd), .ref (o + 12), .int (nI an), .ref (o + 13), .int (nI fm), .int (nI fo), .ref (o + 14), .ref (o + 15), .int (nI kc), .ref (o + 16)])) (f_1 : μ (o + 1) = some (hp_n X 17 Z)) (f_4 : μ (o + 4) = some (hp_n X 17 S)) (f_5 : μ (o + 5) = some (hp_n X 17 L)) (f_6 : μ (o + 6) = some (hp_n X 2040 sh2)) (f_9 : μ (o + 9) = some (hp_i X 18 Bf)) (f_10 : μ (o + 10) = some (hp_n X 48 D)) (f_11 : μ (o + 11) = some (hp_n X 64 J)) : Ct l X yX11_hear cX11_hear 6 (none : Option Jvm.ClassFile.FieldType) 3 120 0 0 [.ref o, .int (nI t)] μ nx (hq_v X (po_v nx (fun z => ∃ J9 : Nat → Nat, (∀ j, J9 j < 2) ∧ z o = some (hp_o 7 [.int (nI n), .ref (o + 1), .ref (o + 2), .ref (o + 3), .ref (o + 4), .ref (o + 5), .ref (o + 6), .int (nB on), .int (nI tz), .ref (o + 7), .int (nI se), .ref (o + 8), .ref (o + 9), .int (nI kd), .int (nI kl), .int (nI tc), .ref (o + 10), .int (nI (saL (hrR kd (decide (kl = L t)) (mtN sl td tc) lv 4 (L t)) tc)), .ref (o + 11), .int (nI hd), .ref (o + 12), .int (nI an), .ref (o + 13), .int (nI fm), .int (nI fo), .ref (o + 14), .ref (o + 15), .int (nI kc), .ref (o + 16)]) ∧ z (o + 4) = some (hp_n X 17 (setN S t (hrS kd (decide (kl = L t)) (mtN sl td tc) lv 4 (L t)))) ∧ z (o + 5) = some (hp_n X 17 (setN L t (hrL kd (decide (kl = L t)) (mtN sl td tc) lv 4 (L t)))) ∧ z (o + 11) = some (hp_n X 64 J9) ∧ (∀ j, j < saL (hrR kd (decide (kl = L t)) (mtN sl td tc) lv 4 (L t)) tc → J9 j = saB (hrR kd (decide (kl = L t)) (mtN sl td tc) lv 4 (L t)) lv sl se2 tc / 2 ^ j % 2) ∧ hp_eqM [0, 4, 5, 11] o z μ))) := by
  refine hp_met (by decide) (Nat.le_of_ble_eq_true rfl) ?_
  intro p e s m below meth c ls hx hb hml hr hlocks hown hin hS hH hl
  have hl : lv_has ls 6 [(0, .ref o), (1, .int (nI t))] := hl
  have fr : hp_eqM [0, 4, 5, 11] o μ μ := fun _ _ => rfl
  have hs : S t = 4 := hs0
  refine lv_aload_n hx hb dX11_hear_0 rfl (lv_at hl 0 rfl) ?_
  refine hp_get hx hb hown hS.2.1 hH (F_X11_20.use hS) f_o rfl dX11_hear_1 ?_
  refine lv_iload_n hx hb dX11_hear_4 rfl (lv_at hl 1 rfl) ?_
  refine hp_ialdN hx hb hS.ai hH f_4 (by omega) (by omega) dX11_hear_5 ?_
  refine hp_eqi (z := nI 4) (congrArg nI hs) ?_
  refine lv_istore_n (lv' := [(2, .int (nI 4)), (0, .ref o), (1, .int (nI t))]) hx hb dX11_hear_6 rfl hl (by decide) rfl (fun ls hl => ?_)
  refine lv_iload_n hx hb dX11_hear_7 rfl (lv_at hl 0 rfl) ?_
  refine lv_iconst (v := nI 1) hx hb dX11_hear_8 (by decide) ?_
  refine lv_icmp_ne (tgt := 37) hx hb dX11_hear_9 (by decide) (fun c_9 => ?_) (fun c_9 => ?_)
  · have c_9 : ¬ (4 = 1) := fun z => c_9 ((nI_eq (by omega) (by omega)).mpr z)
    refine lv_iload_n hx hb dX11_hear_37 rfl (lv_at hl 0 rfl) ?_
    refine lv_iconst (v := nI 4) hx hb dX11_hear_38 (by decide) ?_
    refine lv_icmp_ne (tgt := 59) hx hb dX11_hear_39 (by decide) (fun c_39 => ?_) (fun c_39 => ?_)
    · exact absurd c_39 (by decide)
    · have c_39 : 4 = 4 := (nI_eq (by omega) (by omega)).mp c_39
      refine lv_aload_n hx hb dX11_hear_42 rfl (lv_at hl 1 rfl) ?_
      refine hp_get hx hb hown hS.2.1 hH (F_X11_98.use hS) f_o rfl dX11_hear_43 ?_
      refine lv_iconst (v := nI 2) hx hb dX11_hear_46 (by decide) ?_
      refine lv_icmp_ne (tgt := 348) hx hb dX11_hear_47 (by decide) (fun c_47 => ?_) (fun c_47 => ?_)
      · have c_47 : ¬ (kd = 2) := fun z => c_47 ((nI_eq (by omega) (by omega)).mpr z)
        have hR : hrR kd (decide (kl = L t)) (mtN sl td tc) lv 4 (L t) = 0 := by first | (simp [hrR, c_47]; done) | (exfalso; omega)
        have hSn : hrS kd (decide (kl = L t)) (mtN sl td tc) lv 4 (L t) = 4 := by first | (simp [hrS, bkS, c_47]; done) | (exfalso; omega)
        have hLn : hrL kd (decide (kl = L t)) (mtN sl td tc) lv 4 (L t) = L t := by first | (simp [hrL, c_47]; done) | (exfalso; omega)
        have f_4 := f_4.trans (congrArg (fun g => some (hp_n X 17 g)) (show S = setN S t (hrS kd (decide (kl = L t)) (mtN sl td tc) lv 4 (L t)) from by rw [hSn, ← hs, setN_id]))
        have f_5 := f_5.trans (congrArg (fun g => some (hp_n X 17 g)) (show L = setN L t (hrL kd (decide (kl = L t)) (mtN sl td tc) lv 4 (L t)) from by rw [hLn, setN_id]))
        have f_o : μ o = some (hp_o 7 [.int (nI n), .ref (o + 1), .ref (o + 2), .ref (o + 3), .ref (o + 4), .ref (o + 5), .ref (o + 6), .int (nB on), .int (nI tz), .ref (o + 7), .int (nI se), .ref (o + 8), .ref (o + 9), .int (nI kd), .int (nI kl), .int (nI tc), .ref (o + 10), .int (nI (saL (hrR kd (decide (kl = L t)) (mtN sl td tc) lv 4 (L t)) tc)), .ref (o + 11), .int (nI hd), .ref (o + 12), .int (nI an), .ref (o + 13), .int (nI fm), .int (nI fo), .ref (o + 14), .ref (o + 15), .int (nI kc), .ref (o + 16)]) := by rw [hR]; exact f_o
        exact hp_rv hx hb hr hlocks hS hH (⟨rfl, J, h01, f_o, f_4, f_5, f_11, (fun j hj => by rw [hR] at hj; exact absurd hj (Nat.not_lt_zero _)), fr⟩) dX11_hear_348
      · have c_47 : kd = 2 := (nI_eq (by omega) (by omega)).mp c_47
        refine lv_aload_n hx hb dX11_hear_50 rfl (lv_at hl 1 rfl) ?_
        refine lv_iload_n hx hb dX11_hear_51 rfl (lv_at hl 2 rfl) ?_
        refine lv_iconst (v := nI 5) hx hb dX11_hear_52 (by decide) ?_
        refine hp_kvm (hp_runV (As := [.int (nI t), .int (nI 5)]) (rest := []) hx hb hml hown hS hH (c_X11_begin l X (as := 5) ht hz hl1 hl3 f_o f_1 f_4 f_5 f_11) M_X11_117 I_X11_begin V_X11_begin (ci := 7) rfl rfl f_o rfl hl.1 rfl (Nat.le_of_ble_eq_true rfl) dX11_hear_53 ⟨Nat.le_of_ble_eq_true rfl, Nat.le_of_ble_eq_true rfl⟩ ⟨Nat.le_of_ble_eq_true rfl, Nat.le_of_ble_eq_true rfl⟩) hH (fun μ1 H locs hp hH => ?_)
        obtain ⟨fz0, fz1, fz2, fz3, fe⟩ := hp
        have f_1 := (fe.at 1 (by decide)).trans f_1
        have f_6 := (fe.at 6 (by decide)).trans f_6
        have f_9 := (fe.at 9 (by decide)).trans f_9
        have f_10 := (fe.at 10 (by decide)).trans f_10
        have f_o : μ1 o = some (hp_o 7 [.int (nI n), .ref (o + 1), .ref (o + 2), .ref (o + 3), .ref (o + 4), .ref (o + 5), .ref (o + 6), .int (nB on), .int (nI tz), .ref (o + 7), .int (nI se), .ref (o + 8), .ref (o + 9), .int (nI kd), .int (nI kl), .int (nI tc), .ref (o + 10), .int (nI 18), .ref (o + 11), .int (nI hd), .ref (o + 12), .int (nI an), .ref (o + 13), .int (nI fm), .int (nI fo), .ref (o + 14), .ref (o + 15), .int (nI kc), .ref (o + 16)]) := fz0
        have f_4 : μ1 (o + 4) = some (hp_n X 17 (setN S t 5)) := fz1
        have f_5 : μ1 (o + 5) = some (hp_n X 17 (setN L t 1)) := fz2
        have f_11 : μ1 (o + 11) = some (hp_n X 64 (apO (apO J 0 (4 + 64 * (lv - 1))) 9 0)) := fz3
        have fr := hp_eqM.tr fe fr (by decide)
        clear fe fz0 fz1 fz2 fz3
        refine lv_goto (tgt := 348) hx hb dX11_hear_56 (by decide) ?_
        have hR : hrR kd (decide (kl = L t)) (mtN sl td tc) lv 4 (L t) = 1 := by first | (simp [hrR, c_47]; done) | (exfalso; omega)
        have hSn : hrS kd (decide (kl = L t)) (mtN sl td tc) lv 4 (L t) = 5 := by first | (simp [hrS, bkS, c_47]; done) | (exfalso; omega)
        have hLn : hrL kd (decide (kl = L t)) (mtN sl td tc) lv 4 (L t) = 1 := by first | (simp [hrL, c_47]; done) | (exfalso; omega)
        have f_4 := f_4.trans (congrArg (fun g => some (hp_n X 17 g)) (show setN S t 5 = setN S t (hrS kd (decide (kl = L t)) (mtN sl td tc) lv 4 (L t)) from by rw [hSn]))
        have f_5 := f_5.trans (congrArg (fun g => some (hp_n X 17 g)) (show setN L t 1 = setN L t (hrL kd (decide (kl = L t)) (mtN sl td tc) lv 4 (L t)) from by rw [hLn]))
        have f_o : μ1 o = some (hp_o 7 [.int (nI n), .ref (o + 1), .ref (o + 2), .ref (o + 3), .ref (o + 4), .ref (o + 5), .ref (o + 6), .int (nB on), .int (nI tz), .ref (o + 7), .int (nI se), .ref (o + 8), .ref (o + 9), .int (nI kd), .int (nI kl), .int (nI tc), .ref (o + 10), .int (nI (saL (hrR kd (decide (kl = L t)) (mtN sl td tc) lv 4 (L t)) tc)), .ref (o + 11), .int (nI hd), .ref (o + 12), .int (nI an), .ref (o + 13), .int (nI fm), .int (nI fo), .ref (o + 14), .ref (o + 15), .int (nI kc), .ref (o + 16)]) := by rw [hR]; exact f_o
        exact hp_rv hx hb hr hlocks hS hH (⟨rfl, (apO (apO J 0 (4 + 64 * (lv - 1))) 9 0), apO_01 (apO_01 h01 _ _) _ _, f_o, f_4, f_5, f_11, (fun j hj => by rw [hR] at hj ⊢; exact (bg_bits (by omega)) j hj), fr⟩) dX11_hear_348
  · exact absurd c_9 (by decide)

set_option maxHeartbeats 4000000 in
set_option maxRecDepth 100000 in
theorem c_X11_hear_5 (l : Launch) (X : hp_X) {μ : hp_M} {nx : Nat} {o n tz se kd kl tc hd an fm fo kc : Nat} {on : Bool} {t sl td lv se2 : Nat} {Z S L sh2 D J : Nat → Nat} {Bf : Nat → Int32} (hs0 : S t = 5) (ht : t < 17) (hz : Z t = 3 * lv + 1) (hl1 : 1 ≤ lv) (hl3 : lv ≤ 3) (hL1 : 1 ≤ L t) (hL3 : L t ≤ 3) (hLlv : L t ≤ lv) (hkd8 : kd < 8) (hkl : kd = 3 ∨ kd = 4 → kl < 2 ^ 20) (hkd : kd = 3 ∨ kd = 4 → tc ≤ 40 ∧ ∀ k, k < tc → D k = td / 2 ^ k % 2) (hk6 : kd = 6 → Bf 1 = nI se2 ∧ se2 < 256) (h01 : ∀ j, J j < 2) (hsh : ∀ k, k < 40 → sh2 (120 * t + 40 * (L t - 1) + k) = sl / 2 ^ k % 2) (f_o : μ o = some (hp_o 7 [.int (nI n), .ref (o + 1), .ref (o + 2), .ref (o + 3), .ref (o + 4), .ref (o + 5), .ref (o + 6), .int (nB on), .int (nI tz), .ref (o + 7), .int (nI se), .ref (o + 8), .ref (o + 9), .int (nI kd), .int (nI kl), .int (nI tc), .ref (o + 10), .int (nI 0), .ref (o + 11), .int (nI hd), .ref (o + 12), .int (nI an), .ref (o + 13), .int (nI fm), .int (nI fo), .ref (o + 14), .ref (o + 15), .int (nI kc), .ref (o + 16)])) (f_1 : μ (o + 1) = some (hp_n X 17 Z)) (f_4 : μ (o + 4) = some (hp_n X 17 S)) (f_5 : μ (o + 5) = some (hp_n X 17 L)) (f_6 : μ (o + 6) = some (hp_n X 2040 sh2)) (f_9 : μ (o + 9) = some (hp_i X 18 Bf)) (f_10 : μ (o + 10) = some (hp_n X 48 D)) (f_11 : μ (o + 11) = some (hp_n X 64 J)) : Ct l X yX11_hear cX11_hear 6 (none : Option Jvm.ClassFile.FieldType) 3 120 0 0 [.ref o, .int (nI t)] μ nx (hq_v X (po_v nx (fun z => ∃ J9 : Nat → Nat, (∀ j, J9 j < 2) ∧ z o = some (hp_o 7 [.int (nI n), .ref (o + 1), .ref (o + 2), .ref (o + 3), .ref (o + 4), .ref (o + 5), .ref (o + 6), .int (nB on), .int (nI tz), .ref (o + 7), .int (nI se), .ref (o + 8), .ref (o + 9), .int (nI kd), .int (nI kl), .int (nI tc), .ref (o + 10), .int (nI (saL (hrR kd (decide (kl = L t)) (mtN sl td tc) lv 5 (L t)) tc)), .ref (o + 11), .int (nI hd), .ref (o + 12), .int (nI an), .ref (o + 13), .int (nI fm), .int (nI fo), .ref (o + 14), .ref (o + 15), .int (nI kc), .ref (o + 16)]) ∧ z (o + 4) = some (hp_n X 17 (setN S t (hrS kd (decide (kl = L t)) (mtN sl td tc) lv 5 (L t)))) ∧ z (o + 5) = some (hp_n X 17 (setN L t (hrL kd (decide (kl = L t)) (mtN sl td tc) lv 5 (L t)))) ∧ z (o + 11) = some (hp_n X 64 J9) ∧ (∀ j, j < saL (hrR kd (decide (kl = L t)) (mtN sl td tc) lv 5 (L t)) tc → J9 j = saB (hrR kd (decide (kl = L t)) (mtN sl td tc) lv 5 (L t)) lv sl se2 tc / 2 ^ j % 2) ∧ hp_eqM [0, 4, 5, 11] o z μ))) := by
  refine hp_met (by decide) (Nat.le_of_ble_eq_true rfl) ?_
  intro p e s m below meth c ls hx hb hml hr hlocks hown hin hS hH hl
  have hl : lv_has ls 6 [(0, .ref o), (1, .int (nI t))] := hl
  have fr : hp_eqM [0, 4, 5, 11] o μ μ := fun _ _ => rfl
  have hs : S t = 5 := hs0
  refine lv_aload_n hx hb dX11_hear_0 rfl (lv_at hl 0 rfl) ?_
  refine hp_get hx hb hown hS.2.1 hH (F_X11_20.use hS) f_o rfl dX11_hear_1 ?_
  refine lv_iload_n hx hb dX11_hear_4 rfl (lv_at hl 1 rfl) ?_
  refine hp_ialdN hx hb hS.ai hH f_4 (by omega) (by omega) dX11_hear_5 ?_
  refine hp_eqi (z := nI 5) (congrArg nI hs) ?_
  refine lv_istore_n (lv' := [(2, .int (nI 5)), (0, .ref o), (1, .int (nI t))]) hx hb dX11_hear_6 rfl hl (by decide) rfl (fun ls hl => ?_)
  refine lv_iload_n hx hb dX11_hear_7 rfl (lv_at hl 0 rfl) ?_
  refine lv_iconst (v := nI 1) hx hb dX11_hear_8 (by decide) ?_
  refine lv_icmp_ne (tgt := 37) hx hb dX11_hear_9 (by decide) (fun c_9 => ?_) (fun c_9 => ?_)
  · have c_9 : ¬ (5 = 1) := fun z => c_9 ((nI_eq (by omega) (by omega)).mpr z)
    refine lv_iload_n hx hb dX11_hear_37 rfl (lv_at hl 0 rfl) ?_
    refine lv_iconst (v := nI 4) hx hb dX11_hear_38 (by decide) ?_
    refine lv_icmp_ne (tgt := 59) hx hb dX11_hear_39 (by decide) (fun c_39 => ?_) (fun c_39 => ?_)
    · have c_39 : ¬ (5 = 4) := fun z => c_39 ((nI_eq (by omega) (by omega)).mpr z)
      refine lv_iload_n hx hb dX11_hear_59 rfl (lv_at hl 0 rfl) ?_
      refine lv_iconst (v := nI 2) hx hb dX11_hear_60 (by decide) ?_
      refine lv_icmp_eq (tgt := 69) hx hb dX11_hear_61 (by decide) (fun c_61 => ?_) (fun c_61 => ?_)
      · exact absurd c_61 (by decide)
      · have c_61 : ¬ (5 = 2) := fun z => c_61 ((nI_eq (by omega) (by omega)).mpr z)
        refine lv_iload_n hx hb dX11_hear_64 rfl (lv_at hl 0 rfl) ?_
        refine lv_iconst (v := nI 5) hx hb dX11_hear_65 (by decide) ?_
        refine lv_icmp_ne (tgt := 232) hx hb dX11_hear_66 (by decide) (fun c_66 => ?_) (fun c_66 => ?_)
        · exact absurd c_66 (by decide)
        · have c_66 : 5 = 5 := (nI_eq (by omega) (by omega)).mp c_66
          refine lv_aload_n hx hb dX11_hear_69 rfl (lv_at hl 1 rfl) ?_
          refine hp_get hx hb hown hS.2.1 hH (F_X11_98.use hS) f_o rfl dX11_hear_70 ?_
          refine lv_iconst (v := nI 3) hx hb dX11_hear_73 (by decide) ?_
          refine lv_icmp_eq (tgt := 85) hx hb dX11_hear_74 (by decide) (fun c_74 => ?_) (fun c_74 => ?_)
          · have c_74 : kd = 3 := (nI_eq (by omega) (by omega)).mp c_74
            have hkl9 := hkl (by omega)
            refine lv_aload_n hx hb dX11_hear_85 rfl (lv_at hl 1 rfl) ?_
            refine hp_get hx hb hown hS.2.1 hH (F_X11_107.use hS) f_o rfl dX11_hear_86 ?_
            refine lv_aload_n hx hb dX11_hear_89 rfl (lv_at hl 1 rfl) ?_
            refine hp_get hx hb hown hS.2.1 hH (F_X11_23.use hS) f_o rfl dX11_hear_90 ?_
            refine lv_iload_n hx hb dX11_hear_93 rfl (lv_at hl 2 rfl) ?_
            refine hp_ialdN hx hb hS.ai hH f_5 (by omega) (by omega) dX11_hear_94 ?_
            refine lv_icmp_ne (tgt := 102) hx hb dX11_hear_95 (by decide) (fun c_95 => ?_) (fun c_95 => ?_)
            · have c_95 : ¬ (kl = (L t)) := fun z => c_95 ((nI_eq (by omega) (by omega)).mpr z)
              refine lv_iconst (v := nI 0) hx hb dX11_hear_102 (by decide) ?_
              refine lv_istore_n (lv' := [(3, .int (nI 0)), (2, .int (nI 5)), (0, .ref o), (1, .int (nI t))]) hx hb dX11_hear_103 rfl hl (by decide) rfl (fun ls hl => ?_)
              refine lv_iload_n hx hb dX11_hear_104 rfl (lv_at hl 0 rfl) ?_
              refine lv_if_eq (tgt := 120) hx hb dX11_hear_105 (by decide) (fun c_105 => ?_) (fun c_105 => ?_)
              · have c_105 : 0 = 0 := nz_0 (by omega) c_105
                refine lv_iconst (v := nI 0) hx hb dX11_hear_120 (by decide) ?_
                refine lv_istore (lv' := [(4, .int (nI 0)), (3, .int (nI 0)), (2, .int (nI 5)), (0, .ref o), (1, .int (nI t))]) hx hb dX11_hear_121 hl (by decide) rfl (fun ls hl => ?_)
                refine lv_iload_n hx hb dX11_hear_123 rfl (lv_at hl 1 rfl) ?_
                refine lv_if_eq (tgt := 148) hx hb dX11_hear_124 (by decide) (fun c_124 => ?_) (fun c_124 => ?_)
                · have c_124 : 0 = 0 := nz_0 (by omega) c_124
                  refine lv_iload hx hb dX11_hear_148 (lv_at hl 0 rfl) ?_
                  refine lv_if_eq (tgt := 224) hx hb dX11_hear_150 (by decide) (fun c_150 => ?_) (fun c_150 => ?_)
                  · have c_150 : 0 = 0 := nz_0 (by omega) c_150
                    refine lv_aload_n hx hb dX11_hear_224 rfl (lv_at hl 3 rfl) ?_
                    refine lv_iload_n hx hb dX11_hear_225 rfl (lv_at hl 4 rfl) ?_
                    refine hp_kvm (hp_runV (As := [.int (nI t)]) (rest := []) hx hb hml hown hS hH (c_X11_back l X ht (by omega) f_o f_4) M_X11_133 I_X11_back V_X11_back (ci := 7) rfl rfl f_o rfl hl.1 rfl (Nat.le_of_ble_eq_true rfl) dX11_hear_226 ⟨Nat.le_of_ble_eq_true rfl, Nat.le_of_ble_eq_true rfl⟩ ⟨Nat.le_of_ble_eq_true rfl, Nat.le_of_ble_eq_true rfl⟩) hH (fun μ1 H locs hp hH => ?_)
                    obtain ⟨fz0, fe⟩ := hp
                    have f_o := (fe.at0 (by decide)).trans f_o
                    have f_1 := (fe.at 1 (by decide)).trans f_1
                    have f_5 := (fe.at 5 (by decide)).trans f_5
                    have f_6 := (fe.at 6 (by decide)).trans f_6
                    have f_9 := (fe.at 9 (by decide)).trans f_9
                    have f_10 := (fe.at 10 (by decide)).trans f_10
                    have f_11 := (fe.at 11 (by decide)).trans f_11
                    have f_4 : μ1 (o + 4) = some (hp_n X 17 (setN S t (if S t < 4 then 1 else 4))) := fz0
                    have fr := hp_eqM.tr fe fr (by decide)
                    clear fe fz0
                    have f_4 := f_4.trans (congrArg (fun g => some (hp_n X 17 g)) (show setN S t (if S t < 4 then 1 else 4) = setN S t 4 from by rw [hs]; rfl))
                    refine lv_goto (tgt := 348) hx hb dX11_hear_229 (by decide) ?_
                    have hR : hrR kd (decide (kl = L t)) (mtN sl td tc) lv 5 (L t) = 0 := by first | (simp [hrR, c_74, c_95]; done) | (exfalso; omega)
                    have hSn : hrS kd (decide (kl = L t)) (mtN sl td tc) lv 5 (L t) = 4 := by first | (simp [hrS, bkS, c_74, c_95]; done) | (exfalso; omega)
                    have hLn : hrL kd (decide (kl = L t)) (mtN sl td tc) lv 5 (L t) = L t := by first | (simp [hrL, c_74, c_95]; done) | (exfalso; omega)
                    have f_4 := f_4.trans (congrArg (fun g => some (hp_n X 17 g)) (show setN S t 4 = setN S t (hrS kd (decide (kl = L t)) (mtN sl td tc) lv 5 (L t)) from by rw [hSn]))
                    have f_5 := f_5.trans (congrArg (fun g => some (hp_n X 17 g)) (show L = setN L t (hrL kd (decide (kl = L t)) (mtN sl td tc) lv 5 (L t)) from by rw [hLn, setN_id]))
                    have f_o : μ1 o = some (hp_o 7 [.int (nI n), .ref (o + 1), .ref (o + 2), .ref (o + 3), .ref (o + 4), .ref (o + 5), .ref (o + 6), .int (nB on), .int (nI tz), .ref (o + 7), .int (nI se), .ref (o + 8), .ref (o + 9), .int (nI kd), .int (nI kl), .int (nI tc), .ref (o + 10), .int (nI (saL (hrR kd (decide (kl = L t)) (mtN sl td tc) lv 5 (L t)) tc)), .ref (o + 11), .int (nI hd), .ref (o + 12), .int (nI an), .ref (o + 13), .int (nI fm), .int (nI fo), .ref (o + 14), .ref (o + 15), .int (nI kc), .ref (o + 16)]) := by rw [hR]; exact f_o
                    exact hp_rv hx hb hr hlocks hS hH (⟨rfl, J, h01, f_o, f_4, f_5, f_11, (fun j hj => by rw [hR] at hj; exact absurd hj (Nat.not_lt_zero _)), fr⟩) dX11_hear_348
                  · exact absurd c_150 (by decide)
                · exact absurd c_124 (by decide)
              · exact absurd c_105 (by decide)
            · have c_95 : kl = (L t) := (nI_eq (by omega) (by omega)).mp c_95
              refine lv_iconst (v := nI 1) hx hb dX11_hear_98 (by decide) ?_
              refine lv_goto (tgt := 103) hx hb dX11_hear_99 (by decide) ?_
              refine lv_istore_n (lv' := [(3, .int (nI 1)), (2, .int (nI 5)), (0, .ref o), (1, .int (nI t))]) hx hb dX11_hear_103 rfl hl (by decide) rfl (fun ls hl => ?_)
              refine lv_iload_n hx hb dX11_hear_104 rfl (lv_at hl 0 rfl) ?_
              refine lv_if_eq (tgt := 120) hx hb dX11_hear_105 (by decide) (fun c_105 => ?_) (fun c_105 => ?_)
              · exact absurd c_105 (by decide)
              · have c_105 : ¬ (1 = 0) := nz_n (by omega) c_105
                refine lv_aload_n hx hb dX11_hear_108 rfl (lv_at hl 2 rfl) ?_
                refine lv_iload_n hx hb dX11_hear_109 rfl (lv_at hl 3 rfl) ?_
                refine hp_kip (hp_runV (As := [.int (nI t)]) (rest := []) hx hb hml hown hS hH (c_X11_shows l X ht hL1 hL3 (hkd (by omega)).1 hsh (hkd (by omega)).2 f_o f_5 f_6 f_10) M_X11_121 I_X11_shows V_X11_shows (ci := 7) rfl rfl f_o rfl hl.1 rfl (Nat.le_of_ble_eq_true rfl) dX11_hear_110 ⟨Nat.le_of_ble_eq_true rfl, Nat.le_of_ble_eq_true rfl⟩ ⟨Nat.le_of_ble_eq_true rfl, Nat.le_of_ble_eq_true rfl⟩) hH (fun H locs hH => ?_)
                refine lv_if_eq (tgt := 120) hx hb dX11_hear_113 (by decide) (fun c_113 => ?_) (fun c_113 => ?_)
                · have c_113 : (mtN sl td tc) = false := nB_0 c_113
                  refine lv_iconst (v := nI 0) hx hb dX11_hear_120 (by decide) ?_
                  refine lv_istore (lv' := [(4, .int (nI 0)), (3, .int (nI 1)), (2, .int (nI 5)), (0, .ref o), (1, .int (nI t))]) hx hb dX11_hear_121 hl (by decide) rfl (fun ls hl => ?_)
                  refine lv_iload_n hx hb dX11_hear_123 rfl (lv_at hl 1 rfl) ?_
                  refine lv_if_eq (tgt := 148) hx hb dX11_hear_124 (by decide) (fun c_124 => ?_) (fun c_124 => ?_)
                  · exact absurd c_124 (by decide)
                  · have c_124 : ¬ (1 = 0) := nz_n (by omega) c_124
                    refine lv_aload_n hx hb dX11_hear_127 rfl (lv_at hl 3 rfl) ?_
                    refine hp_get hx hb hown hS.2.1 hH (F_X11_98.use hS) f_o rfl dX11_hear_128 ?_
                    refine lv_iconst (v := nI 3) hx hb dX11_hear_131 (by decide) ?_
                    refine lv_icmp_ne (tgt := 148) hx hb dX11_hear_132 (by decide) (fun c_132 => ?_) (fun c_132 => ?_)
                    · have c_132 : ¬ (kd = 3) := fun z => c_132 ((nI_eq (by omega) (by omega)).mpr z)
                      refine lv_iload hx hb dX11_hear_148 (lv_at hl 0 rfl) ?_
                      refine lv_if_eq (tgt := 224) hx hb dX11_hear_150 (by decide) (fun c_150 => ?_) (fun c_150 => ?_)
                      · have c_150 : 0 = 0 := nz_0 (by omega) c_150
                        refine lv_aload_n hx hb dX11_hear_224 rfl (lv_at hl 3 rfl) ?_
                        refine lv_iload_n hx hb dX11_hear_225 rfl (lv_at hl 4 rfl) ?_
                        refine hp_kvm (hp_runV (As := [.int (nI t)]) (rest := []) hx hb hml hown hS hH (c_X11_back l X ht (by omega) f_o f_4) M_X11_133 I_X11_back V_X11_back (ci := 7) rfl rfl f_o rfl hl.1 rfl (Nat.le_of_ble_eq_true rfl) dX11_hear_226 ⟨Nat.le_of_ble_eq_true rfl, Nat.le_of_ble_eq_true rfl⟩ ⟨Nat.le_of_ble_eq_true rfl, Nat.le_of_ble_eq_true rfl⟩) hH (fun μ1 H locs hp hH => ?_)
                        obtain ⟨fz0, fe⟩ := hp
                        have f_o := (fe.at0 (by decide)).trans f_o
                        have f_1 := (fe.at 1 (by decide)).trans f_1
                        have f_5 := (fe.at 5 (by decide)).trans f_5
                        have f_6 := (fe.at 6 (by decide)).trans f_6
                        have f_9 := (fe.at 9 (by decide)).trans f_9
                        have f_10 := (fe.at 10 (by decide)).trans f_10
                        have f_11 := (fe.at 11 (by decide)).trans f_11
                        have f_4 : μ1 (o + 4) = some (hp_n X 17 (setN S t (if S t < 4 then 1 else 4))) := fz0
                        have fr := hp_eqM.tr fe fr (by decide)
                        clear fe fz0
                        have f_4 := f_4.trans (congrArg (fun g => some (hp_n X 17 g)) (show setN S t (if S t < 4 then 1 else 4) = setN S t 4 from by rw [hs]; rfl))
                        refine lv_goto (tgt := 348) hx hb dX11_hear_229 (by decide) ?_
                        have hR : hrR kd (decide (kl = L t)) (mtN sl td tc) lv 5 (L t) = 0 := by first | (simp [hrR, c_74, c_95, c_113]; done) | (exfalso; omega)
                        have hSn : hrS kd (decide (kl = L t)) (mtN sl td tc) lv 5 (L t) = 4 := by first | (simp [hrS, bkS, c_74, c_95, c_113]; done) | (exfalso; omega)
                        have hLn : hrL kd (decide (kl = L t)) (mtN sl td tc) lv 5 (L t) = L t := by first | (simp [hrL, c_74, c_95, c_113]; done) | (exfalso; omega)
                        have f_4 := f_4.trans (congrArg (fun g => some (hp_n X 17 g)) (show setN S t 4 = setN S t (hrS kd (decide (kl = L t)) (mtN sl td tc) lv 5 (L t)) from by rw [hSn]))
                        have f_5 := f_5.trans (congrArg (fun g => some (hp_n X 17 g)) (show L = setN L t (hrL kd (decide (kl = L t)) (mtN sl td tc) lv 5 (L t)) from by rw [hLn, setN_id]))
                        have f_o : μ1 o = some (hp_o 7 [.int (nI n), .ref (o + 1), .ref (o + 2), .ref (o + 3), .ref (o + 4), .ref (o + 5), .ref (o + 6), .int (nB on), .int (nI tz), .ref (o + 7), .int (nI se), .ref (o + 8), .ref (o + 9), .int (nI kd), .int (nI kl), .int (nI tc), .ref (o + 10), .int (nI (saL (hrR kd (decide (kl = L t)) (mtN sl td tc) lv 5 (L t)) tc)), .ref (o + 11), .int (nI hd), .ref (o + 12), .int (nI an), .ref (o + 13), .int (nI fm), .int (nI fo), .ref (o + 14), .ref (o + 15), .int (nI kc), .ref (o + 16)]) := by rw [hR]; exact f_o
                        exact hp_rv hx hb hr hlocks hS hH (⟨rfl, J, h01, f_o, f_4, f_5, f_11, (fun j hj => by rw [hR] at hj; exact absurd hj (Nat.not_lt_zero _)), fr⟩) dX11_hear_348
                      · exact absurd c_150 (by decide)
                    · have c_132 : kd = 3 := (nI_eq (by omega) (by omega)).mp c_132
                      refine lv_iload hx hb dX11_hear_135 (lv_at hl 0 rfl) ?_
                      refine lv_if_eq (tgt := 229) hx hb dX11_hear_137 (by decide) (fun c_137 => ?_) (fun c_137 => ?_)
                      · have c_137 : 0 = 0 := nz_0 (by omega) c_137
                        refine lv_goto (tgt := 348) hx hb dX11_hear_229 (by decide) ?_
                        have hR : hrR kd (decide (kl = L t)) (mtN sl td tc) lv 5 (L t) = 0 := by first | (simp [hrR, c_74, c_95, c_113]; done) | (exfalso; omega)
                        have hSn : hrS kd (decide (kl = L t)) (mtN sl td tc) lv 5 (L t) = 5 := by first | (simp [hrS, bkS, c_74, c_95, c_113]; done) | (exfalso; omega)
                        have hLn : hrL kd (decide (kl = L t)) (mtN sl td tc) lv 5 (L t) = L t := by first | (simp [hrL, c_74, c_95, c_113]; done) | (exfalso; omega)
                        have f_4 := f_4.trans (congrArg (fun g => some (hp_n X 17 g)) (show S = setN S t (hrS kd (decide (kl = L t)) (mtN sl td tc) lv 5 (L t)) from by rw [hSn, ← hs, setN_id]))
                        have f_5 := f_5.trans (congrArg (fun g => some (hp_n X 17 g)) (show L = setN L t (hrL kd (decide (kl = L t)) (mtN sl td tc) lv 5 (L t)) from by rw [hLn, setN_id]))
                        have f_o : μ o = some (hp_o 7 [.int (nI n), .ref (o + 1), .ref (o + 2), .ref (o + 3), .ref (o + 4), .ref (o + 5), .ref (o + 6), .int (nB on), .int (nI tz), .ref (o + 7), .int (nI se), .ref (o + 8), .ref (o + 9), .int (nI kd), .int (nI kl), .int (nI tc), .ref (o + 10), .int (nI (saL (hrR kd (decide (kl = L t)) (mtN sl td tc) lv 5 (L t)) tc)), .ref (o + 11), .int (nI hd), .ref (o + 12), .int (nI an), .ref (o + 13), .int (nI fm), .int (nI fo), .ref (o + 14), .ref (o + 15), .int (nI kc), .ref (o + 16)]) := by rw [hR]; exact f_o
                        exact hp_rv hx hb hr hlocks hS hH (⟨rfl, J, h01, f_o, f_4, f_5, f_11, (fun j hj => by rw [hR] at hj; exact absurd hj (Nat.not_lt_zero _)), fr⟩) dX11_hear_348
                      · exact absurd c_137 (by decide)
                · have c_113 : (mtN sl td tc) = true := nB_n c_113
                  refine lv_iconst (v := nI 1) hx hb dX11_hear_116 (by decide) ?_
                  refine lv_goto (tgt := 121) hx hb dX11_hear_117 (by decide) ?_
                  refine lv_istore (lv' := [(4, .int (nI 1)), (3, .int (nI 1)), (2, .int (nI 5)), (0, .ref o), (1, .int (nI t))]) hx hb dX11_hear_121 hl (by decide) rfl (fun ls hl => ?_)
                  refine lv_iload_n hx hb dX11_hear_123 rfl (lv_at hl 1 rfl) ?_
                  refine lv_if_eq (tgt := 148) hx hb dX11_hear_124 (by decide) (fun c_124 => ?_) (fun c_124 => ?_)
                  · exact absurd c_124 (by decide)
                  · have c_124 : ¬ (1 = 0) := nz_n (by omega) c_124
                    refine lv_aload_n hx hb dX11_hear_127 rfl (lv_at hl 3 rfl) ?_
                    refine hp_get hx hb hown hS.2.1 hH (F_X11_98.use hS) f_o rfl dX11_hear_128 ?_
                    refine lv_iconst (v := nI 3) hx hb dX11_hear_131 (by decide) ?_
                    refine lv_icmp_ne (tgt := 148) hx hb dX11_hear_132 (by decide) (fun c_132 => ?_) (fun c_132 => ?_)
                    · have c_132 : ¬ (kd = 3) := fun z => c_132 ((nI_eq (by omega) (by omega)).mpr z)
                      refine lv_iload hx hb dX11_hear_148 (lv_at hl 0 rfl) ?_
                      refine lv_if_eq (tgt := 224) hx hb dX11_hear_150 (by decide) (fun c_150 => ?_) (fun c_150 => ?_)
                      · exact absurd c_150 (by decide)
                      · have c_150 : ¬ (1 = 0) := nz_n (by omega) c_150
                        refine lv_aload_n hx hb dX11_hear_153 rfl (lv_at hl 3 rfl) ?_
                        refine hp_get hx hb hown hS.2.1 hH (F_X11_23.use hS) f_o rfl dX11_hear_154 ?_
                        refine lv_iload_n hx hb dX11_hear_157 rfl (lv_at hl 4 rfl) ?_
                        refine hp_ialdN hx hb hS.ai hH f_5 (by omega) (by omega) dX11_hear_158 ?_
                        refine lv_aload_n hx hb dX11_hear_159 rfl (lv_at hl 3 rfl) ?_
                        refine lv_iload_n hx hb dX11_hear_160 rfl (lv_at hl 4 rfl) ?_
                        refine hp_kip (hp_runV (As := [.int (nI t)]) (rest := [.int (nI (L t))]) hx hb hml hown hS hH (c_X11_levels l X ht (by omega) f_o f_1) M_X11_127 I_X11_levels V_X11_levels (ci := 7) rfl rfl f_o rfl hl.1 rfl (Nat.le_of_ble_eq_true rfl) dX11_hear_161 ⟨Nat.le_of_ble_eq_true rfl, Nat.le_of_ble_eq_true rfl⟩ ⟨Nat.le_of_ble_eq_true rfl, Nat.le_of_ble_eq_true rfl⟩) hH (fun H locs hH => ?_)
                        refine hp_eqi (z := nI lv) (congrArg nI (show Z t / 3 = lv by omega)) ?_
                        refine lv_icmp_ne (tgt := 171) hx hb dX11_hear_164 (by decide) (fun c_164 => ?_) (fun c_164 => ?_)
                        · have c_164 : ¬ ((L t) = lv) := fun z => c_164 ((nI_eq (by omega) (by omega)).mpr z)
                          have hlt : L t < lv := by omega
                          refine lv_iconst (v := nI 0) hx hb dX11_hear_171 (by decide) ?_
                          refine lv_istore (lv' := [(5, .int (nI 0)), (4, .int (nI 1)), (3, .int (nI 1)), (2, .int (nI 5)), (0, .ref o), (1, .int (nI t))]) hx hb dX11_hear_172 hl (by decide) rfl (fun ls hl => ?_)
                          refine lv_aload_n hx hb dX11_hear_174 rfl (lv_at hl 4 rfl) ?_
                          refine lv_iload hx hb dX11_hear_175 (lv_at hl 0 rfl) ?_
                          refine lv_if_eq (tgt := 185) hx hb dX11_hear_177 (by decide) (fun c_177 => ?_) (fun c_177 => ?_)
                          · have c_177 : 0 = 0 := nz_0 (by omega) c_177
                            refine lv_iconst (v := nI 4) hx hb dX11_hear_185 (by decide) ?_
                            refine hp_kvm (hp_runV (As := [.int (nI 4)]) (rest := []) hx hb hml hown hS hH (c_X11_say l X (v := 4) (by omega) (by omega) f_o f_11) M_X11_113 I_X11_say V_X11_say (ci := 7) rfl rfl f_o rfl hl.1 rfl (Nat.le_of_ble_eq_true rfl) dX11_hear_186 ⟨Nat.le_of_ble_eq_true rfl, Nat.le_of_ble_eq_true rfl⟩ ⟨Nat.le_of_ble_eq_true rfl, Nat.le_of_ble_eq_true rfl⟩) hH (fun μ1 H locs hp hH => ?_)
                            obtain ⟨fz0, fz1, fe⟩ := hp
                            have f_1 := (fe.at 1 (by decide)).trans f_1
                            have f_4 := (fe.at 4 (by decide)).trans f_4
                            have f_5 := (fe.at 5 (by decide)).trans f_5
                            have f_6 := (fe.at 6 (by decide)).trans f_6
                            have f_9 := (fe.at 9 (by decide)).trans f_9
                            have f_10 := (fe.at 10 (by decide)).trans f_10
                            have f_o : μ1 o = some (hp_o 7 [.int (nI n), .ref (o + 1), .ref (o + 2), .ref (o + 3), .ref (o + 4), .ref (o + 5), .ref (o + 6), .int (nB on), .int (nI tz), .ref (o + 7), .int (nI se), .ref (o + 8), .ref (o + 9), .int (nI kd), .int (nI kl), .int (nI tc), .ref (o + 10), .int (nI 9), .ref (o + 11), .int (nI hd), .ref (o + 12), .int (nI an), .ref (o + 13), .int (nI fm), .int (nI fo), .ref (o + 14), .ref (o + 15), .int (nI kc), .ref (o + 16)]) := fz0
                            have f_11 : μ1 (o + 11) = some (hp_n X 64 (apO J 0 4)) := fz1
                            have fr := hp_eqM.tr fe fr (by decide)
                            clear fe fz0 fz1
                            refine lv_aload_n hx hb dX11_hear_189 rfl (lv_at hl 4 rfl) ?_
                            refine lv_iconst (v := nI 0) hx hb dX11_hear_190 (by decide) ?_
                            refine hp_kvm (hp_runV (As := [.int (nI 0)]) (rest := []) hx hb hml hown hS hH (c_X11_sayChecked l X (k := 1) (Bv := 4) (apO_01 h01 _ _) (by decide) (o1_bits (v := 4) (by omega)) f_o f_11) M_X11_130 I_X11_sayChecked V_X11_sayChecked (ci := 7) rfl rfl f_o rfl hl.1 rfl (Nat.le_of_ble_eq_true rfl) dX11_hear_191 ⟨Nat.le_of_ble_eq_true rfl, Nat.le_of_ble_eq_true rfl⟩ ⟨Nat.le_of_ble_eq_true rfl, Nat.le_of_ble_eq_true rfl⟩) hH (fun μ1 H locs hp hH => ?_)
                            obtain ⟨fz0, fz1, fe⟩ := hp
                            have f_1 := (fe.at 1 (by decide)).trans f_1
                            have f_4 := (fe.at 4 (by decide)).trans f_4
                            have f_5 := (fe.at 5 (by decide)).trans f_5
                            have f_6 := (fe.at 6 (by decide)).trans f_6
                            have f_9 := (fe.at 9 (by decide)).trans f_9
                            have f_10 := (fe.at 10 (by decide)).trans f_10
                            have f_o : μ1 o = some (hp_o 7 [.int (nI n), .ref (o + 1), .ref (o + 2), .ref (o + 3), .ref (o + 4), .ref (o + 5), .ref (o + 6), .int (nB on), .int (nI tz), .ref (o + 7), .int (nI se), .ref (o + 8), .ref (o + 9), .int (nI kd), .int (nI kl), .int (nI tc), .ref (o + 10), .int (nI 27), .ref (o + 11), .int (nI hd), .ref (o + 12), .int (nI an), .ref (o + 13), .int (nI fm), .int (nI fo), .ref (o + 14), .ref (o + 15), .int (nI kc), .ref (o + 16)]) := fz0
                            have f_11 : μ1 (o + 11) = some (hp_n X 64 (apO (apO (apO J 0 4) (9 * 1) (crcB 4 1 % 256)) (9 * 1 + 9) (crcB 4 1 / 256))) := fz1
                            have fr := hp_eqM.tr fe fr (by decide)
                            clear fe fz0 fz1
                            refine lv_iload hx hb dX11_hear_194 (lv_at hl 0 rfl) ?_
                            refine lv_if_eq (tgt := 211) hx hb dX11_hear_196 (by decide) (fun c_196 => ?_) (fun c_196 => ?_)
                            · have c_196 : 0 = 0 := nz_0 (by omega) c_196
                              refine lv_aload_n hx hb dX11_hear_211 rfl (lv_at hl 4 rfl) ?_
                              refine hp_get hx hb hown hS.2.1 hH (F_X11_23.use hS) f_o rfl dX11_hear_212 ?_
                              refine lv_iload_n hx hb dX11_hear_215 rfl (lv_at hl 5 rfl) ?_
                              refine lv_dup2_11 hx hb dX11_hear_216 rfl rfl ?_
                              refine hp_ialdN hx hb hS.ai hH f_5 (by omega) (by omega) dX11_hear_217 ?_
                              refine lv_iconst (v := nI 1) hx hb dX11_hear_218 (by decide) ?_
                              refine lv_iadd hx hb dX11_hear_219 ?_
                              refine hp_eqi (z := nI ((L t) + 1)) (nI_add _ _) ?_
                              refine hp_iastN hx hb hS.ai hH f_5 (by omega) (by omega) dX11_hear_220 (fun H locs μ1 fz fn hH => ?_)
                              have f_o := (fn _ (by omega)).trans f_o
                              have f_1 := (fn _ (by omega)).trans f_1
                              have f_4 := (fn _ (by omega)).trans f_4
                              have f_6 := (fn _ (by omega)).trans f_6
                              have f_9 := (fn _ (by omega)).trans f_9
                              have f_10 := (fn _ (by omega)).trans f_10
                              have f_11 := (fn _ (by omega)).trans f_11
                              have f_5 : μ1 (o + 5) = some (hp_n X 17 (setN L t ((L t) + 1))) := fz
                              have fr := hp_eqM.put (k := 5) fr (by decide) fn
                              clear fz fn
                              refine lv_goto (tgt := 229) hx hb dX11_hear_221 (by decide) ?_
                              refine lv_goto (tgt := 348) hx hb dX11_hear_229 (by decide) ?_
                              have hR : hrR kd (decide (kl = L t)) (mtN sl td tc) lv 5 (L t) = 3 := by first | (simp [hrR, c_74, c_95, c_113, hlt]; done) | (exfalso; omega)
                              have hSn : hrS kd (decide (kl = L t)) (mtN sl td tc) lv 5 (L t) = 5 := by first | (simp [hrS, bkS, c_74, c_95, c_113, hlt]; done) | (exfalso; omega)
                              have hLn : hrL kd (decide (kl = L t)) (mtN sl td tc) lv 5 (L t) = ((L t) + 1) := by first | (simp [hrL, c_74, c_95, c_113, hlt]; done) | (exfalso; omega)
                              have f_4 := f_4.trans (congrArg (fun g => some (hp_n X 17 g)) (show S = setN S t (hrS kd (decide (kl = L t)) (mtN sl td tc) lv 5 (L t)) from by rw [hSn, ← hs, setN_id]))
                              have f_5 := f_5.trans (congrArg (fun g => some (hp_n X 17 g)) (show setN L t ((L t) + 1) = setN L t (hrL kd (decide (kl = L t)) (mtN sl td tc) lv 5 (L t)) from by rw [hLn]))
                              have f_o : μ1 o = some (hp_o 7 [.int (nI n), .ref (o + 1), .ref (o + 2), .ref (o + 3), .ref (o + 4), .ref (o + 5), .ref (o + 6), .int (nB on), .int (nI tz), .ref (o + 7), .int (nI se), .ref (o + 8), .ref (o + 9), .int (nI kd), .int (nI kl), .int (nI tc), .ref (o + 10), .int (nI (saL (hrR kd (decide (kl = L t)) (mtN sl td tc) lv 5 (L t)) tc)), .ref (o + 11), .int (nI hd), .ref (o + 12), .int (nI an), .ref (o + 13), .int (nI fm), .int (nI fo), .ref (o + 14), .ref (o + 15), .int (nI kc), .ref (o + 16)]) := by rw [hR]; exact f_o
                              exact hp_rv hx hb hr hlocks hS hH (⟨rfl, (apO (apO (apO J 0 4) (9 * 1) (crcB 4 1 % 256)) (9 * 1 + 9) (crcB 4 1 / 256)), apO_01 (apO_01 (apO_01 h01 _ _) _ _) _ _, f_o, f_4, f_5, f_11, (fun j hj => by rw [hR] at hj ⊢; exact (sc_bits (k := 1) (B := 4) (by omega) (o1_bits (v := 4) (by omega))) j hj), fr⟩) dX11_hear_348
                            · exact absurd c_196 (by decide)
                          · exact absurd c_177 (by decide)
                        · have c_164 : (L t) = lv := (nI_eq (by omega) (by omega)).mp c_164
                          have hlt : ¬ L t < lv := by omega
                          refine lv_iconst (v := nI 1) hx hb dX11_hear_167 (by decide) ?_
                          refine lv_goto (tgt := 172) hx hb dX11_hear_168 (by decide) ?_
                          refine lv_istore (lv' := [(5, .int (nI 1)), (4, .int (nI 1)), (3, .int (nI 1)), (2, .int (nI 5)), (0, .ref o), (1, .int (nI t))]) hx hb dX11_hear_172 hl (by decide) rfl (fun ls hl => ?_)
                          refine lv_aload_n hx hb dX11_hear_174 rfl (lv_at hl 4 rfl) ?_
                          refine lv_iload hx hb dX11_hear_175 (lv_at hl 0 rfl) ?_
                          refine lv_if_eq (tgt := 185) hx hb dX11_hear_177 (by decide) (fun c_177 => ?_) (fun c_177 => ?_)
                          · exact absurd c_177 (by decide)
                          · have c_177 : ¬ (1 = 0) := nz_n (by omega) c_177
                            refine lv_bipush (v := nI 32) hx hb dX11_hear_180 (by decide) ?_
                            refine lv_goto (tgt := 186) hx hb dX11_hear_182 (by decide) ?_
                            refine hp_kvm (hp_runV (As := [.int (nI 32)]) (rest := []) hx hb hml hown hS hH (c_X11_say l X (v := 32) (by omega) (by omega) f_o f_11) M_X11_113 I_X11_say V_X11_say (ci := 7) rfl rfl f_o rfl hl.1 rfl (Nat.le_of_ble_eq_true rfl) dX11_hear_186 ⟨Nat.le_of_ble_eq_true rfl, Nat.le_of_ble_eq_true rfl⟩ ⟨Nat.le_of_ble_eq_true rfl, Nat.le_of_ble_eq_true rfl⟩) hH (fun μ1 H locs hp hH => ?_)
                            obtain ⟨fz0, fz1, fe⟩ := hp
                            have f_1 := (fe.at 1 (by decide)).trans f_1
                            have f_4 := (fe.at 4 (by decide)).trans f_4
                            have f_5 := (fe.at 5 (by decide)).trans f_5
                            have f_6 := (fe.at 6 (by decide)).trans f_6
                            have f_9 := (fe.at 9 (by decide)).trans f_9
                            have f_10 := (fe.at 10 (by decide)).trans f_10
                            have f_o : μ1 o = some (hp_o 7 [.int (nI n), .ref (o + 1), .ref (o + 2), .ref (o + 3), .ref (o + 4), .ref (o + 5), .ref (o + 6), .int (nB on), .int (nI tz), .ref (o + 7), .int (nI se), .ref (o + 8), .ref (o + 9), .int (nI kd), .int (nI kl), .int (nI tc), .ref (o + 10), .int (nI 9), .ref (o + 11), .int (nI hd), .ref (o + 12), .int (nI an), .ref (o + 13), .int (nI fm), .int (nI fo), .ref (o + 14), .ref (o + 15), .int (nI kc), .ref (o + 16)]) := fz0
                            have f_11 : μ1 (o + 11) = some (hp_n X 64 (apO J 0 32)) := fz1
                            have fr := hp_eqM.tr fe fr (by decide)
                            clear fe fz0 fz1
                            refine lv_aload_n hx hb dX11_hear_189 rfl (lv_at hl 4 rfl) ?_
                            refine lv_iconst (v := nI 0) hx hb dX11_hear_190 (by decide) ?_
                            refine hp_kvm (hp_runV (As := [.int (nI 0)]) (rest := []) hx hb hml hown hS hH (c_X11_sayChecked l X (k := 1) (Bv := 32) (apO_01 h01 _ _) (by decide) (o1_bits (v := 32) (by omega)) f_o f_11) M_X11_130 I_X11_sayChecked V_X11_sayChecked (ci := 7) rfl rfl f_o rfl hl.1 rfl (Nat.le_of_ble_eq_true rfl) dX11_hear_191 ⟨Nat.le_of_ble_eq_true rfl, Nat.le_of_ble_eq_true rfl⟩ ⟨Nat.le_of_ble_eq_true rfl, Nat.le_of_ble_eq_true rfl⟩) hH (fun μ1 H locs hp hH => ?_)
                            obtain ⟨fz0, fz1, fe⟩ := hp
                            have f_1 := (fe.at 1 (by decide)).trans f_1
                            have f_4 := (fe.at 4 (by decide)).trans f_4
                            have f_5 := (fe.at 5 (by decide)).trans f_5
                            have f_6 := (fe.at 6 (by decide)).trans f_6
                            have f_9 := (fe.at 9 (by decide)).trans f_9
                            have f_10 := (fe.at 10 (by decide)).trans f_10
                            have f_o : μ1 o = some (hp_o 7 [.int (nI n), .ref (o + 1), .ref (o + 2), .ref (o + 3), .ref (o + 4), .ref (o + 5), .ref (o + 6), .int (nB on), .int (nI tz), .ref (o + 7), .int (nI se), .ref (o + 8), .ref (o + 9), .int (nI kd), .int (nI kl), .int (nI tc), .ref (o + 10), .int (nI 27), .ref (o + 11), .int (nI hd), .ref (o + 12), .int (nI an), .ref (o + 13), .int (nI fm), .int (nI fo), .ref (o + 14), .ref (o + 15), .int (nI kc), .ref (o + 16)]) := fz0
                            have f_11 : μ1 (o + 11) = some (hp_n X 64 (apO (apO (apO J 0 32) (9 * 1) (crcB 32 1 % 256)) (9 * 1 + 9) (crcB 32 1 / 256))) := fz1
                            have fr := hp_eqM.tr fe fr (by decide)
                            clear fe fz0 fz1
                            refine lv_iload hx hb dX11_hear_194 (lv_at hl 0 rfl) ?_
                            refine lv_if_eq (tgt := 211) hx hb dX11_hear_196 (by decide) (fun c_196 => ?_) (fun c_196 => ?_)
                            · exact absurd c_196 (by decide)
                            · have c_196 : ¬ (1 = 0) := nz_n (by omega) c_196
                              refine lv_aload_n hx hb dX11_hear_199 rfl (lv_at hl 4 rfl) ?_
                              refine hp_get hx hb hown hS.2.1 hH (F_X11_20.use hS) f_o rfl dX11_hear_200 ?_
                              refine lv_iload_n hx hb dX11_hear_203 rfl (lv_at hl 5 rfl) ?_
                              refine lv_iload_n hx hb dX11_hear_204 rfl (lv_at hl 3 rfl) ?_
                              refine lv_iconst (v := nI 1) hx hb dX11_hear_205 (by decide) ?_
                              refine lv_iadd hx hb dX11_hear_206 ?_
                              refine hp_eqi (z := nI 6) (nI_add _ _) ?_
                              refine hp_iastN hx hb hS.ai hH f_4 (by omega) (by omega) dX11_hear_207 (fun H locs μ1 fz fn hH => ?_)
                              have f_o := (fn _ (by omega)).trans f_o
                              have f_1 := (fn _ (by omega)).trans f_1
                              have f_5 := (fn _ (by omega)).trans f_5
                              have f_6 := (fn _ (by omega)).trans f_6
                              have f_9 := (fn _ (by omega)).trans f_9
                              have f_10 := (fn _ (by omega)).trans f_10
                              have f_11 := (fn _ (by omega)).trans f_11
                              have f_4 : μ1 (o + 4) = some (hp_n X 17 (setN S t 6)) := fz
                              have fr := hp_eqM.put (k := 4) fr (by decide) fn
                              clear fz fn
                              refine lv_goto (tgt := 221) hx hb dX11_hear_208 (by decide) ?_
                              refine lv_goto (tgt := 229) hx hb dX11_hear_221 (by decide) ?_
                              refine lv_goto (tgt := 348) hx hb dX11_hear_229 (by decide) ?_
                              have hR : hrR kd (decide (kl = L t)) (mtN sl td tc) lv 5 (L t) = 4 := by first | (simp [hrR, c_74, c_95, c_113, hlt]; done) | (exfalso; omega)
                              have hSn : hrS kd (decide (kl = L t)) (mtN sl td tc) lv 5 (L t) = 6 := by first | (simp [hrS, bkS, c_74, c_95, c_113, hlt]; done) | (exfalso; omega)
                              have hLn : hrL kd (decide (kl = L t)) (mtN sl td tc) lv 5 (L t) = L t := by first | (simp [hrL, c_74, c_95, c_113, hlt]; done) | (exfalso; omega)
                              have f_4 := f_4.trans (congrArg (fun g => some (hp_n X 17 g)) (show setN S t 6 = setN S t (hrS kd (decide (kl = L t)) (mtN sl td tc) lv 5 (L t)) from by rw [hSn]))
                              have f_5 := f_5.trans (congrArg (fun g => some (hp_n X 17 g)) (show L = setN L t (hrL kd (decide (kl = L t)) (mtN sl td tc) lv 5 (L t)) from by rw [hLn, setN_id]))
                              have f_o : μ1 o = some (hp_o 7 [.int (nI n), .ref (o + 1), .ref (o + 2), .ref (o + 3), .ref (o + 4), .ref (o + 5), .ref (o + 6), .int (nB on), .int (nI tz), .ref (o + 7), .int (nI se), .ref (o + 8), .ref (o + 9), .int (nI kd), .int (nI kl), .int (nI tc), .ref (o + 10), .int (nI (saL (hrR kd (decide (kl = L t)) (mtN sl td tc) lv 5 (L t)) tc)), .ref (o + 11), .int (nI hd), .ref (o + 12), .int (nI an), .ref (o + 13), .int (nI fm), .int (nI fo), .ref (o + 14), .ref (o + 15), .int (nI kc), .ref (o + 16)]) := by rw [hR]; exact f_o
                              exact hp_rv hx hb hr hlocks hS hH (⟨rfl, (apO (apO (apO J 0 32) (9 * 1) (crcB 32 1 % 256)) (9 * 1 + 9) (crcB 32 1 / 256)), apO_01 (apO_01 (apO_01 h01 _ _) _ _) _ _, f_o, f_4, f_5, f_11, (fun j hj => by rw [hR] at hj ⊢; exact (sc_bits (k := 1) (B := 32) (by omega) (o1_bits (v := 32) (by omega))) j hj), fr⟩) dX11_hear_348
                    · have c_132 : kd = 3 := (nI_eq (by omega) (by omega)).mp c_132
                      refine lv_iload hx hb dX11_hear_135 (lv_at hl 0 rfl) ?_
                      refine lv_if_eq (tgt := 229) hx hb dX11_hear_137 (by decide) (fun c_137 => ?_) (fun c_137 => ?_)
                      · exact absurd c_137 (by decide)
                      · have c_137 : ¬ (1 = 0) := nz_n (by omega) c_137
                        refine lv_aload_n hx hb dX11_hear_140 rfl (lv_at hl 3 rfl) ?_
                        refine lv_iload_n hx hb dX11_hear_141 rfl (lv_at hl 4 rfl) ?_
                        refine hp_kvm (hp_runV (As := [.int (nI t)]) (rest := []) hx hb hml hown hS hH (c_X11_sayRest l X ht hL1 hL3 (hkd (by omega)).1 h01 hsh f_o f_5 f_6 f_11) M_X11_124 I_X11_sayRest V_X11_sayRest (ci := 7) rfl rfl f_o rfl hl.1 rfl (Nat.le_of_ble_eq_true rfl) dX11_hear_142 ⟨Nat.le_of_ble_eq_true rfl, Nat.le_of_ble_eq_true rfl⟩ ⟨Nat.le_of_ble_eq_true rfl, Nat.le_of_ble_eq_true rfl⟩) hH (fun μ1 H locs hp hH => ?_)
                        obtain ⟨J9, h019, fz0, fz1, hJ9, fe⟩ := hp
                        have f_1 := (fe.at 1 (by decide)).trans f_1
                        have f_4 := (fe.at 4 (by decide)).trans f_4
                        have f_5 := (fe.at 5 (by decide)).trans f_5
                        have f_6 := (fe.at 6 (by decide)).trans f_6
                        have f_9 := (fe.at 9 (by decide)).trans f_9
                        have f_10 := (fe.at 10 (by decide)).trans f_10
                        have f_o := fz0
                        have f_11 := fz1
                        have fr := hp_eqM.tr fe fr (by decide)
                        refine lv_goto (tgt := 229) hx hb dX11_hear_145 (by decide) ?_
                        refine lv_goto (tgt := 348) hx hb dX11_hear_229 (by decide) ?_
                        have hR : hrR kd (decide (kl = L t)) (mtN sl td tc) lv 5 (L t) = 2 := by first | (simp [hrR, c_74, c_95, c_113]; done) | (exfalso; omega)
                        have hSn : hrS kd (decide (kl = L t)) (mtN sl td tc) lv 5 (L t) = 5 := by first | (simp [hrS, bkS, c_74, c_95, c_113]; done) | (exfalso; omega)
                        have hLn : hrL kd (decide (kl = L t)) (mtN sl td tc) lv 5 (L t) = L t := by first | (simp [hrL, c_74, c_95, c_113]; done) | (exfalso; omega)
                        have f_4 := f_4.trans (congrArg (fun g => some (hp_n X 17 g)) (show S = setN S t (hrS kd (decide (kl = L t)) (mtN sl td tc) lv 5 (L t)) from by rw [hSn, ← hs, setN_id]))
                        have f_5 := f_5.trans (congrArg (fun g => some (hp_n X 17 g)) (show L = setN L t (hrL kd (decide (kl = L t)) (mtN sl td tc) lv 5 (L t)) from by rw [hLn, setN_id]))
                        have f_o : μ1 o = some (hp_o 7 [.int (nI n), .ref (o + 1), .ref (o + 2), .ref (o + 3), .ref (o + 4), .ref (o + 5), .ref (o + 6), .int (nB on), .int (nI tz), .ref (o + 7), .int (nI se), .ref (o + 8), .ref (o + 9), .int (nI kd), .int (nI kl), .int (nI tc), .ref (o + 10), .int (nI (saL (hrR kd (decide (kl = L t)) (mtN sl td tc) lv 5 (L t)) tc)), .ref (o + 11), .int (nI hd), .ref (o + 12), .int (nI an), .ref (o + 13), .int (nI fm), .int (nI fo), .ref (o + 14), .ref (o + 15), .int (nI kc), .ref (o + 16)]) := by rw [hR]; exact f_o
                        exact hp_rv hx hb hr hlocks hS hH (⟨rfl, J9, h019, f_o, f_4, f_5, f_11, (fun j hj => by rw [hR] at hj ⊢; exact hJ9 j hj), fr⟩) dX11_hear_348
          · have c_74 : ¬ (kd = 3) := fun z => c_74 ((nI_eq (by omega) (by omega)).mpr z)
            refine lv_aload_n hx hb dX11_hear_77 rfl (lv_at hl 1 rfl) ?_
            refine hp_get hx hb hown hS.2.1 hH (F_X11_98.use hS) f_o rfl dX11_hear_78 ?_
            refine lv_iconst (v := nI 4) hx hb dX11_hear_81 (by decide) ?_
            refine lv_icmp_ne (tgt := 102) hx hb dX11_hear_82 (by decide) (fun c_82 => ?_) (fun c_82 => ?_)
            · have c_82 : ¬ (kd = 4) := fun z => c_82 ((nI_eq (by omega) (by omega)).mpr z)
              refine lv_iconst (v := nI 0) hx hb dX11_hear_102 (by decide) ?_
              refine lv_istore_n (lv' := [(3, .int (nI 0)), (2, .int (nI 5)), (0, .ref o), (1, .int (nI t))]) hx hb dX11_hear_103 rfl hl (by decide) rfl (fun ls hl => ?_)
              refine lv_iload_n hx hb dX11_hear_104 rfl (lv_at hl 0 rfl) ?_
              refine lv_if_eq (tgt := 120) hx hb dX11_hear_105 (by decide) (fun c_105 => ?_) (fun c_105 => ?_)
              · have c_105 : 0 = 0 := nz_0 (by omega) c_105
                refine lv_iconst (v := nI 0) hx hb dX11_hear_120 (by decide) ?_
                refine lv_istore (lv' := [(4, .int (nI 0)), (3, .int (nI 0)), (2, .int (nI 5)), (0, .ref o), (1, .int (nI t))]) hx hb dX11_hear_121 hl (by decide) rfl (fun ls hl => ?_)
                refine lv_iload_n hx hb dX11_hear_123 rfl (lv_at hl 1 rfl) ?_
                refine lv_if_eq (tgt := 148) hx hb dX11_hear_124 (by decide) (fun c_124 => ?_) (fun c_124 => ?_)
                · have c_124 : 0 = 0 := nz_0 (by omega) c_124
                  refine lv_iload hx hb dX11_hear_148 (lv_at hl 0 rfl) ?_
                  refine lv_if_eq (tgt := 224) hx hb dX11_hear_150 (by decide) (fun c_150 => ?_) (fun c_150 => ?_)
                  · have c_150 : 0 = 0 := nz_0 (by omega) c_150
                    refine lv_aload_n hx hb dX11_hear_224 rfl (lv_at hl 3 rfl) ?_
                    refine lv_iload_n hx hb dX11_hear_225 rfl (lv_at hl 4 rfl) ?_
                    refine hp_kvm (hp_runV (As := [.int (nI t)]) (rest := []) hx hb hml hown hS hH (c_X11_back l X ht (by omega) f_o f_4) M_X11_133 I_X11_back V_X11_back (ci := 7) rfl rfl f_o rfl hl.1 rfl (Nat.le_of_ble_eq_true rfl) dX11_hear_226 ⟨Nat.le_of_ble_eq_true rfl, Nat.le_of_ble_eq_true rfl⟩ ⟨Nat.le_of_ble_eq_true rfl, Nat.le_of_ble_eq_true rfl⟩) hH (fun μ1 H locs hp hH => ?_)
                    obtain ⟨fz0, fe⟩ := hp
                    have f_o := (fe.at0 (by decide)).trans f_o
                    have f_1 := (fe.at 1 (by decide)).trans f_1
                    have f_5 := (fe.at 5 (by decide)).trans f_5
                    have f_6 := (fe.at 6 (by decide)).trans f_6
                    have f_9 := (fe.at 9 (by decide)).trans f_9
                    have f_10 := (fe.at 10 (by decide)).trans f_10
                    have f_11 := (fe.at 11 (by decide)).trans f_11
                    have f_4 : μ1 (o + 4) = some (hp_n X 17 (setN S t (if S t < 4 then 1 else 4))) := fz0
                    have fr := hp_eqM.tr fe fr (by decide)
                    clear fe fz0
                    have f_4 := f_4.trans (congrArg (fun g => some (hp_n X 17 g)) (show setN S t (if S t < 4 then 1 else 4) = setN S t 4 from by rw [hs]; rfl))
                    refine lv_goto (tgt := 348) hx hb dX11_hear_229 (by decide) ?_
                    have hR : hrR kd (decide (kl = L t)) (mtN sl td tc) lv 5 (L t) = 0 := by first | (simp [hrR, c_74, c_82]; done) | (exfalso; omega)
                    have hSn : hrS kd (decide (kl = L t)) (mtN sl td tc) lv 5 (L t) = 4 := by first | (simp [hrS, bkS, c_74, c_82]; done) | (exfalso; omega)
                    have hLn : hrL kd (decide (kl = L t)) (mtN sl td tc) lv 5 (L t) = L t := by first | (simp [hrL, c_74, c_82]; done) | (exfalso; omega)
                    have f_4 := f_4.trans (congrArg (fun g => some (hp_n X 17 g)) (show setN S t 4 = setN S t (hrS kd (decide (kl = L t)) (mtN sl td tc) lv 5 (L t)) from by rw [hSn]))
                    have f_5 := f_5.trans (congrArg (fun g => some (hp_n X 17 g)) (show L = setN L t (hrL kd (decide (kl = L t)) (mtN sl td tc) lv 5 (L t)) from by rw [hLn, setN_id]))
                    have f_o : μ1 o = some (hp_o 7 [.int (nI n), .ref (o + 1), .ref (o + 2), .ref (o + 3), .ref (o + 4), .ref (o + 5), .ref (o + 6), .int (nB on), .int (nI tz), .ref (o + 7), .int (nI se), .ref (o + 8), .ref (o + 9), .int (nI kd), .int (nI kl), .int (nI tc), .ref (o + 10), .int (nI (saL (hrR kd (decide (kl = L t)) (mtN sl td tc) lv 5 (L t)) tc)), .ref (o + 11), .int (nI hd), .ref (o + 12), .int (nI an), .ref (o + 13), .int (nI fm), .int (nI fo), .ref (o + 14), .ref (o + 15), .int (nI kc), .ref (o + 16)]) := by rw [hR]; exact f_o
                    exact hp_rv hx hb hr hlocks hS hH (⟨rfl, J, h01, f_o, f_4, f_5, f_11, (fun j hj => by rw [hR] at hj; exact absurd hj (Nat.not_lt_zero _)), fr⟩) dX11_hear_348
                  · exact absurd c_150 (by decide)
                · exact absurd c_124 (by decide)
              · exact absurd c_105 (by decide)
            · have c_82 : kd = 4 := (nI_eq (by omega) (by omega)).mp c_82
              have hkl9 := hkl (by omega)
              refine lv_aload_n hx hb dX11_hear_85 rfl (lv_at hl 1 rfl) ?_
              refine hp_get hx hb hown hS.2.1 hH (F_X11_107.use hS) f_o rfl dX11_hear_86 ?_
              refine lv_aload_n hx hb dX11_hear_89 rfl (lv_at hl 1 rfl) ?_
              refine hp_get hx hb hown hS.2.1 hH (F_X11_23.use hS) f_o rfl dX11_hear_90 ?_
              refine lv_iload_n hx hb dX11_hear_93 rfl (lv_at hl 2 rfl) ?_
              refine hp_ialdN hx hb hS.ai hH f_5 (by omega) (by omega) dX11_hear_94 ?_
              refine lv_icmp_ne (tgt := 102) hx hb dX11_hear_95 (by decide) (fun c_95 => ?_) (fun c_95 => ?_)
              · have c_95 : ¬ (kl = (L t)) := fun z => c_95 ((nI_eq (by omega) (by omega)).mpr z)
                refine lv_iconst (v := nI 0) hx hb dX11_hear_102 (by decide) ?_
                refine lv_istore_n (lv' := [(3, .int (nI 0)), (2, .int (nI 5)), (0, .ref o), (1, .int (nI t))]) hx hb dX11_hear_103 rfl hl (by decide) rfl (fun ls hl => ?_)
                refine lv_iload_n hx hb dX11_hear_104 rfl (lv_at hl 0 rfl) ?_
                refine lv_if_eq (tgt := 120) hx hb dX11_hear_105 (by decide) (fun c_105 => ?_) (fun c_105 => ?_)
                · have c_105 : 0 = 0 := nz_0 (by omega) c_105
                  refine lv_iconst (v := nI 0) hx hb dX11_hear_120 (by decide) ?_
                  refine lv_istore (lv' := [(4, .int (nI 0)), (3, .int (nI 0)), (2, .int (nI 5)), (0, .ref o), (1, .int (nI t))]) hx hb dX11_hear_121 hl (by decide) rfl (fun ls hl => ?_)
                  refine lv_iload_n hx hb dX11_hear_123 rfl (lv_at hl 1 rfl) ?_
                  refine lv_if_eq (tgt := 148) hx hb dX11_hear_124 (by decide) (fun c_124 => ?_) (fun c_124 => ?_)
                  · have c_124 : 0 = 0 := nz_0 (by omega) c_124
                    refine lv_iload hx hb dX11_hear_148 (lv_at hl 0 rfl) ?_
                    refine lv_if_eq (tgt := 224) hx hb dX11_hear_150 (by decide) (fun c_150 => ?_) (fun c_150 => ?_)
                    · have c_150 : 0 = 0 := nz_0 (by omega) c_150
                      refine lv_aload_n hx hb dX11_hear_224 rfl (lv_at hl 3 rfl) ?_
                      refine lv_iload_n hx hb dX11_hear_225 rfl (lv_at hl 4 rfl) ?_
                      refine hp_kvm (hp_runV (As := [.int (nI t)]) (rest := []) hx hb hml hown hS hH (c_X11_back l X ht (by omega) f_o f_4) M_X11_133 I_X11_back V_X11_back (ci := 7) rfl rfl f_o rfl hl.1 rfl (Nat.le_of_ble_eq_true rfl) dX11_hear_226 ⟨Nat.le_of_ble_eq_true rfl, Nat.le_of_ble_eq_true rfl⟩ ⟨Nat.le_of_ble_eq_true rfl, Nat.le_of_ble_eq_true rfl⟩) hH (fun μ1 H locs hp hH => ?_)
                      obtain ⟨fz0, fe⟩ := hp
                      have f_o := (fe.at0 (by decide)).trans f_o
                      have f_1 := (fe.at 1 (by decide)).trans f_1
                      have f_5 := (fe.at 5 (by decide)).trans f_5
                      have f_6 := (fe.at 6 (by decide)).trans f_6
                      have f_9 := (fe.at 9 (by decide)).trans f_9
                      have f_10 := (fe.at 10 (by decide)).trans f_10
                      have f_11 := (fe.at 11 (by decide)).trans f_11
                      have f_4 : μ1 (o + 4) = some (hp_n X 17 (setN S t (if S t < 4 then 1 else 4))) := fz0
                      have fr := hp_eqM.tr fe fr (by decide)
                      clear fe fz0
                      have f_4 := f_4.trans (congrArg (fun g => some (hp_n X 17 g)) (show setN S t (if S t < 4 then 1 else 4) = setN S t 4 from by rw [hs]; rfl))
                      refine lv_goto (tgt := 348) hx hb dX11_hear_229 (by decide) ?_
                      have hR : hrR kd (decide (kl = L t)) (mtN sl td tc) lv 5 (L t) = 0 := by first | (simp [hrR, c_74, c_82, c_95]; done) | (exfalso; omega)
                      have hSn : hrS kd (decide (kl = L t)) (mtN sl td tc) lv 5 (L t) = 4 := by first | (simp [hrS, bkS, c_74, c_82, c_95]; done) | (exfalso; omega)
                      have hLn : hrL kd (decide (kl = L t)) (mtN sl td tc) lv 5 (L t) = L t := by first | (simp [hrL, c_74, c_82, c_95]; done) | (exfalso; omega)
                      have f_4 := f_4.trans (congrArg (fun g => some (hp_n X 17 g)) (show setN S t 4 = setN S t (hrS kd (decide (kl = L t)) (mtN sl td tc) lv 5 (L t)) from by rw [hSn]))
                      have f_5 := f_5.trans (congrArg (fun g => some (hp_n X 17 g)) (show L = setN L t (hrL kd (decide (kl = L t)) (mtN sl td tc) lv 5 (L t)) from by rw [hLn, setN_id]))
                      have f_o : μ1 o = some (hp_o 7 [.int (nI n), .ref (o + 1), .ref (o + 2), .ref (o + 3), .ref (o + 4), .ref (o + 5), .ref (o + 6), .int (nB on), .int (nI tz), .ref (o + 7), .int (nI se), .ref (o + 8), .ref (o + 9), .int (nI kd), .int (nI kl), .int (nI tc), .ref (o + 10), .int (nI (saL (hrR kd (decide (kl = L t)) (mtN sl td tc) lv 5 (L t)) tc)), .ref (o + 11), .int (nI hd), .ref (o + 12), .int (nI an), .ref (o + 13), .int (nI fm), .int (nI fo), .ref (o + 14), .ref (o + 15), .int (nI kc), .ref (o + 16)]) := by rw [hR]; exact f_o
                      exact hp_rv hx hb hr hlocks hS hH (⟨rfl, J, h01, f_o, f_4, f_5, f_11, (fun j hj => by rw [hR] at hj; exact absurd hj (Nat.not_lt_zero _)), fr⟩) dX11_hear_348
                    · exact absurd c_150 (by decide)
                  · exact absurd c_124 (by decide)
                · exact absurd c_105 (by decide)
              · have c_95 : kl = (L t) := (nI_eq (by omega) (by omega)).mp c_95
                refine lv_iconst (v := nI 1) hx hb dX11_hear_98 (by decide) ?_
                refine lv_goto (tgt := 103) hx hb dX11_hear_99 (by decide) ?_
                refine lv_istore_n (lv' := [(3, .int (nI 1)), (2, .int (nI 5)), (0, .ref o), (1, .int (nI t))]) hx hb dX11_hear_103 rfl hl (by decide) rfl (fun ls hl => ?_)
                refine lv_iload_n hx hb dX11_hear_104 rfl (lv_at hl 0 rfl) ?_
                refine lv_if_eq (tgt := 120) hx hb dX11_hear_105 (by decide) (fun c_105 => ?_) (fun c_105 => ?_)
                · exact absurd c_105 (by decide)
                · have c_105 : ¬ (1 = 0) := nz_n (by omega) c_105
                  refine lv_aload_n hx hb dX11_hear_108 rfl (lv_at hl 2 rfl) ?_
                  refine lv_iload_n hx hb dX11_hear_109 rfl (lv_at hl 3 rfl) ?_
                  refine hp_kip (hp_runV (As := [.int (nI t)]) (rest := []) hx hb hml hown hS hH (c_X11_shows l X ht hL1 hL3 (hkd (by omega)).1 hsh (hkd (by omega)).2 f_o f_5 f_6 f_10) M_X11_121 I_X11_shows V_X11_shows (ci := 7) rfl rfl f_o rfl hl.1 rfl (Nat.le_of_ble_eq_true rfl) dX11_hear_110 ⟨Nat.le_of_ble_eq_true rfl, Nat.le_of_ble_eq_true rfl⟩ ⟨Nat.le_of_ble_eq_true rfl, Nat.le_of_ble_eq_true rfl⟩) hH (fun H locs hH => ?_)
                  refine lv_if_eq (tgt := 120) hx hb dX11_hear_113 (by decide) (fun c_113 => ?_) (fun c_113 => ?_)
                  · have c_113 : (mtN sl td tc) = false := nB_0 c_113
                    refine lv_iconst (v := nI 0) hx hb dX11_hear_120 (by decide) ?_
                    refine lv_istore (lv' := [(4, .int (nI 0)), (3, .int (nI 1)), (2, .int (nI 5)), (0, .ref o), (1, .int (nI t))]) hx hb dX11_hear_121 hl (by decide) rfl (fun ls hl => ?_)
                    refine lv_iload_n hx hb dX11_hear_123 rfl (lv_at hl 1 rfl) ?_
                    refine lv_if_eq (tgt := 148) hx hb dX11_hear_124 (by decide) (fun c_124 => ?_) (fun c_124 => ?_)
                    · exact absurd c_124 (by decide)
                    · have c_124 : ¬ (1 = 0) := nz_n (by omega) c_124
                      refine lv_aload_n hx hb dX11_hear_127 rfl (lv_at hl 3 rfl) ?_
                      refine hp_get hx hb hown hS.2.1 hH (F_X11_98.use hS) f_o rfl dX11_hear_128 ?_
                      refine lv_iconst (v := nI 3) hx hb dX11_hear_131 (by decide) ?_
                      refine lv_icmp_ne (tgt := 148) hx hb dX11_hear_132 (by decide) (fun c_132 => ?_) (fun c_132 => ?_)
                      · have c_132 : ¬ (kd = 3) := fun z => c_132 ((nI_eq (by omega) (by omega)).mpr z)
                        refine lv_iload hx hb dX11_hear_148 (lv_at hl 0 rfl) ?_
                        refine lv_if_eq (tgt := 224) hx hb dX11_hear_150 (by decide) (fun c_150 => ?_) (fun c_150 => ?_)
                        · have c_150 : 0 = 0 := nz_0 (by omega) c_150
                          refine lv_aload_n hx hb dX11_hear_224 rfl (lv_at hl 3 rfl) ?_
                          refine lv_iload_n hx hb dX11_hear_225 rfl (lv_at hl 4 rfl) ?_
                          refine hp_kvm (hp_runV (As := [.int (nI t)]) (rest := []) hx hb hml hown hS hH (c_X11_back l X ht (by omega) f_o f_4) M_X11_133 I_X11_back V_X11_back (ci := 7) rfl rfl f_o rfl hl.1 rfl (Nat.le_of_ble_eq_true rfl) dX11_hear_226 ⟨Nat.le_of_ble_eq_true rfl, Nat.le_of_ble_eq_true rfl⟩ ⟨Nat.le_of_ble_eq_true rfl, Nat.le_of_ble_eq_true rfl⟩) hH (fun μ1 H locs hp hH => ?_)
                          obtain ⟨fz0, fe⟩ := hp
                          have f_o := (fe.at0 (by decide)).trans f_o
                          have f_1 := (fe.at 1 (by decide)).trans f_1
                          have f_5 := (fe.at 5 (by decide)).trans f_5
                          have f_6 := (fe.at 6 (by decide)).trans f_6
                          have f_9 := (fe.at 9 (by decide)).trans f_9
                          have f_10 := (fe.at 10 (by decide)).trans f_10
                          have f_11 := (fe.at 11 (by decide)).trans f_11
                          have f_4 : μ1 (o + 4) = some (hp_n X 17 (setN S t (if S t < 4 then 1 else 4))) := fz0
                          have fr := hp_eqM.tr fe fr (by decide)
                          clear fe fz0
                          have f_4 := f_4.trans (congrArg (fun g => some (hp_n X 17 g)) (show setN S t (if S t < 4 then 1 else 4) = setN S t 4 from by rw [hs]; rfl))
                          refine lv_goto (tgt := 348) hx hb dX11_hear_229 (by decide) ?_
                          have hR : hrR kd (decide (kl = L t)) (mtN sl td tc) lv 5 (L t) = 0 := by first | (simp [hrR, c_74, c_82, c_95, c_113]; done) | (exfalso; omega)
                          have hSn : hrS kd (decide (kl = L t)) (mtN sl td tc) lv 5 (L t) = 4 := by first | (simp [hrS, bkS, c_74, c_82, c_95, c_113]; done) | (exfalso; omega)
                          have hLn : hrL kd (decide (kl = L t)) (mtN sl td tc) lv 5 (L t) = L t := by first | (simp [hrL, c_74, c_82, c_95, c_113]; done) | (exfalso; omega)
                          have f_4 := f_4.trans (congrArg (fun g => some (hp_n X 17 g)) (show setN S t 4 = setN S t (hrS kd (decide (kl = L t)) (mtN sl td tc) lv 5 (L t)) from by rw [hSn]))
                          have f_5 := f_5.trans (congrArg (fun g => some (hp_n X 17 g)) (show L = setN L t (hrL kd (decide (kl = L t)) (mtN sl td tc) lv 5 (L t)) from by rw [hLn, setN_id]))
                          have f_o : μ1 o = some (hp_o 7 [.int (nI n), .ref (o + 1), .ref (o + 2), .ref (o + 3), .ref (o + 4), .ref (o + 5), .ref (o + 6), .int (nB on), .int (nI tz), .ref (o + 7), .int (nI se), .ref (o + 8), .ref (o + 9), .int (nI kd), .int (nI kl), .int (nI tc), .ref (o + 10), .int (nI (saL (hrR kd (decide (kl = L t)) (mtN sl td tc) lv 5 (L t)) tc)), .ref (o + 11), .int (nI hd), .ref (o + 12), .int (nI an), .ref (o + 13), .int (nI fm), .int (nI fo), .ref (o + 14), .ref (o + 15), .int (nI kc), .ref (o + 16)]) := by rw [hR]; exact f_o
                          exact hp_rv hx hb hr hlocks hS hH (⟨rfl, J, h01, f_o, f_4, f_5, f_11, (fun j hj => by rw [hR] at hj; exact absurd hj (Nat.not_lt_zero _)), fr⟩) dX11_hear_348
                        · exact absurd c_150 (by decide)
                      · have c_132 : kd = 3 := (nI_eq (by omega) (by omega)).mp c_132
                        refine lv_iload hx hb dX11_hear_135 (lv_at hl 0 rfl) ?_
                        refine lv_if_eq (tgt := 229) hx hb dX11_hear_137 (by decide) (fun c_137 => ?_) (fun c_137 => ?_)
                        · have c_137 : 0 = 0 := nz_0 (by omega) c_137
                          refine lv_goto (tgt := 348) hx hb dX11_hear_229 (by decide) ?_
                          have hR : hrR kd (decide (kl = L t)) (mtN sl td tc) lv 5 (L t) = 0 := by first | (simp [hrR, c_74, c_82, c_95, c_113]; done) | (exfalso; omega)
                          have hSn : hrS kd (decide (kl = L t)) (mtN sl td tc) lv 5 (L t) = 5 := by first | (simp [hrS, bkS, c_74, c_82, c_95, c_113]; done) | (exfalso; omega)
                          have hLn : hrL kd (decide (kl = L t)) (mtN sl td tc) lv 5 (L t) = L t := by first | (simp [hrL, c_74, c_82, c_95, c_113]; done) | (exfalso; omega)
                          have f_4 := f_4.trans (congrArg (fun g => some (hp_n X 17 g)) (show S = setN S t (hrS kd (decide (kl = L t)) (mtN sl td tc) lv 5 (L t)) from by rw [hSn, ← hs, setN_id]))
                          have f_5 := f_5.trans (congrArg (fun g => some (hp_n X 17 g)) (show L = setN L t (hrL kd (decide (kl = L t)) (mtN sl td tc) lv 5 (L t)) from by rw [hLn, setN_id]))
                          have f_o : μ o = some (hp_o 7 [.int (nI n), .ref (o + 1), .ref (o + 2), .ref (o + 3), .ref (o + 4), .ref (o + 5), .ref (o + 6), .int (nB on), .int (nI tz), .ref (o + 7), .int (nI se), .ref (o + 8), .ref (o + 9), .int (nI kd), .int (nI kl), .int (nI tc), .ref (o + 10), .int (nI (saL (hrR kd (decide (kl = L t)) (mtN sl td tc) lv 5 (L t)) tc)), .ref (o + 11), .int (nI hd), .ref (o + 12), .int (nI an), .ref (o + 13), .int (nI fm), .int (nI fo), .ref (o + 14), .ref (o + 15), .int (nI kc), .ref (o + 16)]) := by rw [hR]; exact f_o
                          exact hp_rv hx hb hr hlocks hS hH (⟨rfl, J, h01, f_o, f_4, f_5, f_11, (fun j hj => by rw [hR] at hj; exact absurd hj (Nat.not_lt_zero _)), fr⟩) dX11_hear_348
                        · exact absurd c_137 (by decide)
                  · have c_113 : (mtN sl td tc) = true := nB_n c_113
                    refine lv_iconst (v := nI 1) hx hb dX11_hear_116 (by decide) ?_
                    refine lv_goto (tgt := 121) hx hb dX11_hear_117 (by decide) ?_
                    refine lv_istore (lv' := [(4, .int (nI 1)), (3, .int (nI 1)), (2, .int (nI 5)), (0, .ref o), (1, .int (nI t))]) hx hb dX11_hear_121 hl (by decide) rfl (fun ls hl => ?_)
                    refine lv_iload_n hx hb dX11_hear_123 rfl (lv_at hl 1 rfl) ?_
                    refine lv_if_eq (tgt := 148) hx hb dX11_hear_124 (by decide) (fun c_124 => ?_) (fun c_124 => ?_)
                    · exact absurd c_124 (by decide)
                    · have c_124 : ¬ (1 = 0) := nz_n (by omega) c_124
                      refine lv_aload_n hx hb dX11_hear_127 rfl (lv_at hl 3 rfl) ?_
                      refine hp_get hx hb hown hS.2.1 hH (F_X11_98.use hS) f_o rfl dX11_hear_128 ?_
                      refine lv_iconst (v := nI 3) hx hb dX11_hear_131 (by decide) ?_
                      refine lv_icmp_ne (tgt := 148) hx hb dX11_hear_132 (by decide) (fun c_132 => ?_) (fun c_132 => ?_)
                      · have c_132 : ¬ (kd = 3) := fun z => c_132 ((nI_eq (by omega) (by omega)).mpr z)
                        refine lv_iload hx hb dX11_hear_148 (lv_at hl 0 rfl) ?_
                        refine lv_if_eq (tgt := 224) hx hb dX11_hear_150 (by decide) (fun c_150 => ?_) (fun c_150 => ?_)
                        · exact absurd c_150 (by decide)
                        · have c_150 : ¬ (1 = 0) := nz_n (by omega) c_150
                          refine lv_aload_n hx hb dX11_hear_153 rfl (lv_at hl 3 rfl) ?_
                          refine hp_get hx hb hown hS.2.1 hH (F_X11_23.use hS) f_o rfl dX11_hear_154 ?_
                          refine lv_iload_n hx hb dX11_hear_157 rfl (lv_at hl 4 rfl) ?_
                          refine hp_ialdN hx hb hS.ai hH f_5 (by omega) (by omega) dX11_hear_158 ?_
                          refine lv_aload_n hx hb dX11_hear_159 rfl (lv_at hl 3 rfl) ?_
                          refine lv_iload_n hx hb dX11_hear_160 rfl (lv_at hl 4 rfl) ?_
                          refine hp_kip (hp_runV (As := [.int (nI t)]) (rest := [.int (nI (L t))]) hx hb hml hown hS hH (c_X11_levels l X ht (by omega) f_o f_1) M_X11_127 I_X11_levels V_X11_levels (ci := 7) rfl rfl f_o rfl hl.1 rfl (Nat.le_of_ble_eq_true rfl) dX11_hear_161 ⟨Nat.le_of_ble_eq_true rfl, Nat.le_of_ble_eq_true rfl⟩ ⟨Nat.le_of_ble_eq_true rfl, Nat.le_of_ble_eq_true rfl⟩) hH (fun H locs hH => ?_)
                          refine hp_eqi (z := nI lv) (congrArg nI (show Z t / 3 = lv by omega)) ?_
                          refine lv_icmp_ne (tgt := 171) hx hb dX11_hear_164 (by decide) (fun c_164 => ?_) (fun c_164 => ?_)
                          · have c_164 : ¬ ((L t) = lv) := fun z => c_164 ((nI_eq (by omega) (by omega)).mpr z)
                            have hlt : L t < lv := by omega
                            refine lv_iconst (v := nI 0) hx hb dX11_hear_171 (by decide) ?_
                            refine lv_istore (lv' := [(5, .int (nI 0)), (4, .int (nI 1)), (3, .int (nI 1)), (2, .int (nI 5)), (0, .ref o), (1, .int (nI t))]) hx hb dX11_hear_172 hl (by decide) rfl (fun ls hl => ?_)
                            refine lv_aload_n hx hb dX11_hear_174 rfl (lv_at hl 4 rfl) ?_
                            refine lv_iload hx hb dX11_hear_175 (lv_at hl 0 rfl) ?_
                            refine lv_if_eq (tgt := 185) hx hb dX11_hear_177 (by decide) (fun c_177 => ?_) (fun c_177 => ?_)
                            · have c_177 : 0 = 0 := nz_0 (by omega) c_177
                              refine lv_iconst (v := nI 4) hx hb dX11_hear_185 (by decide) ?_
                              refine hp_kvm (hp_runV (As := [.int (nI 4)]) (rest := []) hx hb hml hown hS hH (c_X11_say l X (v := 4) (by omega) (by omega) f_o f_11) M_X11_113 I_X11_say V_X11_say (ci := 7) rfl rfl f_o rfl hl.1 rfl (Nat.le_of_ble_eq_true rfl) dX11_hear_186 ⟨Nat.le_of_ble_eq_true rfl, Nat.le_of_ble_eq_true rfl⟩ ⟨Nat.le_of_ble_eq_true rfl, Nat.le_of_ble_eq_true rfl⟩) hH (fun μ1 H locs hp hH => ?_)
                              obtain ⟨fz0, fz1, fe⟩ := hp
                              have f_1 := (fe.at 1 (by decide)).trans f_1
                              have f_4 := (fe.at 4 (by decide)).trans f_4
                              have f_5 := (fe.at 5 (by decide)).trans f_5
                              have f_6 := (fe.at 6 (by decide)).trans f_6
                              have f_9 := (fe.at 9 (by decide)).trans f_9
                              have f_10 := (fe.at 10 (by decide)).trans f_10
                              have f_o : μ1 o = some (hp_o 7 [.int (nI n), .ref (o + 1), .ref (o + 2), .ref (o + 3), .ref (o + 4), .ref (o + 5), .ref (o + 6), .int (nB on), .int (nI tz), .ref (o + 7), .int (nI se), .ref (o + 8), .ref (o + 9), .int (nI kd), .int (nI kl), .int (nI tc), .ref (o + 10), .int (nI 9), .ref (o + 11), .int (nI hd), .ref (o + 12), .int (nI an), .ref (o + 13), .int (nI fm), .int (nI fo), .ref (o + 14), .ref (o + 15), .int (nI kc), .ref (o + 16)]) := fz0
                              have f_11 : μ1 (o + 11) = some (hp_n X 64 (apO J 0 4)) := fz1
                              have fr := hp_eqM.tr fe fr (by decide)
                              clear fe fz0 fz1
                              refine lv_aload_n hx hb dX11_hear_189 rfl (lv_at hl 4 rfl) ?_
                              refine lv_iconst (v := nI 0) hx hb dX11_hear_190 (by decide) ?_
                              refine hp_kvm (hp_runV (As := [.int (nI 0)]) (rest := []) hx hb hml hown hS hH (c_X11_sayChecked l X (k := 1) (Bv := 4) (apO_01 h01 _ _) (by decide) (o1_bits (v := 4) (by omega)) f_o f_11) M_X11_130 I_X11_sayChecked V_X11_sayChecked (ci := 7) rfl rfl f_o rfl hl.1 rfl (Nat.le_of_ble_eq_true rfl) dX11_hear_191 ⟨Nat.le_of_ble_eq_true rfl, Nat.le_of_ble_eq_true rfl⟩ ⟨Nat.le_of_ble_eq_true rfl, Nat.le_of_ble_eq_true rfl⟩) hH (fun μ1 H locs hp hH => ?_)
                              obtain ⟨fz0, fz1, fe⟩ := hp
                              have f_1 := (fe.at 1 (by decide)).trans f_1
                              have f_4 := (fe.at 4 (by decide)).trans f_4
                              have f_5 := (fe.at 5 (by decide)).trans f_5
                              have f_6 := (fe.at 6 (by decide)).trans f_6
                              have f_9 := (fe.at 9 (by decide)).trans f_9
                              have f_10 := (fe.at 10 (by decide)).trans f_10
                              have f_o : μ1 o = some (hp_o 7 [.int (nI n), .ref (o + 1), .ref (o + 2), .ref (o + 3), .ref (o + 4), .ref (o + 5), .ref (o + 6), .int (nB on), .int (nI tz), .ref (o + 7), .int (nI se), .ref (o + 8), .ref (o + 9), .int (nI kd), .int (nI kl), .int (nI tc), .ref (o + 10), .int (nI 27), .ref (o + 11), .int (nI hd), .ref (o + 12), .int (nI an), .ref (o + 13), .int (nI fm), .int (nI fo), .ref (o + 14), .ref (o + 15), .int (nI kc), .ref (o + 16)]) := fz0
                              have f_11 : μ1 (o + 11) = some (hp_n X 64 (apO (apO (apO J 0 4) (9 * 1) (crcB 4 1 % 256)) (9 * 1 + 9) (crcB 4 1 / 256))) := fz1
                              have fr := hp_eqM.tr fe fr (by decide)
                              clear fe fz0 fz1
                              refine lv_iload hx hb dX11_hear_194 (lv_at hl 0 rfl) ?_
                              refine lv_if_eq (tgt := 211) hx hb dX11_hear_196 (by decide) (fun c_196 => ?_) (fun c_196 => ?_)
                              · have c_196 : 0 = 0 := nz_0 (by omega) c_196
                                refine lv_aload_n hx hb dX11_hear_211 rfl (lv_at hl 4 rfl) ?_
                                refine hp_get hx hb hown hS.2.1 hH (F_X11_23.use hS) f_o rfl dX11_hear_212 ?_
                                refine lv_iload_n hx hb dX11_hear_215 rfl (lv_at hl 5 rfl) ?_
                                refine lv_dup2_11 hx hb dX11_hear_216 rfl rfl ?_
                                refine hp_ialdN hx hb hS.ai hH f_5 (by omega) (by omega) dX11_hear_217 ?_
                                refine lv_iconst (v := nI 1) hx hb dX11_hear_218 (by decide) ?_
                                refine lv_iadd hx hb dX11_hear_219 ?_
                                refine hp_eqi (z := nI ((L t) + 1)) (nI_add _ _) ?_
                                refine hp_iastN hx hb hS.ai hH f_5 (by omega) (by omega) dX11_hear_220 (fun H locs μ1 fz fn hH => ?_)
                                have f_o := (fn _ (by omega)).trans f_o
                                have f_1 := (fn _ (by omega)).trans f_1
                                have f_4 := (fn _ (by omega)).trans f_4
                                have f_6 := (fn _ (by omega)).trans f_6
                                have f_9 := (fn _ (by omega)).trans f_9
                                have f_10 := (fn _ (by omega)).trans f_10
                                have f_11 := (fn _ (by omega)).trans f_11
                                have f_5 : μ1 (o + 5) = some (hp_n X 17 (setN L t ((L t) + 1))) := fz
                                have fr := hp_eqM.put (k := 5) fr (by decide) fn
                                clear fz fn
                                refine lv_goto (tgt := 229) hx hb dX11_hear_221 (by decide) ?_
                                refine lv_goto (tgt := 348) hx hb dX11_hear_229 (by decide) ?_
                                have hR : hrR kd (decide (kl = L t)) (mtN sl td tc) lv 5 (L t) = 3 := by first | (simp [hrR, c_74, c_82, c_95, c_113, hlt]; done) | (exfalso; omega)
                                have hSn : hrS kd (decide (kl = L t)) (mtN sl td tc) lv 5 (L t) = 5 := by first | (simp [hrS, bkS, c_74, c_82, c_95, c_113, hlt]; done) | (exfalso; omega)
                                have hLn : hrL kd (decide (kl = L t)) (mtN sl td tc) lv 5 (L t) = ((L t) + 1) := by first | (simp [hrL, c_74, c_82, c_95, c_113, hlt]; done) | (exfalso; omega)
                                have f_4 := f_4.trans (congrArg (fun g => some (hp_n X 17 g)) (show S = setN S t (hrS kd (decide (kl = L t)) (mtN sl td tc) lv 5 (L t)) from by rw [hSn, ← hs, setN_id]))
                                have f_5 := f_5.trans (congrArg (fun g => some (hp_n X 17 g)) (show setN L t ((L t) + 1) = setN L t (hrL kd (decide (kl = L t)) (mtN sl td tc) lv 5 (L t)) from by rw [hLn]))
                                have f_o : μ1 o = some (hp_o 7 [.int (nI n), .ref (o + 1), .ref (o + 2), .ref (o + 3), .ref (o + 4), .ref (o + 5), .ref (o + 6), .int (nB on), .int (nI tz), .ref (o + 7), .int (nI se), .ref (o + 8), .ref (o + 9), .int (nI kd), .int (nI kl), .int (nI tc), .ref (o + 10), .int (nI (saL (hrR kd (decide (kl = L t)) (mtN sl td tc) lv 5 (L t)) tc)), .ref (o + 11), .int (nI hd), .ref (o + 12), .int (nI an), .ref (o + 13), .int (nI fm), .int (nI fo), .ref (o + 14), .ref (o + 15), .int (nI kc), .ref (o + 16)]) := by rw [hR]; exact f_o
                                exact hp_rv hx hb hr hlocks hS hH (⟨rfl, (apO (apO (apO J 0 4) (9 * 1) (crcB 4 1 % 256)) (9 * 1 + 9) (crcB 4 1 / 256)), apO_01 (apO_01 (apO_01 h01 _ _) _ _) _ _, f_o, f_4, f_5, f_11, (fun j hj => by rw [hR] at hj ⊢; exact (sc_bits (k := 1) (B := 4) (by omega) (o1_bits (v := 4) (by omega))) j hj), fr⟩) dX11_hear_348
                              · exact absurd c_196 (by decide)
                            · exact absurd c_177 (by decide)
                          · have c_164 : (L t) = lv := (nI_eq (by omega) (by omega)).mp c_164
                            have hlt : ¬ L t < lv := by omega
                            refine lv_iconst (v := nI 1) hx hb dX11_hear_167 (by decide) ?_
                            refine lv_goto (tgt := 172) hx hb dX11_hear_168 (by decide) ?_
                            refine lv_istore (lv' := [(5, .int (nI 1)), (4, .int (nI 1)), (3, .int (nI 1)), (2, .int (nI 5)), (0, .ref o), (1, .int (nI t))]) hx hb dX11_hear_172 hl (by decide) rfl (fun ls hl => ?_)
                            refine lv_aload_n hx hb dX11_hear_174 rfl (lv_at hl 4 rfl) ?_
                            refine lv_iload hx hb dX11_hear_175 (lv_at hl 0 rfl) ?_
                            refine lv_if_eq (tgt := 185) hx hb dX11_hear_177 (by decide) (fun c_177 => ?_) (fun c_177 => ?_)
                            · exact absurd c_177 (by decide)
                            · have c_177 : ¬ (1 = 0) := nz_n (by omega) c_177
                              refine lv_bipush (v := nI 32) hx hb dX11_hear_180 (by decide) ?_
                              refine lv_goto (tgt := 186) hx hb dX11_hear_182 (by decide) ?_
                              refine hp_kvm (hp_runV (As := [.int (nI 32)]) (rest := []) hx hb hml hown hS hH (c_X11_say l X (v := 32) (by omega) (by omega) f_o f_11) M_X11_113 I_X11_say V_X11_say (ci := 7) rfl rfl f_o rfl hl.1 rfl (Nat.le_of_ble_eq_true rfl) dX11_hear_186 ⟨Nat.le_of_ble_eq_true rfl, Nat.le_of_ble_eq_true rfl⟩ ⟨Nat.le_of_ble_eq_true rfl, Nat.le_of_ble_eq_true rfl⟩) hH (fun μ1 H locs hp hH => ?_)
                              obtain ⟨fz0, fz1, fe⟩ := hp
                              have f_1 := (fe.at 1 (by decide)).trans f_1
                              have f_4 := (fe.at 4 (by decide)).trans f_4
                              have f_5 := (fe.at 5 (by decide)).trans f_5
                              have f_6 := (fe.at 6 (by decide)).trans f_6
                              have f_9 := (fe.at 9 (by decide)).trans f_9
                              have f_10 := (fe.at 10 (by decide)).trans f_10
                              have f_o : μ1 o = some (hp_o 7 [.int (nI n), .ref (o + 1), .ref (o + 2), .ref (o + 3), .ref (o + 4), .ref (o + 5), .ref (o + 6), .int (nB on), .int (nI tz), .ref (o + 7), .int (nI se), .ref (o + 8), .ref (o + 9), .int (nI kd), .int (nI kl), .int (nI tc), .ref (o + 10), .int (nI 9), .ref (o + 11), .int (nI hd), .ref (o + 12), .int (nI an), .ref (o + 13), .int (nI fm), .int (nI fo), .ref (o + 14), .ref (o + 15), .int (nI kc), .ref (o + 16)]) := fz0
                              have f_11 : μ1 (o + 11) = some (hp_n X 64 (apO J 0 32)) := fz1
                              have fr := hp_eqM.tr fe fr (by decide)
                              clear fe fz0 fz1
                              refine lv_aload_n hx hb dX11_hear_189 rfl (lv_at hl 4 rfl) ?_
                              refine lv_iconst (v := nI 0) hx hb dX11_hear_190 (by decide) ?_
                              refine hp_kvm (hp_runV (As := [.int (nI 0)]) (rest := []) hx hb hml hown hS hH (c_X11_sayChecked l X (k := 1) (Bv := 32) (apO_01 h01 _ _) (by decide) (o1_bits (v := 32) (by omega)) f_o f_11) M_X11_130 I_X11_sayChecked V_X11_sayChecked (ci := 7) rfl rfl f_o rfl hl.1 rfl (Nat.le_of_ble_eq_true rfl) dX11_hear_191 ⟨Nat.le_of_ble_eq_true rfl, Nat.le_of_ble_eq_true rfl⟩ ⟨Nat.le_of_ble_eq_true rfl, Nat.le_of_ble_eq_true rfl⟩) hH (fun μ1 H locs hp hH => ?_)
                              obtain ⟨fz0, fz1, fe⟩ := hp
                              have f_1 := (fe.at 1 (by decide)).trans f_1
                              have f_4 := (fe.at 4 (by decide)).trans f_4
                              have f_5 := (fe.at 5 (by decide)).trans f_5
                              have f_6 := (fe.at 6 (by decide)).trans f_6
                              have f_9 := (fe.at 9 (by decide)).trans f_9
                              have f_10 := (fe.at 10 (by decide)).trans f_10
                              have f_o : μ1 o = some (hp_o 7 [.int (nI n), .ref (o + 1), .ref (o + 2), .ref (o + 3), .ref (o + 4), .ref (o + 5), .ref (o + 6), .int (nB on), .int (nI tz), .ref (o + 7), .int (nI se), .ref (o + 8), .ref (o + 9), .int (nI kd), .int (nI kl), .int (nI tc), .ref (o + 10), .int (nI 27), .ref (o + 11), .int (nI hd), .ref (o + 12), .int (nI an), .ref (o + 13), .int (nI fm), .int (nI fo), .ref (o + 14), .ref (o + 15), .int (nI kc), .ref (o + 16)]) := fz0
                              have f_11 : μ1 (o + 11) = some (hp_n X 64 (apO (apO (apO J 0 32) (9 * 1) (crcB 32 1 % 256)) (9 * 1 + 9) (crcB 32 1 / 256))) := fz1
                              have fr := hp_eqM.tr fe fr (by decide)
                              clear fe fz0 fz1
                              refine lv_iload hx hb dX11_hear_194 (lv_at hl 0 rfl) ?_
                              refine lv_if_eq (tgt := 211) hx hb dX11_hear_196 (by decide) (fun c_196 => ?_) (fun c_196 => ?_)
                              · exact absurd c_196 (by decide)
                              · have c_196 : ¬ (1 = 0) := nz_n (by omega) c_196
                                refine lv_aload_n hx hb dX11_hear_199 rfl (lv_at hl 4 rfl) ?_
                                refine hp_get hx hb hown hS.2.1 hH (F_X11_20.use hS) f_o rfl dX11_hear_200 ?_
                                refine lv_iload_n hx hb dX11_hear_203 rfl (lv_at hl 5 rfl) ?_
                                refine lv_iload_n hx hb dX11_hear_204 rfl (lv_at hl 3 rfl) ?_
                                refine lv_iconst (v := nI 1) hx hb dX11_hear_205 (by decide) ?_
                                refine lv_iadd hx hb dX11_hear_206 ?_
                                refine hp_eqi (z := nI 6) (nI_add _ _) ?_
                                refine hp_iastN hx hb hS.ai hH f_4 (by omega) (by omega) dX11_hear_207 (fun H locs μ1 fz fn hH => ?_)
                                have f_o := (fn _ (by omega)).trans f_o
                                have f_1 := (fn _ (by omega)).trans f_1
                                have f_5 := (fn _ (by omega)).trans f_5
                                have f_6 := (fn _ (by omega)).trans f_6
                                have f_9 := (fn _ (by omega)).trans f_9
                                have f_10 := (fn _ (by omega)).trans f_10
                                have f_11 := (fn _ (by omega)).trans f_11
                                have f_4 : μ1 (o + 4) = some (hp_n X 17 (setN S t 6)) := fz
                                have fr := hp_eqM.put (k := 4) fr (by decide) fn
                                clear fz fn
                                refine lv_goto (tgt := 221) hx hb dX11_hear_208 (by decide) ?_
                                refine lv_goto (tgt := 229) hx hb dX11_hear_221 (by decide) ?_
                                refine lv_goto (tgt := 348) hx hb dX11_hear_229 (by decide) ?_
                                have hR : hrR kd (decide (kl = L t)) (mtN sl td tc) lv 5 (L t) = 4 := by first | (simp [hrR, c_74, c_82, c_95, c_113, hlt]; done) | (exfalso; omega)
                                have hSn : hrS kd (decide (kl = L t)) (mtN sl td tc) lv 5 (L t) = 6 := by first | (simp [hrS, bkS, c_74, c_82, c_95, c_113, hlt]; done) | (exfalso; omega)
                                have hLn : hrL kd (decide (kl = L t)) (mtN sl td tc) lv 5 (L t) = L t := by first | (simp [hrL, c_74, c_82, c_95, c_113, hlt]; done) | (exfalso; omega)
                                have f_4 := f_4.trans (congrArg (fun g => some (hp_n X 17 g)) (show setN S t 6 = setN S t (hrS kd (decide (kl = L t)) (mtN sl td tc) lv 5 (L t)) from by rw [hSn]))
                                have f_5 := f_5.trans (congrArg (fun g => some (hp_n X 17 g)) (show L = setN L t (hrL kd (decide (kl = L t)) (mtN sl td tc) lv 5 (L t)) from by rw [hLn, setN_id]))
                                have f_o : μ1 o = some (hp_o 7 [.int (nI n), .ref (o + 1), .ref (o + 2), .ref (o + 3), .ref (o + 4), .ref (o + 5), .ref (o + 6), .int (nB on), .int (nI tz), .ref (o + 7), .int (nI se), .ref (o + 8), .ref (o + 9), .int (nI kd), .int (nI kl), .int (nI tc), .ref (o + 10), .int (nI (saL (hrR kd (decide (kl = L t)) (mtN sl td tc) lv 5 (L t)) tc)), .ref (o + 11), .int (nI hd), .ref (o + 12), .int (nI an), .ref (o + 13), .int (nI fm), .int (nI fo), .ref (o + 14), .ref (o + 15), .int (nI kc), .ref (o + 16)]) := by rw [hR]; exact f_o
                                exact hp_rv hx hb hr hlocks hS hH (⟨rfl, (apO (apO (apO J 0 32) (9 * 1) (crcB 32 1 % 256)) (9 * 1 + 9) (crcB 32 1 / 256)), apO_01 (apO_01 (apO_01 h01 _ _) _ _) _ _, f_o, f_4, f_5, f_11, (fun j hj => by rw [hR] at hj ⊢; exact (sc_bits (k := 1) (B := 32) (by omega) (o1_bits (v := 32) (by omega))) j hj), fr⟩) dX11_hear_348
                      · have c_132 : kd = 3 := (nI_eq (by omega) (by omega)).mp c_132
                        refine lv_iload hx hb dX11_hear_135 (lv_at hl 0 rfl) ?_
                        refine lv_if_eq (tgt := 229) hx hb dX11_hear_137 (by decide) (fun c_137 => ?_) (fun c_137 => ?_)
                        · exact absurd c_137 (by decide)
                        · have c_137 : ¬ (1 = 0) := nz_n (by omega) c_137
                          refine lv_aload_n hx hb dX11_hear_140 rfl (lv_at hl 3 rfl) ?_
                          refine lv_iload_n hx hb dX11_hear_141 rfl (lv_at hl 4 rfl) ?_
                          refine hp_kvm (hp_runV (As := [.int (nI t)]) (rest := []) hx hb hml hown hS hH (c_X11_sayRest l X ht hL1 hL3 (hkd (by omega)).1 h01 hsh f_o f_5 f_6 f_11) M_X11_124 I_X11_sayRest V_X11_sayRest (ci := 7) rfl rfl f_o rfl hl.1 rfl (Nat.le_of_ble_eq_true rfl) dX11_hear_142 ⟨Nat.le_of_ble_eq_true rfl, Nat.le_of_ble_eq_true rfl⟩ ⟨Nat.le_of_ble_eq_true rfl, Nat.le_of_ble_eq_true rfl⟩) hH (fun μ1 H locs hp hH => ?_)
                          obtain ⟨J9, h019, fz0, fz1, hJ9, fe⟩ := hp
                          have f_1 := (fe.at 1 (by decide)).trans f_1
                          have f_4 := (fe.at 4 (by decide)).trans f_4
                          have f_5 := (fe.at 5 (by decide)).trans f_5
                          have f_6 := (fe.at 6 (by decide)).trans f_6
                          have f_9 := (fe.at 9 (by decide)).trans f_9
                          have f_10 := (fe.at 10 (by decide)).trans f_10
                          have f_o := fz0
                          have f_11 := fz1
                          have fr := hp_eqM.tr fe fr (by decide)
                          refine lv_goto (tgt := 229) hx hb dX11_hear_145 (by decide) ?_
                          refine lv_goto (tgt := 348) hx hb dX11_hear_229 (by decide) ?_
                          have hR : hrR kd (decide (kl = L t)) (mtN sl td tc) lv 5 (L t) = 2 := by first | (simp [hrR, c_74, c_82, c_95, c_113]; done) | (exfalso; omega)
                          have hSn : hrS kd (decide (kl = L t)) (mtN sl td tc) lv 5 (L t) = 5 := by first | (simp [hrS, bkS, c_74, c_82, c_95, c_113]; done) | (exfalso; omega)
                          have hLn : hrL kd (decide (kl = L t)) (mtN sl td tc) lv 5 (L t) = L t := by first | (simp [hrL, c_74, c_82, c_95, c_113]; done) | (exfalso; omega)
                          have f_4 := f_4.trans (congrArg (fun g => some (hp_n X 17 g)) (show S = setN S t (hrS kd (decide (kl = L t)) (mtN sl td tc) lv 5 (L t)) from by rw [hSn, ← hs, setN_id]))
                          have f_5 := f_5.trans (congrArg (fun g => some (hp_n X 17 g)) (show L = setN L t (hrL kd (decide (kl = L t)) (mtN sl td tc) lv 5 (L t)) from by rw [hLn, setN_id]))
                          have f_o : μ1 o = some (hp_o 7 [.int (nI n), .ref (o + 1), .ref (o + 2), .ref (o + 3), .ref (o + 4), .ref (o + 5), .ref (o + 6), .int (nB on), .int (nI tz), .ref (o + 7), .int (nI se), .ref (o + 8), .ref (o + 9), .int (nI kd), .int (nI kl), .int (nI tc), .ref (o + 10), .int (nI (saL (hrR kd (decide (kl = L t)) (mtN sl td tc) lv 5 (L t)) tc)), .ref (o + 11), .int (nI hd), .ref (o + 12), .int (nI an), .ref (o + 13), .int (nI fm), .int (nI fo), .ref (o + 14), .ref (o + 15), .int (nI kc), .ref (o + 16)]) := by rw [hR]; exact f_o
                          exact hp_rv hx hb hr hlocks hS hH (⟨rfl, J9, h019, f_o, f_4, f_5, f_11, (fun j hj => by rw [hR] at hj ⊢; exact hJ9 j hj), fr⟩) dX11_hear_348
    · exact absurd c_39 (by decide)
  · exact absurd c_9 (by decide)

set_option maxHeartbeats 4000000 in
set_option maxRecDepth 100000 in
theorem c_X11_hear_6 (l : Launch) (X : hp_X) {μ : hp_M} {nx : Nat} {o n tz se kd kl tc hd an fm fo kc : Nat} {on : Bool} {t sl td lv se2 : Nat} {Z S L sh2 D J : Nat → Nat} {Bf : Nat → Int32} (hs0 : S t = 6) (ht : t < 17) (hz : Z t = 3 * lv + 1) (hl1 : 1 ≤ lv) (hl3 : lv ≤ 3) (hL1 : 1 ≤ L t) (hL3 : L t ≤ 3) (hLlv : L t ≤ lv) (hkd8 : kd < 8) (hkl : kd = 3 ∨ kd = 4 → kl < 2 ^ 20) (hkd : kd = 3 ∨ kd = 4 → tc ≤ 40 ∧ ∀ k, k < tc → D k = td / 2 ^ k % 2) (hk6 : kd = 6 → Bf 1 = nI se2 ∧ se2 < 256) (h01 : ∀ j, J j < 2) (hsh : ∀ k, k < 40 → sh2 (120 * t + 40 * (L t - 1) + k) = sl / 2 ^ k % 2) (f_o : μ o = some (hp_o 7 [.int (nI n), .ref (o + 1), .ref (o + 2), .ref (o + 3), .ref (o + 4), .ref (o + 5), .ref (o + 6), .int (nB on), .int (nI tz), .ref (o + 7), .int (nI se), .ref (o + 8), .ref (o + 9), .int (nI kd), .int (nI kl), .int (nI tc), .ref (o + 10), .int (nI 0), .ref (o + 11), .int (nI hd), .ref (o + 12), .int (nI an), .ref (o + 13), .int (nI fm), .int (nI fo), .ref (o + 14), .ref (o + 15), .int (nI kc), .ref (o + 16)])) (f_1 : μ (o + 1) = some (hp_n X 17 Z)) (f_4 : μ (o + 4) = some (hp_n X 17 S)) (f_5 : μ (o + 5) = some (hp_n X 17 L)) (f_6 : μ (o + 6) = some (hp_n X 2040 sh2)) (f_9 : μ (o + 9) = some (hp_i X 18 Bf)) (f_10 : μ (o + 10) = some (hp_n X 48 D)) (f_11 : μ (o + 11) = some (hp_n X 64 J)) : Ct l X yX11_hear cX11_hear 6 (none : Option Jvm.ClassFile.FieldType) 3 120 0 0 [.ref o, .int (nI t)] μ nx (hq_v X (po_v nx (fun z => ∃ J9 : Nat → Nat, (∀ j, J9 j < 2) ∧ z o = some (hp_o 7 [.int (nI n), .ref (o + 1), .ref (o + 2), .ref (o + 3), .ref (o + 4), .ref (o + 5), .ref (o + 6), .int (nB on), .int (nI tz), .ref (o + 7), .int (nI se), .ref (o + 8), .ref (o + 9), .int (nI kd), .int (nI kl), .int (nI tc), .ref (o + 10), .int (nI (saL (hrR kd (decide (kl = L t)) (mtN sl td tc) lv 6 (L t)) tc)), .ref (o + 11), .int (nI hd), .ref (o + 12), .int (nI an), .ref (o + 13), .int (nI fm), .int (nI fo), .ref (o + 14), .ref (o + 15), .int (nI kc), .ref (o + 16)]) ∧ z (o + 4) = some (hp_n X 17 (setN S t (hrS kd (decide (kl = L t)) (mtN sl td tc) lv 6 (L t)))) ∧ z (o + 5) = some (hp_n X 17 (setN L t (hrL kd (decide (kl = L t)) (mtN sl td tc) lv 6 (L t)))) ∧ z (o + 11) = some (hp_n X 64 J9) ∧ (∀ j, j < saL (hrR kd (decide (kl = L t)) (mtN sl td tc) lv 6 (L t)) tc → J9 j = saB (hrR kd (decide (kl = L t)) (mtN sl td tc) lv 6 (L t)) lv sl se2 tc / 2 ^ j % 2) ∧ hp_eqM [0, 4, 5, 11] o z μ))) := by
  refine hp_met (by decide) (Nat.le_of_ble_eq_true rfl) ?_
  intro p e s m below meth c ls hx hb hml hr hlocks hown hin hS hH hl
  have hl : lv_has ls 6 [(0, .ref o), (1, .int (nI t))] := hl
  have fr : hp_eqM [0, 4, 5, 11] o μ μ := fun _ _ => rfl
  have hs : S t = 6 := hs0
  refine lv_aload_n hx hb dX11_hear_0 rfl (lv_at hl 0 rfl) ?_
  refine hp_get hx hb hown hS.2.1 hH (F_X11_20.use hS) f_o rfl dX11_hear_1 ?_
  refine lv_iload_n hx hb dX11_hear_4 rfl (lv_at hl 1 rfl) ?_
  refine hp_ialdN hx hb hS.ai hH f_4 (by omega) (by omega) dX11_hear_5 ?_
  refine hp_eqi (z := nI 6) (congrArg nI hs) ?_
  refine lv_istore_n (lv' := [(2, .int (nI 6)), (0, .ref o), (1, .int (nI t))]) hx hb dX11_hear_6 rfl hl (by decide) rfl (fun ls hl => ?_)
  refine lv_iload_n hx hb dX11_hear_7 rfl (lv_at hl 0 rfl) ?_
  refine lv_iconst (v := nI 1) hx hb dX11_hear_8 (by decide) ?_
  refine lv_icmp_ne (tgt := 37) hx hb dX11_hear_9 (by decide) (fun c_9 => ?_) (fun c_9 => ?_)
  · have c_9 : ¬ (6 = 1) := fun z => c_9 ((nI_eq (by omega) (by omega)).mpr z)
    refine lv_iload_n hx hb dX11_hear_37 rfl (lv_at hl 0 rfl) ?_
    refine lv_iconst (v := nI 4) hx hb dX11_hear_38 (by decide) ?_
    refine lv_icmp_ne (tgt := 59) hx hb dX11_hear_39 (by decide) (fun c_39 => ?_) (fun c_39 => ?_)
    · have c_39 : ¬ (6 = 4) := fun z => c_39 ((nI_eq (by omega) (by omega)).mpr z)
      refine lv_iload_n hx hb dX11_hear_59 rfl (lv_at hl 0 rfl) ?_
      refine lv_iconst (v := nI 2) hx hb dX11_hear_60 (by decide) ?_
      refine lv_icmp_eq (tgt := 69) hx hb dX11_hear_61 (by decide) (fun c_61 => ?_) (fun c_61 => ?_)
      · exact absurd c_61 (by decide)
      · have c_61 : ¬ (6 = 2) := fun z => c_61 ((nI_eq (by omega) (by omega)).mpr z)
        refine lv_iload_n hx hb dX11_hear_64 rfl (lv_at hl 0 rfl) ?_
        refine lv_iconst (v := nI 5) hx hb dX11_hear_65 (by decide) ?_
        refine lv_icmp_ne (tgt := 232) hx hb dX11_hear_66 (by decide) (fun c_66 => ?_) (fun c_66 => ?_)
        · have c_66 : ¬ (6 = 5) := fun z => c_66 ((nI_eq (by omega) (by omega)).mpr z)
          refine lv_iload_n hx hb dX11_hear_232 rfl (lv_at hl 0 rfl) ?_
          refine lv_iconst (v := nI 3) hx hb dX11_hear_233 (by decide) ?_
          refine lv_icmp_eq (tgt := 243) hx hb dX11_hear_234 (by decide) (fun c_234 => ?_) (fun c_234 => ?_)
          · exact absurd c_234 (by decide)
          · have c_234 : ¬ (6 = 3) := fun z => c_234 ((nI_eq (by omega) (by omega)).mpr z)
            refine lv_iload_n hx hb dX11_hear_237 rfl (lv_at hl 0 rfl) ?_
            refine lv_bipush (v := nI 6) hx hb dX11_hear_238 (by decide) ?_
            refine lv_icmp_ne (tgt := 314) hx hb dX11_hear_240 (by decide) (fun c_240 => ?_) (fun c_240 => ?_)
            · exact absurd c_240 (by decide)
            · have c_240 : 6 = 6 := (nI_eq (by omega) (by omega)).mp c_240
              refine lv_aload_n hx hb dX11_hear_243 rfl (lv_at hl 1 rfl) ?_
              refine hp_get hx hb hown hS.2.1 hH (F_X11_98.use hS) f_o rfl dX11_hear_244 ?_
              refine lv_iconst (v := nI 5) hx hb dX11_hear_247 (by decide) ?_
              refine lv_icmp_ne (tgt := 261) hx hb dX11_hear_248 (by decide) (fun c_248 => ?_) (fun c_248 => ?_)
              · have c_248 : ¬ (kd = 5) := fun z => c_248 ((nI_eq (by omega) (by omega)).mpr z)
                refine lv_aload_n hx hb dX11_hear_261 rfl (lv_at hl 1 rfl) ?_
                refine hp_get hx hb hown hS.2.1 hH (F_X11_98.use hS) f_o rfl dX11_hear_262 ?_
                refine lv_bipush (v := nI 6) hx hb dX11_hear_265 (by decide) ?_
                refine lv_icmp_ne (tgt := 306) hx hb dX11_hear_267 (by decide) (fun c_267 => ?_) (fun c_267 => ?_)
                · have c_267 : ¬ (kd = 6) := fun z => c_267 ((nI_eq (by omega) (by omega)).mpr z)
                  refine lv_aload_n hx hb dX11_hear_306 rfl (lv_at hl 1 rfl) ?_
                  refine lv_iload_n hx hb dX11_hear_307 rfl (lv_at hl 2 rfl) ?_
                  refine hp_kvm (hp_runV (As := [.int (nI t)]) (rest := []) hx hb hml hown hS hH (c_X11_back l X ht (by omega) f_o f_4) M_X11_133 I_X11_back V_X11_back (ci := 7) rfl rfl f_o rfl hl.1 rfl (Nat.le_of_ble_eq_true rfl) dX11_hear_308 ⟨Nat.le_of_ble_eq_true rfl, Nat.le_of_ble_eq_true rfl⟩ ⟨Nat.le_of_ble_eq_true rfl, Nat.le_of_ble_eq_true rfl⟩) hH (fun μ1 H locs hp hH => ?_)
                  obtain ⟨fz0, fe⟩ := hp
                  have f_o := (fe.at0 (by decide)).trans f_o
                  have f_1 := (fe.at 1 (by decide)).trans f_1
                  have f_5 := (fe.at 5 (by decide)).trans f_5
                  have f_6 := (fe.at 6 (by decide)).trans f_6
                  have f_9 := (fe.at 9 (by decide)).trans f_9
                  have f_10 := (fe.at 10 (by decide)).trans f_10
                  have f_11 := (fe.at 11 (by decide)).trans f_11
                  have f_4 : μ1 (o + 4) = some (hp_n X 17 (setN S t (if S t < 4 then 1 else 4))) := fz0
                  have fr := hp_eqM.tr fe fr (by decide)
                  clear fe fz0
                  have f_4 := f_4.trans (congrArg (fun g => some (hp_n X 17 g)) (show setN S t (if S t < 4 then 1 else 4) = setN S t 4 from by rw [hs]; rfl))
                  refine lv_goto (tgt := 348) hx hb dX11_hear_311 (by decide) ?_
                  have hR : hrR kd (decide (kl = L t)) (mtN sl td tc) lv 6 (L t) = 0 := by first | (simp [hrR, c_248, c_267]; done) | (exfalso; omega)
                  have hSn : hrS kd (decide (kl = L t)) (mtN sl td tc) lv 6 (L t) = 4 := by first | (simp [hrS, bkS, c_248, c_267]; done) | (exfalso; omega)
                  have hLn : hrL kd (decide (kl = L t)) (mtN sl td tc) lv 6 (L t) = L t := by first | (simp [hrL, c_248, c_267]; done) | (exfalso; omega)
                  have f_4 := f_4.trans (congrArg (fun g => some (hp_n X 17 g)) (show setN S t 4 = setN S t (hrS kd (decide (kl = L t)) (mtN sl td tc) lv 6 (L t)) from by rw [hSn]))
                  have f_5 := f_5.trans (congrArg (fun g => some (hp_n X 17 g)) (show L = setN L t (hrL kd (decide (kl = L t)) (mtN sl td tc) lv 6 (L t)) from by rw [hLn, setN_id]))
                  have f_o : μ1 o = some (hp_o 7 [.int (nI n), .ref (o + 1), .ref (o + 2), .ref (o + 3), .ref (o + 4), .ref (o + 5), .ref (o + 6), .int (nB on), .int (nI tz), .ref (o + 7), .int (nI se), .ref (o + 8), .ref (o + 9), .int (nI kd), .int (nI kl), .int (nI tc), .ref (o + 10), .int (nI (saL (hrR kd (decide (kl = L t)) (mtN sl td tc) lv 6 (L t)) tc)), .ref (o + 11), .int (nI hd), .ref (o + 12), .int (nI an), .ref (o + 13), .int (nI fm), .int (nI fo), .ref (o + 14), .ref (o + 15), .int (nI kc), .ref (o + 16)]) := by rw [hR]; exact f_o
                  exact hp_rv hx hb hr hlocks hS hH (⟨rfl, J, h01, f_o, f_4, f_5, f_11, (fun j hj => by rw [hR] at hj; exact absurd hj (Nat.not_lt_zero _)), fr⟩) dX11_hear_348
                · have c_267 : kd = 6 := (nI_eq (by omega) (by omega)).mp c_267
                  refine lv_aload_n hx hb dX11_hear_270 rfl (lv_at hl 1 rfl) ?_
                  refine hp_get hx hb hown hS.2.1 hH (F_X11_20.use hS) f_o rfl dX11_hear_271 ?_
                  refine lv_iload_n hx hb dX11_hear_274 rfl (lv_at hl 2 rfl) ?_
                  refine lv_bipush (v := nI 7) hx hb dX11_hear_275 (by decide) ?_
                  refine hp_iastN hx hb hS.ai hH f_4 (by omega) (by omega) dX11_hear_277 (fun H locs μ1 fz fn hH => ?_)
                  have f_o := (fn _ (by omega)).trans f_o
                  have f_1 := (fn _ (by omega)).trans f_1
                  have f_5 := (fn _ (by omega)).trans f_5
                  have f_6 := (fn _ (by omega)).trans f_6
                  have f_9 := (fn _ (by omega)).trans f_9
                  have f_10 := (fn _ (by omega)).trans f_10
                  have f_11 := (fn _ (by omega)).trans f_11
                  have f_4 : μ1 (o + 4) = some (hp_n X 17 (setN S t 7)) := fz
                  have fr := hp_eqM.put (k := 4) fr (by decide) fn
                  clear fz fn
                  refine lv_aload_n hx hb dX11_hear_278 rfl (lv_at hl 1 rfl) ?_
                  refine lv_iconst (v := nI 3) hx hb dX11_hear_279 (by decide) ?_
                  refine hp_kvm (hp_runV (As := [.int (nI 3)]) (rest := []) hx hb hml hown hS hH (c_X11_say l X (v := 3) (by omega) (by omega) f_o f_11) M_X11_113 I_X11_say V_X11_say (ci := 7) rfl rfl f_o rfl hl.1 rfl (Nat.le_of_ble_eq_true rfl) dX11_hear_280 ⟨Nat.le_of_ble_eq_true rfl, Nat.le_of_ble_eq_true rfl⟩ ⟨Nat.le_of_ble_eq_true rfl, Nat.le_of_ble_eq_true rfl⟩) hH (fun μ1 H locs hp hH => ?_)
                  obtain ⟨fz0, fz1, fe⟩ := hp
                  have f_1 := (fe.at 1 (by decide)).trans f_1
                  have f_4 := (fe.at 4 (by decide)).trans f_4
                  have f_5 := (fe.at 5 (by decide)).trans f_5
                  have f_6 := (fe.at 6 (by decide)).trans f_6
                  have f_9 := (fe.at 9 (by decide)).trans f_9
                  have f_10 := (fe.at 10 (by decide)).trans f_10
                  have f_o : μ1 o = some (hp_o 7 [.int (nI n), .ref (o + 1), .ref (o + 2), .ref (o + 3), .ref (o + 4), .ref (o + 5), .ref (o + 6), .int (nB on), .int (nI tz), .ref (o + 7), .int (nI se), .ref (o + 8), .ref (o + 9), .int (nI kd), .int (nI kl), .int (nI tc), .ref (o + 10), .int (nI 9), .ref (o + 11), .int (nI hd), .ref (o + 12), .int (nI an), .ref (o + 13), .int (nI fm), .int (nI fo), .ref (o + 14), .ref (o + 15), .int (nI kc), .ref (o + 16)]) := fz0
                  have f_11 : μ1 (o + 11) = some (hp_n X 64 (apO J 0 3)) := fz1
                  have fr := hp_eqM.tr fe fr (by decide)
                  clear fe fz0 fz1
                  refine lv_aload_n hx hb dX11_hear_283 rfl (lv_at hl 1 rfl) ?_
                  refine lv_iconst (v := nI 2) hx hb dX11_hear_284 (by decide) ?_
                  refine hp_kvm (hp_runV (As := [.int (nI 2)]) (rest := []) hx hb hml hown hS hH (c_X11_say l X (v := 2) (by omega) (by omega) f_o f_11) M_X11_113 I_X11_say V_X11_say (ci := 7) rfl rfl f_o rfl hl.1 rfl (Nat.le_of_ble_eq_true rfl) dX11_hear_285 ⟨Nat.le_of_ble_eq_true rfl, Nat.le_of_ble_eq_true rfl⟩ ⟨Nat.le_of_ble_eq_true rfl, Nat.le_of_ble_eq_true rfl⟩) hH (fun μ1 H locs hp hH => ?_)
                  obtain ⟨fz0, fz1, fe⟩ := hp
                  have f_1 := (fe.at 1 (by decide)).trans f_1
                  have f_4 := (fe.at 4 (by decide)).trans f_4
                  have f_5 := (fe.at 5 (by decide)).trans f_5
                  have f_6 := (fe.at 6 (by decide)).trans f_6
                  have f_9 := (fe.at 9 (by decide)).trans f_9
                  have f_10 := (fe.at 10 (by decide)).trans f_10
                  have f_o : μ1 o = some (hp_o 7 [.int (nI n), .ref (o + 1), .ref (o + 2), .ref (o + 3), .ref (o + 4), .ref (o + 5), .ref (o + 6), .int (nB on), .int (nI tz), .ref (o + 7), .int (nI se), .ref (o + 8), .ref (o + 9), .int (nI kd), .int (nI kl), .int (nI tc), .ref (o + 10), .int (nI 18), .ref (o + 11), .int (nI hd), .ref (o + 12), .int (nI an), .ref (o + 13), .int (nI fm), .int (nI fo), .ref (o + 14), .ref (o + 15), .int (nI kc), .ref (o + 16)]) := fz0
                  have f_11 : μ1 (o + 11) = some (hp_n X 64 (apO (apO J 0 3) 9 2)) := fz1
                  have fr := hp_eqM.tr fe fr (by decide)
                  clear fe fz0 fz1
                  refine lv_aload_n hx hb dX11_hear_288 rfl (lv_at hl 1 rfl) ?_
                  refine lv_aload_n hx hb dX11_hear_289 rfl (lv_at hl 1 rfl) ?_
                  refine hp_get hx hb hown hS.2.1 hH (F_X11_39.use hS) f_o rfl dX11_hear_290 ?_
                  refine lv_iconst (v := nI 1) hx hb dX11_hear_293 (by decide) ?_
                  refine hp_ialdI hx hb hS.ai hH f_9 (by omega) (by omega) dX11_hear_294 ?_
                  refine hp_eqi (z := nI se2) ((hk6 c_267).1) ?_
                  refine hp_kvm (hp_runV (As := [.int (nI se2)]) (rest := []) hx hb hml hown hS hH (c_X11_say l X (v := se2) (by omega) (by omega) f_o f_11) M_X11_113 I_X11_say V_X11_say (ci := 7) rfl rfl f_o rfl hl.1 rfl (Nat.le_of_ble_eq_true rfl) dX11_hear_295 ⟨Nat.le_of_ble_eq_true rfl, Nat.le_of_ble_eq_true rfl⟩ ⟨Nat.le_of_ble_eq_true rfl, Nat.le_of_ble_eq_true rfl⟩) hH (fun μ1 H locs hp hH => ?_)
                  obtain ⟨fz0, fz1, fe⟩ := hp
                  have f_1 := (fe.at 1 (by decide)).trans f_1
                  have f_4 := (fe.at 4 (by decide)).trans f_4
                  have f_5 := (fe.at 5 (by decide)).trans f_5
                  have f_6 := (fe.at 6 (by decide)).trans f_6
                  have f_9 := (fe.at 9 (by decide)).trans f_9
                  have f_10 := (fe.at 10 (by decide)).trans f_10
                  have f_o : μ1 o = some (hp_o 7 [.int (nI n), .ref (o + 1), .ref (o + 2), .ref (o + 3), .ref (o + 4), .ref (o + 5), .ref (o + 6), .int (nB on), .int (nI tz), .ref (o + 7), .int (nI se), .ref (o + 8), .ref (o + 9), .int (nI kd), .int (nI kl), .int (nI tc), .ref (o + 10), .int (nI 27), .ref (o + 11), .int (nI hd), .ref (o + 12), .int (nI an), .ref (o + 13), .int (nI fm), .int (nI fo), .ref (o + 14), .ref (o + 15), .int (nI kc), .ref (o + 16)]) := fz0
                  have f_11 : μ1 (o + 11) = some (hp_n X 64 (apO (apO (apO J 0 3) 9 2) 18 se2)) := fz1
                  have fr := hp_eqM.tr fe fr (by decide)
                  clear fe fz0 fz1
                  refine lv_aload_n hx hb dX11_hear_298 rfl (lv_at hl 1 rfl) ?_
                  refine lv_iconst (v := nI 0) hx hb dX11_hear_299 (by decide) ?_
                  have hs6 := (hk6 c_267).2
                  refine hp_kvm (hp_runV (As := [.int (nI 0)]) (rest := []) hx hb hml hown hS hH (c_X11_sayChecked l X (k := 3) (Bv := 515 + se2 * 65536) (apO_01 (apO_01 (apO_01 h01 _ _) _ _) _ _) (by decide) (o3_bits (hk6 c_267).2) f_o f_11) M_X11_130 I_X11_sayChecked V_X11_sayChecked (ci := 7) rfl rfl f_o rfl hl.1 rfl (Nat.le_of_ble_eq_true rfl) dX11_hear_300 ⟨Nat.le_of_ble_eq_true rfl, Nat.le_of_ble_eq_true rfl⟩ ⟨Nat.le_of_ble_eq_true rfl, Nat.le_of_ble_eq_true rfl⟩) hH (fun μ1 H locs hp hH => ?_)
                  obtain ⟨fz0, fz1, fe⟩ := hp
                  have f_1 := (fe.at 1 (by decide)).trans f_1
                  have f_4 := (fe.at 4 (by decide)).trans f_4
                  have f_5 := (fe.at 5 (by decide)).trans f_5
                  have f_6 := (fe.at 6 (by decide)).trans f_6
                  have f_9 := (fe.at 9 (by decide)).trans f_9
                  have f_10 := (fe.at 10 (by decide)).trans f_10
                  have f_o : μ1 o = some (hp_o 7 [.int (nI n), .ref (o + 1), .ref (o + 2), .ref (o + 3), .ref (o + 4), .ref (o + 5), .ref (o + 6), .int (nB on), .int (nI tz), .ref (o + 7), .int (nI se), .ref (o + 8), .ref (o + 9), .int (nI kd), .int (nI kl), .int (nI tc), .ref (o + 10), .int (nI 45), .ref (o + 11), .int (nI hd), .ref (o + 12), .int (nI an), .ref (o + 13), .int (nI fm), .int (nI fo), .ref (o + 14), .ref (o + 15), .int (nI kc), .ref (o + 16)]) := fz0
                  have f_11 : μ1 (o + 11) = some (hp_n X 64 (apO (apO (apO (apO (apO J 0 3) 9 2) 18 se2) (9 * 3) (crcB (515 + se2 * 65536) 3 % 256)) (9 * 3 + 9) (crcB (515 + se2 * 65536) 3 / 256))) := fz1
                  have fr := hp_eqM.tr fe fr (by decide)
                  clear fe fz0 fz1
                  refine lv_goto (tgt := 348) hx hb dX11_hear_303 (by decide) ?_
                  have hR : hrR kd (decide (kl = L t)) (mtN sl td tc) lv 6 (L t) = 5 := by first | (simp [hrR, c_248, c_267]; done) | (exfalso; omega)
                  have hSn : hrS kd (decide (kl = L t)) (mtN sl td tc) lv 6 (L t) = 7 := by first | (simp [hrS, bkS, c_248, c_267]; done) | (exfalso; omega)
                  have hLn : hrL kd (decide (kl = L t)) (mtN sl td tc) lv 6 (L t) = L t := by first | (simp [hrL, c_248, c_267]; done) | (exfalso; omega)
                  have f_4 := f_4.trans (congrArg (fun g => some (hp_n X 17 g)) (show setN S t 7 = setN S t (hrS kd (decide (kl = L t)) (mtN sl td tc) lv 6 (L t)) from by rw [hSn]))
                  have f_5 := f_5.trans (congrArg (fun g => some (hp_n X 17 g)) (show L = setN L t (hrL kd (decide (kl = L t)) (mtN sl td tc) lv 6 (L t)) from by rw [hLn, setN_id]))
                  have f_o : μ1 o = some (hp_o 7 [.int (nI n), .ref (o + 1), .ref (o + 2), .ref (o + 3), .ref (o + 4), .ref (o + 5), .ref (o + 6), .int (nB on), .int (nI tz), .ref (o + 7), .int (nI se), .ref (o + 8), .ref (o + 9), .int (nI kd), .int (nI kl), .int (nI tc), .ref (o + 10), .int (nI (saL (hrR kd (decide (kl = L t)) (mtN sl td tc) lv 6 (L t)) tc)), .ref (o + 11), .int (nI hd), .ref (o + 12), .int (nI an), .ref (o + 13), .int (nI fm), .int (nI fo), .ref (o + 14), .ref (o + 15), .int (nI kc), .ref (o + 16)]) := by rw [hR]; exact f_o
                  exact hp_rv hx hb hr hlocks hS hH (⟨rfl, (apO (apO (apO (apO (apO J 0 3) 9 2) 18 se2) (9 * 3) (crcB (515 + se2 * 65536) 3 % 256)) (9 * 3 + 9) (crcB (515 + se2 * 65536) 3 / 256)), apO_01 (apO_01 (apO_01 (apO_01 (apO_01 h01 _ _) _ _) _ _) _ _) _ _, f_o, f_4, f_5, f_11, (fun j hj => by rw [hR] at hj ⊢; exact (sc_bits (k := 3) (B := 515 + se2 * 65536) (by omega) (o3_bits (hk6 c_267).2)) j hj), fr⟩) dX11_hear_348
              · have c_248 : kd = 5 := (nI_eq (by omega) (by omega)).mp c_248
                refine lv_aload_n hx hb dX11_hear_251 rfl (lv_at hl 1 rfl) ?_
                refine hp_get hx hb hown hS.2.1 hH (F_X11_20.use hS) f_o rfl dX11_hear_252 ?_
                refine lv_iload_n hx hb dX11_hear_255 rfl (lv_at hl 2 rfl) ?_
                refine lv_iconst (v := nI 4) hx hb dX11_hear_256 (by decide) ?_
                refine hp_iastN hx hb hS.ai hH f_4 (by omega) (by omega) dX11_hear_257 (fun H locs μ1 fz fn hH => ?_)
                have f_o := (fn _ (by omega)).trans f_o
                have f_1 := (fn _ (by omega)).trans f_1
                have f_5 := (fn _ (by omega)).trans f_5
                have f_6 := (fn _ (by omega)).trans f_6
                have f_9 := (fn _ (by omega)).trans f_9
                have f_10 := (fn _ (by omega)).trans f_10
                have f_11 := (fn _ (by omega)).trans f_11
                have f_4 : μ1 (o + 4) = some (hp_n X 17 (setN S t 4)) := fz
                have fr := hp_eqM.put (k := 4) fr (by decide) fn
                clear fz fn
                refine lv_goto (tgt := 348) hx hb dX11_hear_258 (by decide) ?_
                have hR : hrR kd (decide (kl = L t)) (mtN sl td tc) lv 6 (L t) = 0 := by first | (simp [hrR, c_248]; done) | (exfalso; omega)
                have hSn : hrS kd (decide (kl = L t)) (mtN sl td tc) lv 6 (L t) = 4 := by first | (simp [hrS, bkS, c_248]; done) | (exfalso; omega)
                have hLn : hrL kd (decide (kl = L t)) (mtN sl td tc) lv 6 (L t) = L t := by first | (simp [hrL, c_248]; done) | (exfalso; omega)
                have f_4 := f_4.trans (congrArg (fun g => some (hp_n X 17 g)) (show setN S t 4 = setN S t (hrS kd (decide (kl = L t)) (mtN sl td tc) lv 6 (L t)) from by rw [hSn]))
                have f_5 := f_5.trans (congrArg (fun g => some (hp_n X 17 g)) (show L = setN L t (hrL kd (decide (kl = L t)) (mtN sl td tc) lv 6 (L t)) from by rw [hLn, setN_id]))
                have f_o : μ1 o = some (hp_o 7 [.int (nI n), .ref (o + 1), .ref (o + 2), .ref (o + 3), .ref (o + 4), .ref (o + 5), .ref (o + 6), .int (nB on), .int (nI tz), .ref (o + 7), .int (nI se), .ref (o + 8), .ref (o + 9), .int (nI kd), .int (nI kl), .int (nI tc), .ref (o + 10), .int (nI (saL (hrR kd (decide (kl = L t)) (mtN sl td tc) lv 6 (L t)) tc)), .ref (o + 11), .int (nI hd), .ref (o + 12), .int (nI an), .ref (o + 13), .int (nI fm), .int (nI fo), .ref (o + 14), .ref (o + 15), .int (nI kc), .ref (o + 16)]) := by rw [hR]; exact f_o
                exact hp_rv hx hb hr hlocks hS hH (⟨rfl, J, h01, f_o, f_4, f_5, f_11, (fun j hj => by rw [hR] at hj; exact absurd hj (Nat.not_lt_zero _)), fr⟩) dX11_hear_348
        · exact absurd c_66 (by decide)
    · exact absurd c_39 (by decide)
  · exact absurd c_9 (by decide)

set_option maxHeartbeats 4000000 in
set_option maxRecDepth 100000 in
theorem c_X11_hear_7 (l : Launch) (X : hp_X) {μ : hp_M} {nx : Nat} {o n tz se kd kl tc hd an fm fo kc : Nat} {on : Bool} {t sl td lv se2 : Nat} {Z S L sh2 D J : Nat → Nat} {Bf : Nat → Int32} (hs0 : S t = 7) (ht : t < 17) (hz : Z t = 3 * lv + 1) (hl1 : 1 ≤ lv) (hl3 : lv ≤ 3) (hL1 : 1 ≤ L t) (hL3 : L t ≤ 3) (hLlv : L t ≤ lv) (hkd8 : kd < 8) (hkl : kd = 3 ∨ kd = 4 → kl < 2 ^ 20) (hkd : kd = 3 ∨ kd = 4 → tc ≤ 40 ∧ ∀ k, k < tc → D k = td / 2 ^ k % 2) (hk6 : kd = 6 → Bf 1 = nI se2 ∧ se2 < 256) (h01 : ∀ j, J j < 2) (hsh : ∀ k, k < 40 → sh2 (120 * t + 40 * (L t - 1) + k) = sl / 2 ^ k % 2) (f_o : μ o = some (hp_o 7 [.int (nI n), .ref (o + 1), .ref (o + 2), .ref (o + 3), .ref (o + 4), .ref (o + 5), .ref (o + 6), .int (nB on), .int (nI tz), .ref (o + 7), .int (nI se), .ref (o + 8), .ref (o + 9), .int (nI kd), .int (nI kl), .int (nI tc), .ref (o + 10), .int (nI 0), .ref (o + 11), .int (nI hd), .ref (o + 12), .int (nI an), .ref (o + 13), .int (nI fm), .int (nI fo), .ref (o + 14), .ref (o + 15), .int (nI kc), .ref (o + 16)])) (f_1 : μ (o + 1) = some (hp_n X 17 Z)) (f_4 : μ (o + 4) = some (hp_n X 17 S)) (f_5 : μ (o + 5) = some (hp_n X 17 L)) (f_6 : μ (o + 6) = some (hp_n X 2040 sh2)) (f_9 : μ (o + 9) = some (hp_i X 18 Bf)) (f_10 : μ (o + 10) = some (hp_n X 48 D)) (f_11 : μ (o + 11) = some (hp_n X 64 J)) : Ct l X yX11_hear cX11_hear 6 (none : Option Jvm.ClassFile.FieldType) 3 120 0 0 [.ref o, .int (nI t)] μ nx (hq_v X (po_v nx (fun z => ∃ J9 : Nat → Nat, (∀ j, J9 j < 2) ∧ z o = some (hp_o 7 [.int (nI n), .ref (o + 1), .ref (o + 2), .ref (o + 3), .ref (o + 4), .ref (o + 5), .ref (o + 6), .int (nB on), .int (nI tz), .ref (o + 7), .int (nI se), .ref (o + 8), .ref (o + 9), .int (nI kd), .int (nI kl), .int (nI tc), .ref (o + 10), .int (nI (saL (hrR kd (decide (kl = L t)) (mtN sl td tc) lv 7 (L t)) tc)), .ref (o + 11), .int (nI hd), .ref (o + 12), .int (nI an), .ref (o + 13), .int (nI fm), .int (nI fo), .ref (o + 14), .ref (o + 15), .int (nI kc), .ref (o + 16)]) ∧ z (o + 4) = some (hp_n X 17 (setN S t (hrS kd (decide (kl = L t)) (mtN sl td tc) lv 7 (L t)))) ∧ z (o + 5) = some (hp_n X 17 (setN L t (hrL kd (decide (kl = L t)) (mtN sl td tc) lv 7 (L t)))) ∧ z (o + 11) = some (hp_n X 64 J9) ∧ (∀ j, j < saL (hrR kd (decide (kl = L t)) (mtN sl td tc) lv 7 (L t)) tc → J9 j = saB (hrR kd (decide (kl = L t)) (mtN sl td tc) lv 7 (L t)) lv sl se2 tc / 2 ^ j % 2) ∧ hp_eqM [0, 4, 5, 11] o z μ))) := by
  refine hp_met (by decide) (Nat.le_of_ble_eq_true rfl) ?_
  intro p e s m below meth c ls hx hb hml hr hlocks hown hin hS hH hl
  have hl : lv_has ls 6 [(0, .ref o), (1, .int (nI t))] := hl
  have fr : hp_eqM [0, 4, 5, 11] o μ μ := fun _ _ => rfl
  have hs : S t = 7 := hs0
  refine lv_aload_n hx hb dX11_hear_0 rfl (lv_at hl 0 rfl) ?_
  refine hp_get hx hb hown hS.2.1 hH (F_X11_20.use hS) f_o rfl dX11_hear_1 ?_
  refine lv_iload_n hx hb dX11_hear_4 rfl (lv_at hl 1 rfl) ?_
  refine hp_ialdN hx hb hS.ai hH f_4 (by omega) (by omega) dX11_hear_5 ?_
  refine hp_eqi (z := nI 7) (congrArg nI hs) ?_
  refine lv_istore_n (lv' := [(2, .int (nI 7)), (0, .ref o), (1, .int (nI t))]) hx hb dX11_hear_6 rfl hl (by decide) rfl (fun ls hl => ?_)
  refine lv_iload_n hx hb dX11_hear_7 rfl (lv_at hl 0 rfl) ?_
  refine lv_iconst (v := nI 1) hx hb dX11_hear_8 (by decide) ?_
  refine lv_icmp_ne (tgt := 37) hx hb dX11_hear_9 (by decide) (fun c_9 => ?_) (fun c_9 => ?_)
  · have c_9 : ¬ (7 = 1) := fun z => c_9 ((nI_eq (by omega) (by omega)).mpr z)
    refine lv_iload_n hx hb dX11_hear_37 rfl (lv_at hl 0 rfl) ?_
    refine lv_iconst (v := nI 4) hx hb dX11_hear_38 (by decide) ?_
    refine lv_icmp_ne (tgt := 59) hx hb dX11_hear_39 (by decide) (fun c_39 => ?_) (fun c_39 => ?_)
    · have c_39 : ¬ (7 = 4) := fun z => c_39 ((nI_eq (by omega) (by omega)).mpr z)
      refine lv_iload_n hx hb dX11_hear_59 rfl (lv_at hl 0 rfl) ?_
      refine lv_iconst (v := nI 2) hx hb dX11_hear_60 (by decide) ?_
      refine lv_icmp_eq (tgt := 69) hx hb dX11_hear_61 (by decide) (fun c_61 => ?_) (fun c_61 => ?_)
      · exact absurd c_61 (by decide)
      · have c_61 : ¬ (7 = 2) := fun z => c_61 ((nI_eq (by omega) (by omega)).mpr z)
        refine lv_iload_n hx hb dX11_hear_64 rfl (lv_at hl 0 rfl) ?_
        refine lv_iconst (v := nI 5) hx hb dX11_hear_65 (by decide) ?_
        refine lv_icmp_ne (tgt := 232) hx hb dX11_hear_66 (by decide) (fun c_66 => ?_) (fun c_66 => ?_)
        · have c_66 : ¬ (7 = 5) := fun z => c_66 ((nI_eq (by omega) (by omega)).mpr z)
          refine lv_iload_n hx hb dX11_hear_232 rfl (lv_at hl 0 rfl) ?_
          refine lv_iconst (v := nI 3) hx hb dX11_hear_233 (by decide) ?_
          refine lv_icmp_eq (tgt := 243) hx hb dX11_hear_234 (by decide) (fun c_234 => ?_) (fun c_234 => ?_)
          · exact absurd c_234 (by decide)
          · have c_234 : ¬ (7 = 3) := fun z => c_234 ((nI_eq (by omega) (by omega)).mpr z)
            refine lv_iload_n hx hb dX11_hear_237 rfl (lv_at hl 0 rfl) ?_
            refine lv_bipush (v := nI 6) hx hb dX11_hear_238 (by decide) ?_
            refine lv_icmp_ne (tgt := 314) hx hb dX11_hear_240 (by decide) (fun c_240 => ?_) (fun c_240 => ?_)
            · have c_240 : ¬ (7 = 6) := fun z => c_240 ((nI_eq (by omega) (by omega)).mpr z)
              refine lv_iload_n hx hb dX11_hear_314 rfl (lv_at hl 0 rfl) ?_
              refine lv_bipush (v := nI 7) hx hb dX11_hear_315 (by decide) ?_
              refine lv_icmp_ne (tgt := 348) hx hb dX11_hear_317 (by decide) (fun c_317 => ?_) (fun c_317 => ?_)
              · exact absurd c_317 (by decide)
              · have c_317 : 7 = 7 := (nI_eq (by omega) (by omega)).mp c_317
                refine lv_aload_n hx hb dX11_hear_320 rfl (lv_at hl 1 rfl) ?_
                refine hp_get hx hb hown hS.2.1 hH (F_X11_98.use hS) f_o rfl dX11_hear_321 ?_
                refine lv_bipush (v := nI 7) hx hb dX11_hear_324 (by decide) ?_
                refine lv_icmp_ne (tgt := 348) hx hb dX11_hear_326 (by decide) (fun c_326 => ?_) (fun c_326 => ?_)
                · have c_326 : ¬ (kd = 7) := fun z => c_326 ((nI_eq (by omega) (by omega)).mpr z)
                  have hR : hrR kd (decide (kl = L t)) (mtN sl td tc) lv 7 (L t) = 0 := by first | (simp [hrR, c_326]; done) | (exfalso; omega)
                  have hSn : hrS kd (decide (kl = L t)) (mtN sl td tc) lv 7 (L t) = 7 := by first | (simp [hrS, bkS, c_326]; done) | (exfalso; omega)
                  have hLn : hrL kd (decide (kl = L t)) (mtN sl td tc) lv 7 (L t) = L t := by first | (simp [hrL, c_326]; done) | (exfalso; omega)
                  have f_4 := f_4.trans (congrArg (fun g => some (hp_n X 17 g)) (show S = setN S t (hrS kd (decide (kl = L t)) (mtN sl td tc) lv 7 (L t)) from by rw [hSn, ← hs, setN_id]))
                  have f_5 := f_5.trans (congrArg (fun g => some (hp_n X 17 g)) (show L = setN L t (hrL kd (decide (kl = L t)) (mtN sl td tc) lv 7 (L t)) from by rw [hLn, setN_id]))
                  have f_o : μ o = some (hp_o 7 [.int (nI n), .ref (o + 1), .ref (o + 2), .ref (o + 3), .ref (o + 4), .ref (o + 5), .ref (o + 6), .int (nB on), .int (nI tz), .ref (o + 7), .int (nI se), .ref (o + 8), .ref (o + 9), .int (nI kd), .int (nI kl), .int (nI tc), .ref (o + 10), .int (nI (saL (hrR kd (decide (kl = L t)) (mtN sl td tc) lv 7 (L t)) tc)), .ref (o + 11), .int (nI hd), .ref (o + 12), .int (nI an), .ref (o + 13), .int (nI fm), .int (nI fo), .ref (o + 14), .ref (o + 15), .int (nI kc), .ref (o + 16)]) := by rw [hR]; exact f_o
                  exact hp_rv hx hb hr hlocks hS hH (⟨rfl, J, h01, f_o, f_4, f_5, f_11, (fun j hj => by rw [hR] at hj; exact absurd hj (Nat.not_lt_zero _)), fr⟩) dX11_hear_348
                · have c_326 : kd = 7 := (nI_eq (by omega) (by omega)).mp c_326
                  refine lv_aload_n hx hb dX11_hear_329 rfl (lv_at hl 1 rfl) ?_
                  refine hp_get hx hb hown hS.2.1 hH (F_X11_20.use hS) f_o rfl dX11_hear_330 ?_
                  refine lv_iload_n hx hb dX11_hear_333 rfl (lv_at hl 2 rfl) ?_
                  refine lv_iconst (v := nI 4) hx hb dX11_hear_334 (by decide) ?_
                  refine hp_iastN hx hb hS.ai hH f_4 (by omega) (by omega) dX11_hear_335 (fun H locs μ1 fz fn hH => ?_)
                  have f_o := (fn _ (by omega)).trans f_o
                  have f_1 := (fn _ (by omega)).trans f_1
                  have f_5 := (fn _ (by omega)).trans f_5
                  have f_6 := (fn _ (by omega)).trans f_6
                  have f_9 := (fn _ (by omega)).trans f_9
                  have f_10 := (fn _ (by omega)).trans f_10
                  have f_11 := (fn _ (by omega)).trans f_11
                  have f_4 : μ1 (o + 4) = some (hp_n X 17 (setN S t 4)) := fz
                  have fr := hp_eqM.put (k := 4) fr (by decide) fn
                  clear fz fn
                  refine lv_aload_n hx hb dX11_hear_336 rfl (lv_at hl 1 rfl) ?_
                  refine lv_sipush (v := nI 194) hx hb dX11_hear_337 (by decide) ?_
                  refine hp_kvm (hp_runV (As := [.int (nI 194)]) (rest := []) hx hb hml hown hS hH (c_X11_say l X (v := 194) (by omega) (by omega) f_o f_11) M_X11_113 I_X11_say V_X11_say (ci := 7) rfl rfl f_o rfl hl.1 rfl (Nat.le_of_ble_eq_true rfl) dX11_hear_340 ⟨Nat.le_of_ble_eq_true rfl, Nat.le_of_ble_eq_true rfl⟩ ⟨Nat.le_of_ble_eq_true rfl, Nat.le_of_ble_eq_true rfl⟩) hH (fun μ1 H locs hp hH => ?_)
                  obtain ⟨fz0, fz1, fe⟩ := hp
                  have f_1 := (fe.at 1 (by decide)).trans f_1
                  have f_4 := (fe.at 4 (by decide)).trans f_4
                  have f_5 := (fe.at 5 (by decide)).trans f_5
                  have f_6 := (fe.at 6 (by decide)).trans f_6
                  have f_9 := (fe.at 9 (by decide)).trans f_9
                  have f_10 := (fe.at 10 (by decide)).trans f_10
                  have f_o : μ1 o = some (hp_o 7 [.int (nI n), .ref (o + 1), .ref (o + 2), .ref (o + 3), .ref (o + 4), .ref (o + 5), .ref (o + 6), .int (nB on), .int (nI tz), .ref (o + 7), .int (nI se), .ref (o + 8), .ref (o + 9), .int (nI kd), .int (nI kl), .int (nI tc), .ref (o + 10), .int (nI 9), .ref (o + 11), .int (nI hd), .ref (o + 12), .int (nI an), .ref (o + 13), .int (nI fm), .int (nI fo), .ref (o + 14), .ref (o + 15), .int (nI kc), .ref (o + 16)]) := fz0
                  have f_11 : μ1 (o + 11) = some (hp_n X 64 (apO J 0 194)) := fz1
                  have fr := hp_eqM.tr fe fr (by decide)
                  clear fe fz0 fz1
                  refine lv_aload_n hx hb dX11_hear_343 rfl (lv_at hl 1 rfl) ?_
                  refine lv_iconst (v := nI 0) hx hb dX11_hear_344 (by decide) ?_
                  refine hp_kvm (hp_runV (As := [.int (nI 0)]) (rest := []) hx hb hml hown hS hH (c_X11_sayChecked l X (k := 1) (Bv := 194) (apO_01 h01 _ _) (by decide) (o1_bits (v := 194) (by omega)) f_o f_11) M_X11_130 I_X11_sayChecked V_X11_sayChecked (ci := 7) rfl rfl f_o rfl hl.1 rfl (Nat.le_of_ble_eq_true rfl) dX11_hear_345 ⟨Nat.le_of_ble_eq_true rfl, Nat.le_of_ble_eq_true rfl⟩ ⟨Nat.le_of_ble_eq_true rfl, Nat.le_of_ble_eq_true rfl⟩) hH (fun μ1 H locs hp hH => ?_)
                  obtain ⟨fz0, fz1, fe⟩ := hp
                  have f_1 := (fe.at 1 (by decide)).trans f_1
                  have f_4 := (fe.at 4 (by decide)).trans f_4
                  have f_5 := (fe.at 5 (by decide)).trans f_5
                  have f_6 := (fe.at 6 (by decide)).trans f_6
                  have f_9 := (fe.at 9 (by decide)).trans f_9
                  have f_10 := (fe.at 10 (by decide)).trans f_10
                  have f_o : μ1 o = some (hp_o 7 [.int (nI n), .ref (o + 1), .ref (o + 2), .ref (o + 3), .ref (o + 4), .ref (o + 5), .ref (o + 6), .int (nB on), .int (nI tz), .ref (o + 7), .int (nI se), .ref (o + 8), .ref (o + 9), .int (nI kd), .int (nI kl), .int (nI tc), .ref (o + 10), .int (nI 27), .ref (o + 11), .int (nI hd), .ref (o + 12), .int (nI an), .ref (o + 13), .int (nI fm), .int (nI fo), .ref (o + 14), .ref (o + 15), .int (nI kc), .ref (o + 16)]) := fz0
                  have f_11 : μ1 (o + 11) = some (hp_n X 64 (apO (apO (apO J 0 194) (9 * 1) (crcB 194 1 % 256)) (9 * 1 + 9) (crcB 194 1 / 256))) := fz1
                  have fr := hp_eqM.tr fe fr (by decide)
                  clear fe fz0 fz1
                  have hR : hrR kd (decide (kl = L t)) (mtN sl td tc) lv 7 (L t) = 6 := by first | (simp [hrR, c_326]; done) | (exfalso; omega)
                  have hSn : hrS kd (decide (kl = L t)) (mtN sl td tc) lv 7 (L t) = 4 := by first | (simp [hrS, bkS, c_326]; done) | (exfalso; omega)
                  have hLn : hrL kd (decide (kl = L t)) (mtN sl td tc) lv 7 (L t) = L t := by first | (simp [hrL, c_326]; done) | (exfalso; omega)
                  have f_4 := f_4.trans (congrArg (fun g => some (hp_n X 17 g)) (show setN S t 4 = setN S t (hrS kd (decide (kl = L t)) (mtN sl td tc) lv 7 (L t)) from by rw [hSn]))
                  have f_5 := f_5.trans (congrArg (fun g => some (hp_n X 17 g)) (show L = setN L t (hrL kd (decide (kl = L t)) (mtN sl td tc) lv 7 (L t)) from by rw [hLn, setN_id]))
                  have f_o : μ1 o = some (hp_o 7 [.int (nI n), .ref (o + 1), .ref (o + 2), .ref (o + 3), .ref (o + 4), .ref (o + 5), .ref (o + 6), .int (nB on), .int (nI tz), .ref (o + 7), .int (nI se), .ref (o + 8), .ref (o + 9), .int (nI kd), .int (nI kl), .int (nI tc), .ref (o + 10), .int (nI (saL (hrR kd (decide (kl = L t)) (mtN sl td tc) lv 7 (L t)) tc)), .ref (o + 11), .int (nI hd), .ref (o + 12), .int (nI an), .ref (o + 13), .int (nI fm), .int (nI fo), .ref (o + 14), .ref (o + 15), .int (nI kc), .ref (o + 16)]) := by rw [hR]; exact f_o
                  exact hp_rv hx hb hr hlocks hS hH (⟨rfl, (apO (apO (apO J 0 194) (9 * 1) (crcB 194 1 % 256)) (9 * 1 + 9) (crcB 194 1 / 256)), apO_01 (apO_01 (apO_01 h01 _ _) _ _) _ _, f_o, f_4, f_5, f_11, (fun j hj => by rw [hR] at hj ⊢; exact (sc_bits (k := 1) (B := 194) (by omega) (o1_bits (v := 194) (by omega))) j hj), fr⟩) dX11_hear_348
            · exact absurd c_240 (by decide)
        · exact absurd c_66 (by decide)
    · exact absurd c_39 (by decide)
  · exact absurd c_9 (by decide)

theorem c_X11_hear (l : Launch) (X : hp_X) {μ : hp_M} {nx : Nat} {o n tz se kd kl tc hd an fm fo kc : Nat} {on : Bool} {t sl td lv se2 : Nat} {Z S L sh2 D J : Nat → Nat} {Bf : Nat → Int32} (hs1 : 0 < S t) (hs8 : S t < 8) (ht : t < 17) (hz : Z t = 3 * lv + 1) (hl1 : 1 ≤ lv) (hl3 : lv ≤ 3) (hL1 : 1 ≤ L t) (hL3 : L t ≤ 3) (hLlv : L t ≤ lv) (hkd8 : kd < 8) (hkl : kd = 3 ∨ kd = 4 → kl < 2 ^ 20) (hkd : kd = 3 ∨ kd = 4 → tc ≤ 40 ∧ ∀ k, k < tc → D k = td / 2 ^ k % 2) (hk6 : kd = 6 → Bf 1 = nI se2 ∧ se2 < 256) (h01 : ∀ j, J j < 2) (hsh : ∀ k, k < 40 → sh2 (120 * t + 40 * (L t - 1) + k) = sl / 2 ^ k % 2) (f_o : μ o = some (hp_o 7 [.int (nI n), .ref (o + 1), .ref (o + 2), .ref (o + 3), .ref (o + 4), .ref (o + 5), .ref (o + 6), .int (nB on), .int (nI tz), .ref (o + 7), .int (nI se), .ref (o + 8), .ref (o + 9), .int (nI kd), .int (nI kl), .int (nI tc), .ref (o + 10), .int (nI 0), .ref (o + 11), .int (nI hd), .ref (o + 12), .int (nI an), .ref (o + 13), .int (nI fm), .int (nI fo), .ref (o + 14), .ref (o + 15), .int (nI kc), .ref (o + 16)])) (f_1 : μ (o + 1) = some (hp_n X 17 Z)) (f_4 : μ (o + 4) = some (hp_n X 17 S)) (f_5 : μ (o + 5) = some (hp_n X 17 L)) (f_6 : μ (o + 6) = some (hp_n X 2040 sh2)) (f_9 : μ (o + 9) = some (hp_i X 18 Bf)) (f_10 : μ (o + 10) = some (hp_n X 48 D)) (f_11 : μ (o + 11) = some (hp_n X 64 J)) : Ct l X yX11_hear cX11_hear 6 (none : Option Jvm.ClassFile.FieldType) 3 120 0 0 [.ref o, .int (nI t)] μ nx (hq_v X (po_v nx (fun z => ∃ J9 : Nat → Nat, (∀ j, J9 j < 2) ∧ z o = some (hp_o 7 [.int (nI n), .ref (o + 1), .ref (o + 2), .ref (o + 3), .ref (o + 4), .ref (o + 5), .ref (o + 6), .int (nB on), .int (nI tz), .ref (o + 7), .int (nI se), .ref (o + 8), .ref (o + 9), .int (nI kd), .int (nI kl), .int (nI tc), .ref (o + 10), .int (nI (saL (hrR kd (decide (kl = L t)) (mtN sl td tc) lv (S t) (L t)) tc)), .ref (o + 11), .int (nI hd), .ref (o + 12), .int (nI an), .ref (o + 13), .int (nI fm), .int (nI fo), .ref (o + 14), .ref (o + 15), .int (nI kc), .ref (o + 16)]) ∧ z (o + 4) = some (hp_n X 17 (setN S t (hrS kd (decide (kl = L t)) (mtN sl td tc) lv (S t) (L t)))) ∧ z (o + 5) = some (hp_n X 17 (setN L t (hrL kd (decide (kl = L t)) (mtN sl td tc) lv (S t) (L t)))) ∧ z (o + 11) = some (hp_n X 64 J9) ∧ (∀ j, j < saL (hrR kd (decide (kl = L t)) (mtN sl td tc) lv (S t) (L t)) tc → J9 j = saB (hrR kd (decide (kl = L t)) (mtN sl td tc) lv (S t) (L t)) lv sl se2 tc / 2 ^ j % 2) ∧ hp_eqM [0, 4, 5, 11] o z μ))) := by
  have h : S t = 1 ∨ S t = 2 ∨ S t = 3 ∨ S t = 4 ∨ S t = 5 ∨ S t = 6 ∨ S t = 7 := by omega
  rcases h with h | h | h | h | h | h | h
  · have h0 := c_X11_hear_1 l X (nx := nx) h ht hz hl1 hl3 hL1 hL3 hLlv hkd8 hkl hkd hk6 h01 hsh f_o f_1 f_4 f_5 f_6 f_9 f_10 f_11
    rw [h]
    exact h0
  · have h0 := c_X11_hear_2 l X (nx := nx) h ht hz hl1 hl3 hL1 hL3 hLlv hkd8 hkl hkd hk6 h01 hsh f_o f_1 f_4 f_5 f_6 f_9 f_10 f_11
    rw [h]
    exact h0
  · have h0 := c_X11_hear_3 l X (nx := nx) h ht hz hl1 hl3 hL1 hL3 hLlv hkd8 hkl hkd hk6 h01 hsh f_o f_1 f_4 f_5 f_6 f_9 f_10 f_11
    rw [h]
    exact h0
  · have h0 := c_X11_hear_4 l X (nx := nx) h ht hz hl1 hl3 hL1 hL3 hLlv hkd8 hkl hkd hk6 h01 hsh f_o f_1 f_4 f_5 f_6 f_9 f_10 f_11
    rw [h]
    exact h0
  · have h0 := c_X11_hear_5 l X (nx := nx) h ht hz hl1 hl3 hL1 hL3 hLlv hkd8 hkl hkd hk6 h01 hsh f_o f_1 f_4 f_5 f_6 f_9 f_10 f_11
    rw [h]
    exact h0
  · have h0 := c_X11_hear_6 l X (nx := nx) h ht hz hl1 hl3 hL1 hL3 hLlv hkd8 hkl hkd hk6 h01 hsh f_o f_1 f_4 f_5 f_6 f_9 f_10 f_11
    rw [h]
    exact h0
  · have h0 := c_X11_hear_7 l X (nx := nx) h ht hz hl1 hl3 hL1 hL3 hLlv hkd8 hkl hkd hk6 h01 hsh f_o f_1 f_4 f_5 f_6 f_9 f_10 f_11
    rw [h]
    exact h0
