set_option maxHeartbeats 4000000 in
set_option maxRecDepth 100000 in
theorem c_X4_read (l : Launch) (X : hp_X) {μ : hp_M} {nx : Nat} {f k0 lv0 se0 td0 tc0 : Nat} {r b room size : Nat} {rb : Nat → Nat} (h01 : ∀ j, rb j < 2) (hr1 : room < 2 ^ 20) (hs1 : size ≤ room) (f_f : μ f = some (hp_o 2 [.ref (X.2.2.2 k0), .int (nI lv0), .int (nI se0), .long (lN td0), .int (nI tc0)])) (f_r : μ r = some (hp_o 4 [.ref b, .int (nI size)])) (f_b : μ b = some (hp_n X room rb)) : Ct l X yX4_read cX4_read 5 (none : Option Jvm.ClassFile.FieldType) 2 80 0 0 [.ref f, .ref r] μ nx (hq_v X (po_v nx (fun z => ∃ td tc : Nat, z f = some (hp_o 2 [.ref (X.2.2.2 (rdK rb size)), .int (nI (lvOf (valN rb size 0 8))), .int (nI (valN rb size 9 8)), .long (lN td), .int (nI tc)]) ∧ (rdK rb size = 3 → td = tdN rb size (size / 9 - 2) (size % 9) ∧ tc = 8 * (size / 9 - 2) + size % 9) ∧ (rdK rb size = 4 → td = tdN rb size 5 0 ∧ tc = 40) ∧ hp_eq [f] z μ))) := by
  refine hp_met (by decide) (Nat.le_of_ble_eq_true rfl) ?_
  intro p e s m below meth c ls hx hb hml hr hlocks hown hin hS hH hl
  have hl : lv_has ls 5 [(0, .ref f), (1, .ref r)] := hl
  have fr : hp_eq [f] μ μ := fun _ _ => rfl
  have hr1 : room < 2 ^ 30 := by omega
  refine lv_aload_n hx hb dX4_read_0 rfl (lv_at hl 1 rfl) ?_
  refine hp_get hx hb hown hS.2.1 hH (F_X4_20.use hS) f_r rfl dX4_read_1 ?_
  refine lv_bipush (v := nI 9) hx hb dX4_read_4 (by decide) ?_
  refine lv_idiv hx hb dX4_read_6 (nI_ne0 (by omega) (by omega)) ?_
  refine hp_eqi (z := nI (size / 9)) (pk_div (by omega) (by omega) (by omega)) ?_
  refine lv_istore_n (lv' := [(2, .int (nI (size / 9))), (0, .ref f), (1, .ref r)]) hx hb dX4_read_7 rfl hl (by decide) rfl (fun ls hl => ?_)
  refine lv_aload_n hx hb dX4_read_8 rfl (lv_at hl 2 rfl) ?_
  refine hp_get hx hb hown hS.2.1 hH (F_X4_20.use hS) f_r rfl dX4_read_9 ?_
  refine lv_bipush (v := nI 9) hx hb dX4_read_12 (by decide) ?_
  refine lv_irem hx hb dX4_read_14 (nI_ne0 (by omega) (by omega)) ?_
  refine hp_eqi (z := nI (size % 9)) (pk_rem (by omega) (by omega) (by omega)) ?_
  refine lv_istore_n (lv' := [(3, .int (nI (size % 9))), (2, .int (nI (size / 9))), (0, .ref f), (1, .ref r)]) hx hb dX4_read_15 rfl hl (by decide) rfl (fun ls hl => ?_)
  refine lv_aload_n hx hb dX4_read_16 rfl (lv_at hl 3 rfl) ?_
  refine lv_iconst (v := nI 0) hx hb dX4_read_17 (by decide) ?_
  refine lv_bipush (v := nI 8) hx hb dX4_read_18 (by decide) ?_
  refine hp_kip (hp_runV (As := [.int (nI 0), .int (nI 8)]) (rest := []) hx hb hml hown hS hH (c_X8_valueAt l X (fm := 0) (n := 8) h01 hr1 (by omega) (by omega) hs1 f_r f_b) M_X4_26 I_X8_valueAt V_X8_valueAt (ci := 4) rfl rfl f_r rfl hl.1 rfl (Nat.le_of_ble_eq_true rfl) dX4_read_20 ⟨Nat.le_of_ble_eq_true rfl, Nat.le_of_ble_eq_true rfl⟩ ⟨Nat.le_of_ble_eq_true rfl, Nat.le_of_ble_eq_true rfl⟩) hH (fun H locs hH => ?_)
  have hfi := valN_lt h01 size 0 8
  refine lv_istore (lv' := [(4, .int (nI (valN rb size 0 8))), (3, .int (nI (size % 9))), (2, .int (nI (size / 9))), (0, .ref f), (1, .ref r)]) hx hb dX4_read_23 hl (by decide) rfl (fun ls hl => ?_)
  refine lv_aload_n hx hb dX4_read_25 rfl (lv_at hl 3 rfl) ?_
  refine lv_aload_n hx hb dX4_read_26 rfl (lv_at hl 4 rfl) ?_
  refine lv_bipush (v := nI 9) hx hb dX4_read_27 (by decide) ?_
  refine lv_bipush (v := nI 8) hx hb dX4_read_29 (by decide) ?_
  refine hp_kip (hp_runV (As := [.int (nI 9), .int (nI 8)]) (rest := [.ref f]) hx hb hml hown hS hH (c_X8_valueAt l X (fm := 9) (n := 8) h01 hr1 (by omega) (by omega) hs1 f_r f_b) M_X4_26 I_X8_valueAt V_X8_valueAt (ci := 4) rfl rfl f_r rfl hl.1 rfl (Nat.le_of_ble_eq_true rfl) dX4_read_31 ⟨Nat.le_of_ble_eq_true rfl, Nat.le_of_ble_eq_true rfl⟩ ⟨Nat.le_of_ble_eq_true rfl, Nat.le_of_ble_eq_true rfl⟩) hH (fun H locs hH => ?_)
  have hse := valN_lt h01 size 9 8
  refine hp_put hx hb hown hS.2.1 hH (P_X4_30.use hS) f_f rfl rfl (Nat.le_of_ble_eq_true rfl) dX4_read_34 (fun H locs μ1 fz fn hH => ?_)
  have f_r := (fn _ (hp_ne f_r f_f (by simp))).trans f_r
  have f_b := (fn _ (hp_ne f_b f_f (by simp))).trans f_b
  have f_f : μ1 f = some (hp_o 2 [.ref (X.2.2.2 k0), .int (nI lv0), .int (nI (valN rb size 9 8)), .long (lN td0), .int (nI tc0)]) := fz
  have fr := hp_eq.put fr (by simp) fn
  clear fz fn
  refine lv_aload_n hx hb dX4_read_37 rfl (lv_at hl 3 rfl) ?_
  refine lv_iload hx hb dX4_read_38 (lv_at hl 0 rfl) ?_
  refine hp_kip (hp_runS (As := [.int (nI (valN rb size 0 8))]) (rest := [.ref f]) hx hb hml hown hS hH (c_X4_levelOf l X (v := valN rb size 0 8) (by omega)) M_X4_33 S_X4_levelOf rfl hl.1 rfl (Nat.le_of_ble_eq_true rfl) dX4_read_40 ⟨Nat.le_of_ble_eq_true rfl, Nat.le_of_ble_eq_true rfl⟩ ⟨Nat.le_of_ble_eq_true rfl, Nat.le_of_ble_eq_true rfl⟩) hH (fun H locs hH => ?_)
  have hlv := lvOf_le (valN rb size 0 8)
  refine hp_put hx hb hown hS.2.1 hH (P_X4_37.use hS) f_f rfl rfl (Nat.le_of_ble_eq_true rfl) dX4_read_43 (fun H locs μ1 fz fn hH => ?_)
  have f_r := (fn _ (hp_ne f_r f_f (by simp))).trans f_r
  have f_b := (fn _ (hp_ne f_b f_f (by simp))).trans f_b
  have f_f : μ1 f = some (hp_o 2 [.ref (X.2.2.2 k0), .int (nI (lvOf (valN rb size 0 8))), .int (nI (valN rb size 9 8)), .long (lN td0), .int (nI tc0)]) := fz
  have fr := hp_eq.put fr (by simp) fn
  clear fz fn
  refine lv_aload_n hx hb dX4_read_46 rfl (lv_at hl 4 rfl) ?_
  refine hp_get hx hb hown hS.2.1 hH (F_X4_20.use hS) f_r rfl dX4_read_47 ?_
  refine lv_bipush (v := nI 7) hx hb dX4_read_50 (by decide) ?_
  refine lv_icmp_ne (tgt := 67) hx hb dX4_read_52 (by decide) (fun c_52 => ?_) (fun c_52 => ?_)
  · have c_52 : ¬ (size = 7) := fun z => c_52 ((nI_eq (by omega) (by omega)).mpr z)
    refine lv_iload_n hx hb dX4_read_67 rfl (lv_at hl 2 rfl) ?_
    refine lv_iconst (v := nI 2) hx hb dX4_read_68 (by decide) ?_
    refine lv_icmp_lt (tgt := 80) hx hb dX4_read_69 (by decide) (fun c_69 => ?_) (fun c_69 => ?_)
    · have c_69 : (size / 9) < 2 := (nI_ltI (by omega) (by omega)).mp c_69
      refine lv_aload_n hx hb dX4_read_80 rfl (lv_at hl 3 rfl) ?_
      refine hp_gets hx hb hS.k0 hH hown G_X4_9 hS dX4_read_81 ?_
      refine hp_put hx hb hown hS.2.1 hH (P_X4_15.use hS) f_f rfl rfl (Nat.le_of_ble_eq_true rfl) dX4_read_84 (fun H locs μ1 fz fn hH => ?_)
      have f_r := (fn _ (hp_ne f_r f_f (by simp))).trans f_r
      have f_b := (fn _ (hp_ne f_b f_f (by simp))).trans f_b
      have f_f : μ1 f = some (hp_o 2 [.ref (X.2.2.2 0), .int (nI (lvOf (valN rb size 0 8))), .int (nI (valN rb size 9 8)), .long (lN td0), .int (nI tc0)]) := fz
      have fr := hp_eq.put fr (by simp) fn
      clear fz fn
      refine lv_goto (tgt := 213) hx hb dX4_read_87 (by decide) ?_
      have hk : rdK rb size = 0 := by unfold rdK; first | rw [if_neg c_52, if_pos (Or.inl c_69)] | rw [if_neg c_52, if_pos (Or.inr c_77)] | rw [if_neg c_52, if_neg (fun q => q.elim (fun q => absurd q c_69) (fun q => absurd (c_77.symm.trans q) (by decide))), if_neg (by omega), if_pos (by omega)]
      exact hp_rv hx hb hr hlocks hS hH (⟨rfl, ⟨td0, tc0, by rw [hk]; exact f_f, fun q => absurd (hk.symm.trans q) (by decide), fun q => absurd (hk.symm.trans q) (by decide), fr⟩⟩) dX4_read_213
    · have c_69 : ¬ ((size / 9) < 2) := fun z => c_69 ((nI_ltI (by omega) (by omega)).mpr z)
      refine lv_aload_n hx hb dX4_read_72 rfl (lv_at hl 4 rfl) ?_
      refine lv_iload_n hx hb dX4_read_73 rfl (lv_at hl 2 rfl) ?_
      refine hp_kip (hp_runV (As := [.int (nI (size / 9))]) (rest := []) hx hb hml hown hS hH (c_X8_beginsWithOctets l X (n := size / 9) h01 hr1 (by omega) hs1 f_r f_b) M_X4_44 I_X8_beginsWithOctets V_X8_beginsWithOctets (ci := 4) rfl rfl f_r rfl hl.1 rfl (Nat.le_of_ble_eq_true rfl) dX4_read_74 ⟨Nat.le_of_ble_eq_true rfl, Nat.le_of_ble_eq_true rfl⟩ ⟨Nat.le_of_ble_eq_true rfl, Nat.le_of_ble_eq_true rfl⟩) hH (fun H locs hH => ?_)
      refine lv_if_ne (tgt := 90) hx hb dX4_read_77 (by decide) (fun c_77 => ?_) (fun c_77 => ?_)
      · have c_77 : (begN rb size (size / 9)) = true := nB_n c_77
        refine lv_aload_n hx hb dX4_read_90 rfl (lv_at hl 3 rfl) ?_
        refine hp_get hx hb hown hS.2.1 hH (F_X4_37.use hS) f_f rfl dX4_read_91 ?_
        refine lv_if_le (tgt := 141) hx hb dX4_read_94 (by decide) (fun c_94 => ?_) (fun c_94 => ?_)
        · have c_94 : (lvOf (valN rb size 0 8)) = 0 := nz_le (by omega) c_94
          refine lv_iload_n hx hb dX4_read_141 rfl (lv_at hl 1 rfl) ?_
          refine lv_if_gt (tgt := 153) hx hb dX4_read_142 (by decide) (fun c_142 => ?_) (fun c_142 => ?_)
          · have c_142 : 0 < (size % 9) := nz_gt (by omega) c_142
            refine lv_aload_n hx hb dX4_read_153 rfl (lv_at hl 3 rfl) ?_
            refine hp_gets hx hb hS.k0 hH hown G_X4_9 hS dX4_read_154 ?_
            refine hp_put hx hb hown hS.2.1 hH (P_X4_15.use hS) f_f rfl rfl (Nat.le_of_ble_eq_true rfl) dX4_read_157 (fun H locs μ1 fz fn hH => ?_)
            have f_r := (fn _ (hp_ne f_r f_f (by simp))).trans f_r
            have f_b := (fn _ (hp_ne f_b f_f (by simp))).trans f_b
            have f_f : μ1 f = some (hp_o 2 [.ref (X.2.2.2 0), .int (nI (lvOf (valN rb size 0 8))), .int (nI (valN rb size 9 8)), .long (lN td0), .int (nI tc0)]) := fz
            have fr := hp_eq.put fr (by simp) fn
            clear fz fn
            refine lv_goto (tgt := 213) hx hb dX4_read_160 (by decide) ?_
            have hk : rdK rb size = 0 := by unfold rdK; first | rw [if_neg c_52, if_pos (Or.inl c_69)] | rw [if_neg c_52, if_pos (Or.inr c_77)] | rw [if_neg c_52, if_neg (fun q => q.elim (fun q => absurd q c_69) (fun q => absurd (c_77.symm.trans q) (by decide))), if_neg (by omega), if_pos (by omega)]
            exact hp_rv hx hb hr hlocks hS hH (⟨rfl, ⟨td0, tc0, by rw [hk]; exact f_f, fun q => absurd (hk.symm.trans q) (by decide), fun q => absurd (hk.symm.trans q) (by decide), fr⟩⟩) dX4_read_213
          · have c_142 : (size % 9) = 0 := nz_ngt (by omega) c_142
            refine lv_aload_n hx hb dX4_read_145 rfl (lv_at hl 4 rfl) ?_
            refine lv_iload_n hx hb dX4_read_146 rfl (lv_at hl 2 rfl) ?_
            refine hp_kip (hp_runV (As := [.int (nI (size / 9))]) (rest := []) hx hb hml hown hS hH (c_X8_checkOf l X (n := size / 9) h01 hr1 (by omega) hs1 f_r f_b) M_X4_55 I_X8_checkOf V_X8_checkOf (ci := 4) rfl rfl f_r rfl hl.1 rfl (Nat.le_of_ble_eq_true rfl) dX4_read_147 ⟨Nat.le_of_ble_eq_true rfl, Nat.le_of_ble_eq_true rfl⟩ ⟨Nat.le_of_ble_eq_true rfl, Nat.le_of_ble_eq_true rfl⟩) hH (fun H locs hH => ?_)
            have hcr := crcN_lt rb size (size / 9)
            refine lv_if_eq (tgt := 163) hx hb dX4_read_150 (by decide) (fun c_150 => ?_) (fun c_150 => ?_)
            · have c_150 : (crcN rb size (size / 9)) = 0 := nz_0 (by omega) c_150
              refine lv_aload_n hx hb dX4_read_163 rfl (lv_at hl 3 rfl) ?_
              refine hp_get hx hb hown hS.2.1 hH (F_X4_37.use hS) f_f rfl dX4_read_164 ?_
              refine lv_if_le (tgt := 202) hx hb dX4_read_167 (by decide) (fun c_167 => ?_) (fun c_167 => ?_)
              · have c_167 : (lvOf (valN rb size 0 8)) = 0 := nz_le (by omega) c_167
                refine lv_aload_n hx hb dX4_read_202 rfl (lv_at hl 3 rfl) ?_
                refine lv_aload_n hx hb dX4_read_203 rfl (lv_at hl 3 rfl) ?_
                refine lv_iload hx hb dX4_read_204 (lv_at hl 0 rfl) ?_
                refine lv_iload_n hx hb dX4_read_206 rfl (lv_at hl 2 rfl) ?_
                refine hp_krp (hp_runV (As := [.int (nI (valN rb size 0 8)), .int (nI (size / 9))]) (rest := [.ref f]) hx hb hml hown hS hH (c_X4_kindOfCommand l X (fi := valN rb size 0 8) (oc := size / 9) (by omega) (by omega) (by omega) f_f) M_X4_61 I_X4_kindOfCommand V_X4_kindOfCommand (ci := 2) rfl rfl f_f rfl hl.1 rfl (Nat.le_of_ble_eq_true rfl) dX4_read_207 ⟨Nat.le_of_ble_eq_true rfl, Nat.le_of_ble_eq_true rfl⟩ ⟨Nat.le_of_ble_eq_true rfl, Nat.le_of_ble_eq_true rfl⟩) hH (fun H locs hH => ?_)
                refine hp_put hx hb hown hS.2.1 hH (P_X4_15.use hS) f_f rfl rfl (Nat.le_of_ble_eq_true rfl) dX4_read_210 (fun H locs μ1 fz fn hH => ?_)
                have f_r := (fn _ (hp_ne f_r f_f (by simp))).trans f_r
                have f_b := (fn _ (hp_ne f_b f_f (by simp))).trans f_b
                have f_f : μ1 f = some (hp_o 2 [.ref (X.2.2.2 (kdC (valN rb size 0 8) (size / 9) (valN rb size 9 8))), .int (nI (lvOf (valN rb size 0 8))), .int (nI (valN rb size 9 8)), .long (lN td0), .int (nI tc0)]) := fz
                have fr := hp_eq.put fr (by simp) fn
                clear fz fn
                have hk : rdK rb size = (kdC (valN rb size 0 8) (size / 9) (valN rb size 9 8)) := by unfold rdK; rw [if_neg c_52, if_neg (fun q => q.elim (fun q => absurd q c_69) (fun q => absurd (c_77.symm.trans q) (by decide))), if_neg (by omega), if_neg (by omega), if_neg (by omega)]
                exact hp_rv hx hb hr hlocks hS hH (⟨rfl, ⟨td0, tc0, by rw [hk]; exact f_f, fun q => absurd (hk.symm.trans q) (by first | (unfold kdS; split <;> (try split) <;> omega) | (unfold kdC; split <;> (try split) <;> (try split) <;> omega)), fun q => absurd (hk.symm.trans q) (by first | (unfold kdS; split <;> (try split) <;> omega) | (unfold kdC; split <;> (try split) <;> (try split) <;> omega)), fr⟩⟩) dX4_read_213
              · have c_167 : 0 < (lvOf (valN rb size 0 8)) := nz_nle (by omega) c_167
                refine lv_iload_n hx hb dX4_read_170 rfl (lv_at hl 2 rfl) ?_
                refine lv_bipush (v := nI 9) hx hb dX4_read_171 (by decide) ?_
                refine lv_icmp_ne (tgt := 202) hx hb dX4_read_173 (by decide) (fun c_173 => ?_) (fun c_173 => ?_)
                · have c_173 : ¬ ((size / 9) = 9) := fun z => c_173 ((nI_eq (by omega) (by omega)).mpr z)
                  refine lv_aload_n hx hb dX4_read_202 rfl (lv_at hl 3 rfl) ?_
                  refine lv_aload_n hx hb dX4_read_203 rfl (lv_at hl 3 rfl) ?_
                  refine lv_iload hx hb dX4_read_204 (lv_at hl 0 rfl) ?_
                  refine lv_iload_n hx hb dX4_read_206 rfl (lv_at hl 2 rfl) ?_
                  refine hp_krp (hp_runV (As := [.int (nI (valN rb size 0 8)), .int (nI (size / 9))]) (rest := [.ref f]) hx hb hml hown hS hH (c_X4_kindOfCommand l X (fi := valN rb size 0 8) (oc := size / 9) (by omega) (by omega) (by omega) f_f) M_X4_61 I_X4_kindOfCommand V_X4_kindOfCommand (ci := 2) rfl rfl f_f rfl hl.1 rfl (Nat.le_of_ble_eq_true rfl) dX4_read_207 ⟨Nat.le_of_ble_eq_true rfl, Nat.le_of_ble_eq_true rfl⟩ ⟨Nat.le_of_ble_eq_true rfl, Nat.le_of_ble_eq_true rfl⟩) hH (fun H locs hH => ?_)
                  refine hp_put hx hb hown hS.2.1 hH (P_X4_15.use hS) f_f rfl rfl (Nat.le_of_ble_eq_true rfl) dX4_read_210 (fun H locs μ1 fz fn hH => ?_)
                  have f_r := (fn _ (hp_ne f_r f_f (by simp))).trans f_r
                  have f_b := (fn _ (hp_ne f_b f_f (by simp))).trans f_b
                  have f_f : μ1 f = some (hp_o 2 [.ref (X.2.2.2 (kdC (valN rb size 0 8) (size / 9) (valN rb size 9 8))), .int (nI (lvOf (valN rb size 0 8))), .int (nI (valN rb size 9 8)), .long (lN td0), .int (nI tc0)]) := fz
                  have fr := hp_eq.put fr (by simp) fn
                  clear fz fn
                  have hk : rdK rb size = (kdC (valN rb size 0 8) (size / 9) (valN rb size 9 8)) := by unfold rdK; rw [if_neg c_52, if_neg (fun q => q.elim (fun q => absurd q c_69) (fun q => absurd (c_77.symm.trans q) (by decide))), if_neg (by omega), if_neg (by omega), if_neg (by omega)]
                  exact hp_rv hx hb hr hlocks hS hH (⟨rfl, ⟨td0, tc0, by rw [hk]; exact f_f, fun q => absurd (hk.symm.trans q) (by first | (unfold kdS; split <;> (try split) <;> omega) | (unfold kdC; split <;> (try split) <;> (try split) <;> omega)), fun q => absurd (hk.symm.trans q) (by first | (unfold kdS; split <;> (try split) <;> omega) | (unfold kdC; split <;> (try split) <;> (try split) <;> omega)), fr⟩⟩) dX4_read_213
                · have c_173 : (size / 9) = 9 := (nI_eq (by omega) (by omega)).mp c_173
                  refine lv_aload_n hx hb dX4_read_176 rfl (lv_at hl 3 rfl) ?_
                  refine hp_get hx hb hown hS.2.1 hH (F_X4_30.use hS) f_f rfl dX4_read_177 ?_
                  refine lv_bipush (v := nI 112) hx hb dX4_read_180 (by decide) ?_
                  refine lv_icmp_ne (tgt := 202) hx hb dX4_read_182 (by decide) (fun c_182 => ?_) (fun c_182 => ?_)
                  · have c_182 : ¬ ((valN rb size 9 8) = 112) := fun z => c_182 ((nI_eq (by omega) (by omega)).mpr z)
                    refine lv_aload_n hx hb dX4_read_202 rfl (lv_at hl 3 rfl) ?_
                    refine lv_aload_n hx hb dX4_read_203 rfl (lv_at hl 3 rfl) ?_
                    refine lv_iload hx hb dX4_read_204 (lv_at hl 0 rfl) ?_
                    refine lv_iload_n hx hb dX4_read_206 rfl (lv_at hl 2 rfl) ?_
                    refine hp_krp (hp_runV (As := [.int (nI (valN rb size 0 8)), .int (nI (size / 9))]) (rest := [.ref f]) hx hb hml hown hS hH (c_X4_kindOfCommand l X (fi := valN rb size 0 8) (oc := size / 9) (by omega) (by omega) (by omega) f_f) M_X4_61 I_X4_kindOfCommand V_X4_kindOfCommand (ci := 2) rfl rfl f_f rfl hl.1 rfl (Nat.le_of_ble_eq_true rfl) dX4_read_207 ⟨Nat.le_of_ble_eq_true rfl, Nat.le_of_ble_eq_true rfl⟩ ⟨Nat.le_of_ble_eq_true rfl, Nat.le_of_ble_eq_true rfl⟩) hH (fun H locs hH => ?_)
                    refine hp_put hx hb hown hS.2.1 hH (P_X4_15.use hS) f_f rfl rfl (Nat.le_of_ble_eq_true rfl) dX4_read_210 (fun H locs μ1 fz fn hH => ?_)
                    have f_r := (fn _ (hp_ne f_r f_f (by simp))).trans f_r
                    have f_b := (fn _ (hp_ne f_b f_f (by simp))).trans f_b
                    have f_f : μ1 f = some (hp_o 2 [.ref (X.2.2.2 (kdC (valN rb size 0 8) (size / 9) (valN rb size 9 8))), .int (nI (lvOf (valN rb size 0 8))), .int (nI (valN rb size 9 8)), .long (lN td0), .int (nI tc0)]) := fz
                    have fr := hp_eq.put fr (by simp) fn
                    clear fz fn
                    have hk : rdK rb size = (kdC (valN rb size 0 8) (size / 9) (valN rb size 9 8)) := by unfold rdK; rw [if_neg c_52, if_neg (fun q => q.elim (fun q => absurd q c_69) (fun q => absurd (c_77.symm.trans q) (by decide))), if_neg (by omega), if_neg (by omega), if_neg (by omega)]
                    exact hp_rv hx hb hr hlocks hS hH (⟨rfl, ⟨td0, tc0, by rw [hk]; exact f_f, fun q => absurd (hk.symm.trans q) (by first | (unfold kdS; split <;> (try split) <;> omega) | (unfold kdC; split <;> (try split) <;> (try split) <;> omega)), fun q => absurd (hk.symm.trans q) (by first | (unfold kdS; split <;> (try split) <;> omega) | (unfold kdC; split <;> (try split) <;> (try split) <;> omega)), fr⟩⟩) dX4_read_213
                  · have c_182 : (valN rb size 9 8) = 112 := (nI_eq (by omega) (by omega)).mp c_182
                    refine lv_aload_n hx hb dX4_read_185 rfl (lv_at hl 3 rfl) ?_
                    refine hp_gets hx hb hS.k4 hH hown G_X4_58 hS dX4_read_186 ?_
                    refine hp_put hx hb hown hS.2.1 hH (P_X4_15.use hS) f_f rfl rfl (Nat.le_of_ble_eq_true rfl) dX4_read_189 (fun H locs μ1 fz fn hH => ?_)
                    have f_r := (fn _ (hp_ne f_r f_f (by simp))).trans f_r
                    have f_b := (fn _ (hp_ne f_b f_f (by simp))).trans f_b
                    have f_f : μ1 f = some (hp_o 2 [.ref (X.2.2.2 4), .int (nI (lvOf (valN rb size 0 8))), .int (nI (valN rb size 9 8)), .long (lN td0), .int (nI tc0)]) := fz
                    have fr := hp_eq.put fr (by simp) fn
                    clear fz fn
                    refine lv_aload_n hx hb dX4_read_192 rfl (lv_at hl 3 rfl) ?_
                    refine lv_aload_n hx hb dX4_read_193 rfl (lv_at hl 4 rfl) ?_
                    refine lv_iconst (v := nI 5) hx hb dX4_read_194 (by decide) ?_
                    refine lv_iconst (v := nI 0) hx hb dX4_read_195 (by decide) ?_
                    refine hp_kvm (hp_runV (As := [.ref r, .int (nI 5), .int (nI 0)]) (rest := []) hx hb hml hown hS hH (c_X4_readTold l X (by1 := 5) (ov := 0) h01 hr1 hs1 (by omega) (by omega) f_f f_r f_b) M_X4_51 I_X4_readTold V_X4_readTold (ci := 2) rfl rfl f_f rfl hl.1 rfl (Nat.le_of_ble_eq_true rfl) dX4_read_196 ⟨Nat.le_of_ble_eq_true rfl, Nat.le_of_ble_eq_true rfl⟩ ⟨Nat.le_of_ble_eq_true rfl, Nat.le_of_ble_eq_true rfl⟩) hH (fun μ1 H locs hp hH => ?_)
                    obtain ⟨fz0, fe⟩ := hp
                    have f_r := (hp_e1 fe (hp_ne f_r f_f (by simp))).trans f_r
                    have f_b := (hp_e1 fe (hp_ne f_b f_f (by simp))).trans f_b
                    have f_f : μ1 f = some (hp_o 2 [.ref (X.2.2.2 4), .int (nI (lvOf (valN rb size 0 8))), .int (nI (valN rb size 9 8)), .long (lN (tdN rb size (5) (0))), .int (nI (8 * (5) + 0))]) := fz0
                    have fr := hp_eq.tr1 fe fr (by simp)
                    clear fe fz0
                    refine lv_goto (tgt := 213) hx hb dX4_read_199 (by decide) ?_
                    have hk : rdK rb size = 4 := by unfold rdK; rw [if_neg c_52, if_neg (fun q => q.elim (fun q => absurd q c_69) (fun q => absurd (c_77.symm.trans q) (by decide))), if_neg (by omega), if_neg (by omega), if_pos ⟨by omega, by omega, by omega⟩]
                    exact hp_rv hx hb hr hlocks hS hH (⟨rfl, ⟨tdN rb size (5) (0), 8 * (5) + 0, by rw [hk]; exact f_f, fun q => absurd (hk.symm.trans q) (by decide), fun _ => ⟨rfl, rfl⟩, fr⟩⟩) dX4_read_213
            · have c_150 : ¬ (crcN rb size (size / 9) = 0) := nz_n (by omega) c_150
              refine lv_aload_n hx hb dX4_read_153 rfl (lv_at hl 3 rfl) ?_
              refine hp_gets hx hb hS.k0 hH hown G_X4_9 hS dX4_read_154 ?_
              refine hp_put hx hb hown hS.2.1 hH (P_X4_15.use hS) f_f rfl rfl (Nat.le_of_ble_eq_true rfl) dX4_read_157 (fun H locs μ1 fz fn hH => ?_)
              have f_r := (fn _ (hp_ne f_r f_f (by simp))).trans f_r
              have f_b := (fn _ (hp_ne f_b f_f (by simp))).trans f_b
              have f_f : μ1 f = some (hp_o 2 [.ref (X.2.2.2 0), .int (nI (lvOf (valN rb size 0 8))), .int (nI (valN rb size 9 8)), .long (lN td0), .int (nI tc0)]) := fz
              have fr := hp_eq.put fr (by simp) fn
              clear fz fn
              refine lv_goto (tgt := 213) hx hb dX4_read_160 (by decide) ?_
              have hk : rdK rb size = 0 := by unfold rdK; first | rw [if_neg c_52, if_pos (Or.inl c_69)] | rw [if_neg c_52, if_pos (Or.inr c_77)] | rw [if_neg c_52, if_neg (fun q => q.elim (fun q => absurd q c_69) (fun q => absurd (c_77.symm.trans q) (by decide))), if_neg (by omega), if_pos (by omega)]
              exact hp_rv hx hb hr hlocks hS hH (⟨rfl, ⟨td0, tc0, by rw [hk]; exact f_f, fun q => absurd (hk.symm.trans q) (by decide), fun q => absurd (hk.symm.trans q) (by decide), fr⟩⟩) dX4_read_213
        · have c_94 : 0 < (lvOf (valN rb size 0 8)) := nz_nle (by omega) c_94
          refine lv_iload_n hx hb dX4_read_97 rfl (lv_at hl 2 rfl) ?_
          refine lv_bipush (v := nI 6) hx hb dX4_read_98 (by decide) ?_
          refine lv_icmp_gt (tgt := 141) hx hb dX4_read_100 (by decide) (fun c_100 => ?_) (fun c_100 => ?_)
          · have c_100 : 6 < (size / 9) := (nI_ltI (by omega) (by omega)).mp c_100
            refine lv_iload_n hx hb dX4_read_141 rfl (lv_at hl 1 rfl) ?_
            refine lv_if_gt (tgt := 153) hx hb dX4_read_142 (by decide) (fun c_142 => ?_) (fun c_142 => ?_)
            · have c_142 : 0 < (size % 9) := nz_gt (by omega) c_142
              refine lv_aload_n hx hb dX4_read_153 rfl (lv_at hl 3 rfl) ?_
              refine hp_gets hx hb hS.k0 hH hown G_X4_9 hS dX4_read_154 ?_
              refine hp_put hx hb hown hS.2.1 hH (P_X4_15.use hS) f_f rfl rfl (Nat.le_of_ble_eq_true rfl) dX4_read_157 (fun H locs μ1 fz fn hH => ?_)
              have f_r := (fn _ (hp_ne f_r f_f (by simp))).trans f_r
              have f_b := (fn _ (hp_ne f_b f_f (by simp))).trans f_b
              have f_f : μ1 f = some (hp_o 2 [.ref (X.2.2.2 0), .int (nI (lvOf (valN rb size 0 8))), .int (nI (valN rb size 9 8)), .long (lN td0), .int (nI tc0)]) := fz
              have fr := hp_eq.put fr (by simp) fn
              clear fz fn
              refine lv_goto (tgt := 213) hx hb dX4_read_160 (by decide) ?_
              have hk : rdK rb size = 0 := by unfold rdK; first | rw [if_neg c_52, if_pos (Or.inl c_69)] | rw [if_neg c_52, if_pos (Or.inr c_77)] | rw [if_neg c_52, if_neg (fun q => q.elim (fun q => absurd q c_69) (fun q => absurd (c_77.symm.trans q) (by decide))), if_neg (by omega), if_pos (by omega)]
              exact hp_rv hx hb hr hlocks hS hH (⟨rfl, ⟨td0, tc0, by rw [hk]; exact f_f, fun q => absurd (hk.symm.trans q) (by decide), fun q => absurd (hk.symm.trans q) (by decide), fr⟩⟩) dX4_read_213
            · have c_142 : (size % 9) = 0 := nz_ngt (by omega) c_142
              refine lv_aload_n hx hb dX4_read_145 rfl (lv_at hl 4 rfl) ?_
              refine lv_iload_n hx hb dX4_read_146 rfl (lv_at hl 2 rfl) ?_
              refine hp_kip (hp_runV (As := [.int (nI (size / 9))]) (rest := []) hx hb hml hown hS hH (c_X8_checkOf l X (n := size / 9) h01 hr1 (by omega) hs1 f_r f_b) M_X4_55 I_X8_checkOf V_X8_checkOf (ci := 4) rfl rfl f_r rfl hl.1 rfl (Nat.le_of_ble_eq_true rfl) dX4_read_147 ⟨Nat.le_of_ble_eq_true rfl, Nat.le_of_ble_eq_true rfl⟩ ⟨Nat.le_of_ble_eq_true rfl, Nat.le_of_ble_eq_true rfl⟩) hH (fun H locs hH => ?_)
              have hcr := crcN_lt rb size (size / 9)
              refine lv_if_eq (tgt := 163) hx hb dX4_read_150 (by decide) (fun c_150 => ?_) (fun c_150 => ?_)
              · have c_150 : (crcN rb size (size / 9)) = 0 := nz_0 (by omega) c_150
                refine lv_aload_n hx hb dX4_read_163 rfl (lv_at hl 3 rfl) ?_
                refine hp_get hx hb hown hS.2.1 hH (F_X4_37.use hS) f_f rfl dX4_read_164 ?_
                refine lv_if_le (tgt := 202) hx hb dX4_read_167 (by decide) (fun c_167 => ?_) (fun c_167 => ?_)
                · have c_167 : (lvOf (valN rb size 0 8)) = 0 := nz_le (by omega) c_167
                  refine lv_aload_n hx hb dX4_read_202 rfl (lv_at hl 3 rfl) ?_
                  refine lv_aload_n hx hb dX4_read_203 rfl (lv_at hl 3 rfl) ?_
                  refine lv_iload hx hb dX4_read_204 (lv_at hl 0 rfl) ?_
                  refine lv_iload_n hx hb dX4_read_206 rfl (lv_at hl 2 rfl) ?_
                  refine hp_krp (hp_runV (As := [.int (nI (valN rb size 0 8)), .int (nI (size / 9))]) (rest := [.ref f]) hx hb hml hown hS hH (c_X4_kindOfCommand l X (fi := valN rb size 0 8) (oc := size / 9) (by omega) (by omega) (by omega) f_f) M_X4_61 I_X4_kindOfCommand V_X4_kindOfCommand (ci := 2) rfl rfl f_f rfl hl.1 rfl (Nat.le_of_ble_eq_true rfl) dX4_read_207 ⟨Nat.le_of_ble_eq_true rfl, Nat.le_of_ble_eq_true rfl⟩ ⟨Nat.le_of_ble_eq_true rfl, Nat.le_of_ble_eq_true rfl⟩) hH (fun H locs hH => ?_)
                  refine hp_put hx hb hown hS.2.1 hH (P_X4_15.use hS) f_f rfl rfl (Nat.le_of_ble_eq_true rfl) dX4_read_210 (fun H locs μ1 fz fn hH => ?_)
                  have f_r := (fn _ (hp_ne f_r f_f (by simp))).trans f_r
                  have f_b := (fn _ (hp_ne f_b f_f (by simp))).trans f_b
                  have f_f : μ1 f = some (hp_o 2 [.ref (X.2.2.2 (kdC (valN rb size 0 8) (size / 9) (valN rb size 9 8))), .int (nI (lvOf (valN rb size 0 8))), .int (nI (valN rb size 9 8)), .long (lN td0), .int (nI tc0)]) := fz
                  have fr := hp_eq.put fr (by simp) fn
                  clear fz fn
                  have hk : rdK rb size = (kdC (valN rb size 0 8) (size / 9) (valN rb size 9 8)) := by unfold rdK; rw [if_neg c_52, if_neg (fun q => q.elim (fun q => absurd q c_69) (fun q => absurd (c_77.symm.trans q) (by decide))), if_neg (by omega), if_neg (by omega), if_neg (by omega)]
                  exact hp_rv hx hb hr hlocks hS hH (⟨rfl, ⟨td0, tc0, by rw [hk]; exact f_f, fun q => absurd (hk.symm.trans q) (by first | (unfold kdS; split <;> (try split) <;> omega) | (unfold kdC; split <;> (try split) <;> (try split) <;> omega)), fun q => absurd (hk.symm.trans q) (by first | (unfold kdS; split <;> (try split) <;> omega) | (unfold kdC; split <;> (try split) <;> (try split) <;> omega)), fr⟩⟩) dX4_read_213
                · have c_167 : 0 < (lvOf (valN rb size 0 8)) := nz_nle (by omega) c_167
                  refine lv_iload_n hx hb dX4_read_170 rfl (lv_at hl 2 rfl) ?_
                  refine lv_bipush (v := nI 9) hx hb dX4_read_171 (by decide) ?_
                  refine lv_icmp_ne (tgt := 202) hx hb dX4_read_173 (by decide) (fun c_173 => ?_) (fun c_173 => ?_)
                  · have c_173 : ¬ ((size / 9) = 9) := fun z => c_173 ((nI_eq (by omega) (by omega)).mpr z)
                    refine lv_aload_n hx hb dX4_read_202 rfl (lv_at hl 3 rfl) ?_
                    refine lv_aload_n hx hb dX4_read_203 rfl (lv_at hl 3 rfl) ?_
                    refine lv_iload hx hb dX4_read_204 (lv_at hl 0 rfl) ?_
                    refine lv_iload_n hx hb dX4_read_206 rfl (lv_at hl 2 rfl) ?_
                    refine hp_krp (hp_runV (As := [.int (nI (valN rb size 0 8)), .int (nI (size / 9))]) (rest := [.ref f]) hx hb hml hown hS hH (c_X4_kindOfCommand l X (fi := valN rb size 0 8) (oc := size / 9) (by omega) (by omega) (by omega) f_f) M_X4_61 I_X4_kindOfCommand V_X4_kindOfCommand (ci := 2) rfl rfl f_f rfl hl.1 rfl (Nat.le_of_ble_eq_true rfl) dX4_read_207 ⟨Nat.le_of_ble_eq_true rfl, Nat.le_of_ble_eq_true rfl⟩ ⟨Nat.le_of_ble_eq_true rfl, Nat.le_of_ble_eq_true rfl⟩) hH (fun H locs hH => ?_)
                    refine hp_put hx hb hown hS.2.1 hH (P_X4_15.use hS) f_f rfl rfl (Nat.le_of_ble_eq_true rfl) dX4_read_210 (fun H locs μ1 fz fn hH => ?_)
                    have f_r := (fn _ (hp_ne f_r f_f (by simp))).trans f_r
                    have f_b := (fn _ (hp_ne f_b f_f (by simp))).trans f_b
                    have f_f : μ1 f = some (hp_o 2 [.ref (X.2.2.2 (kdC (valN rb size 0 8) (size / 9) (valN rb size 9 8))), .int (nI (lvOf (valN rb size 0 8))), .int (nI (valN rb size 9 8)), .long (lN td0), .int (nI tc0)]) := fz
                    have fr := hp_eq.put fr (by simp) fn
                    clear fz fn
                    have hk : rdK rb size = (kdC (valN rb size 0 8) (size / 9) (valN rb size 9 8)) := by unfold rdK; rw [if_neg c_52, if_neg (fun q => q.elim (fun q => absurd q c_69) (fun q => absurd (c_77.symm.trans q) (by decide))), if_neg (by omega), if_neg (by omega), if_neg (by omega)]
                    exact hp_rv hx hb hr hlocks hS hH (⟨rfl, ⟨td0, tc0, by rw [hk]; exact f_f, fun q => absurd (hk.symm.trans q) (by first | (unfold kdS; split <;> (try split) <;> omega) | (unfold kdC; split <;> (try split) <;> (try split) <;> omega)), fun q => absurd (hk.symm.trans q) (by first | (unfold kdS; split <;> (try split) <;> omega) | (unfold kdC; split <;> (try split) <;> (try split) <;> omega)), fr⟩⟩) dX4_read_213
                  · have c_173 : (size / 9) = 9 := (nI_eq (by omega) (by omega)).mp c_173
                    refine lv_aload_n hx hb dX4_read_176 rfl (lv_at hl 3 rfl) ?_
                    refine hp_get hx hb hown hS.2.1 hH (F_X4_30.use hS) f_f rfl dX4_read_177 ?_
                    refine lv_bipush (v := nI 112) hx hb dX4_read_180 (by decide) ?_
                    refine lv_icmp_ne (tgt := 202) hx hb dX4_read_182 (by decide) (fun c_182 => ?_) (fun c_182 => ?_)
                    · have c_182 : ¬ ((valN rb size 9 8) = 112) := fun z => c_182 ((nI_eq (by omega) (by omega)).mpr z)
                      refine lv_aload_n hx hb dX4_read_202 rfl (lv_at hl 3 rfl) ?_
                      refine lv_aload_n hx hb dX4_read_203 rfl (lv_at hl 3 rfl) ?_
                      refine lv_iload hx hb dX4_read_204 (lv_at hl 0 rfl) ?_
                      refine lv_iload_n hx hb dX4_read_206 rfl (lv_at hl 2 rfl) ?_
                      refine hp_krp (hp_runV (As := [.int (nI (valN rb size 0 8)), .int (nI (size / 9))]) (rest := [.ref f]) hx hb hml hown hS hH (c_X4_kindOfCommand l X (fi := valN rb size 0 8) (oc := size / 9) (by omega) (by omega) (by omega) f_f) M_X4_61 I_X4_kindOfCommand V_X4_kindOfCommand (ci := 2) rfl rfl f_f rfl hl.1 rfl (Nat.le_of_ble_eq_true rfl) dX4_read_207 ⟨Nat.le_of_ble_eq_true rfl, Nat.le_of_ble_eq_true rfl⟩ ⟨Nat.le_of_ble_eq_true rfl, Nat.le_of_ble_eq_true rfl⟩) hH (fun H locs hH => ?_)
                      refine hp_put hx hb hown hS.2.1 hH (P_X4_15.use hS) f_f rfl rfl (Nat.le_of_ble_eq_true rfl) dX4_read_210 (fun H locs μ1 fz fn hH => ?_)
                      have f_r := (fn _ (hp_ne f_r f_f (by simp))).trans f_r
                      have f_b := (fn _ (hp_ne f_b f_f (by simp))).trans f_b
                      have f_f : μ1 f = some (hp_o 2 [.ref (X.2.2.2 (kdC (valN rb size 0 8) (size / 9) (valN rb size 9 8))), .int (nI (lvOf (valN rb size 0 8))), .int (nI (valN rb size 9 8)), .long (lN td0), .int (nI tc0)]) := fz
                      have fr := hp_eq.put fr (by simp) fn
                      clear fz fn
                      have hk : rdK rb size = (kdC (valN rb size 0 8) (size / 9) (valN rb size 9 8)) := by unfold rdK; rw [if_neg c_52, if_neg (fun q => q.elim (fun q => absurd q c_69) (fun q => absurd (c_77.symm.trans q) (by decide))), if_neg (by omega), if_neg (by omega), if_neg (by omega)]
                      exact hp_rv hx hb hr hlocks hS hH (⟨rfl, ⟨td0, tc0, by rw [hk]; exact f_f, fun q => absurd (hk.symm.trans q) (by first | (unfold kdS; split <;> (try split) <;> omega) | (unfold kdC; split <;> (try split) <;> (try split) <;> omega)), fun q => absurd (hk.symm.trans q) (by first | (unfold kdS; split <;> (try split) <;> omega) | (unfold kdC; split <;> (try split) <;> (try split) <;> omega)), fr⟩⟩) dX4_read_213
                    · have c_182 : (valN rb size 9 8) = 112 := (nI_eq (by omega) (by omega)).mp c_182
                      refine lv_aload_n hx hb dX4_read_185 rfl (lv_at hl 3 rfl) ?_
                      refine hp_gets hx hb hS.k4 hH hown G_X4_58 hS dX4_read_186 ?_
                      refine hp_put hx hb hown hS.2.1 hH (P_X4_15.use hS) f_f rfl rfl (Nat.le_of_ble_eq_true rfl) dX4_read_189 (fun H locs μ1 fz fn hH => ?_)
                      have f_r := (fn _ (hp_ne f_r f_f (by simp))).trans f_r
                      have f_b := (fn _ (hp_ne f_b f_f (by simp))).trans f_b
                      have f_f : μ1 f = some (hp_o 2 [.ref (X.2.2.2 4), .int (nI (lvOf (valN rb size 0 8))), .int (nI (valN rb size 9 8)), .long (lN td0), .int (nI tc0)]) := fz
                      have fr := hp_eq.put fr (by simp) fn
                      clear fz fn
                      refine lv_aload_n hx hb dX4_read_192 rfl (lv_at hl 3 rfl) ?_
                      refine lv_aload_n hx hb dX4_read_193 rfl (lv_at hl 4 rfl) ?_
                      refine lv_iconst (v := nI 5) hx hb dX4_read_194 (by decide) ?_
                      refine lv_iconst (v := nI 0) hx hb dX4_read_195 (by decide) ?_
                      refine hp_kvm (hp_runV (As := [.ref r, .int (nI 5), .int (nI 0)]) (rest := []) hx hb hml hown hS hH (c_X4_readTold l X (by1 := 5) (ov := 0) h01 hr1 hs1 (by omega) (by omega) f_f f_r f_b) M_X4_51 I_X4_readTold V_X4_readTold (ci := 2) rfl rfl f_f rfl hl.1 rfl (Nat.le_of_ble_eq_true rfl) dX4_read_196 ⟨Nat.le_of_ble_eq_true rfl, Nat.le_of_ble_eq_true rfl⟩ ⟨Nat.le_of_ble_eq_true rfl, Nat.le_of_ble_eq_true rfl⟩) hH (fun μ1 H locs hp hH => ?_)
                      obtain ⟨fz0, fe⟩ := hp
                      have f_r := (hp_e1 fe (hp_ne f_r f_f (by simp))).trans f_r
                      have f_b := (hp_e1 fe (hp_ne f_b f_f (by simp))).trans f_b
                      have f_f : μ1 f = some (hp_o 2 [.ref (X.2.2.2 4), .int (nI (lvOf (valN rb size 0 8))), .int (nI (valN rb size 9 8)), .long (lN (tdN rb size (5) (0))), .int (nI (8 * (5) + 0))]) := fz0
                      have fr := hp_eq.tr1 fe fr (by simp)
                      clear fe fz0
                      refine lv_goto (tgt := 213) hx hb dX4_read_199 (by decide) ?_
                      have hk : rdK rb size = 4 := by unfold rdK; rw [if_neg c_52, if_neg (fun q => q.elim (fun q => absurd q c_69) (fun q => absurd (c_77.symm.trans q) (by decide))), if_neg (by omega), if_neg (by omega), if_pos ⟨by omega, by omega, by omega⟩]
                      exact hp_rv hx hb hr hlocks hS hH (⟨rfl, ⟨tdN rb size (5) (0), 8 * (5) + 0, by rw [hk]; exact f_f, fun q => absurd (hk.symm.trans q) (by decide), fun _ => ⟨rfl, rfl⟩, fr⟩⟩) dX4_read_213
              · have c_150 : ¬ (crcN rb size (size / 9) = 0) := nz_n (by omega) c_150
                refine lv_aload_n hx hb dX4_read_153 rfl (lv_at hl 3 rfl) ?_
                refine hp_gets hx hb hS.k0 hH hown G_X4_9 hS dX4_read_154 ?_
                refine hp_put hx hb hown hS.2.1 hH (P_X4_15.use hS) f_f rfl rfl (Nat.le_of_ble_eq_true rfl) dX4_read_157 (fun H locs μ1 fz fn hH => ?_)
                have f_r := (fn _ (hp_ne f_r f_f (by simp))).trans f_r
                have f_b := (fn _ (hp_ne f_b f_f (by simp))).trans f_b
                have f_f : μ1 f = some (hp_o 2 [.ref (X.2.2.2 0), .int (nI (lvOf (valN rb size 0 8))), .int (nI (valN rb size 9 8)), .long (lN td0), .int (nI tc0)]) := fz
                have fr := hp_eq.put fr (by simp) fn
                clear fz fn
                refine lv_goto (tgt := 213) hx hb dX4_read_160 (by decide) ?_
                have hk : rdK rb size = 0 := by unfold rdK; first | rw [if_neg c_52, if_pos (Or.inl c_69)] | rw [if_neg c_52, if_pos (Or.inr c_77)] | rw [if_neg c_52, if_neg (fun q => q.elim (fun q => absurd q c_69) (fun q => absurd (c_77.symm.trans q) (by decide))), if_neg (by omega), if_pos (by omega)]
                exact hp_rv hx hb hr hlocks hS hH (⟨rfl, ⟨td0, tc0, by rw [hk]; exact f_f, fun q => absurd (hk.symm.trans q) (by decide), fun q => absurd (hk.symm.trans q) (by decide), fr⟩⟩) dX4_read_213
          · have c_100 : ¬ (6 < (size / 9)) := fun z => c_100 ((nI_ltI (by omega) (by omega)).mpr z)
            refine lv_iload_n hx hb dX4_read_103 rfl (lv_at hl 1 rfl) ?_
            refine lv_bipush (v := nI 7) hx hb dX4_read_104 (by decide) ?_
            refine lv_icmp_gt (tgt := 141) hx hb dX4_read_106 (by decide) (fun c_106 => ?_) (fun c_106 => ?_)
            · have c_106 : 7 < (size % 9) := (nI_ltI (by omega) (by omega)).mp c_106
              refine lv_iload_n hx hb dX4_read_141 rfl (lv_at hl 1 rfl) ?_
              refine lv_if_gt (tgt := 153) hx hb dX4_read_142 (by decide) (fun c_142 => ?_) (fun c_142 => ?_)
              · have c_142 : 0 < (size % 9) := nz_gt (by omega) c_142
                refine lv_aload_n hx hb dX4_read_153 rfl (lv_at hl 3 rfl) ?_
                refine hp_gets hx hb hS.k0 hH hown G_X4_9 hS dX4_read_154 ?_
                refine hp_put hx hb hown hS.2.1 hH (P_X4_15.use hS) f_f rfl rfl (Nat.le_of_ble_eq_true rfl) dX4_read_157 (fun H locs μ1 fz fn hH => ?_)
                have f_r := (fn _ (hp_ne f_r f_f (by simp))).trans f_r
                have f_b := (fn _ (hp_ne f_b f_f (by simp))).trans f_b
                have f_f : μ1 f = some (hp_o 2 [.ref (X.2.2.2 0), .int (nI (lvOf (valN rb size 0 8))), .int (nI (valN rb size 9 8)), .long (lN td0), .int (nI tc0)]) := fz
                have fr := hp_eq.put fr (by simp) fn
                clear fz fn
                refine lv_goto (tgt := 213) hx hb dX4_read_160 (by decide) ?_
                have hk : rdK rb size = 0 := by unfold rdK; first | rw [if_neg c_52, if_pos (Or.inl c_69)] | rw [if_neg c_52, if_pos (Or.inr c_77)] | rw [if_neg c_52, if_neg (fun q => q.elim (fun q => absurd q c_69) (fun q => absurd (c_77.symm.trans q) (by decide))), if_neg (by omega), if_pos (by omega)]
                exact hp_rv hx hb hr hlocks hS hH (⟨rfl, ⟨td0, tc0, by rw [hk]; exact f_f, fun q => absurd (hk.symm.trans q) (by decide), fun q => absurd (hk.symm.trans q) (by decide), fr⟩⟩) dX4_read_213
              · have c_142 : (size % 9) = 0 := nz_ngt (by omega) c_142
                refine lv_aload_n hx hb dX4_read_145 rfl (lv_at hl 4 rfl) ?_
                refine lv_iload_n hx hb dX4_read_146 rfl (lv_at hl 2 rfl) ?_
                refine hp_kip (hp_runV (As := [.int (nI (size / 9))]) (rest := []) hx hb hml hown hS hH (c_X8_checkOf l X (n := size / 9) h01 hr1 (by omega) hs1 f_r f_b) M_X4_55 I_X8_checkOf V_X8_checkOf (ci := 4) rfl rfl f_r rfl hl.1 rfl (Nat.le_of_ble_eq_true rfl) dX4_read_147 ⟨Nat.le_of_ble_eq_true rfl, Nat.le_of_ble_eq_true rfl⟩ ⟨Nat.le_of_ble_eq_true rfl, Nat.le_of_ble_eq_true rfl⟩) hH (fun H locs hH => ?_)
                have hcr := crcN_lt rb size (size / 9)
                refine lv_if_eq (tgt := 163) hx hb dX4_read_150 (by decide) (fun c_150 => ?_) (fun c_150 => ?_)
                · have c_150 : (crcN rb size (size / 9)) = 0 := nz_0 (by omega) c_150
                  refine lv_aload_n hx hb dX4_read_163 rfl (lv_at hl 3 rfl) ?_
                  refine hp_get hx hb hown hS.2.1 hH (F_X4_37.use hS) f_f rfl dX4_read_164 ?_
                  refine lv_if_le (tgt := 202) hx hb dX4_read_167 (by decide) (fun c_167 => ?_) (fun c_167 => ?_)
                  · have c_167 : (lvOf (valN rb size 0 8)) = 0 := nz_le (by omega) c_167
                    refine lv_aload_n hx hb dX4_read_202 rfl (lv_at hl 3 rfl) ?_
                    refine lv_aload_n hx hb dX4_read_203 rfl (lv_at hl 3 rfl) ?_
                    refine lv_iload hx hb dX4_read_204 (lv_at hl 0 rfl) ?_
                    refine lv_iload_n hx hb dX4_read_206 rfl (lv_at hl 2 rfl) ?_
                    refine hp_krp (hp_runV (As := [.int (nI (valN rb size 0 8)), .int (nI (size / 9))]) (rest := [.ref f]) hx hb hml hown hS hH (c_X4_kindOfCommand l X (fi := valN rb size 0 8) (oc := size / 9) (by omega) (by omega) (by omega) f_f) M_X4_61 I_X4_kindOfCommand V_X4_kindOfCommand (ci := 2) rfl rfl f_f rfl hl.1 rfl (Nat.le_of_ble_eq_true rfl) dX4_read_207 ⟨Nat.le_of_ble_eq_true rfl, Nat.le_of_ble_eq_true rfl⟩ ⟨Nat.le_of_ble_eq_true rfl, Nat.le_of_ble_eq_true rfl⟩) hH (fun H locs hH => ?_)
                    refine hp_put hx hb hown hS.2.1 hH (P_X4_15.use hS) f_f rfl rfl (Nat.le_of_ble_eq_true rfl) dX4_read_210 (fun H locs μ1 fz fn hH => ?_)
                    have f_r := (fn _ (hp_ne f_r f_f (by simp))).trans f_r
                    have f_b := (fn _ (hp_ne f_b f_f (by simp))).trans f_b
                    have f_f : μ1 f = some (hp_o 2 [.ref (X.2.2.2 (kdC (valN rb size 0 8) (size / 9) (valN rb size 9 8))), .int (nI (lvOf (valN rb size 0 8))), .int (nI (valN rb size 9 8)), .long (lN td0), .int (nI tc0)]) := fz
                    have fr := hp_eq.put fr (by simp) fn
                    clear fz fn
                    have hk : rdK rb size = (kdC (valN rb size 0 8) (size / 9) (valN rb size 9 8)) := by unfold rdK; rw [if_neg c_52, if_neg (fun q => q.elim (fun q => absurd q c_69) (fun q => absurd (c_77.symm.trans q) (by decide))), if_neg (by omega), if_neg (by omega), if_neg (by omega)]
                    exact hp_rv hx hb hr hlocks hS hH (⟨rfl, ⟨td0, tc0, by rw [hk]; exact f_f, fun q => absurd (hk.symm.trans q) (by first | (unfold kdS; split <;> (try split) <;> omega) | (unfold kdC; split <;> (try split) <;> (try split) <;> omega)), fun q => absurd (hk.symm.trans q) (by first | (unfold kdS; split <;> (try split) <;> omega) | (unfold kdC; split <;> (try split) <;> (try split) <;> omega)), fr⟩⟩) dX4_read_213
                  · have c_167 : 0 < (lvOf (valN rb size 0 8)) := nz_nle (by omega) c_167
                    refine lv_iload_n hx hb dX4_read_170 rfl (lv_at hl 2 rfl) ?_
                    refine lv_bipush (v := nI 9) hx hb dX4_read_171 (by decide) ?_
                    refine lv_icmp_ne (tgt := 202) hx hb dX4_read_173 (by decide) (fun c_173 => ?_) (fun c_173 => ?_)
                    · have c_173 : ¬ ((size / 9) = 9) := fun z => c_173 ((nI_eq (by omega) (by omega)).mpr z)
                      refine lv_aload_n hx hb dX4_read_202 rfl (lv_at hl 3 rfl) ?_
                      refine lv_aload_n hx hb dX4_read_203 rfl (lv_at hl 3 rfl) ?_
                      refine lv_iload hx hb dX4_read_204 (lv_at hl 0 rfl) ?_
                      refine lv_iload_n hx hb dX4_read_206 rfl (lv_at hl 2 rfl) ?_
                      refine hp_krp (hp_runV (As := [.int (nI (valN rb size 0 8)), .int (nI (size / 9))]) (rest := [.ref f]) hx hb hml hown hS hH (c_X4_kindOfCommand l X (fi := valN rb size 0 8) (oc := size / 9) (by omega) (by omega) (by omega) f_f) M_X4_61 I_X4_kindOfCommand V_X4_kindOfCommand (ci := 2) rfl rfl f_f rfl hl.1 rfl (Nat.le_of_ble_eq_true rfl) dX4_read_207 ⟨Nat.le_of_ble_eq_true rfl, Nat.le_of_ble_eq_true rfl⟩ ⟨Nat.le_of_ble_eq_true rfl, Nat.le_of_ble_eq_true rfl⟩) hH (fun H locs hH => ?_)
                      refine hp_put hx hb hown hS.2.1 hH (P_X4_15.use hS) f_f rfl rfl (Nat.le_of_ble_eq_true rfl) dX4_read_210 (fun H locs μ1 fz fn hH => ?_)
                      have f_r := (fn _ (hp_ne f_r f_f (by simp))).trans f_r
                      have f_b := (fn _ (hp_ne f_b f_f (by simp))).trans f_b
                      have f_f : μ1 f = some (hp_o 2 [.ref (X.2.2.2 (kdC (valN rb size 0 8) (size / 9) (valN rb size 9 8))), .int (nI (lvOf (valN rb size 0 8))), .int (nI (valN rb size 9 8)), .long (lN td0), .int (nI tc0)]) := fz
                      have fr := hp_eq.put fr (by simp) fn
                      clear fz fn
                      have hk : rdK rb size = (kdC (valN rb size 0 8) (size / 9) (valN rb size 9 8)) := by unfold rdK; rw [if_neg c_52, if_neg (fun q => q.elim (fun q => absurd q c_69) (fun q => absurd (c_77.symm.trans q) (by decide))), if_neg (by omega), if_neg (by omega), if_neg (by omega)]
                      exact hp_rv hx hb hr hlocks hS hH (⟨rfl, ⟨td0, tc0, by rw [hk]; exact f_f, fun q => absurd (hk.symm.trans q) (by first | (unfold kdS; split <;> (try split) <;> omega) | (unfold kdC; split <;> (try split) <;> (try split) <;> omega)), fun q => absurd (hk.symm.trans q) (by first | (unfold kdS; split <;> (try split) <;> omega) | (unfold kdC; split <;> (try split) <;> (try split) <;> omega)), fr⟩⟩) dX4_read_213
                    · have c_173 : (size / 9) = 9 := (nI_eq (by omega) (by omega)).mp c_173
                      refine lv_aload_n hx hb dX4_read_176 rfl (lv_at hl 3 rfl) ?_
                      refine hp_get hx hb hown hS.2.1 hH (F_X4_30.use hS) f_f rfl dX4_read_177 ?_
                      refine lv_bipush (v := nI 112) hx hb dX4_read_180 (by decide) ?_
                      refine lv_icmp_ne (tgt := 202) hx hb dX4_read_182 (by decide) (fun c_182 => ?_) (fun c_182 => ?_)
                      · have c_182 : ¬ ((valN rb size 9 8) = 112) := fun z => c_182 ((nI_eq (by omega) (by omega)).mpr z)
                        refine lv_aload_n hx hb dX4_read_202 rfl (lv_at hl 3 rfl) ?_
                        refine lv_aload_n hx hb dX4_read_203 rfl (lv_at hl 3 rfl) ?_
                        refine lv_iload hx hb dX4_read_204 (lv_at hl 0 rfl) ?_
                        refine lv_iload_n hx hb dX4_read_206 rfl (lv_at hl 2 rfl) ?_
                        refine hp_krp (hp_runV (As := [.int (nI (valN rb size 0 8)), .int (nI (size / 9))]) (rest := [.ref f]) hx hb hml hown hS hH (c_X4_kindOfCommand l X (fi := valN rb size 0 8) (oc := size / 9) (by omega) (by omega) (by omega) f_f) M_X4_61 I_X4_kindOfCommand V_X4_kindOfCommand (ci := 2) rfl rfl f_f rfl hl.1 rfl (Nat.le_of_ble_eq_true rfl) dX4_read_207 ⟨Nat.le_of_ble_eq_true rfl, Nat.le_of_ble_eq_true rfl⟩ ⟨Nat.le_of_ble_eq_true rfl, Nat.le_of_ble_eq_true rfl⟩) hH (fun H locs hH => ?_)
                        refine hp_put hx hb hown hS.2.1 hH (P_X4_15.use hS) f_f rfl rfl (Nat.le_of_ble_eq_true rfl) dX4_read_210 (fun H locs μ1 fz fn hH => ?_)
                        have f_r := (fn _ (hp_ne f_r f_f (by simp))).trans f_r
                        have f_b := (fn _ (hp_ne f_b f_f (by simp))).trans f_b
                        have f_f : μ1 f = some (hp_o 2 [.ref (X.2.2.2 (kdC (valN rb size 0 8) (size / 9) (valN rb size 9 8))), .int (nI (lvOf (valN rb size 0 8))), .int (nI (valN rb size 9 8)), .long (lN td0), .int (nI tc0)]) := fz
                        have fr := hp_eq.put fr (by simp) fn
                        clear fz fn
                        have hk : rdK rb size = (kdC (valN rb size 0 8) (size / 9) (valN rb size 9 8)) := by unfold rdK; rw [if_neg c_52, if_neg (fun q => q.elim (fun q => absurd q c_69) (fun q => absurd (c_77.symm.trans q) (by decide))), if_neg (by omega), if_neg (by omega), if_neg (by omega)]
                        exact hp_rv hx hb hr hlocks hS hH (⟨rfl, ⟨td0, tc0, by rw [hk]; exact f_f, fun q => absurd (hk.symm.trans q) (by first | (unfold kdS; split <;> (try split) <;> omega) | (unfold kdC; split <;> (try split) <;> (try split) <;> omega)), fun q => absurd (hk.symm.trans q) (by first | (unfold kdS; split <;> (try split) <;> omega) | (unfold kdC; split <;> (try split) <;> (try split) <;> omega)), fr⟩⟩) dX4_read_213
                      · have c_182 : (valN rb size 9 8) = 112 := (nI_eq (by omega) (by omega)).mp c_182
                        refine lv_aload_n hx hb dX4_read_185 rfl (lv_at hl 3 rfl) ?_
                        refine hp_gets hx hb hS.k4 hH hown G_X4_58 hS dX4_read_186 ?_
                        refine hp_put hx hb hown hS.2.1 hH (P_X4_15.use hS) f_f rfl rfl (Nat.le_of_ble_eq_true rfl) dX4_read_189 (fun H locs μ1 fz fn hH => ?_)
                        have f_r := (fn _ (hp_ne f_r f_f (by simp))).trans f_r
                        have f_b := (fn _ (hp_ne f_b f_f (by simp))).trans f_b
                        have f_f : μ1 f = some (hp_o 2 [.ref (X.2.2.2 4), .int (nI (lvOf (valN rb size 0 8))), .int (nI (valN rb size 9 8)), .long (lN td0), .int (nI tc0)]) := fz
                        have fr := hp_eq.put fr (by simp) fn
                        clear fz fn
                        refine lv_aload_n hx hb dX4_read_192 rfl (lv_at hl 3 rfl) ?_
                        refine lv_aload_n hx hb dX4_read_193 rfl (lv_at hl 4 rfl) ?_
                        refine lv_iconst (v := nI 5) hx hb dX4_read_194 (by decide) ?_
                        refine lv_iconst (v := nI 0) hx hb dX4_read_195 (by decide) ?_
                        refine hp_kvm (hp_runV (As := [.ref r, .int (nI 5), .int (nI 0)]) (rest := []) hx hb hml hown hS hH (c_X4_readTold l X (by1 := 5) (ov := 0) h01 hr1 hs1 (by omega) (by omega) f_f f_r f_b) M_X4_51 I_X4_readTold V_X4_readTold (ci := 2) rfl rfl f_f rfl hl.1 rfl (Nat.le_of_ble_eq_true rfl) dX4_read_196 ⟨Nat.le_of_ble_eq_true rfl, Nat.le_of_ble_eq_true rfl⟩ ⟨Nat.le_of_ble_eq_true rfl, Nat.le_of_ble_eq_true rfl⟩) hH (fun μ1 H locs hp hH => ?_)
                        obtain ⟨fz0, fe⟩ := hp
                        have f_r := (hp_e1 fe (hp_ne f_r f_f (by simp))).trans f_r
                        have f_b := (hp_e1 fe (hp_ne f_b f_f (by simp))).trans f_b
                        have f_f : μ1 f = some (hp_o 2 [.ref (X.2.2.2 4), .int (nI (lvOf (valN rb size 0 8))), .int (nI (valN rb size 9 8)), .long (lN (tdN rb size (5) (0))), .int (nI (8 * (5) + 0))]) := fz0
                        have fr := hp_eq.tr1 fe fr (by simp)
                        clear fe fz0
                        refine lv_goto (tgt := 213) hx hb dX4_read_199 (by decide) ?_
                        have hk : rdK rb size = 4 := by unfold rdK; rw [if_neg c_52, if_neg (fun q => q.elim (fun q => absurd q c_69) (fun q => absurd (c_77.symm.trans q) (by decide))), if_neg (by omega), if_neg (by omega), if_pos ⟨by omega, by omega, by omega⟩]
                        exact hp_rv hx hb hr hlocks hS hH (⟨rfl, ⟨tdN rb size (5) (0), 8 * (5) + 0, by rw [hk]; exact f_f, fun q => absurd (hk.symm.trans q) (by decide), fun _ => ⟨rfl, rfl⟩, fr⟩⟩) dX4_read_213
                · have c_150 : ¬ (crcN rb size (size / 9) = 0) := nz_n (by omega) c_150
                  refine lv_aload_n hx hb dX4_read_153 rfl (lv_at hl 3 rfl) ?_
                  refine hp_gets hx hb hS.k0 hH hown G_X4_9 hS dX4_read_154 ?_
                  refine hp_put hx hb hown hS.2.1 hH (P_X4_15.use hS) f_f rfl rfl (Nat.le_of_ble_eq_true rfl) dX4_read_157 (fun H locs μ1 fz fn hH => ?_)
                  have f_r := (fn _ (hp_ne f_r f_f (by simp))).trans f_r
                  have f_b := (fn _ (hp_ne f_b f_f (by simp))).trans f_b
                  have f_f : μ1 f = some (hp_o 2 [.ref (X.2.2.2 0), .int (nI (lvOf (valN rb size 0 8))), .int (nI (valN rb size 9 8)), .long (lN td0), .int (nI tc0)]) := fz
                  have fr := hp_eq.put fr (by simp) fn
                  clear fz fn
                  refine lv_goto (tgt := 213) hx hb dX4_read_160 (by decide) ?_
                  have hk : rdK rb size = 0 := by unfold rdK; first | rw [if_neg c_52, if_pos (Or.inl c_69)] | rw [if_neg c_52, if_pos (Or.inr c_77)] | rw [if_neg c_52, if_neg (fun q => q.elim (fun q => absurd q c_69) (fun q => absurd (c_77.symm.trans q) (by decide))), if_neg (by omega), if_pos (by omega)]
                  exact hp_rv hx hb hr hlocks hS hH (⟨rfl, ⟨td0, tc0, by rw [hk]; exact f_f, fun q => absurd (hk.symm.trans q) (by decide), fun q => absurd (hk.symm.trans q) (by decide), fr⟩⟩) dX4_read_213
            · have c_106 : ¬ (7 < (size % 9)) := fun z => c_106 ((nI_ltI (by omega) (by omega)).mpr z)
              refine lv_aload_n hx hb dX4_read_109 rfl (lv_at hl 3 rfl) ?_
              refine hp_get hx hb hown hS.2.1 hH (F_X4_30.use hS) f_f rfl dX4_read_110 ?_
              refine lv_bipush (v := nI 16) hx hb dX4_read_113 (by decide) ?_
              refine lv_iload_n hx hb dX4_read_115 rfl (lv_at hl 2 rfl) ?_
              refine lv_imul hx hb dX4_read_116 ?_
              refine hp_eqi (z := nI (16 * (size / 9))) (pk_mul _ _) ?_
              refine lv_iload_n hx hb dX4_read_117 rfl (lv_at hl 1 rfl) ?_
              refine lv_iadd hx hb dX4_read_118 ?_
              refine hp_eqi (z := nI ((16 * (size / 9)) + (size % 9))) (nI_add _ _) ?_
              refine lv_icmp_ne (tgt := 141) hx hb dX4_read_119 (by decide) (fun c_119 => ?_) (fun c_119 => ?_)
              · have c_119 : ¬ ((valN rb size 9 8) = ((16 * (size / 9)) + (size % 9))) := fun z => c_119 ((nI_eq (by omega) (by omega)).mpr z)
                refine lv_iload_n hx hb dX4_read_141 rfl (lv_at hl 1 rfl) ?_
                refine lv_if_gt (tgt := 153) hx hb dX4_read_142 (by decide) (fun c_142 => ?_) (fun c_142 => ?_)
                · have c_142 : 0 < (size % 9) := nz_gt (by omega) c_142
                  refine lv_aload_n hx hb dX4_read_153 rfl (lv_at hl 3 rfl) ?_
                  refine hp_gets hx hb hS.k0 hH hown G_X4_9 hS dX4_read_154 ?_
                  refine hp_put hx hb hown hS.2.1 hH (P_X4_15.use hS) f_f rfl rfl (Nat.le_of_ble_eq_true rfl) dX4_read_157 (fun H locs μ1 fz fn hH => ?_)
                  have f_r := (fn _ (hp_ne f_r f_f (by simp))).trans f_r
                  have f_b := (fn _ (hp_ne f_b f_f (by simp))).trans f_b
                  have f_f : μ1 f = some (hp_o 2 [.ref (X.2.2.2 0), .int (nI (lvOf (valN rb size 0 8))), .int (nI (valN rb size 9 8)), .long (lN td0), .int (nI tc0)]) := fz
                  have fr := hp_eq.put fr (by simp) fn
                  clear fz fn
                  refine lv_goto (tgt := 213) hx hb dX4_read_160 (by decide) ?_
                  have hk : rdK rb size = 0 := by unfold rdK; first | rw [if_neg c_52, if_pos (Or.inl c_69)] | rw [if_neg c_52, if_pos (Or.inr c_77)] | rw [if_neg c_52, if_neg (fun q => q.elim (fun q => absurd q c_69) (fun q => absurd (c_77.symm.trans q) (by decide))), if_neg (by omega), if_pos (by omega)]
                  exact hp_rv hx hb hr hlocks hS hH (⟨rfl, ⟨td0, tc0, by rw [hk]; exact f_f, fun q => absurd (hk.symm.trans q) (by decide), fun q => absurd (hk.symm.trans q) (by decide), fr⟩⟩) dX4_read_213
                · have c_142 : (size % 9) = 0 := nz_ngt (by omega) c_142
                  refine lv_aload_n hx hb dX4_read_145 rfl (lv_at hl 4 rfl) ?_
                  refine lv_iload_n hx hb dX4_read_146 rfl (lv_at hl 2 rfl) ?_
                  refine hp_kip (hp_runV (As := [.int (nI (size / 9))]) (rest := []) hx hb hml hown hS hH (c_X8_checkOf l X (n := size / 9) h01 hr1 (by omega) hs1 f_r f_b) M_X4_55 I_X8_checkOf V_X8_checkOf (ci := 4) rfl rfl f_r rfl hl.1 rfl (Nat.le_of_ble_eq_true rfl) dX4_read_147 ⟨Nat.le_of_ble_eq_true rfl, Nat.le_of_ble_eq_true rfl⟩ ⟨Nat.le_of_ble_eq_true rfl, Nat.le_of_ble_eq_true rfl⟩) hH (fun H locs hH => ?_)
                  have hcr := crcN_lt rb size (size / 9)
                  refine lv_if_eq (tgt := 163) hx hb dX4_read_150 (by decide) (fun c_150 => ?_) (fun c_150 => ?_)
                  · have c_150 : (crcN rb size (size / 9)) = 0 := nz_0 (by omega) c_150
                    refine lv_aload_n hx hb dX4_read_163 rfl (lv_at hl 3 rfl) ?_
                    refine hp_get hx hb hown hS.2.1 hH (F_X4_37.use hS) f_f rfl dX4_read_164 ?_
                    refine lv_if_le (tgt := 202) hx hb dX4_read_167 (by decide) (fun c_167 => ?_) (fun c_167 => ?_)
                    · have c_167 : (lvOf (valN rb size 0 8)) = 0 := nz_le (by omega) c_167
                      refine lv_aload_n hx hb dX4_read_202 rfl (lv_at hl 3 rfl) ?_
                      refine lv_aload_n hx hb dX4_read_203 rfl (lv_at hl 3 rfl) ?_
                      refine lv_iload hx hb dX4_read_204 (lv_at hl 0 rfl) ?_
                      refine lv_iload_n hx hb dX4_read_206 rfl (lv_at hl 2 rfl) ?_
                      refine hp_krp (hp_runV (As := [.int (nI (valN rb size 0 8)), .int (nI (size / 9))]) (rest := [.ref f]) hx hb hml hown hS hH (c_X4_kindOfCommand l X (fi := valN rb size 0 8) (oc := size / 9) (by omega) (by omega) (by omega) f_f) M_X4_61 I_X4_kindOfCommand V_X4_kindOfCommand (ci := 2) rfl rfl f_f rfl hl.1 rfl (Nat.le_of_ble_eq_true rfl) dX4_read_207 ⟨Nat.le_of_ble_eq_true rfl, Nat.le_of_ble_eq_true rfl⟩ ⟨Nat.le_of_ble_eq_true rfl, Nat.le_of_ble_eq_true rfl⟩) hH (fun H locs hH => ?_)
                      refine hp_put hx hb hown hS.2.1 hH (P_X4_15.use hS) f_f rfl rfl (Nat.le_of_ble_eq_true rfl) dX4_read_210 (fun H locs μ1 fz fn hH => ?_)
                      have f_r := (fn _ (hp_ne f_r f_f (by simp))).trans f_r
                      have f_b := (fn _ (hp_ne f_b f_f (by simp))).trans f_b
                      have f_f : μ1 f = some (hp_o 2 [.ref (X.2.2.2 (kdC (valN rb size 0 8) (size / 9) (valN rb size 9 8))), .int (nI (lvOf (valN rb size 0 8))), .int (nI (valN rb size 9 8)), .long (lN td0), .int (nI tc0)]) := fz
                      have fr := hp_eq.put fr (by simp) fn
                      clear fz fn
                      have hk : rdK rb size = (kdC (valN rb size 0 8) (size / 9) (valN rb size 9 8)) := by unfold rdK; rw [if_neg c_52, if_neg (fun q => q.elim (fun q => absurd q c_69) (fun q => absurd (c_77.symm.trans q) (by decide))), if_neg (by omega), if_neg (by omega), if_neg (by omega)]
                      exact hp_rv hx hb hr hlocks hS hH (⟨rfl, ⟨td0, tc0, by rw [hk]; exact f_f, fun q => absurd (hk.symm.trans q) (by first | (unfold kdS; split <;> (try split) <;> omega) | (unfold kdC; split <;> (try split) <;> (try split) <;> omega)), fun q => absurd (hk.symm.trans q) (by first | (unfold kdS; split <;> (try split) <;> omega) | (unfold kdC; split <;> (try split) <;> (try split) <;> omega)), fr⟩⟩) dX4_read_213
                    · have c_167 : 0 < (lvOf (valN rb size 0 8)) := nz_nle (by omega) c_167
                      refine lv_iload_n hx hb dX4_read_170 rfl (lv_at hl 2 rfl) ?_
                      refine lv_bipush (v := nI 9) hx hb dX4_read_171 (by decide) ?_
                      refine lv_icmp_ne (tgt := 202) hx hb dX4_read_173 (by decide) (fun c_173 => ?_) (fun c_173 => ?_)
                      · have c_173 : ¬ ((size / 9) = 9) := fun z => c_173 ((nI_eq (by omega) (by omega)).mpr z)
                        refine lv_aload_n hx hb dX4_read_202 rfl (lv_at hl 3 rfl) ?_
                        refine lv_aload_n hx hb dX4_read_203 rfl (lv_at hl 3 rfl) ?_
                        refine lv_iload hx hb dX4_read_204 (lv_at hl 0 rfl) ?_
                        refine lv_iload_n hx hb dX4_read_206 rfl (lv_at hl 2 rfl) ?_
                        refine hp_krp (hp_runV (As := [.int (nI (valN rb size 0 8)), .int (nI (size / 9))]) (rest := [.ref f]) hx hb hml hown hS hH (c_X4_kindOfCommand l X (fi := valN rb size 0 8) (oc := size / 9) (by omega) (by omega) (by omega) f_f) M_X4_61 I_X4_kindOfCommand V_X4_kindOfCommand (ci := 2) rfl rfl f_f rfl hl.1 rfl (Nat.le_of_ble_eq_true rfl) dX4_read_207 ⟨Nat.le_of_ble_eq_true rfl, Nat.le_of_ble_eq_true rfl⟩ ⟨Nat.le_of_ble_eq_true rfl, Nat.le_of_ble_eq_true rfl⟩) hH (fun H locs hH => ?_)
                        refine hp_put hx hb hown hS.2.1 hH (P_X4_15.use hS) f_f rfl rfl (Nat.le_of_ble_eq_true rfl) dX4_read_210 (fun H locs μ1 fz fn hH => ?_)
                        have f_r := (fn _ (hp_ne f_r f_f (by simp))).trans f_r
                        have f_b := (fn _ (hp_ne f_b f_f (by simp))).trans f_b
                        have f_f : μ1 f = some (hp_o 2 [.ref (X.2.2.2 (kdC (valN rb size 0 8) (size / 9) (valN rb size 9 8))), .int (nI (lvOf (valN rb size 0 8))), .int (nI (valN rb size 9 8)), .long (lN td0), .int (nI tc0)]) := fz
                        have fr := hp_eq.put fr (by simp) fn
                        clear fz fn
                        have hk : rdK rb size = (kdC (valN rb size 0 8) (size / 9) (valN rb size 9 8)) := by unfold rdK; rw [if_neg c_52, if_neg (fun q => q.elim (fun q => absurd q c_69) (fun q => absurd (c_77.symm.trans q) (by decide))), if_neg (by omega), if_neg (by omega), if_neg (by omega)]
                        exact hp_rv hx hb hr hlocks hS hH (⟨rfl, ⟨td0, tc0, by rw [hk]; exact f_f, fun q => absurd (hk.symm.trans q) (by first | (unfold kdS; split <;> (try split) <;> omega) | (unfold kdC; split <;> (try split) <;> (try split) <;> omega)), fun q => absurd (hk.symm.trans q) (by first | (unfold kdS; split <;> (try split) <;> omega) | (unfold kdC; split <;> (try split) <;> (try split) <;> omega)), fr⟩⟩) dX4_read_213
                      · have c_173 : (size / 9) = 9 := (nI_eq (by omega) (by omega)).mp c_173
                        refine lv_aload_n hx hb dX4_read_176 rfl (lv_at hl 3 rfl) ?_
                        refine hp_get hx hb hown hS.2.1 hH (F_X4_30.use hS) f_f rfl dX4_read_177 ?_
                        refine lv_bipush (v := nI 112) hx hb dX4_read_180 (by decide) ?_
                        refine lv_icmp_ne (tgt := 202) hx hb dX4_read_182 (by decide) (fun c_182 => ?_) (fun c_182 => ?_)
                        · have c_182 : ¬ ((valN rb size 9 8) = 112) := fun z => c_182 ((nI_eq (by omega) (by omega)).mpr z)
                          refine lv_aload_n hx hb dX4_read_202 rfl (lv_at hl 3 rfl) ?_
                          refine lv_aload_n hx hb dX4_read_203 rfl (lv_at hl 3 rfl) ?_
                          refine lv_iload hx hb dX4_read_204 (lv_at hl 0 rfl) ?_
                          refine lv_iload_n hx hb dX4_read_206 rfl (lv_at hl 2 rfl) ?_
                          refine hp_krp (hp_runV (As := [.int (nI (valN rb size 0 8)), .int (nI (size / 9))]) (rest := [.ref f]) hx hb hml hown hS hH (c_X4_kindOfCommand l X (fi := valN rb size 0 8) (oc := size / 9) (by omega) (by omega) (by omega) f_f) M_X4_61 I_X4_kindOfCommand V_X4_kindOfCommand (ci := 2) rfl rfl f_f rfl hl.1 rfl (Nat.le_of_ble_eq_true rfl) dX4_read_207 ⟨Nat.le_of_ble_eq_true rfl, Nat.le_of_ble_eq_true rfl⟩ ⟨Nat.le_of_ble_eq_true rfl, Nat.le_of_ble_eq_true rfl⟩) hH (fun H locs hH => ?_)
                          refine hp_put hx hb hown hS.2.1 hH (P_X4_15.use hS) f_f rfl rfl (Nat.le_of_ble_eq_true rfl) dX4_read_210 (fun H locs μ1 fz fn hH => ?_)
                          have f_r := (fn _ (hp_ne f_r f_f (by simp))).trans f_r
                          have f_b := (fn _ (hp_ne f_b f_f (by simp))).trans f_b
                          have f_f : μ1 f = some (hp_o 2 [.ref (X.2.2.2 (kdC (valN rb size 0 8) (size / 9) (valN rb size 9 8))), .int (nI (lvOf (valN rb size 0 8))), .int (nI (valN rb size 9 8)), .long (lN td0), .int (nI tc0)]) := fz
                          have fr := hp_eq.put fr (by simp) fn
                          clear fz fn
                          have hk : rdK rb size = (kdC (valN rb size 0 8) (size / 9) (valN rb size 9 8)) := by unfold rdK; rw [if_neg c_52, if_neg (fun q => q.elim (fun q => absurd q c_69) (fun q => absurd (c_77.symm.trans q) (by decide))), if_neg (by omega), if_neg (by omega), if_neg (by omega)]
                          exact hp_rv hx hb hr hlocks hS hH (⟨rfl, ⟨td0, tc0, by rw [hk]; exact f_f, fun q => absurd (hk.symm.trans q) (by first | (unfold kdS; split <;> (try split) <;> omega) | (unfold kdC; split <;> (try split) <;> (try split) <;> omega)), fun q => absurd (hk.symm.trans q) (by first | (unfold kdS; split <;> (try split) <;> omega) | (unfold kdC; split <;> (try split) <;> (try split) <;> omega)), fr⟩⟩) dX4_read_213
                        · have c_182 : (valN rb size 9 8) = 112 := (nI_eq (by omega) (by omega)).mp c_182
                          refine lv_aload_n hx hb dX4_read_185 rfl (lv_at hl 3 rfl) ?_
                          refine hp_gets hx hb hS.k4 hH hown G_X4_58 hS dX4_read_186 ?_
                          refine hp_put hx hb hown hS.2.1 hH (P_X4_15.use hS) f_f rfl rfl (Nat.le_of_ble_eq_true rfl) dX4_read_189 (fun H locs μ1 fz fn hH => ?_)
                          have f_r := (fn _ (hp_ne f_r f_f (by simp))).trans f_r
                          have f_b := (fn _ (hp_ne f_b f_f (by simp))).trans f_b
                          have f_f : μ1 f = some (hp_o 2 [.ref (X.2.2.2 4), .int (nI (lvOf (valN rb size 0 8))), .int (nI (valN rb size 9 8)), .long (lN td0), .int (nI tc0)]) := fz
                          have fr := hp_eq.put fr (by simp) fn
                          clear fz fn
                          refine lv_aload_n hx hb dX4_read_192 rfl (lv_at hl 3 rfl) ?_
                          refine lv_aload_n hx hb dX4_read_193 rfl (lv_at hl 4 rfl) ?_
                          refine lv_iconst (v := nI 5) hx hb dX4_read_194 (by decide) ?_
                          refine lv_iconst (v := nI 0) hx hb dX4_read_195 (by decide) ?_
                          refine hp_kvm (hp_runV (As := [.ref r, .int (nI 5), .int (nI 0)]) (rest := []) hx hb hml hown hS hH (c_X4_readTold l X (by1 := 5) (ov := 0) h01 hr1 hs1 (by omega) (by omega) f_f f_r f_b) M_X4_51 I_X4_readTold V_X4_readTold (ci := 2) rfl rfl f_f rfl hl.1 rfl (Nat.le_of_ble_eq_true rfl) dX4_read_196 ⟨Nat.le_of_ble_eq_true rfl, Nat.le_of_ble_eq_true rfl⟩ ⟨Nat.le_of_ble_eq_true rfl, Nat.le_of_ble_eq_true rfl⟩) hH (fun μ1 H locs hp hH => ?_)
                          obtain ⟨fz0, fe⟩ := hp
                          have f_r := (hp_e1 fe (hp_ne f_r f_f (by simp))).trans f_r
                          have f_b := (hp_e1 fe (hp_ne f_b f_f (by simp))).trans f_b
                          have f_f : μ1 f = some (hp_o 2 [.ref (X.2.2.2 4), .int (nI (lvOf (valN rb size 0 8))), .int (nI (valN rb size 9 8)), .long (lN (tdN rb size (5) (0))), .int (nI (8 * (5) + 0))]) := fz0
                          have fr := hp_eq.tr1 fe fr (by simp)
                          clear fe fz0
                          refine lv_goto (tgt := 213) hx hb dX4_read_199 (by decide) ?_
                          have hk : rdK rb size = 4 := by unfold rdK; rw [if_neg c_52, if_neg (fun q => q.elim (fun q => absurd q c_69) (fun q => absurd (c_77.symm.trans q) (by decide))), if_neg (by omega), if_neg (by omega), if_pos ⟨by omega, by omega, by omega⟩]
                          exact hp_rv hx hb hr hlocks hS hH (⟨rfl, ⟨tdN rb size (5) (0), 8 * (5) + 0, by rw [hk]; exact f_f, fun q => absurd (hk.symm.trans q) (by decide), fun _ => ⟨rfl, rfl⟩, fr⟩⟩) dX4_read_213
                  · have c_150 : ¬ (crcN rb size (size / 9) = 0) := nz_n (by omega) c_150
                    refine lv_aload_n hx hb dX4_read_153 rfl (lv_at hl 3 rfl) ?_
                    refine hp_gets hx hb hS.k0 hH hown G_X4_9 hS dX4_read_154 ?_
                    refine hp_put hx hb hown hS.2.1 hH (P_X4_15.use hS) f_f rfl rfl (Nat.le_of_ble_eq_true rfl) dX4_read_157 (fun H locs μ1 fz fn hH => ?_)
                    have f_r := (fn _ (hp_ne f_r f_f (by simp))).trans f_r
                    have f_b := (fn _ (hp_ne f_b f_f (by simp))).trans f_b
                    have f_f : μ1 f = some (hp_o 2 [.ref (X.2.2.2 0), .int (nI (lvOf (valN rb size 0 8))), .int (nI (valN rb size 9 8)), .long (lN td0), .int (nI tc0)]) := fz
                    have fr := hp_eq.put fr (by simp) fn
                    clear fz fn
                    refine lv_goto (tgt := 213) hx hb dX4_read_160 (by decide) ?_
                    have hk : rdK rb size = 0 := by unfold rdK; first | rw [if_neg c_52, if_pos (Or.inl c_69)] | rw [if_neg c_52, if_pos (Or.inr c_77)] | rw [if_neg c_52, if_neg (fun q => q.elim (fun q => absurd q c_69) (fun q => absurd (c_77.symm.trans q) (by decide))), if_neg (by omega), if_pos (by omega)]
                    exact hp_rv hx hb hr hlocks hS hH (⟨rfl, ⟨td0, tc0, by rw [hk]; exact f_f, fun q => absurd (hk.symm.trans q) (by decide), fun q => absurd (hk.symm.trans q) (by decide), fr⟩⟩) dX4_read_213
              · have c_119 : (valN rb size 9 8) = ((16 * (size / 9)) + (size % 9)) := (nI_eq (by omega) (by omega)).mp c_119
                refine lv_aload_n hx hb dX4_read_122 rfl (lv_at hl 3 rfl) ?_
                refine hp_gets hx hb hS.k3 hH hown G_X4_48 hS dX4_read_123 ?_
                refine hp_put hx hb hown hS.2.1 hH (P_X4_15.use hS) f_f rfl rfl (Nat.le_of_ble_eq_true rfl) dX4_read_126 (fun H locs μ1 fz fn hH => ?_)
                have f_r := (fn _ (hp_ne f_r f_f (by simp))).trans f_r
                have f_b := (fn _ (hp_ne f_b f_f (by simp))).trans f_b
                have f_f : μ1 f = some (hp_o 2 [.ref (X.2.2.2 3), .int (nI (lvOf (valN rb size 0 8))), .int (nI (valN rb size 9 8)), .long (lN td0), .int (nI tc0)]) := fz
                have fr := hp_eq.put fr (by simp) fn
                clear fz fn
                refine lv_aload_n hx hb dX4_read_129 rfl (lv_at hl 3 rfl) ?_
                refine lv_aload_n hx hb dX4_read_130 rfl (lv_at hl 4 rfl) ?_
                refine lv_iload_n hx hb dX4_read_131 rfl (lv_at hl 2 rfl) ?_
                refine lv_iconst (v := nI 2) hx hb dX4_read_132 (by decide) ?_
                refine lv_isub hx hb dX4_read_133 ?_
                refine hp_eqi (z := nI ((size / 9) - 2)) (pk_sub (by omega)) ?_
                refine lv_iload_n hx hb dX4_read_134 rfl (lv_at hl 1 rfl) ?_
                refine hp_kvm (hp_runV (As := [.ref r, .int (nI ((size / 9) - 2)), .int (nI (size % 9))]) (rest := []) hx hb hml hown hS hH (c_X4_readTold l X (by1 := size / 9 - 2) (ov := size % 9) h01 hr1 hs1 (by omega) (by omega) f_f f_r f_b) M_X4_51 I_X4_readTold V_X4_readTold (ci := 2) rfl rfl f_f rfl hl.1 rfl (Nat.le_of_ble_eq_true rfl) dX4_read_135 ⟨Nat.le_of_ble_eq_true rfl, Nat.le_of_ble_eq_true rfl⟩ ⟨Nat.le_of_ble_eq_true rfl, Nat.le_of_ble_eq_true rfl⟩) hH (fun μ1 H locs hp hH => ?_)
                obtain ⟨fz0, fe⟩ := hp
                have f_r := (hp_e1 fe (hp_ne f_r f_f (by simp))).trans f_r
                have f_b := (hp_e1 fe (hp_ne f_b f_f (by simp))).trans f_b
                have f_f : μ1 f = some (hp_o 2 [.ref (X.2.2.2 3), .int (nI (lvOf (valN rb size 0 8))), .int (nI (valN rb size 9 8)), .long (lN (tdN rb size (size / 9 - 2) (size % 9))), .int (nI (8 * (size / 9 - 2) + (size % 9)))]) := fz0
                have fr := hp_eq.tr1 fe fr (by simp)
                clear fe fz0
                refine lv_goto (tgt := 213) hx hb dX4_read_138 (by decide) ?_
                have hk : rdK rb size = 3 := by unfold rdK; rw [if_neg c_52, if_neg (fun q => q.elim (fun q => absurd q c_69) (fun q => absurd (c_77.symm.trans q) (by decide))), if_pos ⟨by omega, by omega, by omega, by omega⟩]
                exact hp_rv hx hb hr hlocks hS hH (⟨rfl, ⟨tdN rb size (size / 9 - 2) (size % 9), 8 * (size / 9 - 2) + (size % 9), by rw [hk]; exact f_f, fun _ => ⟨rfl, rfl⟩, fun q => absurd (hk.symm.trans q) (by decide), fr⟩⟩) dX4_read_213
      · have c_77 : (begN rb size (size / 9)) = false := nB_0 c_77
        refine lv_aload_n hx hb dX4_read_80 rfl (lv_at hl 3 rfl) ?_
        refine hp_gets hx hb hS.k0 hH hown G_X4_9 hS dX4_read_81 ?_
        refine hp_put hx hb hown hS.2.1 hH (P_X4_15.use hS) f_f rfl rfl (Nat.le_of_ble_eq_true rfl) dX4_read_84 (fun H locs μ1 fz fn hH => ?_)
        have f_r := (fn _ (hp_ne f_r f_f (by simp))).trans f_r
        have f_b := (fn _ (hp_ne f_b f_f (by simp))).trans f_b
        have f_f : μ1 f = some (hp_o 2 [.ref (X.2.2.2 0), .int (nI (lvOf (valN rb size 0 8))), .int (nI (valN rb size 9 8)), .long (lN td0), .int (nI tc0)]) := fz
        have fr := hp_eq.put fr (by simp) fn
        clear fz fn
        refine lv_goto (tgt := 213) hx hb dX4_read_87 (by decide) ?_
        have hk : rdK rb size = 0 := by unfold rdK; first | rw [if_neg c_52, if_pos (Or.inl c_69)] | rw [if_neg c_52, if_pos (Or.inr c_77)] | rw [if_neg c_52, if_neg (fun q => q.elim (fun q => absurd q c_69) (fun q => absurd (c_77.symm.trans q) (by decide))), if_neg (by omega), if_pos (by omega)]
        exact hp_rv hx hb hr hlocks hS hH (⟨rfl, ⟨td0, tc0, by rw [hk]; exact f_f, fun q => absurd (hk.symm.trans q) (by decide), fun q => absurd (hk.symm.trans q) (by decide), fr⟩⟩) dX4_read_213
  · have c_52 : size = 7 := (nI_eq (by omega) (by omega)).mp c_52
    refine lv_aload_n hx hb dX4_read_55 rfl (lv_at hl 3 rfl) ?_
    refine lv_iload hx hb dX4_read_56 (lv_at hl 0 rfl) ?_
    refine hp_krp (hp_runS (As := [.int (nI (valN rb size 0 8))]) (rest := [.ref f]) hx hb hml hown hS hH (c_X4_kindOfShort l X (v := valN rb size 0 8) (by omega)) M_X4_40 S_X4_kindOfShort rfl hl.1 rfl (Nat.le_of_ble_eq_true rfl) dX4_read_58 ⟨Nat.le_of_ble_eq_true rfl, Nat.le_of_ble_eq_true rfl⟩ ⟨Nat.le_of_ble_eq_true rfl, Nat.le_of_ble_eq_true rfl⟩) hH (fun H locs hH => ?_)
    refine hp_put hx hb hown hS.2.1 hH (P_X4_15.use hS) f_f rfl rfl (Nat.le_of_ble_eq_true rfl) dX4_read_61 (fun H locs μ1 fz fn hH => ?_)
    have f_r := (fn _ (hp_ne f_r f_f (by simp))).trans f_r
    have f_b := (fn _ (hp_ne f_b f_f (by simp))).trans f_b
    have f_f : μ1 f = some (hp_o 2 [.ref (X.2.2.2 (kdS (valN rb size 0 8))), .int (nI (lvOf (valN rb size 0 8))), .int (nI (valN rb size 9 8)), .long (lN td0), .int (nI tc0)]) := fz
    have fr := hp_eq.put fr (by simp) fn
    clear fz fn
    refine lv_goto (tgt := 213) hx hb dX4_read_64 (by decide) ?_
    have hk : rdK rb size = (kdS (valN rb size 0 8)) := by unfold rdK; rw [if_pos c_52]
    exact hp_rv hx hb hr hlocks hS hH (⟨rfl, ⟨td0, tc0, by rw [hk]; exact f_f, fun q => absurd (hk.symm.trans q) (by first | (unfold kdS; split <;> (try split) <;> omega) | (unfold kdC; split <;> (try split) <;> (try split) <;> omega)), fun q => absurd (hk.symm.trans q) (by first | (unfold kdS; split <;> (try split) <;> omega) | (unfold kdC; split <;> (try split) <;> (try split) <;> omega)), fr⟩⟩) dX4_read_213
