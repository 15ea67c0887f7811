set_option maxHeartbeats 4000000 in
set_option maxRecDepth 100000 in
theorem c_X11_show (l : Launch) (X : hp_X) {μ : hp_M} {nx : Nat} {o n tz se kd kl tc sd hd an fm fo kc : Nat} {on : Bool} {t at0 a b c1 d1 : Nat} {sh2 : Nat → Nat} (ht : t < 17) (hat : at0 < 3) (ha : a < 256) (hb1 : b < 256) (hc1 : c1 < 256) (hd1 : d1 < 256) (f_o : μ o = some (hp_o 7 [.int (nI n), .ref (o + 1), .ref (o + 2), .ref (o + 3), .ref (o + 4), .ref (o + 5), .ref (o + 6), .int (nB on), .int (nI tz), .ref (o + 7), .int (nI se), .ref (o + 8), .ref (o + 9), .int (nI kd), .int (nI kl), .int (nI tc), .ref (o + 10), .int (nI sd), .ref (o + 11), .int (nI hd), .ref (o + 12), .int (nI an), .ref (o + 13), .int (nI fm), .int (nI fo), .ref (o + 14), .ref (o + 15), .int (nI kc), .ref (o + 16)])) (f_6 : μ (o + 6) = some (hp_n X 2040 sh2)) : Ct l X yX11_show cX11_show 10 (none : Option Jvm.ClassFile.FieldType) 0 0 0 0 [.ref o, .int (nI t), .int (nI at0), .int (nI a), .int (nI b), .int (nI c1), .int (nI d1)] μ nx (hq_v X (po_v nx (fun z => z (o + 6) = some (hp_n X 2040 (shW sh2 (120 * t + 40 * at0) (shV (shQ a b c1 d1)) 40)) ∧ hp_eqM [6] o z μ))) := by
  refine hp_met (by decide) (Nat.le_of_ble_eq_true rfl) ?_
  intro p e s m below meth c ls hx hb hml hr hlocks hown hin hS hH hl
  have hl : lv_has ls 10 [(0, .ref o), (1, .int (nI t)), (2, .int (nI at0)), (3, .int (nI a)), (4, .int (nI b)), (5, .int (nI c1)), (6, .int (nI d1))] := hl
  have fr : hp_eqM [6] o μ μ := fun _ _ => rfl
  refine lv_iload_n hx hb dX11_show_0 rfl (lv_at hl 3 rfl) ?_
  refine lv_iload hx hb dX11_show_1 (lv_at hl 4 rfl) ?_
  refine lv_ixor hx hb dX11_show_3 ?_
  refine lv_iload hx hb dX11_show_4 (lv_at hl 5 rfl) ?_
  refine lv_ixor hx hb dX11_show_6 ?_
  refine lv_iload hx hb dX11_show_7 (lv_at hl 6 rfl) ?_
  refine lv_ixor hx hb dX11_show_9 ?_
  refine hp_eqi (z := nI (a ^^^ b ^^^ c1 ^^^ d1)) (by rw [nx_xor, nx_xor, nx_xor]) ?_
  refine lv_istore (lv' := [(7, .int (nI (a ^^^ b ^^^ c1 ^^^ d1))), (0, .ref o), (1, .int (nI t)), (2, .int (nI at0)), (3, .int (nI a)), (4, .int (nI b)), (5, .int (nI c1)), (6, .int (nI d1))]) hx hb dX11_show_10 hl (by decide) rfl (fun ls hl => ?_)
  refine lv_iconst (v := nI 0) hx hb dX11_show_12 (by decide) ?_
  refine lv_istore (lv' := [(8, .int (nI 0)), (7, .int (nI (a ^^^ b ^^^ c1 ^^^ d1))), (0, .ref o), (1, .int (nI t)), (2, .int (nI at0)), (3, .int (nI a)), (4, .int (nI b)), (5, .int (nI c1)), (6, .int (nI d1))]) hx hb dX11_show_13 hl (by decide) rfl (fun ls hl => ?_)
  have hx5 : a ^^^ b ^^^ c1 ^^^ d1 < 256 := Nat.xor_lt_two_pow (n := 8) (Nat.xor_lt_two_pow (n := 8) (Nat.xor_lt_two_pow (n := 8) ha hb1) hc1) hd1
  have f_6 := f_6.trans (congrArg (fun g => some (hp_n X 2040 g)) (show sh2 = shW sh2 (120 * t + 40 * at0) (shV (shQ a b c1 d1)) 0 from shW_0 _ _ _))
  have lp_15 : ∀ (kk15 : Nat) (k : Nat), (k ≤ 40) → (40 - k) < kk15 → ∀ (μ1 : hp_M) (H : Heap) (locs : List Loc) (ls : Array Slot), (μ1 o = some (hp_o 7 [.int (nI n), .ref (o + 1), .ref (o + 2), .ref (o + 3), .ref (o + 4), .ref (o + 5), .ref (o + 6), .int (nB on), .int (nI tz), .ref (o + 7), .int (nI se), .ref (o + 8), .ref (o + 9), .int (nI kd), .int (nI kl), .int (nI tc), .ref (o + 10), .int (nI sd), .ref (o + 11), .int (nI hd), .ref (o + 12), .int (nI an), .ref (o + 13), .int (nI fm), .int (nI fo), .ref (o + 14), .ref (o + 15), .int (nI kc), .ref (o + 16)])) → (μ1 (o + 6) = some (hp_n X 2040 (shW sh2 (120 * t + 40 * at0) (shV (shQ a b c1 d1)) k))) → hp_eqM [6] o μ1 μ → hp_w X cls μ1 nx H locs → lv_has ls 10 [(0, .ref o), (1, .int (nI t)), (2, .int (nI at0)), (3, .int (nI a)), (4, .int (nI b)), (5, .int (nI c1)), (6, .int (nI d1)), (7, .int (nI (a ^^^ b ^^^ c1 ^^^ d1))), (8, .int (nI k))] → W p l e { frames := 0, cells := 0, slots := 0, locals := 0 } s m [.ref o, .int (nI t), .int (nI at0), .int (nI a), .int (nI b), .int (nI c1), .int (nI d1)].toArray below meth c H locs 0 0 (MQ below (hq_v X (po_v nx (fun z => z (o + 6) = some (hp_n X 2040 (shW sh2 (120 * t + 40 * at0) (shV (shQ a b c1 d1)) 40)) ∧ hp_eqM [6] o z μ))) [.ref o, .int (nI t), .int (nI at0), .int (nI a), .int (nI b), .int (nI c1), .int (nI d1)].toArray s 0 0 (hp_A X)) (F0 m 15 ls []) := by
    intro kk15
    induction kk15 with
    | zero =>
      intro k hk hkk15
      exact absurd hkk15 (Nat.not_lt_zero _)
    | succ kk15 ih15 =>
      intro k hk hkk15 μ1 H locs ls f_o f_6 fr hH hl
      refine lv_iload hx hb dX11_show_15 (lv_at hl 8 rfl) ?_
      refine lv_bipush (v := nI 40) hx hb dX11_show_17 (by decide) ?_
      refine lv_icmp_ge (tgt := 106) hx hb dX11_show_19 (by decide) (fun c_19 => ?_) (fun c_19 => ?_)
      · have c_19 : 40 ≤ k := (nI_leI (by omega) (by omega)).mp c_19
        have ek : k = 40 := by omega
        subst ek
        exact hp_rv hx hb hr hlocks hS hH (⟨rfl, f_6, fr⟩) dX11_show_106
      · have c_19 : ¬ (40 ≤ k) := fun z => c_19 ((nI_leI (by omega) (by omega)).mpr z)
        refine lv_iload hx hb dX11_show_22 (lv_at hl 8 rfl) ?_
        refine lv_bipush (v := nI 8) hx hb dX11_show_24 (by decide) ?_
        refine lv_icmp_ge (tgt := 33) hx hb dX11_show_26 (by decide) (fun c_26 => ?_) (fun c_26 => ?_)
        · have c_26 : 8 ≤ k := (nI_leI (by omega) (by omega)).mp c_26
          refine lv_iload hx hb dX11_show_33 (lv_at hl 8 rfl) ?_
          refine lv_bipush (v := nI 16) hx hb dX11_show_35 (by decide) ?_
          refine lv_icmp_ge (tgt := 45) hx hb dX11_show_37 (by decide) (fun c_37 => ?_) (fun c_37 => ?_)
          · have c_37 : 16 ≤ k := (nI_leI (by omega) (by omega)).mp c_37
            refine lv_iload hx hb dX11_show_45 (lv_at hl 8 rfl) ?_
            refine lv_bipush (v := nI 24) hx hb dX11_show_47 (by decide) ?_
            refine lv_icmp_ge (tgt := 57) hx hb dX11_show_49 (by decide) (fun c_49 => ?_) (fun c_49 => ?_)
            · have c_49 : 24 ≤ k := (nI_leI (by omega) (by omega)).mp c_49
              refine lv_iload hx hb dX11_show_57 (lv_at hl 8 rfl) ?_
              refine lv_bipush (v := nI 32) hx hb dX11_show_59 (by decide) ?_
              refine lv_icmp_ge (tgt := 69) hx hb dX11_show_61 (by decide) (fun c_61 => ?_) (fun c_61 => ?_)
              · have c_61 : 32 ≤ k := (nI_leI (by omega) (by omega)).mp c_61
                refine lv_iload hx hb dX11_show_69 (lv_at hl 7 rfl) ?_
                refine lv_istore (lv' := [(9, .int (nI (a ^^^ b ^^^ c1 ^^^ d1))), (0, .ref o), (1, .int (nI t)), (2, .int (nI at0)), (3, .int (nI a)), (4, .int (nI b)), (5, .int (nI c1)), (6, .int (nI d1)), (7, .int (nI (a ^^^ b ^^^ c1 ^^^ d1))), (8, .int (nI k))]) hx hb dX11_show_71 hl (by decide) rfl (fun ls hl => ?_)
                refine lv_aload_n hx hb dX11_show_73 rfl (lv_at hl 1 rfl) ?_
                refine hp_get hx hb hown hS.2.1 hH (F_X11_26.use hS) f_o rfl dX11_show_74 ?_
                refine lv_bipush (v := nI 120) hx hb dX11_show_77 (by decide) ?_
                refine lv_iload_n hx hb dX11_show_79 rfl (lv_at hl 2 rfl) ?_
                refine lv_imul hx hb dX11_show_80 ?_
                refine hp_eqi (z := nI (120 * t)) (pk_mul _ _) ?_
                refine lv_bipush (v := nI 40) hx hb dX11_show_81 (by decide) ?_
                refine lv_iload_n hx hb dX11_show_83 rfl (lv_at hl 3 rfl) ?_
                refine lv_imul hx hb dX11_show_84 ?_
                refine hp_eqi (z := nI (40 * at0)) (pk_mul _ _) ?_
                refine lv_iadd hx hb dX11_show_85 ?_
                refine hp_eqi (z := nI ((120 * t) + (40 * at0))) (nI_add _ _) ?_
                refine lv_iload hx hb dX11_show_86 (lv_at hl 9 rfl) ?_
                refine lv_iadd hx hb dX11_show_88 ?_
                refine hp_eqi (z := nI (((120 * t) + (40 * at0)) + k)) (nI_add _ _) ?_
                refine lv_iload hx hb dX11_show_89 (lv_at hl 0 rfl) ?_
                refine lv_iload hx hb dX11_show_91 (lv_at hl 9 rfl) ?_
                refine lv_bipush (v := nI 8) hx hb dX11_show_93 (by decide) ?_
                refine lv_irem hx hb dX11_show_95 (nI_ne0 (by omega) (by omega)) ?_
                refine hp_eqi (z := nI (k % 8)) (pk_rem (by omega) (by omega) (by omega)) ?_
                refine lv_ishr hx hb dX11_show_96 ?_
                refine lv_iconst (v := nI 1) hx hb dX11_show_97 (by decide) ?_
                refine lv_iand hx hb dX11_show_98 ?_
                refine hp_eqi (z := nI (shV (shQ a b c1 d1) / 2 ^ k % 2)) (by rw [z_sbI (by omega), bitI_n (by omega), shV_bit ha hb1 hc1 hd1 (by omega)]; rw [if_neg (by omega), if_neg (by omega), if_neg (by omega), if_neg (by omega)]) ?_
                refine hp_iastN hx hb hS.ai hH f_6 (by omega) (by omega) dX11_show_99 (fun H locs μ1 fz fn hH => ?_)
                have f_o := (fn _ (by omega)).trans f_o
                have f_6 : μ1 (o + 6) = some (hp_n X 2040 (setN (shW sh2 (120 * t + 40 * at0) (shV (shQ a b c1 d1)) k) (((120 * t) + (40 * at0)) + k) (shV (shQ a b c1 d1) / 2 ^ k % 2))) := fz
                have fr := hp_eqM.put (k := 6) fr (by decide) fn
                clear fz fn
                refine lv_iinc (v := nI (k + 1)) (lv' := [(8, .int (nI (k + 1))), (9, .int (nI (a ^^^ b ^^^ c1 ^^^ d1))), (0, .ref o), (1, .int (nI t)), (2, .int (nI at0)), (3, .int (nI a)), (4, .int (nI b)), (5, .int (nI c1)), (6, .int (nI d1)), (7, .int (nI (a ^^^ b ^^^ c1 ^^^ d1)))]) hx hb dX11_show_100 hl (k := 9) rfl (nI_add _ 1) (by decide) rfl (fun ls hl => ?_)
                refine lv_goto (tgt := 15) hx hb dX11_show_103 (by decide) ?_
                have f_6 := f_6.trans (congrArg (fun g => some (hp_n X 2040 g)) (show setN (shW sh2 (120 * t + 40 * at0) (shV (shQ a b c1 d1)) k) (((120 * t) + (40 * at0)) + k) (shV (shQ a b c1 d1) / 2 ^ k % 2) = shW sh2 (120 * t + 40 * at0) (shV (shQ a b c1 d1)) (k + 1) from shW_s _ _ _ _))
                exact ih15 (k + 1) (by omega) (by omega) _ _ _ _ f_o f_6 fr hH (lv_sub hl [2, 3, 4, 5, 6, 7, 8, 9, 0] rfl)
              · have c_61 : ¬ (32 ≤ k) := fun z => c_61 ((nI_leI (by omega) (by omega)).mpr z)
                refine lv_iload hx hb dX11_show_64 (lv_at hl 6 rfl) ?_
                refine lv_goto (tgt := 71) hx hb dX11_show_66 (by decide) ?_
                refine lv_istore (lv' := [(9, .int (nI d1)), (0, .ref o), (1, .int (nI t)), (2, .int (nI at0)), (3, .int (nI a)), (4, .int (nI b)), (5, .int (nI c1)), (6, .int (nI d1)), (7, .int (nI (a ^^^ b ^^^ c1 ^^^ d1))), (8, .int (nI k))]) hx hb dX11_show_71 hl (by decide) rfl (fun ls hl => ?_)
                refine lv_aload_n hx hb dX11_show_73 rfl (lv_at hl 1 rfl) ?_
                refine hp_get hx hb hown hS.2.1 hH (F_X11_26.use hS) f_o rfl dX11_show_74 ?_
                refine lv_bipush (v := nI 120) hx hb dX11_show_77 (by decide) ?_
                refine lv_iload_n hx hb dX11_show_79 rfl (lv_at hl 2 rfl) ?_
                refine lv_imul hx hb dX11_show_80 ?_
                refine hp_eqi (z := nI (120 * t)) (pk_mul _ _) ?_
                refine lv_bipush (v := nI 40) hx hb dX11_show_81 (by decide) ?_
                refine lv_iload_n hx hb dX11_show_83 rfl (lv_at hl 3 rfl) ?_
                refine lv_imul hx hb dX11_show_84 ?_
                refine hp_eqi (z := nI (40 * at0)) (pk_mul _ _) ?_
                refine lv_iadd hx hb dX11_show_85 ?_
                refine hp_eqi (z := nI ((120 * t) + (40 * at0))) (nI_add _ _) ?_
                refine lv_iload hx hb dX11_show_86 (lv_at hl 9 rfl) ?_
                refine lv_iadd hx hb dX11_show_88 ?_
                refine hp_eqi (z := nI (((120 * t) + (40 * at0)) + k)) (nI_add _ _) ?_
                refine lv_iload hx hb dX11_show_89 (lv_at hl 0 rfl) ?_
                refine lv_iload hx hb dX11_show_91 (lv_at hl 9 rfl) ?_
                refine lv_bipush (v := nI 8) hx hb dX11_show_93 (by decide) ?_
                refine lv_irem hx hb dX11_show_95 (nI_ne0 (by omega) (by omega)) ?_
                refine hp_eqi (z := nI (k % 8)) (pk_rem (by omega) (by omega) (by omega)) ?_
                refine lv_ishr hx hb dX11_show_96 ?_
                refine lv_iconst (v := nI 1) hx hb dX11_show_97 (by decide) ?_
                refine lv_iand hx hb dX11_show_98 ?_
                refine hp_eqi (z := nI (shV (shQ a b c1 d1) / 2 ^ k % 2)) (by rw [z_sbI (by omega), bitI_n (by omega), shV_bit ha hb1 hc1 hd1 (by omega)]; rw [if_neg (by omega), if_neg (by omega), if_neg (by omega), if_pos (by omega)]) ?_
                refine hp_iastN hx hb hS.ai hH f_6 (by omega) (by omega) dX11_show_99 (fun H locs μ1 fz fn hH => ?_)
                have f_o := (fn _ (by omega)).trans f_o
                have f_6 : μ1 (o + 6) = some (hp_n X 2040 (setN (shW sh2 (120 * t + 40 * at0) (shV (shQ a b c1 d1)) k) (((120 * t) + (40 * at0)) + k) (shV (shQ a b c1 d1) / 2 ^ k % 2))) := fz
                have fr := hp_eqM.put (k := 6) fr (by decide) fn
                clear fz fn
                refine lv_iinc (v := nI (k + 1)) (lv' := [(8, .int (nI (k + 1))), (9, .int (nI d1)), (0, .ref o), (1, .int (nI t)), (2, .int (nI at0)), (3, .int (nI a)), (4, .int (nI b)), (5, .int (nI c1)), (6, .int (nI d1)), (7, .int (nI (a ^^^ b ^^^ c1 ^^^ d1)))]) hx hb dX11_show_100 hl (k := 9) rfl (nI_add _ 1) (by decide) rfl (fun ls hl => ?_)
                refine lv_goto (tgt := 15) hx hb dX11_show_103 (by decide) ?_
                have f_6 := f_6.trans (congrArg (fun g => some (hp_n X 2040 g)) (show setN (shW sh2 (120 * t + 40 * at0) (shV (shQ a b c1 d1)) k) (((120 * t) + (40 * at0)) + k) (shV (shQ a b c1 d1) / 2 ^ k % 2) = shW sh2 (120 * t + 40 * at0) (shV (shQ a b c1 d1)) (k + 1) from shW_s _ _ _ _))
                exact ih15 (k + 1) (by omega) (by omega) _ _ _ _ f_o f_6 fr hH (lv_sub hl [2, 3, 4, 5, 6, 7, 8, 9, 0] rfl)
            · have c_49 : ¬ (24 ≤ k) := fun z => c_49 ((nI_leI (by omega) (by omega)).mpr z)
              refine lv_iload hx hb dX11_show_52 (lv_at hl 5 rfl) ?_
              refine lv_goto (tgt := 71) hx hb dX11_show_54 (by decide) ?_
              refine lv_istore (lv' := [(9, .int (nI c1)), (0, .ref o), (1, .int (nI t)), (2, .int (nI at0)), (3, .int (nI a)), (4, .int (nI b)), (5, .int (nI c1)), (6, .int (nI d1)), (7, .int (nI (a ^^^ b ^^^ c1 ^^^ d1))), (8, .int (nI k))]) hx hb dX11_show_71 hl (by decide) rfl (fun ls hl => ?_)
              refine lv_aload_n hx hb dX11_show_73 rfl (lv_at hl 1 rfl) ?_
              refine hp_get hx hb hown hS.2.1 hH (F_X11_26.use hS) f_o rfl dX11_show_74 ?_
              refine lv_bipush (v := nI 120) hx hb dX11_show_77 (by decide) ?_
              refine lv_iload_n hx hb dX11_show_79 rfl (lv_at hl 2 rfl) ?_
              refine lv_imul hx hb dX11_show_80 ?_
              refine hp_eqi (z := nI (120 * t)) (pk_mul _ _) ?_
              refine lv_bipush (v := nI 40) hx hb dX11_show_81 (by decide) ?_
              refine lv_iload_n hx hb dX11_show_83 rfl (lv_at hl 3 rfl) ?_
              refine lv_imul hx hb dX11_show_84 ?_
              refine hp_eqi (z := nI (40 * at0)) (pk_mul _ _) ?_
              refine lv_iadd hx hb dX11_show_85 ?_
              refine hp_eqi (z := nI ((120 * t) + (40 * at0))) (nI_add _ _) ?_
              refine lv_iload hx hb dX11_show_86 (lv_at hl 9 rfl) ?_
              refine lv_iadd hx hb dX11_show_88 ?_
              refine hp_eqi (z := nI (((120 * t) + (40 * at0)) + k)) (nI_add _ _) ?_
              refine lv_iload hx hb dX11_show_89 (lv_at hl 0 rfl) ?_
              refine lv_iload hx hb dX11_show_91 (lv_at hl 9 rfl) ?_
              refine lv_bipush (v := nI 8) hx hb dX11_show_93 (by decide) ?_
              refine lv_irem hx hb dX11_show_95 (nI_ne0 (by omega) (by omega)) ?_
              refine hp_eqi (z := nI (k % 8)) (pk_rem (by omega) (by omega) (by omega)) ?_
              refine lv_ishr hx hb dX11_show_96 ?_
              refine lv_iconst (v := nI 1) hx hb dX11_show_97 (by decide) ?_
              refine lv_iand hx hb dX11_show_98 ?_
              refine hp_eqi (z := nI (shV (shQ a b c1 d1) / 2 ^ k % 2)) (by rw [z_sbI (by omega), bitI_n (by omega), shV_bit ha hb1 hc1 hd1 (by omega)]; rw [if_neg (by omega), if_neg (by omega), if_pos (by omega)]) ?_
              refine hp_iastN hx hb hS.ai hH f_6 (by omega) (by omega) dX11_show_99 (fun H locs μ1 fz fn hH => ?_)
              have f_o := (fn _ (by omega)).trans f_o
              have f_6 : μ1 (o + 6) = some (hp_n X 2040 (setN (shW sh2 (120 * t + 40 * at0) (shV (shQ a b c1 d1)) k) (((120 * t) + (40 * at0)) + k) (shV (shQ a b c1 d1) / 2 ^ k % 2))) := fz
              have fr := hp_eqM.put (k := 6) fr (by decide) fn
              clear fz fn
              refine lv_iinc (v := nI (k + 1)) (lv' := [(8, .int (nI (k + 1))), (9, .int (nI c1)), (0, .ref o), (1, .int (nI t)), (2, .int (nI at0)), (3, .int (nI a)), (4, .int (nI b)), (5, .int (nI c1)), (6, .int (nI d1)), (7, .int (nI (a ^^^ b ^^^ c1 ^^^ d1)))]) hx hb dX11_show_100 hl (k := 9) rfl (nI_add _ 1) (by decide) rfl (fun ls hl => ?_)
              refine lv_goto (tgt := 15) hx hb dX11_show_103 (by decide) ?_
              have f_6 := f_6.trans (congrArg (fun g => some (hp_n X 2040 g)) (show setN (shW sh2 (120 * t + 40 * at0) (shV (shQ a b c1 d1)) k) (((120 * t) + (40 * at0)) + k) (shV (shQ a b c1 d1) / 2 ^ k % 2) = shW sh2 (120 * t + 40 * at0) (shV (shQ a b c1 d1)) (k + 1) from shW_s _ _ _ _))
              exact ih15 (k + 1) (by omega) (by omega) _ _ _ _ f_o f_6 fr hH (lv_sub hl [2, 3, 4, 5, 6, 7, 8, 9, 0] rfl)
          · have c_37 : ¬ (16 ≤ k) := fun z => c_37 ((nI_leI (by omega) (by omega)).mpr z)
            refine lv_iload hx hb dX11_show_40 (lv_at hl 4 rfl) ?_
            refine lv_goto (tgt := 71) hx hb dX11_show_42 (by decide) ?_
            refine lv_istore (lv' := [(9, .int (nI b)), (0, .ref o), (1, .int (nI t)), (2, .int (nI at0)), (3, .int (nI a)), (4, .int (nI b)), (5, .int (nI c1)), (6, .int (nI d1)), (7, .int (nI (a ^^^ b ^^^ c1 ^^^ d1))), (8, .int (nI k))]) hx hb dX11_show_71 hl (by decide) rfl (fun ls hl => ?_)
            refine lv_aload_n hx hb dX11_show_73 rfl (lv_at hl 1 rfl) ?_
            refine hp_get hx hb hown hS.2.1 hH (F_X11_26.use hS) f_o rfl dX11_show_74 ?_
            refine lv_bipush (v := nI 120) hx hb dX11_show_77 (by decide) ?_
            refine lv_iload_n hx hb dX11_show_79 rfl (lv_at hl 2 rfl) ?_
            refine lv_imul hx hb dX11_show_80 ?_
            refine hp_eqi (z := nI (120 * t)) (pk_mul _ _) ?_
            refine lv_bipush (v := nI 40) hx hb dX11_show_81 (by decide) ?_
            refine lv_iload_n hx hb dX11_show_83 rfl (lv_at hl 3 rfl) ?_
            refine lv_imul hx hb dX11_show_84 ?_
            refine hp_eqi (z := nI (40 * at0)) (pk_mul _ _) ?_
            refine lv_iadd hx hb dX11_show_85 ?_
            refine hp_eqi (z := nI ((120 * t) + (40 * at0))) (nI_add _ _) ?_
            refine lv_iload hx hb dX11_show_86 (lv_at hl 9 rfl) ?_
            refine lv_iadd hx hb dX11_show_88 ?_
            refine hp_eqi (z := nI (((120 * t) + (40 * at0)) + k)) (nI_add _ _) ?_
            refine lv_iload hx hb dX11_show_89 (lv_at hl 0 rfl) ?_
            refine lv_iload hx hb dX11_show_91 (lv_at hl 9 rfl) ?_
            refine lv_bipush (v := nI 8) hx hb dX11_show_93 (by decide) ?_
            refine lv_irem hx hb dX11_show_95 (nI_ne0 (by omega) (by omega)) ?_
            refine hp_eqi (z := nI (k % 8)) (pk_rem (by omega) (by omega) (by omega)) ?_
            refine lv_ishr hx hb dX11_show_96 ?_
            refine lv_iconst (v := nI 1) hx hb dX11_show_97 (by decide) ?_
            refine lv_iand hx hb dX11_show_98 ?_
            refine hp_eqi (z := nI (shV (shQ a b c1 d1) / 2 ^ k % 2)) (by rw [z_sbI (by omega), bitI_n (by omega), shV_bit ha hb1 hc1 hd1 (by omega)]; rw [if_neg (by omega), if_pos (by omega)]) ?_
            refine hp_iastN hx hb hS.ai hH f_6 (by omega) (by omega) dX11_show_99 (fun H locs μ1 fz fn hH => ?_)
            have f_o := (fn _ (by omega)).trans f_o
            have f_6 : μ1 (o + 6) = some (hp_n X 2040 (setN (shW sh2 (120 * t + 40 * at0) (shV (shQ a b c1 d1)) k) (((120 * t) + (40 * at0)) + k) (shV (shQ a b c1 d1) / 2 ^ k % 2))) := fz
            have fr := hp_eqM.put (k := 6) fr (by decide) fn
            clear fz fn
            refine lv_iinc (v := nI (k + 1)) (lv' := [(8, .int (nI (k + 1))), (9, .int (nI b)), (0, .ref o), (1, .int (nI t)), (2, .int (nI at0)), (3, .int (nI a)), (4, .int (nI b)), (5, .int (nI c1)), (6, .int (nI d1)), (7, .int (nI (a ^^^ b ^^^ c1 ^^^ d1)))]) hx hb dX11_show_100 hl (k := 9) rfl (nI_add _ 1) (by decide) rfl (fun ls hl => ?_)
            refine lv_goto (tgt := 15) hx hb dX11_show_103 (by decide) ?_
            have f_6 := f_6.trans (congrArg (fun g => some (hp_n X 2040 g)) (show setN (shW sh2 (120 * t + 40 * at0) (shV (shQ a b c1 d1)) k) (((120 * t) + (40 * at0)) + k) (shV (shQ a b c1 d1) / 2 ^ k % 2) = shW sh2 (120 * t + 40 * at0) (shV (shQ a b c1 d1)) (k + 1) from shW_s _ _ _ _))
            exact ih15 (k + 1) (by omega) (by omega) _ _ _ _ f_o f_6 fr hH (lv_sub hl [2, 3, 4, 5, 6, 7, 8, 9, 0] rfl)
        · have c_26 : ¬ (8 ≤ k) := fun z => c_26 ((nI_leI (by omega) (by omega)).mpr z)
          refine lv_iload_n hx hb dX11_show_29 rfl (lv_at hl 3 rfl) ?_
          refine lv_goto (tgt := 71) hx hb dX11_show_30 (by decide) ?_
          refine lv_istore (lv' := [(9, .int (nI a)), (0, .ref o), (1, .int (nI t)), (2, .int (nI at0)), (3, .int (nI a)), (4, .int (nI b)), (5, .int (nI c1)), (6, .int (nI d1)), (7, .int (nI (a ^^^ b ^^^ c1 ^^^ d1))), (8, .int (nI k))]) hx hb dX11_show_71 hl (by decide) rfl (fun ls hl => ?_)
          refine lv_aload_n hx hb dX11_show_73 rfl (lv_at hl 1 rfl) ?_
          refine hp_get hx hb hown hS.2.1 hH (F_X11_26.use hS) f_o rfl dX11_show_74 ?_
          refine lv_bipush (v := nI 120) hx hb dX11_show_77 (by decide) ?_
          refine lv_iload_n hx hb dX11_show_79 rfl (lv_at hl 2 rfl) ?_
          refine lv_imul hx hb dX11_show_80 ?_
          refine hp_eqi (z := nI (120 * t)) (pk_mul _ _) ?_
          refine lv_bipush (v := nI 40) hx hb dX11_show_81 (by decide) ?_
          refine lv_iload_n hx hb dX11_show_83 rfl (lv_at hl 3 rfl) ?_
          refine lv_imul hx hb dX11_show_84 ?_
          refine hp_eqi (z := nI (40 * at0)) (pk_mul _ _) ?_
          refine lv_iadd hx hb dX11_show_85 ?_
          refine hp_eqi (z := nI ((120 * t) + (40 * at0))) (nI_add _ _) ?_
          refine lv_iload hx hb dX11_show_86 (lv_at hl 9 rfl) ?_
          refine lv_iadd hx hb dX11_show_88 ?_
          refine hp_eqi (z := nI (((120 * t) + (40 * at0)) + k)) (nI_add _ _) ?_
          refine lv_iload hx hb dX11_show_89 (lv_at hl 0 rfl) ?_
          refine lv_iload hx hb dX11_show_91 (lv_at hl 9 rfl) ?_
          refine lv_bipush (v := nI 8) hx hb dX11_show_93 (by decide) ?_
          refine lv_irem hx hb dX11_show_95 (nI_ne0 (by omega) (by omega)) ?_
          refine hp_eqi (z := nI (k % 8)) (pk_rem (by omega) (by omega) (by omega)) ?_
          refine lv_ishr hx hb dX11_show_96 ?_
          refine lv_iconst (v := nI 1) hx hb dX11_show_97 (by decide) ?_
          refine lv_iand hx hb dX11_show_98 ?_
          refine hp_eqi (z := nI (shV (shQ a b c1 d1) / 2 ^ k % 2)) (by rw [z_sbI (by omega), bitI_n (by omega), shV_bit ha hb1 hc1 hd1 (by omega)]; rw [if_pos (by omega)]) ?_
          refine hp_iastN hx hb hS.ai hH f_6 (by omega) (by omega) dX11_show_99 (fun H locs μ1 fz fn hH => ?_)
          have f_o := (fn _ (by omega)).trans f_o
          have f_6 : μ1 (o + 6) = some (hp_n X 2040 (setN (shW sh2 (120 * t + 40 * at0) (shV (shQ a b c1 d1)) k) (((120 * t) + (40 * at0)) + k) (shV (shQ a b c1 d1) / 2 ^ k % 2))) := fz
          have fr := hp_eqM.put (k := 6) fr (by decide) fn
          clear fz fn
          refine lv_iinc (v := nI (k + 1)) (lv' := [(8, .int (nI (k + 1))), (9, .int (nI a)), (0, .ref o), (1, .int (nI t)), (2, .int (nI at0)), (3, .int (nI a)), (4, .int (nI b)), (5, .int (nI c1)), (6, .int (nI d1)), (7, .int (nI (a ^^^ b ^^^ c1 ^^^ d1)))]) hx hb dX11_show_100 hl (k := 9) rfl (nI_add _ 1) (by decide) rfl (fun ls hl => ?_)
          refine lv_goto (tgt := 15) hx hb dX11_show_103 (by decide) ?_
          have f_6 := f_6.trans (congrArg (fun g => some (hp_n X 2040 g)) (show setN (shW sh2 (120 * t + 40 * at0) (shV (shQ a b c1 d1)) k) (((120 * t) + (40 * at0)) + k) (shV (shQ a b c1 d1) / 2 ^ k % 2) = shW sh2 (120 * t + 40 * at0) (shV (shQ a b c1 d1)) (k + 1) from shW_s _ _ _ _))
          exact ih15 (k + 1) (by omega) (by omega) _ _ _ _ f_o f_6 fr hH (lv_sub hl [2, 3, 4, 5, 6, 7, 8, 9, 0] rfl)
  exact lp_15 ((40 - 0) + 1) 0 (Nat.zero_le _) (Nat.lt_succ_self _) _ _ _ _ f_o f_6 fr hH (lv_sub hl [2, 3, 4, 5, 6, 7, 8, 1, 0] rfl)

set_option maxHeartbeats 4000000 in
set_option maxRecDepth 100000 in
theorem c_X11_init (l : Launch) (X : hp_X) {μ : hp_M} {nx : Nat} {o : Nat} (f_o : μ o = some (hp_o 7 [.int (nI 0), .null, .null, .null, .null, .null, .null, .int (nB false), .int (nI 0), .null, .int (nI 0), .null, .null, .int (nI 0), .int (nI 0), .int (nI 0), .null, .int (nI 0), .null, .int (nI 0), .null, .int (nI 0), .null, .int (nI 0), .int (nI 0), .null, .null, .int (nI 0), .null])) : Ct l X yX11_init cX11_init 1 (none : Option Jvm.ClassFile.FieldType) 2 80 16 3336 [.ref o] μ nx (hq_v X (po_v (nx + 16) (fun z => z o = some (hp_o 7 [.int (nI 0), .ref nx, .ref (nx + 1), .ref (nx + 2), .ref (nx + 3), .ref (nx + 4), .ref (nx + 5), .int (nB true), .int (nI 0), .ref (nx + 6), .int (nI 0), .ref (nx + 7), .ref (nx + 8), .int (nI 0), .int (nI 0), .int (nI 0), .ref (nx + 9), .int (nI 0), .ref (nx + 10), .int (nI 0), .ref (nx + 11), .int (nI 0), .ref (nx + 12), .int (nI 0), .int (nI 0), .ref (nx + 13), .ref (nx + 14), .int (nI 0), .ref (nx + 15)]) ∧ z nx = some (hp_n X 17 (fun _ => 0)) ∧ z (nx + 1) = some (hp_n X 170 (fun _ => 0)) ∧ z (nx + 2) = some (hp_b X 17 (fun _ => false)) ∧ z (nx + 3) = some (hp_n X 17 (fun _ => 0)) ∧ z (nx + 4) = some (hp_n X 17 (fun _ => 0)) ∧ z (nx + 5) = some (hp_n X 2040 (fun _ => 0)) ∧ z (nx + 6) = some (hp_n X 160 (fun _ => 0)) ∧ z (nx + 7) = some (hp_n X 160 (fun _ => 0)) ∧ z (nx + 8) = some (hp_n X 18 (fun _ => 0)) ∧ z (nx + 9) = some (hp_n X 48 (fun _ => 0)) ∧ z (nx + 10) = some (hp_n X 64 (fun _ => 0)) ∧ z (nx + 11) = some (hp_n X 64 (fun _ => 0)) ∧ z (nx + 12) = some (hp_n X 64 (fun _ => 0)) ∧ z (nx + 13) = some (hp_n X 40 (fun _ => 0)) ∧ z (nx + 14) = some (hp_n X 400 (fun _ => 0)) ∧ z (nx + 15) = some (hp_n X 40 (fun _ => 0)) ∧ hp_eq [o, nx, nx + 1, nx + 2, nx + 3, nx + 4, nx + 5, nx + 6, nx + 7, nx + 8, nx + 9, nx + 10, nx + 11, nx + 12, nx + 13, nx + 14, nx + 15] z μ))) := by
  refine hp_met (by decide) (Nat.le_of_ble_eq_true rfl) ?_
  intro p e s m below meth c ls hx hb hml hr hlocks hown hin hS hH hl
  have hl : lv_has ls 1 [(0, .ref o)] := hl
  have fr : hp_eq [o, nx, nx + 1, nx + 2, nx + 3, nx + 4, nx + 5, nx + 6, nx + 7, nx + 8, nx + 9, nx + 10, nx + 11, nx + 12, nx + 13, nx + 14, nx + 15] μ μ := fun _ _ => rfl
  have hlt_o := hH.lt f_o
  refine lv_aload_n hx hb dX11_init_0 rfl (lv_at hl 0 rfl) ?_
  refine hp_obj hx hb hml hown hS ol_X11_1 hl.1 dX11_init_1 (Nat.le_of_ble_eq_true rfl) (Nat.le_of_ble_eq_true rfl) (Nat.le_of_ble_eq_true rfl) ?_
  refine lv_aload_n hx hb dX11_init_4 rfl (lv_at hl 0 rfl) ?_
  refine lv_bipush (v := nI 17) hx hb dX11_init_5 (by decide) ?_
  have hO := hH
  refine hp_newi hx hb (hS.1 _ wi_88 _) hS.ni hH (nI_pos (by omega)) (nI_clamp (by omega)) (by omega) (Nat.le_of_ble_eq_true rfl) (Nat.le_of_ble_eq_true rfl) dX11_init_7 (fun H μ1 fz fn hH => ?_)
  have f_o := (fn _ (Nat.ne_of_lt (hO.lt f_o))).trans f_o
  have f_n0 : μ1 nx = some (hp_n X 17 (fun _ => 0)) := fz
  have fr := hp_eq.put fr (by simp) fn
  clear fz fn hO
  refine hp_putF hx hb hown hS.2.1 hH (P_X11_7.use hS) hin f_o rfl rfl (Nat.le_of_ble_eq_true rfl) dX11_init_9 (fun H locs μ1 fz fn hH => ?_)
  have f_n0 := (fn _ (by omega)).trans f_n0
  have f_o : μ1 o = some (hp_o 7 [.int (nI 0), .ref nx, .null, .null, .null, .null, .null, .int (nB false), .int (nI 0), .null, .int (nI 0), .null, .null, .int (nI 0), .int (nI 0), .int (nI 0), .null, .int (nI 0), .null, .int (nI 0), .null, .int (nI 0), .null, .int (nI 0), .int (nI 0), .null, .null, .int (nI 0), .null]) := fz
  have fr := hp_eq.put fr (by simp) fn
  clear fz fn
  refine lv_aload_n hx hb dX11_init_12 rfl (lv_at hl 0 rfl) ?_
  refine lv_sipush (v := nI 170) hx hb dX11_init_13 (by decide) ?_
  have hO := hH
  refine hp_newi hx hb (hS.1 _ wi_88 _) hS.ni hH (nI_pos (by omega)) (nI_clamp (by omega)) (by omega) (Nat.le_of_ble_eq_true rfl) (Nat.le_of_ble_eq_true rfl) dX11_init_16 (fun H μ1 fz fn hH => ?_)
  have f_o := (fn _ (Nat.ne_of_lt (hO.lt f_o))).trans f_o
  have f_n0 := (fn _ (Nat.ne_of_lt (hO.lt f_n0))).trans f_n0
  have f_n1 : μ1 (nx + 1) = some (hp_n X 170 (fun _ => 0)) := fz
  have fr := hp_eq.put fr (by simp) fn
  clear fz fn hO
  refine hp_putF hx hb hown hS.2.1 hH (P_X11_13.use hS) hin f_o rfl rfl (Nat.le_of_ble_eq_true rfl) dX11_init_18 (fun H locs μ1 fz fn hH => ?_)
  have f_n0 := (fn _ (by omega)).trans f_n0
  have f_n1 := (fn _ (by omega)).trans f_n1
  have f_o : μ1 o = some (hp_o 7 [.int (nI 0), .ref nx, .ref (nx + 1), .null, .null, .null, .null, .int (nB false), .int (nI 0), .null, .int (nI 0), .null, .null, .int (nI 0), .int (nI 0), .int (nI 0), .null, .int (nI 0), .null, .int (nI 0), .null, .int (nI 0), .null, .int (nI 0), .int (nI 0), .null, .null, .int (nI 0), .null]) := fz
  have fr := hp_eq.put fr (by simp) fn
  clear fz fn
  refine lv_aload_n hx hb dX11_init_21 rfl (lv_at hl 0 rfl) ?_
  refine lv_bipush (v := nI 17) hx hb dX11_init_22 (by decide) ?_
  have hO := hH
  refine hp_newb hx hb (hS.1 _ wi_762 _) hS.nb hH (nI_pos (by omega)) (nI_clamp (by omega)) (by omega) (Nat.le_of_ble_eq_true rfl) (Nat.le_of_ble_eq_true rfl) dX11_init_24 (fun H μ1 fz fn hH => ?_)
  have f_o := (fn _ (Nat.ne_of_lt (hO.lt f_o))).trans f_o
  have f_n0 := (fn _ (Nat.ne_of_lt (hO.lt f_n0))).trans f_n0
  have f_n1 := (fn _ (Nat.ne_of_lt (hO.lt f_n1))).trans f_n1
  have f_n2 : μ1 (nx + 2) = some (hp_b X 17 (fun _ => false)) := fz
  have fr := hp_eq.put fr (by simp) fn
  clear fz fn hO
  refine hp_putF hx hb hown hS.2.1 hH (P_X11_16.use hS) hin f_o rfl rfl (Nat.le_of_ble_eq_true rfl) dX11_init_26 (fun H locs μ1 fz fn hH => ?_)
  have f_n0 := (fn _ (by omega)).trans f_n0
  have f_n1 := (fn _ (by omega)).trans f_n1
  have f_n2 := (fn _ (by omega)).trans f_n2
  have f_o : μ1 o = some (hp_o 7 [.int (nI 0), .ref nx, .ref (nx + 1), .ref (nx + 2), .null, .null, .null, .int (nB false), .int (nI 0), .null, .int (nI 0), .null, .null, .int (nI 0), .int (nI 0), .int (nI 0), .null, .int (nI 0), .null, .int (nI 0), .null, .int (nI 0), .null, .int (nI 0), .int (nI 0), .null, .null, .int (nI 0), .null]) := fz
  have fr := hp_eq.put fr (by simp) fn
  clear fz fn
  refine lv_aload_n hx hb dX11_init_29 rfl (lv_at hl 0 rfl) ?_
  refine lv_bipush (v := nI 17) hx hb dX11_init_30 (by decide) ?_
  have hO := hH
  refine hp_newi hx hb (hS.1 _ wi_88 _) hS.ni hH (nI_pos (by omega)) (nI_clamp (by omega)) (by omega) (Nat.le_of_ble_eq_true rfl) (Nat.le_of_ble_eq_true rfl) dX11_init_32 (fun H μ1 fz fn hH => ?_)
  have f_o := (fn _ (Nat.ne_of_lt (hO.lt f_o))).trans f_o
  have f_n0 := (fn _ (Nat.ne_of_lt (hO.lt f_n0))).trans f_n0
  have f_n1 := (fn _ (Nat.ne_of_lt (hO.lt f_n1))).trans f_n1
  have f_n2 := (fn _ (Nat.ne_of_lt (hO.lt f_n2))).trans f_n2
  have f_n3 : μ1 (nx + 3) = some (hp_n X 17 (fun _ => 0)) := fz
  have fr := hp_eq.put fr (by simp) fn
  clear fz fn hO
  refine hp_putF hx hb hown hS.2.1 hH (P_X11_20.use hS) hin f_o rfl rfl (Nat.le_of_ble_eq_true rfl) dX11_init_34 (fun H locs μ1 fz fn hH => ?_)
  have f_n0 := (fn _ (by omega)).trans f_n0
  have f_n1 := (fn _ (by omega)).trans f_n1
  have f_n2 := (fn _ (by omega)).trans f_n2
  have f_n3 := (fn _ (by omega)).trans f_n3
  have f_o : μ1 o = some (hp_o 7 [.int (nI 0), .ref nx, .ref (nx + 1), .ref (nx + 2), .ref (nx + 3), .null, .null, .int (nB false), .int (nI 0), .null, .int (nI 0), .null, .null, .int (nI 0), .int (nI 0), .int (nI 0), .null, .int (nI 0), .null, .int (nI 0), .null, .int (nI 0), .null, .int (nI 0), .int (nI 0), .null, .null, .int (nI 0), .null]) := fz
  have fr := hp_eq.put fr (by simp) fn
  clear fz fn
  refine lv_aload_n hx hb dX11_init_37 rfl (lv_at hl 0 rfl) ?_
  refine lv_bipush (v := nI 17) hx hb dX11_init_38 (by decide) ?_
  have hO := hH
  refine hp_newi hx hb (hS.1 _ wi_88 _) hS.ni hH (nI_pos (by omega)) (nI_clamp (by omega)) (by omega) (Nat.le_of_ble_eq_true rfl) (Nat.le_of_ble_eq_true rfl) dX11_init_40 (fun H μ1 fz fn hH => ?_)
  have f_o := (fn _ (Nat.ne_of_lt (hO.lt f_o))).trans f_o
  have f_n0 := (fn _ (Nat.ne_of_lt (hO.lt f_n0))).trans f_n0
  have f_n1 := (fn _ (Nat.ne_of_lt (hO.lt f_n1))).trans f_n1
  have f_n2 := (fn _ (Nat.ne_of_lt (hO.lt f_n2))).trans f_n2
  have f_n3 := (fn _ (Nat.ne_of_lt (hO.lt f_n3))).trans f_n3
  have f_n4 : μ1 (nx + 4) = some (hp_n X 17 (fun _ => 0)) := fz
  have fr := hp_eq.put fr (by simp) fn
  clear fz fn hO
  refine hp_putF hx hb hown hS.2.1 hH (P_X11_23.use hS) hin f_o rfl rfl (Nat.le_of_ble_eq_true rfl) dX11_init_42 (fun H locs μ1 fz fn hH => ?_)
  have f_n0 := (fn _ (by omega)).trans f_n0
  have f_n1 := (fn _ (by omega)).trans f_n1
  have f_n2 := (fn _ (by omega)).trans f_n2
  have f_n3 := (fn _ (by omega)).trans f_n3
  have f_n4 := (fn _ (by omega)).trans f_n4
  have f_o : μ1 o = some (hp_o 7 [.int (nI 0), .ref nx, .ref (nx + 1), .ref (nx + 2), .ref (nx + 3), .ref (nx + 4), .null, .int (nB false), .int (nI 0), .null, .int (nI 0), .null, .null, .int (nI 0), .int (nI 0), .int (nI 0), .null, .int (nI 0), .null, .int (nI 0), .null, .int (nI 0), .null, .int (nI 0), .int (nI 0), .null, .null, .int (nI 0), .null]) := fz
  have fr := hp_eq.put fr (by simp) fn
  clear fz fn
  refine lv_aload_n hx hb dX11_init_45 rfl (lv_at hl 0 rfl) ?_
  refine lv_sipush (v := nI 2040) hx hb dX11_init_46 (by decide) ?_
  have hO := hH
  refine hp_newi hx hb (hS.1 _ wi_88 _) hS.ni hH (nI_pos (by omega)) (nI_clamp (by omega)) (by omega) (Nat.le_of_ble_eq_true rfl) (Nat.le_of_ble_eq_true rfl) dX11_init_49 (fun H μ1 fz fn hH => ?_)
  have f_o := (fn _ (Nat.ne_of_lt (hO.lt f_o))).trans f_o
  have f_n0 := (fn _ (Nat.ne_of_lt (hO.lt f_n0))).trans f_n0
  have f_n1 := (fn _ (Nat.ne_of_lt (hO.lt f_n1))).trans f_n1
  have f_n2 := (fn _ (Nat.ne_of_lt (hO.lt f_n2))).trans f_n2
  have f_n3 := (fn _ (Nat.ne_of_lt (hO.lt f_n3))).trans f_n3
  have f_n4 := (fn _ (Nat.ne_of_lt (hO.lt f_n4))).trans f_n4
  have f_n5 : μ1 (nx + 5) = some (hp_n X 2040 (fun _ => 0)) := fz
  have fr := hp_eq.put fr (by simp) fn
  clear fz fn hO
  refine hp_putF hx hb hown hS.2.1 hH (P_X11_26.use hS) hin f_o rfl rfl (Nat.le_of_ble_eq_true rfl) dX11_init_51 (fun H locs μ1 fz fn hH => ?_)
  have f_n0 := (fn _ (by omega)).trans f_n0
  have f_n1 := (fn _ (by omega)).trans f_n1
  have f_n2 := (fn _ (by omega)).trans f_n2
  have f_n3 := (fn _ (by omega)).trans f_n3
  have f_n4 := (fn _ (by omega)).trans f_n4
  have f_n5 := (fn _ (by omega)).trans f_n5
  have f_o : μ1 o = some (hp_o 7 [.int (nI 0), .ref nx, .ref (nx + 1), .ref (nx + 2), .ref (nx + 3), .ref (nx + 4), .ref (nx + 5), .int (nB false), .int (nI 0), .null, .int (nI 0), .null, .null, .int (nI 0), .int (nI 0), .int (nI 0), .null, .int (nI 0), .null, .int (nI 0), .null, .int (nI 0), .null, .int (nI 0), .int (nI 0), .null, .null, .int (nI 0), .null]) := fz
  have fr := hp_eq.put fr (by simp) fn
  clear fz fn
  refine lv_aload_n hx hb dX11_init_54 rfl (lv_at hl 0 rfl) ?_
  refine lv_iconst (v := nI 1) hx hb dX11_init_55 (by decide) ?_
  refine hp_eqi (z := nB true) (by decide) ?_
  refine hp_put hx hb hown hS.2.1 hH (P_X11_29.use hS) f_o (nB_nar _) (nB_fit _) (Nat.le_of_ble_eq_true rfl) dX11_init_56 (fun H locs μ1 fz fn hH => ?_)
  have f_n0 := (fn _ (by omega)).trans f_n0
  have f_n1 := (fn _ (by omega)).trans f_n1
  have f_n2 := (fn _ (by omega)).trans f_n2
  have f_n3 := (fn _ (by omega)).trans f_n3
  have f_n4 := (fn _ (by omega)).trans f_n4
  have f_n5 := (fn _ (by omega)).trans f_n5
  have f_o : μ1 o = some (hp_o 7 [.int (nI 0), .ref nx, .ref (nx + 1), .ref (nx + 2), .ref (nx + 3), .ref (nx + 4), .ref (nx + 5), .int (nB true), .int (nI 0), .null, .int (nI 0), .null, .null, .int (nI 0), .int (nI 0), .int (nI 0), .null, .int (nI 0), .null, .int (nI 0), .null, .int (nI 0), .null, .int (nI 0), .int (nI 0), .null, .null, .int (nI 0), .null]) := fz
  have fr := hp_eq.put fr (by simp) fn
  clear fz fn
  refine lv_aload_n hx hb dX11_init_59 rfl (lv_at hl 0 rfl) ?_
  refine lv_sipush (v := nI 160) hx hb dX11_init_60 (by decide) ?_
  have hO := hH
  refine hp_newi hx hb (hS.1 _ wi_88 _) hS.ni hH (nI_pos (by omega)) (nI_clamp (by omega)) (by omega) (Nat.le_of_ble_eq_true rfl) (Nat.le_of_ble_eq_true rfl) dX11_init_63 (fun H μ1 fz fn hH => ?_)
  have f_o := (fn _ (Nat.ne_of_lt (hO.lt f_o))).trans f_o
  have f_n0 := (fn _ (Nat.ne_of_lt (hO.lt f_n0))).trans f_n0
  have f_n1 := (fn _ (Nat.ne_of_lt (hO.lt f_n1))).trans f_n1
  have f_n2 := (fn _ (Nat.ne_of_lt (hO.lt f_n2))).trans f_n2
  have f_n3 := (fn _ (Nat.ne_of_lt (hO.lt f_n3))).trans f_n3
  have f_n4 := (fn _ (Nat.ne_of_lt (hO.lt f_n4))).trans f_n4
  have f_n5 := (fn _ (Nat.ne_of_lt (hO.lt f_n5))).trans f_n5
  have f_n6 : μ1 (nx + 6) = some (hp_n X 160 (fun _ => 0)) := fz
  have fr := hp_eq.put fr (by simp) fn
  clear fz fn hO
  refine hp_putF hx hb hown hS.2.1 hH (P_X11_33.use hS) hin f_o rfl rfl (Nat.le_of_ble_eq_true rfl) dX11_init_65 (fun H locs μ1 fz fn hH => ?_)
  have f_n0 := (fn _ (by omega)).trans f_n0
  have f_n1 := (fn _ (by omega)).trans f_n1
  have f_n2 := (fn _ (by omega)).trans f_n2
  have f_n3 := (fn _ (by omega)).trans f_n3
  have f_n4 := (fn _ (by omega)).trans f_n4
  have f_n5 := (fn _ (by omega)).trans f_n5
  have f_n6 := (fn _ (by omega)).trans f_n6
  have f_o : μ1 o = some (hp_o 7 [.int (nI 0), .ref nx, .ref (nx + 1), .ref (nx + 2), .ref (nx + 3), .ref (nx + 4), .ref (nx + 5), .int (nB true), .int (nI 0), .ref (nx + 6), .int (nI 0), .null, .null, .int (nI 0), .int (nI 0), .int (nI 0), .null, .int (nI 0), .null, .int (nI 0), .null, .int (nI 0), .null, .int (nI 0), .int (nI 0), .null, .null, .int (nI 0), .null]) := fz
  have fr := hp_eq.put fr (by simp) fn
  clear fz fn
  refine lv_aload_n hx hb dX11_init_68 rfl (lv_at hl 0 rfl) ?_
  refine lv_sipush (v := nI 160) hx hb dX11_init_69 (by decide) ?_
  have hO := hH
  refine hp_newi hx hb (hS.1 _ wi_88 _) hS.ni hH (nI_pos (by omega)) (nI_clamp (by omega)) (by omega) (Nat.le_of_ble_eq_true rfl) (Nat.le_of_ble_eq_true rfl) dX11_init_72 (fun H μ1 fz fn hH => ?_)
  have f_o := (fn _ (Nat.ne_of_lt (hO.lt f_o))).trans f_o
  have f_n0 := (fn _ (Nat.ne_of_lt (hO.lt f_n0))).trans f_n0
  have f_n1 := (fn _ (Nat.ne_of_lt (hO.lt f_n1))).trans f_n1
  have f_n2 := (fn _ (Nat.ne_of_lt (hO.lt f_n2))).trans f_n2
  have f_n3 := (fn _ (Nat.ne_of_lt (hO.lt f_n3))).trans f_n3
  have f_n4 := (fn _ (Nat.ne_of_lt (hO.lt f_n4))).trans f_n4
  have f_n5 := (fn _ (Nat.ne_of_lt (hO.lt f_n5))).trans f_n5
  have f_n6 := (fn _ (Nat.ne_of_lt (hO.lt f_n6))).trans f_n6
  have f_n7 : μ1 (nx + 7) = some (hp_n X 160 (fun _ => 0)) := fz
  have fr := hp_eq.put fr (by simp) fn
  clear fz fn hO
  refine hp_putF hx hb hown hS.2.1 hH (P_X11_36.use hS) hin f_o rfl rfl (Nat.le_of_ble_eq_true rfl) dX11_init_74 (fun H locs μ1 fz fn hH => ?_)
  have f_n0 := (fn _ (by omega)).trans f_n0
  have f_n1 := (fn _ (by omega)).trans f_n1
  have f_n2 := (fn _ (by omega)).trans f_n2
  have f_n3 := (fn _ (by omega)).trans f_n3
  have f_n4 := (fn _ (by omega)).trans f_n4
  have f_n5 := (fn _ (by omega)).trans f_n5
  have f_n6 := (fn _ (by omega)).trans f_n6
  have f_n7 := (fn _ (by omega)).trans f_n7
  have f_o : μ1 o = some (hp_o 7 [.int (nI 0), .ref nx, .ref (nx + 1), .ref (nx + 2), .ref (nx + 3), .ref (nx + 4), .ref (nx + 5), .int (nB true), .int (nI 0), .ref (nx + 6), .int (nI 0), .ref (nx + 7), .null, .int (nI 0), .int (nI 0), .int (nI 0), .null, .int (nI 0), .null, .int (nI 0), .null, .int (nI 0), .null, .int (nI 0), .int (nI 0), .null, .null, .int (nI 0), .null]) := fz
  have fr := hp_eq.put fr (by simp) fn
  clear fz fn
  refine lv_aload_n hx hb dX11_init_77 rfl (lv_at hl 0 rfl) ?_
  refine lv_bipush (v := nI 18) hx hb dX11_init_78 (by decide) ?_
  have hO := hH
  refine hp_newi hx hb (hS.1 _ wi_88 _) hS.ni hH (nI_pos (by omega)) (nI_clamp (by omega)) (by omega) (Nat.le_of_ble_eq_true rfl) (Nat.le_of_ble_eq_true rfl) dX11_init_80 (fun H μ1 fz fn hH => ?_)
  have f_o := (fn _ (Nat.ne_of_lt (hO.lt f_o))).trans f_o
  have f_n0 := (fn _ (Nat.ne_of_lt (hO.lt f_n0))).trans f_n0
  have f_n1 := (fn _ (Nat.ne_of_lt (hO.lt f_n1))).trans f_n1
  have f_n2 := (fn _ (Nat.ne_of_lt (hO.lt f_n2))).trans f_n2
  have f_n3 := (fn _ (Nat.ne_of_lt (hO.lt f_n3))).trans f_n3
  have f_n4 := (fn _ (Nat.ne_of_lt (hO.lt f_n4))).trans f_n4
  have f_n5 := (fn _ (Nat.ne_of_lt (hO.lt f_n5))).trans f_n5
  have f_n6 := (fn _ (Nat.ne_of_lt (hO.lt f_n6))).trans f_n6
  have f_n7 := (fn _ (Nat.ne_of_lt (hO.lt f_n7))).trans f_n7
  have f_n8 : μ1 (nx + 8) = some (hp_n X 18 (fun _ => 0)) := fz
  have fr := hp_eq.put fr (by simp) fn
  clear fz fn hO
  refine hp_putF hx hb hown hS.2.1 hH (P_X11_39.use hS) hin f_o rfl rfl (Nat.le_of_ble_eq_true rfl) dX11_init_82 (fun H locs μ1 fz fn hH => ?_)
  have f_n0 := (fn _ (by omega)).trans f_n0
  have f_n1 := (fn _ (by omega)).trans f_n1
  have f_n2 := (fn _ (by omega)).trans f_n2
  have f_n3 := (fn _ (by omega)).trans f_n3
  have f_n4 := (fn _ (by omega)).trans f_n4
  have f_n5 := (fn _ (by omega)).trans f_n5
  have f_n6 := (fn _ (by omega)).trans f_n6
  have f_n7 := (fn _ (by omega)).trans f_n7
  have f_n8 := (fn _ (by omega)).trans f_n8
  have f_o : μ1 o = some (hp_o 7 [.int (nI 0), .ref nx, .ref (nx + 1), .ref (nx + 2), .ref (nx + 3), .ref (nx + 4), .ref (nx + 5), .int (nB true), .int (nI 0), .ref (nx + 6), .int (nI 0), .ref (nx + 7), .ref (nx + 8), .int (nI 0), .int (nI 0), .int (nI 0), .null, .int (nI 0), .null, .int (nI 0), .null, .int (nI 0), .null, .int (nI 0), .int (nI 0), .null, .null, .int (nI 0), .null]) := fz
  have fr := hp_eq.put fr (by simp) fn
  clear fz fn
  refine lv_aload_n hx hb dX11_init_85 rfl (lv_at hl 0 rfl) ?_
  refine lv_bipush (v := nI 48) hx hb dX11_init_86 (by decide) ?_
  have hO := hH
  refine hp_newi hx hb (hS.1 _ wi_88 _) hS.ni hH (nI_pos (by omega)) (nI_clamp (by omega)) (by omega) (Nat.le_of_ble_eq_true rfl) (Nat.le_of_ble_eq_true rfl) dX11_init_88 (fun H μ1 fz fn hH => ?_)
  have f_o := (fn _ (Nat.ne_of_lt (hO.lt f_o))).trans f_o
  have f_n0 := (fn _ (Nat.ne_of_lt (hO.lt f_n0))).trans f_n0
  have f_n1 := (fn _ (Nat.ne_of_lt (hO.lt f_n1))).trans f_n1
  have f_n2 := (fn _ (Nat.ne_of_lt (hO.lt f_n2))).trans f_n2
  have f_n3 := (fn _ (Nat.ne_of_lt (hO.lt f_n3))).trans f_n3
  have f_n4 := (fn _ (Nat.ne_of_lt (hO.lt f_n4))).trans f_n4
  have f_n5 := (fn _ (Nat.ne_of_lt (hO.lt f_n5))).trans f_n5
  have f_n6 := (fn _ (Nat.ne_of_lt (hO.lt f_n6))).trans f_n6
  have f_n7 := (fn _ (Nat.ne_of_lt (hO.lt f_n7))).trans f_n7
  have f_n8 := (fn _ (Nat.ne_of_lt (hO.lt f_n8))).trans f_n8
  have f_n9 : μ1 (nx + 9) = some (hp_n X 48 (fun _ => 0)) := fz
  have fr := hp_eq.put fr (by simp) fn
  clear fz fn hO
  refine hp_putF hx hb hown hS.2.1 hH (P_X11_42.use hS) hin f_o rfl rfl (Nat.le_of_ble_eq_true rfl) dX11_init_90 (fun H locs μ1 fz fn hH => ?_)
  have f_n0 := (fn _ (by omega)).trans f_n0
  have f_n1 := (fn _ (by omega)).trans f_n1
  have f_n2 := (fn _ (by omega)).trans f_n2
  have f_n3 := (fn _ (by omega)).trans f_n3
  have f_n4 := (fn _ (by omega)).trans f_n4
  have f_n5 := (fn _ (by omega)).trans f_n5
  have f_n6 := (fn _ (by omega)).trans f_n6
  have f_n7 := (fn _ (by omega)).trans f_n7
  have f_n8 := (fn _ (by omega)).trans f_n8
  have f_n9 := (fn _ (by omega)).trans f_n9
  have f_o : μ1 o = some (hp_o 7 [.int (nI 0), .ref nx, .ref (nx + 1), .ref (nx + 2), .ref (nx + 3), .ref (nx + 4), .ref (nx + 5), .int (nB true), .int (nI 0), .ref (nx + 6), .int (nI 0), .ref (nx + 7), .ref (nx + 8), .int (nI 0), .int (nI 0), .int (nI 0), .ref (nx + 9), .int (nI 0), .null, .int (nI 0), .null, .int (nI 0), .null, .int (nI 0), .int (nI 0), .null, .null, .int (nI 0), .null]) := fz
  have fr := hp_eq.put fr (by simp) fn
  clear fz fn
  refine lv_aload_n hx hb dX11_init_93 rfl (lv_at hl 0 rfl) ?_
  refine lv_bipush (v := nI 64) hx hb dX11_init_94 (by decide) ?_
  have hO := hH
  refine hp_newi hx hb (hS.1 _ wi_88 _) hS.ni hH (nI_pos (by omega)) (nI_clamp (by omega)) (by omega) (Nat.le_of_ble_eq_true rfl) (Nat.le_of_ble_eq_true rfl) dX11_init_96 (fun H μ1 fz fn hH => ?_)
  have f_o := (fn _ (Nat.ne_of_lt (hO.lt f_o))).trans f_o
  have f_n0 := (fn _ (Nat.ne_of_lt (hO.lt f_n0))).trans f_n0
  have f_n1 := (fn _ (Nat.ne_of_lt (hO.lt f_n1))).trans f_n1
  have f_n2 := (fn _ (Nat.ne_of_lt (hO.lt f_n2))).trans f_n2
  have f_n3 := (fn _ (Nat.ne_of_lt (hO.lt f_n3))).trans f_n3
  have f_n4 := (fn _ (Nat.ne_of_lt (hO.lt f_n4))).trans f_n4
  have f_n5 := (fn _ (Nat.ne_of_lt (hO.lt f_n5))).trans f_n5
  have f_n6 := (fn _ (Nat.ne_of_lt (hO.lt f_n6))).trans f_n6
  have f_n7 := (fn _ (Nat.ne_of_lt (hO.lt f_n7))).trans f_n7
  have f_n8 := (fn _ (Nat.ne_of_lt (hO.lt f_n8))).trans f_n8
  have f_n9 := (fn _ (Nat.ne_of_lt (hO.lt f_n9))).trans f_n9
  have f_n10 : μ1 (nx + 10) = some (hp_n X 64 (fun _ => 0)) := fz
  have fr := hp_eq.put fr (by simp) fn
  clear fz fn hO
  refine hp_putF hx hb hown hS.2.1 hH (P_X11_45.use hS) hin f_o rfl rfl (Nat.le_of_ble_eq_true rfl) dX11_init_98 (fun H locs μ1 fz fn hH => ?_)
  have f_n0 := (fn _ (by omega)).trans f_n0
  have f_n1 := (fn _ (by omega)).trans f_n1
  have f_n2 := (fn _ (by omega)).trans f_n2
  have f_n3 := (fn _ (by omega)).trans f_n3
  have f_n4 := (fn _ (by omega)).trans f_n4
  have f_n5 := (fn _ (by omega)).trans f_n5
  have f_n6 := (fn _ (by omega)).trans f_n6
  have f_n7 := (fn _ (by omega)).trans f_n7
  have f_n8 := (fn _ (by omega)).trans f_n8
  have f_n9 := (fn _ (by omega)).trans f_n9
  have f_n10 := (fn _ (by omega)).trans f_n10
  have f_o : μ1 o = some (hp_o 7 [.int (nI 0), .ref nx, .ref (nx + 1), .ref (nx + 2), .ref (nx + 3), .ref (nx + 4), .ref (nx + 5), .int (nB true), .int (nI 0), .ref (nx + 6), .int (nI 0), .ref (nx + 7), .ref (nx + 8), .int (nI 0), .int (nI 0), .int (nI 0), .ref (nx + 9), .int (nI 0), .ref (nx + 10), .int (nI 0), .null, .int (nI 0), .null, .int (nI 0), .int (nI 0), .null, .null, .int (nI 0), .null]) := fz
  have fr := hp_eq.put fr (by simp) fn
  clear fz fn
  refine lv_aload_n hx hb dX11_init_101 rfl (lv_at hl 0 rfl) ?_
  refine lv_bipush (v := nI 64) hx hb dX11_init_102 (by decide) ?_
  have hO := hH
  refine hp_newi hx hb (hS.1 _ wi_88 _) hS.ni hH (nI_pos (by omega)) (nI_clamp (by omega)) (by omega) (Nat.le_of_ble_eq_true rfl) (Nat.le_of_ble_eq_true rfl) dX11_init_104 (fun H μ1 fz fn hH => ?_)
  have f_o := (fn _ (Nat.ne_of_lt (hO.lt f_o))).trans f_o
  have f_n0 := (fn _ (Nat.ne_of_lt (hO.lt f_n0))).trans f_n0
  have f_n1 := (fn _ (Nat.ne_of_lt (hO.lt f_n1))).trans f_n1
  have f_n2 := (fn _ (Nat.ne_of_lt (hO.lt f_n2))).trans f_n2
  have f_n3 := (fn _ (Nat.ne_of_lt (hO.lt f_n3))).trans f_n3
  have f_n4 := (fn _ (Nat.ne_of_lt (hO.lt f_n4))).trans f_n4
  have f_n5 := (fn _ (Nat.ne_of_lt (hO.lt f_n5))).trans f_n5
  have f_n6 := (fn _ (Nat.ne_of_lt (hO.lt f_n6))).trans f_n6
  have f_n7 := (fn _ (Nat.ne_of_lt (hO.lt f_n7))).trans f_n7
  have f_n8 := (fn _ (Nat.ne_of_lt (hO.lt f_n8))).trans f_n8
  have f_n9 := (fn _ (Nat.ne_of_lt (hO.lt f_n9))).trans f_n9
  have f_n10 := (fn _ (Nat.ne_of_lt (hO.lt f_n10))).trans f_n10
  have f_n11 : μ1 (nx + 11) = some (hp_n X 64 (fun _ => 0)) := fz
  have fr := hp_eq.put fr (by simp) fn
  clear fz fn hO
  refine hp_putF hx hb hown hS.2.1 hH (P_X11_48.use hS) hin f_o rfl rfl (Nat.le_of_ble_eq_true rfl) dX11_init_106 (fun H locs μ1 fz fn hH => ?_)
  have f_n0 := (fn _ (by omega)).trans f_n0
  have f_n1 := (fn _ (by omega)).trans f_n1
  have f_n2 := (fn _ (by omega)).trans f_n2
  have f_n3 := (fn _ (by omega)).trans f_n3
  have f_n4 := (fn _ (by omega)).trans f_n4
  have f_n5 := (fn _ (by omega)).trans f_n5
  have f_n6 := (fn _ (by omega)).trans f_n6
  have f_n7 := (fn _ (by omega)).trans f_n7
  have f_n8 := (fn _ (by omega)).trans f_n8
  have f_n9 := (fn _ (by omega)).trans f_n9
  have f_n10 := (fn _ (by omega)).trans f_n10
  have f_n11 := (fn _ (by omega)).trans f_n11
  have f_o : μ1 o = some (hp_o 7 [.int (nI 0), .ref nx, .ref (nx + 1), .ref (nx + 2), .ref (nx + 3), .ref (nx + 4), .ref (nx + 5), .int (nB true), .int (nI 0), .ref (nx + 6), .int (nI 0), .ref (nx + 7), .ref (nx + 8), .int (nI 0), .int (nI 0), .int (nI 0), .ref (nx + 9), .int (nI 0), .ref (nx + 10), .int (nI 0), .ref (nx + 11), .int (nI 0), .null, .int (nI 0), .int (nI 0), .null, .null, .int (nI 0), .null]) := fz
  have fr := hp_eq.put fr (by simp) fn
  clear fz fn
  refine lv_aload_n hx hb dX11_init_109 rfl (lv_at hl 0 rfl) ?_
  refine lv_bipush (v := nI 64) hx hb dX11_init_110 (by decide) ?_
  have hO := hH
  refine hp_newi hx hb (hS.1 _ wi_88 _) hS.ni hH (nI_pos (by omega)) (nI_clamp (by omega)) (by omega) (Nat.le_of_ble_eq_true rfl) (Nat.le_of_ble_eq_true rfl) dX11_init_112 (fun H μ1 fz fn hH => ?_)
  have f_o := (fn _ (Nat.ne_of_lt (hO.lt f_o))).trans f_o
  have f_n0 := (fn _ (Nat.ne_of_lt (hO.lt f_n0))).trans f_n0
  have f_n1 := (fn _ (Nat.ne_of_lt (hO.lt f_n1))).trans f_n1
  have f_n2 := (fn _ (Nat.ne_of_lt (hO.lt f_n2))).trans f_n2
  have f_n3 := (fn _ (Nat.ne_of_lt (hO.lt f_n3))).trans f_n3
  have f_n4 := (fn _ (Nat.ne_of_lt (hO.lt f_n4))).trans f_n4
  have f_n5 := (fn _ (Nat.ne_of_lt (hO.lt f_n5))).trans f_n5
  have f_n6 := (fn _ (Nat.ne_of_lt (hO.lt f_n6))).trans f_n6
  have f_n7 := (fn _ (Nat.ne_of_lt (hO.lt f_n7))).trans f_n7
  have f_n8 := (fn _ (Nat.ne_of_lt (hO.lt f_n8))).trans f_n8
  have f_n9 := (fn _ (Nat.ne_of_lt (hO.lt f_n9))).trans f_n9
  have f_n10 := (fn _ (Nat.ne_of_lt (hO.lt f_n10))).trans f_n10
  have f_n11 := (fn _ (Nat.ne_of_lt (hO.lt f_n11))).trans f_n11
  have f_n12 : μ1 (nx + 12) = some (hp_n X 64 (fun _ => 0)) := fz
  have fr := hp_eq.put fr (by simp) fn
  clear fz fn hO
  refine hp_putF hx hb hown hS.2.1 hH (P_X11_51.use hS) hin f_o rfl rfl (Nat.le_of_ble_eq_true rfl) dX11_init_114 (fun H locs μ1 fz fn hH => ?_)
  have f_n0 := (fn _ (by omega)).trans f_n0
  have f_n1 := (fn _ (by omega)).trans f_n1
  have f_n2 := (fn _ (by omega)).trans f_n2
  have f_n3 := (fn _ (by omega)).trans f_n3
  have f_n4 := (fn _ (by omega)).trans f_n4
  have f_n5 := (fn _ (by omega)).trans f_n5
  have f_n6 := (fn _ (by omega)).trans f_n6
  have f_n7 := (fn _ (by omega)).trans f_n7
  have f_n8 := (fn _ (by omega)).trans f_n8
  have f_n9 := (fn _ (by omega)).trans f_n9
  have f_n10 := (fn _ (by omega)).trans f_n10
  have f_n11 := (fn _ (by omega)).trans f_n11
  have f_n12 := (fn _ (by omega)).trans f_n12
  have f_o : μ1 o = some (hp_o 7 [.int (nI 0), .ref nx, .ref (nx + 1), .ref (nx + 2), .ref (nx + 3), .ref (nx + 4), .ref (nx + 5), .int (nB true), .int (nI 0), .ref (nx + 6), .int (nI 0), .ref (nx + 7), .ref (nx + 8), .int (nI 0), .int (nI 0), .int (nI 0), .ref (nx + 9), .int (nI 0), .ref (nx + 10), .int (nI 0), .ref (nx + 11), .int (nI 0), .ref (nx + 12), .int (nI 0), .int (nI 0), .null, .null, .int (nI 0), .null]) := fz
  have fr := hp_eq.put fr (by simp) fn
  clear fz fn
  refine lv_aload_n hx hb dX11_init_117 rfl (lv_at hl 0 rfl) ?_
  refine lv_bipush (v := nI 40) hx hb dX11_init_118 (by decide) ?_
  have hO := hH
  refine hp_newi hx hb (hS.1 _ wi_88 _) hS.ni hH (nI_pos (by omega)) (nI_clamp (by omega)) (by omega) (Nat.le_of_ble_eq_true rfl) (Nat.le_of_ble_eq_true rfl) dX11_init_120 (fun H μ1 fz fn hH => ?_)
  have f_o := (fn _ (Nat.ne_of_lt (hO.lt f_o))).trans f_o
  have f_n0 := (fn _ (Nat.ne_of_lt (hO.lt f_n0))).trans f_n0
  have f_n1 := (fn _ (Nat.ne_of_lt (hO.lt f_n1))).trans f_n1
  have f_n2 := (fn _ (Nat.ne_of_lt (hO.lt f_n2))).trans f_n2
  have f_n3 := (fn _ (Nat.ne_of_lt (hO.lt f_n3))).trans f_n3
  have f_n4 := (fn _ (Nat.ne_of_lt (hO.lt f_n4))).trans f_n4
  have f_n5 := (fn _ (Nat.ne_of_lt (hO.lt f_n5))).trans f_n5
  have f_n6 := (fn _ (Nat.ne_of_lt (hO.lt f_n6))).trans f_n6
  have f_n7 := (fn _ (Nat.ne_of_lt (hO.lt f_n7))).trans f_n7
  have f_n8 := (fn _ (Nat.ne_of_lt (hO.lt f_n8))).trans f_n8
  have f_n9 := (fn _ (Nat.ne_of_lt (hO.lt f_n9))).trans f_n9
  have f_n10 := (fn _ (Nat.ne_of_lt (hO.lt f_n10))).trans f_n10
  have f_n11 := (fn _ (Nat.ne_of_lt (hO.lt f_n11))).trans f_n11
  have f_n12 := (fn _ (Nat.ne_of_lt (hO.lt f_n12))).trans f_n12
  have f_n13 : μ1 (nx + 13) = some (hp_n X 40 (fun _ => 0)) := fz
  have fr := hp_eq.put fr (by simp) fn
  clear fz fn hO
  refine hp_putF hx hb hown hS.2.1 hH (P_X11_54.use hS) hin f_o rfl rfl (Nat.le_of_ble_eq_true rfl) dX11_init_122 (fun H locs μ1 fz fn hH => ?_)
  have f_n0 := (fn _ (by omega)).trans f_n0
  have f_n1 := (fn _ (by omega)).trans f_n1
  have f_n2 := (fn _ (by omega)).trans f_n2
  have f_n3 := (fn _ (by omega)).trans f_n3
  have f_n4 := (fn _ (by omega)).trans f_n4
  have f_n5 := (fn _ (by omega)).trans f_n5
  have f_n6 := (fn _ (by omega)).trans f_n6
  have f_n7 := (fn _ (by omega)).trans f_n7
  have f_n8 := (fn _ (by omega)).trans f_n8
  have f_n9 := (fn _ (by omega)).trans f_n9
  have f_n10 := (fn _ (by omega)).trans f_n10
  have f_n11 := (fn _ (by omega)).trans f_n11
  have f_n12 := (fn _ (by omega)).trans f_n12
  have f_n13 := (fn _ (by omega)).trans f_n13
  have f_o : μ1 o = some (hp_o 7 [.int (nI 0), .ref nx, .ref (nx + 1), .ref (nx + 2), .ref (nx + 3), .ref (nx + 4), .ref (nx + 5), .int (nB true), .int (nI 0), .ref (nx + 6), .int (nI 0), .ref (nx + 7), .ref (nx + 8), .int (nI 0), .int (nI 0), .int (nI 0), .ref (nx + 9), .int (nI 0), .ref (nx + 10), .int (nI 0), .ref (nx + 11), .int (nI 0), .ref (nx + 12), .int (nI 0), .int (nI 0), .ref (nx + 13), .null, .int (nI 0), .null]) := fz
  have fr := hp_eq.put fr (by simp) fn
  clear fz fn
  refine lv_aload_n hx hb dX11_init_125 rfl (lv_at hl 0 rfl) ?_
  refine lv_sipush (v := nI 400) hx hb dX11_init_126 (by decide) ?_
  have hO := hH
  refine hp_newi hx hb (hS.1 _ wi_88 _) hS.ni hH (nI_pos (by omega)) (nI_clamp (by omega)) (by omega) (Nat.le_of_ble_eq_true rfl) (Nat.le_of_ble_eq_true rfl) dX11_init_129 (fun H μ1 fz fn hH => ?_)
  have f_o := (fn _ (Nat.ne_of_lt (hO.lt f_o))).trans f_o
  have f_n0 := (fn _ (Nat.ne_of_lt (hO.lt f_n0))).trans f_n0
  have f_n1 := (fn _ (Nat.ne_of_lt (hO.lt f_n1))).trans f_n1
  have f_n2 := (fn _ (Nat.ne_of_lt (hO.lt f_n2))).trans f_n2
  have f_n3 := (fn _ (Nat.ne_of_lt (hO.lt f_n3))).trans f_n3
  have f_n4 := (fn _ (Nat.ne_of_lt (hO.lt f_n4))).trans f_n4
  have f_n5 := (fn _ (Nat.ne_of_lt (hO.lt f_n5))).trans f_n5
  have f_n6 := (fn _ (Nat.ne_of_lt (hO.lt f_n6))).trans f_n6
  have f_n7 := (fn _ (Nat.ne_of_lt (hO.lt f_n7))).trans f_n7
  have f_n8 := (fn _ (Nat.ne_of_lt (hO.lt f_n8))).trans f_n8
  have f_n9 := (fn _ (Nat.ne_of_lt (hO.lt f_n9))).trans f_n9
  have f_n10 := (fn _ (Nat.ne_of_lt (hO.lt f_n10))).trans f_n10
  have f_n11 := (fn _ (Nat.ne_of_lt (hO.lt f_n11))).trans f_n11
  have f_n12 := (fn _ (Nat.ne_of_lt (hO.lt f_n12))).trans f_n12
  have f_n13 := (fn _ (Nat.ne_of_lt (hO.lt f_n13))).trans f_n13
  have f_n14 : μ1 (nx + 14) = some (hp_n X 400 (fun _ => 0)) := fz
  have fr := hp_eq.put fr (by simp) fn
  clear fz fn hO
  refine hp_putF hx hb hown hS.2.1 hH (P_X11_57.use hS) hin f_o rfl rfl (Nat.le_of_ble_eq_true rfl) dX11_init_131 (fun H locs μ1 fz fn hH => ?_)
  have f_n0 := (fn _ (by omega)).trans f_n0
  have f_n1 := (fn _ (by omega)).trans f_n1
  have f_n2 := (fn _ (by omega)).trans f_n2
  have f_n3 := (fn _ (by omega)).trans f_n3
  have f_n4 := (fn _ (by omega)).trans f_n4
  have f_n5 := (fn _ (by omega)).trans f_n5
  have f_n6 := (fn _ (by omega)).trans f_n6
  have f_n7 := (fn _ (by omega)).trans f_n7
  have f_n8 := (fn _ (by omega)).trans f_n8
  have f_n9 := (fn _ (by omega)).trans f_n9
  have f_n10 := (fn _ (by omega)).trans f_n10
  have f_n11 := (fn _ (by omega)).trans f_n11
  have f_n12 := (fn _ (by omega)).trans f_n12
  have f_n13 := (fn _ (by omega)).trans f_n13
  have f_n14 := (fn _ (by omega)).trans f_n14
  have f_o : μ1 o = some (hp_o 7 [.int (nI 0), .ref nx, .ref (nx + 1), .ref (nx + 2), .ref (nx + 3), .ref (nx + 4), .ref (nx + 5), .int (nB true), .int (nI 0), .ref (nx + 6), .int (nI 0), .ref (nx + 7), .ref (nx + 8), .int (nI 0), .int (nI 0), .int (nI 0), .ref (nx + 9), .int (nI 0), .ref (nx + 10), .int (nI 0), .ref (nx + 11), .int (nI 0), .ref (nx + 12), .int (nI 0), .int (nI 0), .ref (nx + 13), .ref (nx + 14), .int (nI 0), .null]) := fz
  have fr := hp_eq.put fr (by simp) fn
  clear fz fn
  refine lv_aload_n hx hb dX11_init_134 rfl (lv_at hl 0 rfl) ?_
  refine lv_bipush (v := nI 40) hx hb dX11_init_135 (by decide) ?_
  have hO := hH
  refine hp_newi hx hb (hS.1 _ wi_88 _) hS.ni hH (nI_pos (by omega)) (nI_clamp (by omega)) (by omega) (Nat.le_of_ble_eq_true rfl) (Nat.le_of_ble_eq_true rfl) dX11_init_137 (fun H μ1 fz fn hH => ?_)
  have f_o := (fn _ (Nat.ne_of_lt (hO.lt f_o))).trans f_o
  have f_n0 := (fn _ (Nat.ne_of_lt (hO.lt f_n0))).trans f_n0
  have f_n1 := (fn _ (Nat.ne_of_lt (hO.lt f_n1))).trans f_n1
  have f_n2 := (fn _ (Nat.ne_of_lt (hO.lt f_n2))).trans f_n2
  have f_n3 := (fn _ (Nat.ne_of_lt (hO.lt f_n3))).trans f_n3
  have f_n4 := (fn _ (Nat.ne_of_lt (hO.lt f_n4))).trans f_n4
  have f_n5 := (fn _ (Nat.ne_of_lt (hO.lt f_n5))).trans f_n5
  have f_n6 := (fn _ (Nat.ne_of_lt (hO.lt f_n6))).trans f_n6
  have f_n7 := (fn _ (Nat.ne_of_lt (hO.lt f_n7))).trans f_n7
  have f_n8 := (fn _ (Nat.ne_of_lt (hO.lt f_n8))).trans f_n8
  have f_n9 := (fn _ (Nat.ne_of_lt (hO.lt f_n9))).trans f_n9
  have f_n10 := (fn _ (Nat.ne_of_lt (hO.lt f_n10))).trans f_n10
  have f_n11 := (fn _ (Nat.ne_of_lt (hO.lt f_n11))).trans f_n11
  have f_n12 := (fn _ (Nat.ne_of_lt (hO.lt f_n12))).trans f_n12
  have f_n13 := (fn _ (Nat.ne_of_lt (hO.lt f_n13))).trans f_n13
  have f_n14 := (fn _ (Nat.ne_of_lt (hO.lt f_n14))).trans f_n14
  have f_n15 : μ1 (nx + 15) = some (hp_n X 40 (fun _ => 0)) := fz
  have fr := hp_eq.put fr (by simp) fn
  clear fz fn hO
  refine hp_putF hx hb hown hS.2.1 hH (P_X11_60.use hS) hin f_o rfl rfl (Nat.le_of_ble_eq_true rfl) dX11_init_139 (fun H locs μ1 fz fn hH => ?_)
  have f_n0 := (fn _ (by omega)).trans f_n0
  have f_n1 := (fn _ (by omega)).trans f_n1
  have f_n2 := (fn _ (by omega)).trans f_n2
  have f_n3 := (fn _ (by omega)).trans f_n3
  have f_n4 := (fn _ (by omega)).trans f_n4
  have f_n5 := (fn _ (by omega)).trans f_n5
  have f_n6 := (fn _ (by omega)).trans f_n6
  have f_n7 := (fn _ (by omega)).trans f_n7
  have f_n8 := (fn _ (by omega)).trans f_n8
  have f_n9 := (fn _ (by omega)).trans f_n9
  have f_n10 := (fn _ (by omega)).trans f_n10
  have f_n11 := (fn _ (by omega)).trans f_n11
  have f_n12 := (fn _ (by omega)).trans f_n12
  have f_n13 := (fn _ (by omega)).trans f_n13
  have f_n14 := (fn _ (by omega)).trans f_n14
  have f_n15 := (fn _ (by omega)).trans f_n15
  have f_o : μ1 o = some (hp_o 7 [.int (nI 0), .ref nx, .ref (nx + 1), .ref (nx + 2), .ref (nx + 3), .ref (nx + 4), .ref (nx + 5), .int (nB true), .int (nI 0), .ref (nx + 6), .int (nI 0), .ref (nx + 7), .ref (nx + 8), .int (nI 0), .int (nI 0), .int (nI 0), .ref (nx + 9), .int (nI 0), .ref (nx + 10), .int (nI 0), .ref (nx + 11), .int (nI 0), .ref (nx + 12), .int (nI 0), .int (nI 0), .ref (nx + 13), .ref (nx + 14), .int (nI 0), .ref (nx + 15)]) := fz
  have fr := hp_eq.put fr (by simp) fn
  clear fz fn
  refine W.widen (k := 16) (n := 3336) (by decide) (by decide) ?_
  exact hp_rv hx hb hr hlocks hS hH (⟨rfl, f_o, f_n0, f_n1, f_n2, f_n3, f_n4, f_n5, f_n6, f_n7, f_n8, f_n9, f_n10, f_n11, f_n12, f_n13, f_n14, f_n15, fr⟩) dX11_init_142
