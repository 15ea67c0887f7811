set_option maxHeartbeats 4000000 in
set_option maxRecDepth 100000 in
theorem c_X9_say_0 (l : Launch) (X : hp_X) {μ : hp_M} {nx : Nat} {t s1 lv st le : Nat} {aw : Bool} {sh : Nat → Nat} {f k fl se td tc : Nat} {a on ze len : Nat} (hsh : ∀ j, sh j < 2 ^ 40) (hon : on < 2 ^ 64) (hze : ze < 2 ^ 64) (hl1 : len < 2 ^ 31) (hle : 1 ≤ le) (hle3 : le ≤ 3) (hlv : lv ≤ 3) (hlv1 : 1 ≤ lv) (hse : se < 256) (htc : 0 = 2 → tc ≤ 40) (f_t : μ t = some (hp_o 5 [.int (nI lv), .ref s1, .int (nB aw), .int (nI st), .int (nI le)])) (f_s : μ s1 = some (hp_m X 3 sh)) (f_f : μ f = some (hp_o 2 [.ref (X.2.2.2 k), .int (nI fl), .int (nI se), .long (lN td), .int (nI tc)])) (f_a : μ a = some (hp_o 1 [.long (lN on), .long (lN ze), .int (nI len)])) : Ct l X yX9_say cX9_say 9 (none : Option Jvm.ClassFile.FieldType) 3 120 0 0 [.ref t, .ref (X.2.2.2 (8 + 0)), .ref f, .ref a] μ nx (hq_v X (po_v nx (fun z => z a = some (hp_o 1 [.long (lN (on ||| (saB 0 lv (sh (le - 1)) se tc) % 2 ^ (saL 0 tc))), .long (lN (ze ||| czN (saB 0 lv (sh (le - 1)) se tc) (saL 0 tc))), .int (nI (max len (saL 0 tc)))]) ∧ hp_eq [a] z μ))) := by
  refine hp_met (by decide) (Nat.le_of_ble_eq_true rfl) ?_
  intro p e s m below meth c ls hx hb hml hr hlocks hown hin hS hH hl
  have hl : lv_has ls 9 [(0, .ref t), (1, .ref (X.2.2.2 (8 + 0))), (2, .ref f), (3, .ref a)] := hl
  have fr : hp_eq [a] μ μ := fun _ _ => rfl
  refine hp_gets hx hb hS.sw hH hown G_X9_132 hS dX9_say_0 ?_
  refine lv_aload_n hx hb dX9_say_3 rfl (lv_at hl 1 rfl) ?_
  refine hp_ord (j := 0) hx hb hml hown hS hH (by decide) hl.1 (Nat.le_of_ble_eq_true rfl) dX9_say_4 ⟨Nat.le_of_ble_eq_true rfl, Nat.le_of_ble_eq_true rfl⟩ ⟨Nat.le_of_ble_eq_true rfl, Nat.le_of_ble_eq_true rfl⟩ (fun H locs hH => ?_)
  refine hp_ti (N := 7) (j := 0) hx hb hS.2.2.2.2.2.1 hH (by decide) (by decide) rfl dX9_say_7 ?_
  refine lv_tableOut (tgt := 198) hx hb dX9_say_8 (by decide) (by decide) ?_
  exact hp_rv hx hb hr hlocks hS hH (⟨rfl, f_a.trans (by simp [saL, saB, czN, Nat.mod_one]), fr⟩) dX9_say_198

set_option maxHeartbeats 4000000 in
set_option maxRecDepth 100000 in
theorem c_X9_say_1 (l : Launch) (X : hp_X) {μ : hp_M} {nx : Nat} {t s1 lv st le : Nat} {aw : Bool} {sh : Nat → Nat} {f k fl se td tc : Nat} {a on ze len : Nat} (hsh : ∀ j, sh j < 2 ^ 40) (hon : on < 2 ^ 64) (hze : ze < 2 ^ 64) (hl1 : len < 2 ^ 31) (hle : 1 ≤ le) (hle3 : le ≤ 3) (hlv : lv ≤ 3) (hlv1 : 1 ≤ lv) (hse : se < 256) (htc : 1 = 2 → tc ≤ 40) (f_t : μ t = some (hp_o 5 [.int (nI lv), .ref s1, .int (nB aw), .int (nI st), .int (nI le)])) (f_s : μ s1 = some (hp_m X 3 sh)) (f_f : μ f = some (hp_o 2 [.ref (X.2.2.2 k), .int (nI fl), .int (nI se), .long (lN td), .int (nI tc)])) (f_a : μ a = some (hp_o 1 [.long (lN on), .long (lN ze), .int (nI len)])) : Ct l X yX9_say cX9_say 9 (none : Option Jvm.ClassFile.FieldType) 3 120 0 0 [.ref t, .ref (X.2.2.2 (8 + 1)), .ref f, .ref a] μ nx (hq_v X (po_v nx (fun z => z a = some (hp_o 1 [.long (lN (on ||| (saB 1 lv (sh (le - 1)) se tc) % 2 ^ (saL 1 tc))), .long (lN (ze ||| czN (saB 1 lv (sh (le - 1)) se tc) (saL 1 tc))), .int (nI (max len (saL 1 tc)))]) ∧ hp_eq [a] z μ))) := by
  refine hp_met (by decide) (Nat.le_of_ble_eq_true rfl) ?_
  intro p e s m below meth c ls hx hb hml hr hlocks hown hin hS hH hl
  have hl : lv_has ls 9 [(0, .ref t), (1, .ref (X.2.2.2 (8 + 1))), (2, .ref f), (3, .ref a)] := hl
  have fr : hp_eq [a] μ μ := fun _ _ => rfl
  refine hp_gets hx hb hS.sw hH hown G_X9_132 hS dX9_say_0 ?_
  refine lv_aload_n hx hb dX9_say_3 rfl (lv_at hl 1 rfl) ?_
  refine hp_ord (j := 1) hx hb hml hown hS hH (by decide) hl.1 (Nat.le_of_ble_eq_true rfl) dX9_say_4 ⟨Nat.le_of_ble_eq_true rfl, Nat.le_of_ble_eq_true rfl⟩ ⟨Nat.le_of_ble_eq_true rfl, Nat.le_of_ble_eq_true rfl⟩ (fun H locs hH => ?_)
  refine hp_ti (N := 7) (j := 1) hx hb hS.2.2.2.2.2.1 hH (by decide) (by decide) rfl dX9_say_7 ?_
  refine lv_tableIn (off := 40) (tgt := 48) hx hb dX9_say_8 (by decide) (by decide) rfl (by decide) ?_
  refine lv_aload_n hx hb dX9_say_48 rfl (lv_at hl 3 rfl) ?_
  refine lv_iconst (v := nI 4) hx hb dX9_say_49 (by decide) ?_
  refine lv_bipush (v := nI 64) hx hb dX9_say_50 (by decide) ?_
  refine lv_aload_n hx hb dX9_say_52 rfl (lv_at hl 0 rfl) ?_
  refine hp_get hx hb hown hS.2.1 hH (F_X9_22.use hS) f_t rfl dX9_say_53 ?_
  refine lv_iconst (v := nI 1) hx hb dX9_say_56 (by decide) ?_
  refine lv_isub hx hb dX9_say_57 ?_
  refine hp_eqi (z := nI (lv - 1)) (pk_sub (by omega)) ?_
  refine lv_imul hx hb dX9_say_58 ?_
  refine hp_eqi (z := nI (64 * (lv - 1))) (pk_mul _ _) ?_
  refine lv_iadd hx hb dX9_say_59 ?_
  refine hp_eqi (z := nI (4 + (64 * (lv - 1)))) (nI_add _ _) ?_
  refine lv_i2l hx hb dX9_say_60 rfl ?_
  refine hp_eql (z := lN (4 + 64 * (lv - 1))) (nI_l (by omega)) ?_
  refine lv_iconst (v := nI 2) hx hb dX9_say_61 (by decide) ?_
  refine hp_klp (hp_runS (As := [.long (lN (4 + 64 * (lv - 1))), .int (nI 2)]) (rest := [.ref a]) hx hb hml hown hS hH (c_X3_octetsOf l X (B := 4 + 64 * (lv - 1)) (n := 2) (by omega) (by decide)) M_X9_142 S_X3_octetsOf rfl hl.1 rfl (Nat.le_of_ble_eq_true rfl) dX9_say_62 ⟨Nat.le_of_ble_eq_true rfl, Nat.le_of_ble_eq_true rfl⟩ ⟨Nat.le_of_ble_eq_true rfl, Nat.le_of_ble_eq_true rfl⟩) hH (fun H locs hH => ?_)
  refine lv_bipush (v := nI 18) hx hb dX9_say_65 (by decide) ?_
  refine hp_kvm (hp_runV (As := [.long (lN (octN (4 + 64 * (lv - 1)) 2)), .int (nI 18)]) (rest := []) hx hb hml hown hS hH (c_X2_lay l X (B := octN (4 + 64 * (lv - 1)) 2) (n := 18) (oct64 _ _ (by decide)) hon hze (by omega) hl1 f_a) M_X9_148 I_X2_lay V_X2_lay (ci := 1) rfl rfl f_a rfl hl.1 rfl (Nat.le_of_ble_eq_true rfl) dX9_say_67 ⟨Nat.le_of_ble_eq_true rfl, Nat.le_of_ble_eq_true rfl⟩ ⟨Nat.le_of_ble_eq_true rfl, Nat.le_of_ble_eq_true rfl⟩) hH (fun μ1 H locs hp hH => ?_)
  obtain ⟨fz0, fe⟩ := hp
  have f_t := (hp_e1 fe (hp_ne f_t f_a (by simp))).trans f_t
  have f_s := (hp_e1 fe (hp_ne f_s f_a (by simp))).trans f_s
  have f_f := (hp_e1 fe (hp_ne f_f f_a (by simp))).trans f_f
  have f_a : μ1 a = some (hp_o 1 [.long (lN (on ||| (octN (4 + 64 * (lv - 1)) 2) % 2 ^ (18))), .long (lN (ze ||| czN (octN (4 + 64 * (lv - 1)) 2) (18))), .int (nI (max len (18)))]) := fz0
  have fr := hp_eq.tr1 fe fr (by simp)
  clear fe fz0
  refine lv_goto (tgt := 198) hx hb dX9_say_70 (by decide) ?_
  exact hp_rv hx hb hr hlocks hS hH (⟨rfl, f_a, fr⟩) dX9_say_198

set_option maxHeartbeats 4000000 in
set_option maxRecDepth 100000 in
theorem c_X9_say_2 (l : Launch) (X : hp_X) {μ : hp_M} {nx : Nat} {t s1 lv st le : Nat} {aw : Bool} {sh : Nat → Nat} {f k fl se td tc : Nat} {a on ze len : Nat} (hsh : ∀ j, sh j < 2 ^ 40) (hon : on < 2 ^ 64) (hze : ze < 2 ^ 64) (hl1 : len < 2 ^ 31) (hle : 1 ≤ le) (hle3 : le ≤ 3) (hlv : lv ≤ 3) (hlv1 : 1 ≤ lv) (hse : se < 256) (htc : 2 = 2 → tc ≤ 40) (f_t : μ t = some (hp_o 5 [.int (nI lv), .ref s1, .int (nB aw), .int (nI st), .int (nI le)])) (f_s : μ s1 = some (hp_m X 3 sh)) (f_f : μ f = some (hp_o 2 [.ref (X.2.2.2 k), .int (nI fl), .int (nI se), .long (lN td), .int (nI tc)])) (f_a : μ a = some (hp_o 1 [.long (lN on), .long (lN ze), .int (nI len)])) : Ct l X yX9_say cX9_say 9 (none : Option Jvm.ClassFile.FieldType) 3 120 0 0 [.ref t, .ref (X.2.2.2 (8 + 2)), .ref f, .ref a] μ nx (hq_v X (po_v nx (fun z => z a = some (hp_o 1 [.long (lN (on ||| (saB 2 lv (sh (le - 1)) se tc) % 2 ^ (saL 2 tc))), .long (lN (ze ||| czN (saB 2 lv (sh (le - 1)) se tc) (saL 2 tc))), .int (nI (max len (saL 2 tc)))]) ∧ hp_eq [a] z μ))) := by
  refine hp_met (by decide) (Nat.le_of_ble_eq_true rfl) ?_
  intro p e s m below meth c ls hx hb hml hr hlocks hown hin hS hH hl
  have hl : lv_has ls 9 [(0, .ref t), (1, .ref (X.2.2.2 (8 + 2))), (2, .ref f), (3, .ref a)] := hl
  have fr : hp_eq [a] μ μ := fun _ _ => rfl
  have htc : tc ≤ 40 := htc rfl
  refine hp_gets hx hb hS.sw hH hown G_X9_132 hS dX9_say_0 ?_
  refine lv_aload_n hx hb dX9_say_3 rfl (lv_at hl 1 rfl) ?_
  refine hp_ord (j := 2) hx hb hml hown hS hH (by decide) hl.1 (Nat.le_of_ble_eq_true rfl) dX9_say_4 ⟨Nat.le_of_ble_eq_true rfl, Nat.le_of_ble_eq_true rfl⟩ ⟨Nat.le_of_ble_eq_true rfl, Nat.le_of_ble_eq_true rfl⟩ (fun H locs hH => ?_)
  refine hp_ti (N := 7) (j := 2) hx hb hS.2.2.2.2.2.1 hH (by decide) (by decide) rfl dX9_say_7 ?_
  refine lv_tableIn (off := 65) (tgt := 73) hx hb dX9_say_8 (by decide) (by decide) rfl (by decide) ?_
  refine lv_aload_n hx hb dX9_say_73 rfl (lv_at hl 2 rfl) ?_
  refine hp_get hx hb hown hS.2.1 hH (F_X9_110.use hS) f_f rfl dX9_say_74 ?_
  refine lv_aload_n hx hb dX9_say_77 rfl (lv_at hl 2 rfl) ?_
  refine hp_get hx hb hown hS.2.1 hH (F_X9_110.use hS) f_f rfl dX9_say_78 ?_
  refine lv_bipush (v := nI 8) hx hb dX9_say_81 (by decide) ?_
  refine lv_idiv hx hb dX9_say_83 (nI_ne0 (by omega) (by omega)) ?_
  refine hp_eqi (z := nI (tc / 8)) (pk_div (by omega) (by omega) (by omega)) ?_
  refine lv_iadd hx hb dX9_say_84 ?_
  refine hp_eqi (z := nI (tc + (tc / 8))) (nI_add _ _) ?_
  refine lv_istore (lv' := [(4, .int (nI (tc + (tc / 8)))), (0, .ref t), (1, .ref (X.2.2.2 (8 + 2))), (2, .ref f), (3, .ref a)]) hx hb dX9_say_85 hl (by decide) rfl (fun ls hl => ?_)
  refine lv_aload_n hx hb dX9_say_87 rfl (lv_at hl 1 rfl) ?_
  refine hp_get hx hb hown hS.2.1 hH (F_X9_25.use hS) f_t rfl dX9_say_88 ?_
  refine lv_aload_n hx hb dX9_say_91 rfl (lv_at hl 1 rfl) ?_
  refine hp_get hx hb hown hS.2.1 hH (F_X9_19.use hS) f_t rfl dX9_say_92 ?_
  refine lv_iconst (v := nI 1) hx hb dX9_say_95 (by decide) ?_
  refine lv_isub hx hb dX9_say_96 ?_
  refine hp_eqi (z := nI (le - 1)) (pk_sub (by omega)) ?_
  refine hp_laldM hx hb hS.al hH f_s (by omega) (by omega) dX9_say_97 ?_
  refine lv_iconst (v := nI 5) hx hb dX9_say_98 (by decide) ?_
  have hsl := hsh (le - 1)
  refine hp_klp (hp_runS (As := [.long (lN (sh (le - 1))), .int (nI 5)]) (rest := []) hx hb hml hown hS hH (c_X3_octetsOf l X (B := sh (le - 1)) (n := 5) (by omega) (by decide)) M_X9_142 S_X3_octetsOf rfl hl.1 rfl (Nat.le_of_ble_eq_true rfl) dX9_say_99 ⟨Nat.le_of_ble_eq_true rfl, Nat.le_of_ble_eq_true rfl⟩ ⟨Nat.le_of_ble_eq_true rfl, Nat.le_of_ble_eq_true rfl⟩) hH (fun H locs hH => ?_)
  refine lv_lstore (lv' := [(5, .long (lN (octN (sh (le - 1)) 5))), (4, .int (nI (tc + (tc / 8)))), (0, .ref t), (1, .ref (X.2.2.2 (8 + 2))), (2, .ref f), (3, .ref a)]) hx hb dX9_say_102 hl (by decide) rfl (fun ls hl => ?_)
  refine lv_aload_n hx hb dX9_say_104 rfl (lv_at hl 5 rfl) ?_
  refine lv_lload hx hb dX9_say_105 (lv_at hl 0 rfl) ?_
  refine lv_iload hx hb dX9_say_107 (lv_at hl 1 rfl) ?_
  refine lv_lushr hx hb dX9_say_109 rfl ?_
  refine hp_eql (z := lN (octN (sh (le - 1)) 5 / 2 ^ (tc + tc / 8))) (wb_shr (oct64 _ _ (by decide)) (by omega)) ?_
  refine lv_bipush (v := nI 45) hx hb dX9_say_110 (by decide) ?_
  refine lv_iload hx hb dX9_say_112 (lv_at hl 1 rfl) ?_
  refine lv_isub hx hb dX9_say_114 ?_
  refine hp_eqi (z := nI (45 - (tc + (tc / 8)))) (pk_sub (by omega)) ?_
  refine hp_kvm (hp_runV (As := [.long (lN (octN (sh (le - 1)) 5 / 2 ^ (tc + tc / 8))), .int (nI (45 - (tc + (tc / 8))))]) (rest := []) hx hb hml hown hS hH (c_X2_lay l X (B := octN (sh (le - 1)) 5 / 2 ^ (tc + tc / 8)) (n := 45 - (tc + (tc / 8))) (Nat.lt_of_le_of_lt (Nat.div_le_self _ _) (oct64 _ _ (by decide))) hon hze (by omega) hl1 f_a) M_X9_148 I_X2_lay V_X2_lay (ci := 1) rfl rfl f_a rfl hl.1 rfl (Nat.le_of_ble_eq_true rfl) dX9_say_115 ⟨Nat.le_of_ble_eq_true rfl, Nat.le_of_ble_eq_true rfl⟩ ⟨Nat.le_of_ble_eq_true rfl, Nat.le_of_ble_eq_true rfl⟩) hH (fun μ1 H locs hp hH => ?_)
  obtain ⟨fz0, fe⟩ := hp
  have f_t := (hp_e1 fe (hp_ne f_t f_a (by simp))).trans f_t
  have f_s := (hp_e1 fe (hp_ne f_s f_a (by simp))).trans f_s
  have f_f := (hp_e1 fe (hp_ne f_f f_a (by simp))).trans f_f
  have f_a : μ1 a = some (hp_o 1 [.long (lN (on ||| (octN (sh (le - 1)) 5 / 2 ^ (tc + tc / 8)) % 2 ^ (45 - (tc + (tc / 8))))), .long (lN (ze ||| czN (octN (sh (le - 1)) 5 / 2 ^ (tc + tc / 8)) (45 - (tc + (tc / 8))))), .int (nI (max len (45 - (tc + (tc / 8)))))]) := fz0
  have fr := hp_eq.tr1 fe fr (by simp)
  clear fe fz0
  refine lv_goto (tgt := 198) hx hb dX9_say_118 (by decide) ?_
  exact hp_rv hx hb hr hlocks hS hH (⟨rfl, f_a, fr⟩) dX9_say_198

set_option maxHeartbeats 4000000 in
set_option maxRecDepth 100000 in
theorem c_X9_say_3 (l : Launch) (X : hp_X) {μ : hp_M} {nx : Nat} {t s1 lv st le : Nat} {aw : Bool} {sh : Nat → Nat} {f k fl se td tc : Nat} {a on ze len : Nat} (hsh : ∀ j, sh j < 2 ^ 40) (hon : on < 2 ^ 64) (hze : ze < 2 ^ 64) (hl1 : len < 2 ^ 31) (hle : 1 ≤ le) (hle3 : le ≤ 3) (hlv : lv ≤ 3) (hlv1 : 1 ≤ lv) (hse : se < 256) (htc : 3 = 2 → tc ≤ 40) (f_t : μ t = some (hp_o 5 [.int (nI lv), .ref s1, .int (nB aw), .int (nI st), .int (nI le)])) (f_s : μ s1 = some (hp_m X 3 sh)) (f_f : μ f = some (hp_o 2 [.ref (X.2.2.2 k), .int (nI fl), .int (nI se), .long (lN td), .int (nI tc)])) (f_a : μ a = some (hp_o 1 [.long (lN on), .long (lN ze), .int (nI len)])) : Ct l X yX9_say cX9_say 9 (none : Option Jvm.ClassFile.FieldType) 3 120 0 0 [.ref t, .ref (X.2.2.2 (8 + 3)), .ref f, .ref a] μ nx (hq_v X (po_v nx (fun z => z a = some (hp_o 1 [.long (lN (on ||| (saB 3 lv (sh (le - 1)) se tc) % 2 ^ (saL 3 tc))), .long (lN (ze ||| czN (saB 3 lv (sh (le - 1)) se tc) (saL 3 tc))), .int (nI (max len (saL 3 tc)))]) ∧ hp_eq [a] z μ))) := by
  refine hp_met (by decide) (Nat.le_of_ble_eq_true rfl) ?_
  intro p e s m below meth c ls hx hb hml hr hlocks hown hin hS hH hl
  have hl : lv_has ls 9 [(0, .ref t), (1, .ref (X.2.2.2 (8 + 3))), (2, .ref f), (3, .ref a)] := hl
  have fr : hp_eq [a] μ μ := fun _ _ => rfl
  refine hp_gets hx hb hS.sw hH hown G_X9_132 hS dX9_say_0 ?_
  refine lv_aload_n hx hb dX9_say_3 rfl (lv_at hl 1 rfl) ?_
  refine hp_ord (j := 3) hx hb hml hown hS hH (by decide) hl.1 (Nat.le_of_ble_eq_true rfl) dX9_say_4 ⟨Nat.le_of_ble_eq_true rfl, Nat.le_of_ble_eq_true rfl⟩ ⟨Nat.le_of_ble_eq_true rfl, Nat.le_of_ble_eq_true rfl⟩ (fun H locs hH => ?_)
  refine hp_ti (N := 7) (j := 3) hx hb hS.2.2.2.2.2.1 hH (by decide) (by decide) rfl dX9_say_7 ?_
  refine lv_tableIn (off := 113) (tgt := 121) hx hb dX9_say_8 (by decide) (by decide) rfl (by decide) ?_
  refine lv_aload_n hx hb dX9_say_121 rfl (lv_at hl 3 rfl) ?_
  refine lv_ldc2 hx hb hown (hS.1 _ wi_572 _) dX9_say_122 ?_
  refine hp_eql (z := lN 4) (by decide) ?_
  refine lv_iconst (v := nI 1) hx hb dX9_say_125 (by decide) ?_
  refine hp_klp (hp_runS (As := [.long (lN 4), .int (nI 1)]) (rest := [.ref a]) hx hb hml hown hS hH (c_X3_checkedOctetsOf l X (B := 4) (n := 1) (by decide) (by omega) (by omega)) M_X9_156 S_X3_checkedOctetsOf rfl hl.1 rfl (Nat.le_of_ble_eq_true rfl) dX9_say_126 ⟨Nat.le_of_ble_eq_true rfl, Nat.le_of_ble_eq_true rfl⟩ ⟨Nat.le_of_ble_eq_true rfl, Nat.le_of_ble_eq_true rfl⟩) hH (fun H locs hH => ?_)
  refine lv_bipush (v := nI 27) hx hb dX9_say_129 (by decide) ?_
  refine hp_kvm (hp_runV (As := [.long (lN (octN (4 + crcB (4) 1 * 2 ^ (8 * 1)) (1 + 2))), .int (nI 27)]) (rest := []) hx hb hml hown hS hH (c_X2_lay l X (B := octN (4 + crcB (4) 1 * 2 ^ (8 * 1)) (1 + 2)) (n := 27) (oct64 _ _ (by decide)) hon hze (by omega) hl1 f_a) M_X9_148 I_X2_lay V_X2_lay (ci := 1) rfl rfl f_a rfl hl.1 rfl (Nat.le_of_ble_eq_true rfl) dX9_say_131 ⟨Nat.le_of_ble_eq_true rfl, Nat.le_of_ble_eq_true rfl⟩ ⟨Nat.le_of_ble_eq_true rfl, Nat.le_of_ble_eq_true rfl⟩) hH (fun μ1 H locs hp hH => ?_)
  obtain ⟨fz0, fe⟩ := hp
  have f_t := (hp_e1 fe (hp_ne f_t f_a (by simp))).trans f_t
  have f_s := (hp_e1 fe (hp_ne f_s f_a (by simp))).trans f_s
  have f_f := (hp_e1 fe (hp_ne f_f f_a (by simp))).trans f_f
  have f_a : μ1 a = some (hp_o 1 [.long (lN (on ||| (octN (4 + crcB (4) 1 * 2 ^ (8 * 1)) (1 + 2)) % 2 ^ (27))), .long (lN (ze ||| czN (octN (4 + crcB (4) 1 * 2 ^ (8 * 1)) (1 + 2)) (27))), .int (nI (max len (27)))]) := fz0
  have fr := hp_eq.tr1 fe fr (by simp)
  clear fe fz0
  refine lv_goto (tgt := 198) hx hb dX9_say_134 (by decide) ?_
  exact hp_rv hx hb hr hlocks hS hH (⟨rfl, f_a, fr⟩) dX9_say_198

set_option maxHeartbeats 4000000 in
set_option maxRecDepth 100000 in
theorem c_X9_say_4 (l : Launch) (X : hp_X) {μ : hp_M} {nx : Nat} {t s1 lv st le : Nat} {aw : Bool} {sh : Nat → Nat} {f k fl se td tc : Nat} {a on ze len : Nat} (hsh : ∀ j, sh j < 2 ^ 40) (hon : on < 2 ^ 64) (hze : ze < 2 ^ 64) (hl1 : len < 2 ^ 31) (hle : 1 ≤ le) (hle3 : le ≤ 3) (hlv : lv ≤ 3) (hlv1 : 1 ≤ lv) (hse : se < 256) (htc : 4 = 2 → tc ≤ 40) (f_t : μ t = some (hp_o 5 [.int (nI lv), .ref s1, .int (nB aw), .int (nI st), .int (nI le)])) (f_s : μ s1 = some (hp_m X 3 sh)) (f_f : μ f = some (hp_o 2 [.ref (X.2.2.2 k), .int (nI fl), .int (nI se), .long (lN td), .int (nI tc)])) (f_a : μ a = some (hp_o 1 [.long (lN on), .long (lN ze), .int (nI len)])) : Ct l X yX9_say cX9_say 9 (none : Option Jvm.ClassFile.FieldType) 3 120 0 0 [.ref t, .ref (X.2.2.2 (8 + 4)), .ref f, .ref a] μ nx (hq_v X (po_v nx (fun z => z a = some (hp_o 1 [.long (lN (on ||| (saB 4 lv (sh (le - 1)) se tc) % 2 ^ (saL 4 tc))), .long (lN (ze ||| czN (saB 4 lv (sh (le - 1)) se tc) (saL 4 tc))), .int (nI (max len (saL 4 tc)))]) ∧ hp_eq [a] z μ))) := by
  refine hp_met (by decide) (Nat.le_of_ble_eq_true rfl) ?_
  intro p e s m below meth c ls hx hb hml hr hlocks hown hin hS hH hl
  have hl : lv_has ls 9 [(0, .ref t), (1, .ref (X.2.2.2 (8 + 4))), (2, .ref f), (3, .ref a)] := hl
  have fr : hp_eq [a] μ μ := fun _ _ => rfl
  refine hp_gets hx hb hS.sw hH hown G_X9_132 hS dX9_say_0 ?_
  refine lv_aload_n hx hb dX9_say_3 rfl (lv_at hl 1 rfl) ?_
  refine hp_ord (j := 4) hx hb hml hown hS hH (by decide) hl.1 (Nat.le_of_ble_eq_true rfl) dX9_say_4 ⟨Nat.le_of_ble_eq_true rfl, Nat.le_of_ble_eq_true rfl⟩ ⟨Nat.le_of_ble_eq_true rfl, Nat.le_of_ble_eq_true rfl⟩ (fun H locs hH => ?_)
  refine hp_ti (N := 7) (j := 4) hx hb hS.2.2.2.2.2.1 hH (by decide) (by decide) rfl dX9_say_7 ?_
  refine lv_tableIn (off := 129) (tgt := 137) hx hb dX9_say_8 (by decide) (by decide) rfl (by decide) ?_
  refine lv_aload_n hx hb dX9_say_137 rfl (lv_at hl 3 rfl) ?_
  refine lv_ldc2 hx hb hown (hS.1 _ wi_578 _) dX9_say_138 ?_
  refine hp_eql (z := lN 32) (by decide) ?_
  refine lv_iconst (v := nI 1) hx hb dX9_say_141 (by decide) ?_
  refine hp_klp (hp_runS (As := [.long (lN 32), .int (nI 1)]) (rest := [.ref a]) hx hb hml hown hS hH (c_X3_checkedOctetsOf l X (B := 32) (n := 1) (by decide) (by omega) (by omega)) M_X9_156 S_X3_checkedOctetsOf rfl hl.1 rfl (Nat.le_of_ble_eq_true rfl) dX9_say_142 ⟨Nat.le_of_ble_eq_true rfl, Nat.le_of_ble_eq_true rfl⟩ ⟨Nat.le_of_ble_eq_true rfl, Nat.le_of_ble_eq_true rfl⟩) hH (fun H locs hH => ?_)
  refine lv_bipush (v := nI 27) hx hb dX9_say_145 (by decide) ?_
  refine hp_kvm (hp_runV (As := [.long (lN (octN (32 + crcB (32) 1 * 2 ^ (8 * 1)) (1 + 2))), .int (nI 27)]) (rest := []) hx hb hml hown hS hH (c_X2_lay l X (B := octN (32 + crcB (32) 1 * 2 ^ (8 * 1)) (1 + 2)) (n := 27) (oct64 _ _ (by decide)) hon hze (by omega) hl1 f_a) M_X9_148 I_X2_lay V_X2_lay (ci := 1) rfl rfl f_a rfl hl.1 rfl (Nat.le_of_ble_eq_true rfl) dX9_say_147 ⟨Nat.le_of_ble_eq_true rfl, Nat.le_of_ble_eq_true rfl⟩ ⟨Nat.le_of_ble_eq_true rfl, Nat.le_of_ble_eq_true rfl⟩) hH (fun μ1 H locs hp hH => ?_)
  obtain ⟨fz0, fe⟩ := hp
  have f_t := (hp_e1 fe (hp_ne f_t f_a (by simp))).trans f_t
  have f_s := (hp_e1 fe (hp_ne f_s f_a (by simp))).trans f_s
  have f_f := (hp_e1 fe (hp_ne f_f f_a (by simp))).trans f_f
  have f_a : μ1 a = some (hp_o 1 [.long (lN (on ||| (octN (32 + crcB (32) 1 * 2 ^ (8 * 1)) (1 + 2)) % 2 ^ (27))), .long (lN (ze ||| czN (octN (32 + crcB (32) 1 * 2 ^ (8 * 1)) (1 + 2)) (27))), .int (nI (max len (27)))]) := fz0
  have fr := hp_eq.tr1 fe fr (by simp)
  clear fe fz0
  refine lv_goto (tgt := 198) hx hb dX9_say_150 (by decide) ?_
  exact hp_rv hx hb hr hlocks hS hH (⟨rfl, f_a, fr⟩) dX9_say_198

set_option maxHeartbeats 4000000 in
set_option maxRecDepth 100000 in
theorem c_X9_say_5 (l : Launch) (X : hp_X) {μ : hp_M} {nx : Nat} {t s1 lv st le : Nat} {aw : Bool} {sh : Nat → Nat} {f k fl se td tc : Nat} {a on ze len : Nat} (hsh : ∀ j, sh j < 2 ^ 40) (hon : on < 2 ^ 64) (hze : ze < 2 ^ 64) (hl1 : len < 2 ^ 31) (hle : 1 ≤ le) (hle3 : le ≤ 3) (hlv : lv ≤ 3) (hlv1 : 1 ≤ lv) (hse : se < 256) (htc : 5 = 2 → tc ≤ 40) (f_t : μ t = some (hp_o 5 [.int (nI lv), .ref s1, .int (nB aw), .int (nI st), .int (nI le)])) (f_s : μ s1 = some (hp_m X 3 sh)) (f_f : μ f = some (hp_o 2 [.ref (X.2.2.2 k), .int (nI fl), .int (nI se), .long (lN td), .int (nI tc)])) (f_a : μ a = some (hp_o 1 [.long (lN on), .long (lN ze), .int (nI len)])) : Ct l X yX9_say cX9_say 9 (none : Option Jvm.ClassFile.FieldType) 3 120 0 0 [.ref t, .ref (X.2.2.2 (8 + 5)), .ref f, .ref a] μ nx (hq_v X (po_v nx (fun z => z a = some (hp_o 1 [.long (lN (on ||| (saB 5 lv (sh (le - 1)) se tc) % 2 ^ (saL 5 tc))), .long (lN (ze ||| czN (saB 5 lv (sh (le - 1)) se tc) (saL 5 tc))), .int (nI (max len (saL 5 tc)))]) ∧ hp_eq [a] z μ))) := by
  refine hp_met (by decide) (Nat.le_of_ble_eq_true rfl) ?_
  intro p e s m below meth c ls hx hb hml hr hlocks hown hin hS hH hl
  have hl : lv_has ls 9 [(0, .ref t), (1, .ref (X.2.2.2 (8 + 5))), (2, .ref f), (3, .ref a)] := hl
  have fr : hp_eq [a] μ μ := fun _ _ => rfl
  refine hp_gets hx hb hS.sw hH hown G_X9_132 hS dX9_say_0 ?_
  refine lv_aload_n hx hb dX9_say_3 rfl (lv_at hl 1 rfl) ?_
  refine hp_ord (j := 5) hx hb hml hown hS hH (by decide) hl.1 (Nat.le_of_ble_eq_true rfl) dX9_say_4 ⟨Nat.le_of_ble_eq_true rfl, Nat.le_of_ble_eq_true rfl⟩ ⟨Nat.le_of_ble_eq_true rfl, Nat.le_of_ble_eq_true rfl⟩ (fun H locs hH => ?_)
  refine hp_ti (N := 7) (j := 5) hx hb hS.2.2.2.2.2.1 hH (by decide) (by decide) rfl dX9_say_7 ?_
  refine lv_tableIn (off := 145) (tgt := 153) hx hb dX9_say_8 (by decide) (by decide) rfl (by decide) ?_
  refine lv_sipush (v := nI 515) hx hb dX9_say_153 (by decide) ?_
  refine lv_aload_n hx hb dX9_say_156 rfl (lv_at hl 2 rfl) ?_
  refine hp_get hx hb hown hS.2.1 hH (F_X9_161.use hS) f_f rfl dX9_say_157 ?_
  refine lv_bipush (v := nI 16) hx hb dX9_say_160 (by decide) ?_
  refine lv_ishl hx hb dX9_say_162 ?_
  refine lv_ior hx hb dX9_say_163 ?_
  refine hp_eqi (z := nI (515 + se * 65536)) (z_515 hse) ?_
  refine lv_i2l hx hb dX9_say_164 rfl ?_
  refine hp_eql (z := lN (515 + se * 65536)) (nI_l (by omega)) ?_
  refine lv_lstore (lv' := [(7, .long (lN (515 + se * 65536))), (0, .ref t), (1, .ref (X.2.2.2 (8 + 5))), (2, .ref f), (3, .ref a)]) hx hb dX9_say_165 hl (by decide) rfl (fun ls hl => ?_)
  refine lv_aload_n hx hb dX9_say_167 rfl (lv_at hl 4 rfl) ?_
  refine lv_lload hx hb dX9_say_168 (lv_at hl 0 rfl) ?_
  refine lv_iconst (v := nI 3) hx hb dX9_say_170 (by decide) ?_
  refine hp_klp (hp_runS (As := [.long (lN (515 + se * 65536)), .int (nI 3)]) (rest := [.ref a]) hx hb hml hown hS hH (c_X3_checkedOctetsOf l X (B := 515 + se * 65536) (n := 3) (by decide) (by omega) (by omega)) M_X9_156 S_X3_checkedOctetsOf rfl hl.1 rfl (Nat.le_of_ble_eq_true rfl) dX9_say_171 ⟨Nat.le_of_ble_eq_true rfl, Nat.le_of_ble_eq_true rfl⟩ ⟨Nat.le_of_ble_eq_true rfl, Nat.le_of_ble_eq_true rfl⟩) hH (fun H locs hH => ?_)
  refine lv_bipush (v := nI 45) hx hb dX9_say_174 (by decide) ?_
  refine hp_kvm (hp_runV (As := [.long (lN (octN (515 + se * 65536 + crcB (515 + se * 65536) 3 * 2 ^ (8 * 3)) (3 + 2))), .int (nI 45)]) (rest := []) hx hb hml hown hS hH (c_X2_lay l X (B := octN (515 + se * 65536 + crcB (515 + se * 65536) 3 * 2 ^ (8 * 3)) (3 + 2)) (n := 45) (oct64 _ _ (by decide)) hon hze (by omega) hl1 f_a) M_X9_148 I_X2_lay V_X2_lay (ci := 1) rfl rfl f_a rfl hl.1 rfl (Nat.le_of_ble_eq_true rfl) dX9_say_176 ⟨Nat.le_of_ble_eq_true rfl, Nat.le_of_ble_eq_true rfl⟩ ⟨Nat.le_of_ble_eq_true rfl, Nat.le_of_ble_eq_true rfl⟩) hH (fun μ1 H locs hp hH => ?_)
  obtain ⟨fz0, fe⟩ := hp
  have f_t := (hp_e1 fe (hp_ne f_t f_a (by simp))).trans f_t
  have f_s := (hp_e1 fe (hp_ne f_s f_a (by simp))).trans f_s
  have f_f := (hp_e1 fe (hp_ne f_f f_a (by simp))).trans f_f
  have f_a : μ1 a = some (hp_o 1 [.long (lN (on ||| (octN (515 + se * 65536 + crcB (515 + se * 65536) 3 * 2 ^ (8 * 3)) (3 + 2)) % 2 ^ (45))), .long (lN (ze ||| czN (octN (515 + se * 65536 + crcB (515 + se * 65536) 3 * 2 ^ (8 * 3)) (3 + 2)) (45))), .int (nI (max len (45)))]) := fz0
  have fr := hp_eq.tr1 fe fr (by simp)
  clear fe fz0
  refine lv_goto (tgt := 198) hx hb dX9_say_179 (by decide) ?_
  exact hp_rv hx hb hr hlocks hS hH (⟨rfl, f_a, fr⟩) dX9_say_198

set_option maxHeartbeats 4000000 in
set_option maxRecDepth 100000 in
theorem c_X9_say_6 (l : Launch) (X : hp_X) {μ : hp_M} {nx : Nat} {t s1 lv st le : Nat} {aw : Bool} {sh : Nat → Nat} {f k fl se td tc : Nat} {a on ze len : Nat} (hsh : ∀ j, sh j < 2 ^ 40) (hon : on < 2 ^ 64) (hze : ze < 2 ^ 64) (hl1 : len < 2 ^ 31) (hle : 1 ≤ le) (hle3 : le ≤ 3) (hlv : lv ≤ 3) (hlv1 : 1 ≤ lv) (hse : se < 256) (htc : 6 = 2 → tc ≤ 40) (f_t : μ t = some (hp_o 5 [.int (nI lv), .ref s1, .int (nB aw), .int (nI st), .int (nI le)])) (f_s : μ s1 = some (hp_m X 3 sh)) (f_f : μ f = some (hp_o 2 [.ref (X.2.2.2 k), .int (nI fl), .int (nI se), .long (lN td), .int (nI tc)])) (f_a : μ a = some (hp_o 1 [.long (lN on), .long (lN ze), .int (nI len)])) : Ct l X yX9_say cX9_say 9 (none : Option Jvm.ClassFile.FieldType) 3 120 0 0 [.ref t, .ref (X.2.2.2 (8 + 6)), .ref f, .ref a] μ nx (hq_v X (po_v nx (fun z => z a = some (hp_o 1 [.long (lN (on ||| (saB 6 lv (sh (le - 1)) se tc) % 2 ^ (saL 6 tc))), .long (lN (ze ||| czN (saB 6 lv (sh (le - 1)) se tc) (saL 6 tc))), .int (nI (max len (saL 6 tc)))]) ∧ hp_eq [a] z μ))) := by
  refine hp_met (by decide) (Nat.le_of_ble_eq_true rfl) ?_
  intro p e s m below meth c ls hx hb hml hr hlocks hown hin hS hH hl
  have hl : lv_has ls 9 [(0, .ref t), (1, .ref (X.2.2.2 (8 + 6))), (2, .ref f), (3, .ref a)] := hl
  have fr : hp_eq [a] μ μ := fun _ _ => rfl
  refine hp_gets hx hb hS.sw hH hown G_X9_132 hS dX9_say_0 ?_
  refine lv_aload_n hx hb dX9_say_3 rfl (lv_at hl 1 rfl) ?_
  refine hp_ord (j := 6) hx hb hml hown hS hH (by decide) hl.1 (Nat.le_of_ble_eq_true rfl) dX9_say_4 ⟨Nat.le_of_ble_eq_true rfl, Nat.le_of_ble_eq_true rfl⟩ ⟨Nat.le_of_ble_eq_true rfl, Nat.le_of_ble_eq_true rfl⟩ (fun H locs hH => ?_)
  refine hp_ti (N := 7) (j := 6) hx hb hS.2.2.2.2.2.1 hH (by decide) (by decide) rfl dX9_say_7 ?_
  refine lv_tableIn (off := 174) (tgt := 182) hx hb dX9_say_8 (by decide) (by decide) rfl (by decide) ?_
  refine lv_aload_n hx hb dX9_say_182 rfl (lv_at hl 3 rfl) ?_
  refine lv_ldc2 hx hb hown (hS.1 _ wi_579 _) dX9_say_183 ?_
  refine hp_eql (z := lN 194) (by decide) ?_
  refine lv_iconst (v := nI 1) hx hb dX9_say_186 (by decide) ?_
  refine hp_klp (hp_runS (As := [.long (lN 194), .int (nI 1)]) (rest := [.ref a]) hx hb hml hown hS hH (c_X3_checkedOctetsOf l X (B := 194) (n := 1) (by decide) (by omega) (by omega)) M_X9_156 S_X3_checkedOctetsOf rfl hl.1 rfl (Nat.le_of_ble_eq_true rfl) dX9_say_187 ⟨Nat.le_of_ble_eq_true rfl, Nat.le_of_ble_eq_true rfl⟩ ⟨Nat.le_of_ble_eq_true rfl, Nat.le_of_ble_eq_true rfl⟩) hH (fun H locs hH => ?_)
  refine lv_bipush (v := nI 27) hx hb dX9_say_190 (by decide) ?_
  refine hp_kvm (hp_runV (As := [.long (lN (octN (194 + crcB (194) 1 * 2 ^ (8 * 1)) (1 + 2))), .int (nI 27)]) (rest := []) hx hb hml hown hS hH (c_X2_lay l X (B := octN (194 + crcB (194) 1 * 2 ^ (8 * 1)) (1 + 2)) (n := 27) (oct64 _ _ (by decide)) hon hze (by omega) hl1 f_a) M_X9_148 I_X2_lay V_X2_lay (ci := 1) rfl rfl f_a rfl hl.1 rfl (Nat.le_of_ble_eq_true rfl) dX9_say_192 ⟨Nat.le_of_ble_eq_true rfl, Nat.le_of_ble_eq_true rfl⟩ ⟨Nat.le_of_ble_eq_true rfl, Nat.le_of_ble_eq_true rfl⟩) hH (fun μ1 H locs hp hH => ?_)
  obtain ⟨fz0, fe⟩ := hp
  have f_t := (hp_e1 fe (hp_ne f_t f_a (by simp))).trans f_t
  have f_s := (hp_e1 fe (hp_ne f_s f_a (by simp))).trans f_s
  have f_f := (hp_e1 fe (hp_ne f_f f_a (by simp))).trans f_f
  have f_a : μ1 a = some (hp_o 1 [.long (lN (on ||| (octN (194 + crcB (194) 1 * 2 ^ (8 * 1)) (1 + 2)) % 2 ^ (27))), .long (lN (ze ||| czN (octN (194 + crcB (194) 1 * 2 ^ (8 * 1)) (1 + 2)) (27))), .int (nI (max len (27)))]) := fz0
  have fr := hp_eq.tr1 fe fr (by simp)
  clear fe fz0
  refine lv_goto (tgt := 198) hx hb dX9_say_195 (by decide) ?_
  exact hp_rv hx hb hr hlocks hS hH (⟨rfl, f_a, fr⟩) dX9_say_198

theorem c_X9_say (l : Launch) (X : hp_X) {μ : hp_M} {nx : Nat} {t s1 lv st le : Nat} {aw : Bool} {sh : Nat → Nat} {f k fl se td tc : Nat} {a on ze len j : Nat} (hsh : ∀ j, sh j < 2 ^ 40) (hon : on < 2 ^ 64) (hze : ze < 2 ^ 64) (hl1 : len < 2 ^ 31) (hle : 1 ≤ le) (hle3 : le ≤ 3) (hlv : lv ≤ 3) (hlv1 : 1 ≤ lv) (hse : se < 256) (htc : j = 2 → tc ≤ 40) (hj : j < 7) (f_t : μ t = some (hp_o 5 [.int (nI lv), .ref s1, .int (nB aw), .int (nI st), .int (nI le)])) (f_s : μ s1 = some (hp_m X 3 sh)) (f_f : μ f = some (hp_o 2 [.ref (X.2.2.2 k), .int (nI fl), .int (nI se), .long (lN td), .int (nI tc)])) (f_a : μ a = some (hp_o 1 [.long (lN on), .long (lN ze), .int (nI len)])) : Ct l X yX9_say cX9_say 9 (none : Option Jvm.ClassFile.FieldType) 3 120 0 0 [.ref t, .ref (X.2.2.2 (8 + j)), .ref f, .ref a] μ nx (hq_v X (po_v nx (fun z => z a = some (hp_o 1 [.long (lN (on ||| (saB j lv (sh (le - 1)) se tc) % 2 ^ (saL j tc))), .long (lN (ze ||| czN (saB j lv (sh (le - 1)) se tc) (saL j tc))), .int (nI (max len (saL j tc)))]) ∧ hp_eq [a] z μ))) := by
  rcases (show j = 0 ∨ j = 1 ∨ j = 2 ∨ j = 3 ∨ j = 4 ∨ j = 5 ∨ j = 6 by omega) with rfl | rfl | rfl | rfl | rfl | rfl | rfl
  · exact c_X9_say_0 l X hsh hon hze hl1 hle hle3 hlv hlv1 hse htc f_t f_s f_f f_a
  · exact c_X9_say_1 l X hsh hon hze hl1 hle hle3 hlv hlv1 hse htc f_t f_s f_f f_a
  · exact c_X9_say_2 l X hsh hon hze hl1 hle hle3 hlv hlv1 hse htc f_t f_s f_f f_a
  · exact c_X9_say_3 l X hsh hon hze hl1 hle hle3 hlv hlv1 hse htc f_t f_s f_f f_a
  · exact c_X9_say_4 l X hsh hon hze hl1 hle hle3 hlv hlv1 hse htc f_t f_s f_f f_a
  · exact c_X9_say_5 l X hsh hon hze hl1 hle hle3 hlv hlv1 hse htc f_t f_s f_f f_a
  · exact c_X9_say_6 l X hsh hon hze hl1 hle hle3 hlv hlv1 hse htc f_t f_s f_f f_a
