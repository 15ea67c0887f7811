set_option maxHeartbeats 4000000 in
set_option maxRecDepth 100000 in
theorem c_X6_keepBytes (l : Launch) (X : hp_X) {μ : hp_M} {nx : Nat} {rd r a nb sz cnt kn kc : Nat} {nb1 sz1 : Nat → Nat} {fm : Nat} (hkn : kn < 2 ^ 40) (hfm : fm ≤ 4) (hcnt : cnt < 40) (hsz : sz1 cnt + 4 ≤ 10 + fm) (f_rd : μ rd = some (hp_o 3 [.ref r, .ref a, .ref nb, .ref sz, .int (nI cnt), .long (lN kn), .int (nI kc)])) (f_nb : μ nb = some (hp_n X 400 nb1)) (f_sz : μ sz = some (hp_n X 40 sz1)) : Ct l X yX6_keepBytes cX6_keepBytes 3 (none : Option Jvm.ClassFile.FieldType) 1 40 0 0 [.ref rd, .int (nI fm)] μ nx (hq_v X (po_v nx (fun z => z nb = some (hp_n X 400 (kpN kn cnt fm (sz1 cnt) nb1 (4 - fm))) ∧ z sz = some (hp_n X 40 (setN sz1 cnt (sz1 cnt + (4 - fm)))) ∧ hp_eq [nb, sz] z μ))) := by
  refine hp_met (by decide) (Nat.le_of_ble_eq_true rfl) ?_
  intro p e s m below meth c ls hx hb hml hr hlocks hown hin hS hH hl
  have hl : lv_has ls 3 [(0, .ref rd), (1, .int (nI fm))] := hl
  have fr : hp_eq [nb, sz] μ μ := fun _ _ => rfl
  refine lv_iload_n hx hb dX6_keepBytes_0 rfl (lv_at hl 1 rfl) ?_
  refine lv_istore_n (lv' := [(2, .int (nI fm)), (0, .ref rd), (1, .int (nI fm))]) hx hb dX6_keepBytes_1 rfl hl (by decide) rfl (fun ls hl => ?_)
  have f_sz := f_sz.trans (congrArg (fun g => some (hp_n X 40 g)) (show sz1 = setN sz1 cnt (sz1 cnt + 0) from (setN_id _ _).symm))
  have f_nb := f_nb.trans (congrArg (fun g => some (hp_n X 400 g)) (show nb1 = kpN kn cnt fm (sz1 cnt) nb1 0 from rfl))
  have lp_2 : ∀ (kk : Nat) (k : Nat), (fm + k ≤ 4) → (4 - k) < kk → ∀ (μ1 : hp_M) (H : Heap) (locs : List Loc) (ls : Array Slot), (μ1 rd = some (hp_o 3 [.ref r, .ref a, .ref nb, .ref sz, .int (nI cnt), .long (lN kn), .int (nI kc)])) → (μ1 nb = some (hp_n X 400 (kpN kn cnt fm (sz1 cnt) nb1 k))) → (μ1 sz = some (hp_n X 40 (setN sz1 cnt (sz1 cnt + k)))) → hp_eq [nb, sz] μ1 μ → hp_w X cls μ1 nx H locs → lv_has ls 3 [(0, .ref rd), (2, .int (nI (fm + k)))] → W p l e { frames := 1, cells := 0, slots := 0, locals := 40 } s m [.ref rd, .int (nI fm)].toArray below meth c H locs 0 0 (MQ below (hq_v X (po_v nx (fun z => z nb = some (hp_n X 400 (kpN kn cnt fm (sz1 cnt) nb1 (4 - fm))) ∧ z sz = some (hp_n X 40 (setN sz1 cnt (sz1 cnt + (4 - fm)))) ∧ hp_eq [nb, sz] z μ))) [.ref rd, .int (nI fm)].toArray s 0 0 (hp_A X)) (F0 m 2 ls []) := by
    intro kk
    induction kk with
    | zero =>
      intro k hk hkk
      exact absurd hkk (Nat.not_lt_zero _)
    | succ kk ih =>
      intro k hk hkk μ1 H locs ls f_rd f_nb f_sz fr hH hl
      refine lv_iload_n hx hb dX6_keepBytes_2 rfl (lv_at hl 1 rfl) ?_
      refine lv_iconst (v := nI 4) hx hb dX6_keepBytes_3 (by decide) ?_
      refine lv_icmp_ge (tgt := 53) hx hb dX6_keepBytes_4 (by decide) (fun c_4 => ?_) (fun c_4 => ?_)
      · have c_4 : 4 ≤ (fm + k) := (nI_leI (by omega) (by omega)).mp c_4
        have ek : k = 4 - fm := by omega
        subst ek
        exact hp_rv hx hb hr hlocks hS hH (⟨rfl, f_nb, f_sz, fr⟩) dX6_keepBytes_53
      · have c_4 : ¬ (4 ≤ (fm + k)) := fun z => c_4 ((nI_leI (by omega) (by omega)).mpr z)
        refine lv_aload_n hx hb dX6_keepBytes_7 rfl (lv_at hl 0 rfl) ?_
        refine hp_get hx hb hown hS.2.1 hH (F_X6_27.use hS) f_rd rfl dX6_keepBytes_8 ?_
        refine lv_bipush (v := nI 10) hx hb dX6_keepBytes_11 (by decide) ?_
        refine lv_aload_n hx hb dX6_keepBytes_13 rfl (lv_at hl 0 rfl) ?_
        refine hp_get hx hb hown hS.2.1 hH (F_X6_34.use hS) f_rd rfl dX6_keepBytes_14 ?_
        refine lv_imul hx hb dX6_keepBytes_17 ?_
        refine hp_eqi (z := nI (10 * cnt)) (pk_mul _ _) ?_
        refine lv_aload_n hx hb dX6_keepBytes_18 rfl (lv_at hl 0 rfl) ?_
        refine hp_get hx hb hown hS.2.1 hH (F_X6_31.use hS) f_rd rfl dX6_keepBytes_19 ?_
        refine lv_aload_n hx hb dX6_keepBytes_22 rfl (lv_at hl 0 rfl) ?_
        refine hp_get hx hb hown hS.2.1 hH (F_X6_34.use hS) f_rd rfl dX6_keepBytes_23 ?_
        refine hp_ialdN hx hb hS.ai hH f_sz (by omega) (by omega) dX6_keepBytes_26 ?_
        refine hp_eqi (z := nI (sz1 cnt + k)) (congrArg nI (setN_s _ _ _)) ?_
        refine lv_iadd hx hb dX6_keepBytes_27 ?_
        refine hp_eqi (z := nI ((10 * cnt) + (sz1 cnt + k))) (nI_add _ _) ?_
        refine lv_aload_n hx hb dX6_keepBytes_28 rfl (lv_at hl 0 rfl) ?_
        refine lv_iload_n hx hb dX6_keepBytes_29 rfl (lv_at hl 1 rfl) ?_
        refine hp_kip (hp_runV (As := [.int (nI (fm + k))]) (rest := [.int (nI ((10 * cnt) + (sz1 cnt + k))), .ref nb]) hx hb hml hown hS hH (c_X6_knownByte l X (i := fm + k) (by omega) (by omega) f_rd) M_X6_91 I_X6_knownByte V_X6_knownByte (ci := 3) rfl rfl f_rd rfl hl.1 rfl (Nat.le_of_ble_eq_true rfl) dX6_keepBytes_30 ⟨Nat.le_of_ble_eq_true rfl, Nat.le_of_ble_eq_true rfl⟩ ⟨Nat.le_of_ble_eq_true rfl, Nat.le_of_ble_eq_true rfl⟩) hH (fun H locs hH => ?_)
        refine hp_iastN hx hb hS.ai hH f_nb (by omega) (by omega) dX6_keepBytes_33 (fun H locs μ1 fz fn hH => ?_)
        have f_rd := (fn _ (hp_ne f_rd f_nb (by simp))).trans f_rd
        have f_sz := (fn _ (hp_nne f_sz f_nb (by decide))).trans f_sz
        have f_nb : μ1 nb = some (hp_n X 400 (setN (kpN kn cnt fm (sz1 cnt) nb1 k) ((10 * cnt) + (sz1 cnt + k)) (kn / 2 ^ (8 * (fm + k)) % 256))) := fz
        have fr := hp_eq.put fr (by simp) fn
        clear fz fn
        refine lv_aload_n hx hb dX6_keepBytes_34 rfl (lv_at hl 0 rfl) ?_
        refine hp_get hx hb hown hS.2.1 hH (F_X6_31.use hS) f_rd rfl dX6_keepBytes_35 ?_
        refine lv_aload_n hx hb dX6_keepBytes_38 rfl (lv_at hl 0 rfl) ?_
        refine hp_get hx hb hown hS.2.1 hH (F_X6_34.use hS) f_rd rfl dX6_keepBytes_39 ?_
        refine lv_dup2_11 hx hb dX6_keepBytes_42 rfl rfl ?_
        refine hp_ialdN hx hb hS.ai hH f_sz (by omega) (by omega) dX6_keepBytes_43 ?_
        refine hp_eqi (z := nI (sz1 cnt + k)) (congrArg nI (setN_s _ _ _)) ?_
        refine lv_iconst (v := nI 1) hx hb dX6_keepBytes_44 (by decide) ?_
        refine lv_iadd hx hb dX6_keepBytes_45 ?_
        refine hp_eqi (z := nI ((sz1 cnt + k) + 1)) (nI_add _ _) ?_
        refine hp_iastN hx hb hS.ai hH f_sz (by omega) (by omega) dX6_keepBytes_46 (fun H locs μ1 fz fn hH => ?_)
        have f_rd := (fn _ (hp_ne f_rd f_sz (by simp))).trans f_rd
        have f_nb := (fn _ (hp_nne f_nb f_sz (by decide))).trans f_nb
        have f_sz : μ1 sz = some (hp_n X 40 (setN (setN sz1 cnt (sz1 cnt + k)) cnt ((sz1 cnt + k) + 1))) := fz
        have fr := hp_eq.put fr (by simp) fn
        clear fz fn
        refine lv_iinc (v := nI (fm + k + 1)) (lv' := [(2, .int (nI (fm + k + 1))), (0, .ref rd)]) hx hb dX6_keepBytes_47 hl (k := 1) rfl (nI_add _ 1) (by decide) rfl (fun ls hl => ?_)
        refine lv_goto (tgt := 2) hx hb dX6_keepBytes_50 (by decide) ?_
        have f_nb := f_nb.trans (congrArg (fun g => some (hp_n X 400 g)) (show setN (kpN kn cnt fm (sz1 cnt) nb1 k) ((10 * cnt) + (sz1 cnt + k)) (kn / 2 ^ (8 * (fm + k)) % 256) = kpN kn cnt fm (sz1 cnt) nb1 (k + 1) from rfl))
        have f_sz := f_sz.trans (congrArg (fun g => some (hp_n X 40 g)) (show setN (setN sz1 cnt (sz1 cnt + k)) cnt ((sz1 cnt + k) + 1) = setN sz1 cnt (sz1 cnt + (k + 1)) from setN_2 _ _ _ _))
        exact ih (k + 1) (by omega) (by omega) _ _ _ _ f_rd f_nb f_sz fr hH (lv_sub hl [1, 0] rfl)
  exact lp_2 ((4 - 0) + 1) 0 (by omega) (Nat.lt_succ_self _) _ _ _ _ f_rd f_nb f_sz fr hH (lv_sub hl [1, 0] rfl)

set_option maxHeartbeats 4000000 in
set_option maxRecDepth 100000 in
theorem c_X6_byteFound (l : Launch) (X : hp_X) {μ : hp_M} {nx : Nat} {rd r a nb sz cnt kn kc : Nat} {nb1 sz1 : Nat → Nat} {i k : Nat} (hi : i < 2 ^ 31) (hk : k < 2 ^ 31) (hcnt : cnt ≤ 40) (hsz : ∀ j, j < cnt → sz1 j ≤ 10) (f_rd : μ rd = some (hp_o 3 [.ref r, .ref a, .ref nb, .ref sz, .int (nI cnt), .long (lN kn), .int (nI kc)])) (f_nb : μ nb = some (hp_n X 400 nb1)) (f_sz : μ sz = some (hp_n X 40 sz1)) : Ct l X yX6_byteFound cX6_byteFound 3 (some FieldType.int) 0 0 0 0 [.ref rd, .int (nI i), .int (nI k)] μ nx (hq_i X (po_i nx (if i < cnt ∧ k < sz1 i then nI (nb1 (10 * i + k)) else -1) (fun z => z = μ))) := by
  refine hp_met (by decide) (Nat.le_of_ble_eq_true rfl) ?_
  intro p e s m below meth c ls hx hb hml hr hlocks hown hin hS hH hl
  have hl : lv_has ls 3 [(0, .ref rd), (1, .int (nI i)), (2, .int (nI k))] := hl
  refine lv_iload_n hx hb dX6_byteFound_0 rfl (lv_at hl 1 rfl) ?_
  refine lv_if_lt (tgt := 26) hx hb dX6_byteFound_1 (by decide) (fun c_1 => ?_) (fun c_1 => ?_)
  · exact absurd c_1 (nI_pos (by omega))
  · refine lv_iload_n hx hb dX6_byteFound_4 rfl (lv_at hl 1 rfl) ?_
    refine lv_aload_n hx hb dX6_byteFound_5 rfl (lv_at hl 0 rfl) ?_
    refine hp_get hx hb hown hS.2.1 hH (F_X6_34.use hS) f_rd rfl dX6_byteFound_6 ?_
    refine lv_icmp_ge (tgt := 26) hx hb dX6_byteFound_9 (by decide) (fun c_9 => ?_) (fun c_9 => ?_)
    · have c_9 : cnt ≤ i := (nI_leI (by omega) (by omega)).mp c_9
      refine lv_iconst (v := (-1)) hx hb dX6_byteFound_26 (by decide) ?_
      exact hp_ri hx hb hr hlocks hS hH (⟨rfl, Eq.symm (if_neg (fun h9 => by omega)), rfl⟩) dX6_byteFound_27
    · have c_9 : ¬ (cnt ≤ i) := fun z => c_9 ((nI_leI (by omega) (by omega)).mpr z)
      have hszi := hsz i (by omega)
      refine lv_iload_n hx hb dX6_byteFound_12 rfl (lv_at hl 2 rfl) ?_
      refine lv_if_lt (tgt := 26) hx hb dX6_byteFound_13 (by decide) (fun c_13 => ?_) (fun c_13 => ?_)
      · exact absurd c_13 (nI_pos (by omega))
      · refine lv_iload_n hx hb dX6_byteFound_16 rfl (lv_at hl 2 rfl) ?_
        refine lv_aload_n hx hb dX6_byteFound_17 rfl (lv_at hl 0 rfl) ?_
        refine hp_get hx hb hown hS.2.1 hH (F_X6_31.use hS) f_rd rfl dX6_byteFound_18 ?_
        refine lv_iload_n hx hb dX6_byteFound_21 rfl (lv_at hl 1 rfl) ?_
        refine hp_ialdN hx hb hS.ai hH f_sz (by omega) (by omega) dX6_byteFound_22 ?_
        refine lv_icmp_lt (tgt := 28) hx hb dX6_byteFound_23 (by decide) (fun c_23 => ?_) (fun c_23 => ?_)
        · have c_23 : k < (sz1 i) := (nI_ltI (by omega) (by omega)).mp c_23
          refine lv_aload_n hx hb dX6_byteFound_28 rfl (lv_at hl 0 rfl) ?_
          refine hp_get hx hb hown hS.2.1 hH (F_X6_27.use hS) f_rd rfl dX6_byteFound_29 ?_
          refine lv_bipush (v := nI 10) hx hb dX6_byteFound_32 (by decide) ?_
          refine lv_iload_n hx hb dX6_byteFound_34 rfl (lv_at hl 1 rfl) ?_
          refine lv_imul hx hb dX6_byteFound_35 ?_
          refine hp_eqi (z := nI (10 * i)) (pk_mul _ _) ?_
          refine lv_iload_n hx hb dX6_byteFound_36 rfl (lv_at hl 2 rfl) ?_
          refine lv_iadd hx hb dX6_byteFound_37 ?_
          refine hp_eqi (z := nI ((10 * i) + k)) (nI_add _ _) ?_
          refine hp_ialdN hx hb hS.ai hH f_nb (by omega) (by omega) dX6_byteFound_38 ?_
          exact hp_ri hx hb hr hlocks hS hH (⟨rfl, Eq.symm (if_pos ⟨by omega, by omega⟩), rfl⟩) dX6_byteFound_39
        · have c_23 : ¬ (k < (sz1 i)) := fun z => c_23 ((nI_ltI (by omega) (by omega)).mpr z)
          refine lv_iconst (v := (-1)) hx hb dX6_byteFound_26 (by decide) ?_
          exact hp_ri hx hb hr hlocks hS hH (⟨rfl, Eq.symm (if_neg (fun h9 => by omega)), rfl⟩) dX6_byteFound_27

set_option maxHeartbeats 4000000 in
set_option maxRecDepth 100000 in
theorem c_X6_byteFound_i (l : Launch) (X : hp_X) {μ : hp_M} {nx : Nat} {rd r a nb sz cnt kn kc : Nat} {nb1 sz1 : Nat → Nat} {i k : Int32} (hi : i < 0) (f_rd : μ rd = some (hp_o 3 [.ref r, .ref a, .ref nb, .ref sz, .int (nI cnt), .long (lN kn), .int (nI kc)])) (f_nb : μ nb = some (hp_n X 400 nb1)) (f_sz : μ sz = some (hp_n X 40 sz1)) : Ct l X yX6_byteFound cX6_byteFound 3 (some FieldType.int) 0 0 0 0 [.ref rd, .int i, .int k] μ nx (hq_i X (po_i nx (-1) (fun z => z = μ))) := by
  refine hp_met (by decide) (Nat.le_of_ble_eq_true rfl) ?_
  intro p e s m below meth c ls hx hb hml hr hlocks hown hin hS hH hl
  have hl : lv_has ls 3 [(0, .ref rd), (1, .int i), (2, .int k)] := hl
  refine lv_iload_n hx hb dX6_byteFound_0 rfl (lv_at hl 1 rfl) ?_
  refine lv_if_lt (tgt := 26) hx hb dX6_byteFound_1 (by decide) (fun c_1 => ?_) (fun c_1 => ?_)
  · refine lv_iconst (v := (-1)) hx hb dX6_byteFound_26 (by decide) ?_
    exact hp_ri hx hb hr hlocks hS hH (⟨rfl, rfl, rfl⟩) dX6_byteFound_27
  · exact absurd hi c_1

set_option maxHeartbeats 4000000 in
set_option maxRecDepth 100000 in
theorem c_X6_byteFound_k (l : Launch) (X : hp_X) {μ : hp_M} {nx : Nat} {rd r a nb sz cnt kn kc : Nat} {nb1 sz1 : Nat → Nat} {i : Nat} {k : Int32} (hk : k < 0) (hi : i < 2 ^ 31) (hcnt : cnt ≤ 40) (f_rd : μ rd = some (hp_o 3 [.ref r, .ref a, .ref nb, .ref sz, .int (nI cnt), .long (lN kn), .int (nI kc)])) (f_nb : μ nb = some (hp_n X 400 nb1)) (f_sz : μ sz = some (hp_n X 40 sz1)) : Ct l X yX6_byteFound cX6_byteFound 3 (some FieldType.int) 0 0 0 0 [.ref rd, .int (nI i), .int k] μ nx (hq_i X (po_i nx (-1) (fun z => z = μ))) := by
  refine hp_met (by decide) (Nat.le_of_ble_eq_true rfl) ?_
  intro p e s m below meth c ls hx hb hml hr hlocks hown hin hS hH hl
  have hl : lv_has ls 3 [(0, .ref rd), (1, .int (nI i)), (2, .int k)] := hl
  refine lv_iload_n hx hb dX6_byteFound_0 rfl (lv_at hl 1 rfl) ?_
  refine lv_if_lt (tgt := 26) hx hb dX6_byteFound_1 (by decide) (fun c_1 => ?_) (fun c_1 => ?_)
  · exact absurd c_1 (nI_pos (by omega))
  · refine lv_iload_n hx hb dX6_byteFound_4 rfl (lv_at hl 1 rfl) ?_
    refine lv_aload_n hx hb dX6_byteFound_5 rfl (lv_at hl 0 rfl) ?_
    refine hp_get hx hb hown hS.2.1 hH (F_X6_34.use hS) f_rd rfl dX6_byteFound_6 ?_
    refine lv_icmp_ge (tgt := 26) hx hb dX6_byteFound_9 (by decide) (fun c_9 => ?_) (fun c_9 => ?_)
    · have c_9 : cnt ≤ i := (nI_leI (by omega) (by omega)).mp c_9
      refine lv_iconst (v := (-1)) hx hb dX6_byteFound_26 (by decide) ?_
      exact hp_ri hx hb hr hlocks hS hH (⟨rfl, rfl, rfl⟩) dX6_byteFound_27
    · have c_9 : ¬ (cnt ≤ i) := fun z => c_9 ((nI_leI (by omega) (by omega)).mpr z)
      refine lv_iload_n hx hb dX6_byteFound_12 rfl (lv_at hl 2 rfl) ?_
      refine lv_if_lt (tgt := 26) hx hb dX6_byteFound_13 (by decide) (fun c_13 => ?_) (fun c_13 => ?_)
      · refine lv_iconst (v := (-1)) hx hb dX6_byteFound_26 (by decide) ?_
        exact hp_ri hx hb hr hlocks hS hH (⟨rfl, rfl, rfl⟩) dX6_byteFound_27
      · exact absurd hk c_13

set_option maxHeartbeats 4000000 in
set_option maxRecDepth 100000 in
theorem c_X6_findOne (l : Launch) (X : hp_X) {μ : hp_M} {nx : Nat} {rd r b a nb sz cnt kn kc size : Nat} {rb : Nat → Nat} {ar l1 f1 mc q n sent : Nat} {on : Bool} {f : Nat → Option Nat} {ta sa lv st le : Nat → Nat} {aw : Nat → Bool} {sh : Nat → Nat → Nat} {aon aze alen : Nat} {nb1 sz1 : Nat → Nat} {ok : Bool} {st9 le9 nb9 sz9 : Nat → Nat} {sent9 cnt9 : Nat} (hcnt : cnt ≤ 40) (hsent : sent + 200 < 2 ^ 30) (h01 : ∀ j, rb j < 2) (hn16 : n ≤ 16) (hlv : ∀ j, j < n → 1 ≤ lv j ∧ lv j ≤ 3) (hst : ∀ j, j < n → st j < 8) (hle : ∀ j, j < n → 1 ≤ le j ∧ le j ≤ 3) (hsh : ∀ j, j < n → ∀ i, sh j i < 2 ^ 40) (hinj : ∀ i j, i < n → j < n → ta i = ta j → i = j) (hA : AW X μ ar l1 f1 mc q n on sent f ta sa lv aw st le sh) (hres : fo1 n lv sh st le sent nb1 sz1 cnt = (ok, st9, le9, sent9, nb9, sz9, cnt9)) (f_rd : μ rd = some (hp_o 3 [.ref r, .ref a, .ref nb, .ref sz, .int (nI cnt), .long (lN kn), .int (nI kc)])) (f_r : μ r = some (hp_o 4 [.ref b, .int (nI size)])) (f_b : μ b = some (hp_n X 81 rb)) (f_a : μ a = some (hp_o 1 [.long (lN aon), .long (lN aze), .int (nI alen)])) (f_nb : μ nb = some (hp_n X 400 nb1)) (f_sz : μ sz = some (hp_n X 40 sz1)) : Ct l X yX6_findOne cX6_findOne 4 (some FieldType.boolean) 6 240 0 0 [.ref rd, .ref ar] μ nx (hq_i X (po_i nx (nB ok) (fun z => ∃ (size9 on9 ze9 len9 kn9 kc9 : Nat) (rb9 : Nat → Nat), (∀ j, rb9 j < 2) ∧ z rd = some (hp_o 3 [.ref r, .ref a, .ref nb, .ref sz, .int (nI cnt9), .long (lN kn9), .int (nI kc9)]) ∧ z r = some (hp_o 4 [.ref b, .int (nI size9)]) ∧ z b = some (hp_n X 81 rb9) ∧ z a = some (hp_o 1 [.long (lN on9), .long (lN ze9), .int (nI len9)]) ∧ z nb = some (hp_n X 400 nb9) ∧ z sz = some (hp_n X 40 sz9) ∧ AW X z ar l1 f1 mc q n on sent9 f ta sa lv aw st9 le9 sh ∧ hp_eqP (gFP ar f1 a n ta rd r b nb sz) z μ))) := by
  refine hp_met (by decide) (Nat.le_of_ble_eq_true rfl) ?_
  intro p e s m below meth c ls hx hb hml hr hlocks hown hin hS hH hl
  have hl : lv_has ls 4 [(0, .ref rd), (1, .ref ar)] := hl
  have fr : hp_eqP (gFP ar f1 a n ta rd r b nb sz) μ μ := fun _ _ => rfl
  refine lv_aload_n hx hb dX6_findOne_0 rfl (lv_at hl 0 rfl) ?_
  refine hp_get hx hb hown hS.2.1 hH (F_X6_14.use hS) f_rd rfl dX6_findOne_1 ?_
  refine hp_kvm (hp_runV (As := []) (rest := []) hx hb hml hown hS hH (c_X8_clear l X f_r) M_X6_38 I_X8_clear V_X8_clear (ci := 4) rfl rfl f_r rfl hl.1 rfl (Nat.le_of_ble_eq_true rfl) dX6_findOne_4 ⟨Nat.le_of_ble_eq_true rfl, Nat.le_of_ble_eq_true rfl⟩ ⟨Nat.le_of_ble_eq_true rfl, Nat.le_of_ble_eq_true rfl⟩) hH (fun μ1 H locs hp hH => ?_)
  obtain ⟨fz0, fe⟩ := hp
  have hA := hA.keep (fun c9 e9 hc9 he9 => hp_e1 fe (aw_ne hc9 he9 f_r (by simp [awE])))
  have f_rd := (hp_e1 fe (hp_ne f_rd f_r (by simp))).trans f_rd
  have f_b := (hp_e1 fe (hp_ne f_b f_r (by simp))).trans f_b
  have f_a := (hp_e1 fe (hp_ne f_a f_r (by simp))).trans f_a
  have f_nb := (hp_e1 fe (hp_ne f_nb f_r (by simp))).trans f_nb
  have f_sz := (hp_e1 fe (hp_ne f_sz f_r (by simp))).trans f_sz
  have f_r : μ1 r = some (hp_o 4 [.ref b, .int (nI 0)]) := fz0
  have fr := hp_eqP.tr fe fr (fun q9 hq9 => by rw [List.mem_singleton.mp hq9]; simp [gFP, rFP])
  clear fe fz0
  refine lv_aload_n hx hb dX6_findOne_7 rfl (lv_at hl 0 rfl) ?_
  refine hp_get hx hb hown hS.2.1 hH (F_X6_14.use hS) f_rd rfl dX6_findOne_8 ?_
  refine lv_bipush (v := nI 38) hx hb dX6_findOne_11 (by decide) ?_
  refine lv_bipush (v := nI 7) hx hb dX6_findOne_13 (by decide) ?_
  refine hp_kvm (hp_runV (As := [.int (nI 38), .int (nI 7)]) (rest := []) hx hb hml hown hS hH (c_X8_addBits l X (v := nI 38) (n := 7) (by decide) (by decide) (by decide) f_r f_b) M_X6_41 I_X8_addBits V_X8_addBits (ci := 4) rfl rfl f_r rfl hl.1 rfl (Nat.le_of_ble_eq_true rfl) dX6_findOne_15 ⟨Nat.le_of_ble_eq_true rfl, Nat.le_of_ble_eq_true rfl⟩ ⟨Nat.le_of_ble_eq_true rfl, Nat.le_of_ble_eq_true rfl⟩) hH (fun μ1 H locs hp hH => ?_)
  obtain ⟨fz0, fz1, fe⟩ := hp
  have hA := hA.keep (fun c9 e9 hc9 he9 => hp_e2 fe (aw_ne hc9 he9 f_r (by simp [awE])) (aw_ne hc9 he9 f_b (by simp [awE])))
  have f_rd := (hp_e2 fe (hp_ne f_rd f_r (by simp)) (hp_ne f_rd f_b (by simp))).trans f_rd
  have f_a := (hp_e2 fe (hp_ne f_a f_r (by simp)) (hp_ne f_a f_b (by simp))).trans f_a
  have f_nb := (hp_e2 fe (hp_ne f_nb f_r (by simp)) (hp_nne f_nb f_b (by decide))).trans f_nb
  have f_sz := (hp_e2 fe (hp_ne f_sz f_r (by simp)) (hp_nne f_sz f_b (by decide))).trans f_sz
  have f_r : μ1 r = some (hp_o 4 [.ref b, .int (nI 7)]) := fz0
  have f_b : μ1 b = some (hp_n X 81 (rqB rb)) := fz1
  have fr := hp_eqP.tr fe fr (fun q9 hq9 => by simp only [List.mem_cons, List.not_mem_nil, or_false] at hq9; rcases hq9 with rfl | rfl <;> simp [gFP, rFP])
  clear fe fz0 fz1
  unfold fo1 at hres
  refine lv_aload_n hx hb dX6_findOne_18 rfl (lv_at hl 0 rfl) ?_
  refine hp_get hx hb hown hS.2.1 hH (F_X6_34.use hS) f_rd rfl dX6_findOne_19 ?_
  refine lv_bipush (v := nI 40) hx hb dX6_findOne_22 (by decide) ?_
  refine lv_icmp_ge (tgt := 42) hx hb dX6_findOne_24 (by decide) (fun c_24 => ?_) (fun c_24 => ?_)
  · have c_24 : 40 ≤ cnt := (nI_leI (by omega) (by omega)).mp c_24
    refine lv_iconst (v := nI 0) hx hb dX6_findOne_42 (by decide) ?_
    rw [if_pos (show 40 ≤ cnt by omega)] at hres
    cases hres
    refine hp_eqi (z := nB false) (by decide) ?_
    exact hp_rz hx hb hr hlocks hS hH (nB_nar _) (⟨rfl, rfl, _, _, _, _, _, _, _, rqB_01 h01, f_rd, f_r, f_b, f_a, f_nb, f_sz, hA, fr⟩) dX6_findOne_43
  · have c_24 : ¬ (40 ≤ cnt) := fun z => c_24 ((nI_leI (by omega) (by omega)).mpr z)
    rw [if_neg (show ¬ 40 ≤ cnt by omega)] at hres
    refine lv_aload_n hx hb dX6_findOne_27 rfl (lv_at hl 1 rfl) ?_
    refine lv_aload_n hx hb dX6_findOne_28 rfl (lv_at hl 0 rfl) ?_
    refine hp_get hx hb hown hS.2.1 hH (F_X6_14.use hS) f_rd rfl dX6_findOne_29 ?_
    refine lv_aload_n hx hb dX6_findOne_32 rfl (lv_at hl 0 rfl) ?_
    refine hp_get hx hb hown hS.2.1 hH (F_X6_23.use hS) f_rd rfl dX6_findOne_33 ?_
    have f_air := hA.1
    refine hp_kim (hp_runV (As := [.ref r, .ref a]) (rest := []) hx hb hml hown hS hH (c_send l X (rb2 := rqB z0) (rqB_congr _ _) (rqB_01 h01) (by decide) (by omega) (by omega) hn16 hlv hst hle hsh hinj hA f_r f_b f_a) M_X6_45 I_X1_send V_X1_send (ci := 0) rfl rfl f_air rfl hl.1 rfl (Nat.le_of_ble_eq_true rfl) dX6_findOne_36 ⟨Nat.le_of_ble_eq_true rfl, Nat.le_of_ble_eq_true rfl⟩ ⟨Nat.le_of_ble_eq_true rfl, Nat.le_of_ble_eq_true rfl⟩) hH (fun μ1 H locs hp hH => ?_)
    obtain ⟨hA1, fz0, fe⟩ := hp
    have f_rd := (fe _ (hA.out f_rd (by simp [awE]) (hp_ne f_rd f_a (by simp)))).trans f_rd
    have f_r := (fe _ (hA.out f_r (by simp [awE]) (hp_ne f_r f_a (by simp)))).trans f_r
    have f_b := (fe _ (hA.out f_b (by simp [awE]) (hp_ne f_b f_a (by simp)))).trans f_b
    have f_nb := (fe _ (hA.out f_nb (by simp [awE]) (hp_ne f_nb f_a (by simp)))).trans f_nb
    have f_sz := (fe _ (hA.out f_sz (by simp [awE]) (hp_ne f_sz f_a (by simp)))).trans f_sz
    have hA := hA1
    have f_a : μ1 a = some (hp_o 1 [.long (lN (fO n (rqB z0) 7 lv st le sh)), .long (lN (fZ n (rqB z0) 7 lv st le sh)), .int (nI (fN n (rqB z0) 7 lv st le sh))]) := fz0
    have fr := hp_eqP.trP fe fr (fun q9 h9 => Or.inl (Or.inl h9))
    have hfN := fN_le n (rqB z0) 7 lv st le sh
    clear fe fz0 hA1 f_air
    refine lv_if_ne (tgt := 44) hx hb dX6_findOne_39 (by decide) (fun c_39 => ?_) (fun c_39 => ?_)
    · have c_39 : ¬ (fN n (rqB z0) 7 lv st le sh = 0) := nz_n (by omega) c_39
      refine lv_aload_n hx hb dX6_findOne_44 rfl (lv_at hl 0 rfl) ?_
      refine hp_get hx hb hown hS.2.1 hH (F_X6_31.use hS) f_rd rfl dX6_findOne_45 ?_
      refine lv_aload_n hx hb dX6_findOne_48 rfl (lv_at hl 0 rfl) ?_
      refine hp_get hx hb hown hS.2.1 hH (F_X6_34.use hS) f_rd rfl dX6_findOne_49 ?_
      refine lv_iconst (v := nI 0) hx hb dX6_findOne_52 (by decide) ?_
      refine hp_iastN hx hb hS.ai hH f_sz (by omega) (by omega) dX6_findOne_53 (fun H locs μ1 fz fn hH => ?_)
      have hA := hA.keep (fun c9 e9 hc9 he9 => fn _ (aw_ne hc9 he9 f_sz (by simp [awE])))
      have f_rd := (fn _ (hp_ne f_rd f_sz (by simp))).trans f_rd
      have f_r := (fn _ (hp_ne f_r f_sz (by simp))).trans f_r
      have f_b := (fn _ (hp_nne f_b f_sz (by decide))).trans f_b
      have f_a := (fn _ (hp_ne f_a f_sz (by simp))).trans f_a
      have f_nb := (fn _ (hp_nne f_nb f_sz (by decide))).trans f_nb
      have f_sz : μ1 sz = some (hp_n X 40 (setN sz1 cnt 0)) := fz
      have fr := hp_eqP.put fr (by simp [gFP, rFP]) fn
      clear fz fn
      refine lv_iconst (v := nI 1) hx hb dX6_findOne_54 (by decide) ?_
      refine lv_istore_n (lv' := [(2, .int (nI 1)), (0, .ref rd), (1, .ref ar)]) hx hb dX6_findOne_55 rfl hl (by decide) rfl (fun ls hl => ?_)
      rw [if_neg c_39] at hres
      have lp_56 : ∀ (kk : Nat) (L : Nat) (st1 : Nat → Nat) (le1 : Nat → Nat) (sent1 : Nat) (kn1 : Nat) (kc1 : Nat) (size1 : Nat) (rb1 : Nat → Nat) (on1 : Nat) (ze1 : Nat) (len1 : Nat) (nb2 : Nat → Nat) (sz2 : Nat → Nat), (1 ≤ L) → (L ≤ 4) → (sent1 + 42 * (4 - L) ≤ sent + 200) → (∀ j, rb1 j < 2) → (∀ j, j < n → st1 j < 8) → (∀ j, j < n → 1 ≤ le1 j ∧ le1 j ≤ 3) → (sz2 cnt ≤ 3 * (L - 1)) → (foL n lv sh cnt (4 - L) L st1 le1 sent1 nb2 sz2 = (ok, st9, le9, sent9, nb9, sz9, cnt9)) → (4 - L) < kk → ∀ (μ1 : hp_M) (H : Heap) (locs : List Loc) (ls : Array Slot), (μ1 rd = some (hp_o 3 [.ref r, .ref a, .ref nb, .ref sz, .int (nI cnt), .long (lN kn1), .int (nI kc1)])) → (μ1 r = some (hp_o 4 [.ref b, .int (nI size1)])) → (μ1 b = some (hp_n X 81 rb1)) → (μ1 a = some (hp_o 1 [.long (lN on1), .long (lN ze1), .int (nI len1)])) → (μ1 nb = some (hp_n X 400 nb2)) → (μ1 sz = some (hp_n X 40 sz2)) → (AW X μ1 ar l1 f1 mc q n on sent1 f ta sa lv aw st1 le1 sh) → hp_eqP (gFP ar f1 a n ta rd r b nb sz) μ1 μ → hp_w X cls μ1 nx H locs → lv_has ls 4 [(0, .ref rd), (1, .ref ar), (2, .int (nI L))] → W p l e { frames := 6, cells := 0, slots := 0, locals := 240 } s m [.ref rd, .ref ar].toArray below meth c H locs 0 0 (MQ below (hq_i X (po_i nx (nB ok) (fun z => ∃ (size9 on9 ze9 len9 kn9 kc9 : Nat) (rb9 : Nat → Nat), (∀ j, rb9 j < 2) ∧ z rd = some (hp_o 3 [.ref r, .ref a, .ref nb, .ref sz, .int (nI cnt9), .long (lN kn9), .int (nI kc9)]) ∧ z r = some (hp_o 4 [.ref b, .int (nI size9)]) ∧ z b = some (hp_n X 81 rb9) ∧ z a = some (hp_o 1 [.long (lN on9), .long (lN ze9), .int (nI len9)]) ∧ z nb = some (hp_n X 400 nb9) ∧ z sz = some (hp_n X 40 sz9) ∧ AW X z ar l1 f1 mc q n on sent9 f ta sa lv aw st9 le9 sh ∧ hp_eqP (gFP ar f1 a n ta rd r b nb sz) z μ))) [.ref rd, .ref ar].toArray s 0 0 (hp_A X)) (F0 m 56 ls []) := by
        intro kk
        induction kk with
        | zero =>
          intro L st1 le1 sent1 kn1 kc1 size1 rb1 on1 ze1 len1 nb2 sz2 hL1 hL4 hs1 h011 hst1 hle1 hsz2 hres1 hkk
          exact absurd hkk (Nat.not_lt_zero _)
        | succ kk ih =>
          intro L st1 le1 sent1 kn1 kc1 size1 rb1 on1 ze1 len1 nb2 sz2 hL1 hL4 hs1 h011 hst1 hle1 hsz2 hres1 hkk μ1 H locs ls f_rd f_r f_b f_a f_nb f_sz hA fr hH hl
          refine lv_iload_n hx hb dX6_findOne_56 rfl (lv_at hl 2 rfl) ?_
          refine lv_iconst (v := nI 3) hx hb dX6_findOne_57 (by decide) ?_
          refine lv_icmp_gt (tgt := 138) hx hb dX6_findOne_58 (by decide) (fun c_58 => ?_) (fun c_58 => ?_)
          · have c_58 : 3 < L := (nI_ltI (by omega) (by omega)).mp c_58
            refine lv_iconst (v := nI 0) hx hb dX6_findOne_138 (by decide) ?_
            rw [show 4 - L = 0 by omega] at hres1
            simp only [foL] at hres1
            cases hres1
            refine hp_eqi (z := nB false) (by decide) ?_
            exact hp_rz hx hb hr hlocks hS hH (nB_nar _) (⟨rfl, rfl, _, _, _, _, _, _, _, h011, f_rd, f_r, f_b, f_a, f_nb, f_sz, hA, fr⟩) dX6_findOne_139
          · have c_58 : ¬ (3 < L) := fun z => c_58 ((nI_ltI (by omega) (by omega)).mpr z)
            refine lv_aload_n hx hb dX6_findOne_61 rfl (lv_at hl 0 rfl) ?_
            refine lv_iload_n hx hb dX6_findOne_62 rfl (lv_at hl 2 rfl) ?_
            refine lv_aload_n hx hb dX6_findOne_63 rfl (lv_at hl 1 rfl) ?_
            obtain ⟨f9, ef9⟩ : ∃ f9, 4 - L = f9 + 1 := ⟨4 - L - 1, by omega⟩
            rw [ef9] at hres1
            simp only [foL] at hres1
            rcases hse : seN n lv sh L 40 st1 le1 sent1 0 0 with ⟨ok2, st2, le2, sent2, kn2, kc2⟩
            have hin := seN_in hlv 40 _ _ _ _ _ hst1 hle1 (by decide) (by decide) _ _ _ _ _ _ hse
            have hp40 : (2 : Nat) ^ kc2 ≤ 2 ^ 40 := Nat.pow_le_pow_right (by decide) hin.2.2.2.2
            have hkn2 : kn2 < 2 ^ 40 := Nat.lt_of_lt_of_le hin.2.2.2.1 hp40
            rw [hse] at hres1
            simp only at hres1
            have hs2 := hin.2.2.1
            refine hp_kim (hp_runV (As := [.int (nI L), .ref ar]) (rest := []) hx hb hml hown hS hH (c_X6_searchLevel l X (L := L) (by omega) (by omega) h011 hn16 hlv hst1 hle1 hsh hinj hA hse f_rd f_r f_b f_a) M_X6_51 I_X6_searchLevel V_X6_searchLevel (ci := 3) rfl rfl f_rd rfl hl.1 rfl (Nat.le_of_ble_eq_true rfl) dX6_findOne_64 ⟨Nat.le_of_ble_eq_true rfl, Nat.le_of_ble_eq_true rfl⟩ ⟨Nat.le_of_ble_eq_true rfl, Nat.le_of_ble_eq_true rfl⟩) hH (fun μ1 H locs hp hH => ?_)
            obtain ⟨size8, on8, ze8, len8, rb8, h018, fz0, fz1, fz2, fz3, hA1, fe⟩ := hp
            have f_nb := (fe _ (hA.out2 f_nb (by simp [awE]) (hp_ne f_nb f_a (by simp)) (hp_ne f_nb f_rd (by simp)) (hp_ne f_nb f_r (by simp)) (hp_nne f_nb f_b (by decide)))).trans f_nb
            have f_sz := (fe _ (hA.out2 f_sz (by simp [awE]) (hp_ne f_sz f_a (by simp)) (hp_ne f_sz f_rd (by simp)) (hp_ne f_sz f_r (by simp)) (hp_nne f_sz f_b (by decide)))).trans f_sz
            have hA := hA1
            have f_rd : μ1 rd = some (hp_o 3 [.ref r, .ref a, .ref nb, .ref sz, .int (nI cnt), .long (lN kn2), .int (nI kc2)]) := fz0
            have f_r : μ1 r = some (hp_o 4 [.ref b, .int (nI size8)]) := fz1
            have f_b : μ1 b = some (hp_n X 81 rb8) := fz2
            have f_a : μ1 a = some (hp_o 1 [.long (lN on8), .long (lN ze8), .int (nI len8)]) := fz3
            have fr := hp_eqP.trP fe fr (fun q9 h9 => Or.inl h9)
            clear fe hA1 fz0 fz1 fz2 fz3
            refine lv_if_eq (tgt := 79) hx hb dX6_findOne_67 (by decide) (fun c_67 => ?_) (fun c_67 => ?_)
            · have c_67 : ok2 = false := nB_0 c_67
              refine lv_iconst (v := nI 0) hx hb dX6_findOne_79 (by decide) ?_
              rw [if_neg (by rw [c_67]; decide)] at hres1
              cases hres1
              refine hp_eqi (z := nB false) (by decide) ?_
              exact hp_rz hx hb hr hlocks hS hH (nB_nar _) (⟨rfl, rfl, _, _, _, _, _, _, _, h018, f_rd, f_r, f_b, f_a, f_nb, f_sz, hA, fr⟩) dX6_findOne_80
            · have c_67 : ok2 = true := nB_n c_67
              refine lv_aload_n hx hb dX6_findOne_70 rfl (lv_at hl 0 rfl) ?_
              refine lv_iload_n hx hb dX6_findOne_71 rfl (lv_at hl 2 rfl) ?_
              refine lv_aload_n hx hb dX6_findOne_72 rfl (lv_at hl 1 rfl) ?_
              rw [if_pos c_67] at hres1
              refine hp_kim (hp_runV (As := [.int (nI L), .ref ar]) (rest := []) hx hb hml hown hS hH (c_X6_choose l X (L := L) (by omega) hkn2 (by omega) h018 hn16 hlv hin.1 hin.2.1 hsh hinj hA f_rd f_r f_b f_a) M_X6_55 I_X6_choose V_X6_choose (ci := 3) rfl rfl f_rd rfl hl.1 rfl (Nat.le_of_ble_eq_true rfl) dX6_findOne_73 ⟨Nat.le_of_ble_eq_true rfl, Nat.le_of_ble_eq_true rfl⟩ ⟨Nat.le_of_ble_eq_true rfl, Nat.le_of_ble_eq_true rfl⟩) hH (fun μ1 H locs hp hH => ?_)
              obtain ⟨rb9, h019, fz0, fz1, fz2, fz3, hA1, fe⟩ := hp
              have f_nb := (fe _ (hA.out2 f_nb (by simp [awE]) (hp_ne f_nb f_a (by simp)) (hp_ne f_nb f_rd (by simp)) (hp_ne f_nb f_r (by simp)) (hp_nne f_nb f_b (by decide)))).trans f_nb
              have f_sz := (fe _ (hA.out2 f_sz (by simp [awE]) (hp_ne f_sz f_a (by simp)) (hp_ne f_sz f_rd (by simp)) (hp_ne f_sz f_r (by simp)) (hp_nne f_sz f_b (by decide)))).trans f_sz
              have hA := hA1
              have f_rd : μ1 rd = some (hp_o 3 [.ref r, .ref a, .ref nb, .ref sz, .int (nI cnt), .long (lN kn2), .int (nI kc2)]) := fz0
              have f_r : μ1 r = some (hp_o 4 [.ref b, .int (nI 81)]) := fz1
              have f_b : μ1 b = some (hp_n X 81 rb9) := fz2
              have f_a : μ1 a = some (hp_o 1 [.long (lN (fO n (laC z0 L kn2) 81 lv st2 le2 sh)), .long (lN (fZ n (laC z0 L kn2) 81 lv st2 le2 sh)), .int (nI (fN n (laC z0 L kn2) 81 lv st2 le2 sh))]) := fz3
              have fr := hp_eqP.trP fe fr (fun q9 h9 => Or.inl h9)
              clear fe hA1 fz0 fz1 fz2 fz3
              refine lv_if_ne (tgt := 81) hx hb dX6_findOne_76 (by decide) (fun c_76 => ?_) (fun c_76 => ?_)
              · have c_76 : (decide (0 < fN n (laC z0 L kn2) 81 lv st2 le2 sh)) = true := nB_n c_76
                refine lv_aload_n hx hb dX6_findOne_81 rfl (lv_at hl 0 rfl) ?_
                refine hp_get hx hb hown hS.2.1 hH (F_X6_23.use hS) f_rd rfl dX6_findOne_82 ?_
                refine lv_iconst (v := nI 4) hx hb dX6_findOne_85 (by decide) ?_
                have hc76 := of_decide_eq_true c_76
                rw [if_neg (Nat.ne_of_gt hc76)] at hres1
                have hO45 := fO_lt n (laC z0 L kn2) 81 lv st2 le2 sh
                have hZ45 := fZ_lt n (laC z0 L kn2) 81 lv st2 le2 sh
                refine hp_kip (hp_runV (As := [.int (nI 4)]) (rest := []) hx hb hml hown hS hH (c_X2_beginsWith l X (b := 4) (by omega) (by omega) (by decide) f_a) M_X6_58 I_X2_beginsWith V_X2_beginsWith (ci := 1) rfl rfl f_a rfl hl.1 rfl (Nat.le_of_ble_eq_true rfl) dX6_findOne_86 ⟨Nat.le_of_ble_eq_true rfl, Nat.le_of_ble_eq_true rfl⟩ ⟨Nat.le_of_ble_eq_true rfl, Nat.le_of_ble_eq_true rfl⟩) hH (fun H locs hH => ?_)
                refine lv_if_ne (tgt := 96) hx hb dX6_findOne_89 (by decide) (fun c_89 => ?_) (fun c_89 => ?_)
                · have c_89 : (decide (fO n (laC z0 L kn2) 81 lv st2 le2 sh % 256 = 4 ∧ fZ n (laC z0 L kn2) 81 lv st2 le2 sh % 256 = 4 ^^^ 255)) = true := nB_n c_89
                  rw [if_pos (of_decide_eq_true c_89)] at hres1
                  refine lv_iconst (v := nI 0) hx hb dX6_findOne_96 (by decide) ?_
                  refine lv_istore_n (lv' := [(3, .int (nI 0)), (0, .ref rd), (1, .ref ar), (2, .int (nI L))]) hx hb dX6_findOne_97 rfl hl (by decide) rfl (fun ls hl => ?_)
                  refine lv_aload_n hx hb dX6_findOne_98 rfl (lv_at hl 1 rfl) ?_
                  refine lv_iload_n hx hb dX6_findOne_99 rfl (lv_at hl 0 rfl) ?_
                  refine lv_if_eq (tgt := 107) hx hb dX6_findOne_100 (by decide) (fun c_100 => ?_) (fun c_100 => ?_)
                  · have c_100 : 0 = 0 := nz_0 (by omega) c_100
                    refine lv_iconst (v := nI 1) hx hb dX6_findOne_107 (by decide) ?_
                    have hsz3 : sz2 cnt + 4 ≤ 10 + 1 := by omega
                    refine hp_kvm (hp_runV (As := [.int (nI 1)]) (rest := []) hx hb hml hown hS hH (c_X6_keepBytes l X (fm := 1) hkn2 (by decide) (by omega) hsz3 f_rd f_nb f_sz) M_X6_62 I_X6_keepBytes V_X6_keepBytes (ci := 3) rfl rfl f_rd rfl hl.1 rfl (Nat.le_of_ble_eq_true rfl) dX6_findOne_108 ⟨Nat.le_of_ble_eq_true rfl, Nat.le_of_ble_eq_true rfl⟩ ⟨Nat.le_of_ble_eq_true rfl, Nat.le_of_ble_eq_true rfl⟩) hH (fun μ1 H locs hp hH => ?_)
                    obtain ⟨fz0, fz1, fe⟩ := hp
                    have hA := hA.keep (fun c9 e9 hc9 he9 => hp_e2 fe (aw_ne hc9 he9 f_nb (by simp [awE])) (aw_ne hc9 he9 f_sz (by simp [awE])))
                    have f_rd := (hp_e2 fe (hp_ne f_rd f_nb (by simp)) (hp_ne f_rd f_sz (by simp))).trans f_rd
                    have f_r := (hp_e2 fe (hp_ne f_r f_nb (by simp)) (hp_ne f_r f_sz (by simp))).trans f_r
                    have f_b := (hp_e2 fe (hp_nne f_b f_nb (by decide)) (hp_nne f_b f_sz (by decide))).trans f_b
                    have f_a := (hp_e2 fe (hp_ne f_a f_nb (by simp)) (hp_ne f_a f_sz (by simp))).trans f_a
                    have f_nb : μ1 nb = some (hp_n X 400 (kpN kn2 cnt 1 (sz2 cnt) nb2 3)) := fz0
                    have f_sz : μ1 sz = some (hp_n X 40 (setN sz2 cnt (sz2 cnt + 3))) := fz1
                    have fr := hp_eqP.tr fe fr (fun q9 hq9 => by simp only [List.mem_cons, List.not_mem_nil, or_false] at hq9; rcases hq9 with rfl | rfl <;> simp [gFP, rFP])
                    clear fe fz0 fz1
                    refine lv_iload_n hx hb dX6_findOne_111 rfl (lv_at hl 0 rfl) ?_
                    refine lv_if_eq (tgt := 132) hx hb dX6_findOne_112 (by decide) (fun c_112 => ?_) (fun c_112 => ?_)
                    · have c_112 : 0 = 0 := nz_0 (by omega) c_112
                      refine lv_iinc (v := nI (L + 1)) (lv' := [(2, .int (nI (L + 1))), (3, .int (nI 0)), (0, .ref rd), (1, .ref ar)]) hx hb dX6_findOne_132 hl (k := 3) rfl (nI_add _ 1) (by decide) rfl (fun ls hl => ?_)
                      refine lv_goto (tgt := 56) hx hb dX6_findOne_135 (by decide) ?_
                      exact ih (L + 1) (fS (laC z0 L kn2) 81 lv st2 le2 sh) (fL (laC z0 L kn2) 81 lv st2 le2 sh) (sent2 + 1) kn2 kc2 81 rb9 (fO n (laC z0 L kn2) 81 lv st2 le2 sh) (fZ n (laC z0 L kn2) 81 lv st2 le2 sh) (fN n (laC z0 L kn2) 81 lv st2 le2 sh) (kpN kn2 cnt 1 (sz2 cnt) nb2 3) (setN sz2 cnt (sz2 cnt + 3)) (by omega) (by omega) (by omega) h019 (fS_lt _ _ _ _ hin.1) (fL_in _ _ _ _ hlv hin.2.1) (by rw [setN_s]; omega) (by rw [show 4 - (L + 1) = f9 by omega]; exact hres1) (by omega) _ _ _ _ f_rd f_r f_b f_a f_nb f_sz hA fr hH (lv_sub hl [2, 3, 0] rfl)
                    · exact absurd c_112 (by decide)
                  · exact absurd c_100 (by decide)
                · have c_89 : (decide (fO n (laC z0 L kn2) 81 lv st2 le2 sh % 256 = 4 ∧ fZ n (laC z0 L kn2) 81 lv st2 le2 sh % 256 = 4 ^^^ 255)) = false := nB_0 c_89
                  rw [if_neg (of_decide_eq_false c_89)] at hres1
                  refine lv_iconst (v := nI 1) hx hb dX6_findOne_92 (by decide) ?_
                  refine lv_goto (tgt := 97) hx hb dX6_findOne_93 (by decide) ?_
                  refine lv_istore_n (lv' := [(3, .int (nI 1)), (0, .ref rd), (1, .ref ar), (2, .int (nI L))]) hx hb dX6_findOne_97 rfl hl (by decide) rfl (fun ls hl => ?_)
                  refine lv_aload_n hx hb dX6_findOne_98 rfl (lv_at hl 1 rfl) ?_
                  refine lv_iload_n hx hb dX6_findOne_99 rfl (lv_at hl 0 rfl) ?_
                  refine lv_if_eq (tgt := 107) hx hb dX6_findOne_100 (by decide) (fun c_100 => ?_) (fun c_100 => ?_)
                  · exact absurd c_100 (by decide)
                  · have c_100 : ¬ (1 = 0) := nz_n (by omega) c_100
                    refine lv_iconst (v := nI 0) hx hb dX6_findOne_103 (by decide) ?_
                    refine lv_goto (tgt := 108) hx hb dX6_findOne_104 (by decide) ?_
                    have hsz3 : sz2 cnt + 4 ≤ 10 + 0 := by omega
                    refine hp_kvm (hp_runV (As := [.int (nI 0)]) (rest := []) hx hb hml hown hS hH (c_X6_keepBytes l X (fm := 0) hkn2 (by decide) (by omega) hsz3 f_rd f_nb f_sz) M_X6_62 I_X6_keepBytes V_X6_keepBytes (ci := 3) rfl rfl f_rd rfl hl.1 rfl (Nat.le_of_ble_eq_true rfl) dX6_findOne_108 ⟨Nat.le_of_ble_eq_true rfl, Nat.le_of_ble_eq_true rfl⟩ ⟨Nat.le_of_ble_eq_true rfl, Nat.le_of_ble_eq_true rfl⟩) hH (fun μ1 H locs hp hH => ?_)
                    obtain ⟨fz0, fz1, fe⟩ := hp
                    have hA := hA.keep (fun c9 e9 hc9 he9 => hp_e2 fe (aw_ne hc9 he9 f_nb (by simp [awE])) (aw_ne hc9 he9 f_sz (by simp [awE])))
                    have f_rd := (hp_e2 fe (hp_ne f_rd f_nb (by simp)) (hp_ne f_rd f_sz (by simp))).trans f_rd
                    have f_r := (hp_e2 fe (hp_ne f_r f_nb (by simp)) (hp_ne f_r f_sz (by simp))).trans f_r
                    have f_b := (hp_e2 fe (hp_nne f_b f_nb (by decide)) (hp_nne f_b f_sz (by decide))).trans f_b
                    have f_a := (hp_e2 fe (hp_ne f_a f_nb (by simp)) (hp_ne f_a f_sz (by simp))).trans f_a
                    have f_nb : μ1 nb = some (hp_n X 400 (kpN kn2 cnt 0 (sz2 cnt) nb2 4)) := fz0
                    have f_sz : μ1 sz = some (hp_n X 40 (setN sz2 cnt (sz2 cnt + 4))) := fz1
                    have fr := hp_eqP.tr fe fr (fun q9 hq9 => by simp only [List.mem_cons, List.not_mem_nil, or_false] at hq9; rcases hq9 with rfl | rfl <;> simp [gFP, rFP])
                    clear fe fz0 fz1
                    refine lv_iload_n hx hb dX6_findOne_111 rfl (lv_at hl 0 rfl) ?_
                    refine lv_if_eq (tgt := 132) hx hb dX6_findOne_112 (by decide) (fun c_112 => ?_) (fun c_112 => ?_)
                    · exact absurd c_112 (by decide)
                    · have c_112 : ¬ (1 = 0) := nz_n (by omega) c_112
                      refine lv_aload_n hx hb dX6_findOne_115 rfl (lv_at hl 1 rfl) ?_
                      refine lv_dup hx hb dX6_findOne_116 rfl ?_
                      refine hp_get hx hb hown hS.2.1 hH (F_X6_34.use hS) f_rd rfl dX6_findOne_117 ?_
                      refine lv_iconst (v := nI 1) hx hb dX6_findOne_120 (by decide) ?_
                      refine lv_iadd hx hb dX6_findOne_121 ?_
                      refine hp_eqi (z := nI (cnt + 1)) (nI_add _ _) ?_
                      refine hp_put hx hb hown hS.2.1 hH (P_X6_34.use hS) f_rd rfl rfl (Nat.le_of_ble_eq_true rfl) dX6_findOne_122 (fun H locs μ1 fz fn hH => ?_)
                      have hA := hA.keep (fun c9 e9 hc9 he9 => fn _ (aw_ne hc9 he9 f_rd (by simp [awE])))
                      have f_r := (fn _ (hp_ne f_r f_rd (by simp))).trans f_r
                      have f_b := (fn _ (hp_ne f_b f_rd (by simp))).trans f_b
                      have f_a := (fn _ (hp_ne f_a f_rd (by simp))).trans f_a
                      have f_nb := (fn _ (hp_ne f_nb f_rd (by simp))).trans f_nb
                      have f_sz := (fn _ (hp_ne f_sz f_rd (by simp))).trans f_sz
                      have f_rd : μ1 rd = some (hp_o 3 [.ref r, .ref a, .ref nb, .ref sz, .int (nI (cnt + 1)), .long (lN kn2), .int (nI kc2)]) := fz
                      have fr := hp_eqP.put fr (by simp [gFP, rFP]) fn
                      clear fz fn
                      refine lv_aload_n hx hb dX6_findOne_125 rfl (lv_at hl 1 rfl) ?_
                      refine lv_aload_n hx hb dX6_findOne_126 rfl (lv_at hl 2 rfl) ?_
                      refine hp_kvm (hp_runV (As := [.ref ar]) (rest := []) hx hb hml hown hS hH (c_X6_halt l X (by omega) h019 hn16 hlv (fS_lt _ _ _ _ hin.1) (fL_in _ _ _ _ hlv hin.2.1) hsh hinj hA f_rd f_r f_b f_a) M_X6_65 I_X6_halt V_X6_halt (ci := 3) rfl rfl f_rd rfl hl.1 rfl (Nat.le_of_ble_eq_true rfl) dX6_findOne_127 ⟨Nat.le_of_ble_eq_true rfl, Nat.le_of_ble_eq_true rfl⟩ ⟨Nat.le_of_ble_eq_true rfl, Nat.le_of_ble_eq_true rfl⟩) hH (fun μ1 H locs hp hH => ?_)
                      obtain ⟨rb7, h017, fz0, fz1, fz2, fz3, hA1, fe⟩ := hp
                      have f_nb := (fe _ (hA.out2 f_nb (by simp [awE]) (hp_ne f_nb f_a (by simp)) (hp_ne f_nb f_rd (by simp)) (hp_ne f_nb f_r (by simp)) (hp_nne f_nb f_b (by decide)))).trans f_nb
                      have f_sz := (fe _ (hA.out2 f_sz (by simp [awE]) (hp_ne f_sz f_a (by simp)) (hp_ne f_sz f_rd (by simp)) (hp_ne f_sz f_r (by simp)) (hp_nne f_sz f_b (by decide)))).trans f_sz
                      have hA := hA1
                      have f_rd : μ1 rd = some (hp_o 3 [.ref r, .ref a, .ref nb, .ref sz, .int (nI (cnt + 1)), .long (lN kn2), .int (nI kc2)]) := fz0
                      have f_r : μ1 r = some (hp_o 4 [.ref b, .int (nI 36)]) := fz1
                      have f_b : μ1 b = some (hp_n X 81 rb7) := fz2
                      have f_a : μ1 a = some (hp_o 1 [.long (lN (fO n (laH z0) 36 lv (fS (laC z0 L kn2) 81 lv st2 le2 sh) (fL (laC z0 L kn2) 81 lv st2 le2 sh) sh)), .long (lN (fZ n (laH z0) 36 lv (fS (laC z0 L kn2) 81 lv st2 le2 sh) (fL (laC z0 L kn2) 81 lv st2 le2 sh) sh)), .int (nI (fN n (laH z0) 36 lv (fS (laC z0 L kn2) 81 lv st2 le2 sh) (fL (laC z0 L kn2) 81 lv st2 le2 sh) sh))]) := fz3
                      have fr := hp_eqP.trP fe fr (fun q9 h9 => Or.inl h9)
                      clear fe hA1 fz0 fz1 fz2 fz3
                      refine lv_iconst (v := nI 1) hx hb dX6_findOne_130 (by decide) ?_
                      cases hres1
                      refine hp_eqi (z := nB true) (by decide) ?_
                      exact hp_rz hx hb hr hlocks hS hH (nB_nar _) (⟨rfl, rfl, _, _, _, _, _, _, _, h017, f_rd, f_r, f_b, f_a, f_nb, f_sz, hA, fr⟩) dX6_findOne_131
              · have c_76 : (decide (0 < fN n (laC z0 L kn2) 81 lv st2 le2 sh)) = false := nB_0 c_76
                refine lv_iconst (v := nI 0) hx hb dX6_findOne_79 (by decide) ?_
                rw [if_pos (by have := of_decide_eq_false c_76; omega)] at hres1
                cases hres1
                refine hp_eqi (z := nB false) (by decide) ?_
                exact hp_rz hx hb hr hlocks hS hH (nB_nar _) (⟨rfl, rfl, _, _, _, _, _, _, _, h019, f_rd, f_r, f_b, f_a, f_nb, f_sz, hA, fr⟩) dX6_findOne_80
      exact lp_56 ((4 - 1) + 1) 1 (fS (rqB z0) 7 lv st le sh) (fL (rqB z0) 7 lv st le sh) (sent + 1) kn kc 7 (rqB rb) (fO n (rqB z0) 7 lv st le sh) (fZ n (rqB z0) 7 lv st le sh) (fN n (rqB z0) 7 lv st le sh) nb1 (setN sz1 cnt 0) (by decide) (by decide) (by omega) (rqB_01 h01) (fS_lt _ _ _ _ hst) (fL_in _ _ _ _ hlv hle) (by rw [setN_s]; exact Nat.zero_le _) hres (Nat.lt_succ_self _) _ _ _ _ f_rd f_r f_b f_a f_nb f_sz hA fr hH (lv_sub hl [1, 2, 0] rfl)
    · have c_39 : (fN n (rqB z0) 7 lv st le sh) = 0 := nz_0 (by omega) c_39
      refine lv_iconst (v := nI 0) hx hb dX6_findOne_42 (by decide) ?_
      rw [if_pos c_39] at hres
      cases hres
      refine hp_eqi (z := nB false) (by decide) ?_
      exact hp_rz hx hb hr hlocks hS hH (nB_nar _) (⟨rfl, rfl, _, _, _, _, _, _, _, rqB_01 h01, f_rd, f_r, f_b, f_a, f_nb, f_sz, hA, fr⟩) dX6_findOne_43

set_option maxHeartbeats 4000000 in
set_option maxRecDepth 100000 in
theorem c_X6_init (l : Launch) (X : hp_X) {μ : hp_M} {nx : Nat} {rd : Nat} (f_rd : μ rd = some (hp_o 3 [.null, .null, .null, .null, .int (nI 0), .long (lN 0), .int (nI 0)])) : Ct l X yX6_init cX6_init 1 (none : Option Jvm.ClassFile.FieldType) 3 120 5 526 [.ref rd] μ nx (hq_v X (po_v (nx + 5) (fun z => z rd = some (hp_o 3 [.ref nx, .ref (nx + 2), .ref (nx + 3), .ref (nx + 4), .int (nI 0), .long (lN 0), .int (nI 0)]) ∧ z nx = some (hp_o 4 [.ref (nx + 1), .int (nI 0)]) ∧ z (nx + 1) = some (hp_n X 81 (fun _ => 0)) ∧ z (nx + 2) = some (hp_o 1 [.long (lN 0), .long (lN 0), .int (nI 0)]) ∧ z (nx + 3) = some (hp_n X 400 (fun _ => 0)) ∧ z (nx + 4) = some (hp_n X 40 (fun _ => 0)) ∧ hp_eq [rd, nx, nx + 1, nx + 2, nx + 3, nx + 4] z μ))) := by
  refine hp_met (by decide) (Nat.le_of_ble_eq_true rfl) ?_
  intro p e s m below meth c ls hx hb hml hr hlocks hown hin hS hH hl
  have hl : lv_has ls 1 [(0, .ref rd)] := hl
  have fr : hp_eq [rd, nx, nx + 1, nx + 2, nx + 3, nx + 4] μ μ := fun _ _ => rfl
  have hlt_a := hH.lt f_rd
  refine lv_aload_n hx hb dX6_init_0 rfl (lv_at hl 0 rfl) ?_
  refine hp_obj hx hb hml hown hS ol_X6_3 hl.1 dX6_init_1 (Nat.le_of_ble_eq_true rfl) (Nat.le_of_ble_eq_true rfl) (Nat.le_of_ble_eq_true rfl) ?_
  refine lv_aload_n hx hb dX6_init_4 rfl (lv_at hl 0 rfl) ?_
  have hO := hH
  refine hp_new hx hb hown hS.2.1 hH (N_X6_9.use hS) (Nat.le_of_ble_eq_true rfl) (Nat.le_of_ble_eq_true rfl) dX6_init_5 (fun H μ1 fz fn hH => ?_)
  have f_rd := (fn _ (Nat.ne_of_lt (hO.lt f_rd))).trans f_rd
  have f_n0 : μ1 nx = some (hp_o 4 [.null, .int (nI 0)]) := fz
  have fr := hp_eq.put fr (by simp) fn
  clear fz fn hO
  refine lv_dup hx hb dX6_init_8 rfl ?_
  refine lv_bipush (v := nI 81) hx hb dX6_init_9 (by decide) ?_
  have hO := hH
  refine hp_kvm (hp_runI (As := [.int (nI 81)]) (rest := [.ref nx, .ref rd]) hx hb hml hown hS hH (c_X8_init l X (room := 81) (by decide) f_n0) M_X6_11 I_X8_init rfl rfl hl.1 rfl (Nat.le_of_ble_eq_true rfl) dX6_init_11 ⟨Nat.le_of_ble_eq_true rfl, Nat.le_of_ble_eq_true rfl⟩ ⟨Nat.le_of_ble_eq_true rfl, Nat.le_of_ble_eq_true rfl⟩) hH (fun μ1 H locs hp hH => ?_)
  obtain ⟨fz0, fz1, fe⟩ := hp
  have f_rd := (hp_e2 fe (by omega) (Nat.ne_of_lt (hO.lt f_rd))).trans f_rd
  have f_n0 : μ1 nx = some (hp_o 4 [.ref (nx + 1), .int (nI 0)]) := fz0
  have f_n1 : μ1 (nx + 1) = some (hp_n X 81 (fun _ => 0)) := fz1
  have fr := hp_eq.tr2 fe fr (by simp) (by simp)
  clear fe fz0 fz1 hO
  refine hp_putF hx hb hown hS.2.1 hH (P_X6_14.use hS) hin f_rd rfl rfl (Nat.le_of_ble_eq_true rfl) dX6_init_14 (fun H locs μ1 fz fn hH => ?_)
  have f_n0 := (fn _ (by omega)).trans f_n0
  have f_n1 := (fn _ (by omega)).trans f_n1
  have f_rd : μ1 rd = some (hp_o 3 [.ref nx, .null, .null, .null, .int (nI 0), .long (lN 0), .int (nI 0)]) := fz
  have fr := hp_eq.put fr (by simp) fn
  clear fz fn
  refine lv_aload_n hx hb dX6_init_17 rfl (lv_at hl 0 rfl) ?_
  have hO := hH
  refine hp_new hx hb hown hS.2.1 hH (N_X6_20.use hS) (Nat.le_of_ble_eq_true rfl) (Nat.le_of_ble_eq_true rfl) dX6_init_18 (fun H μ1 fz fn hH => ?_)
  have f_rd := (fn _ (Nat.ne_of_lt (hO.lt f_rd))).trans f_rd
  have f_n0 := (fn _ (Nat.ne_of_lt (hO.lt f_n0))).trans f_n0
  have f_n1 := (fn _ (Nat.ne_of_lt (hO.lt f_n1))).trans f_n1
  have f_n2 : μ1 (nx + 2) = some (hp_o 1 [.long (lN 0), .long (lN 0), .int (nI 0)]) := fz
  have fr := hp_eq.put fr (by simp) fn
  clear fz fn hO
  refine lv_dup hx hb dX6_init_21 rfl ?_
  refine hp_kvp (hp_runI (As := []) (rest := [.ref (nx + 2), .ref rd]) hx hb hml hown hS hH (c_X2_init l X) M_X6_22 I_X2_init rfl rfl hl.1 rfl (Nat.le_of_ble_eq_true rfl) dX6_init_22 ⟨Nat.le_of_ble_eq_true rfl, Nat.le_of_ble_eq_true rfl⟩ ⟨Nat.le_of_ble_eq_true rfl, Nat.le_of_ble_eq_true rfl⟩) hH (fun H locs hH => ?_)
  refine hp_putF hx hb hown hS.2.1 hH (P_X6_23.use hS) hin f_rd rfl rfl (Nat.le_of_ble_eq_true rfl) dX6_init_25 (fun H locs μ1 fz fn hH => ?_)
  have f_n0 := (fn _ (by omega)).trans f_n0
  have f_n1 := (fn _ (by omega)).trans f_n1
  have f_n2 := (fn _ (by omega)).trans f_n2
  have f_rd : μ1 rd = some (hp_o 3 [.ref nx, .ref (nx + 2), .null, .null, .int (nI 0), .long (lN 0), .int (nI 0)]) := fz
  have fr := hp_eq.put fr (by simp) fn
  clear fz fn
  refine lv_aload_n hx hb dX6_init_28 rfl (lv_at hl 0 rfl) ?_
  refine lv_sipush (v := nI 400) hx hb dX6_init_29 (by decide) ?_
  have hO := hH
  refine hp_newi hx hb (hS.1 _ wi_88 _) hS.ni hH (nI_pos (by omega)) (nI_clamp (by omega)) (by omega) (Nat.le_of_ble_eq_true rfl) (Nat.le_of_ble_eq_true rfl) dX6_init_32 (fun H μ1 fz fn hH => ?_)
  have f_rd := (fn _ (Nat.ne_of_lt (hO.lt f_rd))).trans f_rd
  have f_n0 := (fn _ (Nat.ne_of_lt (hO.lt f_n0))).trans f_n0
  have f_n1 := (fn _ (Nat.ne_of_lt (hO.lt f_n1))).trans f_n1
  have f_n2 := (fn _ (Nat.ne_of_lt (hO.lt f_n2))).trans f_n2
  have f_n3 : μ1 (nx + 3) = some (hp_n X 400 (fun _ => 0)) := fz
  have fr := hp_eq.put fr (by simp) fn
  clear fz fn hO
  refine hp_putF hx hb hown hS.2.1 hH (P_X6_27.use hS) hin f_rd rfl rfl (Nat.le_of_ble_eq_true rfl) dX6_init_34 (fun H locs μ1 fz fn hH => ?_)
  have f_n0 := (fn _ (by omega)).trans f_n0
  have f_n1 := (fn _ (by omega)).trans f_n1
  have f_n2 := (fn _ (by omega)).trans f_n2
  have f_n3 := (fn _ (by omega)).trans f_n3
  have f_rd : μ1 rd = some (hp_o 3 [.ref nx, .ref (nx + 2), .ref (nx + 3), .null, .int (nI 0), .long (lN 0), .int (nI 0)]) := fz
  have fr := hp_eq.put fr (by simp) fn
  clear fz fn
  refine lv_aload_n hx hb dX6_init_37 rfl (lv_at hl 0 rfl) ?_
  refine lv_bipush (v := nI 40) hx hb dX6_init_38 (by decide) ?_
  have hO := hH
  refine hp_newi hx hb (hS.1 _ wi_88 _) hS.ni hH (nI_pos (by omega)) (nI_clamp (by omega)) (by omega) (Nat.le_of_ble_eq_true rfl) (Nat.le_of_ble_eq_true rfl) dX6_init_40 (fun H μ1 fz fn hH => ?_)
  have f_rd := (fn _ (Nat.ne_of_lt (hO.lt f_rd))).trans f_rd
  have f_n0 := (fn _ (Nat.ne_of_lt (hO.lt f_n0))).trans f_n0
  have f_n1 := (fn _ (Nat.ne_of_lt (hO.lt f_n1))).trans f_n1
  have f_n2 := (fn _ (Nat.ne_of_lt (hO.lt f_n2))).trans f_n2
  have f_n3 := (fn _ (Nat.ne_of_lt (hO.lt f_n3))).trans f_n3
  have f_n4 : μ1 (nx + 4) = some (hp_n X 40 (fun _ => 0)) := fz
  have fr := hp_eq.put fr (by simp) fn
  clear fz fn hO
  refine hp_putF hx hb hown hS.2.1 hH (P_X6_31.use hS) hin f_rd rfl rfl (Nat.le_of_ble_eq_true rfl) dX6_init_42 (fun H locs μ1 fz fn hH => ?_)
  have f_n0 := (fn _ (by omega)).trans f_n0
  have f_n1 := (fn _ (by omega)).trans f_n1
  have f_n2 := (fn _ (by omega)).trans f_n2
  have f_n3 := (fn _ (by omega)).trans f_n3
  have f_n4 := (fn _ (by omega)).trans f_n4
  have f_rd : μ1 rd = some (hp_o 3 [.ref nx, .ref (nx + 2), .ref (nx + 3), .ref (nx + 4), .int (nI 0), .long (lN 0), .int (nI 0)]) := fz
  have fr := hp_eq.put fr (by simp) fn
  clear fz fn
  refine W.widen (k := 5) (n := 526) (by decide) (by decide) ?_
  exact hp_rv hx hb hr hlocks hS hH (⟨rfl, f_rd, f_n0, f_n1, f_n2, f_n3, f_n4, fr⟩) dX6_init_45
