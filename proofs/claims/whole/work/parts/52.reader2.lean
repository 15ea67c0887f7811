set_option maxHeartbeats 4000000 in
set_option maxRecDepth 100000 in
theorem c_X6_searchLevel (l : Launch) (X : hp_X) {μ : hp_M} {nx : Nat} {rd r b a nb sz cnt kn kc size : Nat} {rb : Nat → Nat} {ar l1 f1 mc q n sent : Nat} {on : Bool} {f : Nat → Option Nat} {ta sa lv st le : Nat → Nat} {aw : Nat → Bool} {sh : Nat → Nat → Nat} {aon aze alen : Nat} {L : Nat} {ok : Bool} {st9 le9 : Nat → Nat} {sent9 kn9 kc9 : Nat} (hL : L ≤ 3) (hsent : sent + 40 < 2 ^ 30) (h01 : ∀ j, rb j < 2) (hn16 : n ≤ 16) (hlv : ∀ j, j < n → 1 ≤ lv j ∧ lv j ≤ 3) (hst : ∀ j, j < n → st j < 8) (hle : ∀ j, j < n → 1 ≤ le j ∧ le j ≤ 3) (hsh : ∀ j, j < n → ∀ i, sh j i < 2 ^ 40) (hinj : ∀ i j, i < n → j < n → ta i = ta j → i = j) (hA : AW X μ ar l1 f1 mc q n on sent f ta sa lv aw st le sh) (hres : seN n lv sh L 40 st le sent 0 0 = (ok, st9, le9, sent9, kn9, kc9)) (f_rd : μ rd = some (hp_o 3 [.ref r, .ref a, .ref nb, .ref sz, .int (nI cnt), .long (lN kn), .int (nI kc)])) (f_r : μ r = some (hp_o 4 [.ref b, .int (nI size)])) (f_b : μ b = some (hp_n X 81 rb)) (f_a : μ a = some (hp_o 1 [.long (lN aon), .long (lN aze), .int (nI alen)])) : Ct l X yX6_searchLevel cX6_searchLevel 4 (some FieldType.boolean) 5 200 0 0 [.ref rd, .int (nI L), .ref ar] μ nx (hq_i X (po_i nx (nB ok) (fun z => ∃ (size9 on9 ze9 len9 : Nat) (rb9 : Nat → Nat), (∀ j, rb9 j < 2) ∧ z rd = some (hp_o 3 [.ref r, .ref a, .ref nb, .ref sz, .int (nI cnt), .long (lN kn9), .int (nI kc9)]) ∧ z r = some (hp_o 4 [.ref b, .int (nI size9)]) ∧ z b = some (hp_n X 81 rb9) ∧ z a = some (hp_o 1 [.long (lN on9), .long (lN ze9), .int (nI len9)]) ∧ AW X z ar l1 f1 mc q n on sent9 f ta sa lv aw st9 le9 sh ∧ hp_eqP (rFP ar f1 a n ta rd r b) z μ))) := by
  refine hp_met (by decide) (Nat.le_of_ble_eq_true rfl) ?_
  intro p e s m below meth c ls hx hb hml hr hlocks hown hin hS hH hl
  have hl : lv_has ls 4 [(0, .ref rd), (1, .int (nI L)), (2, .ref ar)] := hl
  have fr : hp_eqP (rFP ar f1 a n ta rd r b) μ μ := fun _ _ => rfl
  refine lv_aload_n hx hb dX6_searchLevel_0 rfl (lv_at hl 0 rfl) ?_
  refine lv_lconst (v := lN 0) hx hb dX6_searchLevel_1 rfl ?_
  refine hp_put hx hb hown hS.2.1 hH (P_X6_69.use hS) f_rd rfl rfl (Nat.le_of_ble_eq_true rfl) dX6_searchLevel_2 (fun H locs μ1 fz fn hH => ?_)
  have hA := hA.keep (fun c9 e9 hc9 he9 => fn _ (aw_ne hc9 he9 f_rd (by simp [awE])))
  have f_r := (fn _ (hp_ne f_r f_rd (by simp))).trans f_r
  have f_b := (fn _ (hp_ne f_b f_rd (by simp))).trans f_b
  have f_a := (fn _ (hp_ne f_a f_rd (by simp))).trans f_a
  have f_rd : μ1 rd = some (hp_o 3 [.ref r, .ref a, .ref nb, .ref sz, .int (nI cnt), .long (lN 0), .int (nI kc)]) := fz
  have fr := hp_eqP.put fr (by simp [rFP]) fn
  clear fz fn
  refine lv_aload_n hx hb dX6_searchLevel_5 rfl (lv_at hl 0 rfl) ?_
  refine lv_iconst (v := nI 0) hx hb dX6_searchLevel_6 (by decide) ?_
  refine hp_put hx hb hown hS.2.1 hH (P_X6_73.use hS) f_rd rfl rfl (Nat.le_of_ble_eq_true rfl) dX6_searchLevel_7 (fun H locs μ1 fz fn hH => ?_)
  have hA := hA.keep (fun c9 e9 hc9 he9 => fn _ (aw_ne hc9 he9 f_rd (by simp [awE])))
  have f_r := (fn _ (hp_ne f_r f_rd (by simp))).trans f_r
  have f_b := (fn _ (hp_ne f_b f_rd (by simp))).trans f_b
  have f_a := (fn _ (hp_ne f_a f_rd (by simp))).trans f_a
  have f_rd : μ1 rd = some (hp_o 3 [.ref r, .ref a, .ref nb, .ref sz, .int (nI cnt), .long (lN 0), .int (nI 0)]) := fz
  have fr := hp_eqP.put fr (by simp [rFP]) fn
  clear fz fn
  refine lv_iconst (v := nI 0) hx hb dX6_searchLevel_10 (by decide) ?_
  refine lv_istore_n (lv' := [(3, .int (nI 0)), (0, .ref rd), (1, .int (nI L)), (2, .ref ar)]) hx hb dX6_searchLevel_11 rfl hl (by decide) rfl (fun ls hl => ?_)
  have lp_12 : ∀ (kk : Nat) (i : Nat) (st1 : Nat → Nat) (le1 : Nat → Nat) (sent1 : Nat) (kn1 : Nat) (kc1 : Nat) (size1 : Nat) (rb1 : Nat → Nat) (on1 : Nat) (ze1 : Nat) (len1 : Nat), (i ≤ 40) → (sent1 ≤ sent + i) → (∀ j, rb1 j < 2) → (∀ j, j < n → st1 j < 8) → (∀ j, j < n → 1 ≤ le1 j ∧ le1 j ≤ 3) → (kn1 < 2 ^ kc1) → (kc1 ≤ 40) → (seN n lv sh L (40 - i) st1 le1 sent1 kn1 kc1 = (ok, st9, le9, sent9, kn9, kc9)) → (40 - i) < kk → ∀ (μ1 : hp_M) (H : Heap) (locs : List Loc) (ls : Array Slot), (μ1 rd = some (hp_o 3 [.ref r, .ref a, .ref nb, .ref sz, .int (nI cnt), .long (lN kn1), .int (nI kc1)])) → (μ1 r = some (hp_o 4 [.ref b, .int (nI size1)])) → (μ1 b = some (hp_n X 81 rb1)) → (μ1 a = some (hp_o 1 [.long (lN on1), .long (lN ze1), .int (nI len1)])) → (AW X μ1 ar l1 f1 mc q n on sent1 f ta sa lv aw st1 le1 sh) → hp_eqP (rFP ar f1 a n ta rd r b) μ1 μ → hp_w X cls μ1 nx H locs → lv_has ls 4 [(0, .ref rd), (1, .int (nI L)), (2, .ref ar), (3, .int (nI i))] → W p l e { frames := 5, cells := 0, slots := 0, locals := 200 } s m [.ref rd, .int (nI L), .ref ar].toArray below meth c H locs 0 0 (MQ below (hq_i X (po_i nx (nB ok) (fun z => ∃ (size9 on9 ze9 len9 : Nat) (rb9 : Nat → Nat), (∀ j, rb9 j < 2) ∧ z rd = some (hp_o 3 [.ref r, .ref a, .ref nb, .ref sz, .int (nI cnt), .long (lN kn9), .int (nI kc9)]) ∧ z r = some (hp_o 4 [.ref b, .int (nI size9)]) ∧ z b = some (hp_n X 81 rb9) ∧ z a = some (hp_o 1 [.long (lN on9), .long (lN ze9), .int (nI len9)]) ∧ AW X z ar l1 f1 mc q n on sent9 f ta sa lv aw st9 le9 sh ∧ hp_eqP (rFP ar f1 a n ta rd r b) z μ))) [.ref rd, .int (nI L), .ref ar].toArray s 0 0 (hp_A X)) (F0 m 12 ls []) := by
    intro kk
    induction kk with
    | zero =>
      intro i st1 le1 sent1 kn1 kc1 size1 rb1 on1 ze1 len1 hi hs1 h011 hst1 hle1 hkn1 hkc1 hres1 hkk
      exact absurd hkk (Nat.not_lt_zero _)
    | succ kk ih =>
      intro i st1 le1 sent1 kn1 kc1 size1 rb1 on1 ze1 len1 hi hs1 h011 hst1 hle1 hkn1 hkc1 hres1 hkk μ1 H locs ls f_rd f_r f_b f_a hA fr hH hl
      refine lv_iload_n hx hb dX6_searchLevel_12 rfl (lv_at hl 3 rfl) ?_
      refine lv_bipush (v := nI 40) hx hb dX6_searchLevel_13 (by decide) ?_
      refine lv_icmp_ge (tgt := 59) hx hb dX6_searchLevel_15 (by decide) (fun c_15 => ?_) (fun c_15 => ?_)
      · have c_15 : 40 ≤ i := (nI_leI (by omega) (by omega)).mp c_15
        refine lv_iconst (v := nI 1) hx hb dX6_searchLevel_59 (by decide) ?_
        have hres1 : (true, st1, le1, sent1, kn1, kc1) = (ok, st9, le9, sent9, kn9, kc9) := by
          rw [← hres1]
          cases e40 : 40 - i with
          | zero => rfl
          | succ f9 =>
            simp only [seN]
            rw [if_pos (show 40 ≤ kc1 by omega)]
        cases hres1
        refine hp_eqi (z := nB true) (by decide) ?_
        exact hp_rz hx hb hr hlocks hS hH (nB_nar _) (⟨rfl, rfl, _, _, _, _, _, h011, f_rd, f_r, f_b, f_a, hA, fr⟩) dX6_searchLevel_60
      · have c_15 : ¬ (40 ≤ i) := fun z => c_15 ((nI_leI (by omega) (by omega)).mpr z)
        refine lv_aload_n hx hb dX6_searchLevel_18 rfl (lv_at hl 0 rfl) ?_
        refine hp_get hx hb hown hS.2.1 hH (F_X6_73.use hS) f_rd rfl dX6_searchLevel_19 ?_
        refine lv_bipush (v := nI 40) hx hb dX6_searchLevel_22 (by decide) ?_
        refine lv_icmp_ge (tgt := 59) hx hb dX6_searchLevel_24 (by decide) (fun c_24 => ?_) (fun c_24 => ?_)
        · have c_24 : 40 ≤ kc1 := (nI_leI (by omega) (by omega)).mp c_24
          refine lv_iconst (v := nI 1) hx hb dX6_searchLevel_59 (by decide) ?_
          have hres1 : (true, st1, le1, sent1, kn1, kc1) = (ok, st9, le9, sent9, kn9, kc9) := by
            rw [← hres1]
            cases e40 : 40 - i with
            | zero => rfl
            | succ f9 =>
              simp only [seN]
              rw [if_pos (show 40 ≤ kc1 by omega)]
          cases hres1
          refine hp_eqi (z := nB true) (by decide) ?_
          exact hp_rz hx hb hr hlocks hS hH (nB_nar _) (⟨rfl, rfl, _, _, _, _, _, h011, f_rd, f_r, f_b, f_a, hA, fr⟩) dX6_searchLevel_60
        · have c_24 : ¬ (40 ≤ kc1) := fun z => c_24 ((nI_leI (by omega) (by omega)).mpr z)
          refine lv_aload_n hx hb dX6_searchLevel_27 rfl (lv_at hl 0 rfl) ?_
          refine lv_iload_n hx hb dX6_searchLevel_28 rfl (lv_at hl 1 rfl) ?_
          have hp40 : (2 : Nat) ^ kc1 ≤ 2 ^ 40 := Nat.pow_le_pow_right (by decide) (by omega)
          obtain ⟨f9, ef9⟩ : ∃ f9, 40 - i = f9 + 1 := ⟨40 - i - 1, by omega⟩
          rw [ef9] at hres1
          simp only [seN] at hres1
          rw [if_neg (show ¬ 40 ≤ kc1 by omega)] at hres1
          refine hp_kvm (hp_runV (As := [.int (nI L)]) (rest := []) hx hb hml hown hS hH (c_X6_layOutSearch l X (L := L) (by omega) (by omega) hL f_rd f_r f_b) M_X6_76 I_X6_layOutSearch V_X6_layOutSearch (ci := 3) rfl rfl f_rd rfl hl.1 rfl (Nat.le_of_ble_eq_true rfl) dX6_searchLevel_29 ⟨Nat.le_of_ble_eq_true rfl, Nat.le_of_ble_eq_true rfl⟩ ⟨Nat.le_of_ble_eq_true rfl, Nat.le_of_ble_eq_true rfl⟩) hH (fun μ1 H locs hp hH => ?_)
          obtain ⟨fz0, fz1, fe⟩ := hp
          have hA := hA.keep (fun c9 e9 hc9 he9 => hp_e2 fe (aw_ne hc9 he9 f_r (by simp [awE])) (aw_ne hc9 he9 f_b (by simp [awE])))
          have f_rd := (hp_e2 fe (hp_ne f_rd f_r (by simp)) (hp_ne f_rd f_b (by simp))).trans f_rd
          have f_a := (hp_e2 fe (hp_ne f_a f_r (by simp)) (hp_ne f_a f_b (by simp))).trans f_a
          have f_r : μ1 r = some (hp_o 4 [.ref b, .int (nI (laZ kc1))]) := fz0
          have f_b : μ1 b = some (hp_n X 81 (laS rb1 L kn1 kc1)) := fz1
          have fr := hp_eqP.tr fe fr (fun q9 hq9 => by simp only [List.mem_cons, List.not_mem_nil, or_false] at hq9; rcases hq9 with rfl | rfl <;> simp [rFP])
          clear fe fz0 fz1
          have hlz : laZ kc1 ≤ 81 := by unfold laZ; omega
          refine lv_aload_n hx hb dX6_searchLevel_32 rfl (lv_at hl 2 rfl) ?_
          refine lv_aload_n hx hb dX6_searchLevel_33 rfl (lv_at hl 0 rfl) ?_
          refine hp_get hx hb hown hS.2.1 hH (F_X6_14.use hS) f_rd rfl dX6_searchLevel_34 ?_
          refine lv_aload_n hx hb dX6_searchLevel_37 rfl (lv_at hl 0 rfl) ?_
          refine hp_get hx hb hown hS.2.1 hH (F_X6_23.use hS) f_rd rfl dX6_searchLevel_38 ?_
          have f_air := hA.1
          refine hp_kim (hp_runV (As := [.ref r, .ref a]) (rest := []) hx hb hml hown hS hH (c_send l X (rb2 := laS z0 L kn1 kc1) (laS_congr _ _ _ _ _) (laS_01 h011 _ _ _) (by decide) (by omega) (by omega) hn16 hlv hst1 hle1 hsh hinj hA f_r f_b f_a) M_X6_45 I_X1_send V_X1_send (ci := 0) rfl rfl f_air rfl hl.1 rfl (Nat.le_of_ble_eq_true rfl) dX6_searchLevel_41 ⟨Nat.le_of_ble_eq_true rfl, Nat.le_of_ble_eq_true rfl⟩ ⟨Nat.le_of_ble_eq_true rfl, Nat.le_of_ble_eq_true rfl⟩) hH (fun μ1 H locs hp hH => ?_)
          obtain ⟨hA1, fz0, fe⟩ := hp
          have f_rd := (fe _ (hA.out f_rd (by simp [awE]) (hp_ne f_rd f_a (by simp)))).trans f_rd
          have f_r := (fe _ (hA.out f_r (by simp [awE]) (hp_ne f_r f_a (by simp)))).trans f_r
          have f_b := (fe _ (hA.out f_b (by simp [awE]) (hp_ne f_b f_a (by simp)))).trans f_b
          have hA := hA1
          have f_a : μ1 a = some (hp_o 1 [.long (lN (fO n (laS z0 L kn1 kc1) (laZ kc1) lv st1 le1 sh)), .long (lN (fZ n (laS z0 L kn1 kc1) (laZ kc1) lv st1 le1 sh)), .int (nI (fN n (laS z0 L kn1 kc1) (laZ kc1) lv st1 le1 sh))]) := fz0
          have fr := hp_eqP.trP fe fr (fun q9 h9 => Or.inl h9)
          have hfN := fN_le n (laS z0 L kn1 kc1) (laZ kc1) lv st1 le1 sh
          clear fe fz0 hA1 f_air
          refine lv_if_ne (tgt := 49) hx hb dX6_searchLevel_44 (by decide) (fun c_44 => ?_) (fun c_44 => ?_)
          · have c_44 : ¬ (fN n (laS z0 L kn1 kc1) (laZ kc1) lv st1 le1 sh = 0) := nz_n (by omega) c_44
            refine lv_aload_n hx hb dX6_searchLevel_49 rfl (lv_at hl 0 rfl) ?_
            rw [if_neg c_44] at hres1
            have hlr := leR_in (on := fO n (laS z0 L kn1 kc1) (laZ kc1) lv st1 le1 sh) (ze := fZ n (laS z0 L kn1 kc1) (laZ kc1) lv st1 le1 sh) (len := fN n (laS z0 L kn1 kc1) (laZ kc1) lv st1 le1 sh) hkn1 hkc1
            refine hp_kvm (hp_runV (As := []) (rest := []) hx hb hml hown hS hH (c_X6_learn l X hkc1 hkn1 (fO_lt _ _ _ _ _ _ _) (fZ_lt _ _ _ _ _ _ _) (fN_le _ _ _ _ _ _ _) rfl f_rd f_a) M_X6_79 I_X6_learn V_X6_learn (ci := 3) rfl rfl f_rd rfl hl.1 rfl (Nat.le_of_ble_eq_true rfl) dX6_searchLevel_50 ⟨Nat.le_of_ble_eq_true rfl, Nat.le_of_ble_eq_true rfl⟩ ⟨Nat.le_of_ble_eq_true rfl, Nat.le_of_ble_eq_true rfl⟩) hH (fun μ1 H locs hp hH => ?_)
            obtain ⟨fz0, fe⟩ := hp
            have hA := hA.keep (fun c9 e9 hc9 he9 => hp_e1 fe (aw_ne hc9 he9 f_rd (by simp [awE])))
            have f_r := (hp_e1 fe (hp_ne f_r f_rd (by simp))).trans f_r
            have f_b := (hp_e1 fe (hp_ne f_b f_rd (by simp))).trans f_b
            have f_a := (hp_e1 fe (hp_ne f_a f_rd (by simp))).trans f_a
            have f_rd : μ1 rd = some (hp_o 3 [.ref r, .ref a, .ref nb, .ref sz, .int (nI cnt), .long (lN ((leR (fO n (laS z0 L kn1 kc1) (laZ kc1) lv st1 le1 sh) (fZ n (laS z0 L kn1 kc1) (laZ kc1) lv st1 le1 sh) (fN n (laS z0 L kn1 kc1) (laZ kc1) lv st1 le1 sh) kn1 kc1).1)), .int (nI ((leR (fO n (laS z0 L kn1 kc1) (laZ kc1) lv st1 le1 sh) (fZ n (laS z0 L kn1 kc1) (laZ kc1) lv st1 le1 sh) (fN n (laS z0 L kn1 kc1) (laZ kc1) lv st1 le1 sh) kn1 kc1).2))]) := fz0
            have fr := hp_eqP.tr fe fr (fun q9 hq9 => by rw [List.mem_singleton.mp hq9]; simp [rFP])
            clear fe fz0
            refine lv_iinc (v := nI (i + 1)) (lv' := [(3, .int (nI (i + 1))), (0, .ref rd), (1, .int (nI L)), (2, .ref ar)]) hx hb dX6_searchLevel_53 hl (k := 3) rfl (nI_add _ 1) (by decide) rfl (fun ls hl => ?_)
            refine lv_goto (tgt := 12) hx hb dX6_searchLevel_56 (by decide) ?_
            exact ih (i + 1) (fS (laS z0 L kn1 kc1) (laZ kc1) lv st1 le1 sh) (fL (laS z0 L kn1 kc1) (laZ kc1) lv st1 le1 sh) (sent1 + 1) ((leR (fO n (laS z0 L kn1 kc1) (laZ kc1) lv st1 le1 sh) (fZ n (laS z0 L kn1 kc1) (laZ kc1) lv st1 le1 sh) (fN n (laS z0 L kn1 kc1) (laZ kc1) lv st1 le1 sh) kn1 kc1).1) ((leR (fO n (laS z0 L kn1 kc1) (laZ kc1) lv st1 le1 sh) (fZ n (laS z0 L kn1 kc1) (laZ kc1) lv st1 le1 sh) (fN n (laS z0 L kn1 kc1) (laZ kc1) lv st1 le1 sh) kn1 kc1).2) (laZ kc1) (laS rb1 L kn1 kc1) (fO n (laS z0 L kn1 kc1) (laZ kc1) lv st1 le1 sh) (fZ n (laS z0 L kn1 kc1) (laZ kc1) lv st1 le1 sh) (fN n (laS z0 L kn1 kc1) (laZ kc1) lv st1 le1 sh) (by omega) (by omega) (laS_01 h011 _ _ _) (fS_lt _ _ _ _ hst1) (fL_in _ _ _ _ hlv hle1) hlr.1 hlr.2.2 (by rw [show 40 - (i + 1) = f9 by omega]; exact hres1) (by omega) _ _ _ _ f_rd f_r f_b f_a hA fr hH (lv_sub hl [1, 2, 3, 0] rfl)
          · have c_44 : (fN n (laS z0 L kn1 kc1) (laZ kc1) lv st1 le1 sh) = 0 := nz_0 (by omega) c_44
            refine lv_iconst (v := nI 0) hx hb dX6_searchLevel_47 (by decide) ?_
            rw [if_pos c_44] at hres1
            cases hres1
            refine hp_eqi (z := nB false) (by decide) ?_
            exact hp_rz hx hb hr hlocks hS hH (nB_nar _) (⟨rfl, rfl, _, _, _, _, _, laS_01 h011 _ _ _, f_rd, f_r, f_b, f_a, hA, fr⟩) dX6_searchLevel_48
  exact lp_12 ((40 - 0) + 1) 0 st le sent 0 0 size rb aon aze alen (by decide) (by omega) h01 hst hle (by decide) (by decide) hres (Nat.lt_succ_self _) _ _ _ _ f_rd f_r f_b f_a hA fr hH (lv_sub hl [1, 2, 3, 0] rfl)

set_option maxHeartbeats 4000000 in
set_option maxRecDepth 100000 in
theorem c_X6_choose (l : Launch) (X : hp_X) {μ : hp_M} {nx : Nat} {rd r b a nb sz cnt kn kc size : Nat} {rb : Nat → Nat} {ar l1 f1 mc q n sent : Nat} {on : Bool} {f : Nat → Option Nat} {ta sa lv st le : Nat → Nat} {aw : Nat → Bool} {sh : Nat → Nat → Nat} {aon aze alen : Nat} {L : Nat} (hL : L ≤ 3) (hkn : kn < 2 ^ 40) (hsent : sent < 2 ^ 30) (h01 : ∀ j, rb j < 2) (hn16 : n ≤ 16) (hlv : ∀ j, j < n → 1 ≤ lv j ∧ lv j ≤ 3) (hst : ∀ j, j < n → st j < 8) (hle : ∀ j, j < n → 1 ≤ le j ∧ le j ≤ 3) (hsh : ∀ j, j < n → ∀ i, sh j i < 2 ^ 40) (hinj : ∀ i j, i < n → j < n → ta i = ta j → i = j) (hA : AW X μ ar l1 f1 mc q n on sent f ta sa lv aw st le sh) (f_rd : μ rd = some (hp_o 3 [.ref r, .ref a, .ref nb, .ref sz, .int (nI cnt), .long (lN kn), .int (nI kc)])) (f_r : μ r = some (hp_o 4 [.ref b, .int (nI size)])) (f_b : μ b = some (hp_n X 81 rb)) (f_a : μ a = some (hp_o 1 [.long (lN aon), .long (lN aze), .int (nI alen)])) : Ct l X yX6_choose cX6_choose 4 (some FieldType.boolean) 5 200 0 0 [.ref rd, .int (nI L), .ref ar] μ nx (hq_i X (po_i nx (nB (decide (0 < fN n (laC z0 L kn) 81 lv st le sh))) (fun z => ∃ (rb9 : Nat → Nat), (∀ j, rb9 j < 2) ∧ z rd = some (hp_o 3 [.ref r, .ref a, .ref nb, .ref sz, .int (nI cnt), .long (lN kn), .int (nI kc)]) ∧ z r = some (hp_o 4 [.ref b, .int (nI 81)]) ∧ z b = some (hp_n X 81 rb9) ∧ z a = some (hp_o 1 [.long (lN (fO n (laC z0 L kn) 81 lv st le sh)), .long (lN (fZ n (laC z0 L kn) 81 lv st le sh)), .int (nI (fN n (laC z0 L kn) 81 lv st le sh))]) ∧ AW X z ar l1 f1 mc q n on (sent + 1) f ta sa lv aw (fS (laC z0 L kn) 81 lv st le sh) (fL (laC z0 L kn) 81 lv st le sh) sh ∧ hp_eqP (rFP ar f1 a n ta rd r b) z μ))) := by
  refine hp_met (by decide) (Nat.le_of_ble_eq_true rfl) ?_
  intro p e s m below meth c ls hx hb hml hr hlocks hown hin hS hH hl
  have hl : lv_has ls 4 [(0, .ref rd), (1, .int (nI L)), (2, .ref ar)] := hl
  have fr : hp_eqP (rFP ar f1 a n ta rd r b) μ μ := fun _ _ => rfl
  refine lv_aload_n hx hb dX6_choose_0 rfl (lv_at hl 0 rfl) ?_
  refine hp_get hx hb hown hS.2.1 hH (F_X6_14.use hS) f_rd rfl dX6_choose_1 ?_
  refine hp_kvm (hp_runV (As := []) (rest := []) hx hb hml hown hS hH (c_X8_clear l X f_r) M_X6_38 I_X8_clear V_X8_clear (ci := 4) rfl rfl f_r rfl hl.1 rfl (Nat.le_of_ble_eq_true rfl) dX6_choose_4 ⟨Nat.le_of_ble_eq_true rfl, Nat.le_of_ble_eq_true rfl⟩ ⟨Nat.le_of_ble_eq_true rfl, Nat.le_of_ble_eq_true rfl⟩) hH (fun μ1 H locs hp hH => ?_)
  obtain ⟨fz0, fe⟩ := hp
  have hA := hA.keep (fun c9 e9 hc9 he9 => hp_e1 fe (aw_ne hc9 he9 f_r (by simp [awE])))
  have f_rd := (hp_e1 fe (hp_ne f_rd f_r (by simp))).trans f_rd
  have f_b := (hp_e1 fe (hp_ne f_b f_r (by simp))).trans f_b
  have f_a := (hp_e1 fe (hp_ne f_a f_r (by simp))).trans f_a
  have f_r : μ1 r = some (hp_o 4 [.ref b, .int (nI 0)]) := fz0
  have fr := hp_eqP.tr fe fr (fun q9 hq9 => by rw [List.mem_singleton.mp hq9]; simp [rFP])
  clear fe fz0
  refine lv_aload_n hx hb dX6_choose_7 rfl (lv_at hl 0 rfl) ?_
  refine hp_get hx hb hown hS.2.1 hH (F_X6_14.use hS) f_rd rfl dX6_choose_8 ?_
  refine lv_iload_n hx hb dX6_choose_11 rfl (lv_at hl 1 rfl) ?_
  refine hp_kip (hp_runS (As := [.int (nI L)]) (rest := [.ref r]) hx hb hml hown hS hH (c_X4_levelByte l X (v := L)) M_X6_82 S_X4_levelByte rfl hl.1 rfl (Nat.le_of_ble_eq_true rfl) dX6_choose_12 ⟨Nat.le_of_ble_eq_true rfl, Nat.le_of_ble_eq_true rfl⟩ ⟨Nat.le_of_ble_eq_true rfl, Nat.le_of_ble_eq_true rfl⟩) hH (fun H locs hH => ?_)
  refine hp_kvm (hp_runV (As := [.int (nI (145 + 2 * L))]) (rest := []) hx hb hml hown hS hH (c_X8_addOctet l X (by decide) (by omega) f_r f_b) M_X6_88 I_X8_addOctet V_X8_addOctet (ci := 4) rfl rfl f_r rfl hl.1 rfl (Nat.le_of_ble_eq_true rfl) dX6_choose_15 ⟨Nat.le_of_ble_eq_true rfl, Nat.le_of_ble_eq_true rfl⟩ ⟨Nat.le_of_ble_eq_true rfl, Nat.le_of_ble_eq_true rfl⟩) hH (fun μ1 H locs hp hH => ?_)
  obtain ⟨fz0, fz1, fe⟩ := hp
  have hA := hA.keep (fun c9 e9 hc9 he9 => hp_e2 fe (aw_ne hc9 he9 f_r (by simp [awE])) (aw_ne hc9 he9 f_b (by simp [awE])))
  have f_rd := (hp_e2 fe (hp_ne f_rd f_r (by simp)) (hp_ne f_rd f_b (by simp))).trans f_rd
  have f_a := (hp_e2 fe (hp_ne f_a f_r (by simp)) (hp_ne f_a f_b (by simp))).trans f_a
  have f_r : μ1 r = some (hp_o 4 [.ref b, .int (nI 9)]) := fz0
  have f_b : μ1 b = some (hp_n X 81 (apB rb 0 (nI (octB (byI (nI (145 + 2 * L))))) 9)) := fz1
  have fr := hp_eqP.tr fe fr (fun q9 hq9 => by simp only [List.mem_cons, List.not_mem_nil, or_false] at hq9; rcases hq9 with rfl | rfl <;> simp [rFP])
  clear fe fz0 fz1
  have f_b := f_b.trans (congrArg (fun g => some (hp_n X 81 g)) (show apB rb 0 (nI (octB (byI (nI (145 + 2 * L))))) 9 = apO rb 0 (145 + 2 * L) from by unfold apO; rw [byI_n (by omega), Nat.mod_eq_of_lt (by omega)]))
  refine lv_aload_n hx hb dX6_choose_18 rfl (lv_at hl 0 rfl) ?_
  refine hp_get hx hb hown hS.2.1 hH (F_X6_14.use hS) f_rd rfl dX6_choose_19 ?_
  refine lv_bipush (v := nI 112) hx hb dX6_choose_22 (by decide) ?_
  refine hp_kvm (hp_runV (As := [.int (nI 112)]) (rest := []) hx hb hml hown hS hH (c_X8_addOctet l X (by decide) (by omega) f_r f_b) M_X6_88 I_X8_addOctet V_X8_addOctet (ci := 4) rfl rfl f_r rfl hl.1 rfl (Nat.le_of_ble_eq_true rfl) dX6_choose_24 ⟨Nat.le_of_ble_eq_true rfl, Nat.le_of_ble_eq_true rfl⟩ ⟨Nat.le_of_ble_eq_true rfl, Nat.le_of_ble_eq_true rfl⟩) hH (fun μ1 H locs hp hH => ?_)
  obtain ⟨fz0, fz1, fe⟩ := hp
  have hA := hA.keep (fun c9 e9 hc9 he9 => hp_e2 fe (aw_ne hc9 he9 f_r (by simp [awE])) (aw_ne hc9 he9 f_b (by simp [awE])))
  have f_rd := (hp_e2 fe (hp_ne f_rd f_r (by simp)) (hp_ne f_rd f_b (by simp))).trans f_rd
  have f_a := (hp_e2 fe (hp_ne f_a f_r (by simp)) (hp_ne f_a f_b (by simp))).trans f_a
  have f_r : μ1 r = some (hp_o 4 [.ref b, .int (nI 18)]) := fz0
  have f_b : μ1 b = some (hp_n X 81 (apB (apO rb 0 (145 + 2 * L)) 9 (nI (octB (byI (nI 112)))) 9)) := fz1
  have fr := hp_eqP.tr fe fr (fun q9 hq9 => by simp only [List.mem_cons, List.not_mem_nil, or_false] at hq9; rcases hq9 with rfl | rfl <;> simp [rFP])
  clear fe fz0 fz1
  have f_b := f_b.trans (congrArg (fun g => some (hp_n X 81 g)) (show apB (apO rb 0 (145 + 2 * L)) 9 (nI (octB (byI (nI 112)))) 9 = apO (apO rb 0 (145 + 2 * L)) 9 112 from by unfold apO; rw [byI_n (by omega), Nat.mod_eq_of_lt (by omega)]))
  refine lv_iconst (v := nI 0) hx hb dX6_choose_27 (by decide) ?_
  refine lv_istore_n (lv' := [(3, .int (nI 0)), (0, .ref rd), (1, .int (nI L)), (2, .ref ar)]) hx hb dX6_choose_28 rfl hl (by decide) rfl (fun ls hl => ?_)
  have f_b := f_b.trans (congrArg (fun g => some (hp_n X 81 g)) (show apO (apO rb 0 (145 + 2 * L)) 9 112 = laK rb L 112 kn 0 from rfl))
  have lp_29 : ∀ (kk : Nat) (i : Nat), (i ≤ 5) → (5 - i) < kk → ∀ (μ1 : hp_M) (H : Heap) (locs : List Loc) (ls : Array Slot), (μ1 rd = some (hp_o 3 [.ref r, .ref a, .ref nb, .ref sz, .int (nI cnt), .long (lN kn), .int (nI kc)])) → (μ1 r = some (hp_o 4 [.ref b, .int (nI (9 * (2 + i)))])) → (μ1 b = some (hp_n X 81 (laK rb L 112 kn i))) → (μ1 a = some (hp_o 1 [.long (lN aon), .long (lN aze), .int (nI alen)])) → (AW X μ1 ar l1 f1 mc q n on sent f ta sa lv aw st le sh) → hp_eqP (rFP ar f1 a n ta rd r b) μ1 μ → hp_w X cls μ1 nx H locs → lv_has ls 4 [(0, .ref rd), (1, .int (nI L)), (2, .ref ar), (3, .int (nI i))] → W p l e { frames := 5, cells := 0, slots := 0, locals := 200 } s m [.ref rd, .int (nI L), .ref ar].toArray below meth c H locs 0 0 (MQ below (hq_i X (po_i nx (nB (decide (0 < fN n (laC z0 L kn) 81 lv st le sh))) (fun z => ∃ (rb9 : Nat → Nat), (∀ j, rb9 j < 2) ∧ z rd = some (hp_o 3 [.ref r, .ref a, .ref nb, .ref sz, .int (nI cnt), .long (lN kn), .int (nI kc)]) ∧ z r = some (hp_o 4 [.ref b, .int (nI 81)]) ∧ z b = some (hp_n X 81 rb9) ∧ z a = some (hp_o 1 [.long (lN (fO n (laC z0 L kn) 81 lv st le sh)), .long (lN (fZ n (laC z0 L kn) 81 lv st le sh)), .int (nI (fN n (laC z0 L kn) 81 lv st le sh))]) ∧ AW X z ar l1 f1 mc q n on (sent + 1) f ta sa lv aw (fS (laC z0 L kn) 81 lv st le sh) (fL (laC z0 L kn) 81 lv st le sh) sh ∧ hp_eqP (rFP ar f1 a n ta rd r b) z μ))) [.ref rd, .int (nI L), .ref ar].toArray s 0 0 (hp_A X)) (F0 m 29 ls []) := by
    intro kk
    induction kk with
    | zero =>
      intro i hi hkk
      exact absurd hkk (Nat.not_lt_zero _)
    | succ kk ih =>
      intro i hi hkk μ1 H locs ls f_rd f_r f_b f_a hA fr hH hl
      refine lv_iload_n hx hb dX6_choose_29 rfl (lv_at hl 3 rfl) ?_
      refine lv_iconst (v := nI 5) hx hb dX6_choose_30 (by decide) ?_
      refine lv_icmp_ge (tgt := 52) hx hb dX6_choose_31 (by decide) (fun c_31 => ?_) (fun c_31 => ?_)
      · have c_31 : 5 ≤ i := (nI_leI (by omega) (by omega)).mp c_31
        have ei : i = 5 := by omega
        subst ei
        refine lv_aload_n hx hb dX6_choose_52 rfl (lv_at hl 0 rfl) ?_
        refine hp_get hx hb hown hS.2.1 hH (F_X6_14.use hS) f_rd rfl dX6_choose_53 ?_
        refine hp_kvm (hp_runV (As := []) (rest := []) hx hb hml hown hS hH (c_X8_addCheck l X (size := 63) (laK_01 h01 _ _ _ _) (by decide) (by decide) f_r f_b) M_X6_97 I_X8_addCheck V_X8_addCheck (ci := 4) rfl rfl f_r rfl hl.1 rfl (Nat.le_of_ble_eq_true rfl) dX6_choose_56 ⟨Nat.le_of_ble_eq_true rfl, Nat.le_of_ble_eq_true rfl⟩ ⟨Nat.le_of_ble_eq_true rfl, Nat.le_of_ble_eq_true rfl⟩) hH (fun μ1 H locs hp hH => ?_)
        obtain ⟨fz0, fz1, fe⟩ := hp
        have hA := hA.keep (fun c9 e9 hc9 he9 => hp_e2 fe (aw_ne hc9 he9 f_r (by simp [awE])) (aw_ne hc9 he9 f_b (by simp [awE])))
        have f_rd := (hp_e2 fe (hp_ne f_rd f_r (by simp)) (hp_ne f_rd f_b (by simp))).trans f_rd
        have f_a := (hp_e2 fe (hp_ne f_a f_r (by simp)) (hp_ne f_a f_b (by simp))).trans f_a
        have f_r : μ1 r = some (hp_o 4 [.ref b, .int (nI 81)]) := fz0
        have f_b : μ1 b = some (hp_n X 81 (laC rb L kn)) := fz1
        have fr := hp_eqP.tr fe fr (fun q9 hq9 => by simp only [List.mem_cons, List.not_mem_nil, or_false] at hq9; rcases hq9 with rfl | rfl <;> simp [rFP])
        clear fe fz0 fz1
        refine lv_aload_n hx hb dX6_choose_59 rfl (lv_at hl 2 rfl) ?_
        refine lv_aload_n hx hb dX6_choose_60 rfl (lv_at hl 0 rfl) ?_
        refine hp_get hx hb hown hS.2.1 hH (F_X6_14.use hS) f_rd rfl dX6_choose_61 ?_
        refine lv_aload_n hx hb dX6_choose_64 rfl (lv_at hl 0 rfl) ?_
        refine hp_get hx hb hown hS.2.1 hH (F_X6_23.use hS) f_rd rfl dX6_choose_65 ?_
        have f_air := hA.1
        refine hp_kim (hp_runV (As := [.ref r, .ref a]) (rest := []) hx hb hml hown hS hH (c_send l X (rb2 := laC z0 L kn) (laC_congr _ _ _ _) (laX_01 (laK_01 h01 _ _ _ _) _) (by decide) (by omega) (by omega) hn16 hlv hst hle hsh hinj hA f_r f_b f_a) M_X6_45 I_X1_send V_X1_send (ci := 0) rfl rfl f_air rfl hl.1 rfl (Nat.le_of_ble_eq_true rfl) dX6_choose_68 ⟨Nat.le_of_ble_eq_true rfl, Nat.le_of_ble_eq_true rfl⟩ ⟨Nat.le_of_ble_eq_true rfl, Nat.le_of_ble_eq_true rfl⟩) hH (fun μ1 H locs hp hH => ?_)
        obtain ⟨hA1, fz0, fe⟩ := hp
        have f_rd := (fe _ (hA.out f_rd (by simp [awE]) (hp_ne f_rd f_a (by simp)))).trans f_rd
        have f_r := (fe _ (hA.out f_r (by simp [awE]) (hp_ne f_r f_a (by simp)))).trans f_r
        have f_b := (fe _ (hA.out f_b (by simp [awE]) (hp_ne f_b f_a (by simp)))).trans f_b
        have hA := hA1
        have f_a : μ1 a = some (hp_o 1 [.long (lN (fO n (laC z0 L kn) 81 lv st le sh)), .long (lN (fZ n (laC z0 L kn) 81 lv st le sh)), .int (nI (fN n (laC z0 L kn) 81 lv st le sh))]) := fz0
        have fr := hp_eqP.trP fe fr (fun q9 h9 => Or.inl h9)
        have hfN := fN_le n (laC z0 L kn) 81 lv st le sh
        clear fe fz0 hA1 f_air
        refine lv_if_le (tgt := 78) hx hb dX6_choose_71 (by decide) (fun c_71 => ?_) (fun c_71 => ?_)
        · have c_71 : (fN n (laC z0 L kn) 81 lv st le sh) = 0 := nz_le (by omega) c_71
          refine lv_iconst (v := nI 0) hx hb dX6_choose_78 (by decide) ?_
          refine hp_eqi (z := nB false) (by decide) ?_
          exact hp_rz hx hb hr hlocks hS hH (nB_nar _) (⟨rfl, congrArg nB (Eq.symm (decide_eq_false (fun h9 => Nat.ne_of_gt h9 c_71))), _, laX_01 (laK_01 h01 _ _ _ _) _, f_rd, f_r, f_b, f_a, hA, fr⟩) dX6_choose_79
        · have c_71 : 0 < (fN n (laC z0 L kn) 81 lv st le sh) := nz_nle (by omega) c_71
          refine lv_iconst (v := nI 1) hx hb dX6_choose_74 (by decide) ?_
          refine lv_goto (tgt := 79) hx hb dX6_choose_75 (by decide) ?_
          refine hp_eqi (z := nB true) (by decide) ?_
          exact hp_rz hx hb hr hlocks hS hH (nB_nar _) (⟨rfl, congrArg nB (Eq.symm (decide_eq_true c_71)), _, laX_01 (laK_01 h01 _ _ _ _) _, f_rd, f_r, f_b, f_a, hA, fr⟩) dX6_choose_79
      · have c_31 : ¬ (5 ≤ i) := fun z => c_31 ((nI_leI (by omega) (by omega)).mpr z)
        refine lv_aload_n hx hb dX6_choose_34 rfl (lv_at hl 0 rfl) ?_
        refine hp_get hx hb hown hS.2.1 hH (F_X6_14.use hS) f_rd rfl dX6_choose_35 ?_
        refine lv_aload_n hx hb dX6_choose_38 rfl (lv_at hl 0 rfl) ?_
        refine lv_iload_n hx hb dX6_choose_39 rfl (lv_at hl 3 rfl) ?_
        refine hp_kip (hp_runV (As := [.int (nI i)]) (rest := [.ref r]) hx hb hml hown hS hH (c_X6_knownByte l X (i := i) (by omega) (by omega) f_rd) M_X6_91 I_X6_knownByte V_X6_knownByte (ci := 3) rfl rfl f_rd rfl hl.1 rfl (Nat.le_of_ble_eq_true rfl) dX6_choose_40 ⟨Nat.le_of_ble_eq_true rfl, Nat.le_of_ble_eq_true rfl⟩ ⟨Nat.le_of_ble_eq_true rfl, Nat.le_of_ble_eq_true rfl⟩) hH (fun H locs hH => ?_)
        refine hp_kvm (hp_runV (As := [.int (nI (kn / 2 ^ (8 * i) % 256))]) (rest := []) hx hb hml hown hS hH (c_X8_addOctet l X (by decide) (by omega) f_r f_b) M_X6_88 I_X8_addOctet V_X8_addOctet (ci := 4) rfl rfl f_r rfl hl.1 rfl (Nat.le_of_ble_eq_true rfl) dX6_choose_43 ⟨Nat.le_of_ble_eq_true rfl, Nat.le_of_ble_eq_true rfl⟩ ⟨Nat.le_of_ble_eq_true rfl, Nat.le_of_ble_eq_true rfl⟩) hH (fun μ1 H locs hp hH => ?_)
        obtain ⟨fz0, fz1, fe⟩ := hp
        have hA := hA.keep (fun c9 e9 hc9 he9 => hp_e2 fe (aw_ne hc9 he9 f_r (by simp [awE])) (aw_ne hc9 he9 f_b (by simp [awE])))
        have f_rd := (hp_e2 fe (hp_ne f_rd f_r (by simp)) (hp_ne f_rd f_b (by simp))).trans f_rd
        have f_a := (hp_e2 fe (hp_ne f_a f_r (by simp)) (hp_ne f_a f_b (by simp))).trans f_a
        have f_r : μ1 r = some (hp_o 4 [.ref b, .int (nI (9 * (2 + i) + 9))]) := fz0
        have f_b : μ1 b = some (hp_n X 81 (apB (laK rb L 112 kn i) (9 * (2 + i)) (nI (octB (byI (nI (kn / 2 ^ (8 * i) % 256))))) 9)) := fz1
        have fr := hp_eqP.tr fe fr (fun q9 hq9 => by simp only [List.mem_cons, List.not_mem_nil, or_false] at hq9; rcases hq9 with rfl | rfl <;> simp [rFP])
        clear fe fz0 fz1
        have f_b := f_b.trans (congrArg (fun g => some (hp_n X 81 g)) (show apB (laK rb L 112 kn i) (9 * (2 + i)) (nI (octB (byI (nI (kn / 2 ^ (8 * i) % 256))))) 9 = apO (laK rb L 112 kn i) (9 * (2 + i)) (kn / 2 ^ (8 * i) % 256) from by unfold apO; rw [byI_n (by omega), Nat.mod_eq_of_lt (Nat.mod_lt _ (by decide))]))
        refine lv_iinc (v := nI (i + 1)) (lv' := [(3, .int (nI (i + 1))), (0, .ref rd), (1, .int (nI L)), (2, .ref ar)]) hx hb dX6_choose_46 hl (k := 3) rfl (nI_add _ 1) (by decide) rfl (fun ls hl => ?_)
        refine lv_goto (tgt := 29) hx hb dX6_choose_49 (by decide) ?_
        have f_b := f_b.trans (congrArg (fun g => some (hp_n X 81 g)) (show apO (laK rb L 112 kn i) (9 * (2 + i)) (kn / 2 ^ (8 * i) % 256) = laK rb L 112 kn (i + 1) from rfl))
        have f_r := f_r.trans (show some (hp_o 4 [.ref b, .int (nI (9 * (2 + i) + 9))]) = some (hp_o 4 [.ref b, .int (nI (9 * (2 + (i + 1))))]) by rw [show 9 * (2 + (i + 1)) = 9 * (2 + i) + 9 by omega])
        exact ih (i + 1) (by omega) (by omega) _ _ _ _ f_rd f_r f_b f_a hA fr hH (lv_sub hl [1, 2, 3, 0] rfl)
  exact lp_29 ((5 - 0) + 1) 0 (Nat.zero_le _) (Nat.lt_succ_self _) _ _ _ _ f_rd f_r f_b f_a hA fr hH (lv_sub hl [1, 2, 3, 0] rfl)

set_option maxHeartbeats 4000000 in
set_option maxRecDepth 100000 in
theorem c_X6_halt (l : Launch) (X : hp_X) {μ : hp_M} {nx : Nat} {rd r b a nb sz cnt kn kc size : Nat} {rb : Nat → Nat} {ar l1 f1 mc q n sent : Nat} {on : Bool} {f : Nat → Option Nat} {ta sa lv st le : Nat → Nat} {aw : Nat → Bool} {sh : Nat → Nat → Nat} {aon aze alen : Nat} (hsent : sent < 2 ^ 30) (h01 : ∀ j, rb j < 2) (hn16 : n ≤ 16) (hlv : ∀ j, j < n → 1 ≤ lv j ∧ lv j ≤ 3) (hst : ∀ j, j < n → st j < 8) (hle : ∀ j, j < n → 1 ≤ le j ∧ le j ≤ 3) (hsh : ∀ j, j < n → ∀ i, sh j i < 2 ^ 40) (hinj : ∀ i j, i < n → j < n → ta i = ta j → i = j) (hA : AW X μ ar l1 f1 mc q n on sent f ta sa lv aw st le sh) (f_rd : μ rd = some (hp_o 3 [.ref r, .ref a, .ref nb, .ref sz, .int (nI cnt), .long (lN kn), .int (nI kc)])) (f_r : μ r = some (hp_o 4 [.ref b, .int (nI size)])) (f_b : μ b = some (hp_n X 81 rb)) (f_a : μ a = some (hp_o 1 [.long (lN aon), .long (lN aze), .int (nI alen)])) : Ct l X yX6_halt cX6_halt 2 (none : Option Jvm.ClassFile.FieldType) 5 200 0 0 [.ref rd, .ref ar] μ nx (hq_v X (po_v nx (fun z => ∃ (rb9 : Nat → Nat), (∀ j, rb9 j < 2) ∧ z rd = some (hp_o 3 [.ref r, .ref a, .ref nb, .ref sz, .int (nI cnt), .long (lN kn), .int (nI kc)]) ∧ z r = some (hp_o 4 [.ref b, .int (nI 36)]) ∧ z b = some (hp_n X 81 rb9) ∧ z a = some (hp_o 1 [.long (lN (fO n (laH z0) 36 lv st le sh)), .long (lN (fZ n (laH z0) 36 lv st le sh)), .int (nI (fN n (laH z0) 36 lv st le sh))]) ∧ AW X z ar l1 f1 mc q n on (sent + 1) f ta sa lv aw (fS (laH z0) 36 lv st le sh) (fL (laH z0) 36 lv st le sh) sh ∧ hp_eqP (rFP ar f1 a n ta rd r b) z μ))) := by
  refine hp_met (by decide) (Nat.le_of_ble_eq_true rfl) ?_
  intro p e s m below meth c ls hx hb hml hr hlocks hown hin hS hH hl
  have hl : lv_has ls 2 [(0, .ref rd), (1, .ref ar)] := hl
  have fr : hp_eqP (rFP ar f1 a n ta rd r b) μ μ := fun _ _ => rfl
  refine lv_aload_n hx hb dX6_halt_0 rfl (lv_at hl 0 rfl) ?_
  refine hp_get hx hb hown hS.2.1 hH (F_X6_14.use hS) f_rd rfl dX6_halt_1 ?_
  refine hp_kvm (hp_runV (As := []) (rest := []) hx hb hml hown hS hH (c_X8_clear l X f_r) M_X6_38 I_X8_clear V_X8_clear (ci := 4) rfl rfl f_r rfl hl.1 rfl (Nat.le_of_ble_eq_true rfl) dX6_halt_4 ⟨Nat.le_of_ble_eq_true rfl, Nat.le_of_ble_eq_true rfl⟩ ⟨Nat.le_of_ble_eq_true rfl, Nat.le_of_ble_eq_true rfl⟩) hH (fun μ1 H locs hp hH => ?_)
  obtain ⟨fz0, fe⟩ := hp
  have hA := hA.keep (fun c9 e9 hc9 he9 => hp_e1 fe (aw_ne hc9 he9 f_r (by simp [awE])))
  have f_rd := (hp_e1 fe (hp_ne f_rd f_r (by simp))).trans f_rd
  have f_b := (hp_e1 fe (hp_ne f_b f_r (by simp))).trans f_b
  have f_a := (hp_e1 fe (hp_ne f_a f_r (by simp))).trans f_a
  have f_r : μ1 r = some (hp_o 4 [.ref b, .int (nI 0)]) := fz0
  have fr := hp_eqP.tr fe fr (fun q9 hq9 => by rw [List.mem_singleton.mp hq9]; simp [rFP])
  clear fe fz0
  refine lv_aload_n hx hb dX6_halt_7 rfl (lv_at hl 0 rfl) ?_
  refine hp_get hx hb hown hS.2.1 hH (F_X6_14.use hS) f_rd rfl dX6_halt_8 ?_
  refine lv_bipush (v := nI 80) hx hb dX6_halt_11 (by decide) ?_
  refine hp_kvm (hp_runV (As := [.int (nI 80)]) (rest := []) hx hb hml hown hS hH (c_X8_addOctet l X (by decide) (by omega) f_r f_b) M_X6_88 I_X8_addOctet V_X8_addOctet (ci := 4) rfl rfl f_r rfl hl.1 rfl (Nat.le_of_ble_eq_true rfl) dX6_halt_13 ⟨Nat.le_of_ble_eq_true rfl, Nat.le_of_ble_eq_true rfl⟩ ⟨Nat.le_of_ble_eq_true rfl, Nat.le_of_ble_eq_true rfl⟩) hH (fun μ1 H locs hp hH => ?_)
  obtain ⟨fz0, fz1, fe⟩ := hp
  have hA := hA.keep (fun c9 e9 hc9 he9 => hp_e2 fe (aw_ne hc9 he9 f_r (by simp [awE])) (aw_ne hc9 he9 f_b (by simp [awE])))
  have f_rd := (hp_e2 fe (hp_ne f_rd f_r (by simp)) (hp_ne f_rd f_b (by simp))).trans f_rd
  have f_a := (hp_e2 fe (hp_ne f_a f_r (by simp)) (hp_ne f_a f_b (by simp))).trans f_a
  have f_r : μ1 r = some (hp_o 4 [.ref b, .int (nI 9)]) := fz0
  have f_b : μ1 b = some (hp_n X 81 (apB rb 0 (nI (octB (byI (nI 80)))) 9)) := fz1
  have fr := hp_eqP.tr fe fr (fun q9 hq9 => by simp only [List.mem_cons, List.not_mem_nil, or_false] at hq9; rcases hq9 with rfl | rfl <;> simp [rFP])
  clear fe fz0 fz1
  have f_b := f_b.trans (congrArg (fun g => some (hp_n X 81 g)) (show apB rb 0 (nI (octB (byI (nI 80)))) 9 = apO rb 0 80 from by unfold apO; rw [byI_n (by omega), Nat.mod_eq_of_lt (by omega)]))
  refine lv_aload_n hx hb dX6_halt_16 rfl (lv_at hl 0 rfl) ?_
  refine hp_get hx hb hown hS.2.1 hH (F_X6_14.use hS) f_rd rfl dX6_halt_17 ?_
  refine lv_iconst (v := nI 0) hx hb dX6_halt_20 (by decide) ?_
  refine hp_kvm (hp_runV (As := [.int (nI 0)]) (rest := []) hx hb hml hown hS hH (c_X8_addOctet l X (by decide) (by omega) f_r f_b) M_X6_88 I_X8_addOctet V_X8_addOctet (ci := 4) rfl rfl f_r rfl hl.1 rfl (Nat.le_of_ble_eq_true rfl) dX6_halt_21 ⟨Nat.le_of_ble_eq_true rfl, Nat.le_of_ble_eq_true rfl⟩ ⟨Nat.le_of_ble_eq_true rfl, Nat.le_of_ble_eq_true rfl⟩) hH (fun μ1 H locs hp hH => ?_)
  obtain ⟨fz0, fz1, fe⟩ := hp
  have hA := hA.keep (fun c9 e9 hc9 he9 => hp_e2 fe (aw_ne hc9 he9 f_r (by simp [awE])) (aw_ne hc9 he9 f_b (by simp [awE])))
  have f_rd := (hp_e2 fe (hp_ne f_rd f_r (by simp)) (hp_ne f_rd f_b (by simp))).trans f_rd
  have f_a := (hp_e2 fe (hp_ne f_a f_r (by simp)) (hp_ne f_a f_b (by simp))).trans f_a
  have f_r : μ1 r = some (hp_o 4 [.ref b, .int (nI 18)]) := fz0
  have f_b : μ1 b = some (hp_n X 81 (apB (apO rb 0 80) 9 (nI (octB (byI (nI 0)))) 9)) := fz1
  have fr := hp_eqP.tr fe fr (fun q9 hq9 => by simp only [List.mem_cons, List.not_mem_nil, or_false] at hq9; rcases hq9 with rfl | rfl <;> simp [rFP])
  clear fe fz0 fz1
  have f_b := f_b.trans (congrArg (fun g => some (hp_n X 81 g)) (show apB (apO rb 0 80) 9 (nI (octB (byI (nI 0)))) 9 = apO (apO rb 0 80) 9 0 from by unfold apO; rw [byI_n (by omega), Nat.mod_eq_of_lt (by omega)]))
  refine lv_aload_n hx hb dX6_halt_24 rfl (lv_at hl 0 rfl) ?_
  refine hp_get hx hb hown hS.2.1 hH (F_X6_14.use hS) f_rd rfl dX6_halt_25 ?_
  refine hp_kvm (hp_runV (As := []) (rest := []) hx hb hml hown hS hH (c_X8_addCheck l X (size := 18) (apO_01 (apO_01 h01 _ _) _ _) (by decide) (by decide) f_r f_b) M_X6_97 I_X8_addCheck V_X8_addCheck (ci := 4) rfl rfl f_r rfl hl.1 rfl (Nat.le_of_ble_eq_true rfl) dX6_halt_28 ⟨Nat.le_of_ble_eq_true rfl, Nat.le_of_ble_eq_true rfl⟩ ⟨Nat.le_of_ble_eq_true rfl, Nat.le_of_ble_eq_true rfl⟩) hH (fun μ1 H locs hp hH => ?_)
  obtain ⟨fz0, fz1, fe⟩ := hp
  have hA := hA.keep (fun c9 e9 hc9 he9 => hp_e2 fe (aw_ne hc9 he9 f_r (by simp [awE])) (aw_ne hc9 he9 f_b (by simp [awE])))
  have f_rd := (hp_e2 fe (hp_ne f_rd f_r (by simp)) (hp_ne f_rd f_b (by simp))).trans f_rd
  have f_a := (hp_e2 fe (hp_ne f_a f_r (by simp)) (hp_ne f_a f_b (by simp))).trans f_a
  have f_r : μ1 r = some (hp_o 4 [.ref b, .int (nI 36)]) := fz0
  have f_b : μ1 b = some (hp_n X 81 (laH rb)) := fz1
  have fr := hp_eqP.tr fe fr (fun q9 hq9 => by simp only [List.mem_cons, List.not_mem_nil, or_false] at hq9; rcases hq9 with rfl | rfl <;> simp [rFP])
  clear fe fz0 fz1
  refine lv_aload_n hx hb dX6_halt_31 rfl (lv_at hl 1 rfl) ?_
  refine lv_aload_n hx hb dX6_halt_32 rfl (lv_at hl 0 rfl) ?_
  refine hp_get hx hb hown hS.2.1 hH (F_X6_14.use hS) f_rd rfl dX6_halt_33 ?_
  refine lv_aload_n hx hb dX6_halt_36 rfl (lv_at hl 0 rfl) ?_
  refine hp_get hx hb hown hS.2.1 hH (F_X6_23.use hS) f_rd rfl dX6_halt_37 ?_
  have f_air := hA.1
  refine hp_kim (hp_runV (As := [.ref r, .ref a]) (rest := []) hx hb hml hown hS hH (c_send l X (rb2 := laH z0) (laH_congr _ _) (laX_01 (apO_01 (apO_01 h01 _ _) _ _) _) (by decide) (by omega) (by omega) hn16 hlv hst hle hsh hinj hA f_r f_b f_a) M_X6_45 I_X1_send V_X1_send (ci := 0) rfl rfl f_air rfl hl.1 rfl (Nat.le_of_ble_eq_true rfl) dX6_halt_40 ⟨Nat.le_of_ble_eq_true rfl, Nat.le_of_ble_eq_true rfl⟩ ⟨Nat.le_of_ble_eq_true rfl, Nat.le_of_ble_eq_true rfl⟩) hH (fun μ1 H locs hp hH => ?_)
  obtain ⟨hA1, fz0, fe⟩ := hp
  have f_rd := (fe _ (hA.out f_rd (by simp [awE]) (hp_ne f_rd f_a (by simp)))).trans f_rd
  have f_r := (fe _ (hA.out f_r (by simp [awE]) (hp_ne f_r f_a (by simp)))).trans f_r
  have f_b := (fe _ (hA.out f_b (by simp [awE]) (hp_ne f_b f_a (by simp)))).trans f_b
  have hA := hA1
  have f_a : μ1 a = some (hp_o 1 [.long (lN (fO n (laH z0) 36 lv st le sh)), .long (lN (fZ n (laH z0) 36 lv st le sh)), .int (nI (fN n (laH z0) 36 lv st le sh))]) := fz0
  have fr := hp_eqP.trP fe fr (fun q9 h9 => Or.inl h9)
  have hfN := fN_le n (laH z0) 36 lv st le sh
  clear fe fz0 hA1 f_air
  refine lv_pop hx hb dX6_halt_43 rfl ?_
  exact hp_rv hx hb hr hlocks hS hH (⟨rfl, _, laX_01 (apO_01 (apO_01 h01 _ _) _ _) _, f_rd, f_r, f_b, f_a, hA, fr⟩) dX6_halt_44
