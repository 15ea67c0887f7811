set_option maxHeartbeats 4000000 in
set_option maxRecDepth 100000 in
theorem c_X11_read_ok (l : Launch) (X : hp_X) {μ : hp_M} {nx : Nat} {ad len fr0 : Nat} {rb : Nat → Nat} (h01 : ∀ j, j < 9 → rb (fr0 + j) < 2) (hlen : fr0 + 9 ≤ len) (hl31 : len < 2 ^ 20) (hp : prN (vaN rb fr0 8) 8 = rb (fr0 + 8)) (f_ad : μ ad = some (hp_n X len rb)) : Ct l X yX11_read cX11_read 4 (some FieldType.int) 1 40 0 0 [.ref ad, .int (nI fr0)] μ nx (hq_i X (po_i nx (nI (vaN rb fr0 8)) (fun z => z = μ))) := by
  refine hp_met (by decide) (Nat.le_of_ble_eq_true rfl) ?_
  intro p e s m below meth c ls hx hb hml hr hlocks hown hin hS hH hl
  have hl : lv_has ls 4 [(0, .ref ad), (1, .int (nI fr0))] := hl
  refine lv_iconst (v := nI 0) hx hb dX11_read_0 (by decide) ?_
  refine lv_istore_n (lv' := [(2, .int (nI 0)), (0, .ref ad), (1, .int (nI fr0))]) hx hb dX11_read_1 rfl hl (by decide) rfl (fun ls hl => ?_)
  refine lv_iconst (v := nI 0) hx hb dX11_read_2 (by decide) ?_
  refine lv_istore_n (lv' := [(3, .int (nI 0)), (2, .int (nI 0)), (0, .ref ad), (1, .int (nI fr0))]) hx hb dX11_read_3 rfl hl (by decide) rfl (fun ls hl => ?_)
  have lp_4 : ∀ (kk : Nat) (k : Nat), (k ≤ 8) → (8 - k) < kk → ∀ (H : Heap) (locs : List Loc) (ls : Array Slot), hp_w X cls μ nx H locs → lv_has ls 4 [(0, .ref ad), (1, .int (nI fr0)), (2, .int (nI (vaN rb fr0 k))), (3, .int (nI k))] → W p l e { frames := 1, cells := 0, slots := 0, locals := 40 } s m [.ref ad, .int (nI fr0)].toArray below meth c H locs 0 0 (MQ below (hq_i X (po_i nx (nI (vaN rb fr0 8)) (fun z => z = μ))) [.ref ad, .int (nI fr0)].toArray s 0 0 (hp_A X)) (F0 m 4 ls []) := by
    intro kk
    induction kk with
    | zero =>
      intro k hk hkk
      exact absurd hkk (Nat.not_lt_zero _)
    | succ kk ih =>
      intro k hk hkk H locs ls  hH hl
      refine lv_iload_n hx hb dX11_read_4 rfl (lv_at hl 3 rfl) ?_
      refine lv_bipush (v := nI 8) hx hb dX11_read_5 (by decide) ?_
      refine lv_icmp_ge (tgt := 26) hx hb dX11_read_7 (by decide) (fun c_7 => ?_) (fun c_7 => ?_)
      · have c_7 : 8 ≤ k := (nI_leI (by omega) (by omega)).mp c_7
        have ek : k = 8 := by omega
        subst ek
        have hv8 : vaN rb fr0 8 < 256 := vaN_lt (n := 8) (fun j hj => h01 j (by omega))
        have hp2 := prN_lt _ hv8
        have hb8 := h01 8 (by omega)
        refine lv_iload_n hx hb dX11_read_26 rfl (lv_at hl 2 rfl) ?_
        refine hp_kip (hp_runS (As := [.int (nI (vaN rb fr0 8))]) (rest := []) hx hb hml hown hS hH (c_X11_parity l X hv8) M_X11_82 S_X11_parity rfl hl.1 rfl (Nat.le_of_ble_eq_true rfl) dX11_read_27 ⟨Nat.le_of_ble_eq_true rfl, Nat.le_of_ble_eq_true rfl⟩ ⟨Nat.le_of_ble_eq_true rfl, Nat.le_of_ble_eq_true rfl⟩) hH (fun H locs hH => ?_)
        refine lv_aload_n hx hb dX11_read_30 rfl (lv_at hl 0 rfl) ?_
        refine lv_iload_n hx hb dX11_read_31 rfl (lv_at hl 1 rfl) ?_
        refine lv_bipush (v := nI 8) hx hb dX11_read_32 (by decide) ?_
        refine lv_iadd hx hb dX11_read_34 ?_
        refine hp_eqi (z := nI (fr0 + 8)) (nI_add _ _) ?_
        refine hp_ialdN hx hb hS.ai hH f_ad (by omega) (by omega) dX11_read_35 ?_
        refine lv_icmp_ne (tgt := 43) hx hb dX11_read_36 (by decide) (fun c_36 => ?_) (fun c_36 => ?_)
        · have c_36 : ¬ ((prN (vaN rb fr0 8) 8) = (rb (fr0 + 8))) := fun z => c_36 ((nI_eq (by omega) (by omega)).mpr z)
          exact absurd hp c_36
        · have c_36 : (prN (vaN rb fr0 8) 8) = (rb (fr0 + 8)) := (nI_eq (by omega) (by omega)).mp c_36
          refine lv_iload_n hx hb dX11_read_39 rfl (lv_at hl 2 rfl) ?_
          refine lv_goto (tgt := 44) hx hb dX11_read_40 (by decide) ?_
          exact hp_ri hx hb hr hlocks hS hH (⟨rfl, rfl, rfl⟩) dX11_read_44
      · have c_7 : ¬ (8 ≤ k) := fun z => c_7 ((nI_leI (by omega) (by omega)).mpr z)
        refine lv_iload_n hx hb dX11_read_10 rfl (lv_at hl 2 rfl) ?_
        refine lv_aload_n hx hb dX11_read_11 rfl (lv_at hl 0 rfl) ?_
        refine lv_iload_n hx hb dX11_read_12 rfl (lv_at hl 1 rfl) ?_
        refine lv_iload_n hx hb dX11_read_13 rfl (lv_at hl 3 rfl) ?_
        refine lv_iadd hx hb dX11_read_14 ?_
        refine hp_eqi (z := nI (fr0 + k)) (nI_add _ _) ?_
        refine hp_ialdN hx hb hS.ai hH f_ad (by omega) (by omega) dX11_read_15 ?_
        refine lv_iload_n hx hb dX11_read_16 rfl (lv_at hl 3 rfl) ?_
        refine lv_ishl hx hb dX11_read_17 ?_
        refine lv_ior hx hb dX11_read_18 ?_
        refine hp_eqi (z := nI (vaN rb fr0 (k + 1))) (z_or (vaN_lt (fun j hj => h01 j (by omega))) (h01 k (by omega)) (by omega)) ?_
        refine lv_istore_n (lv' := [(2, .int (nI (vaN rb fr0 (k + 1)))), (0, .ref ad), (1, .int (nI fr0)), (3, .int (nI k))]) hx hb dX11_read_19 rfl hl (by decide) rfl (fun ls hl => ?_)
        refine lv_iinc (v := nI (k + 1)) (lv' := [(3, .int (nI (k + 1))), (2, .int (nI (vaN rb fr0 (k + 1)))), (0, .ref ad), (1, .int (nI fr0))]) hx hb dX11_read_20 hl (k := 3) rfl (nI_add _ 1) (by decide) rfl (fun ls hl => ?_)
        refine lv_goto (tgt := 4) hx hb dX11_read_23 (by decide) ?_
        exact ih (k + 1) (by omega) (by omega) _ _ _  hH (lv_sub hl [2, 3, 1, 0] rfl)
  exact lp_4 ((8 - 0) + 1) 0 (Nat.zero_le _) (Nat.lt_succ_self _) _ _ _  hH (lv_sub hl [2, 3, 1, 0] rfl)

set_option maxHeartbeats 4000000 in
set_option maxRecDepth 100000 in
theorem c_X11_read_bad (l : Launch) (X : hp_X) {μ : hp_M} {nx : Nat} {ad len fr0 : Nat} {rb : Nat → Nat} (h01 : ∀ j, j < 9 → rb (fr0 + j) < 2) (hlen : fr0 + 9 ≤ len) (hl31 : len < 2 ^ 20) (hp : ¬ prN (vaN rb fr0 8) 8 = rb (fr0 + 8)) (f_ad : μ ad = some (hp_n X len rb)) : Ct l X yX11_read cX11_read 4 (some FieldType.int) 1 40 0 0 [.ref ad, .int (nI fr0)] μ nx (hq_i X (po_i nx (-1) (fun z => z = μ))) := by
  refine hp_met (by decide) (Nat.le_of_ble_eq_true rfl) ?_
  intro p e s m below meth c ls hx hb hml hr hlocks hown hin hS hH hl
  have hl : lv_has ls 4 [(0, .ref ad), (1, .int (nI fr0))] := hl
  refine lv_iconst (v := nI 0) hx hb dX11_read_0 (by decide) ?_
  refine lv_istore_n (lv' := [(2, .int (nI 0)), (0, .ref ad), (1, .int (nI fr0))]) hx hb dX11_read_1 rfl hl (by decide) rfl (fun ls hl => ?_)
  refine lv_iconst (v := nI 0) hx hb dX11_read_2 (by decide) ?_
  refine lv_istore_n (lv' := [(3, .int (nI 0)), (2, .int (nI 0)), (0, .ref ad), (1, .int (nI fr0))]) hx hb dX11_read_3 rfl hl (by decide) rfl (fun ls hl => ?_)
  have lp_4 : ∀ (kk : Nat) (k : Nat), (k ≤ 8) → (8 - k) < kk → ∀ (H : Heap) (locs : List Loc) (ls : Array Slot), hp_w X cls μ nx H locs → lv_has ls 4 [(0, .ref ad), (1, .int (nI fr0)), (2, .int (nI (vaN rb fr0 k))), (3, .int (nI k))] → W p l e { frames := 1, cells := 0, slots := 0, locals := 40 } s m [.ref ad, .int (nI fr0)].toArray below meth c H locs 0 0 (MQ below (hq_i X (po_i nx (-1) (fun z => z = μ))) [.ref ad, .int (nI fr0)].toArray s 0 0 (hp_A X)) (F0 m 4 ls []) := by
    intro kk
    induction kk with
    | zero =>
      intro k hk hkk
      exact absurd hkk (Nat.not_lt_zero _)
    | succ kk ih =>
      intro k hk hkk H locs ls  hH hl
      refine lv_iload_n hx hb dX11_read_4 rfl (lv_at hl 3 rfl) ?_
      refine lv_bipush (v := nI 8) hx hb dX11_read_5 (by decide) ?_
      refine lv_icmp_ge (tgt := 26) hx hb dX11_read_7 (by decide) (fun c_7 => ?_) (fun c_7 => ?_)
      · have c_7 : 8 ≤ k := (nI_leI (by omega) (by omega)).mp c_7
        have ek : k = 8 := by omega
        subst ek
        have hv8 : vaN rb fr0 8 < 256 := vaN_lt (n := 8) (fun j hj => h01 j (by omega))
        have hp2 := prN_lt _ hv8
        have hb8 := h01 8 (by omega)
        refine lv_iload_n hx hb dX11_read_26 rfl (lv_at hl 2 rfl) ?_
        refine hp_kip (hp_runS (As := [.int (nI (vaN rb fr0 8))]) (rest := []) hx hb hml hown hS hH (c_X11_parity l X hv8) M_X11_82 S_X11_parity rfl hl.1 rfl (Nat.le_of_ble_eq_true rfl) dX11_read_27 ⟨Nat.le_of_ble_eq_true rfl, Nat.le_of_ble_eq_true rfl⟩ ⟨Nat.le_of_ble_eq_true rfl, Nat.le_of_ble_eq_true rfl⟩) hH (fun H locs hH => ?_)
        refine lv_aload_n hx hb dX11_read_30 rfl (lv_at hl 0 rfl) ?_
        refine lv_iload_n hx hb dX11_read_31 rfl (lv_at hl 1 rfl) ?_
        refine lv_bipush (v := nI 8) hx hb dX11_read_32 (by decide) ?_
        refine lv_iadd hx hb dX11_read_34 ?_
        refine hp_eqi (z := nI (fr0 + 8)) (nI_add _ _) ?_
        refine hp_ialdN hx hb hS.ai hH f_ad (by omega) (by omega) dX11_read_35 ?_
        refine lv_icmp_ne (tgt := 43) hx hb dX11_read_36 (by decide) (fun c_36 => ?_) (fun c_36 => ?_)
        · have c_36 : ¬ ((prN (vaN rb fr0 8) 8) = (rb (fr0 + 8))) := fun z => c_36 ((nI_eq (by omega) (by omega)).mpr z)
          refine lv_iconst (v := (-1)) hx hb dX11_read_43 (by decide) ?_
          exact hp_ri hx hb hr hlocks hS hH (⟨rfl, rfl, rfl⟩) dX11_read_44
        · have c_36 : (prN (vaN rb fr0 8) 8) = (rb (fr0 + 8)) := (nI_eq (by omega) (by omega)).mp c_36
          exact absurd c_36 hp
      · have c_7 : ¬ (8 ≤ k) := fun z => c_7 ((nI_leI (by omega) (by omega)).mpr z)
        refine lv_iload_n hx hb dX11_read_10 rfl (lv_at hl 2 rfl) ?_
        refine lv_aload_n hx hb dX11_read_11 rfl (lv_at hl 0 rfl) ?_
        refine lv_iload_n hx hb dX11_read_12 rfl (lv_at hl 1 rfl) ?_
        refine lv_iload_n hx hb dX11_read_13 rfl (lv_at hl 3 rfl) ?_
        refine lv_iadd hx hb dX11_read_14 ?_
        refine hp_eqi (z := nI (fr0 + k)) (nI_add _ _) ?_
        refine hp_ialdN hx hb hS.ai hH f_ad (by omega) (by omega) dX11_read_15 ?_
        refine lv_iload_n hx hb dX11_read_16 rfl (lv_at hl 3 rfl) ?_
        refine lv_ishl hx hb dX11_read_17 ?_
        refine lv_ior hx hb dX11_read_18 ?_
        refine hp_eqi (z := nI (vaN rb fr0 (k + 1))) (z_or (vaN_lt (fun j hj => h01 j (by omega))) (h01 k (by omega)) (by omega)) ?_
        refine lv_istore_n (lv' := [(2, .int (nI (vaN rb fr0 (k + 1)))), (0, .ref ad), (1, .int (nI fr0)), (3, .int (nI k))]) hx hb dX11_read_19 rfl hl (by decide) rfl (fun ls hl => ?_)
        refine lv_iinc (v := nI (k + 1)) (lv' := [(3, .int (nI (k + 1))), (2, .int (nI (vaN rb fr0 (k + 1)))), (0, .ref ad), (1, .int (nI fr0))]) hx hb dX11_read_20 hl (k := 3) rfl (nI_add _ 1) (by decide) rfl (fun ls hl => ?_)
        refine lv_goto (tgt := 4) hx hb dX11_read_23 (by decide) ?_
        exact ih (k + 1) (by omega) (by omega) _ _ _  hH (lv_sub hl [2, 3, 1, 0] rfl)
  exact lp_4 ((8 - 0) + 1) 0 (Nat.zero_le _) (Nat.lt_succ_self _) _ _ _  hH (lv_sub hl [2, 3, 1, 0] rfl)

set_option maxHeartbeats 4000000 in
set_option maxRecDepth 100000 in
theorem c_X11_checked (l : Launch) (X : hp_X) {μ : hp_M} {nx : Nat} {x b : Nat} (hx1 : x < 65536) (hb1 : b < 256)  : Ct l X yX11_checked cX11_checked 3 (some FieldType.int) 0 0 0 0 [.int (nI x), .int (nI b)] μ nx (hq_i X (po_i nx (nI (crcS x b)) (fun z => z = μ))) := by
  refine hp_met (by decide) (Nat.le_of_ble_eq_true rfl) ?_
  intro p e s m below meth c ls hx hb hml hr hlocks hown hin hS hH hl
  have hl : lv_has ls 3 [(0, .int (nI x)), (1, .int (nI b))] := hl
  have hz8 : b ^^^ x % 256 < 256 := Nat.xor_lt_two_pow (n := 8) hb1 (Nat.mod_lt _ (by decide))
  refine lv_iload_n hx hb dX11_checked_0 rfl (lv_at hl 1 rfl) ?_
  refine lv_iload_n hx hb dX11_checked_1 rfl (lv_at hl 0 rfl) ?_
  refine lv_ixor hx hb dX11_checked_2 ?_
  refine lv_sipush (v := nI 255) hx hb dX11_checked_3 (by decide) ?_
  refine lv_iand hx hb dX11_checked_6 ?_
  refine hp_eqi (z := nI (b ^^^ x % 256)) (z_cx2 hx1 hb1) ?_
  refine lv_istore_n (lv' := [(2, .int (nI (b ^^^ x % 256))), (0, .int (nI x)), (1, .int (nI b))]) hx hb dX11_checked_7 rfl hl (by decide) rfl (fun ls hl => ?_)
  refine lv_iload_n hx hb dX11_checked_8 rfl (lv_at hl 0 rfl) ?_
  refine lv_iload_n hx hb dX11_checked_9 rfl (lv_at hl 0 rfl) ?_
  refine lv_bipush (v := nI 16) hx hb dX11_checked_10 (by decide) ?_
  refine lv_imul hx hb dX11_checked_12 ?_
  refine hp_eqi (z := nI ((b ^^^ x % 256) * 16)) (pk_mul _ _) ?_
  refine lv_ixor hx hb dX11_checked_13 ?_
  refine lv_sipush (v := nI 255) hx hb dX11_checked_14 (by decide) ?_
  refine lv_iand hx hb dX11_checked_17 ?_
  refine hp_eqi (z := nI (crcY (b ^^^ x % 256))) (z_cy2 hz8) ?_
  refine lv_istore_n (lv' := [(2, .int (nI (crcY (b ^^^ x % 256)))), (0, .int (nI x)), (1, .int (nI b))]) hx hb dX11_checked_18 rfl hl (by decide) rfl (fun ls hl => ?_)
  have hy8 := crcY_lt (b ^^^ x % 256)
  refine lv_iload_n hx hb dX11_checked_19 rfl (lv_at hl 1 rfl) ?_
  refine lv_sipush (v := nI 256) hx hb dX11_checked_20 (by decide) ?_
  refine lv_idiv hx hb dX11_checked_23 (nI_ne0 (by omega) (by omega)) ?_
  refine hp_eqi (z := nI (x / 256)) (pk_div (by omega) (by omega) (by omega)) ?_
  refine lv_iload_n hx hb dX11_checked_24 rfl (lv_at hl 0 rfl) ?_
  refine lv_sipush (v := nI 256) hx hb dX11_checked_25 (by decide) ?_
  refine lv_imul hx hb dX11_checked_28 ?_
  refine hp_eqi (z := nI ((crcY (b ^^^ x % 256)) * 256)) (pk_mul _ _) ?_
  refine lv_ixor hx hb dX11_checked_29 ?_
  refine lv_iload_n hx hb dX11_checked_30 rfl (lv_at hl 0 rfl) ?_
  refine lv_bipush (v := nI 8) hx hb dX11_checked_31 (by decide) ?_
  refine lv_imul hx hb dX11_checked_33 ?_
  refine hp_eqi (z := nI ((crcY (b ^^^ x % 256)) * 8)) (pk_mul _ _) ?_
  refine lv_ixor hx hb dX11_checked_34 ?_
  refine lv_iload_n hx hb dX11_checked_35 rfl (lv_at hl 0 rfl) ?_
  refine lv_bipush (v := nI 16) hx hb dX11_checked_36 (by decide) ?_
  refine lv_idiv hx hb dX11_checked_38 (nI_ne0 (by omega) (by omega)) ?_
  refine hp_eqi (z := nI ((crcY (b ^^^ x % 256)) / 16)) (pk_div (by omega) (by omega) (by omega)) ?_
  refine lv_ixor hx hb dX11_checked_39 ?_
  refine lv_ldc hx hb hown (hS.1 _ wi_812 _) dX11_checked_40 ?_
  refine hp_eqi (z := nI 65535) (by decide) ?_
  refine lv_iand hx hb dX11_checked_42 ?_
  refine hp_eqi (z := nI (crcS x b)) (z_cf2 hx1 hy8) ?_
  exact hp_ri hx hb hr hlocks hS hH (⟨rfl, rfl, rfl⟩) dX11_checked_43

set_option maxHeartbeats 4000000 in
set_option maxRecDepth 100000 in
theorem c_X11_knownByte (l : Launch) (X : hp_X) {μ : hp_M} {nx : Nat} {o n tz se kd kl tc sd hd an fm fo kc : Nat} {on : Bool} {i : Nat} {kb : Nat → Nat} (h01 : ∀ j, kb j < 2) (hi : i < 5) (f_o : μ o = some (hp_o 7 [.int (nI n), .ref (o + 1), .ref (o + 2), .ref (o + 3), .ref (o + 4), .ref (o + 5), .ref (o + 6), .int (nB on), .int (nI tz), .ref (o + 7), .int (nI se), .ref (o + 8), .ref (o + 9), .int (nI kd), .int (nI kl), .int (nI tc), .ref (o + 10), .int (nI sd), .ref (o + 11), .int (nI hd), .ref (o + 12), .int (nI an), .ref (o + 13), .int (nI fm), .int (nI fo), .ref (o + 14), .ref (o + 15), .int (nI kc), .ref (o + 16)])) (f_16 : μ (o + 16) = some (hp_n X 40 kb)) : Ct l X yX11_knownByte cX11_knownByte 4 (some FieldType.int) 0 0 0 0 [.ref o, .int (nI i)] μ nx (hq_i X (po_i nx (nI (vaN kb (8 * i) 8)) (fun z => z = μ))) := by
  refine hp_met (by decide) (Nat.le_of_ble_eq_true rfl) ?_
  intro p e s m below meth c ls hx hb hml hr hlocks hown hin hS hH hl
  have hl : lv_has ls 4 [(0, .ref o), (1, .int (nI i))] := hl
  refine lv_iconst (v := nI 0) hx hb dX11_knownByte_0 (by decide) ?_
  refine lv_istore_n (lv' := [(2, .int (nI 0)), (0, .ref o), (1, .int (nI i))]) hx hb dX11_knownByte_1 rfl hl (by decide) rfl (fun ls hl => ?_)
  refine lv_iconst (v := nI 0) hx hb dX11_knownByte_2 (by decide) ?_
  refine lv_istore_n (lv' := [(3, .int (nI 0)), (2, .int (nI 0)), (0, .ref o), (1, .int (nI i))]) hx hb dX11_knownByte_3 rfl hl (by decide) rfl (fun ls hl => ?_)
  have lp_4 : ∀ (kk : Nat) (k : Nat), (k ≤ 8) → (8 - k) < kk → ∀ (H : Heap) (locs : List Loc) (ls : Array Slot), hp_w X cls μ nx H locs → lv_has ls 4 [(0, .ref o), (1, .int (nI i)), (2, .int (nI (vaN kb (8 * i) k))), (3, .int (nI k))] → W p l e { frames := 0, cells := 0, slots := 0, locals := 0 } s m [.ref o, .int (nI i)].toArray below meth c H locs 0 0 (MQ below (hq_i X (po_i nx (nI (vaN kb (8 * i) 8)) (fun z => z = μ))) [.ref o, .int (nI i)].toArray s 0 0 (hp_A X)) (F0 m 4 ls []) := by
    intro kk
    induction kk with
    | zero =>
      intro k hk hkk
      exact absurd hkk (Nat.not_lt_zero _)
    | succ kk ih =>
      intro k hk hkk H locs ls  hH hl
      refine lv_iload_n hx hb dX11_knownByte_4 rfl (lv_at hl 3 rfl) ?_
      refine lv_bipush (v := nI 8) hx hb dX11_knownByte_5 (by decide) ?_
      refine lv_icmp_ge (tgt := 32) hx hb dX11_knownByte_7 (by decide) (fun c_7 => ?_) (fun c_7 => ?_)
      · have c_7 : 8 ≤ k := (nI_leI (by omega) (by omega)).mp c_7
        refine lv_iload_n hx hb dX11_knownByte_32 rfl (lv_at hl 2 rfl) ?_
        have ek : k = 8 := by omega
        subst ek
        exact hp_ri hx hb hr hlocks hS hH (⟨rfl, rfl, rfl⟩) dX11_knownByte_33
      · have c_7 : ¬ (8 ≤ k) := fun z => c_7 ((nI_leI (by omega) (by omega)).mpr z)
        refine lv_iload_n hx hb dX11_knownByte_10 rfl (lv_at hl 2 rfl) ?_
        refine lv_aload_n hx hb dX11_knownByte_11 rfl (lv_at hl 0 rfl) ?_
        refine hp_get hx hb hown hS.2.1 hH (F_X11_60.use hS) f_o rfl dX11_knownByte_12 ?_
        refine lv_bipush (v := nI 8) hx hb dX11_knownByte_15 (by decide) ?_
        refine lv_iload_n hx hb dX11_knownByte_17 rfl (lv_at hl 1 rfl) ?_
        refine lv_imul hx hb dX11_knownByte_18 ?_
        refine hp_eqi (z := nI (8 * i)) (pk_mul _ _) ?_
        refine lv_iload_n hx hb dX11_knownByte_19 rfl (lv_at hl 3 rfl) ?_
        refine lv_iadd hx hb dX11_knownByte_20 ?_
        refine hp_eqi (z := nI ((8 * i) + k)) (nI_add _ _) ?_
        refine hp_ialdN hx hb hS.ai hH f_16 (by omega) (by omega) dX11_knownByte_21 ?_
        refine lv_iload_n hx hb dX11_knownByte_22 rfl (lv_at hl 3 rfl) ?_
        refine lv_ishl hx hb dX11_knownByte_23 ?_
        refine lv_ior hx hb dX11_knownByte_24 ?_
        refine hp_eqi (z := nI (vaN kb (8 * i) (k + 1))) (z_or (vaN_lt (fun j hj => h01 _)) (h01 _) (by omega)) ?_
        refine lv_istore_n (lv' := [(2, .int (nI (vaN kb (8 * i) (k + 1)))), (0, .ref o), (1, .int (nI i)), (3, .int (nI k))]) hx hb dX11_knownByte_25 rfl hl (by decide) rfl (fun ls hl => ?_)
        refine lv_iinc (v := nI (k + 1)) (lv' := [(3, .int (nI (k + 1))), (2, .int (nI (vaN kb (8 * i) (k + 1)))), (0, .ref o), (1, .int (nI i))]) hx hb dX11_knownByte_26 hl (k := 3) rfl (nI_add _ 1) (by decide) rfl (fun ls hl => ?_)
        refine lv_goto (tgt := 4) hx hb dX11_knownByte_29 (by decide) ?_
        exact ih (k + 1) (by omega) (by omega) _ _ _  hH (lv_sub hl [2, 3, 1, 0] rfl)
  exact lp_4 ((8 - 0) + 1) 0 (Nat.zero_le _) (Nat.lt_succ_self _) _ _ _  hH (lv_sub hl [2, 3, 1, 0] rfl)

set_option maxHeartbeats 4000000 in
set_option maxRecDepth 100000 in
theorem c_X11_byteFrom (l : Launch) (X : hp_X) {μ : hp_M} {nx : Nat} {o k : Nat} {a b c1 : Int32} (hk : k < 12)  : Ct l X yX11_byteFrom cX11_byteFrom 6 (some FieldType.int) 0 0 0 0 [.ref o, .int a, .int b, .int c1, .int (nI k)] μ nx (hq_i X (po_i nx (nI (nbN a b c1 k)) (fun z => z = μ))) := by
  refine hp_met (by decide) (Nat.le_of_ble_eq_true rfl) ?_
  intro p e s m below meth c ls hx hb hml hr hlocks hown hin hS hH hl
  have hl : lv_has ls 6 [(0, .ref o), (1, .int a), (2, .int b), (3, .int c1), (4, .int (nI k))] := hl
  refine lv_iload hx hb dX11_byteFrom_0 (lv_at hl 4 rfl) ?_
  refine lv_iconst (v := nI 4) hx hb dX11_byteFrom_2 (by decide) ?_
  refine lv_icmp_ge (tgt := 10) hx hb dX11_byteFrom_3 (by decide) (fun c_3 => ?_) (fun c_3 => ?_)
  · have c_3 : 4 ≤ k := (nI_leI (by omega) (by omega)).mp c_3
    have c_3 : ¬ k < 4 := by omega
    refine lv_iload hx hb dX11_byteFrom_10 (lv_at hl 4 rfl) ?_
    refine lv_bipush (v := nI 8) hx hb dX11_byteFrom_12 (by decide) ?_
    refine lv_icmp_ge (tgt := 21) hx hb dX11_byteFrom_14 (by decide) (fun c_14 => ?_) (fun c_14 => ?_)
    · have c_14 : 8 ≤ k := (nI_leI (by omega) (by omega)).mp c_14
      have c_14 : ¬ k < 8 := by omega
      refine lv_iload_n hx hb dX11_byteFrom_21 rfl (lv_at hl 3 rfl) ?_
      refine lv_istore (lv' := [(5, .int c1), (0, .ref o), (1, .int a), (2, .int b), (3, .int c1), (4, .int (nI k))]) hx hb dX11_byteFrom_22 hl (by decide) rfl (fun ls hl => ?_)
      refine lv_iload hx hb dX11_byteFrom_24 (lv_at hl 0 rfl) ?_
      refine lv_bipush (v := nI 24) hx hb dX11_byteFrom_26 (by decide) ?_
      refine lv_bipush (v := nI 8) hx hb dX11_byteFrom_28 (by decide) ?_
      refine lv_iload hx hb dX11_byteFrom_30 (lv_at hl 5 rfl) ?_
      refine lv_iconst (v := nI 4) hx hb dX11_byteFrom_32 (by decide) ?_
      refine lv_irem hx hb dX11_byteFrom_33 (nI_ne0 (by omega) (by omega)) ?_
      refine hp_eqi (z := nI (k % 4)) (pk_rem (by omega) (by omega) (by omega)) ?_
      refine lv_imul hx hb dX11_byteFrom_34 ?_
      refine hp_eqi (z := nI (8 * (k % 4))) (pk_mul _ _) ?_
      refine lv_isub hx hb dX11_byteFrom_35 ?_
      refine hp_eqi (z := nI (24 - (8 * (k % 4)))) (pk_sub (by omega)) ?_
      refine lv_iushr hx hb dX11_byteFrom_36 rfl ?_
      refine lv_sipush (v := nI 255) hx hb dX11_byteFrom_37 (by decide) ?_
      refine lv_iand hx hb dX11_byteFrom_40 ?_
      refine hp_eqi (z := nI (c1.toBitVec.toNat / 2 ^ (24 - 8 * (k % 4)) % 256)) (z_byte (by omega)) ?_
      exact hp_ri hx hb hr hlocks hS hH (⟨rfl, congrArg nI (Eq.symm (by unfold nbN; rw [if_neg c_3, if_neg c_14])), rfl⟩) dX11_byteFrom_41
    · have c_14 : ¬ (8 ≤ k) := fun z => c_14 ((nI_leI (by omega) (by omega)).mpr z)
      have c_14 : k < 8 := by omega
      refine lv_iload_n hx hb dX11_byteFrom_17 rfl (lv_at hl 2 rfl) ?_
      refine lv_goto (tgt := 22) hx hb dX11_byteFrom_18 (by decide) ?_
      refine lv_istore (lv' := [(5, .int b), (0, .ref o), (1, .int a), (2, .int b), (3, .int c1), (4, .int (nI k))]) hx hb dX11_byteFrom_22 hl (by decide) rfl (fun ls hl => ?_)
      refine lv_iload hx hb dX11_byteFrom_24 (lv_at hl 0 rfl) ?_
      refine lv_bipush (v := nI 24) hx hb dX11_byteFrom_26 (by decide) ?_
      refine lv_bipush (v := nI 8) hx hb dX11_byteFrom_28 (by decide) ?_
      refine lv_iload hx hb dX11_byteFrom_30 (lv_at hl 5 rfl) ?_
      refine lv_iconst (v := nI 4) hx hb dX11_byteFrom_32 (by decide) ?_
      refine lv_irem hx hb dX11_byteFrom_33 (nI_ne0 (by omega) (by omega)) ?_
      refine hp_eqi (z := nI (k % 4)) (pk_rem (by omega) (by omega) (by omega)) ?_
      refine lv_imul hx hb dX11_byteFrom_34 ?_
      refine hp_eqi (z := nI (8 * (k % 4))) (pk_mul _ _) ?_
      refine lv_isub hx hb dX11_byteFrom_35 ?_
      refine hp_eqi (z := nI (24 - (8 * (k % 4)))) (pk_sub (by omega)) ?_
      refine lv_iushr hx hb dX11_byteFrom_36 rfl ?_
      refine lv_sipush (v := nI 255) hx hb dX11_byteFrom_37 (by decide) ?_
      refine lv_iand hx hb dX11_byteFrom_40 ?_
      refine hp_eqi (z := nI (b.toBitVec.toNat / 2 ^ (24 - 8 * (k % 4)) % 256)) (z_byte (by omega)) ?_
      exact hp_ri hx hb hr hlocks hS hH (⟨rfl, congrArg nI (Eq.symm (by unfold nbN; rw [if_neg c_3, if_pos c_14])), rfl⟩) dX11_byteFrom_41
  · have c_3 : ¬ (4 ≤ k) := fun z => c_3 ((nI_leI (by omega) (by omega)).mpr z)
    have c_3 : k < 4 := by omega
    refine lv_iload_n hx hb dX11_byteFrom_6 rfl (lv_at hl 1 rfl) ?_
    refine lv_goto (tgt := 22) hx hb dX11_byteFrom_7 (by decide) ?_
    refine lv_istore (lv' := [(5, .int a), (0, .ref o), (1, .int a), (2, .int b), (3, .int c1), (4, .int (nI k))]) hx hb dX11_byteFrom_22 hl (by decide) rfl (fun ls hl => ?_)
    refine lv_iload hx hb dX11_byteFrom_24 (lv_at hl 0 rfl) ?_
    refine lv_bipush (v := nI 24) hx hb dX11_byteFrom_26 (by decide) ?_
    refine lv_bipush (v := nI 8) hx hb dX11_byteFrom_28 (by decide) ?_
    refine lv_iload hx hb dX11_byteFrom_30 (lv_at hl 5 rfl) ?_
    refine lv_iconst (v := nI 4) hx hb dX11_byteFrom_32 (by decide) ?_
    refine lv_irem hx hb dX11_byteFrom_33 (nI_ne0 (by omega) (by omega)) ?_
    refine hp_eqi (z := nI (k % 4)) (pk_rem (by omega) (by omega) (by omega)) ?_
    refine lv_imul hx hb dX11_byteFrom_34 ?_
    refine hp_eqi (z := nI (8 * (k % 4))) (pk_mul _ _) ?_
    refine lv_isub hx hb dX11_byteFrom_35 ?_
    refine hp_eqi (z := nI (24 - (8 * (k % 4)))) (pk_sub (by omega)) ?_
    refine lv_iushr hx hb dX11_byteFrom_36 rfl ?_
    refine lv_sipush (v := nI 255) hx hb dX11_byteFrom_37 (by decide) ?_
    refine lv_iand hx hb dX11_byteFrom_40 ?_
    refine hp_eqi (z := nI (a.toBitVec.toNat / 2 ^ (24 - 8 * (k % 4)) % 256)) (z_byte (by omega)) ?_
    exact hp_ri hx hb hr hlocks hS hH (⟨rfl, congrArg nI (Eq.symm (by unfold nbN; rw [if_pos c_3])), rfl⟩) dX11_byteFrom_41

set_option maxHeartbeats 4000000 in
set_option maxRecDepth 100000 in
theorem c_X11_levels (l : Launch) (X : hp_X) {μ : hp_M} {nx : Nat} {o n tz se kd kl tc sd hd an fm fo kc : Nat} {on : Bool} {t : Nat} {Z : Nat → Nat} (ht : t < 17) (hz : Z t < 2 ^ 20) (f_o : μ o = some (hp_o 7 [.int (nI n), .ref (o + 1), .ref (o + 2), .ref (o + 3), .ref (o + 4), .ref (o + 5), .ref (o + 6), .int (nB on), .int (nI tz), .ref (o + 7), .int (nI se), .ref (o + 8), .ref (o + 9), .int (nI kd), .int (nI kl), .int (nI tc), .ref (o + 10), .int (nI sd), .ref (o + 11), .int (nI hd), .ref (o + 12), .int (nI an), .ref (o + 13), .int (nI fm), .int (nI fo), .ref (o + 14), .ref (o + 15), .int (nI kc), .ref (o + 16)])) (f_1 : μ (o + 1) = some (hp_n X 17 Z)) : Ct l X yX11_levels cX11_levels 2 (some FieldType.int) 0 0 0 0 [.ref o, .int (nI t)] μ nx (hq_i X (po_i nx (nI (Z t / 3)) (fun z => z = μ))) := by
  refine hp_met (by decide) (Nat.le_of_ble_eq_true rfl) ?_
  intro p e s m below meth c ls hx hb hml hr hlocks hown hin hS hH hl
  have hl : lv_has ls 2 [(0, .ref o), (1, .int (nI t))] := hl
  refine lv_aload_n hx hb dX11_levels_0 rfl (lv_at hl 0 rfl) ?_
  refine hp_get hx hb hown hS.2.1 hH (F_X11_7.use hS) f_o rfl dX11_levels_1 ?_
  refine lv_iload_n hx hb dX11_levels_4 rfl (lv_at hl 1 rfl) ?_
  refine hp_ialdN hx hb hS.ai hH f_1 (by omega) (by omega) dX11_levels_5 ?_
  refine lv_iconst (v := nI 3) hx hb dX11_levels_6 (by decide) ?_
  refine lv_idiv hx hb dX11_levels_7 (nI_ne0 (by omega) (by omega)) ?_
  refine hp_eqi (z := nI ((Z t) / 3)) (pk_div (by omega) (by omega) (by omega)) ?_
  exact hp_ri hx hb hr hlocks hS hH (⟨rfl, rfl, rfl⟩) dX11_levels_8

set_option maxHeartbeats 4000000 in
set_option maxRecDepth 100000 in
theorem c_X11_back (l : Launch) (X : hp_X) {μ : hp_M} {nx : Nat} {o n tz se kd kl tc sd hd an fm fo kc : Nat} {on : Bool} {t : Nat} {S : Nat → Nat} (ht : t < 17) (hz : S t < 2 ^ 20) (f_o : μ o = some (hp_o 7 [.int (nI n), .ref (o + 1), .ref (o + 2), .ref (o + 3), .ref (o + 4), .ref (o + 5), .ref (o + 6), .int (nB on), .int (nI tz), .ref (o + 7), .int (nI se), .ref (o + 8), .ref (o + 9), .int (nI kd), .int (nI kl), .int (nI tc), .ref (o + 10), .int (nI sd), .ref (o + 11), .int (nI hd), .ref (o + 12), .int (nI an), .ref (o + 13), .int (nI fm), .int (nI fo), .ref (o + 14), .ref (o + 15), .int (nI kc), .ref (o + 16)])) (f_4 : μ (o + 4) = some (hp_n X 17 S)) : Ct l X yX11_back cX11_back 2 (none : Option Jvm.ClassFile.FieldType) 0 0 0 0 [.ref o, .int (nI t)] μ nx (hq_v X (po_v nx (fun z => z (o + 4) = some (hp_n X 17 (setN S t (if S t < 4 then 1 else 4))) ∧ hp_eqM [4] o z μ))) := by
  refine hp_met (by decide) (Nat.le_of_ble_eq_true rfl) ?_
  intro p e s m below meth c ls hx hb hml hr hlocks hown hin hS hH hl
  have hl : lv_has ls 2 [(0, .ref o), (1, .int (nI t))] := hl
  have fr : hp_eqM [4] o μ μ := fun _ _ => rfl
  refine lv_aload_n hx hb dX11_back_0 rfl (lv_at hl 0 rfl) ?_
  refine hp_get hx hb hown hS.2.1 hH (F_X11_20.use hS) f_o rfl dX11_back_1 ?_
  refine lv_iload_n hx hb dX11_back_4 rfl (lv_at hl 1 rfl) ?_
  refine lv_aload_n hx hb dX11_back_5 rfl (lv_at hl 0 rfl) ?_
  refine hp_get hx hb hown hS.2.1 hH (F_X11_20.use hS) f_o rfl dX11_back_6 ?_
  refine lv_iload_n hx hb dX11_back_9 rfl (lv_at hl 1 rfl) ?_
  refine hp_ialdN hx hb hS.ai hH f_4 (by omega) (by omega) dX11_back_10 ?_
  refine lv_iconst (v := nI 4) hx hb dX11_back_11 (by decide) ?_
  refine lv_icmp_ge (tgt := 19) hx hb dX11_back_12 (by decide) (fun c_12 => ?_) (fun c_12 => ?_)
  · have c_12 : 4 ≤ (S t) := (nI_leI (by omega) (by omega)).mp c_12
    refine lv_iconst (v := nI 4) hx hb dX11_back_19 (by decide) ?_
    refine hp_iastN hx hb hS.ai hH f_4 (by omega) (by omega) dX11_back_20 (fun H locs μ1 fz fn hH => ?_)
    have f_o := (fn _ (by omega)).trans f_o
    have f_4 : μ1 (o + 4) = some (hp_n X 17 (setN S t 4)) := fz
    have fr := hp_eqM.put (k := 4) fr (by decide) fn
    clear fz fn
    have f_4 := f_4.trans (congrArg (fun g => some (hp_n X 17 g)) (show setN S t 4 = setN S t (if S t < 4 then 1 else 4) from by rw [if_neg (by omega)]))
    exact hp_rv hx hb hr hlocks hS hH (⟨rfl, f_4, fr⟩) dX11_back_21
  · have c_12 : ¬ (4 ≤ (S t)) := fun z => c_12 ((nI_leI (by omega) (by omega)).mpr z)
    refine lv_iconst (v := nI 1) hx hb dX11_back_15 (by decide) ?_
    refine lv_goto (tgt := 20) hx hb dX11_back_16 (by decide) ?_
    refine hp_iastN hx hb hS.ai hH f_4 (by omega) (by omega) dX11_back_20 (fun H locs μ1 fz fn hH => ?_)
    have f_o := (fn _ (by omega)).trans f_o
    have f_4 : μ1 (o + 4) = some (hp_n X 17 (setN S t 1)) := fz
    have fr := hp_eqM.put (k := 4) fr (by decide) fn
    clear fz fn
    have f_4 := f_4.trans (congrArg (fun g => some (hp_n X 17 g)) (show setN S t 1 = setN S t (if S t < 4 then 1 else 4) from by rw [if_pos (by omega)]))
    exact hp_rv hx hb hr hlocks hS hH (⟨rfl, f_4, fr⟩) dX11_back_21

set_option maxHeartbeats 4000000 in
set_option maxRecDepth 100000 in
theorem c_X11_isTag (l : Launch) (X : hp_X) {μ : hp_M} {nx : Nat} {o n tz se kd kl tc sd hd an fm fo kc : Nat} {on : Bool} {tg : Int32} (f_o : μ o = some (hp_o 7 [.int (nI n), .ref (o + 1), .ref (o + 2), .ref (o + 3), .ref (o + 4), .ref (o + 5), .ref (o + 6), .int (nB on), .int (nI tz), .ref (o + 7), .int (nI se), .ref (o + 8), .ref (o + 9), .int (nI kd), .int (nI kl), .int (nI tc), .ref (o + 10), .int (nI sd), .ref (o + 11), .int (nI hd), .ref (o + 12), .int (nI an), .ref (o + 13), .int (nI fm), .int (nI fo), .ref (o + 14), .ref (o + 15), .int (nI kc), .ref (o + 16)])) : Ct l X yX11_isTag cX11_isTag 2 (some FieldType.boolean) 0 0 0 0 [.ref o, .int tg] μ nx (hq_i X (po_i nx (nB (decide (nI 1 ≤ tg ∧ tg ≤ nI n))) (fun z => z = μ))) := by
  refine hp_met (by decide) (Nat.le_of_ble_eq_true rfl) ?_
  intro p e s m below meth c ls hx hb hml hr hlocks hown hin hS hH hl
  have hl : lv_has ls 2 [(0, .ref o), (1, .int tg)] := hl
  refine lv_iload_n hx hb dX11_isTag_0 rfl (lv_at hl 1 rfl) ?_
  refine lv_iconst (v := nI 1) hx hb dX11_isTag_1 (by decide) ?_
  refine lv_icmp_lt (tgt := 17) hx hb dX11_isTag_2 (by decide) (fun c_2 => ?_) (fun c_2 => ?_)
  · refine lv_iconst (v := nI 0) hx hb dX11_isTag_17 (by decide) ?_
    refine hp_eqi (z := nB false) (by decide) ?_
    exact hp_rz hx hb hr hlocks hS hH (nB_nar _) (⟨rfl, congrArg nB (Eq.symm (by simp [Int32.not_le.mpr c_2])), rfl⟩) dX11_isTag_18
  · refine lv_iload_n hx hb dX11_isTag_5 rfl (lv_at hl 1 rfl) ?_
    refine lv_aload_n hx hb dX11_isTag_6 rfl (lv_at hl 0 rfl) ?_
    refine hp_get hx hb hown hS.2.1 hH (F_X11_67.use hS) f_o rfl dX11_isTag_7 ?_
    refine lv_icmp_gt (tgt := 17) hx hb dX11_isTag_10 (by decide) (fun c_10 => ?_) (fun c_10 => ?_)
    · refine lv_iconst (v := nI 0) hx hb dX11_isTag_17 (by decide) ?_
      refine hp_eqi (z := nB false) (by decide) ?_
      exact hp_rz hx hb hr hlocks hS hH (nB_nar _) (⟨rfl, congrArg nB (Eq.symm (by simp [Int32.not_lt.mp c_2, Int32.not_le.mpr c_10])), rfl⟩) dX11_isTag_18
    · refine lv_iconst (v := nI 1) hx hb dX11_isTag_13 (by decide) ?_
      refine lv_goto (tgt := 18) hx hb dX11_isTag_14 (by decide) ?_
      refine hp_eqi (z := nB true) (by decide) ?_
      exact hp_rz hx hb hr hlocks hS hH (nB_nar _) (⟨rfl, congrArg nB (Eq.symm (by simp [Int32.not_lt.mp c_2, Int32.not_lt.mp c_10])), rfl⟩) dX11_isTag_18

set_option maxHeartbeats 4000000 in
set_option maxRecDepth 100000 in
theorem c_X11_state_un (l : Launch) (X : hp_X) {μ : hp_M} {nx : Nat} {o n tz se kd kl tc sd hd an fm fo kc : Nat} {on : Bool} {tg : Int32} (htg : tg < nI 1 ∨ nI n < tg)  (f_o : μ o = some (hp_o 7 [.int (nI n), .ref (o + 1), .ref (o + 2), .ref (o + 3), .ref (o + 4), .ref (o + 5), .ref (o + 6), .int (nB on), .int (nI tz), .ref (o + 7), .int (nI se), .ref (o + 8), .ref (o + 9), .int (nI kd), .int (nI kl), .int (nI tc), .ref (o + 10), .int (nI sd), .ref (o + 11), .int (nI hd), .ref (o + 12), .int (nI an), .ref (o + 13), .int (nI fm), .int (nI fo), .ref (o + 14), .ref (o + 15), .int (nI kc), .ref (o + 16)])) : Ct l X yX11_state cX11_state 2 (some FieldType.int) 1 40 0 0 [.ref o, .int tg] μ nx (hq_i X (po_i nx (-11) (fun z => z = μ))) := by
  refine hp_met (by decide) (Nat.le_of_ble_eq_true rfl) ?_
  intro p e s m below meth c ls hx hb hml hr hlocks hown hin hS hH hl
  have hl : lv_has ls 2 [(0, .ref o), (1, .int tg)] := hl
  refine lv_aload_n hx hb dX11_state_0 rfl (lv_at hl 0 rfl) ?_
  refine lv_iload_n hx hb dX11_state_1 rfl (lv_at hl 1 rfl) ?_
  refine hp_kip (hp_runV (As := [.int tg]) (rest := []) hx hb hml hown hS hH (c_X11_isTag l X f_o) M_X11_75 I_X11_isTag V_X11_isTag (ci := 7) rfl rfl f_o rfl hl.1 rfl (Nat.le_of_ble_eq_true rfl) dX11_state_2 ⟨Nat.le_of_ble_eq_true rfl, Nat.le_of_ble_eq_true rfl⟩ ⟨Nat.le_of_ble_eq_true rfl, Nat.le_of_ble_eq_true rfl⟩) hH (fun H locs hH => ?_)
  refine lv_if_ne (tgt := 11) hx hb dX11_state_5 (by decide) (fun c_5 => ?_) (fun c_5 => ?_)
  · have c_5 : (decide (nI 1 ≤ tg ∧ tg ≤ nI n)) = true := nB_n c_5
    exact absurd (of_decide_eq_true c_5) (fun h9 => htg.elim (fun h8 => absurd h9.1 (Int32.not_le.mpr h8)) (fun h8 => absurd h9.2 (Int32.not_le.mpr h8)))
  · have c_5 : (decide (nI 1 ≤ tg ∧ tg ≤ nI n)) = false := nB_0 c_5
    refine lv_bipush (v := (-11)) hx hb dX11_state_8 (by decide) ?_
    exact hp_ri hx hb hr hlocks hS hH (⟨rfl, rfl, rfl⟩) dX11_state_10

set_option maxHeartbeats 4000000 in
set_option maxRecDepth 100000 in
theorem c_X11_state (l : Launch) (X : hp_X) {μ : hp_M} {nx : Nat} {o n tz se kd kl tc sd hd an fm fo kc : Nat} {on : Bool} {i : Nat} {S L : Nat → Nat} (hi : i < n) (hn16 : n ≤ 16) (hS8 : S (i + 1) < 8) (hL1 : 1 ≤ L (i + 1)) (hL3 : L (i + 1) ≤ 3) (f_o : μ o = some (hp_o 7 [.int (nI n), .ref (o + 1), .ref (o + 2), .ref (o + 3), .ref (o + 4), .ref (o + 5), .ref (o + 6), .int (nB on), .int (nI tz), .ref (o + 7), .int (nI se), .ref (o + 8), .ref (o + 9), .int (nI kd), .int (nI kl), .int (nI tc), .ref (o + 10), .int (nI sd), .ref (o + 11), .int (nI hd), .ref (o + 12), .int (nI an), .ref (o + 13), .int (nI fm), .int (nI fo), .ref (o + 14), .ref (o + 15), .int (nI kc), .ref (o + 16)])) (f_4 : μ (o + 4) = some (hp_n X 17 S)) (f_5 : μ (o + 5) = some (hp_n X 17 L)) : Ct l X yX11_state cX11_state 2 (some FieldType.int) 1 40 0 0 [.ref o, .int (nI (i + 1))] μ nx (hq_i X (po_i nx (nI (if S (i + 1) = 2 ∨ S (i + 1) = 5 then S (i + 1) + 10 * (L (i + 1) - 1) else S (i + 1))) (fun z => z = μ))) := by
  refine hp_met (by decide) (Nat.le_of_ble_eq_true rfl) ?_
  intro p e s m below meth c ls hx hb hml hr hlocks hown hin hS hH hl
  have hl : lv_has ls 2 [(0, .ref o), (1, .int (nI (i + 1)))] := hl
  refine lv_aload_n hx hb dX11_state_0 rfl (lv_at hl 0 rfl) ?_
  refine lv_iload_n hx hb dX11_state_1 rfl (lv_at hl 1 rfl) ?_
  refine hp_kip (hp_runV (As := [.int (nI (i + 1))]) (rest := []) hx hb hml hown hS hH (c_X11_isTag l X f_o) M_X11_75 I_X11_isTag V_X11_isTag (ci := 7) rfl rfl f_o rfl hl.1 rfl (Nat.le_of_ble_eq_true rfl) dX11_state_2 ⟨Nat.le_of_ble_eq_true rfl, Nat.le_of_ble_eq_true rfl⟩ ⟨Nat.le_of_ble_eq_true rfl, Nat.le_of_ble_eq_true rfl⟩) hH (fun H locs hH => ?_)
  refine lv_if_ne (tgt := 11) hx hb dX11_state_5 (by decide) (fun c_5 => ?_) (fun c_5 => ?_)
  · have c_5 : (decide (nI 1 ≤ nI (i + 1) ∧ nI (i + 1) ≤ nI n)) = true := nB_n c_5
    refine lv_aload_n hx hb dX11_state_11 rfl (lv_at hl 0 rfl) ?_
    refine hp_get hx hb hown hS.2.1 hH (F_X11_20.use hS) f_o rfl dX11_state_12 ?_
    refine lv_iload_n hx hb dX11_state_15 rfl (lv_at hl 1 rfl) ?_
    refine hp_ialdN hx hb hS.ai hH f_4 (by omega) (by omega) dX11_state_16 ?_
    refine lv_iconst (v := nI 2) hx hb dX11_state_17 (by decide) ?_
    refine lv_icmp_eq (tgt := 31) hx hb dX11_state_18 (by decide) (fun c_18 => ?_) (fun c_18 => ?_)
    · have c_18 : (S (i + 1)) = 2 := (nI_eq (by omega) (by omega)).mp c_18
      refine lv_aload_n hx hb dX11_state_31 rfl (lv_at hl 0 rfl) ?_
      refine hp_get hx hb hown hS.2.1 hH (F_X11_20.use hS) f_o rfl dX11_state_32 ?_
      refine lv_iload_n hx hb dX11_state_35 rfl (lv_at hl 1 rfl) ?_
      refine hp_ialdN hx hb hS.ai hH f_4 (by omega) (by omega) dX11_state_36 ?_
      refine lv_bipush (v := nI 10) hx hb dX11_state_37 (by decide) ?_
      refine lv_aload_n hx hb dX11_state_39 rfl (lv_at hl 0 rfl) ?_
      refine hp_get hx hb hown hS.2.1 hH (F_X11_23.use hS) f_o rfl dX11_state_40 ?_
      refine lv_iload_n hx hb dX11_state_43 rfl (lv_at hl 1 rfl) ?_
      refine hp_ialdN hx hb hS.ai hH f_5 (by omega) (by omega) dX11_state_44 ?_
      refine lv_iconst (v := nI 1) hx hb dX11_state_45 (by decide) ?_
      refine lv_isub hx hb dX11_state_46 ?_
      refine hp_eqi (z := nI ((L (i + 1)) - 1)) (pk_sub (by omega)) ?_
      refine lv_imul hx hb dX11_state_47 ?_
      refine hp_eqi (z := nI (10 * ((L (i + 1)) - 1))) (pk_mul _ _) ?_
      refine lv_iadd hx hb dX11_state_48 ?_
      refine hp_eqi (z := nI ((S (i + 1)) + (10 * ((L (i + 1)) - 1)))) (nI_add _ _) ?_
      refine lv_goto (tgt := 58) hx hb dX11_state_49 (by decide) ?_
      exact hp_ri hx hb hr hlocks hS hH (⟨rfl, congrArg nI (Eq.symm (if_pos (by omega))), rfl⟩) dX11_state_58
    · have c_18 : ¬ ((S (i + 1)) = 2) := fun z => c_18 ((nI_eq (by omega) (by omega)).mpr z)
      refine lv_aload_n hx hb dX11_state_21 rfl (lv_at hl 0 rfl) ?_
      refine hp_get hx hb hown hS.2.1 hH (F_X11_20.use hS) f_o rfl dX11_state_22 ?_
      refine lv_iload_n hx hb dX11_state_25 rfl (lv_at hl 1 rfl) ?_
      refine hp_ialdN hx hb hS.ai hH f_4 (by omega) (by omega) dX11_state_26 ?_
      refine lv_iconst (v := nI 5) hx hb dX11_state_27 (by decide) ?_
      refine lv_icmp_ne (tgt := 52) hx hb dX11_state_28 (by decide) (fun c_28 => ?_) (fun c_28 => ?_)
      · have c_28 : ¬ ((S (i + 1)) = 5) := fun z => c_28 ((nI_eq (by omega) (by omega)).mpr z)
        refine lv_aload_n hx hb dX11_state_52 rfl (lv_at hl 0 rfl) ?_
        refine hp_get hx hb hown hS.2.1 hH (F_X11_20.use hS) f_o rfl dX11_state_53 ?_
        refine lv_iload_n hx hb dX11_state_56 rfl (lv_at hl 1 rfl) ?_
        refine hp_ialdN hx hb hS.ai hH f_4 (by omega) (by omega) dX11_state_57 ?_
        exact hp_ri hx hb hr hlocks hS hH (⟨rfl, congrArg nI (Eq.symm (if_neg (by omega))), rfl⟩) dX11_state_58
      · have c_28 : (S (i + 1)) = 5 := (nI_eq (by omega) (by omega)).mp c_28
        refine lv_aload_n hx hb dX11_state_31 rfl (lv_at hl 0 rfl) ?_
        refine hp_get hx hb hown hS.2.1 hH (F_X11_20.use hS) f_o rfl dX11_state_32 ?_
        refine lv_iload_n hx hb dX11_state_35 rfl (lv_at hl 1 rfl) ?_
        refine hp_ialdN hx hb hS.ai hH f_4 (by omega) (by omega) dX11_state_36 ?_
        refine lv_bipush (v := nI 10) hx hb dX11_state_37 (by decide) ?_
        refine lv_aload_n hx hb dX11_state_39 rfl (lv_at hl 0 rfl) ?_
        refine hp_get hx hb hown hS.2.1 hH (F_X11_23.use hS) f_o rfl dX11_state_40 ?_
        refine lv_iload_n hx hb dX11_state_43 rfl (lv_at hl 1 rfl) ?_
        refine hp_ialdN hx hb hS.ai hH f_5 (by omega) (by omega) dX11_state_44 ?_
        refine lv_iconst (v := nI 1) hx hb dX11_state_45 (by decide) ?_
        refine lv_isub hx hb dX11_state_46 ?_
        refine hp_eqi (z := nI ((L (i + 1)) - 1)) (pk_sub (by omega)) ?_
        refine lv_imul hx hb dX11_state_47 ?_
        refine hp_eqi (z := nI (10 * ((L (i + 1)) - 1))) (pk_mul _ _) ?_
        refine lv_iadd hx hb dX11_state_48 ?_
        refine hp_eqi (z := nI ((S (i + 1)) + (10 * ((L (i + 1)) - 1)))) (nI_add _ _) ?_
        refine lv_goto (tgt := 58) hx hb dX11_state_49 (by decide) ?_
        exact hp_ri hx hb hr hlocks hS hH (⟨rfl, congrArg nI (Eq.symm (if_pos (by omega))), rfl⟩) dX11_state_58
  · have c_5 : (decide (nI 1 ≤ nI (i + 1) ∧ nI (i + 1) ≤ nI n)) = false := nB_0 c_5
    exact absurd c_5 (by rw [decide_eq_true (⟨(nI_leI (by omega) (by omega)).mpr (by omega), (nI_leI (by omega) (by omega)).mpr (by omega)⟩ : nI 1 ≤ nI (i + 1) ∧ nI (i + 1) ≤ nI n)]; decide)

set_option maxHeartbeats 4000000 in
set_option maxRecDepth 100000 in
theorem c_X11_out_un (l : Launch) (X : hp_X) {μ : hp_M} {nx : Nat} {o n tz se kd kl tc sd hd an fm fo kc : Nat} {on : Bool} {tg : Int32} (htg : tg < nI 1 ∨ nI n < tg) {is : Bool} (f_o : μ o = some (hp_o 7 [.int (nI n), .ref (o + 1), .ref (o + 2), .ref (o + 3), .ref (o + 4), .ref (o + 5), .ref (o + 6), .int (nB on), .int (nI tz), .ref (o + 7), .int (nI se), .ref (o + 8), .ref (o + 9), .int (nI kd), .int (nI kl), .int (nI tc), .ref (o + 10), .int (nI sd), .ref (o + 11), .int (nI hd), .ref (o + 12), .int (nI an), .ref (o + 13), .int (nI fm), .int (nI fo), .ref (o + 14), .ref (o + 15), .int (nI kc), .ref (o + 16)])) : Ct l X yX11_out cX11_out 3 (some FieldType.int) 1 40 0 0 [.ref o, .int tg, .int (nB is)] μ nx (hq_i X (po_i nx (-11) (fun z => z = μ))) := by
  refine hp_met (by decide) (Nat.le_of_ble_eq_true rfl) ?_
  intro p e s m below meth c ls hx hb hml hr hlocks hown hin hS hH hl
  have hl : lv_has ls 3 [(0, .ref o), (1, .int tg), (2, .int (nB is))] := hl
  refine lv_aload_n hx hb dX11_out_0 rfl (lv_at hl 0 rfl) ?_
  refine lv_iload_n hx hb dX11_out_1 rfl (lv_at hl 1 rfl) ?_
  refine hp_kip (hp_runV (As := [.int tg]) (rest := []) hx hb hml hown hS hH (c_X11_isTag l X f_o) M_X11_75 I_X11_isTag V_X11_isTag (ci := 7) rfl rfl f_o rfl hl.1 rfl (Nat.le_of_ble_eq_true rfl) dX11_out_2 ⟨Nat.le_of_ble_eq_true rfl, Nat.le_of_ble_eq_true rfl⟩ ⟨Nat.le_of_ble_eq_true rfl, Nat.le_of_ble_eq_true rfl⟩) hH (fun H locs hH => ?_)
  refine lv_if_ne (tgt := 11) hx hb dX11_out_5 (by decide) (fun c_5 => ?_) (fun c_5 => ?_)
  · have c_5 : (decide (nI 1 ≤ tg ∧ tg ≤ nI n)) = true := nB_n c_5
    exact absurd (of_decide_eq_true c_5) (fun h9 => htg.elim (fun h8 => absurd h9.1 (Int32.not_le.mpr h8)) (fun h8 => absurd h9.2 (Int32.not_le.mpr h8)))
  · have c_5 : (decide (nI 1 ≤ tg ∧ tg ≤ nI n)) = false := nB_0 c_5
    refine lv_bipush (v := (-11)) hx hb dX11_out_8 (by decide) ?_
    exact hp_ri hx hb hr hlocks hS hH (⟨rfl, rfl, rfl⟩) dX11_out_10

set_option maxHeartbeats 4000000 in
set_option maxRecDepth 100000 in
theorem c_X11_out_same (l : Launch) (X : hp_X) {μ : hp_M} {nx : Nat} {o n tz se kd kl tc sd hd an fm fo kc : Nat} {on : Bool} {i : Nat} {is : Bool} {G : Nat → Bool} (hi : i < n) (hn16 : n ≤ 16) (hsame : G (i + 1) = is) (f_o : μ o = some (hp_o 7 [.int (nI n), .ref (o + 1), .ref (o + 2), .ref (o + 3), .ref (o + 4), .ref (o + 5), .ref (o + 6), .int (nB on), .int (nI tz), .ref (o + 7), .int (nI se), .ref (o + 8), .ref (o + 9), .int (nI kd), .int (nI kl), .int (nI tc), .ref (o + 10), .int (nI sd), .ref (o + 11), .int (nI hd), .ref (o + 12), .int (nI an), .ref (o + 13), .int (nI fm), .int (nI fo), .ref (o + 14), .ref (o + 15), .int (nI kc), .ref (o + 16)])) (f_3 : μ (o + 3) = some (hp_b X 17 G)) : Ct l X yX11_out cX11_out 3 (some FieldType.int) 1 40 0 0 [.ref o, .int (nI (i + 1)), .int (nB is)] μ nx (hq_i X (po_i nx (nI 0) (fun z => z = μ))) := by
  refine hp_met (by decide) (Nat.le_of_ble_eq_true rfl) ?_
  intro p e s m below meth c ls hx hb hml hr hlocks hown hin hS hH hl
  have hl : lv_has ls 3 [(0, .ref o), (1, .int (nI (i + 1))), (2, .int (nB is))] := hl
  refine lv_aload_n hx hb dX11_out_0 rfl (lv_at hl 0 rfl) ?_
  refine lv_iload_n hx hb dX11_out_1 rfl (lv_at hl 1 rfl) ?_
  refine hp_kip (hp_runV (As := [.int (nI (i + 1))]) (rest := []) hx hb hml hown hS hH (c_X11_isTag l X f_o) M_X11_75 I_X11_isTag V_X11_isTag (ci := 7) rfl rfl f_o rfl hl.1 rfl (Nat.le_of_ble_eq_true rfl) dX11_out_2 ⟨Nat.le_of_ble_eq_true rfl, Nat.le_of_ble_eq_true rfl⟩ ⟨Nat.le_of_ble_eq_true rfl, Nat.le_of_ble_eq_true rfl⟩) hH (fun H locs hH => ?_)
  refine lv_if_ne (tgt := 11) hx hb dX11_out_5 (by decide) (fun c_5 => ?_) (fun c_5 => ?_)
  · have c_5 : (decide (nI 1 ≤ nI (i + 1) ∧ nI (i + 1) ≤ nI n)) = true := nB_n c_5
    refine lv_aload_n hx hb dX11_out_11 rfl (lv_at hl 0 rfl) ?_
    refine hp_get hx hb hown hS.2.1 hH (F_X11_16.use hS) f_o rfl dX11_out_12 ?_
    refine lv_iload_n hx hb dX11_out_15 rfl (lv_at hl 1 rfl) ?_
    refine hp_zald hx hb hS.ab hH f_3 (by omega) (by omega) dX11_out_16 ?_
    refine lv_iload_n hx hb dX11_out_17 rfl (lv_at hl 2 rfl) ?_
    refine lv_icmp_ne (tgt := 23) hx hb dX11_out_18 (by decide) (fun c_18 => ?_) (fun c_18 => ?_)
    · have c_18 : ¬ ((G (i + 1)) = is) := fun z => c_18 (nB_eq.mpr z)
      exact absurd hsame c_18
    · have c_18 : (G (i + 1)) = is := nB_eq.mp c_18
      refine lv_iconst (v := nI 0) hx hb dX11_out_21 (by decide) ?_
      exact hp_ri hx hb hr hlocks hS hH (⟨rfl, rfl, rfl⟩) dX11_out_22
  · have c_5 : (decide (nI 1 ≤ nI (i + 1) ∧ nI (i + 1) ≤ nI n)) = false := nB_0 c_5
    exact absurd c_5 (by rw [decide_eq_true (⟨(nI_leI (by omega) (by omega)).mpr (by omega), (nI_leI (by omega) (by omega)).mpr (by omega)⟩ : nI 1 ≤ nI (i + 1) ∧ nI (i + 1) ≤ nI n)]; decide)

set_option maxHeartbeats 4000000 in
set_option maxRecDepth 100000 in
theorem c_X11_out (l : Launch) (X : hp_X) {μ : hp_M} {nx : Nat} {o n tz se kd kl tc sd hd an fm fo kc : Nat} {on : Bool} {i : Nat} {is : Bool} {G : Nat → Bool} {S : Nat → Nat} (hi : i < n) (hn16 : n ≤ 16) (hsame : ¬ G (i + 1) = is) (f_o : μ o = some (hp_o 7 [.int (nI n), .ref (o + 1), .ref (o + 2), .ref (o + 3), .ref (o + 4), .ref (o + 5), .ref (o + 6), .int (nB on), .int (nI tz), .ref (o + 7), .int (nI se), .ref (o + 8), .ref (o + 9), .int (nI kd), .int (nI kl), .int (nI tc), .ref (o + 10), .int (nI sd), .ref (o + 11), .int (nI hd), .ref (o + 12), .int (nI an), .ref (o + 13), .int (nI fm), .int (nI fo), .ref (o + 14), .ref (o + 15), .int (nI kc), .ref (o + 16)])) (f_3 : μ (o + 3) = some (hp_b X 17 G)) (f_4 : μ (o + 4) = some (hp_n X 17 S)) : Ct l X yX11_out cX11_out 3 (some FieldType.int) 1 40 0 0 [.ref o, .int (nI (i + 1)), .int (nB is)] μ nx (hq_i X (po_i nx (nI 1) (fun z => z (o + 3) = some (hp_b X 17 (setB G (i + 1) is)) ∧ z (o + 4) = some (hp_n X 17 (setN S (i + 1) (if on = true ∧ is = false then 1 else 0))) ∧ hp_eqM [3, 4] o z μ))) := by
  refine hp_met (by decide) (Nat.le_of_ble_eq_true rfl) ?_
  intro p e s m below meth c ls hx hb hml hr hlocks hown hin hS hH hl
  have hl : lv_has ls 3 [(0, .ref o), (1, .int (nI (i + 1))), (2, .int (nB is))] := hl
  have fr : hp_eqM [3, 4] o μ μ := fun _ _ => rfl
  refine lv_aload_n hx hb dX11_out_0 rfl (lv_at hl 0 rfl) ?_
  refine lv_iload_n hx hb dX11_out_1 rfl (lv_at hl 1 rfl) ?_
  refine hp_kip (hp_runV (As := [.int (nI (i + 1))]) (rest := []) hx hb hml hown hS hH (c_X11_isTag l X f_o) M_X11_75 I_X11_isTag V_X11_isTag (ci := 7) rfl rfl f_o rfl hl.1 rfl (Nat.le_of_ble_eq_true rfl) dX11_out_2 ⟨Nat.le_of_ble_eq_true rfl, Nat.le_of_ble_eq_true rfl⟩ ⟨Nat.le_of_ble_eq_true rfl, Nat.le_of_ble_eq_true rfl⟩) hH (fun H locs hH => ?_)
  refine lv_if_ne (tgt := 11) hx hb dX11_out_5 (by decide) (fun c_5 => ?_) (fun c_5 => ?_)
  · have c_5 : (decide (nI 1 ≤ nI (i + 1) ∧ nI (i + 1) ≤ nI n)) = true := nB_n c_5
    refine lv_aload_n hx hb dX11_out_11 rfl (lv_at hl 0 rfl) ?_
    refine hp_get hx hb hown hS.2.1 hH (F_X11_16.use hS) f_o rfl dX11_out_12 ?_
    refine lv_iload_n hx hb dX11_out_15 rfl (lv_at hl 1 rfl) ?_
    refine hp_zald hx hb hS.ab hH f_3 (by omega) (by omega) dX11_out_16 ?_
    refine lv_iload_n hx hb dX11_out_17 rfl (lv_at hl 2 rfl) ?_
    refine lv_icmp_ne (tgt := 23) hx hb dX11_out_18 (by decide) (fun c_18 => ?_) (fun c_18 => ?_)
    · have c_18 : ¬ ((G (i + 1)) = is) := fun z => c_18 (nB_eq.mpr z)
      refine lv_aload_n hx hb dX11_out_23 rfl (lv_at hl 0 rfl) ?_
      refine hp_get hx hb hown hS.2.1 hH (F_X11_16.use hS) f_o rfl dX11_out_24 ?_
      refine lv_iload_n hx hb dX11_out_27 rfl (lv_at hl 1 rfl) ?_
      refine lv_iload_n hx hb dX11_out_28 rfl (lv_at hl 2 rfl) ?_
      refine hp_zast hx hb hS.ab hH f_3 (by omega) (by omega) dX11_out_29 (fun H locs μ1 fz fn hH => ?_)
      have f_o := (fn _ (by omega)).trans f_o
      have f_4 := (fn _ (by omega)).trans f_4
      have f_3 : μ1 (o + 3) = some (hp_b X 17 (setB G (i + 1) is)) := fz
      have fr := hp_eqM.put (k := 3) fr (by decide) fn
      clear fz fn
      refine lv_aload_n hx hb dX11_out_30 rfl (lv_at hl 0 rfl) ?_
      refine hp_get hx hb hown hS.2.1 hH (F_X11_20.use hS) f_o rfl dX11_out_31 ?_
      refine lv_iload_n hx hb dX11_out_34 rfl (lv_at hl 1 rfl) ?_
      refine lv_iload_n hx hb dX11_out_35 rfl (lv_at hl 2 rfl) ?_
      refine lv_if_ne (tgt := 46) hx hb dX11_out_36 (by decide) (fun c_36 => ?_) (fun c_36 => ?_)
      · have c_36 : is = true := nB_n c_36
        refine lv_iconst (v := nI 0) hx hb dX11_out_46 (by decide) ?_
        refine lv_goto (tgt := 51) hx hb dX11_out_47 (by decide) ?_
        refine hp_iastN hx hb hS.ai hH f_4 (by omega) (by omega) dX11_out_51 (fun H locs μ1 fz fn hH => ?_)
        have f_o := (fn _ (by omega)).trans f_o
        have f_3 := (fn _ (by omega)).trans f_3
        have f_4 : μ1 (o + 4) = some (hp_n X 17 (setN S (i + 1) 0)) := fz
        have fr := hp_eqM.put (k := 4) fr (by decide) fn
        clear fz fn
        refine lv_iconst (v := nI 1) hx hb dX11_out_52 (by decide) ?_
        have f_4 := f_4.trans (congrArg (fun g => some (hp_n X 17 g)) (show setN S (i + 1) 0 = setN S (i + 1) (if on = true ∧ is = false then 1 else 0) from by rw [if_neg (by simp [c_36])]))
        exact hp_ri hx hb hr hlocks hS hH (⟨rfl, rfl, f_3, f_4, fr⟩) dX11_out_53
      · have c_36 : is = false := nB_0 c_36
        refine lv_aload_n hx hb dX11_out_39 rfl (lv_at hl 0 rfl) ?_
        refine hp_get hx hb hown hS.2.1 hH (F_X11_29.use hS) f_o rfl dX11_out_40 ?_
        refine lv_if_ne (tgt := 50) hx hb dX11_out_43 (by decide) (fun c_43 => ?_) (fun c_43 => ?_)
        · have c_43 : on = true := nB_n c_43
          refine lv_iconst (v := nI 1) hx hb dX11_out_50 (by decide) ?_
          refine hp_iastN hx hb hS.ai hH f_4 (by omega) (by omega) dX11_out_51 (fun H locs μ1 fz fn hH => ?_)
          have f_o := (fn _ (by omega)).trans f_o
          have f_3 := (fn _ (by omega)).trans f_3
          have f_4 : μ1 (o + 4) = some (hp_n X 17 (setN S (i + 1) 1)) := fz
          have fr := hp_eqM.put (k := 4) fr (by decide) fn
          clear fz fn
          refine lv_iconst (v := nI 1) hx hb dX11_out_52 (by decide) ?_
          have f_4 := f_4.trans (congrArg (fun g => some (hp_n X 17 g)) (show setN S (i + 1) 1 = setN S (i + 1) (if on = true ∧ is = false then 1 else 0) from by rw [if_pos ⟨c_43, c_36⟩]))
          exact hp_ri hx hb hr hlocks hS hH (⟨rfl, rfl, f_3, f_4, fr⟩) dX11_out_53
        · have c_43 : on = false := nB_0 c_43
          refine lv_iconst (v := nI 0) hx hb dX11_out_46 (by decide) ?_
          refine lv_goto (tgt := 51) hx hb dX11_out_47 (by decide) ?_
          refine hp_iastN hx hb hS.ai hH f_4 (by omega) (by omega) dX11_out_51 (fun H locs μ1 fz fn hH => ?_)
          have f_o := (fn _ (by omega)).trans f_o
          have f_3 := (fn _ (by omega)).trans f_3
          have f_4 : μ1 (o + 4) = some (hp_n X 17 (setN S (i + 1) 0)) := fz
          have fr := hp_eqM.put (k := 4) fr (by decide) fn
          clear fz fn
          refine lv_iconst (v := nI 1) hx hb dX11_out_52 (by decide) ?_
          have f_4 := f_4.trans (congrArg (fun g => some (hp_n X 17 g)) (show setN S (i + 1) 0 = setN S (i + 1) (if on = true ∧ is = false then 1 else 0) from by rw [if_neg (by simp [c_36, c_43])]))
          exact hp_ri hx hb hr hlocks hS hH (⟨rfl, rfl, f_3, f_4, fr⟩) dX11_out_53
    · have c_18 : (G (i + 1)) = is := nB_eq.mp c_18
      exact absurd c_18 hsame
  · have c_5 : (decide (nI 1 ≤ nI (i + 1) ∧ nI (i + 1) ≤ nI n)) = false := nB_0 c_5
    exact absurd c_5 (by rw [decide_eq_true (⟨(nI_leI (by omega) (by omega)).mpr (by omega), (nI_leI (by omega) (by omega)).mpr (by omega)⟩ : nI 1 ≤ nI (i + 1) ∧ nI (i + 1) ≤ nI n)]; decide)

set_option maxHeartbeats 4000000 in
set_option maxRecDepth 100000 in
theorem c_X11_field_same (l : Launch) (X : hp_X) {μ : hp_M} {nx : Nat} {o n tz se kd kl tc sd hd an fm fo kc : Nat} {on : Bool} {is : Bool} (hsame : on = is) (f_o : μ o = some (hp_o 7 [.int (nI n), .ref (o + 1), .ref (o + 2), .ref (o + 3), .ref (o + 4), .ref (o + 5), .ref (o + 6), .int (nB on), .int (nI tz), .ref (o + 7), .int (nI se), .ref (o + 8), .ref (o + 9), .int (nI kd), .int (nI kl), .int (nI tc), .ref (o + 10), .int (nI sd), .ref (o + 11), .int (nI hd), .ref (o + 12), .int (nI an), .ref (o + 13), .int (nI fm), .int (nI fo), .ref (o + 14), .ref (o + 15), .int (nI kc), .ref (o + 16)])) : Ct l X yX11_field cX11_field 3 (some FieldType.int) 1 40 0 0 [.ref o, .int (nB is)] μ nx (hq_i X (po_i nx (nI 0) (fun z => z = μ))) := by
  refine hp_met (by decide) (Nat.le_of_ble_eq_true rfl) ?_
  intro p e s m below meth c ls hx hb hml hr hlocks hown hin hS hH hl
  have hl : lv_has ls 3 [(0, .ref o), (1, .int (nB is))] := hl
  refine lv_aload_n hx hb dX11_field_0 rfl (lv_at hl 0 rfl) ?_
  refine hp_get hx hb hown hS.2.1 hH (F_X11_29.use hS) f_o rfl dX11_field_1 ?_
  refine lv_iload_n hx hb dX11_field_4 rfl (lv_at hl 1 rfl) ?_
  refine lv_icmp_ne (tgt := 10) hx hb dX11_field_5 (by decide) (fun c_5 => ?_) (fun c_5 => ?_)
  · have c_5 : ¬ (on = is) := fun z => c_5 (nB_eq.mpr z)
    exact absurd hsame c_5
  · have c_5 : on = is := nB_eq.mp c_5
    refine lv_iconst (v := nI 0) hx hb dX11_field_8 (by decide) ?_
    exact hp_ri hx hb hr hlocks hS hH (⟨rfl, rfl, rfl⟩) dX11_field_9

set_option maxHeartbeats 4000000 in
set_option maxRecDepth 100000 in
theorem c_X11_field (l : Launch) (X : hp_X) {μ : hp_M} {nx : Nat} {o n tz se kd kl tc sd hd an fm fo kc : Nat} {on : Bool} {is : Bool} {G : Nat → Bool} {S : Nat → Nat} (hn16 : n ≤ 16) (hsame : ¬ on = is) (f_o : μ o = some (hp_o 7 [.int (nI n), .ref (o + 1), .ref (o + 2), .ref (o + 3), .ref (o + 4), .ref (o + 5), .ref (o + 6), .int (nB on), .int (nI tz), .ref (o + 7), .int (nI se), .ref (o + 8), .ref (o + 9), .int (nI kd), .int (nI kl), .int (nI tc), .ref (o + 10), .int (nI sd), .ref (o + 11), .int (nI hd), .ref (o + 12), .int (nI an), .ref (o + 13), .int (nI fm), .int (nI fo), .ref (o + 14), .ref (o + 15), .int (nI kc), .ref (o + 16)])) (f_3 : μ (o + 3) = some (hp_b X 17 G)) (f_4 : μ (o + 4) = some (hp_n X 17 S)) : Ct l X yX11_field cX11_field 3 (some FieldType.int) 1 40 0 0 [.ref o, .int (nB is)] μ nx (hq_i X (po_i nx (nI 1) (fun z => z o = some (hp_o 7 [.int (nI n), .ref (o + 1), .ref (o + 2), .ref (o + 3), .ref (o + 4), .ref (o + 5), .ref (o + 6), .int (nB is), .int (nI tz), .ref (o + 7), .int (nI se), .ref (o + 8), .ref (o + 9), .int (nI kd), .int (nI kl), .int (nI tc), .ref (o + 10), .int (nI sd), .ref (o + 11), .int (nI hd), .ref (o + 12), .int (nI an), .ref (o + 13), .int (nI fm), .int (nI fo), .ref (o + 14), .ref (o + 15), .int (nI kc), .ref (o + 16)]) ∧ z (o + 4) = some (hp_n X 17 (fdN is G S (n + 1))) ∧ hp_eqM [0, 4] o z μ))) := by
  refine hp_met (by decide) (Nat.le_of_ble_eq_true rfl) ?_
  intro p e s m below meth c ls hx hb hml hr hlocks hown hin hS hH hl
  have hl : lv_has ls 3 [(0, .ref o), (1, .int (nB is))] := hl
  have fr : hp_eqM [0, 4] o μ μ := fun _ _ => rfl
  refine lv_aload_n hx hb dX11_field_0 rfl (lv_at hl 0 rfl) ?_
  refine hp_get hx hb hown hS.2.1 hH (F_X11_29.use hS) f_o rfl dX11_field_1 ?_
  refine lv_iload_n hx hb dX11_field_4 rfl (lv_at hl 1 rfl) ?_
  refine lv_icmp_ne (tgt := 10) hx hb dX11_field_5 (by decide) (fun c_5 => ?_) (fun c_5 => ?_)
  · have c_5 : ¬ (on = is) := fun z => c_5 (nB_eq.mpr z)
    refine lv_aload_n hx hb dX11_field_10 rfl (lv_at hl 0 rfl) ?_
    refine lv_iload_n hx hb dX11_field_11 rfl (lv_at hl 1 rfl) ?_
    refine hp_put hx hb hown hS.2.1 hH (P_X11_29.use hS) f_o (nB_nar _) (nB_fit _) (Nat.le_of_ble_eq_true rfl) dX11_field_12 (fun H locs μ1 fz fn hH => ?_)
    have f_3 := (fn _ (by omega)).trans f_3
    have f_4 := (fn _ (by omega)).trans f_4
    have f_o : μ1 o = some (hp_o 7 [.int (nI n), .ref (o + 1), .ref (o + 2), .ref (o + 3), .ref (o + 4), .ref (o + 5), .ref (o + 6), .int (nB is), .int (nI tz), .ref (o + 7), .int (nI se), .ref (o + 8), .ref (o + 9), .int (nI kd), .int (nI kl), .int (nI tc), .ref (o + 10), .int (nI sd), .ref (o + 11), .int (nI hd), .ref (o + 12), .int (nI an), .ref (o + 13), .int (nI fm), .int (nI fo), .ref (o + 14), .ref (o + 15), .int (nI kc), .ref (o + 16)]) := fz
    have fr := hp_eqM.put (k := 0) fr (by decide) fn
    clear fz fn
    refine lv_iconst (v := nI 1) hx hb dX11_field_15 (by decide) ?_
    refine lv_istore_n (lv' := [(2, .int (nI 1)), (0, .ref o), (1, .int (nB is))]) hx hb dX11_field_16 rfl hl (by decide) rfl (fun ls hl => ?_)
    have f_4 := f_4.trans (congrArg (fun g => some (hp_n X 17 g)) (show S = fdN is G S 1 from fdN_1 _ _ _))
    have lp_17 : ∀ (kk : Nat) (i : Nat), (1 ≤ i) → (i ≤ n + 1) → (n + 1 - i) < kk → ∀ (μ1 : hp_M) (H : Heap) (locs : List Loc) (ls : Array Slot), (μ1 o = some (hp_o 7 [.int (nI n), .ref (o + 1), .ref (o + 2), .ref (o + 3), .ref (o + 4), .ref (o + 5), .ref (o + 6), .int (nB is), .int (nI tz), .ref (o + 7), .int (nI se), .ref (o + 8), .ref (o + 9), .int (nI kd), .int (nI kl), .int (nI tc), .ref (o + 10), .int (nI sd), .ref (o + 11), .int (nI hd), .ref (o + 12), .int (nI an), .ref (o + 13), .int (nI fm), .int (nI fo), .ref (o + 14), .ref (o + 15), .int (nI kc), .ref (o + 16)])) → (μ1 (o + 3) = some (hp_b X 17 G)) → (μ1 (o + 4) = some (hp_n X 17 (fdN is G S i))) → hp_eqM [0, 4] o μ1 μ → hp_w X cls μ1 nx H locs → lv_has ls 3 [(0, .ref o), (1, .int (nB is)), (2, .int (nI i))] → W p l e { frames := 1, cells := 0, slots := 0, locals := 40 } s m [.ref o, .int (nB is)].toArray below meth c H locs 0 0 (MQ below (hq_i X (po_i nx (nI 1) (fun z => z o = some (hp_o 7 [.int (nI n), .ref (o + 1), .ref (o + 2), .ref (o + 3), .ref (o + 4), .ref (o + 5), .ref (o + 6), .int (nB is), .int (nI tz), .ref (o + 7), .int (nI se), .ref (o + 8), .ref (o + 9), .int (nI kd), .int (nI kl), .int (nI tc), .ref (o + 10), .int (nI sd), .ref (o + 11), .int (nI hd), .ref (o + 12), .int (nI an), .ref (o + 13), .int (nI fm), .int (nI fo), .ref (o + 14), .ref (o + 15), .int (nI kc), .ref (o + 16)]) ∧ z (o + 4) = some (hp_n X 17 (fdN is G S (n + 1))) ∧ hp_eqM [0, 4] o z μ))) [.ref o, .int (nB is)].toArray s 0 0 (hp_A X)) (F0 m 17 ls []) := by
      intro kk
      induction kk with
      | zero =>
        intro i hi1 hi hkk
        exact absurd hkk (Nat.not_lt_zero _)
      | succ kk ih =>
        intro i hi1 hi hkk μ1 H locs ls f_o f_3 f_4 fr hH hl
        refine lv_iload_n hx hb dX11_field_17 rfl (lv_at hl 2 rfl) ?_
        refine lv_aload_n hx hb dX11_field_18 rfl (lv_at hl 0 rfl) ?_
        refine hp_get hx hb hown hS.2.1 hH (F_X11_67.use hS) f_o rfl dX11_field_19 ?_
        refine lv_icmp_gt (tgt := 55) hx hb dX11_field_22 (by decide) (fun c_22 => ?_) (fun c_22 => ?_)
        · have c_22 : n < i := (nI_ltI (by omega) (by omega)).mp c_22
          refine lv_iconst (v := nI 1) hx hb dX11_field_55 (by decide) ?_
          have ei : n + 1 = i := by omega
          subst ei
          exact hp_ri hx hb hr hlocks hS hH (⟨rfl, rfl, f_o, f_4, fr⟩) dX11_field_56
        · have c_22 : ¬ (n < i) := fun z => c_22 ((nI_ltI (by omega) (by omega)).mpr z)
          refine lv_aload_n hx hb dX11_field_25 rfl (lv_at hl 0 rfl) ?_
          refine hp_get hx hb hown hS.2.1 hH (F_X11_20.use hS) f_o rfl dX11_field_26 ?_
          refine lv_iload_n hx hb dX11_field_29 rfl (lv_at hl 2 rfl) ?_
          refine lv_iload_n hx hb dX11_field_30 rfl (lv_at hl 1 rfl) ?_
          refine lv_if_eq (tgt := 47) hx hb dX11_field_31 (by decide) (fun c_31 => ?_) (fun c_31 => ?_)
          · have c_31 : is = false := nB_0 c_31
            refine lv_iconst (v := nI 0) hx hb dX11_field_47 (by decide) ?_
            refine hp_iastN hx hb hS.ai hH f_4 (by omega) (by omega) dX11_field_48 (fun H locs μ1 fz fn hH => ?_)
            have f_o := (fn _ (by omega)).trans f_o
            have f_3 := (fn _ (by omega)).trans f_3
            have f_4 : μ1 (o + 4) = some (hp_n X 17 (setN (fdN is G S i) i 0)) := fz
            have fr := hp_eqM.put (k := 4) fr (by decide) fn
            clear fz fn
            refine lv_iinc (v := nI (i + 1)) (lv' := [(2, .int (nI (i + 1))), (0, .ref o), (1, .int (nB is))]) hx hb dX11_field_49 hl (k := 2) rfl (nI_add _ 1) (by decide) rfl (fun ls hl => ?_)
            refine lv_goto (tgt := 17) hx hb dX11_field_52 (by decide) ?_
            have f_4 := f_4.trans (congrArg (fun g => some (hp_n X 17 g)) (show setN (fdN is G S i) i 0 = fdN is G S (i + 1) from fdN_s _ _ _ hi1 (by rw [if_neg (by simp [c_31])])))
            exact ih (i + 1) (by omega) (by omega) (by omega) _ _ _ _ f_o f_3 f_4 fr hH (lv_sub hl [1, 2, 0] rfl)
          · have c_31 : is = true := nB_n c_31
            refine lv_aload_n hx hb dX11_field_34 rfl (lv_at hl 0 rfl) ?_
            refine hp_get hx hb hown hS.2.1 hH (F_X11_16.use hS) f_o rfl dX11_field_35 ?_
            refine lv_iload_n hx hb dX11_field_38 rfl (lv_at hl 2 rfl) ?_
            refine hp_zald hx hb hS.ab hH f_3 (by omega) (by omega) dX11_field_39 ?_
            refine lv_if_ne (tgt := 47) hx hb dX11_field_40 (by decide) (fun c_40 => ?_) (fun c_40 => ?_)
            · have c_40 : (G i) = true := nB_n c_40
              refine lv_iconst (v := nI 0) hx hb dX11_field_47 (by decide) ?_
              refine hp_iastN hx hb hS.ai hH f_4 (by omega) (by omega) dX11_field_48 (fun H locs μ1 fz fn hH => ?_)
              have f_o := (fn _ (by omega)).trans f_o
              have f_3 := (fn _ (by omega)).trans f_3
              have f_4 : μ1 (o + 4) = some (hp_n X 17 (setN (fdN is G S i) i 0)) := fz
              have fr := hp_eqM.put (k := 4) fr (by decide) fn
              clear fz fn
              refine lv_iinc (v := nI (i + 1)) (lv' := [(2, .int (nI (i + 1))), (0, .ref o), (1, .int (nB is))]) hx hb dX11_field_49 hl (k := 2) rfl (nI_add _ 1) (by decide) rfl (fun ls hl => ?_)
              refine lv_goto (tgt := 17) hx hb dX11_field_52 (by decide) ?_
              have f_4 := f_4.trans (congrArg (fun g => some (hp_n X 17 g)) (show setN (fdN is G S i) i 0 = fdN is G S (i + 1) from fdN_s _ _ _ hi1 (by rw [if_neg (by simp [c_31, c_40])])))
              exact ih (i + 1) (by omega) (by omega) (by omega) _ _ _ _ f_o f_3 f_4 fr hH (lv_sub hl [1, 2, 0] rfl)
            · have c_40 : (G i) = false := nB_0 c_40
              refine lv_iconst (v := nI 1) hx hb dX11_field_43 (by decide) ?_
              refine lv_goto (tgt := 48) hx hb dX11_field_44 (by decide) ?_
              refine hp_iastN hx hb hS.ai hH f_4 (by omega) (by omega) dX11_field_48 (fun H locs μ1 fz fn hH => ?_)
              have f_o := (fn _ (by omega)).trans f_o
              have f_3 := (fn _ (by omega)).trans f_3
              have f_4 : μ1 (o + 4) = some (hp_n X 17 (setN (fdN is G S i) i 1)) := fz
              have fr := hp_eqM.put (k := 4) fr (by decide) fn
              clear fz fn
              refine lv_iinc (v := nI (i + 1)) (lv' := [(2, .int (nI (i + 1))), (0, .ref o), (1, .int (nB is))]) hx hb dX11_field_49 hl (k := 2) rfl (nI_add _ 1) (by decide) rfl (fun ls hl => ?_)
              refine lv_goto (tgt := 17) hx hb dX11_field_52 (by decide) ?_
              have f_4 := f_4.trans (congrArg (fun g => some (hp_n X 17 g)) (show setN (fdN is G S i) i 1 = fdN is G S (i + 1) from fdN_s _ _ _ hi1 (by rw [if_pos ⟨c_31, c_40⟩])))
              exact ih (i + 1) (by omega) (by omega) (by omega) _ _ _ _ f_o f_3 f_4 fr hH (lv_sub hl [1, 2, 0] rfl)
    exact lp_17 ((n + 1 - 1) + 1) 1 (Nat.le_refl _) (by omega) (Nat.lt_succ_self _) _ _ _ _ f_o f_3 f_4 fr hH (lv_sub hl [1, 2, 0] rfl)
  · have c_5 : on = is := nB_eq.mp c_5
    exact absurd c_5 hsame

set_option maxHeartbeats 4000000 in
set_option maxRecDepth 100000 in
theorem c_X11_answer (l : Launch) (X : hp_X) {μ : hp_M} {nx : Nat} {o n tz se kd kl tc sd hd an fm fo kc : Nat} {on : Bool} {j : Nat} {ab : Nat → Nat} (hj : j < an) (han : an ≤ 64) (f_o : μ o = some (hp_o 7 [.int (nI n), .ref (o + 1), .ref (o + 2), .ref (o + 3), .ref (o + 4), .ref (o + 5), .ref (o + 6), .int (nB on), .int (nI tz), .ref (o + 7), .int (nI se), .ref (o + 8), .ref (o + 9), .int (nI kd), .int (nI kl), .int (nI tc), .ref (o + 10), .int (nI sd), .ref (o + 11), .int (nI hd), .ref (o + 12), .int (nI an), .ref (o + 13), .int (nI fm), .int (nI fo), .ref (o + 14), .ref (o + 15), .int (nI kc), .ref (o + 16)])) (f_13 : μ (o + 13) = some (hp_n X 64 ab)) : Ct l X yX11_answer cX11_answer 2 (some FieldType.int) 0 0 0 0 [.ref o, .int (nI j)] μ nx (hq_i X (po_i nx (nI (ab j)) (fun z => z = μ))) := by
  refine hp_met (by decide) (Nat.le_of_ble_eq_true rfl) ?_
  intro p e s m below meth c ls hx hb hml hr hlocks hown hin hS hH hl
  have hl : lv_has ls 2 [(0, .ref o), (1, .int (nI j))] := hl
  refine lv_iload_n hx hb dX11_answer_0 rfl (lv_at hl 1 rfl) ?_
  refine lv_if_lt (tgt := 12) hx hb dX11_answer_1 (by decide) (fun c_1 => ?_) (fun c_1 => ?_)
  · exact absurd c_1 (nI_pos (by omega))
  · refine lv_iload_n hx hb dX11_answer_4 rfl (lv_at hl 1 rfl) ?_
    refine lv_aload_n hx hb dX11_answer_5 rfl (lv_at hl 0 rfl) ?_
    refine hp_get hx hb hown hS.2.1 hH (F_X11_151.use hS) f_o rfl dX11_answer_6 ?_
    refine lv_icmp_lt (tgt := 16) hx hb dX11_answer_9 (by decide) (fun c_9 => ?_) (fun c_9 => ?_)
    · have c_9 : j < an := (nI_ltI (by omega) (by omega)).mp c_9
      refine lv_aload_n hx hb dX11_answer_16 rfl (lv_at hl 0 rfl) ?_
      refine hp_get hx hb hown hS.2.1 hH (F_X11_51.use hS) f_o rfl dX11_answer_17 ?_
      refine lv_iload_n hx hb dX11_answer_20 rfl (lv_at hl 1 rfl) ?_
      refine hp_ialdN hx hb hS.ai hH f_13 (by omega) (by omega) dX11_answer_21 ?_
      exact hp_ri hx hb hr hlocks hS hH (⟨rfl, rfl, rfl⟩) dX11_answer_22
    · have c_9 : ¬ (j < an) := fun z => c_9 ((nI_ltI (by omega) (by omega)).mpr z)
      exact absurd c_9 (by omega)

set_option maxHeartbeats 4000000 in
set_option maxRecDepth 100000 in
theorem c_X11_answer_out (l : Launch) (X : hp_X) {μ : hp_M} {nx : Nat} {o n tz se kd kl tc sd hd an fm fo kc : Nat} {on : Bool} {i : Int32} (hj : i < 0 ∨ nI an ≤ i) (f_o : μ o = some (hp_o 7 [.int (nI n), .ref (o + 1), .ref (o + 2), .ref (o + 3), .ref (o + 4), .ref (o + 5), .ref (o + 6), .int (nB on), .int (nI tz), .ref (o + 7), .int (nI se), .ref (o + 8), .ref (o + 9), .int (nI kd), .int (nI kl), .int (nI tc), .ref (o + 10), .int (nI sd), .ref (o + 11), .int (nI hd), .ref (o + 12), .int (nI an), .ref (o + 13), .int (nI fm), .int (nI fo), .ref (o + 14), .ref (o + 15), .int (nI kc), .ref (o + 16)])) : Ct l X yX11_answer cX11_answer 2 (some FieldType.int) 0 0 0 0 [.ref o, .int i] μ nx (hq_i X (po_i nx (-1) (fun z => z = μ))) := by
  refine hp_met (by decide) (Nat.le_of_ble_eq_true rfl) ?_
  intro p e s m below meth c ls hx hb hml hr hlocks hown hin hS hH hl
  have hl : lv_has ls 2 [(0, .ref o), (1, .int i)] := hl
  refine lv_iload_n hx hb dX11_answer_0 rfl (lv_at hl 1 rfl) ?_
  refine lv_if_lt (tgt := 12) hx hb dX11_answer_1 (by decide) (fun c_1 => ?_) (fun c_1 => ?_)
  · refine lv_iconst (v := (-1)) hx hb dX11_answer_12 (by decide) ?_
    refine lv_goto (tgt := 22) hx hb dX11_answer_13 (by decide) ?_
    exact hp_ri hx hb hr hlocks hS hH (⟨rfl, rfl, rfl⟩) dX11_answer_22
  · refine lv_iload_n hx hb dX11_answer_4 rfl (lv_at hl 1 rfl) ?_
    refine lv_aload_n hx hb dX11_answer_5 rfl (lv_at hl 0 rfl) ?_
    refine hp_get hx hb hown hS.2.1 hH (F_X11_151.use hS) f_o rfl dX11_answer_6 ?_
    refine lv_icmp_lt (tgt := 16) hx hb dX11_answer_9 (by decide) (fun c_9 => ?_) (fun c_9 => ?_)
    · exact hj.elim (fun h9 => absurd h9 c_1) (fun h9 => absurd c_9 (Int32.not_lt.mpr h9))
    · refine lv_iconst (v := (-1)) hx hb dX11_answer_12 (by decide) ?_
      refine lv_goto (tgt := 22) hx hb dX11_answer_13 (by decide) ?_
      exact hp_ri hx hb hr hlocks hS hH (⟨rfl, rfl, rfl⟩) dX11_answer_22

set_option maxHeartbeats 4000000 in
set_option maxRecDepth 100000 in
theorem c_X11_found (l : Launch) (X : hp_X) {μ : hp_M} {nx : Nat} {o n tz se kd kl tc sd hd an fm fo kc : Nat} {on : Bool} {fz fb : Nat → Nat} {i k : Nat} (hi : i < 2 ^ 31) (hk : k < 2 ^ 31) (hcnt : fo ≤ 40) (hsz : ∀ j, j < fo → fz j ≤ 10) (f_o : μ o = some (hp_o 7 [.int (nI n), .ref (o + 1), .ref (o + 2), .ref (o + 3), .ref (o + 4), .ref (o + 5), .ref (o + 6), .int (nB on), .int (nI tz), .ref (o + 7), .int (nI se), .ref (o + 8), .ref (o + 9), .int (nI kd), .int (nI kl), .int (nI tc), .ref (o + 10), .int (nI sd), .ref (o + 11), .int (nI hd), .ref (o + 12), .int (nI an), .ref (o + 13), .int (nI fm), .int (nI fo), .ref (o + 14), .ref (o + 15), .int (nI kc), .ref (o + 16)])) (f_14 : μ (o + 14) = some (hp_n X 40 fz)) (f_15 : μ (o + 15) = some (hp_n X 400 fb)) : Ct l X yX11_found cX11_found 3 (some FieldType.int) 0 0 0 0 [.ref o, .int (nI i), .int (nI k)] μ nx (hq_i X (po_i nx (if i < fo ∧ k < fz i then nI (fb (10 * i + k)) else -1) (fun z => z = μ))) := by
  refine hp_met (by decide) (Nat.le_of_ble_eq_true rfl) ?_
  intro p e s m below meth c ls hx hb hml hr hlocks hown hin hS hH hl
  have hl : lv_has ls 3 [(0, .ref o), (1, .int (nI i)), (2, .int (nI k))] := hl
  refine lv_iload_n hx hb dX11_found_0 rfl (lv_at hl 1 rfl) ?_
  refine lv_if_lt (tgt := 26) hx hb dX11_found_1 (by decide) (fun c_1 => ?_) (fun c_1 => ?_)
  · exact absurd c_1 (nI_pos (by omega))
  · refine lv_iload_n hx hb dX11_found_4 rfl (lv_at hl 1 rfl) ?_
    refine lv_aload_n hx hb dX11_found_5 rfl (lv_at hl 0 rfl) ?_
    refine hp_get hx hb hown hS.2.1 hH (F_X11_169.use hS) f_o rfl dX11_found_6 ?_
    refine lv_icmp_ge (tgt := 26) hx hb dX11_found_9 (by decide) (fun c_9 => ?_) (fun c_9 => ?_)
    · have c_9 : fo ≤ i := (nI_leI (by omega) (by omega)).mp c_9
      refine lv_iconst (v := (-1)) hx hb dX11_found_26 (by decide) ?_
      refine lv_goto (tgt := 41) hx hb dX11_found_27 (by decide) ?_
      exact hp_ri hx hb hr hlocks hS hH (⟨rfl, Eq.symm (if_neg (fun h9 => by omega)), rfl⟩) dX11_found_41
    · have c_9 : ¬ (fo ≤ i) := fun z => c_9 ((nI_leI (by omega) (by omega)).mpr z)
      have hszi := hsz i (by omega)
      refine lv_iload_n hx hb dX11_found_12 rfl (lv_at hl 2 rfl) ?_
      refine lv_if_lt (tgt := 26) hx hb dX11_found_13 (by decide) (fun c_13 => ?_) (fun c_13 => ?_)
      · exact absurd c_13 (nI_pos (by omega))
      · refine lv_iload_n hx hb dX11_found_16 rfl (lv_at hl 2 rfl) ?_
        refine lv_aload_n hx hb dX11_found_17 rfl (lv_at hl 0 rfl) ?_
        refine hp_get hx hb hown hS.2.1 hH (F_X11_54.use hS) f_o rfl dX11_found_18 ?_
        refine lv_iload_n hx hb dX11_found_21 rfl (lv_at hl 1 rfl) ?_
        refine hp_ialdN hx hb hS.ai hH f_14 (by omega) (by omega) dX11_found_22 ?_
        refine lv_icmp_lt (tgt := 30) hx hb dX11_found_23 (by decide) (fun c_23 => ?_) (fun c_23 => ?_)
        · have c_23 : k < (fz i) := (nI_ltI (by omega) (by omega)).mp c_23
          refine lv_aload_n hx hb dX11_found_30 rfl (lv_at hl 0 rfl) ?_
          refine hp_get hx hb hown hS.2.1 hH (F_X11_57.use hS) f_o rfl dX11_found_31 ?_
          refine lv_bipush (v := nI 10) hx hb dX11_found_34 (by decide) ?_
          refine lv_iload_n hx hb dX11_found_36 rfl (lv_at hl 1 rfl) ?_
          refine lv_imul hx hb dX11_found_37 ?_
          refine hp_eqi (z := nI (10 * i)) (pk_mul _ _) ?_
          refine lv_iload_n hx hb dX11_found_38 rfl (lv_at hl 2 rfl) ?_
          refine lv_iadd hx hb dX11_found_39 ?_
          refine hp_eqi (z := nI ((10 * i) + k)) (nI_add _ _) ?_
          refine hp_ialdN hx hb hS.ai hH f_15 (by omega) (by omega) dX11_found_40 ?_
          exact hp_ri hx hb hr hlocks hS hH (⟨rfl, Eq.symm (if_pos ⟨by omega, by omega⟩), rfl⟩) dX11_found_41
        · have c_23 : ¬ (k < (fz i)) := fun z => c_23 ((nI_ltI (by omega) (by omega)).mpr z)
          refine lv_iconst (v := (-1)) hx hb dX11_found_26 (by decide) ?_
          refine lv_goto (tgt := 41) hx hb dX11_found_27 (by decide) ?_
          exact hp_ri hx hb hr hlocks hS hH (⟨rfl, Eq.symm (if_neg (fun h9 => by omega)), rfl⟩) dX11_found_41

set_option maxHeartbeats 4000000 in
set_option maxRecDepth 100000 in
theorem c_X11_found_i (l : Launch) (X : hp_X) {μ : hp_M} {nx : Nat} {o n tz se kd kl tc sd hd an fm fo kc : Nat} {on : Bool} {fz fb : Nat → Nat} {i k : Int32} (hi : i < 0) (f_o : μ o = some (hp_o 7 [.int (nI n), .ref (o + 1), .ref (o + 2), .ref (o + 3), .ref (o + 4), .ref (o + 5), .ref (o + 6), .int (nB on), .int (nI tz), .ref (o + 7), .int (nI se), .ref (o + 8), .ref (o + 9), .int (nI kd), .int (nI kl), .int (nI tc), .ref (o + 10), .int (nI sd), .ref (o + 11), .int (nI hd), .ref (o + 12), .int (nI an), .ref (o + 13), .int (nI fm), .int (nI fo), .ref (o + 14), .ref (o + 15), .int (nI kc), .ref (o + 16)])) (f_14 : μ (o + 14) = some (hp_n X 40 fz)) (f_15 : μ (o + 15) = some (hp_n X 400 fb)) : Ct l X yX11_found cX11_found 3 (some FieldType.int) 0 0 0 0 [.ref o, .int i, .int k] μ nx (hq_i X (po_i nx (-1) (fun z => z = μ))) := by
  refine hp_met (by decide) (Nat.le_of_ble_eq_true rfl) ?_
  intro p e s m below meth c ls hx hb hml hr hlocks hown hin hS hH hl
  have hl : lv_has ls 3 [(0, .ref o), (1, .int i), (2, .int k)] := hl
  refine lv_iload_n hx hb dX11_found_0 rfl (lv_at hl 1 rfl) ?_
  refine lv_if_lt (tgt := 26) hx hb dX11_found_1 (by decide) (fun c_1 => ?_) (fun c_1 => ?_)
  · refine lv_iconst (v := (-1)) hx hb dX11_found_26 (by decide) ?_
    refine lv_goto (tgt := 41) hx hb dX11_found_27 (by decide) ?_
    exact hp_ri hx hb hr hlocks hS hH (⟨rfl, rfl, rfl⟩) dX11_found_41
  · exact absurd hi c_1

set_option maxHeartbeats 4000000 in
set_option maxRecDepth 100000 in
theorem c_X11_found_k (l : Launch) (X : hp_X) {μ : hp_M} {nx : Nat} {o n tz se kd kl tc sd hd an fm fo kc : Nat} {on : Bool} {fz fb : Nat → Nat} {i : Nat} {k : Int32} (hk : k < 0) (hi : i < 2 ^ 31) (hcnt : fo ≤ 40) (f_o : μ o = some (hp_o 7 [.int (nI n), .ref (o + 1), .ref (o + 2), .ref (o + 3), .ref (o + 4), .ref (o + 5), .ref (o + 6), .int (nB on), .int (nI tz), .ref (o + 7), .int (nI se), .ref (o + 8), .ref (o + 9), .int (nI kd), .int (nI kl), .int (nI tc), .ref (o + 10), .int (nI sd), .ref (o + 11), .int (nI hd), .ref (o + 12), .int (nI an), .ref (o + 13), .int (nI fm), .int (nI fo), .ref (o + 14), .ref (o + 15), .int (nI kc), .ref (o + 16)])) (f_14 : μ (o + 14) = some (hp_n X 40 fz)) (f_15 : μ (o + 15) = some (hp_n X 400 fb)) : Ct l X yX11_found cX11_found 3 (some FieldType.int) 0 0 0 0 [.ref o, .int (nI i), .int k] μ nx (hq_i X (po_i nx (-1) (fun z => z = μ))) := by
  refine hp_met (by decide) (Nat.le_of_ble_eq_true rfl) ?_
  intro p e s m below meth c ls hx hb hml hr hlocks hown hin hS hH hl
  have hl : lv_has ls 3 [(0, .ref o), (1, .int (nI i)), (2, .int k)] := hl
  refine lv_iload_n hx hb dX11_found_0 rfl (lv_at hl 1 rfl) ?_
  refine lv_if_lt (tgt := 26) hx hb dX11_found_1 (by decide) (fun c_1 => ?_) (fun c_1 => ?_)
  · exact absurd c_1 (nI_pos (by omega))
  · refine lv_iload_n hx hb dX11_found_4 rfl (lv_at hl 1 rfl) ?_
    refine lv_aload_n hx hb dX11_found_5 rfl (lv_at hl 0 rfl) ?_
    refine hp_get hx hb hown hS.2.1 hH (F_X11_169.use hS) f_o rfl dX11_found_6 ?_
    refine lv_icmp_ge (tgt := 26) hx hb dX11_found_9 (by decide) (fun c_9 => ?_) (fun c_9 => ?_)
    · have c_9 : fo ≤ i := (nI_leI (by omega) (by omega)).mp c_9
      refine lv_iconst (v := (-1)) hx hb dX11_found_26 (by decide) ?_
      refine lv_goto (tgt := 41) hx hb dX11_found_27 (by decide) ?_
      exact hp_ri hx hb hr hlocks hS hH (⟨rfl, rfl, rfl⟩) dX11_found_41
    · have c_9 : ¬ (fo ≤ i) := fun z => c_9 ((nI_leI (by omega) (by omega)).mpr z)
      refine lv_iload_n hx hb dX11_found_12 rfl (lv_at hl 2 rfl) ?_
      refine lv_if_lt (tgt := 26) hx hb dX11_found_13 (by decide) (fun c_13 => ?_) (fun c_13 => ?_)
      · refine lv_iconst (v := (-1)) hx hb dX11_found_26 (by decide) ?_
        refine lv_goto (tgt := 41) hx hb dX11_found_27 (by decide) ?_
        exact hp_ri hx hb hr hlocks hS hH (⟨rfl, rfl, rfl⟩) dX11_found_41
      · exact absurd hk c_13

set_option maxHeartbeats 4000000 in
set_option maxRecDepth 100000 in
theorem c_X11_frames (l : Launch) (X : hp_X) {μ : hp_M} {nx : Nat} {o n tz se kd kl tc sd hd an fm fo kc : Nat} {on : Bool}  (f_o : μ o = some (hp_o 7 [.int (nI n), .ref (o + 1), .ref (o + 2), .ref (o + 3), .ref (o + 4), .ref (o + 5), .ref (o + 6), .int (nB on), .int (nI tz), .ref (o + 7), .int (nI se), .ref (o + 8), .ref (o + 9), .int (nI kd), .int (nI kl), .int (nI tc), .ref (o + 10), .int (nI sd), .ref (o + 11), .int (nI hd), .ref (o + 12), .int (nI an), .ref (o + 13), .int (nI fm), .int (nI fo), .ref (o + 14), .ref (o + 15), .int (nI kc), .ref (o + 16)])) : Ct l X yX11_frames cX11_frames 1 (some FieldType.int) 0 0 0 0 [.ref o] μ nx (hq_i X (po_i nx (nI fm) (fun z => z = μ))) := by
  refine hp_met (by decide) (Nat.le_of_ble_eq_true rfl) ?_
  intro p e s m below meth c ls hx hb hml hr hlocks hown hin hS hH hl
  have hl : lv_has ls 1 [(0, .ref o)] := hl
  refine lv_aload_n hx hb dX11_frames_0 rfl (lv_at hl 0 rfl) ?_
  refine hp_get hx hb hown hS.2.1 hH (F_X11_136.use hS) f_o rfl dX11_frames_1 ?_
  exact hp_ri hx hb hr hlocks hS hH (⟨rfl, rfl, rfl⟩) dX11_frames_4
