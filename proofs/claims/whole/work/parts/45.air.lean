set_option maxHeartbeats 4000000 in
set_option maxRecDepth 100000 in
theorem c_X1_count (l : Launch) (X : hp_X) {μ : hp_M} {nx : Nat} {ar l1 f1 mc q n sent : Nat} {on : Bool}  (f_air : μ ar = some (hp_o 0 [.ref l1, .ref f1, .int (nB on), .int (nI sent)])) (f_l : μ l1 = some (hp_o 8 [.int (nI mc), .ref q, .int (nI n)])) : Ct l X yX1_count cX1_count 1 (some FieldType.int) 1 40 0 0 [.ref ar] μ nx (hq_i X (po_i nx (nI n) (fun z => z = μ))) := by
  refine hp_met (by decide) (Nat.le_of_ble_eq_true rfl) ?_
  intro p e s m below meth c ls hx hb hml hr hlocks hown hin hS hH hl
  have hl : lv_has ls 1 [(0, .ref ar)] := hl
  refine lv_aload_n hx hb dX1_count_0 rfl (lv_at hl 0 rfl) ?_
  refine hp_get hx hb hown hS.2.1 hH (F_X1_10.use hS) f_air rfl dX1_count_1 ?_
  refine hp_kip (hp_runV (As := []) (rest := []) hx hb hml hown hS hH (c_Jx4a65c_size_8abf5 l X f_l) M_X1_27 I_Jx4a65c_size_8abf5 V_Jx4a65c_size_8abf5 (ci := 8) rfl rfl f_l rfl hl.1 rfl (Nat.le_of_ble_eq_true rfl) dX1_count_4 ⟨Nat.le_of_ble_eq_true rfl, Nat.le_of_ble_eq_true rfl⟩ ⟨Nat.le_of_ble_eq_true rfl, Nat.le_of_ble_eq_true rfl⟩) hH (fun H locs hH => ?_)
  exact hp_ri hx hb hr hlocks hS hH (⟨rfl, rfl, rfl⟩) dX1_count_7

set_option maxHeartbeats 4000000 in
set_option maxRecDepth 100000 in
theorem c_X1_knows (l : Launch) (X : hp_X) {μ : hp_M} {nx : Nat} {ar l1 f1 mc q n sent : Nat} {on : Bool} {tg : Int32} (f_air : μ ar = some (hp_o 0 [.ref l1, .ref f1, .int (nB on), .int (nI sent)])) (f_l : μ l1 = some (hp_o 8 [.int (nI mc), .ref q, .int (nI n)])) : Ct l X yX1_knows cX1_knows 2 (some FieldType.boolean) 1 40 0 0 [.ref ar, .int tg] μ nx (hq_i X (po_i nx (nB (decide (nI 1 ≤ tg ∧ tg ≤ nI n))) (fun z => z = μ))) := by
  refine hp_met (by decide) (Nat.le_of_ble_eq_true rfl) ?_
  intro p e s m below meth c ls hx hb hml hr hlocks hown hin hS hH hl
  have hl : lv_has ls 2 [(0, .ref ar), (1, .int tg)] := hl
  refine lv_iload_n hx hb dX1_knows_0 rfl (lv_at hl 1 rfl) ?_
  refine lv_iconst (v := nI 1) hx hb dX1_knows_1 (by decide) ?_
  refine lv_icmp_lt (tgt := 20) hx hb dX1_knows_2 (by decide) (fun c_2 => ?_) (fun c_2 => ?_)
  · refine lv_iconst (v := nI 0) hx hb dX1_knows_20 (by decide) ?_
    refine hp_eqi (z := nB false) (by decide) ?_
    exact hp_rz hx hb hr hlocks hS hH (nB_nar _) (⟨rfl, congrArg nB (Eq.symm (by simp [Int32.not_le.mpr c_2])), rfl⟩) dX1_knows_21
  · refine lv_iload_n hx hb dX1_knows_5 rfl (lv_at hl 1 rfl) ?_
    refine lv_aload_n hx hb dX1_knows_6 rfl (lv_at hl 0 rfl) ?_
    refine hp_get hx hb hown hS.2.1 hH (F_X1_10.use hS) f_air rfl dX1_knows_7 ?_
    refine hp_kip (hp_runV (As := []) (rest := [.int tg]) hx hb hml hown hS hH (c_Jx4a65c_size_8abf5 l X f_l) M_X1_27 I_Jx4a65c_size_8abf5 V_Jx4a65c_size_8abf5 (ci := 8) rfl rfl f_l rfl hl.1 rfl (Nat.le_of_ble_eq_true rfl) dX1_knows_10 ⟨Nat.le_of_ble_eq_true rfl, Nat.le_of_ble_eq_true rfl⟩ ⟨Nat.le_of_ble_eq_true rfl, Nat.le_of_ble_eq_true rfl⟩) hH (fun H locs hH => ?_)
    refine lv_icmp_gt (tgt := 20) hx hb dX1_knows_13 (by decide) (fun c_13 => ?_) (fun c_13 => ?_)
    · refine lv_iconst (v := nI 0) hx hb dX1_knows_20 (by decide) ?_
      refine hp_eqi (z := nB false) (by decide) ?_
      exact hp_rz hx hb hr hlocks hS hH (nB_nar _) (⟨rfl, congrArg nB (Eq.symm (by simp [Int32.not_lt.mp c_2, Int32.not_le.mpr c_13])), rfl⟩) dX1_knows_21
    · refine lv_iconst (v := nI 1) hx hb dX1_knows_16 (by decide) ?_
      refine lv_goto (tgt := 21) hx hb dX1_knows_17 (by decide) ?_
      refine hp_eqi (z := nB true) (by decide) ?_
      exact hp_rz hx hb hr hlocks hS hH (nB_nar _) (⟨rfl, congrArg nB (Eq.symm (by simp [Int32.not_lt.mp c_2, Int32.not_lt.mp c_13])), rfl⟩) dX1_knows_21

def knN (n : Nat) (lv : Nat → Nat) (sh : Nat → Nat → Nat) (lv2 : Nat) (sh2 : Nat → Nat) : Prop := ∃ j, j < n ∧ sh j 0 = sh2 0 ∧ sh j 1 = sh2 1 ∧ sh j 2 = sh2 2 ∧ lv j = lv2
noncomputable def knB (n : Nat) (lv : Nat → Nat) (sh : Nat → Nat → Nat) (lv2 : Nat) (sh2 : Nat → Nat) : Bool := @decide (knN n lv sh lv2 sh2) (Classical.propDecidable _)

set_option maxHeartbeats 4000000 in
set_option maxRecDepth 100000 in
theorem c_X1_knowsNumberOf (l : Launch) (X : hp_X) {μ : hp_M} {nx : Nat} {ar l1 f1 mc q n sent : Nat} {on : Bool} {f : Nat → Option Nat} {ta sa lv st le : Nat → Nat} {aw : Nat → Bool} {sh : Nat → Nat → Nat} {t2 s2 lv2 st2 le2 : Nat} {aw2 : Bool} {sh2 : Nat → Nat} (hq : hLA X μ l1 q n f ta) (hn16 : n ≤ 16) (f_ts : ∀ j, j < n → μ (ta j) = some (hTG sa lv aw st le j)) (f_ss : ∀ j, j < n → μ (sa j) = some (hp_m X 3 (sh j))) (hlv : ∀ j, j < n → 1 ≤ lv j ∧ lv j ≤ 3) (hst : ∀ j, j < n → st j < 8) (hle : ∀ j, j < n → 1 ≤ le j ∧ le j ≤ 3) (hsh : ∀ j, j < n → ∀ i, sh j i < 2 ^ 40) (hsh2 : ∀ i, sh2 i < 2 ^ 40) (hl4 : lv2 ≤ 3) (f_air : μ ar = some (hp_o 0 [.ref l1, .ref f1, .int (nB on), .int (nI sent)])) (f_l : μ l1 = some (hp_o 8 [.int (nI mc), .ref q, .int (nI n)])) (f_t2 : μ t2 = some (hp_o 5 [.int (nI lv2), .ref s2, .int (nB aw2), .int (nI st2), .int (nI le2)])) (f_s2 : μ s2 = some (hp_m X 3 sh2)) : Ct l X yX1_knowsNumberOf cX1_knowsNumberOf 3 (some FieldType.boolean) 4 160 0 0 [.ref ar, .ref t2] μ nx (hq_i X (po_i nx (nB (knB n lv sh lv2 sh2)) (fun z => z = μ))) := by
  refine hp_met (by decide) (Nat.le_of_ble_eq_true rfl) ?_
  intro p e s m below meth c ls hx hb hml hr hlocks hown hin hS hH hl
  have hl : lv_has ls 3 [(0, .ref ar), (1, .ref t2)] := hl
  refine lv_iconst (v := nI 0) hx hb dX1_knowsNumberOf_0 (by decide) ?_
  refine lv_istore_n (lv' := [(2, .int (nI 0)), (0, .ref ar), (1, .ref t2)]) hx hb dX1_knowsNumberOf_1 rfl hl (by decide) rfl (fun ls hl => ?_)
  have lp_2 : ∀ (kk : Nat) (i : Nat), (i ≤ n) → (∀ j, j < i → ¬ (sh j 0 = sh2 0 ∧ sh j 1 = sh2 1 ∧ sh j 2 = sh2 2 ∧ lv j = lv2)) → (n - i) < kk → ∀ (H : Heap) (locs : List Loc) (ls : Array Slot), hp_w X cls μ nx H locs → lv_has ls 3 [(0, .ref ar), (1, .ref t2), (2, .int (nI i))] → W p l e { frames := 4, cells := 0, slots := 0, locals := 160 } s m [.ref ar, .ref t2].toArray below meth c H locs 0 0 (MQ below (hq_i X (po_i nx (nB (knB n lv sh lv2 sh2)) (fun z => z = μ))) [.ref ar, .ref t2].toArray s 0 0 (hp_A X)) (F0 m 2 ls []) := by
    intro kk
    induction kk with
    | zero =>
      intro i hi hno hkk
      exact absurd hkk (Nat.not_lt_zero _)
    | succ kk ih =>
      intro i hi hno hkk H locs ls  hH hl
      refine lv_iload_n hx hb dX1_knowsNumberOf_2 rfl (lv_at hl 2 rfl) ?_
      refine lv_aload_n hx hb dX1_knowsNumberOf_3 rfl (lv_at hl 0 rfl) ?_
      refine hp_get hx hb hown hS.2.1 hH (F_X1_10.use hS) f_air rfl dX1_knowsNumberOf_4 ?_
      refine hp_kip (hp_runV (As := []) (rest := [.int (nI i)]) hx hb hml hown hS hH (c_Jx4a65c_size_8abf5 l X f_l) M_X1_27 I_Jx4a65c_size_8abf5 V_Jx4a65c_size_8abf5 (ci := 8) rfl rfl f_l rfl hl.1 rfl (Nat.le_of_ble_eq_true rfl) dX1_knowsNumberOf_7 ⟨Nat.le_of_ble_eq_true rfl, Nat.le_of_ble_eq_true rfl⟩ ⟨Nat.le_of_ble_eq_true rfl, Nat.le_of_ble_eq_true rfl⟩) hH (fun H locs hH => ?_)
      refine lv_icmp_ge (tgt := 39) hx hb dX1_knowsNumberOf_10 (by decide) (fun c_10 => ?_) (fun c_10 => ?_)
      · have c_10 : n ≤ i := (nI_leI (by omega) (by omega)).mp c_10
        refine lv_iconst (v := nI 0) hx hb dX1_knowsNumberOf_39 (by decide) ?_
        refine hp_eqi (z := nB false) (by decide) ?_
        exact hp_rz hx hb hr hlocks hS hH (nB_nar _) (⟨rfl, congrArg nB (Eq.symm (by unfold knB; exact @decide_eq_false _ (Classical.propDecidable _) (fun ⟨j, hj, h⟩ => hno j (by omega) h))), rfl⟩) dX1_knowsNumberOf_40
      · have c_10 : ¬ (n ≤ i) := fun z => c_10 ((nI_leI (by omega) (by omega)).mpr z)
        refine lv_aload_n hx hb dX1_knowsNumberOf_13 rfl (lv_at hl 0 rfl) ?_
        refine hp_get hx hb hown hS.2.1 hH (F_X1_10.use hS) f_air rfl dX1_knowsNumberOf_14 ?_
        refine lv_iload_n hx hb dX1_knowsNumberOf_17 rfl (lv_at hl 2 rfl) ?_
        obtain ⟨hn0, f_q, hf⟩ := hq.resolve_left (by omega)
        have hcap := capN_le n hn16
        refine hp_krp (hp_runV (As := [.int (nI i)]) (rest := []) hx hb hml hown hS hH (c_Jx4a65c_get_915e3 l X (i := i) (by omega) hcap.1 (by omega) (hf _ (by omega)) f_l f_q) M_X1_31 I_Jx4a65c_get_915e3 V_Jx4a65c_get_915e3 (ci := 8) rfl rfl f_l rfl hl.1 rfl (Nat.le_of_ble_eq_true rfl) dX1_knowsNumberOf_18 ⟨Nat.le_of_ble_eq_true rfl, Nat.le_of_ble_eq_true rfl⟩ ⟨Nat.le_of_ble_eq_true rfl, Nat.le_of_ble_eq_true rfl⟩) hH (fun H locs hH => ?_)
        have f_t : μ (ta i) = some (hTG sa lv aw st le i) := f_ts i (by omega)
        have f_s := f_ss i (by omega)
        refine va_castY (C := RX9) hx hb hown (hS.1 _ NL_X1_35 _) (hS.1 _ wl_tt #[]) (hp_recv hS.2.1 hH (ci := 5) rfl f_t) dX1_knowsNumberOf_21 ?_
        refine lv_aload_n hx hb dX1_knowsNumberOf_24 rfl (lv_at hl 1 rfl) ?_
        refine hp_kip (hp_runV (As := [.ref t2]) (rest := []) hx hb hml hown hS hH (c_X9_hasNumberOf l X (hsh i (by omega)) hsh2 (hlv i (by omega)).2 hl4 f_t f_s f_t2 f_s2) M_X1_37 I_X9_hasNumberOf V_X9_hasNumberOf (ci := 5) rfl rfl f_t rfl hl.1 rfl (Nat.le_of_ble_eq_true rfl) dX1_knowsNumberOf_25 ⟨Nat.le_of_ble_eq_true rfl, Nat.le_of_ble_eq_true rfl⟩ ⟨Nat.le_of_ble_eq_true rfl, Nat.le_of_ble_eq_true rfl⟩) hH (fun H locs hH => ?_)
        refine lv_if_eq (tgt := 33) hx hb dX1_knowsNumberOf_28 (by decide) (fun c_28 => ?_) (fun c_28 => ?_)
        · have c_28 : (decide (sh i 0 = sh2 0 ∧ sh i 1 = sh2 1 ∧ sh i 2 = sh2 2 ∧ lv i = lv2)) = false := nB_0 c_28
          refine lv_iinc (v := nI (i + 1)) (lv' := [(2, .int (nI (i + 1))), (0, .ref ar), (1, .ref t2)]) hx hb dX1_knowsNumberOf_33 hl (k := 2) rfl (nI_add _ 1) (by decide) rfl (fun ls hl => ?_)
          refine lv_goto (tgt := 2) hx hb dX1_knowsNumberOf_36 (by decide) ?_
          exact ih (i + 1) (by omega) (fun j hj => (Nat.lt_succ_iff_lt_or_eq.mp hj).elim (hno j) (fun h => h ▸ of_decide_eq_false c_28)) (by omega) _ _ _  hH (lv_sub hl [1, 2, 0] rfl)
        · have c_28 : (decide (sh i 0 = sh2 0 ∧ sh i 1 = sh2 1 ∧ sh i 2 = sh2 2 ∧ lv i = lv2)) = true := nB_n c_28
          refine lv_iconst (v := nI 1) hx hb dX1_knowsNumberOf_31 (by decide) ?_
          refine hp_eqi (z := nB true) (by decide) ?_
          exact hp_rz hx hb hr hlocks hS hH (nB_nar _) (⟨rfl, congrArg nB (Eq.symm (by unfold knB; exact @decide_eq_true _ (Classical.propDecidable _) ⟨i, by omega, by simpa using c_28⟩)), rfl⟩) dX1_knowsNumberOf_32
  exact lp_2 ((n - 0) + 1) 0 (Nat.zero_le _) (fun j hj => absurd hj (Nat.not_lt_zero _)) (Nat.lt_succ_self _) _ _ _  hH (lv_sub hl [1, 2, 0] rfl)

set_option maxHeartbeats 4000000 in
set_option maxRecDepth 100000 in
theorem c_X1_stateOf (l : Launch) (X : hp_X) {μ : hp_M} {nx : Nat} {ar l1 f1 mc q n sent : Nat} {on : Bool} {f : Nat → Option Nat} {ta sa lv st le : Nat → Nat} {aw : Nat → Bool} {sh : Nat → Nat → Nat} {i : Nat} (hi : i < n) (hq : hLA X μ l1 q n f ta) (hn16 : n ≤ 16) (f_ts : ∀ j, j < n → μ (ta j) = some (hTG sa lv aw st le j)) (f_ss : ∀ j, j < n → μ (sa j) = some (hp_m X 3 (sh j))) (hlv : ∀ j, j < n → 1 ≤ lv j ∧ lv j ≤ 3) (hst : ∀ j, j < n → st j < 8) (hle : ∀ j, j < n → 1 ≤ le j ∧ le j ≤ 3) (hsh : ∀ j, j < n → ∀ i, sh j i < 2 ^ 40) (f_air : μ ar = some (hp_o 0 [.ref l1, .ref f1, .int (nB on), .int (nI sent)])) (f_l : μ l1 = some (hp_o 8 [.int (nI mc), .ref q, .int (nI n)])) : Ct l X yX1_stateOf cX1_stateOf 2 (some FieldType.int) 3 120 0 0 [.ref ar, .int (nI (i + 1))] μ nx (hq_i X (po_i nx (nI (if st i = 2 ∨ st i = 5 then st i + 10 * (le i - 1) else st i)) (fun z => z = μ))) := by
  refine hp_met (by decide) (Nat.le_of_ble_eq_true rfl) ?_
  intro p e s m below meth c ls hx hb hml hr hlocks hown hin hS hH hl
  have hl : lv_has ls 2 [(0, .ref ar), (1, .int (nI (i + 1)))] := hl
  refine lv_aload_n hx hb dX1_stateOf_0 rfl (lv_at hl 0 rfl) ?_
  refine hp_get hx hb hown hS.2.1 hH (F_X1_10.use hS) f_air rfl dX1_stateOf_1 ?_
  refine lv_iload_n hx hb dX1_stateOf_4 rfl (lv_at hl 1 rfl) ?_
  refine lv_iconst (v := nI 1) hx hb dX1_stateOf_5 (by decide) ?_
  refine lv_isub hx hb dX1_stateOf_6 ?_
  refine hp_eqi (z := nI i) (by rw [pk_sub (by omega), Nat.add_sub_cancel]) ?_
  obtain ⟨hn0, f_q, hf⟩ := hq.resolve_left (by omega)
  have hcap := capN_le n hn16
  refine hp_krp (hp_runV (As := [.int (nI i)]) (rest := []) hx hb hml hown hS hH (c_Jx4a65c_get_915e3 l X (i := i) (by omega) hcap.1 (by omega) (hf _ (by omega)) f_l f_q) M_X1_31 I_Jx4a65c_get_915e3 V_Jx4a65c_get_915e3 (ci := 8) rfl rfl f_l rfl hl.1 rfl (Nat.le_of_ble_eq_true rfl) dX1_stateOf_7 ⟨Nat.le_of_ble_eq_true rfl, Nat.le_of_ble_eq_true rfl⟩ ⟨Nat.le_of_ble_eq_true rfl, Nat.le_of_ble_eq_true rfl⟩) hH (fun H locs hH => ?_)
  have f_t : μ (ta i) = some (hTG sa lv aw st le i) := f_ts i (by omega)
  refine va_castY (C := RX9) hx hb hown (hS.1 _ NL_X1_35 _) (hS.1 _ wl_tt #[]) (hp_recv hS.2.1 hH (ci := 5) rfl f_t) dX1_stateOf_10 ?_
  refine hp_kip (hp_runV (As := []) (rest := []) hx hb hml hown hS hH (c_X9_stateAndLevel l X (hst i (by omega)) (hle i (by omega)).1 (hle i (by omega)).2 f_t) M_X1_53 I_X9_stateAndLevel V_X9_stateAndLevel (ci := 5) rfl rfl f_t rfl hl.1 rfl (Nat.le_of_ble_eq_true rfl) dX1_stateOf_13 ⟨Nat.le_of_ble_eq_true rfl, Nat.le_of_ble_eq_true rfl⟩ ⟨Nat.le_of_ble_eq_true rfl, Nat.le_of_ble_eq_true rfl⟩) hH (fun H locs hH => ?_)
  exact hp_ri hx hb hr hlocks hS hH (⟨rfl, rfl, rfl⟩) dX1_stateOf_16

set_option maxHeartbeats 4000000 in
set_option maxRecDepth 100000 in
theorem c_X1_move (l : Launch) (X : hp_X) {μ : hp_M} {nx : Nat} {ar l1 f1 mc q n sent : Nat} {on : Bool} {f : Nat → Option Nat} {ta sa lv st le : Nat → Nat} {aw : Nat → Bool} {sh : Nat → Nat → Nat} {i : Nat} {is : Bool} (hi : i < n) (hq : hLA X μ l1 q n f ta) (hn16 : n ≤ 16) (f_ts : ∀ j, j < n → μ (ta j) = some (hTG sa lv aw st le j)) (f_ss : ∀ j, j < n → μ (sa j) = some (hp_m X 3 (sh j))) (f_air : μ ar = some (hp_o 0 [.ref l1, .ref f1, .int (nB on), .int (nI sent)])) (f_l : μ l1 = some (hp_o 8 [.int (nI mc), .ref q, .int (nI n)])) : Ct l X yX1_move cX1_move 3 (some FieldType.int) 3 120 0 0 [.ref ar, .int (nI (i + 1)), .int (nB is)] μ nx (hq_i X (po_i nx (if ¬ aw i = is then nI 1 else nI 0) (fun z => z (ta i) = some (hp_o 5 [.int (nI (lv i)), .ref (sa i), .int (nB is), .int (nI (if aw i = is then st i else if on = true ∧ is = false then 1 else 0)), .int (nI (le i))]) ∧ hp_eq [ta i] z μ))) := by
  refine hp_met (by decide) (Nat.le_of_ble_eq_true rfl) ?_
  intro p e s m below meth c ls hx hb hml hr hlocks hown hin hS hH hl
  have hl : lv_has ls 3 [(0, .ref ar), (1, .int (nI (i + 1))), (2, .int (nB is))] := hl
  have fr : hp_eq [ta i] μ μ := fun _ _ => rfl
  refine lv_aload_n hx hb dX1_move_0 rfl (lv_at hl 0 rfl) ?_
  refine hp_get hx hb hown hS.2.1 hH (F_X1_10.use hS) f_air rfl dX1_move_1 ?_
  refine lv_iload_n hx hb dX1_move_4 rfl (lv_at hl 1 rfl) ?_
  refine lv_iconst (v := nI 1) hx hb dX1_move_5 (by decide) ?_
  refine lv_isub hx hb dX1_move_6 ?_
  refine hp_eqi (z := nI i) (by rw [pk_sub (by omega), Nat.add_sub_cancel]) ?_
  obtain ⟨hn0, f_q, hf⟩ := hq.resolve_left (by omega)
  have hcap := capN_le n hn16
  refine hp_krp (hp_runV (As := [.int (nI i)]) (rest := []) hx hb hml hown hS hH (c_Jx4a65c_get_915e3 l X (i := i) (by omega) hcap.1 (by omega) (hf _ (by omega)) f_l f_q) M_X1_31 I_Jx4a65c_get_915e3 V_Jx4a65c_get_915e3 (ci := 8) rfl rfl f_l rfl hl.1 rfl (Nat.le_of_ble_eq_true rfl) dX1_move_7 ⟨Nat.le_of_ble_eq_true rfl, Nat.le_of_ble_eq_true rfl⟩ ⟨Nat.le_of_ble_eq_true rfl, Nat.le_of_ble_eq_true rfl⟩) hH (fun H locs hH => ?_)
  have f_t : μ (ta i) = some (hTG sa lv aw st le i) := f_ts i (by omega)
  refine va_castY (C := RX9) hx hb hown (hS.1 _ NL_X1_35 _) (hS.1 _ wl_tt #[]) (hp_recv hS.2.1 hH (ci := 5) rfl f_t) dX1_move_10 ?_
  refine lv_iload_n hx hb dX1_move_13 rfl (lv_at hl 2 rfl) ?_
  refine lv_aload_n hx hb dX1_move_14 rfl (lv_at hl 0 rfl) ?_
  refine hp_get hx hb hown hS.2.1 hH (F_X1_23.use hS) f_air rfl dX1_move_15 ?_
  refine hp_kim (hp_runV (As := [.int (nB is), .int (nB on)]) (rest := []) hx hb hml hown hS hH (c_X9_move l X (is := is) (on := on) f_t) M_X1_49 I_X9_move V_X9_move (ci := 5) rfl rfl f_t rfl hl.1 rfl (Nat.le_of_ble_eq_true rfl) dX1_move_18 ⟨Nat.le_of_ble_eq_true rfl, Nat.le_of_ble_eq_true rfl⟩ ⟨Nat.le_of_ble_eq_true rfl, Nat.le_of_ble_eq_true rfl⟩) hH (fun μ1 H locs hp hH => ?_)
  obtain ⟨fz0, fe⟩ := hp
  have f_air := (hp_e1 fe (hp_ne f_air f_t (by simp))).trans f_air
  have f_l := (hp_e1 fe (hp_ne f_l f_t (by simp))).trans f_l
  have f_t : μ1 (ta i) = some (hp_o 5 [.int (nI (lv i)), .ref (sa i), .int (nB is), .int (nI (if aw i = is then st i else if on = true ∧ is = false then 1 else 0)), .int (nI (le i))]) := fz0
  have fr := hp_eq.tr1 fe fr (by simp)
  clear fe fz0
  refine lv_if_eq (tgt := 28) hx hb dX1_move_21 (by decide) (fun c_21 => ?_) (fun c_21 => ?_)
  · have c_21 : (decide (¬ aw i = is)) = false := nB_0 c_21
    refine lv_iconst (v := nI 0) hx hb dX1_move_28 (by decide) ?_
    exact hp_ri hx hb hr hlocks hS hH (⟨rfl, by rw [if_neg (of_decide_eq_false c_21)], f_t, fr⟩) dX1_move_29
  · have c_21 : (decide (¬ aw i = is)) = true := nB_n c_21
    refine lv_iconst (v := nI 1) hx hb dX1_move_24 (by decide) ?_
    refine lv_goto (tgt := 29) hx hb dX1_move_25 (by decide) ?_
    exact hp_ri hx hb hr hlocks hS hH (⟨rfl, by rw [if_pos (of_decide_eq_true c_21)], f_t, fr⟩) dX1_move_29

set_option maxHeartbeats 4000000 in
set_option maxRecDepth 100000 in
theorem c_X1_turn_same (l : Launch) (X : hp_X) {μ : hp_M} {nx : Nat} {ar l1 f1 mc q n sent : Nat} {on : Bool} {to : Bool} (hto : on = to) (f_air : μ ar = some (hp_o 0 [.ref l1, .ref f1, .int (nB on), .int (nI sent)])) (f_l : μ l1 = some (hp_o 8 [.int (nI mc), .ref q, .int (nI n)])) : Ct l X yX1_turn cX1_turn 3 (some FieldType.int) 1 40 0 0 [.ref ar, .int (nB to)] μ nx (hq_i X (po_i nx (nI 0) (fun z => z = μ))) := by
  refine hp_met (by decide) (Nat.le_of_ble_eq_true rfl) ?_
  intro p e s m below meth c ls hx hb hml hr hlocks hown hin hS hH hl
  have hl : lv_has ls 3 [(0, .ref ar), (1, .int (nB to))] := hl
  refine lv_aload_n hx hb dX1_turn_0 rfl (lv_at hl 0 rfl) ?_
  refine hp_get hx hb hown hS.2.1 hH (F_X1_23.use hS) f_air rfl dX1_turn_1 ?_
  refine lv_iload_n hx hb dX1_turn_4 rfl (lv_at hl 1 rfl) ?_
  refine lv_icmp_ne (tgt := 10) hx hb dX1_turn_5 (by decide) (fun c_5 => ?_) (fun c_5 => ?_)
  · have c_5 : ¬ (on = to) := fun z => c_5 (nB_eq.mpr z)
    exact absurd hto c_5
  · have c_5 : on = to := nB_eq.mp c_5
    refine lv_iconst (v := nI 0) hx hb dX1_turn_8 (by decide) ?_
    exact hp_ri hx hb hr hlocks hS hH (⟨rfl, rfl, rfl⟩) dX1_turn_9

set_option maxHeartbeats 4000000 in
set_option maxRecDepth 100000 in
theorem c_X1_turn (l : Launch) (X : hp_X) {μ : hp_M} {nx : Nat} {ar l1 f1 mc q n sent : Nat} {on : Bool} {f : Nat → Option Nat} {ta sa lv st le : Nat → Nat} {aw : Nat → Bool} {sh : Nat → Nat → Nat} {to : Bool} (hto : ¬ on = to) (hq : hLA X μ l1 q n f ta) (hn16 : n ≤ 16) (f_ts : ∀ j, j < n → μ (ta j) = some (hTG sa lv aw st le j)) (f_ss : ∀ j, j < n → μ (sa j) = some (hp_m X 3 (sh j))) (hinj : ∀ i j, i < n → j < n → ta i = ta j → i = j) (f_air : μ ar = some (hp_o 0 [.ref l1, .ref f1, .int (nB on), .int (nI sent)])) (f_l : μ l1 = some (hp_o 8 [.int (nI mc), .ref q, .int (nI n)])) : Ct l X yX1_turn cX1_turn 3 (some FieldType.int) 3 120 0 0 [.ref ar, .int (nB to)] μ nx (hq_i X (po_i nx (nI 1) (fun z => z ar = some (hp_o 0 [.ref l1, .ref f1, .int (nB to), .int (nI sent)]) ∧ z l1 = some (hp_o 8 [.int (nI mc), .ref q, .int (nI n)]) ∧ hLA X z l1 q n f ta ∧ (∀ j, j < n → z (ta j) = some (hTG sa lv aw (fun j => if to = true ∧ aw j = false then 1 else 0) le j)) ∧ (∀ j, j < n → z (sa j) = some (hp_m X 3 (sh j))) ∧ hp_eqP (fun c9 => c9 = ar ∨ ∃ j, j < n ∧ c9 = ta j) z μ))) := by
  refine hp_met (by decide) (Nat.le_of_ble_eq_true rfl) ?_
  intro p e s m below meth c ls hx hb hml hr hlocks hown hin hS hH hl
  have hl : lv_has ls 3 [(0, .ref ar), (1, .int (nB to))] := hl
  have fr : hp_eqP (fun c9 => c9 = ar ∨ ∃ j, j < n ∧ c9 = ta j) μ μ := fun _ _ => rfl
  refine lv_aload_n hx hb dX1_turn_0 rfl (lv_at hl 0 rfl) ?_
  refine hp_get hx hb hown hS.2.1 hH (F_X1_23.use hS) f_air rfl dX1_turn_1 ?_
  refine lv_iload_n hx hb dX1_turn_4 rfl (lv_at hl 1 rfl) ?_
  refine lv_icmp_ne (tgt := 10) hx hb dX1_turn_5 (by decide) (fun c_5 => ?_) (fun c_5 => ?_)
  · have c_5 : ¬ (on = to) := fun z => c_5 (nB_eq.mpr z)
    refine lv_aload_n hx hb dX1_turn_10 rfl (lv_at hl 0 rfl) ?_
    refine lv_iload_n hx hb dX1_turn_11 rfl (lv_at hl 1 rfl) ?_
    refine hp_put hx hb hown hS.2.1 hH (P_X1_23.use hS) f_air (nB_nar _) (nB_fit _) (Nat.le_of_ble_eq_true rfl) dX1_turn_12 (fun H locs μ1 fz fn hH => ?_)
    have f_ts := fun j hj => (fn _ (hp_ne (f_ts j hj) f_air (by simp))).trans (f_ts j hj)
    have f_ss := fun j hj => (fn _ (hp_ne (f_ss j hj) f_air (by simp))).trans (f_ss j hj)
    have hq := hq.keep (fun h9 => fn _ (hp_ne h9 f_air (by simp)))
    have f_l := (fn _ (hp_ne f_l f_air (by simp))).trans f_l
    have f_air : μ1 ar = some (hp_o 0 [.ref l1, .ref f1, .int (nB to), .int (nI sent)]) := fz
    have fr := hp_eqP.put fr (by simp) fn
    clear fz fn
    refine lv_iconst (v := nI 0) hx hb dX1_turn_15 (by decide) ?_
    refine lv_istore_n (lv' := [(2, .int (nI 0)), (0, .ref ar), (1, .int (nB to))]) hx hb dX1_turn_16 rfl hl (by decide) rfl (fun ls hl => ?_)
    have f_ts : ∀ j, j < n → μ1 (ta j) = some (hTG sa lv aw (mixN 0 (fun j => if to = true ∧ aw j = false then 1 else 0) st) le j) := by rw [mixN_0]; exact f_ts
    have lp_17 : ∀ (kk : Nat) (i : Nat), (i ≤ n) → (n - i) < kk → ∀ (μ1 : hp_M) (H : Heap) (locs : List Loc) (ls : Array Slot), (μ1 ar = some (hp_o 0 [.ref l1, .ref f1, .int (nB to), .int (nI sent)])) → (μ1 l1 = some (hp_o 8 [.int (nI mc), .ref q, .int (nI n)])) → (∀ j, j < n → μ1 (ta j) = some (hTG sa lv aw (mixN i (fun j => if to = true ∧ aw j = false then 1 else 0) st) le j)) → (∀ j, j < n → μ1 (sa j) = some (hp_m X 3 (sh j))) → (hLA X μ1 l1 q n f ta) → hp_eqP (fun c9 => c9 = ar ∨ ∃ j, j < n ∧ c9 = ta j) μ1 μ → hp_w X cls μ1 nx H locs → lv_has ls 3 [(0, .ref ar), (1, .int (nB to)), (2, .int (nI i))] → W p l e { frames := 3, cells := 0, slots := 0, locals := 120 } s m [.ref ar, .int (nB to)].toArray below meth c H locs 0 0 (MQ below (hq_i X (po_i nx (nI 1) (fun z => z ar = some (hp_o 0 [.ref l1, .ref f1, .int (nB to), .int (nI sent)]) ∧ z l1 = some (hp_o 8 [.int (nI mc), .ref q, .int (nI n)]) ∧ hLA X z l1 q n f ta ∧ (∀ j, j < n → z (ta j) = some (hTG sa lv aw (fun j => if to = true ∧ aw j = false then 1 else 0) le j)) ∧ (∀ j, j < n → z (sa j) = some (hp_m X 3 (sh j))) ∧ hp_eqP (fun c9 => c9 = ar ∨ ∃ j, j < n ∧ c9 = ta j) z μ))) [.ref ar, .int (nB to)].toArray s 0 0 (hp_A X)) (F0 m 17 ls []) := by
      intro kk
      induction kk with
      | zero =>
        intro i hi hkk
        exact absurd hkk (Nat.not_lt_zero _)
      | succ kk ih =>
        intro i hi hkk μ1 H locs ls f_air f_l f_ts f_ss hq fr hH hl
        refine lv_iload_n hx hb dX1_turn_17 rfl (lv_at hl 2 rfl) ?_
        refine lv_aload_n hx hb dX1_turn_18 rfl (lv_at hl 0 rfl) ?_
        refine hp_get hx hb hown hS.2.1 hH (F_X1_10.use hS) f_air rfl dX1_turn_19 ?_
        refine hp_kip (hp_runV (As := []) (rest := [.int (nI i)]) hx hb hml hown hS hH (c_Jx4a65c_size_8abf5 l X f_l) M_X1_27 I_Jx4a65c_size_8abf5 V_Jx4a65c_size_8abf5 (ci := 8) rfl rfl f_l rfl hl.1 rfl (Nat.le_of_ble_eq_true rfl) dX1_turn_22 ⟨Nat.le_of_ble_eq_true rfl, Nat.le_of_ble_eq_true rfl⟩ ⟨Nat.le_of_ble_eq_true rfl, Nat.le_of_ble_eq_true rfl⟩) hH (fun H locs hH => ?_)
        refine lv_icmp_ge (tgt := 52) hx hb dX1_turn_25 (by decide) (fun c_25 => ?_) (fun c_25 => ?_)
        · have c_25 : n ≤ i := (nI_leI (by omega) (by omega)).mp c_25
          refine lv_iconst (v := nI 1) hx hb dX1_turn_52 (by decide) ?_
          exact hp_ri hx hb hr hlocks hS hH (⟨rfl, rfl, f_air, f_l, hq, fun j hj => (f_ts j hj).trans (by unfold hTG; rw [mixN_n _ _ (show j < i by omega)]), f_ss, fr⟩) dX1_turn_53
        · have c_25 : ¬ (n ≤ i) := fun z => c_25 ((nI_leI (by omega) (by omega)).mpr z)
          refine lv_aload_n hx hb dX1_turn_28 rfl (lv_at hl 0 rfl) ?_
          refine hp_get hx hb hown hS.2.1 hH (F_X1_10.use hS) f_air rfl dX1_turn_29 ?_
          refine lv_iload_n hx hb dX1_turn_32 rfl (lv_at hl 2 rfl) ?_
          obtain ⟨hn0, f_q, hf⟩ := hq.resolve_left (by omega)
          have hcap := capN_le n hn16
          refine hp_krp (hp_runV (As := [.int (nI i)]) (rest := []) hx hb hml hown hS hH (c_Jx4a65c_get_915e3 l X (i := i) (by omega) hcap.1 (by omega) (hf _ (by omega)) f_l f_q) M_X1_31 I_Jx4a65c_get_915e3 V_Jx4a65c_get_915e3 (ci := 8) rfl rfl f_l rfl hl.1 rfl (Nat.le_of_ble_eq_true rfl) dX1_turn_33 ⟨Nat.le_of_ble_eq_true rfl, Nat.le_of_ble_eq_true rfl⟩ ⟨Nat.le_of_ble_eq_true rfl, Nat.le_of_ble_eq_true rfl⟩) hH (fun H locs hH => ?_)
          have f_t := f_ts i (by omega)
          rw [show hTG sa lv aw (mixN i (fun j => if to = true ∧ aw j = false then 1 else 0) st) le i = hTG sa lv aw st le i by unfold hTG; rw [mixN_i]] at f_t
          refine va_castY (C := RX9) hx hb hown (hS.1 _ NL_X1_35 _) (hS.1 _ wl_tt #[]) (hp_recv hS.2.1 hH (ci := 5) rfl f_t) dX1_turn_36 ?_
          refine lv_aload_n hx hb dX1_turn_39 rfl (lv_at hl 0 rfl) ?_
          refine hp_get hx hb hown hS.2.1 hH (F_X1_23.use hS) f_air rfl dX1_turn_40 ?_
          have f_tso := f_ts
          refine hp_kvm (hp_runV (As := [.int (nB to)]) (rest := []) hx hb hml hown hS hH (c_X9_beginAnew l X (on := to) f_t) M_X1_41 I_X9_beginAnew V_X9_beginAnew (ci := 5) rfl rfl f_t rfl hl.1 rfl (Nat.le_of_ble_eq_true rfl) dX1_turn_43 ⟨Nat.le_of_ble_eq_true rfl, Nat.le_of_ble_eq_true rfl⟩ ⟨Nat.le_of_ble_eq_true rfl, Nat.le_of_ble_eq_true rfl⟩) hH (fun μ1 H locs hp hH => ?_)
          obtain ⟨fz0, fe⟩ := hp
          have f_ss := fun j hj => (hp_e1 fe (hp_ne (f_ss j hj) f_t (by simp))).trans (f_ss j hj)
          have hq := hq.keep (fun h9 => hp_e1 fe (hp_ne h9 f_t (by simp)))
          have f_air := (hp_e1 fe (hp_ne f_air f_t (by simp))).trans f_air
          have f_l := (hp_e1 fe (hp_ne f_l f_t (by simp))).trans f_l
          have f_t : μ1 (ta i) = some (hp_o 5 [.int (nI (lv i)), .ref (sa i), .int (nB (aw i)), .int (nI (if to = true ∧ aw i = false then 1 else 0)), .int (nI (le i))]) := fz0
          have fr := hp_eqP.tr fe fr (fun q9 hq9 => by rw [List.mem_singleton.mp hq9]; exact Or.inr ⟨i, by omega, rfl⟩)
          clear fz0
          have f_ts : ∀ j, j < n → μ1 (ta j) = some (hTG sa lv aw (mixN (i + 1) (fun j => if to = true ∧ aw j = false then 1 else 0) st) le j) := by
            intro j hj
            by_cases ej : j = i
            · subst ej; unfold hTG; rw [mixN_s]; exact f_t
            · unfold hTG; rw [mixN_o _ _ ej]; exact (hp_e1 fe (fun q9 => ej (hinj j i hj (by omega) q9))).trans (f_tso j hj)
          clear f_tso fe f_t
          refine lv_iinc (v := nI (i + 1)) (lv' := [(2, .int (nI (i + 1))), (0, .ref ar), (1, .int (nB to))]) hx hb dX1_turn_46 hl (k := 2) rfl (nI_add _ 1) (by decide) rfl (fun ls hl => ?_)
          refine lv_goto (tgt := 17) hx hb dX1_turn_49 (by decide) ?_
          exact ih (i + 1) (by omega) (by omega) _ _ _ _ f_air f_l f_ts f_ss hq fr hH (lv_sub hl [1, 2, 0] rfl)
    exact lp_17 ((n - 0) + 1) 0 (Nat.zero_le _) (Nat.lt_succ_self _) _ _ _ _ f_air f_l f_ts f_ss hq fr hH (lv_sub hl [1, 2, 0] rfl)
  · have c_5 : on = to := nB_eq.mp c_5
    exact absurd c_5 hto
