set_option maxHeartbeats 4000000 in
set_option maxRecDepth 100000 in
theorem c_X1_bring_room (l : Launch) (X : hp_X) {μ : hp_M} {nx : Nat} {ar l1 f1 mc q n sent t2 s2 lv2 st2 le2 : Nat} {on aw2 : Bool} {f : Nat → Option Nat} {ta sa lv st le : Nat → Nat} {aw : Nat → Bool} (hnt : ∀ j, j < n → ta j ≠ t2) (f_ts : ∀ j, j < n → μ (ta j) = some (hTG sa lv aw st le j)) (hf : ∀ i, i < n → f i = some (ta i)) (hn0 : 0 < n) (hn16 : n < 16) (h10 : n ≠ 10) (h15 : n ≠ 15) (f_air : μ ar = some (hp_o 0 [.ref l1, .ref f1, .int (nB on), .int (nI sent)])) (f_l : μ l1 = some (hp_o 8 [.int (nI mc), .ref q, .int (nI n)])) (f_q : μ q = some (hp_q X (capN n) f)) (f_t2 : μ t2 = some (hp_o 5 [.int (nI lv2), .ref s2, .int (nB aw2), .int (nI st2), .int (nI le2)])) : Ct l X yX1_bring cX1_bring 2 (some FieldType.int) 7 280 0 0 [.ref ar, .ref t2] μ nx (hq_i X (po_i nx (nI (n + 1)) (fun z => ∃ (q' : Nat) (f' : Nat → Option Nat), z l1 = some (hp_o 8 [.int (nI (mc + 1)), .ref q', .int (nI (n + 1))]) ∧ hLA X z l1 q' (n + 1) f' (setN ta n t2) ∧ z t2 = some (hp_o 5 [.int (nI lv2), .ref s2, .int (nB aw2), .int (nI (if on = true ∧ aw2 = false then 1 else 0)), .int (nI le2)]) ∧ ∀ c9, c9 ≠ l1 → c9 ≠ t2 → c9 ≠ q → c9 < nx → z c9 = μ c9))) := by
  refine hp_met (by decide) (Nat.le_of_ble_eq_true rfl) ?_
  intro p e s m below meth c ls hx hb hml hr hlocks hown hin hS hH hl
  have hl : lv_has ls 2 [(0, .ref ar), (1, .ref t2)] := hl
  have fr : hp_eq [t2, l1, q] μ μ := fun _ _ => rfl
  refine lv_aload_n hx hb dX1_bring_0 rfl (lv_at hl 1 rfl) ?_
  refine lv_aload_n hx hb dX1_bring_1 rfl (lv_at hl 0 rfl) ?_
  refine hp_get hx hb hown hS.2.1 hH (F_X1_23.use hS) f_air rfl dX1_bring_2 ?_
  refine hp_kvm (hp_runV (As := [.int (nB on)]) (rest := []) hx hb hml hown hS hH (c_X9_beginAnew l X (on := on) f_t2) M_X1_41 I_X9_beginAnew V_X9_beginAnew (ci := 5) rfl rfl f_t2 rfl hl.1 rfl (Nat.le_of_ble_eq_true rfl) dX1_bring_5 ⟨Nat.le_of_ble_eq_true rfl, Nat.le_of_ble_eq_true rfl⟩ ⟨Nat.le_of_ble_eq_true rfl, Nat.le_of_ble_eq_true rfl⟩) hH (fun μ1 H locs hp hH => ?_)
  obtain ⟨fz0, fe⟩ := hp
  have f_air := (hp_e1 fe (hp_ne f_air f_t2 (by simp))).trans f_air
  have f_l := (hp_e1 fe (hp_ne f_l f_t2 (by simp))).trans f_l
  have f_q := (hp_e1 fe (hp_ne f_q f_t2 (by simp))).trans f_q
  have f_t2 : μ1 t2 = some (hp_o 5 [.int (nI lv2), .ref s2, .int (nB aw2), .int (nI (if on = true ∧ aw2 = false then 1 else 0)), .int (nI le2)]) := fz0
  have fr := hp_eq.tr1 fe fr (by simp)
  clear fe fz0
  refine lv_aload_n hx hb dX1_bring_8 rfl (lv_at hl 0 rfl) ?_
  refine hp_get hx hb hown hS.2.1 hH (F_X1_10.use hS) f_air rfl dX1_bring_9 ?_
  refine lv_aload_n hx hb dX1_bring_12 rfl (lv_at hl 1 rfl) ?_
  have hcap := capN_s hn16 h10 h15
  have hcap2 := capN_le n (by omega)
  refine hp_kim (hp_runV (As := [.ref t2]) (rest := []) hx hb hml hown hS hH (c_add_room l X hcap.2 (by omega) f_l f_q f_t2) M_X1_45 I_Jx4a65c_add_9ea2d V_Jx4a65c_add_9ea2d (ci := 8) rfl rfl f_l rfl hl.1 rfl (Nat.le_of_ble_eq_true rfl) dX1_bring_13 ⟨Nat.le_of_ble_eq_true rfl, Nat.le_of_ble_eq_true rfl⟩ ⟨Nat.le_of_ble_eq_true rfl, Nat.le_of_ble_eq_true rfl⟩) hH (fun μ1 H locs hp hH => ?_)
  obtain ⟨fz0, fz1, fe⟩ := hp
  have f_air := (hp_e2 fe (hp_ne f_air f_l (by simp)) (hp_ne f_air f_q (by simp))).trans f_air
  have f_t2 := (hp_e2 fe (hp_ne f_t2 f_l (by simp)) (hp_ne f_t2 f_q (by simp))).trans f_t2
  have f_l : μ1 l1 = some (hp_o 8 [.int (nI (mc + 1)), .ref q, .int (nI (n + 1))]) := fz0
  have f_q : μ1 q = some (hp_q X (capN n) (va_up f n (some t2))) := fz1
  have fr := hp_eq.tr2 fe fr (by simp) (by simp)
  clear fe fz0 fz1
  refine lv_pop hx hb dX1_bring_16 rfl ?_
  refine lv_aload_n hx hb dX1_bring_17 rfl (lv_at hl 0 rfl) ?_
  refine hp_get hx hb hown hS.2.1 hH (F_X1_10.use hS) f_air rfl dX1_bring_18 ?_
  refine hp_kip (hp_runV (As := []) (rest := []) hx hb hml hown hS hH (c_Jx4a65c_size_8abf5 l X f_l) M_X1_27 I_Jx4a65c_size_8abf5 V_Jx4a65c_size_8abf5 (ci := 8) rfl rfl f_l rfl hl.1 rfl (Nat.le_of_ble_eq_true rfl) dX1_bring_21 ⟨Nat.le_of_ble_eq_true rfl, Nat.le_of_ble_eq_true rfl⟩ ⟨Nat.le_of_ble_eq_true rfl, Nat.le_of_ble_eq_true rfl⟩) hH (fun H locs hH => ?_)
  exact hp_ri hx hb hr hlocks hS hH (⟨rfl, rfl, q, _, f_l, hLA_add rfl (by rw [hcap.1]; exact f_q) hf, f_t2, fun c9 h1 h2 h3 h4 => fr c9 (by simp [h1, h2, h3])⟩) dX1_bring_24

set_option maxHeartbeats 4000000 in
set_option maxRecDepth 100000 in
theorem c_X1_bring_first (l : Launch) (X : hp_X) {μ : hp_M} {nx : Nat} {ar l1 f1 mc sent t2 s2 lv2 st2 le2 : Nat} {on aw2 : Bool} {ta : Nat → Nat}  (f_air : μ ar = some (hp_o 0 [.ref l1, .ref f1, .int (nB on), .int (nI sent)])) (f_l : μ l1 = some (hp_o 8 [.int (nI mc), .ref (X.2.2.2 16), .int (nI 0)])) (f_t2 : μ t2 = some (hp_o 5 [.int (nI lv2), .ref s2, .int (nB aw2), .int (nI st2), .int (nI le2)])) : Ct l X yX1_bring cX1_bring 2 (some FieldType.int) 7 280 1 10 [.ref ar, .ref t2] μ nx (hq_i X (po_i (nx + 1) (nI 1) (fun z => ∃ (q' : Nat) (f' : Nat → Option Nat), z l1 = some (hp_o 8 [.int (nI (mc + 1)), .ref q', .int (nI (1))]) ∧ hLA X z l1 q' (1) f' (setN ta 0 t2) ∧ z t2 = some (hp_o 5 [.int (nI lv2), .ref s2, .int (nB aw2), .int (nI (if on = true ∧ aw2 = false then 1 else 0)), .int (nI le2)]) ∧ ∀ c9, c9 ≠ l1 → c9 ≠ t2 → c9 < nx → z c9 = μ c9))) := by
  refine hp_met (by decide) (Nat.le_of_ble_eq_true rfl) ?_
  intro p e s m below meth c ls hx hb hml hr hlocks hown hin hS hH hl
  have hl : lv_has ls 2 [(0, .ref ar), (1, .ref t2)] := hl
  have fr : hp_eq [t2, l1, nx] μ μ := fun _ _ => rfl
  have hlt_l := hH.lt f_l
  have hlt_t2 := hH.lt f_t2
  have hlt_a := hH.lt f_air
  refine lv_aload_n hx hb dX1_bring_0 rfl (lv_at hl 1 rfl) ?_
  refine lv_aload_n hx hb dX1_bring_1 rfl (lv_at hl 0 rfl) ?_
  refine hp_get hx hb hown hS.2.1 hH (F_X1_23.use hS) f_air rfl dX1_bring_2 ?_
  refine hp_kvm (hp_runV (As := [.int (nB on)]) (rest := []) hx hb hml hown hS hH (c_X9_beginAnew l X (on := on) f_t2) M_X1_41 I_X9_beginAnew V_X9_beginAnew (ci := 5) rfl rfl f_t2 rfl hl.1 rfl (Nat.le_of_ble_eq_true rfl) dX1_bring_5 ⟨Nat.le_of_ble_eq_true rfl, Nat.le_of_ble_eq_true rfl⟩ ⟨Nat.le_of_ble_eq_true rfl, Nat.le_of_ble_eq_true rfl⟩) hH (fun μ1 H locs hp hH => ?_)
  obtain ⟨fz0, fe⟩ := hp
  have f_air := (hp_e1 fe (hp_ne f_air f_t2 (by simp))).trans f_air
  have f_l := (hp_e1 fe (hp_ne f_l f_t2 (by simp))).trans f_l
  have f_t2 : μ1 t2 = some (hp_o 5 [.int (nI lv2), .ref s2, .int (nB aw2), .int (nI (if on = true ∧ aw2 = false then 1 else 0)), .int (nI le2)]) := fz0
  have fr := hp_eq.tr1 fe fr (by simp)
  clear fe fz0
  refine lv_aload_n hx hb dX1_bring_8 rfl (lv_at hl 0 rfl) ?_
  refine hp_get hx hb hown hS.2.1 hH (F_X1_10.use hS) f_air rfl dX1_bring_9 ?_
  refine lv_aload_n hx hb dX1_bring_12 rfl (lv_at hl 1 rfl) ?_
  have hO := hH
  refine hp_kim (hp_runV (As := [.ref t2]) (rest := []) hx hb hml hown hS hH (c_add_first l X f_l f_t2) M_X1_45 I_Jx4a65c_add_9ea2d V_Jx4a65c_add_9ea2d (ci := 8) rfl rfl f_l rfl hl.1 rfl (Nat.le_of_ble_eq_true rfl) dX1_bring_13 ⟨Nat.le_of_ble_eq_true rfl, Nat.le_of_ble_eq_true rfl⟩ ⟨Nat.le_of_ble_eq_true rfl, Nat.le_of_ble_eq_true rfl⟩) hH (fun μ1 H locs hp hH => ?_)
  obtain ⟨fz0, fz1, fe⟩ := hp
  have f_air := (hp_e2 fe (hp_ne f_air f_l (by simp)) (Nat.ne_of_lt (hO.lt f_air))).trans f_air
  have f_t2 := (hp_e2 fe (hp_ne f_t2 f_l (by simp)) (Nat.ne_of_lt (hO.lt f_t2))).trans f_t2
  have f_l : μ1 l1 = some (hp_o 8 [.int (nI (mc + 1)), .ref nx, .int (nI 1)]) := fz0
  have f_n0 : μ1 nx = some (hp_q X 10 (va_up (fun _ => none) 0 (some t2))) := fz1
  have fr := hp_eq.tr2 fe fr (by simp) (by simp)
  clear fe fz0 fz1 hO
  refine lv_pop hx hb dX1_bring_16 rfl ?_
  refine lv_aload_n hx hb dX1_bring_17 rfl (lv_at hl 0 rfl) ?_
  refine hp_get hx hb hown hS.2.1 hH (F_X1_10.use hS) f_air rfl dX1_bring_18 ?_
  refine hp_kip (hp_runV (As := []) (rest := []) hx hb hml hown hS hH (c_Jx4a65c_size_8abf5 l X f_l) M_X1_27 I_Jx4a65c_size_8abf5 V_Jx4a65c_size_8abf5 (ci := 8) rfl rfl f_l rfl hl.1 rfl (Nat.le_of_ble_eq_true rfl) dX1_bring_21 ⟨Nat.le_of_ble_eq_true rfl, Nat.le_of_ble_eq_true rfl⟩ ⟨Nat.le_of_ble_eq_true rfl, Nat.le_of_ble_eq_true rfl⟩) hH (fun H locs hH => ?_)
  refine W.widen (k := 1) (n := 10) (by decide) (by decide) ?_
  exact hp_ri hx hb hr hlocks hS hH (⟨rfl, rfl, nx, _, f_l, hLA_add (n := 0) rfl f_n0 (fun i hi => absurd hi (Nat.not_lt_zero _)), f_t2, fun c9 h1 h2 h4 => fr c9 (by simp [h1, h2]; omega)⟩) dX1_bring_24

set_option maxHeartbeats 4000000 in
set_option maxRecDepth 100000 in
theorem c_X1_bring_10 (l : Launch) (X : hp_X) {μ : hp_M} {nx : Nat} {ar l1 f1 mc q sent t2 s2 lv2 st2 le2 : Nat} {on aw2 : Bool} {f : Nat → Option Nat} {ta sa lv st le : Nat → Nat} {aw : Nat → Bool} (hnt : ∀ j, j < 10 → ta j ≠ t2) (f_ts : ∀ j, j < 10 → μ (ta j) = some (hTG sa lv aw st le j)) (hf : ∀ i, i < 10 → f i = some (ta i))  (f_air : μ ar = some (hp_o 0 [.ref l1, .ref f1, .int (nB on), .int (nI sent)])) (f_l : μ l1 = some (hp_o 8 [.int (nI mc), .ref q, .int (nI 10)])) (f_q : μ q = some (hp_q X 10 f)) (f_t2 : μ t2 = some (hp_o 5 [.int (nI lv2), .ref s2, .int (nB aw2), .int (nI st2), .int (nI le2)])) : Ct l X yX1_bring cX1_bring 2 (some FieldType.int) 7 280 1 15 [.ref ar, .ref t2] μ nx (hq_i X (po_i (nx + 1) (nI 11) (fun z => ∃ (q' : Nat) (f' : Nat → Option Nat), z l1 = some (hp_o 8 [.int (nI (mc + 1)), .ref q', .int (nI (11))]) ∧ hLA X z l1 q' (11) f' (setN ta 10 t2) ∧ z t2 = some (hp_o 5 [.int (nI lv2), .ref s2, .int (nB aw2), .int (nI (if on = true ∧ aw2 = false then 1 else 0)), .int (nI le2)]) ∧ ∀ c9, c9 ≠ l1 → c9 ≠ t2 → c9 ≠ q → c9 < nx → z c9 = μ c9))) := by
  refine hp_met (by decide) (Nat.le_of_ble_eq_true rfl) ?_
  intro p e s m below meth c ls hx hb hml hr hlocks hown hin hS hH hl
  have hl : lv_has ls 2 [(0, .ref ar), (1, .ref t2)] := hl
  have fr : hp_eq [t2, l1, nx] μ μ := fun _ _ => rfl
  have hlt_l := hH.lt f_l
  have hlt_t2 := hH.lt f_t2
  have hlt_a := hH.lt f_air
  have hlt_q := hH.lt f_q
  refine lv_aload_n hx hb dX1_bring_0 rfl (lv_at hl 1 rfl) ?_
  refine lv_aload_n hx hb dX1_bring_1 rfl (lv_at hl 0 rfl) ?_
  refine hp_get hx hb hown hS.2.1 hH (F_X1_23.use hS) f_air rfl dX1_bring_2 ?_
  refine hp_kvm (hp_runV (As := [.int (nB on)]) (rest := []) hx hb hml hown hS hH (c_X9_beginAnew l X (on := on) f_t2) M_X1_41 I_X9_beginAnew V_X9_beginAnew (ci := 5) rfl rfl f_t2 rfl hl.1 rfl (Nat.le_of_ble_eq_true rfl) dX1_bring_5 ⟨Nat.le_of_ble_eq_true rfl, Nat.le_of_ble_eq_true rfl⟩ ⟨Nat.le_of_ble_eq_true rfl, Nat.le_of_ble_eq_true rfl⟩) hH (fun μ1 H locs hp hH => ?_)
  obtain ⟨fz0, fe⟩ := hp
  have f_air := (hp_e1 fe (hp_ne f_air f_t2 (by simp))).trans f_air
  have f_l := (hp_e1 fe (hp_ne f_l f_t2 (by simp))).trans f_l
  have f_q := (hp_e1 fe (hp_ne f_q f_t2 (by simp))).trans f_q
  have f_t2 : μ1 t2 = some (hp_o 5 [.int (nI lv2), .ref s2, .int (nB aw2), .int (nI (if on = true ∧ aw2 = false then 1 else 0)), .int (nI le2)]) := fz0
  have fr := hp_eq.tr1 fe fr (by simp)
  clear fz0
  have fe9 := fe
  refine lv_aload_n hx hb dX1_bring_8 rfl (lv_at hl 0 rfl) ?_
  refine hp_get hx hb hown hS.2.1 hH (F_X1_10.use hS) f_air rfl dX1_bring_9 ?_
  refine lv_aload_n hx hb dX1_bring_12 rfl (lv_at hl 1 rfl) ?_
  have hO := hH
  refine hp_kim (hp_runV (As := [.ref t2]) (rest := []) hx hb hml hown hS hH (c_add_10 l X (fun i hi y hy => ⟨_, by have e9 := hf i hi; rw [hy] at e9; cases e9; exact (hp_e1 fe9 (hnt i hi)).trans (f_ts i hi)⟩) f_l f_q f_t2) M_X1_45 I_Jx4a65c_add_9ea2d V_Jx4a65c_add_9ea2d (ci := 8) rfl rfl f_l rfl hl.1 rfl (Nat.le_of_ble_eq_true rfl) dX1_bring_13 ⟨Nat.le_of_ble_eq_true rfl, Nat.le_of_ble_eq_true rfl⟩ ⟨Nat.le_of_ble_eq_true rfl, Nat.le_of_ble_eq_true rfl⟩) hH (fun μ1 H locs hp hH => ?_)
  obtain ⟨fz0, fz1, fe⟩ := hp
  have f_air := (hp_e2 fe (hp_ne f_air f_l (by simp)) (Nat.ne_of_lt (hO.lt f_air))).trans f_air
  have f_q := (hp_e2 fe (hp_ne f_q f_l (by simp)) (Nat.ne_of_lt (hO.lt f_q))).trans f_q
  have f_t2 := (hp_e2 fe (hp_ne f_t2 f_l (by simp)) (Nat.ne_of_lt (hO.lt f_t2))).trans f_t2
  have f_l : μ1 l1 = some (hp_o 8 [.int (nI (mc + 1)), .ref nx, .int (nI 11)]) := fz0
  have f_n0 : μ1 nx = some (hp_q X 15 (va_up (va_cpy f (fun _ => none) 0 0 10) 10 (some t2))) := fz1
  have fr := hp_eq.tr2 fe fr (by simp) (by simp)
  clear fe fz0 fz1 hO
  refine lv_pop hx hb dX1_bring_16 rfl ?_
  refine lv_aload_n hx hb dX1_bring_17 rfl (lv_at hl 0 rfl) ?_
  refine hp_get hx hb hown hS.2.1 hH (F_X1_10.use hS) f_air rfl dX1_bring_18 ?_
  refine hp_kip (hp_runV (As := []) (rest := []) hx hb hml hown hS hH (c_Jx4a65c_size_8abf5 l X f_l) M_X1_27 I_Jx4a65c_size_8abf5 V_Jx4a65c_size_8abf5 (ci := 8) rfl rfl f_l rfl hl.1 rfl (Nat.le_of_ble_eq_true rfl) dX1_bring_21 ⟨Nat.le_of_ble_eq_true rfl, Nat.le_of_ble_eq_true rfl⟩ ⟨Nat.le_of_ble_eq_true rfl, Nat.le_of_ble_eq_true rfl⟩) hH (fun H locs hH => ?_)
  refine W.widen (k := 1) (n := 15) (by decide) (by decide) ?_
  exact hp_ri hx hb hr hlocks hS hH (⟨rfl, rfl, nx, _, f_l, hLA_add (n := 10) rfl f_n0 (fun i hi => (cpy0 hi).trans (hf i hi)), f_t2, fun c9 h1 h2 h3 h4 => fr c9 (by simp [h1, h2]; omega)⟩) dX1_bring_24

set_option maxHeartbeats 4000000 in
set_option maxRecDepth 100000 in
theorem c_X1_bring_15 (l : Launch) (X : hp_X) {μ : hp_M} {nx : Nat} {ar l1 f1 mc q sent t2 s2 lv2 st2 le2 : Nat} {on aw2 : Bool} {f : Nat → Option Nat} {ta sa lv st le : Nat → Nat} {aw : Nat → Bool} (hnt : ∀ j, j < 15 → ta j ≠ t2) (f_ts : ∀ j, j < 15 → μ (ta j) = some (hTG sa lv aw st le j)) (hf : ∀ i, i < 15 → f i = some (ta i))  (f_air : μ ar = some (hp_o 0 [.ref l1, .ref f1, .int (nB on), .int (nI sent)])) (f_l : μ l1 = some (hp_o 8 [.int (nI mc), .ref q, .int (nI 15)])) (f_q : μ q = some (hp_q X 15 f)) (f_t2 : μ t2 = some (hp_o 5 [.int (nI lv2), .ref s2, .int (nB aw2), .int (nI st2), .int (nI le2)])) : Ct l X yX1_bring cX1_bring 2 (some FieldType.int) 7 280 1 22 [.ref ar, .ref t2] μ nx (hq_i X (po_i (nx + 1) (nI 16) (fun z => ∃ (q' : Nat) (f' : Nat → Option Nat), z l1 = some (hp_o 8 [.int (nI (mc + 1)), .ref q', .int (nI (16))]) ∧ hLA X z l1 q' (16) f' (setN ta 15 t2) ∧ z t2 = some (hp_o 5 [.int (nI lv2), .ref s2, .int (nB aw2), .int (nI (if on = true ∧ aw2 = false then 1 else 0)), .int (nI le2)]) ∧ ∀ c9, c9 ≠ l1 → c9 ≠ t2 → c9 ≠ q → c9 < nx → z c9 = μ c9))) := by
  refine hp_met (by decide) (Nat.le_of_ble_eq_true rfl) ?_
  intro p e s m below meth c ls hx hb hml hr hlocks hown hin hS hH hl
  have hl : lv_has ls 2 [(0, .ref ar), (1, .ref t2)] := hl
  have fr : hp_eq [t2, l1, nx] μ μ := fun _ _ => rfl
  have hlt_l := hH.lt f_l
  have hlt_t2 := hH.lt f_t2
  have hlt_a := hH.lt f_air
  have hlt_q := hH.lt f_q
  refine lv_aload_n hx hb dX1_bring_0 rfl (lv_at hl 1 rfl) ?_
  refine lv_aload_n hx hb dX1_bring_1 rfl (lv_at hl 0 rfl) ?_
  refine hp_get hx hb hown hS.2.1 hH (F_X1_23.use hS) f_air rfl dX1_bring_2 ?_
  refine hp_kvm (hp_runV (As := [.int (nB on)]) (rest := []) hx hb hml hown hS hH (c_X9_beginAnew l X (on := on) f_t2) M_X1_41 I_X9_beginAnew V_X9_beginAnew (ci := 5) rfl rfl f_t2 rfl hl.1 rfl (Nat.le_of_ble_eq_true rfl) dX1_bring_5 ⟨Nat.le_of_ble_eq_true rfl, Nat.le_of_ble_eq_true rfl⟩ ⟨Nat.le_of_ble_eq_true rfl, Nat.le_of_ble_eq_true rfl⟩) hH (fun μ1 H locs hp hH => ?_)
  obtain ⟨fz0, fe⟩ := hp
  have f_air := (hp_e1 fe (hp_ne f_air f_t2 (by simp))).trans f_air
  have f_l := (hp_e1 fe (hp_ne f_l f_t2 (by simp))).trans f_l
  have f_q := (hp_e1 fe (hp_ne f_q f_t2 (by simp))).trans f_q
  have f_t2 : μ1 t2 = some (hp_o 5 [.int (nI lv2), .ref s2, .int (nB aw2), .int (nI (if on = true ∧ aw2 = false then 1 else 0)), .int (nI le2)]) := fz0
  have fr := hp_eq.tr1 fe fr (by simp)
  clear fz0
  have fe9 := fe
  refine lv_aload_n hx hb dX1_bring_8 rfl (lv_at hl 0 rfl) ?_
  refine hp_get hx hb hown hS.2.1 hH (F_X1_10.use hS) f_air rfl dX1_bring_9 ?_
  refine lv_aload_n hx hb dX1_bring_12 rfl (lv_at hl 1 rfl) ?_
  have hO := hH
  refine hp_kim (hp_runV (As := [.ref t2]) (rest := []) hx hb hml hown hS hH (c_add_15 l X (fun i hi y hy => ⟨_, by have e9 := hf i hi; rw [hy] at e9; cases e9; exact (hp_e1 fe9 (hnt i hi)).trans (f_ts i hi)⟩) f_l f_q f_t2) M_X1_45 I_Jx4a65c_add_9ea2d V_Jx4a65c_add_9ea2d (ci := 8) rfl rfl f_l rfl hl.1 rfl (Nat.le_of_ble_eq_true rfl) dX1_bring_13 ⟨Nat.le_of_ble_eq_true rfl, Nat.le_of_ble_eq_true rfl⟩ ⟨Nat.le_of_ble_eq_true rfl, Nat.le_of_ble_eq_true rfl⟩) hH (fun μ1 H locs hp hH => ?_)
  obtain ⟨fz0, fz1, fe⟩ := hp
  have f_air := (hp_e2 fe (hp_ne f_air f_l (by simp)) (Nat.ne_of_lt (hO.lt f_air))).trans f_air
  have f_q := (hp_e2 fe (hp_ne f_q f_l (by simp)) (Nat.ne_of_lt (hO.lt f_q))).trans f_q
  have f_t2 := (hp_e2 fe (hp_ne f_t2 f_l (by simp)) (Nat.ne_of_lt (hO.lt f_t2))).trans f_t2
  have f_l : μ1 l1 = some (hp_o 8 [.int (nI (mc + 1)), .ref nx, .int (nI 16)]) := fz0
  have f_n0 : μ1 nx = some (hp_q X 22 (va_up (va_cpy f (fun _ => none) 0 0 15) 15 (some t2))) := fz1
  have fr := hp_eq.tr2 fe fr (by simp) (by simp)
  clear fe fz0 fz1 hO
  refine lv_pop hx hb dX1_bring_16 rfl ?_
  refine lv_aload_n hx hb dX1_bring_17 rfl (lv_at hl 0 rfl) ?_
  refine hp_get hx hb hown hS.2.1 hH (F_X1_10.use hS) f_air rfl dX1_bring_18 ?_
  refine hp_kip (hp_runV (As := []) (rest := []) hx hb hml hown hS hH (c_Jx4a65c_size_8abf5 l X f_l) M_X1_27 I_Jx4a65c_size_8abf5 V_Jx4a65c_size_8abf5 (ci := 8) rfl rfl f_l rfl hl.1 rfl (Nat.le_of_ble_eq_true rfl) dX1_bring_21 ⟨Nat.le_of_ble_eq_true rfl, Nat.le_of_ble_eq_true rfl⟩ ⟨Nat.le_of_ble_eq_true rfl, Nat.le_of_ble_eq_true rfl⟩) hH (fun H locs hH => ?_)
  refine W.widen (k := 1) (n := 22) (by decide) (by decide) ?_
  exact hp_ri hx hb hr hlocks hS hH (⟨rfl, rfl, nx, _, f_l, hLA_add (n := 15) rfl f_n0 (fun i hi => (cpy0 hi).trans (hf i hi)), f_t2, fun c9 h1 h2 h3 h4 => fr c9 (by simp [h1, h2]; omega)⟩) dX1_bring_24

set_option maxHeartbeats 4000000 in
set_option maxRecDepth 100000 in
theorem c_X1_send (l : Launch) (X : hp_X) {μ : hp_M} {nx : Nat} {ar l1 f1 mc q n sent : Nat} {on : Bool} {f : Nat → Option Nat} {ta sa lv st le : Nat → Nat} {aw : Nat → Bool} {sh : Nat → Nat → Nat} {k0 lv0 se0 td0 tc0 r b room size a aon aze alen : Nat} {rb : Nat → Nat} (h01 : ∀ j, rb j < 2) (hr1 : room < 2 ^ 20) (hs1 : size ≤ room) (hsent : sent < 2 ^ 30) (hq : hLA X μ l1 q n f ta) (hn16 : n ≤ 16) (f_ts : ∀ j, j < n → μ (ta j) = some (hTG sa lv aw st le j)) (f_ss : ∀ j, j < n → μ (sa j) = some (hp_m X 3 (sh j))) (hlv : ∀ j, j < n → 1 ≤ lv j ∧ lv j ≤ 3) (hst : ∀ j, j < n → st j < 8) (hle : ∀ j, j < n → 1 ≤ le j ∧ le j ≤ 3) (hsh : ∀ j, j < n → ∀ i, sh j i < 2 ^ 40) (hinj : ∀ i j, i < n → j < n → ta i = ta j → i = j) (f_air : μ ar = some (hp_o 0 [.ref l1, .ref f1, .int (nB on), .int (nI sent)])) (f_l : μ l1 = some (hp_o 8 [.int (nI mc), .ref q, .int (nI n)])) (f_f : μ f1 = some (hp_o 2 [.ref (X.2.2.2 k0), .int (nI lv0), .int (nI se0), .long (lN td0), .int (nI tc0)])) (f_r : μ r = some (hp_o 4 [.ref b, .int (nI size)])) (f_b : μ b = some (hp_n X room rb)) (f_a : μ a = some (hp_o 1 [.long (lN aon), .long (lN aze), .int (nI alen)])) : Ct l X yX1_send cX1_send 5 (some FieldType.int) 4 160 0 0 [.ref ar, .ref r, .ref a] μ nx (hq_i X (po_i nx (nI (anL (tgN (rdK rb size) (lvOf (valN rb size 0 8)) (rdT rb size) (rdC rb size) lv st le sh) n)) (fun z => z ar = some (hp_o 0 [.ref l1, .ref f1, .int (nB on), .int (nI (sent + 1))]) ∧ z l1 = some (hp_o 8 [.int (nI mc), .ref q, .int (nI n)]) ∧ hLA X z l1 q n f ta ∧ (∀ j, j < n → z (ta j) = some (hTG sa lv aw (tgS (rdK rb size) (lvOf (valN rb size 0 8)) (rdT rb size) (rdC rb size) lv st le sh) (tgL (rdK rb size) (lvOf (valN rb size 0 8)) (rdT rb size) (rdC rb size) lv st le sh) j)) ∧ (∀ j, j < n → z (sa j) = some (hp_m X 3 (sh j))) ∧ (∃ k1 lv1 se1 td1 tc1 : Nat, z f1 = some (hp_o 2 [.ref (X.2.2.2 k1), .int (nI lv1), .int (nI se1), .long (lN td1), .int (nI tc1)])) ∧ z a = some (hp_o 1 [.long (lN (anO (tgB (rdK rb size) (lvOf (valN rb size 0 8)) (valN rb size 9 8) (rdT rb size) (rdC rb size) lv st le sh) (tgN (rdK rb size) (lvOf (valN rb size 0 8)) (rdT rb size) (rdC rb size) lv st le sh) n)), .long (lN (anZ (tgB (rdK rb size) (lvOf (valN rb size 0 8)) (valN rb size 9 8) (rdT rb size) (rdC rb size) lv st le sh) (tgN (rdK rb size) (lvOf (valN rb size 0 8)) (rdT rb size) (rdC rb size) lv st le sh) n)), .int (nI (anL (tgN (rdK rb size) (lvOf (valN rb size 0 8)) (rdT rb size) (rdC rb size) lv st le sh) n))]) ∧ hp_eqP (fun c9 => c9 = ar ∨ c9 = f1 ∨ c9 = a ∨ ∃ j, j < n ∧ c9 = ta j) z μ))) := by
  refine hp_met (by decide) (Nat.le_of_ble_eq_true rfl) ?_
  intro p e s m below meth c ls hx hb hml hr hlocks hown hin hS hH hl
  have hl : lv_has ls 5 [(0, .ref ar), (1, .ref r), (2, .ref a)] := hl
  have fr : hp_eqP (fun c9 => c9 = ar ∨ c9 = f1 ∨ c9 = a ∨ ∃ j, j < n ∧ c9 = ta j) μ μ := fun _ _ => rfl
  refine lv_aload_n hx hb dX1_send_0 rfl (lv_at hl 0 rfl) ?_
  refine lv_dup hx hb dX1_send_1 rfl ?_
  refine hp_get hx hb hown hS.2.1 hH (F_X1_56.use hS) f_air rfl dX1_send_2 ?_
  refine lv_iconst (v := nI 1) hx hb dX1_send_5 (by decide) ?_
  refine lv_iadd hx hb dX1_send_6 ?_
  refine hp_eqi (z := nI (sent + 1)) (nI_add _ _) ?_
  refine hp_put hx hb hown hS.2.1 hH (P_X1_56.use hS) f_air rfl rfl (Nat.le_of_ble_eq_true rfl) dX1_send_7 (fun H locs μ1 fz fn hH => ?_)
  have f_ts := fun j hj => (fn _ (hp_ne (f_ts j hj) f_air (by simp))).trans (f_ts j hj)
  have f_ss := fun j hj => (fn _ (hp_ne (f_ss j hj) f_air (by simp))).trans (f_ss j hj)
  have hq := hq.keep (fun h9 => fn _ (hp_ne h9 f_air (by simp)))
  have f_l := (fn _ (hp_ne f_l f_air (by simp))).trans f_l
  have f_f := (fn _ (hp_ne f_f f_air (by simp))).trans f_f
  have f_r := (fn _ (hp_ne f_r f_air (by simp))).trans f_r
  have f_b := (fn _ (hp_ne f_b f_air (by simp))).trans f_b
  have f_a := (fn _ (hp_ne f_a f_air (by simp))).trans f_a
  have f_air : μ1 ar = some (hp_o 0 [.ref l1, .ref f1, .int (nB on), .int (nI (sent + 1))]) := fz
  have fr := hp_eqP.put fr (by simp) fn
  clear fz fn
  refine lv_aload_n hx hb dX1_send_10 rfl (lv_at hl 2 rfl) ?_
  refine hp_kvm (hp_runV (As := []) (rest := []) hx hb hml hown hS hH (c_X2_clear l X f_a) M_X1_60 I_X2_clear V_X2_clear (ci := 1) rfl rfl f_a rfl hl.1 rfl (Nat.le_of_ble_eq_true rfl) dX1_send_11 ⟨Nat.le_of_ble_eq_true rfl, Nat.le_of_ble_eq_true rfl⟩ ⟨Nat.le_of_ble_eq_true rfl, Nat.le_of_ble_eq_true rfl⟩) hH (fun μ1 H locs hp hH => ?_)
  obtain ⟨fz0, fe⟩ := hp
  have f_ts := fun j hj => (hp_e1 fe (hp_ne (f_ts j hj) f_a (by simp))).trans (f_ts j hj)
  have f_ss := fun j hj => (hp_e1 fe (hp_ne (f_ss j hj) f_a (by simp))).trans (f_ss j hj)
  have hq := hq.keep (fun h9 => hp_e1 fe (hp_ne h9 f_a (by simp)))
  have f_air := (hp_e1 fe (hp_ne f_air f_a (by simp))).trans f_air
  have f_l := (hp_e1 fe (hp_ne f_l f_a (by simp))).trans f_l
  have f_f := (hp_e1 fe (hp_ne f_f f_a (by simp))).trans f_f
  have f_r := (hp_e1 fe (hp_ne f_r f_a (by simp))).trans f_r
  have f_b := (hp_e1 fe (hp_ne f_b f_a (by simp))).trans f_b
  have f_a : μ1 a = some (hp_o 1 [.long (lN 0), .long (lN 0), .int (nI 0)]) := fz0
  have fr := hp_eqP.tr fe fr (fun q9 hq9 => by rw [List.mem_singleton.mp hq9]; first | exact Or.inr (Or.inl rfl) | exact Or.inr (Or.inr (Or.inl rfl)) | exact Or.inr (Or.inr (Or.inr ⟨i, by omega, rfl⟩)))
  clear fe fz0
  refine lv_aload_n hx hb dX1_send_14 rfl (lv_at hl 0 rfl) ?_
  refine hp_get hx hb hown hS.2.1 hH (F_X1_19.use hS) f_air rfl dX1_send_15 ?_
  refine lv_aload_n hx hb dX1_send_18 rfl (lv_at hl 1 rfl) ?_
  refine hp_kvm (hp_runV (As := [.ref r]) (rest := []) hx hb hml hown hS hH (c_X4_read l X h01 hr1 hs1 f_f f_r f_b) M_X1_65 I_X4_read V_X4_read (ci := 2) rfl rfl f_f rfl hl.1 rfl (Nat.le_of_ble_eq_true rfl) dX1_send_19 ⟨Nat.le_of_ble_eq_true rfl, Nat.le_of_ble_eq_true rfl⟩ ⟨Nat.le_of_ble_eq_true rfl, Nat.le_of_ble_eq_true rfl⟩) hH (fun μ1 H locs hp hH => ?_)
  obtain ⟨td, tc, fz0, h3, h4, fe⟩ := hp
  have f_ts := fun j hj => (hp_e1 fe (hp_ne (f_ts j hj) f_f (by simp))).trans (f_ts j hj)
  have f_ss := fun j hj => (hp_e1 fe (hp_ne (f_ss j hj) f_f (by simp))).trans (f_ss j hj)
  have hq := hq.keep (fun h9 => hp_e1 fe (hp_ne h9 f_f (by simp)))
  have f_air := (hp_e1 fe (hp_ne f_air f_f (by simp))).trans f_air
  have f_l := (hp_e1 fe (hp_ne f_l f_f (by simp))).trans f_l
  have f_r := (hp_e1 fe (hp_ne f_r f_f (by simp))).trans f_r
  have f_b := (hp_e1 fe (hp_ne f_b f_f (by simp))).trans f_b
  have f_a := (hp_e1 fe (hp_ne f_a f_f (by simp))).trans f_a
  have f_f : μ1 f1 = some (hp_o 2 [.ref (X.2.2.2 (rdK rb size)), .int (nI (lvOf (valN rb size 0 8))), .int (nI (valN rb size 9 8)), .long (lN td), .int (nI tc)]) := fz0
  have fr := hp_eqP.tr fe fr (fun q9 hq9 => by rw [List.mem_singleton.mp hq9]; first | exact Or.inr (Or.inl rfl) | exact Or.inr (Or.inr (Or.inl rfl)) | exact Or.inr (Or.inr (Or.inr ⟨i, by omega, rfl⟩)))
  clear fe fz0
  have htd : rdK rb size = 3 ∨ rdK rb size = 4 → td = rdT rb size ∧ tc = rdC rb size := by
    intro hk
    unfold rdT rdC
    rcases hk with hk | hk
    · rw [if_pos hk, if_pos hk]; exact h3 hk
    · rw [if_neg (by omega), if_neg (by omega)]; exact h4 hk
  have htd2 : rdK rb size = 3 ∨ rdK rb size = 4 → td < 2 ^ 40 ∧ tc ≤ 40 := fun hk => by rw [(htd hk).1, (htd hk).2]; exact ⟨rdT_lt h01 size, rdC_le rb size⟩
  have hK8 := rdK_lt rb size
  have hFL := lvOf_le (valN rb size 0 8)
  have hSE := valN_lt h01 size 9 8
  generalize hKe : rdK rb size = K at f_f htd htd2 hK8 ⊢
  generalize hFe : lvOf (valN rb size 0 8) = FL at f_f hFL ⊢
  generalize hSe : valN rb size 9 8 = SE at f_f hSE ⊢
  generalize hTe : rdT rb size = RT at htd ⊢
  generalize hCe : rdC rb size = RC at htd ⊢
  refine lv_iconst (v := nI 0) hx hb dX1_send_22 (by decide) ?_
  refine lv_istore_n (lv' := [(3, .int (nI 0)), (0, .ref ar), (1, .ref r), (2, .ref a)]) hx hb dX1_send_23 rfl hl (by decide) rfl (fun ls hl => ?_)
  have f_ts : ∀ j, j < n → μ1 (ta j) = some (hTG sa lv aw (mixN 0 (tgS K FL td tc lv st le sh) st) (mixN 0 (tgL K FL td tc lv st le sh) le) j) := by rw [mixN_0, mixN_0]; exact f_ts
  have hL45 : ∀ j, (tgN K FL td tc lv st le sh) j ≤ 45 := fun j => saL_le _ _
  have lp_24 : ∀ (kk : Nat) (i : Nat), (i ≤ n) → (n - i) < kk → ∀ (μ1 : hp_M) (H : Heap) (locs : List Loc) (ls : Array Slot), (μ1 ar = some (hp_o 0 [.ref l1, .ref f1, .int (nB on), .int (nI (sent + 1))])) → (μ1 l1 = some (hp_o 8 [.int (nI mc), .ref q, .int (nI n)])) → (μ1 f1 = some (hp_o 2 [.ref (X.2.2.2 K), .int (nI FL), .int (nI SE), .long (lN td), .int (nI tc)])) → (μ1 a = some (hp_o 1 [.long (lN (anO (tgB K FL SE td tc lv st le sh) (tgN K FL td tc lv st le sh) i)), .long (lN (anZ (tgB K FL SE td tc lv st le sh) (tgN K FL td tc lv st le sh) i)), .int (nI (anL (tgN K FL td tc lv st le sh) i))])) → (∀ j, j < n → μ1 (ta j) = some (hTG sa lv aw (mixN i (tgS K FL td tc lv st le sh) st) (mixN i (tgL K FL td tc lv st le sh) le) j)) → (∀ j, j < n → μ1 (sa j) = some (hp_m X 3 (sh j))) → (hLA X μ1 l1 q n f ta) → hp_eqP (fun c9 => c9 = ar ∨ c9 = f1 ∨ c9 = a ∨ ∃ j, j < n ∧ c9 = ta j) μ1 μ → hp_w X cls μ1 nx H locs → lv_has ls 5 [(0, .ref ar), (1, .ref r), (2, .ref a), (3, .int (nI i))] → W p l e { frames := 4, cells := 0, slots := 0, locals := 160 } s m [.ref ar, .ref r, .ref a].toArray below meth c H locs 0 0 (MQ below (hq_i X (po_i nx (nI (anL (tgN (K) (FL) (RT) (RC) lv st le sh) n)) (fun z => z ar = some (hp_o 0 [.ref l1, .ref f1, .int (nB on), .int (nI (sent + 1))]) ∧ z l1 = some (hp_o 8 [.int (nI mc), .ref q, .int (nI n)]) ∧ hLA X z l1 q n f ta ∧ (∀ j, j < n → z (ta j) = some (hTG sa lv aw (tgS (K) (FL) (RT) (RC) lv st le sh) (tgL (K) (FL) (RT) (RC) lv st le sh) j)) ∧ (∀ j, j < n → z (sa j) = some (hp_m X 3 (sh j))) ∧ (∃ k1 lv1 se1 td1 tc1 : Nat, z f1 = some (hp_o 2 [.ref (X.2.2.2 k1), .int (nI lv1), .int (nI se1), .long (lN td1), .int (nI tc1)])) ∧ z a = some (hp_o 1 [.long (lN (anO (tgB (K) (FL) (SE) (RT) (RC) lv st le sh) (tgN (K) (FL) (RT) (RC) lv st le sh) n)), .long (lN (anZ (tgB (K) (FL) (SE) (RT) (RC) lv st le sh) (tgN (K) (FL) (RT) (RC) lv st le sh) n)), .int (nI (anL (tgN (K) (FL) (RT) (RC) lv st le sh) n))]) ∧ hp_eqP (fun c9 => c9 = ar ∨ c9 = f1 ∨ c9 = a ∨ ∃ j, j < n ∧ c9 = ta j) z μ))) [.ref ar, .ref r, .ref a].toArray s 0 0 (hp_A X)) (F0 m 24 ls []) := by
    intro kk
    induction kk with
    | zero =>
      intro i hi hkk
      exact absurd hkk (Nat.not_lt_zero _)
    | succ kk ih =>
      intro i hi hkk μ1 H locs ls f_air f_l f_f f_a f_ts f_ss hq fr hH hl
      refine lv_iload_n hx hb dX1_send_24 rfl (lv_at hl 3 rfl) ?_
      refine lv_aload_n hx hb dX1_send_25 rfl (lv_at hl 0 rfl) ?_
      refine hp_get hx hb hown hS.2.1 hH (F_X1_10.use hS) f_air rfl dX1_send_26 ?_
      refine hp_kip (hp_runV (As := []) (rest := [.int (nI i)]) hx hb hml hown hS hH (c_Jx4a65c_size_8abf5 l X f_l) M_X1_27 I_Jx4a65c_size_8abf5 V_Jx4a65c_size_8abf5 (ci := 8) rfl rfl f_l rfl hl.1 rfl (Nat.le_of_ble_eq_true rfl) dX1_send_29 ⟨Nat.le_of_ble_eq_true rfl, Nat.le_of_ble_eq_true rfl⟩ ⟨Nat.le_of_ble_eq_true rfl, Nat.le_of_ble_eq_true rfl⟩) hH (fun H locs hH => ?_)
      refine lv_icmp_ge (tgt := 73) hx hb dX1_send_32 (by decide) (fun c_32 => ?_) (fun c_32 => ?_)
      · have c_32 : n ≤ i := (nI_leI (by omega) (by omega)).mp c_32
        refine lv_aload_n hx hb dX1_send_73 rfl (lv_at hl 2 rfl) ?_
        refine hp_get hx hb hown hS.2.1 hH (F_X1_77.use hS) f_a rfl dX1_send_74 ?_
        have ei : i = n := by omega
        subst ei
        obtain ⟨e1, e2, e3, e4⟩ := tg_conv (SE := SE) (FL := FL) htd lv st le sh
        rw [e3, e4] at f_a
        rw [e4]
        have f_ts := fun j hj => (f_ts j hj).trans (show some (hTG sa lv aw (mixN i (tgS K FL td tc lv st le sh) st) (mixN i (tgL K FL td tc lv st le sh) le) j) = some (hTG sa lv aw (tgS K FL RT RC lv st le sh) (tgL K FL RT RC lv st le sh) j) by unfold hTG; rw [mixN_n _ _ hj, mixN_n _ _ hj, e1, e2])
        exact hp_ri hx hb hr hlocks hS hH (⟨rfl, rfl, f_air, f_l, hq, f_ts, f_ss, ⟨_, _, _, _, _, f_f⟩, f_a, fr⟩) dX1_send_77
      · have c_32 : ¬ (n ≤ i) := fun z => c_32 ((nI_leI (by omega) (by omega)).mpr z)
        refine lv_aload_n hx hb dX1_send_35 rfl (lv_at hl 0 rfl) ?_
        refine hp_get hx hb hown hS.2.1 hH (F_X1_10.use hS) f_air rfl dX1_send_36 ?_
        refine lv_iload_n hx hb dX1_send_39 rfl (lv_at hl 3 rfl) ?_
        obtain ⟨hn0, f_q, hf⟩ := hq.resolve_left (by omega)
        have hcap := capN_le n hn16
        refine hp_krp (hp_runV (As := [.int (nI i)]) (rest := []) hx hb hml hown hS hH (c_Jx4a65c_get_915e3 l X (i := i) (by omega) hcap.1 (by omega) (hf _ (by omega)) f_l f_q) M_X1_31 I_Jx4a65c_get_915e3 V_Jx4a65c_get_915e3 (ci := 8) rfl rfl f_l rfl hl.1 rfl (Nat.le_of_ble_eq_true rfl) dX1_send_40 ⟨Nat.le_of_ble_eq_true rfl, Nat.le_of_ble_eq_true rfl⟩ ⟨Nat.le_of_ble_eq_true rfl, Nat.le_of_ble_eq_true rfl⟩) hH (fun H locs hH => ?_)
        have f_t := f_ts i (by omega)
        rw [show hTG sa lv aw (mixN i (tgS K FL td tc lv st le sh) st) (mixN i (tgL K FL td tc lv st le sh) le) i = hTG sa lv aw st le i by unfold hTG; rw [mixN_i, mixN_i]] at f_t
        have f_s := f_ss i (by omega)
        have hle9 := hle i (by omega)
        have hlv9 := hlv i (by omega)
        have hst9 := hst i (by omega)
        refine va_castY (C := RX9) hx hb hown (hS.1 _ NL_X1_35 _) (hS.1 _ wl_tt #[]) (hp_recv hS.2.1 hH (ci := 5) rfl f_t) dX1_send_43 ?_
        refine lv_astore (lv' := [(4, .ref (ta i)), (0, .ref ar), (1, .ref r), (2, .ref a), (3, .int (nI i))]) hx hb dX1_send_46 hl (by decide) rfl (fun ls hl => ?_)
        refine lv_aload hx hb dX1_send_48 (lv_at hl 0 rfl) ?_
        refine lv_aload hx hb dX1_send_50 (lv_at hl 0 rfl) ?_
        refine lv_aload_n hx hb dX1_send_52 rfl (lv_at hl 1 rfl) ?_
        refine hp_get hx hb hown hS.2.1 hH (F_X1_19.use hS) f_air rfl dX1_send_53 ?_
        have f_tso := f_ts
        refine hp_krm (hp_runV (As := [.ref f1]) (rest := [.ref (ta i)]) hx hb hml hown hS hH (c_X9_hear l X (hsh i (by omega)) hK8 (fun hk => ⟨(htd2 hk).1, by have := (htd2 hk).2; omega⟩) hle9.1 hle9.2 hlv9.2 hFL hst9 f_t f_s f_f) M_X1_69 I_X9_hear V_X9_hear (ci := 5) rfl rfl f_t rfl hl.1 rfl (Nat.le_of_ble_eq_true rfl) dX1_send_56 ⟨Nat.le_of_ble_eq_true rfl, Nat.le_of_ble_eq_true rfl⟩ ⟨Nat.le_of_ble_eq_true rfl, Nat.le_of_ble_eq_true rfl⟩) hH (fun μ1 H locs hp hH => ?_)
        obtain ⟨fz0, fe⟩ := hp
        have f_ss := fun j hj => (hp_e1 fe (hp_ne (f_ss j hj) f_t (by simp))).trans (f_ss j hj)
        have hq := hq.keep (fun h9 => hp_e1 fe (hp_ne h9 f_t (by simp)))
        have f_air := (hp_e1 fe (hp_ne f_air f_t (by simp))).trans f_air
        have f_l := (hp_e1 fe (hp_ne f_l f_t (by simp))).trans f_l
        have f_f := (hp_e1 fe (hp_ne f_f f_t (by simp))).trans f_f
        have f_a := (hp_e1 fe (hp_ne f_a f_t (by simp))).trans f_a
        have f_s := (hp_e1 fe (hp_ne f_s f_t (by simp))).trans f_s
        have f_t : μ1 (ta i) = some (hp_o 5 [.int (nI (lv i)), .ref (sa i), .int (nB (aw i)), .int (nI (tgS K FL td tc lv st le sh i)), .int (nI (tgL K FL td tc lv st le sh i))]) := fz0
        have fr := hp_eqP.tr fe fr (fun q9 hq9 => by rw [List.mem_singleton.mp hq9]; first | exact Or.inr (Or.inl rfl) | exact Or.inr (Or.inr (Or.inl rfl)) | exact Or.inr (Or.inr (Or.inr ⟨i, by omega, rfl⟩)))
        clear fz0
        have f_ts : ∀ j, j < n → μ1 (ta j) = some (hTG sa lv aw (mixN (i + 1) (tgS K FL td tc lv st le sh) st) (mixN (i + 1) (tgL K FL td tc lv st le sh) le) j) := by
          intro j hj
          by_cases ej : j = i
          · subst ej; unfold hTG; rw [mixN_s, mixN_s]; exact f_t
          · unfold hTG; rw [mixN_o _ _ ej, mixN_o _ _ ej]; exact (hp_e1 fe (fun q9 => ej (hinj j i hj (by omega) q9))).trans (f_tso j hj)
        clear f_tso fe
        have hlL : 1 ≤ tgL K FL td tc lv st le sh i ∧ tgL K FL td tc lv st le sh i ≤ 3 := hrL_in hle9.1 hle9.2 hlv9.2
        refine lv_aload_n hx hb dX1_send_59 rfl (lv_at hl 1 rfl) ?_
        refine hp_get hx hb hown hS.2.1 hH (F_X1_19.use hS) f_air rfl dX1_send_60 ?_
        refine lv_aload_n hx hb dX1_send_63 rfl (lv_at hl 3 rfl) ?_
        have hO1 := anO_lt (B := tgB K FL SE td tc lv st le sh) hL45 i
        have hZ1 := anZ_lt (B := tgB K FL SE td tc lv st le sh) hL45 i
        have hN1 := anL_le hL45 i
        refine hp_kvm (hp_runV (As := [.ref (X.2.2.2 (8 + tgR K FL td tc lv st le sh i)), .ref f1, .ref a]) (rest := []) hx hb hml hown hS hH (c_X9_say l X (j := tgR K FL td tc lv st le sh i) (hsh i (by omega)) (by omega) (by omega) (by omega) hlL.1 hlL.2 hlv9.2 hlv9.1 hSE (fun e9 => (htd2 (Or.inl (hrR_2 e9))).2) (hrR_lt _ _ _ _ _ _) f_t f_s f_f f_a) M_X1_73 I_X9_say V_X9_say (ci := 5) rfl rfl f_t rfl hl.1 rfl (Nat.le_of_ble_eq_true rfl) dX1_send_64 ⟨Nat.le_of_ble_eq_true rfl, Nat.le_of_ble_eq_true rfl⟩ ⟨Nat.le_of_ble_eq_true rfl, Nat.le_of_ble_eq_true rfl⟩) hH (fun μ1 H locs hp hH => ?_)
        obtain ⟨fz0, fe⟩ := hp
        have f_ts := fun j hj => (hp_e1 fe (hp_ne (f_ts j hj) f_a (by simp))).trans (f_ts j hj)
        have f_ss := fun j hj => (hp_e1 fe (hp_ne (f_ss j hj) f_a (by simp))).trans (f_ss j hj)
        have hq := hq.keep (fun h9 => hp_e1 fe (hp_ne h9 f_a (by simp)))
        have f_air := (hp_e1 fe (hp_ne f_air f_a (by simp))).trans f_air
        have f_l := (hp_e1 fe (hp_ne f_l f_a (by simp))).trans f_l
        have f_f := (hp_e1 fe (hp_ne f_f f_a (by simp))).trans f_f
        have f_t := (hp_e1 fe (hp_ne f_t f_a (by simp))).trans f_t
        have f_s := (hp_e1 fe (hp_ne f_s f_a (by simp))).trans f_s
        have f_a : μ1 a = some (hp_o 1 [.long (lN (anO (tgB K FL SE td tc lv st le sh) (tgN K FL td tc lv st le sh) (i + 1))), .long (lN (anZ (tgB K FL SE td tc lv st le sh) (tgN K FL td tc lv st le sh) (i + 1))), .int (nI (anL (tgN K FL td tc lv st le sh) (i + 1)))]) := fz0
        have fr := hp_eqP.tr fe fr (fun q9 hq9 => by rw [List.mem_singleton.mp hq9]; first | exact Or.inr (Or.inl rfl) | exact Or.inr (Or.inr (Or.inl rfl)) | exact Or.inr (Or.inr (Or.inr ⟨i, by omega, rfl⟩)))
        clear fe fz0
        clear f_t f_s
        refine lv_iinc (v := nI (i + 1)) (lv' := [(3, .int (nI (i + 1))), (4, .ref (ta i)), (0, .ref ar), (1, .ref r), (2, .ref a)]) hx hb dX1_send_67 hl (k := 4) rfl (nI_add _ 1) (by decide) rfl (fun ls hl => ?_)
        refine lv_goto (tgt := 24) hx hb dX1_send_70 (by decide) ?_
        exact ih (i + 1) (by omega) (by omega) _ _ _ _ f_air f_l f_f f_a f_ts f_ss hq fr hH (lv_sub hl [2, 3, 4, 0] rfl)
  exact lp_24 ((n - 0) + 1) 0 (Nat.zero_le _) (Nat.lt_succ_self _) _ _ _ _ f_air f_l f_f f_a f_ts f_ss hq fr hH (lv_sub hl [1, 2, 3, 0] rfl)

set_option maxHeartbeats 4000000 in
set_option maxRecDepth 100000 in
theorem c_X1_init (l : Launch) (X : hp_X) {μ : hp_M} {nx : Nat} {ar : Nat} (f_air : μ ar = some (hp_o 0 [.null, .null, .int (nB false), .int (nI 0)])) : Ct l X yX1_init cX1_init 1 (none : Option Jvm.ClassFile.FieldType) 4 160 2 8 [.ref ar] μ nx (hq_v X (po_v (nx + 2) (fun z => z ar = some (hp_o 0 [.ref nx, .ref (nx + 1), .int (nB true), .int (nI 0)]) ∧ z nx = some (hp_o 8 [.int (nI 0), .ref (X.2.2.2 16), .int (nI 0)]) ∧ z (nx + 1) = some (hp_o 2 [.ref (X.2.2.2 0), .int (nI 0), .int (nI 0), .long (lN 0), .int (nI 0)]) ∧ hp_eq [ar, nx, nx + 1] z μ))) := by
  refine hp_met (by decide) (Nat.le_of_ble_eq_true rfl) ?_
  intro p e s m below meth c ls hx hb hml hr hlocks hown hin hS hH hl
  have hl : lv_has ls 1 [(0, .ref ar)] := hl
  have fr : hp_eq [ar, nx, nx + 1] μ μ := fun _ _ => rfl
  have hlt_a := hH.lt f_air
  refine lv_aload_n hx hb dX1_init_0 rfl (lv_at hl 0 rfl) ?_
  refine hp_obj hx hb hml hown hS ol_X1_1 hl.1 dX1_init_1 (Nat.le_of_ble_eq_true rfl) (Nat.le_of_ble_eq_true rfl) (Nat.le_of_ble_eq_true rfl) ?_
  refine lv_aload_n hx hb dX1_init_4 rfl (lv_at hl 0 rfl) ?_
  have hO := hH
  refine hp_new hx hb hown hS.2.1 hH (N_X1_7.use hS) (Nat.le_of_ble_eq_true rfl) (Nat.le_of_ble_eq_true rfl) dX1_init_5 (fun H μ1 fz fn hH => ?_)
  have f_air := (fn _ (Nat.ne_of_lt (hO.lt f_air))).trans f_air
  have f_n0 : μ1 nx = some (hp_o 8 [.int (nI 0), .null, .int (nI 0)]) := fz
  have fr := hp_eq.put fr (by simp) fn
  clear fz fn hO
  refine lv_dup hx hb dX1_init_8 rfl ?_
  refine hp_kvm (hp_runI (As := []) (rest := [.ref nx, .ref ar]) hx hb hml hown hS hH (c_Jx4a65c_init_da8c8 l X f_n0) M_X1_9 I_Jx4a65c_init_da8c8 rfl rfl hl.1 rfl (Nat.le_of_ble_eq_true rfl) dX1_init_9 ⟨Nat.le_of_ble_eq_true rfl, Nat.le_of_ble_eq_true rfl⟩ ⟨Nat.le_of_ble_eq_true rfl, Nat.le_of_ble_eq_true rfl⟩) hH (fun μ1 H locs hp hH => ?_)
  obtain ⟨fz0, fe⟩ := hp
  have f_air := (hp_e1 fe (by omega)).trans f_air
  have f_n0 : μ1 nx = some (hp_o 8 [.int (nI 0), .ref (X.2.2.2 16), .int (nI 0)]) := fz0
  have fr := hp_eq.tr1 fe fr (by simp)
  clear fe fz0
  refine hp_putF hx hb hown hS.2.1 hH (P_X1_10.use hS) hin f_air rfl rfl (Nat.le_of_ble_eq_true rfl) dX1_init_12 (fun H locs μ1 fz fn hH => ?_)
  have f_n0 := (fn _ (by omega)).trans f_n0
  have f_air : μ1 ar = some (hp_o 0 [.ref nx, .null, .int (nB false), .int (nI 0)]) := fz
  have fr := hp_eq.put fr (by simp) fn
  clear fz fn
  refine lv_aload_n hx hb dX1_init_15 rfl (lv_at hl 0 rfl) ?_
  have hO := hH
  refine hp_new hx hb hown hS.2.1 hH (N_X1_16.use hS) (Nat.le_of_ble_eq_true rfl) (Nat.le_of_ble_eq_true rfl) dX1_init_16 (fun H μ1 fz fn hH => ?_)
  have f_air := (fn _ (Nat.ne_of_lt (hO.lt f_air))).trans f_air
  have f_n0 := (fn _ (Nat.ne_of_lt (hO.lt f_n0))).trans f_n0
  have f_n1 : μ1 (nx + 1) = some (hp_o 2 [.null, .int (nI 0), .int (nI 0), .long (lN 0), .int (nI 0)]) := fz
  have fr := hp_eq.put fr (by simp) fn
  clear fz fn hO
  refine lv_dup hx hb dX1_init_19 rfl ?_
  refine hp_kvm (hp_runI (As := []) (rest := [.ref (nx + 1), .ref ar]) hx hb hml hown hS hH (c_X4_init l X f_n1) M_X1_18 I_X4_init rfl rfl hl.1 rfl (Nat.le_of_ble_eq_true rfl) dX1_init_20 ⟨Nat.le_of_ble_eq_true rfl, Nat.le_of_ble_eq_true rfl⟩ ⟨Nat.le_of_ble_eq_true rfl, Nat.le_of_ble_eq_true rfl⟩) hH (fun μ1 H locs hp hH => ?_)
  obtain ⟨fz0, fe⟩ := hp
  have f_air := (hp_e1 fe (by omega)).trans f_air
  have f_n0 := (hp_e1 fe (by omega)).trans f_n0
  have f_n1 : μ1 (nx + 1) = some (hp_o 2 [.ref (X.2.2.2 0), .int (nI 0), .int (nI 0), .long (lN 0), .int (nI 0)]) := fz0
  have fr := hp_eq.tr1 fe fr (by simp)
  clear fe fz0
  refine hp_putF hx hb hown hS.2.1 hH (P_X1_19.use hS) hin f_air rfl rfl (Nat.le_of_ble_eq_true rfl) dX1_init_23 (fun H locs μ1 fz fn hH => ?_)
  have f_n0 := (fn _ (by omega)).trans f_n0
  have f_n1 := (fn _ (by omega)).trans f_n1
  have f_air : μ1 ar = some (hp_o 0 [.ref nx, .ref (nx + 1), .int (nB false), .int (nI 0)]) := fz
  have fr := hp_eq.put fr (by simp) fn
  clear fz fn
  refine lv_aload_n hx hb dX1_init_26 rfl (lv_at hl 0 rfl) ?_
  refine lv_iconst (v := nI 1) hx hb dX1_init_27 (by decide) ?_
  refine hp_eqi (z := nB true) (by decide) ?_
  refine hp_put hx hb hown hS.2.1 hH (P_X1_23.use hS) f_air (nB_nar _) (nB_fit _) (Nat.le_of_ble_eq_true rfl) dX1_init_28 (fun H locs μ1 fz fn hH => ?_)
  have f_n0 := (fn _ (by omega)).trans f_n0
  have f_n1 := (fn _ (by omega)).trans f_n1
  have f_air : μ1 ar = some (hp_o 0 [.ref nx, .ref (nx + 1), .int (nB true), .int (nI 0)]) := fz
  have fr := hp_eq.put fr (by simp) fn
  clear fz fn
  refine W.widen (k := 2) (n := 8) (by decide) (by decide) ?_
  exact hp_rv hx hb hr hlocks hS hH (⟨rfl, f_air, f_n0, f_n1, fr⟩) dX1_init_31
