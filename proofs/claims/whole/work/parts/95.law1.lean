/-! the law's own walk: twelve arms, the loop -/
theorem hp_w.sS {X : hp_X} {μ : hp_M} {nx : Nat} {H : Heap} {locs : List Loc} {s : State} (hXs : X.2.1 = s.heap) (h : hp_w X cls μ nx H locs) : va_S (fun q : Nat => s.heap.size ≤ q) s.heap H locs := by
  obtain ⟨h1, h2, h3, h4, h5⟩ := h
  rw [hXs] at h2 h3 h5
  exact ⟨by rw [h1]; exact h2, fun q hq _ => h3 q hq, h5⟩
def LC (p : Program) (s : State) (m : MethodId) (c : Code) (X : hp_X) (b L : Nat) (xs : Nat → Int32) : Prop := p.tables.exec = Jvm.exec ∧ c.code = code ∧ c.maxLocals = 4 ∧ s.vm.findClass RL = some m.cls ∧ KS X s ∧ va_X b L xs s s.heap ∧ b < s.heap.size ∧ X.2.1 = s.heap ∧ L ≤ 2560
set_option maxHeartbeats 4000000 in
set_option maxRecDepth 100000 in
theorem arm_tag {p : Program} {l : Launch} {e : Env} {s : State} {m : MethodId} {below : List Frame} {meth : Method} {c : Code} {X : hp_X} {b L x k i : Nat} {xs : Nat → Int32} {μ : hp_M} {nx : Nat} {H : Heap} {locs : List Loc} {cells slots : Nat} {Q : State → Prop} {ls : Array Slot} (hc : LC p s m c X b L xs) (hi : i + 5 ≤ L) (hk5 : k ≤ 512) (hH : hp_w X cls μ nx H locs) (hJ : JW X μ x k) (hl : lv_has ls 4 [(0, .ref b), (1, .ref x), (2, .ref (x + 13)), (3, .int (nI i))]) (hf : cells + 3 ≤ 600000 ∧ slots + 30 ≤ 7302250) (kk : ∀ (μ1 : hp_M) (nx1 : Nat) (H1 : Heap) (locs1 : List Loc), hp_w X cls μ1 nx1 H1 locs1 → JW X μ1 x (k + 1) → W p l e room_1 s m #[Value.ref b] below meth c H1 locs1 (cells + 3) (slots + 30) Q (F0 m 424 ls [])) : W p l e room_1 s m #[Value.ref b] below meth c H locs cells slots Q (F0 m 96 ls []) := by
  obtain ⟨hx, hb, hml, hown, hS, hV, hbl, hXs, hL⟩ := hc
  have hbA : ¬ (fun q : Nat => s.heap.size ≤ q) b := Nat.not_le.mpr hbl
  have f_x := hJ.x
  refine lv_aload_n hx hb dL_law_96 rfl (lv_at hl 1 rfl) ?_
  refine lv_aload_n hx hb dL_law_97 rfl (lv_at hl 0 rfl) ?_
  refine lv_iload_n hx hb dL_law_98 rfl (lv_at hl 3 rfl) ?_
  refine lv_iconst (v := nI 1) hx hb dL_law_99 (by decide) ?_
  refine lv_iadd hx hb dL_law_100 ?_
  refine hp_eqi (z := nI (i + 1)) (nI_add _ _) ?_
  refine va_sld hx hb hV hbl hbA (hH.sS hXs) (vp_in_nI (by omega) (by omega)) dL_law_101 ?_
  refine hp_eqi (z := xs (i + 1)) (by rw [nI_clamp (by omega)]) ?_
  refine lv_aload_n hx hb dL_law_102 rfl (lv_at hl 0 rfl) ?_
  refine lv_iload_n hx hb dL_law_103 rfl (lv_at hl 3 rfl) ?_
  refine lv_iconst (v := nI 2) hx hb dL_law_104 (by decide) ?_
  refine lv_iadd hx hb dL_law_105 ?_
  refine hp_eqi (z := nI (i + 2)) (nI_add _ _) ?_
  refine va_sld hx hb hV hbl hbA (hH.sS hXs) (vp_in_nI (by omega) (by omega)) dL_law_106 ?_
  refine hp_eqi (z := xs (i + 2)) (by rw [nI_clamp (by omega)]) ?_
  refine lv_aload_n hx hb dL_law_107 rfl (lv_at hl 0 rfl) ?_
  refine lv_iload_n hx hb dL_law_108 rfl (lv_at hl 3 rfl) ?_
  refine lv_iconst (v := nI 3) hx hb dL_law_109 (by decide) ?_
  refine lv_iadd hx hb dL_law_110 ?_
  refine hp_eqi (z := nI (i + 3)) (nI_add _ _) ?_
  refine va_sld hx hb hV hbl hbA (hH.sS hXs) (vp_in_nI (by omega) (by omega)) dL_law_111 ?_
  refine hp_eqi (z := xs (i + 3)) (by rw [nI_clamp (by omega)]) ?_
  refine lv_aload_n hx hb dL_law_112 rfl (lv_at hl 0 rfl) ?_
  refine lv_iload_n hx hb dL_law_113 rfl (lv_at hl 3 rfl) ?_
  refine lv_iconst (v := nI 4) hx hb dL_law_114 (by decide) ?_
  refine lv_iadd hx hb dL_law_115 ?_
  refine hp_eqi (z := nI (i + 4)) (nI_add _ _) ?_
  refine va_sld hx hb hV hbl hbA (hH.sS hXs) (vp_in_nI (by omega) (by omega)) dL_law_116 ?_
  refine hp_eqi (z := xs (i + 4)) (by rw [nI_clamp (by omega)]) ?_
  obtain ⟨fr, lo, mc, ms, NX, E, P, q1, q2, q3, q4, hc1, hc2⟩ := Pr_tag l X (nx := nx) hJ (fun c e h => hH.lt h) (xs (i + 1)) (xs (i + 2)) (xs (i + 3)) (xs (i + 4))
  refine hp_kim (hp_runV (As := [.int (xs (i + 1)), .int (xs (i + 2)), .int (xs (i + 3)), .int (xs (i + 4))]) (rest := []) hx hb hml hown hS hH hc1 M_L_13 I_X10_tag V_X10_tag (ci := 6) rfl rfl f_x rfl hl.1 rfl (Nat.le_of_ble_eq_true rfl) dL_law_117 ⟨by show fr + 1 ≤ 11; omega, by show 8 + (6 + 11) + lo ≤ 402; omega⟩ ⟨by show cells + mc ≤ 600000; omega, by show slots + ms ≤ 7302250; omega⟩) hH (fun μ1 H locs hp hH => ?_)
  obtain ⟨⟨fs, ho⟩, fr2, lo2, q5, q6, hc3⟩ := hc2 μ1 hp
  refine lv_aload_n hx hb dL_law_120 rfl (lv_at hl 2 rfl) ?_
  refine lv_aload_n hx hb dL_law_121 rfl (lv_at hl 0 rfl) ?_
  refine lv_iload_n hx hb dL_law_122 rfl (lv_at hl 3 rfl) ?_
  refine lv_iconst (v := nI 1) hx hb dL_law_123 (by decide) ?_
  refine lv_iadd hx hb dL_law_124 ?_
  refine hp_eqi (z := nI (i + 1)) (nI_add _ _) ?_
  refine va_sld hx hb hV hbl hbA (hH.sS hXs) (vp_in_nI (by omega) (by omega)) dL_law_125 ?_
  refine hp_eqi (z := xs (i + 1)) (by rw [nI_clamp (by omega)]) ?_
  refine lv_aload_n hx hb dL_law_126 rfl (lv_at hl 0 rfl) ?_
  refine lv_iload_n hx hb dL_law_127 rfl (lv_at hl 3 rfl) ?_
  refine lv_iconst (v := nI 2) hx hb dL_law_128 (by decide) ?_
  refine lv_iadd hx hb dL_law_129 ?_
  refine hp_eqi (z := nI (i + 2)) (nI_add _ _) ?_
  refine va_sld hx hb hV hbl hbA (hH.sS hXs) (vp_in_nI (by omega) (by omega)) dL_law_130 ?_
  refine hp_eqi (z := xs (i + 2)) (by rw [nI_clamp (by omega)]) ?_
  refine lv_aload_n hx hb dL_law_131 rfl (lv_at hl 0 rfl) ?_
  refine lv_iload_n hx hb dL_law_132 rfl (lv_at hl 3 rfl) ?_
  refine lv_iconst (v := nI 3) hx hb dL_law_133 (by decide) ?_
  refine lv_iadd hx hb dL_law_134 ?_
  refine hp_eqi (z := nI (i + 3)) (nI_add _ _) ?_
  refine va_sld hx hb hV hbl hbA (hH.sS hXs) (vp_in_nI (by omega) (by omega)) dL_law_135 ?_
  refine hp_eqi (z := xs (i + 3)) (by rw [nI_clamp (by omega)]) ?_
  refine lv_aload_n hx hb dL_law_136 rfl (lv_at hl 0 rfl) ?_
  refine lv_iload_n hx hb dL_law_137 rfl (lv_at hl 3 rfl) ?_
  refine lv_iconst (v := nI 4) hx hb dL_law_138 (by decide) ?_
  refine lv_iadd hx hb dL_law_139 ?_
  refine hp_eqi (z := nI (i + 4)) (nI_add _ _) ?_
  refine va_sld hx hb hV hbl hbA (hH.sS hXs) (vp_in_nI (by omega) (by omega)) dL_law_140 ?_
  refine hp_eqi (z := xs (i + 4)) (by rw [nI_clamp (by omega)]) ?_
  refine hp_kim (hp_runV (As := [.int (xs (i + 1)), .int (xs (i + 2)), .int (xs (i + 3)), .int (xs (i + 4))]) (rest := [.int E]) hx hb hml hown hS hH hc3 M_L_17 I_X11_tag V_X11_tag (ci := 7) rfl rfl ho rfl hl.1 rfl (Nat.le_of_ble_eq_true rfl) dL_law_141 ⟨by show fr2 + 1 ≤ 11; omega, by show 8 + (10 + 11) + lo2 ≤ 402; omega⟩ ⟨by show cells + mc + 0 ≤ 600000; omega, by show slots + ms + 0 ≤ 7302250; omega⟩) hH (fun μ2 H locs hp2 hH => ?_)
  refine lv_icmp_eq (tgt := 424) hx hb dL_law_144 (by decide) (fun _ => ?_) (fun c9 => absurd rfl c9)
  refine W.widen (k := cells + 3) (n := slots + 30) (by omega) (by omega) ?_
  exact kk _ _ _ _ hH hp2
set_option maxHeartbeats 4000000 in
set_option maxRecDepth 100000 in
theorem arm_out {p : Program} {l : Launch} {e : Env} {s : State} {m : MethodId} {below : List Frame} {meth : Method} {c : Code} {X : hp_X} {b L x k i : Nat} {xs : Nat → Int32} {μ : hp_M} {nx : Nat} {H : Heap} {locs : List Loc} {cells slots : Nat} {Q : State → Prop} {ls : Array Slot} (hc : LC p s m c X b L xs) (hi : i + 5 ≤ L) (hk5 : k ≤ 512) (hH : hp_w X cls μ nx H locs) (hJ : JW X μ x k) (hl : lv_has ls 4 [(0, .ref b), (1, .ref x), (2, .ref (x + 13)), (3, .int (nI i))]) (hf : cells + 3 ≤ 600000 ∧ slots + 30 ≤ 7302250) (kk : ∀ (μ1 : hp_M) (nx1 : Nat) (H1 : Heap) (locs1 : List Loc), hp_w X cls μ1 nx1 H1 locs1 → JW X μ1 x (k + 1) → W p l e room_1 s m #[Value.ref b] below meth c H1 locs1 (cells + 3) (slots + 30) Q (F0 m 424 ls [])) : W p l e room_1 s m #[Value.ref b] below meth c H locs cells slots Q (F0 m 149 ls []) := by
  obtain ⟨hx, hb, hml, hown, hS, hV, hbl, hXs, hL⟩ := hc
  have hbA : ¬ (fun q : Nat => s.heap.size ≤ q) b := Nat.not_le.mpr hbl
  have f_x := hJ.x
  refine lv_aload_n hx hb dL_law_149 rfl (lv_at hl 1 rfl) ?_
  refine lv_aload_n hx hb dL_law_150 rfl (lv_at hl 0 rfl) ?_
  refine lv_iload_n hx hb dL_law_151 rfl (lv_at hl 3 rfl) ?_
  refine lv_iconst (v := nI 1) hx hb dL_law_152 (by decide) ?_
  refine lv_iadd hx hb dL_law_153 ?_
  refine hp_eqi (z := nI (i + 1)) (nI_add _ _) ?_
  refine va_sld hx hb hV hbl hbA (hH.sS hXs) (vp_in_nI (by omega) (by omega)) dL_law_154 ?_
  refine hp_eqi (z := xs (i + 1)) (by rw [nI_clamp (by omega)]) ?_
  refine lv_aload_n hx hb dL_law_155 rfl (lv_at hl 0 rfl) ?_
  refine lv_iload_n hx hb dL_law_156 rfl (lv_at hl 3 rfl) ?_
  refine lv_iconst (v := nI 2) hx hb dL_law_157 (by decide) ?_
  refine lv_iadd hx hb dL_law_158 ?_
  refine hp_eqi (z := nI (i + 2)) (nI_add _ _) ?_
  refine va_sld hx hb hV hbl hbA (hH.sS hXs) (vp_in_nI (by omega) (by omega)) dL_law_159 ?_
  refine hp_eqi (z := xs (i + 2)) (by rw [nI_clamp (by omega)]) ?_
  cases hz : decide (xs (i + 2) = 0) with
  | false =>
    have hz := of_decide_eq_false hz
    refine lv_if_eq (tgt := 167) hx hb dL_law_160 (by decide) (fun c9 => absurd c9 hz) (fun _ => ?_)
    refine lv_iconst (v := nB true) hx hb dL_law_163 (by decide) ?_
    refine lv_goto (tgt := 168) hx hb dL_law_164 (by decide) ?_
    obtain ⟨fr, lo, mc, ms, NX, E, P, q1, q2, q3, q4, hc1, hc2⟩ := Pr_out l X (nx := nx) hJ (xs (i + 1)) (true)
    refine hp_kim (hp_runV (As := [.int (xs (i + 1)), .int (nB true)]) (rest := []) hx hb hml hown hS hH hc1 M_L_18 I_X10_out V_X10_out (ci := 6) rfl rfl f_x rfl hl.1 rfl (Nat.le_of_ble_eq_true rfl) dL_law_168 ⟨by show fr + 1 ≤ 11; omega, by show 8 + (3 + 11) + lo ≤ 402; omega⟩ ⟨by show cells + mc ≤ 600000; omega, by show slots + ms ≤ 7302250; omega⟩) hH (fun μ1 H locs hp hH => ?_)
    obtain ⟨⟨fs, ho⟩, fr2, lo2, q5, q6, hc3⟩ := hc2 μ1 hp
    refine lv_aload_n hx hb dL_law_171 rfl (lv_at hl 2 rfl) ?_
    refine lv_aload_n hx hb dL_law_172 rfl (lv_at hl 0 rfl) ?_
    refine lv_iload_n hx hb dL_law_173 rfl (lv_at hl 3 rfl) ?_
    refine lv_iconst (v := nI 1) hx hb dL_law_174 (by decide) ?_
    refine lv_iadd hx hb dL_law_175 ?_
    refine hp_eqi (z := nI (i + 1)) (nI_add _ _) ?_
    refine va_sld hx hb hV hbl hbA (hH.sS hXs) (vp_in_nI (by omega) (by omega)) dL_law_176 ?_
    refine hp_eqi (z := xs (i + 1)) (by rw [nI_clamp (by omega)]) ?_
    refine lv_aload_n hx hb dL_law_177 rfl (lv_at hl 0 rfl) ?_
    refine lv_iload_n hx hb dL_law_178 rfl (lv_at hl 3 rfl) ?_
    refine lv_iconst (v := nI 2) hx hb dL_law_179 (by decide) ?_
    refine lv_iadd hx hb dL_law_180 ?_
    refine hp_eqi (z := nI (i + 2)) (nI_add _ _) ?_
    refine va_sld hx hb hV hbl hbA (hH.sS hXs) (vp_in_nI (by omega) (by omega)) dL_law_181 ?_
    refine hp_eqi (z := xs (i + 2)) (by rw [nI_clamp (by omega)]) ?_
    refine lv_if_eq (tgt := 189) hx hb dL_law_182 (by decide) (fun c9 => absurd c9 hz) (fun _ => ?_)
    refine lv_iconst (v := nB true) hx hb dL_law_185 (by decide) ?_
    refine lv_goto (tgt := 190) hx hb dL_law_186 (by decide) ?_
    refine hp_kim (hp_runV (As := [.int (xs (i + 1)), .int (nB true)]) (rest := [.int E]) hx hb hml hown hS hH hc3 M_L_22 I_X11_out V_X11_out (ci := 7) rfl rfl ho rfl hl.1 rfl (Nat.le_of_ble_eq_true rfl) dL_law_190 ⟨by show fr2 + 1 ≤ 11; omega, by show 8 + (3 + 11) + lo2 ≤ 402; omega⟩ ⟨by show cells + mc + 0 ≤ 600000; omega, by show slots + ms + 0 ≤ 7302250; omega⟩) hH (fun μ2 H locs hp2 hH => ?_)
    refine lv_icmp_eq (tgt := 424) hx hb dL_law_193 (by decide) (fun _ => ?_) (fun c9 => absurd rfl c9)
    refine W.widen (k := cells + 3) (n := slots + 30) (by omega) (by omega) ?_
    exact kk _ _ _ _ hH hp2
  | true =>
    have hz := of_decide_eq_true hz
    refine lv_if_eq (tgt := 167) hx hb dL_law_160 (by decide) (fun _ => ?_) (fun c9 => absurd hz c9)
    refine lv_iconst (v := nB false) hx hb dL_law_167 (by decide) ?_
    obtain ⟨fr, lo, mc, ms, NX, E, P, q1, q2, q3, q4, hc1, hc2⟩ := Pr_out l X (nx := nx) hJ (xs (i + 1)) (false)
    refine hp_kim (hp_runV (As := [.int (xs (i + 1)), .int (nB false)]) (rest := []) hx hb hml hown hS hH hc1 M_L_18 I_X10_out V_X10_out (ci := 6) rfl rfl f_x rfl hl.1 rfl (Nat.le_of_ble_eq_true rfl) dL_law_168 ⟨by show fr + 1 ≤ 11; omega, by show 8 + (3 + 11) + lo ≤ 402; omega⟩ ⟨by show cells + mc ≤ 600000; omega, by show slots + ms ≤ 7302250; omega⟩) hH (fun μ1 H locs hp hH => ?_)
    obtain ⟨⟨fs, ho⟩, fr2, lo2, q5, q6, hc3⟩ := hc2 μ1 hp
    refine lv_aload_n hx hb dL_law_171 rfl (lv_at hl 2 rfl) ?_
    refine lv_aload_n hx hb dL_law_172 rfl (lv_at hl 0 rfl) ?_
    refine lv_iload_n hx hb dL_law_173 rfl (lv_at hl 3 rfl) ?_
    refine lv_iconst (v := nI 1) hx hb dL_law_174 (by decide) ?_
    refine lv_iadd hx hb dL_law_175 ?_
    refine hp_eqi (z := nI (i + 1)) (nI_add _ _) ?_
    refine va_sld hx hb hV hbl hbA (hH.sS hXs) (vp_in_nI (by omega) (by omega)) dL_law_176 ?_
    refine hp_eqi (z := xs (i + 1)) (by rw [nI_clamp (by omega)]) ?_
    refine lv_aload_n hx hb dL_law_177 rfl (lv_at hl 0 rfl) ?_
    refine lv_iload_n hx hb dL_law_178 rfl (lv_at hl 3 rfl) ?_
    refine lv_iconst (v := nI 2) hx hb dL_law_179 (by decide) ?_
    refine lv_iadd hx hb dL_law_180 ?_
    refine hp_eqi (z := nI (i + 2)) (nI_add _ _) ?_
    refine va_sld hx hb hV hbl hbA (hH.sS hXs) (vp_in_nI (by omega) (by omega)) dL_law_181 ?_
    refine hp_eqi (z := xs (i + 2)) (by rw [nI_clamp (by omega)]) ?_
    refine lv_if_eq (tgt := 189) hx hb dL_law_182 (by decide) (fun _ => ?_) (fun c9 => absurd hz c9)
    refine lv_iconst (v := nB false) hx hb dL_law_189 (by decide) ?_
    refine hp_kim (hp_runV (As := [.int (xs (i + 1)), .int (nB false)]) (rest := [.int E]) hx hb hml hown hS hH hc3 M_L_22 I_X11_out V_X11_out (ci := 7) rfl rfl ho rfl hl.1 rfl (Nat.le_of_ble_eq_true rfl) dL_law_190 ⟨by show fr2 + 1 ≤ 11; omega, by show 8 + (3 + 11) + lo2 ≤ 402; omega⟩ ⟨by show cells + mc + 0 ≤ 600000; omega, by show slots + ms + 0 ≤ 7302250; omega⟩) hH (fun μ2 H locs hp2 hH => ?_)
    refine lv_icmp_eq (tgt := 424) hx hb dL_law_193 (by decide) (fun _ => ?_) (fun c9 => absurd rfl c9)
    refine W.widen (k := cells + 3) (n := slots + 30) (by omega) (by omega) ?_
    exact kk _ _ _ _ hH hp2
set_option maxHeartbeats 4000000 in
set_option maxRecDepth 100000 in
theorem arm_field {p : Program} {l : Launch} {e : Env} {s : State} {m : MethodId} {below : List Frame} {meth : Method} {c : Code} {X : hp_X} {b L x k i : Nat} {xs : Nat → Int32} {μ : hp_M} {nx : Nat} {H : Heap} {locs : List Loc} {cells slots : Nat} {Q : State → Prop} {ls : Array Slot} (hc : LC p s m c X b L xs) (hi : i + 5 ≤ L) (hk5 : k ≤ 512) (hH : hp_w X cls μ nx H locs) (hJ : JW X μ x k) (hl : lv_has ls 4 [(0, .ref b), (1, .ref x), (2, .ref (x + 13)), (3, .int (nI i))]) (hf : cells + 3 ≤ 600000 ∧ slots + 30 ≤ 7302250) (kk : ∀ (μ1 : hp_M) (nx1 : Nat) (H1 : Heap) (locs1 : List Loc), hp_w X cls μ1 nx1 H1 locs1 → JW X μ1 x (k + 1) → W p l e room_1 s m #[Value.ref b] below meth c H1 locs1 (cells + 3) (slots + 30) Q (F0 m 424 ls [])) : W p l e room_1 s m #[Value.ref b] below meth c H locs cells slots Q (F0 m 198 ls []) := by
  obtain ⟨hx, hb, hml, hown, hS, hV, hbl, hXs, hL⟩ := hc
  have hbA : ¬ (fun q : Nat => s.heap.size ≤ q) b := Nat.not_le.mpr hbl
  have f_x := hJ.x
  refine lv_aload_n hx hb dL_law_198 rfl (lv_at hl 1 rfl) ?_
  refine lv_aload_n hx hb dL_law_199 rfl (lv_at hl 0 rfl) ?_
  refine lv_iload_n hx hb dL_law_200 rfl (lv_at hl 3 rfl) ?_
  refine lv_iconst (v := nI 1) hx hb dL_law_201 (by decide) ?_
  refine lv_iadd hx hb dL_law_202 ?_
  refine hp_eqi (z := nI (i + 1)) (nI_add _ _) ?_
  refine va_sld hx hb hV hbl hbA (hH.sS hXs) (vp_in_nI (by omega) (by omega)) dL_law_203 ?_
  refine hp_eqi (z := xs (i + 1)) (by rw [nI_clamp (by omega)]) ?_
  cases hz : decide (xs (i + 1) = 0) with
  | false =>
    have hz := of_decide_eq_false hz
    refine lv_if_eq (tgt := 211) hx hb dL_law_204 (by decide) (fun c9 => absurd c9 hz) (fun _ => ?_)
    refine lv_iconst (v := nB true) hx hb dL_law_207 (by decide) ?_
    refine lv_goto (tgt := 212) hx hb dL_law_208 (by decide) ?_
    obtain ⟨fr, lo, mc, ms, NX, E, P, q1, q2, q3, q4, hc1, hc2⟩ := Pr_field l X (nx := nx) hJ (true)
    refine hp_kim (hp_runV (As := [.int (nB true)]) (rest := []) hx hb hml hown hS hH hc1 M_L_23 I_X10_field V_X10_field (ci := 6) rfl rfl f_x rfl hl.1 rfl (Nat.le_of_ble_eq_true rfl) dL_law_212 ⟨by show fr + 1 ≤ 11; omega, by show 8 + (2 + 11) + lo ≤ 402; omega⟩ ⟨by show cells + mc ≤ 600000; omega, by show slots + ms ≤ 7302250; omega⟩) hH (fun μ1 H locs hp hH => ?_)
    obtain ⟨⟨fs, ho⟩, fr2, lo2, q5, q6, hc3⟩ := hc2 μ1 hp
    refine lv_aload_n hx hb dL_law_215 rfl (lv_at hl 2 rfl) ?_
    refine lv_aload_n hx hb dL_law_216 rfl (lv_at hl 0 rfl) ?_
    refine lv_iload_n hx hb dL_law_217 rfl (lv_at hl 3 rfl) ?_
    refine lv_iconst (v := nI 1) hx hb dL_law_218 (by decide) ?_
    refine lv_iadd hx hb dL_law_219 ?_
    refine hp_eqi (z := nI (i + 1)) (nI_add _ _) ?_
    refine va_sld hx hb hV hbl hbA (hH.sS hXs) (vp_in_nI (by omega) (by omega)) dL_law_220 ?_
    refine hp_eqi (z := xs (i + 1)) (by rw [nI_clamp (by omega)]) ?_
    refine lv_if_eq (tgt := 228) hx hb dL_law_221 (by decide) (fun c9 => absurd c9 hz) (fun _ => ?_)
    refine lv_iconst (v := nB true) hx hb dL_law_224 (by decide) ?_
    refine lv_goto (tgt := 229) hx hb dL_law_225 (by decide) ?_
    refine hp_kim (hp_runV (As := [.int (nB true)]) (rest := [.int E]) hx hb hml hown hS hH hc3 M_L_27 I_X11_field V_X11_field (ci := 7) rfl rfl ho rfl hl.1 rfl (Nat.le_of_ble_eq_true rfl) dL_law_229 ⟨by show fr2 + 1 ≤ 11; omega, by show 8 + (3 + 11) + lo2 ≤ 402; omega⟩ ⟨by show cells + mc + 0 ≤ 600000; omega, by show slots + ms + 0 ≤ 7302250; omega⟩) hH (fun μ2 H locs hp2 hH => ?_)
    refine lv_icmp_eq (tgt := 424) hx hb dL_law_232 (by decide) (fun _ => ?_) (fun c9 => absurd rfl c9)
    refine W.widen (k := cells + 3) (n := slots + 30) (by omega) (by omega) ?_
    exact kk _ _ _ _ hH hp2
  | true =>
    have hz := of_decide_eq_true hz
    refine lv_if_eq (tgt := 211) hx hb dL_law_204 (by decide) (fun _ => ?_) (fun c9 => absurd hz c9)
    refine lv_iconst (v := nB false) hx hb dL_law_211 (by decide) ?_
    obtain ⟨fr, lo, mc, ms, NX, E, P, q1, q2, q3, q4, hc1, hc2⟩ := Pr_field l X (nx := nx) hJ (false)
    refine hp_kim (hp_runV (As := [.int (nB false)]) (rest := []) hx hb hml hown hS hH hc1 M_L_23 I_X10_field V_X10_field (ci := 6) rfl rfl f_x rfl hl.1 rfl (Nat.le_of_ble_eq_true rfl) dL_law_212 ⟨by show fr + 1 ≤ 11; omega, by show 8 + (2 + 11) + lo ≤ 402; omega⟩ ⟨by show cells + mc ≤ 600000; omega, by show slots + ms ≤ 7302250; omega⟩) hH (fun μ1 H locs hp hH => ?_)
    obtain ⟨⟨fs, ho⟩, fr2, lo2, q5, q6, hc3⟩ := hc2 μ1 hp
    refine lv_aload_n hx hb dL_law_215 rfl (lv_at hl 2 rfl) ?_
    refine lv_aload_n hx hb dL_law_216 rfl (lv_at hl 0 rfl) ?_
    refine lv_iload_n hx hb dL_law_217 rfl (lv_at hl 3 rfl) ?_
    refine lv_iconst (v := nI 1) hx hb dL_law_218 (by decide) ?_
    refine lv_iadd hx hb dL_law_219 ?_
    refine hp_eqi (z := nI (i + 1)) (nI_add _ _) ?_
    refine va_sld hx hb hV hbl hbA (hH.sS hXs) (vp_in_nI (by omega) (by omega)) dL_law_220 ?_
    refine hp_eqi (z := xs (i + 1)) (by rw [nI_clamp (by omega)]) ?_
    refine lv_if_eq (tgt := 228) hx hb dL_law_221 (by decide) (fun _ => ?_) (fun c9 => absurd hz c9)
    refine lv_iconst (v := nB false) hx hb dL_law_228 (by decide) ?_
    refine hp_kim (hp_runV (As := [.int (nB false)]) (rest := [.int E]) hx hb hml hown hS hH hc3 M_L_27 I_X11_field V_X11_field (ci := 7) rfl rfl ho rfl hl.1 rfl (Nat.le_of_ble_eq_true rfl) dL_law_229 ⟨by show fr2 + 1 ≤ 11; omega, by show 8 + (3 + 11) + lo2 ≤ 402; omega⟩ ⟨by show cells + mc + 0 ≤ 600000; omega, by show slots + ms + 0 ≤ 7302250; omega⟩) hH (fun μ2 H locs hp2 hH => ?_)
    refine lv_icmp_eq (tgt := 424) hx hb dL_law_232 (by decide) (fun _ => ?_) (fun c9 => absurd rfl c9)
    refine W.widen (k := cells + 3) (n := slots + 30) (by omega) (by omega) ?_
    exact kk _ _ _ _ hH hp2
set_option maxHeartbeats 4000000 in
set_option maxRecDepth 100000 in
theorem arm_bits {p : Program} {l : Launch} {e : Env} {s : State} {m : MethodId} {below : List Frame} {meth : Method} {c : Code} {X : hp_X} {b L x k i : Nat} {xs : Nat → Int32} {μ : hp_M} {nx : Nat} {H : Heap} {locs : List Loc} {cells slots : Nat} {Q : State → Prop} {ls : Array Slot} (hc : LC p s m c X b L xs) (hi : i + 5 ≤ L) (hk5 : k ≤ 512) (hH : hp_w X cls μ nx H locs) (hJ : JW X μ x k) (hl : lv_has ls 4 [(0, .ref b), (1, .ref x), (2, .ref (x + 13)), (3, .int (nI i))]) (hf : cells + 3 ≤ 600000 ∧ slots + 30 ≤ 7302250) (kk : ∀ (μ1 : hp_M) (nx1 : Nat) (H1 : Heap) (locs1 : List Loc), hp_w X cls μ1 nx1 H1 locs1 → JW X μ1 x (k + 1) → W p l e room_1 s m #[Value.ref b] below meth c H1 locs1 (cells + 3) (slots + 30) Q (F0 m 424 ls [])) : W p l e room_1 s m #[Value.ref b] below meth c H locs cells slots Q (F0 m 237 ls []) := by
  obtain ⟨hx, hb, hml, hown, hS, hV, hbl, hXs, hL⟩ := hc
  have hbA : ¬ (fun q : Nat => s.heap.size ≤ q) b := Nat.not_le.mpr hbl
  have f_x := hJ.x
  refine lv_aload_n hx hb dL_law_237 rfl (lv_at hl 1 rfl) ?_
  refine lv_aload_n hx hb dL_law_238 rfl (lv_at hl 0 rfl) ?_
  refine lv_iload_n hx hb dL_law_239 rfl (lv_at hl 3 rfl) ?_
  refine lv_iconst (v := nI 1) hx hb dL_law_240 (by decide) ?_
  refine lv_iadd hx hb dL_law_241 ?_
  refine hp_eqi (z := nI (i + 1)) (nI_add _ _) ?_
  refine va_sld hx hb hV hbl hbA (hH.sS hXs) (vp_in_nI (by omega) (by omega)) dL_law_242 ?_
  refine hp_eqi (z := xs (i + 1)) (by rw [nI_clamp (by omega)]) ?_
  refine lv_aload_n hx hb dL_law_243 rfl (lv_at hl 0 rfl) ?_
  refine lv_iload_n hx hb dL_law_244 rfl (lv_at hl 3 rfl) ?_
  refine lv_iconst (v := nI 2) hx hb dL_law_245 (by decide) ?_
  refine lv_iadd hx hb dL_law_246 ?_
  refine hp_eqi (z := nI (i + 2)) (nI_add _ _) ?_
  refine va_sld hx hb hV hbl hbA (hH.sS hXs) (vp_in_nI (by omega) (by omega)) dL_law_247 ?_
  refine hp_eqi (z := xs (i + 2)) (by rw [nI_clamp (by omega)]) ?_
  obtain ⟨fr, lo, mc, ms, NX, E, P, q1, q2, q3, q4, hc1, hc2⟩ := Pr_bits l X (nx := nx) hJ (xs (i + 1)) (xs (i + 2))
  refine hp_kim (hp_runV (As := [.int (xs (i + 1)), .int (xs (i + 2))]) (rest := []) hx hb hml hown hS hH hc1 M_L_28 I_X10_bits V_X10_bits (ci := 6) rfl rfl f_x rfl hl.1 rfl (Nat.le_of_ble_eq_true rfl) dL_law_248 ⟨by show fr + 1 ≤ 11; omega, by show 8 + (3 + 11) + lo ≤ 402; omega⟩ ⟨by show cells + mc ≤ 600000; omega, by show slots + ms ≤ 7302250; omega⟩) hH (fun μ1 H locs hp hH => ?_)
  obtain ⟨⟨fs, ho⟩, fr2, lo2, q5, q6, hc3⟩ := hc2 μ1 hp
  refine lv_aload_n hx hb dL_law_251 rfl (lv_at hl 2 rfl) ?_
  refine lv_aload_n hx hb dL_law_252 rfl (lv_at hl 0 rfl) ?_
  refine lv_iload_n hx hb dL_law_253 rfl (lv_at hl 3 rfl) ?_
  refine lv_iconst (v := nI 1) hx hb dL_law_254 (by decide) ?_
  refine lv_iadd hx hb dL_law_255 ?_
  refine hp_eqi (z := nI (i + 1)) (nI_add _ _) ?_
  refine va_sld hx hb hV hbl hbA (hH.sS hXs) (vp_in_nI (by omega) (by omega)) dL_law_256 ?_
  refine hp_eqi (z := xs (i + 1)) (by rw [nI_clamp (by omega)]) ?_
  refine lv_aload_n hx hb dL_law_257 rfl (lv_at hl 0 rfl) ?_
  refine lv_iload_n hx hb dL_law_258 rfl (lv_at hl 3 rfl) ?_
  refine lv_iconst (v := nI 2) hx hb dL_law_259 (by decide) ?_
  refine lv_iadd hx hb dL_law_260 ?_
  refine hp_eqi (z := nI (i + 2)) (nI_add _ _) ?_
  refine va_sld hx hb hV hbl hbA (hH.sS hXs) (vp_in_nI (by omega) (by omega)) dL_law_261 ?_
  refine hp_eqi (z := xs (i + 2)) (by rw [nI_clamp (by omega)]) ?_
  refine hp_kim (hp_runV (As := [.int (xs (i + 1)), .int (xs (i + 2))]) (rest := [.int E]) hx hb hml hown hS hH hc3 M_L_32 I_X11_bits V_X11_bits (ci := 7) rfl rfl ho rfl hl.1 rfl (Nat.le_of_ble_eq_true rfl) dL_law_262 ⟨by show fr2 + 1 ≤ 11; omega, by show 8 + (4 + 11) + lo2 ≤ 402; omega⟩ ⟨by show cells + mc + 0 ≤ 600000; omega, by show slots + ms + 0 ≤ 7302250; omega⟩) hH (fun μ2 H locs hp2 hH => ?_)
  refine lv_icmp_eq (tgt := 424) hx hb dL_law_265 (by decide) (fun _ => ?_) (fun c9 => absurd rfl c9)
  refine W.widen (k := cells + 3) (n := slots + 30) (by omega) (by omega) ?_
  exact kk _ _ _ _ hH hp2
set_option maxHeartbeats 4000000 in
set_option maxRecDepth 100000 in
theorem arm_octet {p : Program} {l : Launch} {e : Env} {s : State} {m : MethodId} {below : List Frame} {meth : Method} {c : Code} {X : hp_X} {b L x k i : Nat} {xs : Nat → Int32} {μ : hp_M} {nx : Nat} {H : Heap} {locs : List Loc} {cells slots : Nat} {Q : State → Prop} {ls : Array Slot} (hc : LC p s m c X b L xs) (hi : i + 5 ≤ L) (hk5 : k ≤ 512) (hH : hp_w X cls μ nx H locs) (hJ : JW X μ x k) (hl : lv_has ls 4 [(0, .ref b), (1, .ref x), (2, .ref (x + 13)), (3, .int (nI i))]) (hf : cells + 3 ≤ 600000 ∧ slots + 30 ≤ 7302250) (kk : ∀ (μ1 : hp_M) (nx1 : Nat) (H1 : Heap) (locs1 : List Loc), hp_w X cls μ1 nx1 H1 locs1 → JW X μ1 x (k + 1) → W p l e room_1 s m #[Value.ref b] below meth c H1 locs1 (cells + 3) (slots + 30) Q (F0 m 424 ls [])) : W p l e room_1 s m #[Value.ref b] below meth c H locs cells slots Q (F0 m 270 ls []) := by
  obtain ⟨hx, hb, hml, hown, hS, hV, hbl, hXs, hL⟩ := hc
  have hbA : ¬ (fun q : Nat => s.heap.size ≤ q) b := Nat.not_le.mpr hbl
  have f_x := hJ.x
  refine lv_aload_n hx hb dL_law_270 rfl (lv_at hl 1 rfl) ?_
  refine lv_aload_n hx hb dL_law_271 rfl (lv_at hl 0 rfl) ?_
  refine lv_iload_n hx hb dL_law_272 rfl (lv_at hl 3 rfl) ?_
  refine lv_iconst (v := nI 1) hx hb dL_law_273 (by decide) ?_
  refine lv_iadd hx hb dL_law_274 ?_
  refine hp_eqi (z := nI (i + 1)) (nI_add _ _) ?_
  refine va_sld hx hb hV hbl hbA (hH.sS hXs) (vp_in_nI (by omega) (by omega)) dL_law_275 ?_
  refine hp_eqi (z := xs (i + 1)) (by rw [nI_clamp (by omega)]) ?_
  obtain ⟨fr, lo, mc, ms, NX, E, P, q1, q2, q3, q4, hc1, hc2⟩ := Pr_octet l X (nx := nx) hJ (xs (i + 1))
  refine hp_kim (hp_runV (As := [.int (xs (i + 1))]) (rest := []) hx hb hml hown hS hH hc1 M_L_33 I_X10_octet V_X10_octet (ci := 6) rfl rfl f_x rfl hl.1 rfl (Nat.le_of_ble_eq_true rfl) dL_law_276 ⟨by show fr + 1 ≤ 11; omega, by show 8 + (2 + 11) + lo ≤ 402; omega⟩ ⟨by show cells + mc ≤ 600000; omega, by show slots + ms ≤ 7302250; omega⟩) hH (fun μ1 H locs hp hH => ?_)
  obtain ⟨⟨fs, ho⟩, fr2, lo2, q5, q6, hc3⟩ := hc2 μ1 hp
  refine lv_aload_n hx hb dL_law_279 rfl (lv_at hl 2 rfl) ?_
  refine lv_aload_n hx hb dL_law_280 rfl (lv_at hl 0 rfl) ?_
  refine lv_iload_n hx hb dL_law_281 rfl (lv_at hl 3 rfl) ?_
  refine lv_iconst (v := nI 1) hx hb dL_law_282 (by decide) ?_
  refine lv_iadd hx hb dL_law_283 ?_
  refine hp_eqi (z := nI (i + 1)) (nI_add _ _) ?_
  refine va_sld hx hb hV hbl hbA (hH.sS hXs) (vp_in_nI (by omega) (by omega)) dL_law_284 ?_
  refine hp_eqi (z := xs (i + 1)) (by rw [nI_clamp (by omega)]) ?_
  refine hp_kim (hp_runV (As := [.int (xs (i + 1))]) (rest := [.int E]) hx hb hml hown hS hH hc3 M_L_37 I_X11_octet V_X11_octet (ci := 7) rfl rfl ho rfl hl.1 rfl (Nat.le_of_ble_eq_true rfl) dL_law_285 ⟨by show fr2 + 1 ≤ 11; omega, by show 8 + (2 + 11) + lo2 ≤ 402; omega⟩ ⟨by show cells + mc + 0 ≤ 600000; omega, by show slots + ms + 0 ≤ 7302250; omega⟩) hH (fun μ2 H locs hp2 hH => ?_)
  refine lv_icmp_eq (tgt := 424) hx hb dL_law_288 (by decide) (fun _ => ?_) (fun c9 => absurd rfl c9)
  refine W.widen (k := cells + 3) (n := slots + 30) (by omega) (by omega) ?_
  exact kk _ _ _ _ hH hp2
set_option maxHeartbeats 4000000 in
set_option maxRecDepth 100000 in
theorem arm_check {p : Program} {l : Launch} {e : Env} {s : State} {m : MethodId} {below : List Frame} {meth : Method} {c : Code} {X : hp_X} {b L x k i : Nat} {xs : Nat → Int32} {μ : hp_M} {nx : Nat} {H : Heap} {locs : List Loc} {cells slots : Nat} {Q : State → Prop} {ls : Array Slot} (hc : LC p s m c X b L xs) (hi : i + 5 ≤ L) (hk5 : k ≤ 512) (hH : hp_w X cls μ nx H locs) (hJ : JW X μ x k) (hl : lv_has ls 4 [(0, .ref b), (1, .ref x), (2, .ref (x + 13)), (3, .int (nI i))]) (hf : cells + 3 ≤ 600000 ∧ slots + 30 ≤ 7302250) (kk : ∀ (μ1 : hp_M) (nx1 : Nat) (H1 : Heap) (locs1 : List Loc), hp_w X cls μ1 nx1 H1 locs1 → JW X μ1 x (k + 1) → W p l e room_1 s m #[Value.ref b] below meth c H1 locs1 (cells + 3) (slots + 30) Q (F0 m 424 ls [])) : W p l e room_1 s m #[Value.ref b] below meth c H locs cells slots Q (F0 m 293 ls []) := by
  obtain ⟨hx, hb, hml, hown, hS, hV, hbl, hXs, hL⟩ := hc
  have hbA : ¬ (fun q : Nat => s.heap.size ≤ q) b := Nat.not_le.mpr hbl
  have f_x := hJ.x
  refine lv_aload_n hx hb dL_law_293 rfl (lv_at hl 1 rfl) ?_
  obtain ⟨fr, lo, mc, ms, NX, E, P, q1, q2, q3, q4, hc1, hc2⟩ := Pr_check l X (nx := nx) hJ
  refine hp_kim (hp_runV (As := []) (rest := []) hx hb hml hown hS hH hc1 M_L_38 I_X10_check V_X10_check (ci := 6) rfl rfl f_x rfl hl.1 rfl (Nat.le_of_ble_eq_true rfl) dL_law_294 ⟨by show fr + 1 ≤ 11; omega, by show 8 + (2 + 11) + lo ≤ 402; omega⟩ ⟨by show cells + mc ≤ 600000; omega, by show slots + ms ≤ 7302250; omega⟩) hH (fun μ1 H locs hp hH => ?_)
  obtain ⟨⟨fs, ho⟩, fr2, lo2, q5, q6, hc3⟩ := hc2 μ1 hp
  refine lv_aload_n hx hb dL_law_297 rfl (lv_at hl 2 rfl) ?_
  refine hp_kim (hp_runV (As := []) (rest := [.int E]) hx hb hml hown hS hH hc3 M_L_42 I_X11_check V_X11_check (ci := 7) rfl rfl ho rfl hl.1 rfl (Nat.le_of_ble_eq_true rfl) dL_law_298 ⟨by show fr2 + 1 ≤ 11; omega, by show 8 + (4 + 11) + lo2 ≤ 402; omega⟩ ⟨by show cells + mc + 0 ≤ 600000; omega, by show slots + ms + 0 ≤ 7302250; omega⟩) hH (fun μ2 H locs hp2 hH => ?_)
  refine lv_icmp_eq (tgt := 424) hx hb dL_law_301 (by decide) (fun _ => ?_) (fun c9 => absurd rfl c9)
  refine W.widen (k := cells + 3) (n := slots + 30) (by omega) (by omega) ?_
  exact kk _ _ _ _ hH hp2
set_option maxHeartbeats 4000000 in
set_option maxRecDepth 100000 in
theorem arm_go {p : Program} {l : Launch} {e : Env} {s : State} {m : MethodId} {below : List Frame} {meth : Method} {c : Code} {X : hp_X} {b L x k i : Nat} {xs : Nat → Int32} {μ : hp_M} {nx : Nat} {H : Heap} {locs : List Loc} {cells slots : Nat} {Q : State → Prop} {ls : Array Slot} (hc : LC p s m c X b L xs) (hi : i + 5 ≤ L) (hk5 : k ≤ 512) (hH : hp_w X cls μ nx H locs) (hJ : JW X μ x k) (hl : lv_has ls 4 [(0, .ref b), (1, .ref x), (2, .ref (x + 13)), (3, .int (nI i))]) (hf : cells + 3 ≤ 600000 ∧ slots + 30 ≤ 7302250) (kk : ∀ (μ1 : hp_M) (nx1 : Nat) (H1 : Heap) (locs1 : List Loc), hp_w X cls μ1 nx1 H1 locs1 → JW X μ1 x (k + 1) → W p l e room_1 s m #[Value.ref b] below meth c H1 locs1 (cells + 3) (slots + 30) Q (F0 m 424 ls [])) : W p l e room_1 s m #[Value.ref b] below meth c H locs cells slots Q (F0 m 306 ls []) := by
  obtain ⟨hx, hb, hml, hown, hS, hV, hbl, hXs, hL⟩ := hc
  have hbA : ¬ (fun q : Nat => s.heap.size ≤ q) b := Nat.not_le.mpr hbl
  have f_x := hJ.x
  refine lv_aload_n hx hb dL_law_306 rfl (lv_at hl 1 rfl) ?_
  obtain ⟨fr, lo, mc, ms, NX, E, P, q1, q2, q3, q4, hc1, hc2⟩ := Pr_go l X (nx := nx) hJ hk5
  refine hp_kim (hp_runV (As := []) (rest := []) hx hb hml hown hS hH hc1 M_L_43 I_X10_go V_X10_go (ci := 6) rfl rfl f_x rfl hl.1 rfl (Nat.le_of_ble_eq_true rfl) dL_law_307 ⟨by show fr + 1 ≤ 11; omega, by show 8 + (2 + 11) + lo ≤ 402; omega⟩ ⟨by show cells + mc ≤ 600000; omega, by show slots + ms ≤ 7302250; omega⟩) hH (fun μ1 H locs hp hH => ?_)
  obtain ⟨⟨fs, ho⟩, fr2, lo2, q5, q6, hc3⟩ := hc2 μ1 hp
  refine lv_aload_n hx hb dL_law_310 rfl (lv_at hl 2 rfl) ?_
  refine hp_kim (hp_runV (As := []) (rest := [.int E]) hx hb hml hown hS hH hc3 M_L_46 I_X11_go V_X11_go (ci := 7) rfl rfl ho rfl hl.1 rfl (Nat.le_of_ble_eq_true rfl) dL_law_311 ⟨by show fr2 + 1 ≤ 11; omega, by show 8 + (2 + 11) + lo2 ≤ 402; omega⟩ ⟨by show cells + mc + 0 ≤ 600000; omega, by show slots + ms + 0 ≤ 7302250; omega⟩) hH (fun μ2 H locs hp2 hH => ?_)
  refine lv_icmp_eq (tgt := 424) hx hb dL_law_314 (by decide) (fun _ => ?_) (fun c9 => absurd rfl c9)
  refine W.widen (k := cells + 3) (n := slots + 30) (by omega) (by omega) ?_
  exact kk _ _ _ _ hH hp2
set_option maxHeartbeats 4000000 in
set_option maxRecDepth 100000 in
theorem arm_answer {p : Program} {l : Launch} {e : Env} {s : State} {m : MethodId} {below : List Frame} {meth : Method} {c : Code} {X : hp_X} {b L x k i : Nat} {xs : Nat → Int32} {μ : hp_M} {nx : Nat} {H : Heap} {locs : List Loc} {cells slots : Nat} {Q : State → Prop} {ls : Array Slot} (hc : LC p s m c X b L xs) (hi : i + 5 ≤ L) (hk5 : k ≤ 512) (hH : hp_w X cls μ nx H locs) (hJ : JW X μ x k) (hl : lv_has ls 4 [(0, .ref b), (1, .ref x), (2, .ref (x + 13)), (3, .int (nI i))]) (hf : cells + 3 ≤ 600000 ∧ slots + 30 ≤ 7302250) (kk : ∀ (μ1 : hp_M) (nx1 : Nat) (H1 : Heap) (locs1 : List Loc), hp_w X cls μ1 nx1 H1 locs1 → JW X μ1 x (k + 1) → W p l e room_1 s m #[Value.ref b] below meth c H1 locs1 (cells + 3) (slots + 30) Q (F0 m 424 ls [])) : W p l e room_1 s m #[Value.ref b] below meth c H locs cells slots Q (F0 m 319 ls []) := by
  obtain ⟨hx, hb, hml, hown, hS, hV, hbl, hXs, hL⟩ := hc
  have hbA : ¬ (fun q : Nat => s.heap.size ≤ q) b := Nat.not_le.mpr hbl
  have f_x := hJ.x
  refine lv_aload_n hx hb dL_law_319 rfl (lv_at hl 1 rfl) ?_
  refine lv_aload_n hx hb dL_law_320 rfl (lv_at hl 0 rfl) ?_
  refine lv_iload_n hx hb dL_law_321 rfl (lv_at hl 3 rfl) ?_
  refine lv_iconst (v := nI 1) hx hb dL_law_322 (by decide) ?_
  refine lv_iadd hx hb dL_law_323 ?_
  refine hp_eqi (z := nI (i + 1)) (nI_add _ _) ?_
  refine va_sld hx hb hV hbl hbA (hH.sS hXs) (vp_in_nI (by omega) (by omega)) dL_law_324 ?_
  refine hp_eqi (z := xs (i + 1)) (by rw [nI_clamp (by omega)]) ?_
  obtain ⟨fr, lo, mc, ms, NX, E, P, q1, q2, q3, q4, hc1, hc2⟩ := Pr_answer l X (nx := nx) hJ (xs (i + 1))
  refine hp_kim (hp_runV (As := [.int (xs (i + 1))]) (rest := []) hx hb hml hown hS hH hc1 M_L_47 I_X10_answer V_X10_answer (ci := 6) rfl rfl f_x rfl hl.1 rfl (Nat.le_of_ble_eq_true rfl) dL_law_325 ⟨by show fr + 1 ≤ 11; omega, by show 8 + (2 + 11) + lo ≤ 402; omega⟩ ⟨by show cells + mc ≤ 600000; omega, by show slots + ms ≤ 7302250; omega⟩) hH (fun μ1 H locs hp hH => ?_)
  obtain ⟨⟨fs, ho⟩, fr2, lo2, q5, q6, hc3⟩ := hc2 μ1 hp
  refine lv_aload_n hx hb dL_law_328 rfl (lv_at hl 2 rfl) ?_
  refine lv_aload_n hx hb dL_law_329 rfl (lv_at hl 0 rfl) ?_
  refine lv_iload_n hx hb dL_law_330 rfl (lv_at hl 3 rfl) ?_
  refine lv_iconst (v := nI 1) hx hb dL_law_331 (by decide) ?_
  refine lv_iadd hx hb dL_law_332 ?_
  refine hp_eqi (z := nI (i + 1)) (nI_add _ _) ?_
  refine va_sld hx hb hV hbl hbA (hH.sS hXs) (vp_in_nI (by omega) (by omega)) dL_law_333 ?_
  refine hp_eqi (z := xs (i + 1)) (by rw [nI_clamp (by omega)]) ?_
  refine hp_kim (hp_runV (As := [.int (xs (i + 1))]) (rest := [.int E]) hx hb hml hown hS hH hc3 M_L_50 I_X11_answer V_X11_answer (ci := 7) rfl rfl ho rfl hl.1 rfl (Nat.le_of_ble_eq_true rfl) dL_law_334 ⟨by show fr2 + 1 ≤ 11; omega, by show 8 + (2 + 11) + lo2 ≤ 402; omega⟩ ⟨by show cells + mc + 0 ≤ 600000; omega, by show slots + ms + 0 ≤ 7302250; omega⟩) hH (fun μ2 H locs hp2 hH => ?_)
  refine lv_icmp_eq (tgt := 424) hx hb dL_law_337 (by decide) (fun _ => ?_) (fun c9 => absurd rfl c9)
  refine W.widen (k := cells + 3) (n := slots + 30) (by omega) (by omega) ?_
  exact kk _ _ _ _ hH hp2
set_option maxHeartbeats 4000000 in
set_option maxRecDepth 100000 in
theorem arm_state {p : Program} {l : Launch} {e : Env} {s : State} {m : MethodId} {below : List Frame} {meth : Method} {c : Code} {X : hp_X} {b L x k i : Nat} {xs : Nat → Int32} {μ : hp_M} {nx : Nat} {H : Heap} {locs : List Loc} {cells slots : Nat} {Q : State → Prop} {ls : Array Slot} (hc : LC p s m c X b L xs) (hi : i + 5 ≤ L) (hk5 : k ≤ 512) (hH : hp_w X cls μ nx H locs) (hJ : JW X μ x k) (hl : lv_has ls 4 [(0, .ref b), (1, .ref x), (2, .ref (x + 13)), (3, .int (nI i))]) (hf : cells + 3 ≤ 600000 ∧ slots + 30 ≤ 7302250) (kk : ∀ (μ1 : hp_M) (nx1 : Nat) (H1 : Heap) (locs1 : List Loc), hp_w X cls μ1 nx1 H1 locs1 → JW X μ1 x (k + 1) → W p l e room_1 s m #[Value.ref b] below meth c H1 locs1 (cells + 3) (slots + 30) Q (F0 m 424 ls [])) : W p l e room_1 s m #[Value.ref b] below meth c H locs cells slots Q (F0 m 342 ls []) := by
  obtain ⟨hx, hb, hml, hown, hS, hV, hbl, hXs, hL⟩ := hc
  have hbA : ¬ (fun q : Nat => s.heap.size ≤ q) b := Nat.not_le.mpr hbl
  have f_x := hJ.x
  refine lv_aload_n hx hb dL_law_342 rfl (lv_at hl 1 rfl) ?_
  refine lv_aload_n hx hb dL_law_343 rfl (lv_at hl 0 rfl) ?_
  refine lv_iload_n hx hb dL_law_344 rfl (lv_at hl 3 rfl) ?_
  refine lv_iconst (v := nI 1) hx hb dL_law_345 (by decide) ?_
  refine lv_iadd hx hb dL_law_346 ?_
  refine hp_eqi (z := nI (i + 1)) (nI_add _ _) ?_
  refine va_sld hx hb hV hbl hbA (hH.sS hXs) (vp_in_nI (by omega) (by omega)) dL_law_347 ?_
  refine hp_eqi (z := xs (i + 1)) (by rw [nI_clamp (by omega)]) ?_
  obtain ⟨fr, lo, mc, ms, NX, E, P, q1, q2, q3, q4, hc1, hc2⟩ := Pr_state l X (nx := nx) hJ (xs (i + 1))
  refine hp_kim (hp_runV (As := [.int (xs (i + 1))]) (rest := []) hx hb hml hown hS hH hc1 M_L_51 I_X10_state V_X10_state (ci := 6) rfl rfl f_x rfl hl.1 rfl (Nat.le_of_ble_eq_true rfl) dL_law_348 ⟨by show fr + 1 ≤ 11; omega, by show 8 + (2 + 11) + lo ≤ 402; omega⟩ ⟨by show cells + mc ≤ 600000; omega, by show slots + ms ≤ 7302250; omega⟩) hH (fun μ1 H locs hp hH => ?_)
  obtain ⟨⟨fs, ho⟩, fr2, lo2, q5, q6, hc3⟩ := hc2 μ1 hp
  refine lv_aload_n hx hb dL_law_351 rfl (lv_at hl 2 rfl) ?_
  refine lv_aload_n hx hb dL_law_352 rfl (lv_at hl 0 rfl) ?_
  refine lv_iload_n hx hb dL_law_353 rfl (lv_at hl 3 rfl) ?_
  refine lv_iconst (v := nI 1) hx hb dL_law_354 (by decide) ?_
  refine lv_iadd hx hb dL_law_355 ?_
  refine hp_eqi (z := nI (i + 1)) (nI_add _ _) ?_
  refine va_sld hx hb hV hbl hbA (hH.sS hXs) (vp_in_nI (by omega) (by omega)) dL_law_356 ?_
  refine hp_eqi (z := xs (i + 1)) (by rw [nI_clamp (by omega)]) ?_
  refine hp_kim (hp_runV (As := [.int (xs (i + 1))]) (rest := [.int E]) hx hb hml hown hS hH hc3 M_L_54 I_X11_state V_X11_state (ci := 7) rfl rfl ho rfl hl.1 rfl (Nat.le_of_ble_eq_true rfl) dL_law_357 ⟨by show fr2 + 1 ≤ 11; omega, by show 8 + (2 + 11) + lo2 ≤ 402; omega⟩ ⟨by show cells + mc + 0 ≤ 600000; omega, by show slots + ms + 0 ≤ 7302250; omega⟩) hH (fun μ2 H locs hp2 hH => ?_)
  refine lv_icmp_eq (tgt := 424) hx hb dL_law_360 (by decide) (fun _ => ?_) (fun c9 => absurd rfl c9)
  refine W.widen (k := cells + 3) (n := slots + 30) (by omega) (by omega) ?_
  exact kk _ _ _ _ hH hp2
set_option maxHeartbeats 4000000 in
set_option maxRecDepth 100000 in
theorem arm_round {p : Program} {l : Launch} {e : Env} {s : State} {m : MethodId} {below : List Frame} {meth : Method} {c : Code} {X : hp_X} {b L x k i : Nat} {xs : Nat → Int32} {μ : hp_M} {nx : Nat} {H : Heap} {locs : List Loc} {cells slots : Nat} {Q : State → Prop} {ls : Array Slot} (hc : LC p s m c X b L xs) (hi : i + 5 ≤ L) (hk5 : k ≤ 512) (hH : hp_w X cls μ nx H locs) (hJ : JW X μ x k) (hl : lv_has ls 4 [(0, .ref b), (1, .ref x), (2, .ref (x + 13)), (3, .int (nI i))]) (hf : cells + 3 ≤ 600000 ∧ slots + 30 ≤ 7302250) (kk : ∀ (μ1 : hp_M) (nx1 : Nat) (H1 : Heap) (locs1 : List Loc), hp_w X cls μ1 nx1 H1 locs1 → JW X μ1 x (k + 1) → W p l e room_1 s m #[Value.ref b] below meth c H1 locs1 (cells + 3) (slots + 30) Q (F0 m 424 ls [])) : W p l e room_1 s m #[Value.ref b] below meth c H locs cells slots Q (F0 m 365 ls []) := by
  obtain ⟨hx, hb, hml, hown, hS, hV, hbl, hXs, hL⟩ := hc
  have hbA : ¬ (fun q : Nat => s.heap.size ≤ q) b := Nat.not_le.mpr hbl
  have f_x := hJ.x
  refine lv_aload_n hx hb dL_law_365 rfl (lv_at hl 1 rfl) ?_
  obtain ⟨fr, lo, mc, ms, NX, E, P, q1, q2, q3, q4, hc1, hc2⟩ := Pr_round l X (nx := nx) hJ hk5
  refine hp_kim (hp_runV (As := []) (rest := []) hx hb hml hown hS hH hc1 M_L_55 I_X10_round V_X10_round (ci := 6) rfl rfl f_x rfl hl.1 rfl (Nat.le_of_ble_eq_true rfl) dL_law_366 ⟨by show fr + 1 ≤ 11; omega, by show 8 + (2 + 11) + lo ≤ 402; omega⟩ ⟨by show cells + mc ≤ 600000; omega, by show slots + ms ≤ 7302250; omega⟩) hH (fun μ1 H locs hp hH => ?_)
  obtain ⟨⟨fs, ho⟩, fr2, lo2, q5, q6, hc3⟩ := hc2 μ1 hp
  refine lv_aload_n hx hb dL_law_369 rfl (lv_at hl 2 rfl) ?_
  refine hp_kim (hp_runV (As := []) (rest := [.int E]) hx hb hml hown hS hH hc3 M_L_58 I_X11_round V_X11_round (ci := 7) rfl rfl ho rfl hl.1 rfl (Nat.le_of_ble_eq_true rfl) dL_law_370 ⟨by show fr2 + 1 ≤ 11; omega, by show 8 + (7 + 11) + lo2 ≤ 402; omega⟩ ⟨by show cells + mc + 0 ≤ 600000; omega, by show slots + ms + 0 ≤ 7302250; omega⟩) hH (fun μ2 H locs hp2 hH => ?_)
  refine lv_icmp_eq (tgt := 424) hx hb dL_law_373 (by decide) (fun _ => ?_) (fun c9 => absurd rfl c9)
  refine W.widen (k := cells + 3) (n := slots + 30) (by omega) (by omega) ?_
  exact kk _ _ _ _ hH hp2
set_option maxHeartbeats 4000000 in
set_option maxRecDepth 100000 in
theorem arm_found {p : Program} {l : Launch} {e : Env} {s : State} {m : MethodId} {below : List Frame} {meth : Method} {c : Code} {X : hp_X} {b L x k i : Nat} {xs : Nat → Int32} {μ : hp_M} {nx : Nat} {H : Heap} {locs : List Loc} {cells slots : Nat} {Q : State → Prop} {ls : Array Slot} (hc : LC p s m c X b L xs) (hi : i + 5 ≤ L) (hk5 : k ≤ 512) (hH : hp_w X cls μ nx H locs) (hJ : JW X μ x k) (hl : lv_has ls 4 [(0, .ref b), (1, .ref x), (2, .ref (x + 13)), (3, .int (nI i))]) (hf : cells + 3 ≤ 600000 ∧ slots + 30 ≤ 7302250) (kk : ∀ (μ1 : hp_M) (nx1 : Nat) (H1 : Heap) (locs1 : List Loc), hp_w X cls μ1 nx1 H1 locs1 → JW X μ1 x (k + 1) → W p l e room_1 s m #[Value.ref b] below meth c H1 locs1 (cells + 3) (slots + 30) Q (F0 m 424 ls [])) : W p l e room_1 s m #[Value.ref b] below meth c H locs cells slots Q (F0 m 378 ls []) := by
  obtain ⟨hx, hb, hml, hown, hS, hV, hbl, hXs, hL⟩ := hc
  have hbA : ¬ (fun q : Nat => s.heap.size ≤ q) b := Nat.not_le.mpr hbl
  have f_x := hJ.x
  refine lv_aload_n hx hb dL_law_378 rfl (lv_at hl 1 rfl) ?_
  refine lv_aload_n hx hb dL_law_379 rfl (lv_at hl 0 rfl) ?_
  refine lv_iload_n hx hb dL_law_380 rfl (lv_at hl 3 rfl) ?_
  refine lv_iconst (v := nI 1) hx hb dL_law_381 (by decide) ?_
  refine lv_iadd hx hb dL_law_382 ?_
  refine hp_eqi (z := nI (i + 1)) (nI_add _ _) ?_
  refine va_sld hx hb hV hbl hbA (hH.sS hXs) (vp_in_nI (by omega) (by omega)) dL_law_383 ?_
  refine hp_eqi (z := xs (i + 1)) (by rw [nI_clamp (by omega)]) ?_
  refine lv_aload_n hx hb dL_law_384 rfl (lv_at hl 0 rfl) ?_
  refine lv_iload_n hx hb dL_law_385 rfl (lv_at hl 3 rfl) ?_
  refine lv_iconst (v := nI 2) hx hb dL_law_386 (by decide) ?_
  refine lv_iadd hx hb dL_law_387 ?_
  refine hp_eqi (z := nI (i + 2)) (nI_add _ _) ?_
  refine va_sld hx hb hV hbl hbA (hH.sS hXs) (vp_in_nI (by omega) (by omega)) dL_law_388 ?_
  refine hp_eqi (z := xs (i + 2)) (by rw [nI_clamp (by omega)]) ?_
  obtain ⟨fr, lo, mc, ms, NX, E, P, q1, q2, q3, q4, hc1, hc2⟩ := Pr_found l X (nx := nx) hJ (xs (i + 1)) (xs (i + 2))
  refine hp_kim (hp_runV (As := [.int (xs (i + 1)), .int (xs (i + 2))]) (rest := []) hx hb hml hown hS hH hc1 M_L_59 I_X10_found V_X10_found (ci := 6) rfl rfl f_x rfl hl.1 rfl (Nat.le_of_ble_eq_true rfl) dL_law_389 ⟨by show fr + 1 ≤ 11; omega, by show 8 + (3 + 11) + lo ≤ 402; omega⟩ ⟨by show cells + mc ≤ 600000; omega, by show slots + ms ≤ 7302250; omega⟩) hH (fun μ1 H locs hp hH => ?_)
  obtain ⟨⟨fs, ho⟩, fr2, lo2, q5, q6, hc3⟩ := hc2 μ1 hp
  refine lv_aload_n hx hb dL_law_392 rfl (lv_at hl 2 rfl) ?_
  refine lv_aload_n hx hb dL_law_393 rfl (lv_at hl 0 rfl) ?_
  refine lv_iload_n hx hb dL_law_394 rfl (lv_at hl 3 rfl) ?_
  refine lv_iconst (v := nI 1) hx hb dL_law_395 (by decide) ?_
  refine lv_iadd hx hb dL_law_396 ?_
  refine hp_eqi (z := nI (i + 1)) (nI_add _ _) ?_
  refine va_sld hx hb hV hbl hbA (hH.sS hXs) (vp_in_nI (by omega) (by omega)) dL_law_397 ?_
  refine hp_eqi (z := xs (i + 1)) (by rw [nI_clamp (by omega)]) ?_
  refine lv_aload_n hx hb dL_law_398 rfl (lv_at hl 0 rfl) ?_
  refine lv_iload_n hx hb dL_law_399 rfl (lv_at hl 3 rfl) ?_
  refine lv_iconst (v := nI 2) hx hb dL_law_400 (by decide) ?_
  refine lv_iadd hx hb dL_law_401 ?_
  refine hp_eqi (z := nI (i + 2)) (nI_add _ _) ?_
  refine va_sld hx hb hV hbl hbA (hH.sS hXs) (vp_in_nI (by omega) (by omega)) dL_law_402 ?_
  refine hp_eqi (z := xs (i + 2)) (by rw [nI_clamp (by omega)]) ?_
  refine hp_kim (hp_runV (As := [.int (xs (i + 1)), .int (xs (i + 2))]) (rest := [.int E]) hx hb hml hown hS hH hc3 M_L_62 I_X11_found V_X11_found (ci := 7) rfl rfl ho rfl hl.1 rfl (Nat.le_of_ble_eq_true rfl) dL_law_403 ⟨by show fr2 + 1 ≤ 11; omega, by show 8 + (3 + 11) + lo2 ≤ 402; omega⟩ ⟨by show cells + mc + 0 ≤ 600000; omega, by show slots + ms + 0 ≤ 7302250; omega⟩) hH (fun μ2 H locs hp2 hH => ?_)
  refine lv_icmp_eq (tgt := 424) hx hb dL_law_406 (by decide) (fun _ => ?_) (fun c9 => absurd rfl c9)
  refine W.widen (k := cells + 3) (n := slots + 30) (by omega) (by omega) ?_
  exact kk _ _ _ _ hH hp2
set_option maxHeartbeats 4000000 in
set_option maxRecDepth 100000 in
theorem arm_frames {p : Program} {l : Launch} {e : Env} {s : State} {m : MethodId} {below : List Frame} {meth : Method} {c : Code} {X : hp_X} {b L x k i : Nat} {xs : Nat → Int32} {μ : hp_M} {nx : Nat} {H : Heap} {locs : List Loc} {cells slots : Nat} {Q : State → Prop} {ls : Array Slot} (hc : LC p s m c X b L xs) (hi : i + 5 ≤ L) (hk5 : k ≤ 512) (hH : hp_w X cls μ nx H locs) (hJ : JW X μ x k) (hl : lv_has ls 4 [(0, .ref b), (1, .ref x), (2, .ref (x + 13)), (3, .int (nI i))]) (hf : cells + 3 ≤ 600000 ∧ slots + 30 ≤ 7302250) (kk : ∀ (μ1 : hp_M) (nx1 : Nat) (H1 : Heap) (locs1 : List Loc), hp_w X cls μ1 nx1 H1 locs1 → JW X μ1 x (k + 1) → W p l e room_1 s m #[Value.ref b] below meth c H1 locs1 (cells + 3) (slots + 30) Q (F0 m 424 ls [])) : W p l e room_1 s m #[Value.ref b] below meth c H locs cells slots Q (F0 m 411 ls []) := by
  obtain ⟨hx, hb, hml, hown, hS, hV, hbl, hXs, hL⟩ := hc
  have hbA : ¬ (fun q : Nat => s.heap.size ≤ q) b := Nat.not_le.mpr hbl
  have f_x := hJ.x
  refine lv_aload_n hx hb dL_law_411 rfl (lv_at hl 1 rfl) ?_
  obtain ⟨fr, lo, mc, ms, NX, E, P, q1, q2, q3, q4, hc1, hc2⟩ := Pr_frames l X (nx := nx) hJ
  refine hp_kim (hp_runV (As := []) (rest := []) hx hb hml hown hS hH hc1 M_L_63 I_X10_frames V_X10_frames (ci := 6) rfl rfl f_x rfl hl.1 rfl (Nat.le_of_ble_eq_true rfl) dL_law_412 ⟨by show fr + 1 ≤ 11; omega, by show 8 + (1 + 11) + lo ≤ 402; omega⟩ ⟨by show cells + mc ≤ 600000; omega, by show slots + ms ≤ 7302250; omega⟩) hH (fun μ1 H locs hp hH => ?_)
  obtain ⟨⟨fs, ho⟩, fr2, lo2, q5, q6, hc3⟩ := hc2 μ1 hp
  refine lv_aload_n hx hb dL_law_415 rfl (lv_at hl 2 rfl) ?_
  refine hp_kim (hp_runV (As := []) (rest := [.int E]) hx hb hml hown hS hH hc3 M_L_66 I_X11_frames V_X11_frames (ci := 7) rfl rfl ho rfl hl.1 rfl (Nat.le_of_ble_eq_true rfl) dL_law_416 ⟨by show fr2 + 1 ≤ 11; omega, by show 8 + (1 + 11) + lo2 ≤ 402; omega⟩ ⟨by show cells + mc + 0 ≤ 600000; omega, by show slots + ms + 0 ≤ 7302250; omega⟩) hH (fun μ2 H locs hp2 hH => ?_)
  refine lv_icmp_eq (tgt := 424) hx hb dL_law_419 (by decide) (fun _ => ?_) (fun c9 => absurd rfl c9)
  refine W.widen (k := cells + 3) (n := slots + 30) (by omega) (by omega) ?_
  exact kk _ _ _ _ hH hp2
set_option maxHeartbeats 4000000 in
set_option maxRecDepth 100000 in
/-- the loop: after k calls of each -/
theorem law_loop {p : Program} {l : Launch} {e : Env} {s : State} {m : MethodId} {below : List Frame} {meth : Method} {c : Code} {X : hp_X} {b L x : Nat} {xs : Nat → Int32} (hc : LC p s m c X b L xs) (hr : meth.sig.returnType = ret) (hlocks : meth.locks = false) :
    ∀ (f k i : Nat), i = 5 * k → i ≤ L → L ≤ i + 5 * f + 4 → ∀ (μ : hp_M) (nx : Nat) (H : Heap) (locs : List Loc) (ls : Array Slot), hp_w X cls μ nx H locs → JW X μ x k → lv_has ls 4 [(0, .ref b), (1, .ref x), (2, .ref (x + 13)), (3, .int (nI i))] → W p l e room_1 s m #[Value.ref b] below meth c H locs (30 + 3 * k) (4079 + 30 * k) (lw_Z below #[Value.ref b] s) (F0 m 18 ls []) := by
  obtain ⟨hx, hb, hml, hown, hS, hV, hbl, hXs, hL⟩ := id hc
  have hbA : ¬ (fun q : Nat => s.heap.size ≤ q) b := Nat.not_le.mpr hbl
  intro f
  induction f with
  | zero =>
    intro k i ei hiL hLi μ nx H locs ls hH hJ hl
    refine lv_iload_n hx hb dL_law_18 rfl (lv_at hl 3 rfl) ?_
    refine lv_aload_n hx hb dL_law_19 rfl (lv_at hl 0 rfl) ?_
    refine va_slen hx hb hV hbl hbA (hH.sS hXs) dL_law_20 ?_
    refine lv_iconst (v := nI 5) hx hb dL_law_21 (by decide) ?_
    refine lv_isub hx hb dL_law_22 ?_
    refine lv_icmp_gt (tgt := 430) hx hb dL_law_23 (by decide) (fun c_23 => ?_) (fun c_23 => ?_)
    · refine lv_iconst (v := 1) hx hb dL_law_430 (by decide) ?_
      refine va_forget (fun q hq => by have := hH.2.2.2.2 q hq; rw [hXs] at this; exact this) ?_
      refine W.widen (k := 600000) (n := 7302250) (by omega) (by omega) ?_
      exact lw_ret hx hb hr hlocks dL_law_431
    · exfalso
      refine c_23 ?_
      by_cases h5 : 5 ≤ L
      · rw [show Int32.ofNat L - nI 5 = nI (L - 5) from pk_sub h5]
        exact (nI_ltI (by omega) (by omega)).mpr (by omega)
      · have h6 : nI L - nI 5 < 0 := pk_sneg (by decide) (by omega)
        exact Int32.lt_of_lt_of_le h6 (nI_pos' (by omega))
  | succ f ih =>
    intro k i ei hiL hLi μ nx H locs ls hH hJ hl
    refine lv_iload_n hx hb dL_law_18 rfl (lv_at hl 3 rfl) ?_
    refine lv_aload_n hx hb dL_law_19 rfl (lv_at hl 0 rfl) ?_
    refine va_slen hx hb hV hbl hbA (hH.sS hXs) dL_law_20 ?_
    refine lv_iconst (v := nI 5) hx hb dL_law_21 (by decide) ?_
    refine lv_isub hx hb dL_law_22 ?_
    refine lv_icmp_gt (tgt := 430) hx hb dL_law_23 (by decide) (fun c_23 => ?_) (fun c_23 => ?_)
    · refine lv_iconst (v := 1) hx hb dL_law_430 (by decide) ?_
      refine va_forget (fun q hq => by have := hH.2.2.2.2 q hq; rw [hXs] at this; exact this) ?_
      refine W.widen (k := 600000) (n := 7302250) (by omega) (by omega) ?_
      exact lw_ret hx hb hr hlocks dL_law_431
    · have hi5 : i + 5 ≤ L := by
        by_cases h5 : 5 ≤ L
        · by_cases h6 : i + 5 ≤ L
          · exact h6
          · refine absurd ?_ c_23
            rw [show Int32.ofNat L - nI 5 = nI (L - 5) from pk_sub h5]
            exact (nI_ltI (by omega) (by omega)).mpr (by omega)
        · refine absurd ?_ c_23
          have h6 : nI L - nI 5 < 0 := pk_sneg (by decide) (by omega)
          exact Int32.lt_of_lt_of_le h6 (nI_pos' (by omega))
      have kk : ∀ (μ1 : hp_M) (nx1 : Nat) (H1 : Heap) (locs1 : List Loc), hp_w X cls μ1 nx1 H1 locs1 → JW X μ1 x (k + 1) → W p l e room_1 s m #[Value.ref b] below meth c H1 locs1 (30 + 3 * k + 3) (4079 + 30 * k + 30) (lw_Z below #[Value.ref b] s) (F0 m 424 ls []) := by
        intro μ1 nx1 H1 locs1 hH1 hJ1
        refine lv_iinc (v := nI (i + 5)) (lv' := [(3, .int (nI (i + 5))), (0, .ref b), (1, .ref x), (2, .ref (x + 13))]) hx hb dL_law_424 hl (k := 3) rfl (nI_add _ 5) (by decide) rfl (fun ls hl => ?_)
        refine lv_goto (tgt := 18) hx hb dL_law_427 (by decide) ?_
        exact ih (k + 1) (i + 5) (by omega) hi5 (by omega) μ1 nx1 H1 locs1 ls hH1 hJ1 (lv_sub hl [1, 2, 3, 0] rfl)
      have hf : 30 + 3 * k + 3 ≤ 600000 ∧ 4079 + 30 * k + 30 ≤ 7302250 := by omega
      have hk5 : k ≤ 512 := by omega
      refine lv_aload_n hx hb dL_law_26 rfl (lv_at hl 0 rfl) ?_
      refine lv_iload_n hx hb dL_law_27 rfl (lv_at hl 3 rfl) ?_
      refine va_sld hx hb hV hbl hbA (hH.sS hXs) (vp_in_nI (by omega) (by omega)) dL_law_28 ?_
      refine lv_bipush (v := nI 15) hx hb dL_law_29 (by decide) ?_
      refine lv_iand hx hb dL_law_31 ?_
      obtain ⟨t, ht, et⟩ := pk_andE (xs (nI i).toNatClampNeg) (m := nI 15) 4 (by decide)
      refine hp_eqi (z := nI t) et ?_
      match t, ht with
      | 0, _ =>
        refine lv_tableIn (off := 64) (tgt := 96) hx hb dL_law_32 (by decide) (by decide) rfl (by decide) ?_
        exact arm_tag hc hi5 hk5 hH hJ hl hf kk
      | 1, _ =>
        refine lv_tableIn (off := 117) (tgt := 149) hx hb dL_law_32 (by decide) (by decide) rfl (by decide) ?_
        exact arm_out hc hi5 hk5 hH hJ hl hf kk
      | 2, _ =>
        refine lv_tableIn (off := 166) (tgt := 198) hx hb dL_law_32 (by decide) (by decide) rfl (by decide) ?_
        exact arm_field hc hi5 hk5 hH hJ hl hf kk
      | 3, _ =>
        refine lv_tableIn (off := 205) (tgt := 237) hx hb dL_law_32 (by decide) (by decide) rfl (by decide) ?_
        exact arm_bits hc hi5 hk5 hH hJ hl hf kk
      | 4, _ =>
        refine lv_tableIn (off := 238) (tgt := 270) hx hb dL_law_32 (by decide) (by decide) rfl (by decide) ?_
        exact arm_octet hc hi5 hk5 hH hJ hl hf kk
      | 5, _ =>
        refine lv_tableIn (off := 261) (tgt := 293) hx hb dL_law_32 (by decide) (by decide) rfl (by decide) ?_
        exact arm_check hc hi5 hk5 hH hJ hl hf kk
      | 6, _ =>
        refine lv_tableIn (off := 274) (tgt := 306) hx hb dL_law_32 (by decide) (by decide) rfl (by decide) ?_
        exact arm_go hc hi5 hk5 hH hJ hl hf kk
      | 7, _ =>
        refine lv_tableIn (off := 287) (tgt := 319) hx hb dL_law_32 (by decide) (by decide) rfl (by decide) ?_
        exact arm_answer hc hi5 hk5 hH hJ hl hf kk
      | 8, _ =>
        refine lv_tableIn (off := 310) (tgt := 342) hx hb dL_law_32 (by decide) (by decide) rfl (by decide) ?_
        exact arm_state hc hi5 hk5 hH hJ hl hf kk
      | 9, _ =>
        refine lv_tableIn (off := 333) (tgt := 365) hx hb dL_law_32 (by decide) (by decide) rfl (by decide) ?_
        exact arm_round hc hi5 hk5 hH hJ hl hf kk
      | 10, _ =>
        refine lv_tableIn (off := 346) (tgt := 378) hx hb dL_law_32 (by decide) (by decide) rfl (by decide) ?_
        exact arm_found hc hi5 hk5 hH hJ hl hf kk
      | 11, _ =>
        refine lv_tableIn (off := 379) (tgt := 411) hx hb dL_law_32 (by decide) (by decide) rfl (by decide) ?_
        exact arm_frames hc hi5 hk5 hH hJ hl hf kk
      | 12, _ =>
        refine lv_tableOut (tgt := 424) hx hb dL_law_32 (by decide) (by decide) ?_
        refine W.widen (k := 30 + 3 * k + 3) (n := 4079 + 30 * k + 30) (by omega) (by omega) ?_
        exact kk _ _ _ _ hH hJ.more
      | 13, _ =>
        refine lv_tableOut (tgt := 424) hx hb dL_law_32 (by decide) (by decide) ?_
        refine W.widen (k := 30 + 3 * k + 3) (n := 4079 + 30 * k + 30) (by omega) (by omega) ?_
        exact kk _ _ _ _ hH hJ.more
      | 14, _ =>
        refine lv_tableOut (tgt := 424) hx hb dL_law_32 (by decide) (by decide) ?_
        refine W.widen (k := 30 + 3 * k + 3) (n := 4079 + 30 * k + 30) (by omega) (by omega) ?_
        exact kk _ _ _ _ hH hJ.more
      | 15, _ =>
        refine lv_tableOut (tgt := 424) hx hb dL_law_32 (by decide) (by decide) ?_
        refine W.widen (k := 30 + 3 * k + 3) (n := 4079 + 30 * k + 30) (by omega) (by omega) ?_
        exact kk _ _ _ _ hH hJ.more
      | t + 16, ht => exact absurd ht (by omega)
