/-! the reference: its tags as one word; sending as one contract -/
def RW (X : hp_X) (μ : hp_M) (o n : Nat) (lv st le : Nat → Nat) (sh : Nat → Nat → Nat) : Prop := ∃ (Z S L sh2 D J : Nat → Nat) (Bf : Nat → Int32), μ (o + 1) = some (hp_n X 17 Z) ∧ μ (o + 4) = some (hp_n X 17 S) ∧ μ (o + 5) = some (hp_n X 17 L) ∧ μ (o + 6) = some (hp_n X 2040 sh2) ∧ μ (o + 9) = some (hp_i X 18 Bf) ∧ μ (o + 10) = some (hp_n X 48 D) ∧ μ (o + 11) = some (hp_n X 64 J) ∧ (∀ j, j < n → Z (j + 1) = 3 * lv j + 1) ∧ (∀ j, j < n → S (j + 1) = st j) ∧ (∀ j, j < n → L (j + 1) = le j) ∧ (∀ j, j < n → ∀ i, i < lv j → ∀ k, k < 40 → sh2 (120 * (j + 1) + 40 * i + k) = sh j i / 2 ^ k % 2) ∧ ∀ j, J j < 2
theorem RW.keep {X : hp_X} {μ z : hp_M} {o n : Nat} {lv st le : Nat → Nat} {sh : Nat → Nat → Nat} {S : List Nat} (h : RW X μ o n lv st le sh) (fe : hp_eqM S o z μ) (hs : ∀ k, k ∈ [1, 4, 5, 6, 9, 10, 11] → k ∉ S) : RW X z o n lv st le sh := by
  obtain ⟨Z, S1, L, sh2, D, J, Bf, h1, h4, h5, h6, h9, h10, h11, r⟩ := h
  exact ⟨Z, S1, L, sh2, D, J, Bf, (fe.at 1 (hs 1 (by decide))).trans h1, (fe.at 4 (hs 4 (by decide))).trans h4, (fe.at 5 (hs 5 (by decide))).trans h5, (fe.at 6 (hs 6 (by decide))).trans h6, (fe.at 9 (hs 9 (by decide))).trans h9, (fe.at 10 (hs 10 (by decide))).trans h10, (fe.at 11 (hs 11 (by decide))).trans h11, r⟩
theorem RW.put {X : hp_X} {μ z : hp_M} {o n : Nat} {lv st le : Nat → Nat} {sh : Nat → Nat → Nat} (k : Nat) (h : RW X μ o n lv st le sh) (fn : ∀ q, q ≠ o + k → z q = μ q) (hs : ∀ j, j ∈ [1, 4, 5, 6, 9, 10, 11] → j ∉ [k]) : RW X z o n lv st le sh := h.keep (S := [k]) (fun q hq => fn q (hq k (by simp))) hs
theorem hq_v.mono {X : hp_X} {P Q : hp_M → Nat → Prop} (h : ∀ z n, P z n → Q z n) : ∀ (a : Array Value) (st : State) (o : Outcome) (t : State), hq_v X P a st o t → hq_v X Q a st o t := fun _ _ _ _ ⟨μ, nx, h1, h2, h3⟩ => ⟨μ, nx, h1, h μ nx h2, h3⟩
theorem f_cg {rb rb2 : Nat → Nat} {size : Nat} (h : ∀ j, j < size → rb j = rb2 j) (n : Nat) (lv st le : Nat → Nat) (sh : Nat → Nat → Nat) : fS rb size lv st le sh = fS rb2 size lv st le sh ∧ fL rb size lv st le sh = fL rb2 size lv st le sh ∧ fN n rb size lv st le sh = fN n rb2 size lv st le sh ∧ fO n rb size lv st le sh = fO n rb2 size lv st le sh ∧ fZ n rb size lv st le sh = fZ n rb2 size lv st le sh := by
  obtain ⟨e1, e2, e3, e4⟩ := f_congr h lv st le sh
  unfold fN fO fZ
  rw [e1, e2, e3, e4]
  exact ⟨rfl, rfl, rfl, rfl, rfl⟩
theorem c_rsend (l : Launch) (X : hp_X) {μ : hp_M} {nx : Nat} {o n tz se kd kl tc sd hd an fm fo kc : Nat} {on : Bool} {sb sb2 hbb lv st le : Nat → Nat} {sh : Nat → Nat → Nat} (hrb : ∀ j, j < se → sb j = sb2 j) (h01 : ∀ j, sb j < 2) (hse : se ≤ 160) (hn16 : n ≤ 16) (hlv : ∀ j, j < n → 1 ≤ lv j ∧ lv j ≤ 3) (hst : ∀ j, j < n → st j < 8) (hle : ∀ j, j < n → 1 ≤ le j ∧ le j ≤ lv j) (hoff : on = false → ∀ j, j < n → st j = 0) (hW : RW X μ o n lv st le sh) (f_o : μ o = some (hp_o 7 [.int (nI n), .ref (o + 1), .ref (o + 2), .ref (o + 3), .ref (o + 4), .ref (o + 5), .ref (o + 6), .int (nB on), .int (nI tz), .ref (o + 7), .int (nI se), .ref (o + 8), .ref (o + 9), .int (nI kd), .int (nI kl), .int (nI tc), .ref (o + 10), .int (nI sd), .ref (o + 11), .int (nI hd), .ref (o + 12), .int (nI an), .ref (o + 13), .int (nI fm), .int (nI fo), .ref (o + 14), .ref (o + 15), .int (nI kc), .ref (o + 16)])) (f_8 : μ (o + 8) = some (hp_n X 160 sb)) (f_12 : μ (o + 12) = some (hp_n X 64 hbb)) : Ct l X yX11_send cX11_send 3 (none : Option Jvm.ClassFile.FieldType) 4 160 0 0 [.ref o] μ nx (hq_v X (po_v nx (fun z => ∃ (kd9 kl9 tc9 sd9 : Nat) (H9 : Nat → Nat), z o = some (hp_o 7 [.int (nI n), .ref (o + 1), .ref (o + 2), .ref (o + 3), .ref (o + 4), .ref (o + 5), .ref (o + 6), .int (nB on), .int (nI tz), .ref (o + 7), .int (nI se), .ref (o + 8), .ref (o + 9), .int (nI kd9), .int (nI kl9), .int (nI tc9), .ref (o + 10), .int (nI sd9), .ref (o + 11), .int (nI (fN n sb2 se lv st le sh)), .ref (o + 12), .int (nI an), .ref (o + 13), .int (nI (fm + 1)), .int (nI fo), .ref (o + 14), .ref (o + 15), .int (nI kc), .ref (o + 16)]) ∧ z (o + 12) = some (hp_n X 64 H9) ∧ RW X z o n lv (fS sb2 se lv st le sh) (fL sb2 se lv st le sh) sh ∧ (∀ x, x < fN n sb2 se lv st le sh → H9 x = digN (fO n sb2 se lv st le sh) (fZ n sb2 se lv st le sh) x) ∧ hp_eqM [0, 4, 5, 9, 10, 11, 12] o z μ))) := by
  obtain ⟨Z, S, L, sh2, D, J, Bf, h1, h4, h5, h6, h9, h10, h11, r1, r2, r3, r4, r5⟩ := hW
  obtain ⟨e1, e2, e3, e4, e5⟩ := f_cg hrb n lv st le sh
  refine Met.mono (c_X11_send l X h01 hse hn16 r1 r2 r3 hlv hst hle r4 r5 hoff f_o h1 h4 h5 h6 f_8 h9 h10 h11 f_12) (hq_v.mono (fun z n9 h => ?_))
  obtain ⟨g0, kd9, kl9, tc9, sd9, S9, L9, B9, D9, J9, H9, g1, g2, g3, g4, g5, g6, g7, g8, g9, g10, g11, g12⟩ := h
  rw [← e1, ← e2, ← e3, ← e4, ← e5]
  exact ⟨g0, kd9, kl9, tc9, sd9, H9, g1, g7, ⟨Z, S9, L9, sh2, D9, J9, B9, (g12.at 1 (by decide)).trans h1, g2, g3, (g12.at 6 (by decide)).trans h6, g4, g5, g6, r1, g8, g9, r4, g10⟩, g11, g12⟩

set_option maxHeartbeats 4000000 in
set_option maxRecDepth 100000 in
theorem c_X11_go (l : Launch) (X : hp_X) {μ : hp_M} {nx : Nat} {o n tz se kd kl tc sd hd an fm fo kc : Nat} {on : Bool} {sb hbb lv st le : Nat → Nat} {sh : Nat → Nat → Nat} {tr ab : Nat → Nat} (ht01 : ∀ j, tr j < 2) (h01 : ∀ j, sb j < 2) (htz : tz ≤ 160) (hn16 : n ≤ 16) (hlv : ∀ j, j < n → 1 ≤ lv j ∧ lv j ≤ 3) (hst : ∀ j, j < n → st j < 8) (hle : ∀ j, j < n → 1 ≤ le j ∧ le j ≤ lv j) (hoff : on = false → ∀ j, j < n → st j = 0) (hW : RW X μ o n lv st le sh)  (f_o : μ o = some (hp_o 7 [.int (nI n), .ref (o + 1), .ref (o + 2), .ref (o + 3), .ref (o + 4), .ref (o + 5), .ref (o + 6), .int (nB on), .int (nI tz), .ref (o + 7), .int (nI se), .ref (o + 8), .ref (o + 9), .int (nI kd), .int (nI kl), .int (nI tc), .ref (o + 10), .int (nI sd), .ref (o + 11), .int (nI hd), .ref (o + 12), .int (nI an), .ref (o + 13), .int (nI fm), .int (nI fo), .ref (o + 14), .ref (o + 15), .int (nI kc), .ref (o + 16)])) (f_7 : μ (o + 7) = some (hp_n X 160 tr)) (f_8 : μ (o + 8) = some (hp_n X 160 sb)) (f_12 : μ (o + 12) = some (hp_n X 64 hbb)) (f_13 : μ (o + 13) = some (hp_n X 64 ab)) : Ct l X yX11_go cX11_go 2 (some FieldType.int) 5 200 0 0 [.ref o] μ nx (hq_i X (po_i nx (nI (fN n tr tz lv st le sh)) (fun z => ∃ (kd9 kl9 tc9 sd9 : Nat) (sb9 H9 ab9 : Nat → Nat), z o = some (hp_o 7 [.int (nI n), .ref (o + 1), .ref (o + 2), .ref (o + 3), .ref (o + 4), .ref (o + 5), .ref (o + 6), .int (nB on), .int (nI 0), .ref (o + 7), .int (nI tz), .ref (o + 8), .ref (o + 9), .int (nI kd9), .int (nI kl9), .int (nI tc9), .ref (o + 10), .int (nI sd9), .ref (o + 11), .int (nI (fN n tr tz lv st le sh)), .ref (o + 12), .int (nI (fN n tr tz lv st le sh)), .ref (o + 13), .int (nI (fm + 1)), .int (nI fo), .ref (o + 14), .ref (o + 15), .int (nI kc), .ref (o + 16)]) ∧ (∀ j, sb9 j < 2) ∧ z (o + 8) = some (hp_n X 160 sb9) ∧ z (o + 12) = some (hp_n X 64 H9) ∧ z (o + 13) = some (hp_n X 64 ab9) ∧ RW X z o n lv (fS tr tz lv st le sh) (fL tr tz lv st le sh) sh ∧ (∀ j, j < fN n tr tz lv st le sh → ab9 j = digN (fO n tr tz lv st le sh) (fZ n tr tz lv st le sh) j) ∧ hp_eqM [0, 4, 5, 8, 9, 10, 11, 12, 13] o z μ))) := by
  refine hp_met (by decide) (Nat.le_of_ble_eq_true rfl) ?_
  intro p e s m below meth c ls hx hb hml hr hlocks hown hin hS hH hl
  have hl : lv_has ls 2 [(0, .ref o)] := hl
  have fr : hp_eqM [0, 4, 5, 8, 9, 10, 11, 12, 13] o μ μ := fun _ _ => rfl
  refine lv_aload_n hx hb dX11_go_0 rfl (lv_at hl 0 rfl) ?_
  refine lv_aload_n hx hb dX11_go_1 rfl (lv_at hl 0 rfl) ?_
  refine hp_get hx hb hown hS.2.1 hH (F_X11_79.use hS) f_o rfl dX11_go_2 ?_
  refine hp_put hx hb hown hS.2.1 hH (P_X11_104.use hS) f_o rfl rfl (Nat.le_of_ble_eq_true rfl) dX11_go_5 (fun H locs μ1 fz fn hH => ?_)
  have hW := hW.put 0 fn (by decide)
  have f_7 := (fn _ (by omega)).trans f_7
  have f_8 := (fn _ (by omega)).trans f_8
  have f_12 := (fn _ (by omega)).trans f_12
  have f_13 := (fn _ (by omega)).trans f_13
  have f_o : μ1 o = some (hp_o 7 [.int (nI n), .ref (o + 1), .ref (o + 2), .ref (o + 3), .ref (o + 4), .ref (o + 5), .ref (o + 6), .int (nB on), .int (nI tz), .ref (o + 7), .int (nI tz), .ref (o + 8), .ref (o + 9), .int (nI kd), .int (nI kl), .int (nI tc), .ref (o + 10), .int (nI sd), .ref (o + 11), .int (nI hd), .ref (o + 12), .int (nI an), .ref (o + 13), .int (nI fm), .int (nI fo), .ref (o + 14), .ref (o + 15), .int (nI kc), .ref (o + 16)]) := fz
  have fr := hp_eqM.put (k := 0) fr (by decide) fn
  clear fz fn
  refine lv_iconst (v := nI 0) hx hb dX11_go_8 (by decide) ?_
  refine lv_istore_n (lv' := [(1, .int (nI 0)), (0, .ref o)]) hx hb dX11_go_9 rfl hl (by decide) rfl (fun ls hl => ?_)
  have lp_10 : ∀ (kk10 : Nat) (k : Nat) (sb1 : Nat → Nat), (k ≤ tz) → (∀ j, j < k → sb1 j = tr j) → (∀ j, sb1 j < 2) → (tz - k) < kk10 → ∀ (μ1 : hp_M) (H : Heap) (locs : List Loc) (ls : Array Slot), (μ1 o = some (hp_o 7 [.int (nI n), .ref (o + 1), .ref (o + 2), .ref (o + 3), .ref (o + 4), .ref (o + 5), .ref (o + 6), .int (nB on), .int (nI tz), .ref (o + 7), .int (nI tz), .ref (o + 8), .ref (o + 9), .int (nI kd), .int (nI kl), .int (nI tc), .ref (o + 10), .int (nI sd), .ref (o + 11), .int (nI hd), .ref (o + 12), .int (nI an), .ref (o + 13), .int (nI fm), .int (nI fo), .ref (o + 14), .ref (o + 15), .int (nI kc), .ref (o + 16)])) → (μ1 (o + 7) = some (hp_n X 160 tr)) → (μ1 (o + 8) = some (hp_n X 160 sb1)) → (μ1 (o + 12) = some (hp_n X 64 hbb)) → (μ1 (o + 13) = some (hp_n X 64 ab)) → (RW X μ1 o n lv st le sh) → hp_eqM [0, 4, 5, 8, 9, 10, 11, 12, 13] o μ1 μ → hp_w X cls μ1 nx H locs → lv_has ls 2 [(0, .ref o), (1, .int (nI k))] → W p l e { frames := 5, cells := 0, slots := 0, locals := 200 } s m [.ref o].toArray below meth c H locs 0 0 (MQ below (hq_i X (po_i nx (nI (fN n tr tz lv st le sh)) (fun z => ∃ (kd9 kl9 tc9 sd9 : Nat) (sb9 H9 ab9 : Nat → Nat), z o = some (hp_o 7 [.int (nI n), .ref (o + 1), .ref (o + 2), .ref (o + 3), .ref (o + 4), .ref (o + 5), .ref (o + 6), .int (nB on), .int (nI 0), .ref (o + 7), .int (nI tz), .ref (o + 8), .ref (o + 9), .int (nI kd9), .int (nI kl9), .int (nI tc9), .ref (o + 10), .int (nI sd9), .ref (o + 11), .int (nI (fN n tr tz lv st le sh)), .ref (o + 12), .int (nI (fN n tr tz lv st le sh)), .ref (o + 13), .int (nI (fm + 1)), .int (nI fo), .ref (o + 14), .ref (o + 15), .int (nI kc), .ref (o + 16)]) ∧ (∀ j, sb9 j < 2) ∧ z (o + 8) = some (hp_n X 160 sb9) ∧ z (o + 12) = some (hp_n X 64 H9) ∧ z (o + 13) = some (hp_n X 64 ab9) ∧ RW X z o n lv (fS tr tz lv st le sh) (fL tr tz lv st le sh) sh ∧ (∀ j, j < fN n tr tz lv st le sh → ab9 j = digN (fO n tr tz lv st le sh) (fZ n tr tz lv st le sh) j) ∧ hp_eqM [0, 4, 5, 8, 9, 10, 11, 12, 13] o z μ))) [.ref o].toArray s 0 0 (hp_A X)) (F0 m 10 ls []) := by
    intro kk10
    induction kk10 with
    | zero =>
      intro k sb1 hk hc h011 hkk10
      exact absurd hkk10 (Nat.not_lt_zero _)
    | succ kk10 ih10 =>
      intro k sb1 hk hc h011 hkk10 μ1 H locs ls f_o f_7 f_8 f_12 f_13 hW fr hH hl
      refine lv_iload_n hx hb dX11_go_10 rfl (lv_at hl 1 rfl) ?_
      refine lv_aload_n hx hb dX11_go_11 rfl (lv_at hl 0 rfl) ?_
      refine hp_get hx hb hown hS.2.1 hH (F_X11_104.use hS) f_o rfl dX11_go_12 ?_
      refine lv_icmp_ge (tgt := 36) hx hb dX11_go_15 (by decide) (fun c_15 => ?_) (fun c_15 => ?_)
      · have c_15 : tz ≤ k := (nI_leI (by omega) (by omega)).mp c_15
        refine lv_aload_n hx hb dX11_go_36 rfl (lv_at hl 0 rfl) ?_
        refine lv_iconst (v := nI 0) hx hb dX11_go_37 (by decide) ?_
        refine hp_put hx hb hown hS.2.1 hH (P_X11_79.use hS) f_o rfl rfl (Nat.le_of_ble_eq_true rfl) dX11_go_38 (fun H locs μ1 fz fn hH => ?_)
        have hW := hW.put 0 fn (by decide)
        have f_7 := (fn _ (by omega)).trans f_7
        have f_8 := (fn _ (by omega)).trans f_8
        have f_12 := (fn _ (by omega)).trans f_12
        have f_13 := (fn _ (by omega)).trans f_13
        have f_o : μ1 o = some (hp_o 7 [.int (nI n), .ref (o + 1), .ref (o + 2), .ref (o + 3), .ref (o + 4), .ref (o + 5), .ref (o + 6), .int (nB on), .int (nI 0), .ref (o + 7), .int (nI tz), .ref (o + 8), .ref (o + 9), .int (nI kd), .int (nI kl), .int (nI tc), .ref (o + 10), .int (nI sd), .ref (o + 11), .int (nI hd), .ref (o + 12), .int (nI an), .ref (o + 13), .int (nI fm), .int (nI fo), .ref (o + 14), .ref (o + 15), .int (nI kc), .ref (o + 16)]) := fz
        have fr := hp_eqM.put (k := 0) fr (by decide) fn
        clear fz fn
        refine lv_aload_n hx hb dX11_go_41 rfl (lv_at hl 0 rfl) ?_
        refine hp_kvm (hp_runV (As := []) (rest := []) hx hb hml hown hS hH (c_rsend l X (sb2 := tr) (fun j hj => hc j (by omega)) (h011) (by omega) hn16 hlv hst hle hoff hW f_o f_8 f_12) M_X11_148 I_X11_send V_X11_send (ci := 7) rfl rfl f_o rfl hl.1 rfl (Nat.le_of_ble_eq_true rfl) dX11_go_42 ⟨Nat.le_of_ble_eq_true rfl, Nat.le_of_ble_eq_true rfl⟩ ⟨Nat.le_of_ble_eq_true rfl, Nat.le_of_ble_eq_true rfl⟩) hH (fun μ1 H locs hp hH => ?_)
        obtain ⟨kd9, kl9, tc9, sd9, H9, fz0, fz1, hW, hH9, fe⟩ := hp
        have f_7 := (fe.at 7 (by decide)).trans f_7
        have f_8 := (fe.at 8 (by decide)).trans f_8
        have f_13 := (fe.at 13 (by decide)).trans f_13
        have f_o := fz0
        have f_12 := fz1
        have hfN := fN_le n tr tz lv st le sh
        have fr := hp_eqM.tr fe fr (by decide)
        clear fe fz0 fz1
        refine lv_aload_n hx hb dX11_go_45 rfl (lv_at hl 0 rfl) ?_
        refine lv_aload_n hx hb dX11_go_46 rfl (lv_at hl 0 rfl) ?_
        refine hp_get hx hb hown hS.2.1 hH (F_X11_139.use hS) f_o rfl dX11_go_47 ?_
        refine hp_put hx hb hown hS.2.1 hH (P_X11_151.use hS) f_o rfl rfl (Nat.le_of_ble_eq_true rfl) dX11_go_50 (fun H locs μ1 fz fn hH => ?_)
        have hW := hW.put 0 fn (by decide)
        have f_7 := (fn _ (by omega)).trans f_7
        have f_8 := (fn _ (by omega)).trans f_8
        have f_12 := (fn _ (by omega)).trans f_12
        have f_13 := (fn _ (by omega)).trans f_13
        have f_o : μ1 o = some (hp_o 7 [.int (nI n), .ref (o + 1), .ref (o + 2), .ref (o + 3), .ref (o + 4), .ref (o + 5), .ref (o + 6), .int (nB on), .int (nI 0), .ref (o + 7), .int (nI tz), .ref (o + 8), .ref (o + 9), .int (nI kd9), .int (nI kl9), .int (nI tc9), .ref (o + 10), .int (nI sd9), .ref (o + 11), .int (nI (fN n tr tz lv st le sh)), .ref (o + 12), .int (nI (fN n tr tz lv st le sh)), .ref (o + 13), .int (nI (fm + 1)), .int (nI fo), .ref (o + 14), .ref (o + 15), .int (nI kc), .ref (o + 16)]) := fz
        have fr := hp_eqM.put (k := 0) fr (by decide) fn
        clear fz fn
        refine lv_iconst (v := nI 0) hx hb dX11_go_53 (by decide) ?_
        refine lv_istore_n (lv' := [(1, .int (nI 0)), (0, .ref o)]) hx hb dX11_go_54 rfl hl (by decide) rfl (fun ls hl => ?_)
        have lp_55 : ∀ (kk55 : Nat) (k2 : Nat) (ab1 : Nat → Nat), (k2 ≤ fN n tr tz lv st le sh) → (∀ j, j < k2 → ab1 j = digN (fO n tr tz lv st le sh) (fZ n tr tz lv st le sh) j) → (fN n tr tz lv st le sh - k2) < kk55 → ∀ (μ1 : hp_M) (H : Heap) (locs : List Loc) (ls : Array Slot), (μ1 o = some (hp_o 7 [.int (nI n), .ref (o + 1), .ref (o + 2), .ref (o + 3), .ref (o + 4), .ref (o + 5), .ref (o + 6), .int (nB on), .int (nI 0), .ref (o + 7), .int (nI tz), .ref (o + 8), .ref (o + 9), .int (nI kd9), .int (nI kl9), .int (nI tc9), .ref (o + 10), .int (nI sd9), .ref (o + 11), .int (nI (fN n tr tz lv st le sh)), .ref (o + 12), .int (nI (fN n tr tz lv st le sh)), .ref (o + 13), .int (nI (fm + 1)), .int (nI fo), .ref (o + 14), .ref (o + 15), .int (nI kc), .ref (o + 16)])) → (μ1 (o + 7) = some (hp_n X 160 tr)) → (μ1 (o + 8) = some (hp_n X 160 sb1)) → (μ1 (o + 12) = some (hp_n X 64 H9)) → (μ1 (o + 13) = some (hp_n X 64 ab1)) → (RW X μ1 o n lv (fS tr tz lv st le sh) (fL tr tz lv st le sh) sh) → hp_eqM [0, 4, 5, 8, 9, 10, 11, 12, 13] o μ1 μ → hp_w X cls μ1 nx H locs → lv_has ls 2 [(0, .ref o), (1, .int (nI k2))] → W p l e { frames := 5, cells := 0, slots := 0, locals := 200 } s m [.ref o].toArray below meth c H locs 0 0 (MQ below (hq_i X (po_i nx (nI (fN n tr tz lv st le sh)) (fun z => ∃ (kd9 kl9 tc9 sd9 : Nat) (sb9 H9 ab9 : Nat → Nat), z o = some (hp_o 7 [.int (nI n), .ref (o + 1), .ref (o + 2), .ref (o + 3), .ref (o + 4), .ref (o + 5), .ref (o + 6), .int (nB on), .int (nI 0), .ref (o + 7), .int (nI tz), .ref (o + 8), .ref (o + 9), .int (nI kd9), .int (nI kl9), .int (nI tc9), .ref (o + 10), .int (nI sd9), .ref (o + 11), .int (nI (fN n tr tz lv st le sh)), .ref (o + 12), .int (nI (fN n tr tz lv st le sh)), .ref (o + 13), .int (nI (fm + 1)), .int (nI fo), .ref (o + 14), .ref (o + 15), .int (nI kc), .ref (o + 16)]) ∧ (∀ j, sb9 j < 2) ∧ z (o + 8) = some (hp_n X 160 sb9) ∧ z (o + 12) = some (hp_n X 64 H9) ∧ z (o + 13) = some (hp_n X 64 ab9) ∧ RW X z o n lv (fS tr tz lv st le sh) (fL tr tz lv st le sh) sh ∧ (∀ j, j < fN n tr tz lv st le sh → ab9 j = digN (fO n tr tz lv st le sh) (fZ n tr tz lv st le sh) j) ∧ hp_eqM [0, 4, 5, 8, 9, 10, 11, 12, 13] o z μ))) [.ref o].toArray s 0 0 (hp_A X)) (F0 m 55 ls []) := by
          intro kk55
          induction kk55 with
          | zero =>
            intro k2 ab1 hk2 hab hkk55
            exact absurd hkk55 (Nat.not_lt_zero _)
          | succ kk55 ih55 =>
            intro k2 ab1 hk2 hab hkk55 μ1 H locs ls f_o f_7 f_8 f_12 f_13 hW fr hH hl
            refine lv_iload_n hx hb dX11_go_55 rfl (lv_at hl 1 rfl) ?_
            refine lv_aload_n hx hb dX11_go_56 rfl (lv_at hl 0 rfl) ?_
            refine hp_get hx hb hown hS.2.1 hH (F_X11_139.use hS) f_o rfl dX11_go_57 ?_
            refine lv_icmp_ge (tgt := 81) hx hb dX11_go_60 (by decide) (fun c_60 => ?_) (fun c_60 => ?_)
            · have c_60 : (fN n tr tz lv st le sh) ≤ k2 := (nI_leI (by omega) (by omega)).mp c_60
              refine lv_aload_n hx hb dX11_go_81 rfl (lv_at hl 0 rfl) ?_
              refine hp_get hx hb hown hS.2.1 hH (F_X11_151.use hS) f_o rfl dX11_go_82 ?_
              exact hp_ri hx hb hr hlocks hS hH (⟨rfl, rfl, _, _, _, _, _, _, _, f_o, h011, f_8, f_12, f_13, hW, fun j hj => hab j (by omega), fr⟩) dX11_go_85
            · have c_60 : ¬ ((fN n tr tz lv st le sh) ≤ k2) := fun z => c_60 ((nI_leI (by omega) (by omega)).mpr z)
              refine lv_aload_n hx hb dX11_go_63 rfl (lv_at hl 0 rfl) ?_
              refine hp_get hx hb hown hS.2.1 hH (F_X11_51.use hS) f_o rfl dX11_go_64 ?_
              refine lv_iload_n hx hb dX11_go_67 rfl (lv_at hl 1 rfl) ?_
              refine lv_aload_n hx hb dX11_go_68 rfl (lv_at hl 0 rfl) ?_
              refine hp_get hx hb hown hS.2.1 hH (F_X11_48.use hS) f_o rfl dX11_go_69 ?_
              refine lv_iload_n hx hb dX11_go_72 rfl (lv_at hl 1 rfl) ?_
              refine hp_ialdN hx hb hS.ai hH f_12 (by omega) (by omega) dX11_go_73 ?_
              refine hp_iastN hx hb hS.ai hH f_13 (by omega) (by omega) dX11_go_74 (fun H locs μ1 fz fn hH => ?_)
              have hW := hW.put 13 fn (by decide)
              have f_o := (fn _ (by omega)).trans f_o
              have f_7 := (fn _ (by omega)).trans f_7
              have f_8 := (fn _ (by omega)).trans f_8
              have f_12 := (fn _ (by omega)).trans f_12
              have f_13 : μ1 (o + 13) = some (hp_n X 64 (setN ab1 k2 (H9 k2))) := fz
              have fr := hp_eqM.put (k := 13) fr (by decide) fn
              clear fz fn
              refine lv_iinc (v := nI (k2 + 1)) (lv' := [(1, .int (nI (k2 + 1))), (0, .ref o)]) hx hb dX11_go_75 hl (k := 1) rfl (nI_add _ 1) (by decide) rfl (fun ls hl => ?_)
              refine lv_goto (tgt := 55) hx hb dX11_go_78 (by decide) ?_
              exact ih55 (k2 + 1) (setN ab1 k2 (H9 k2)) (by omega) (fun j hj => (Decidable.em (j = k2)).elim (fun e9 => by rw [e9, setN_s]; exact hH9 k2 (by omega)) (fun e9 => (setN_o e9).trans (hab j (by omega)))) (by omega) _ _ _ _ f_o f_7 f_8 f_12 f_13 hW fr hH (lv_sub hl [1, 0] rfl)
        exact lp_55 ((fN n tr tz lv st le sh - 0) + 1) 0 ab (Nat.zero_le _) (fun j hj => absurd hj (Nat.not_lt_zero _)) (Nat.lt_succ_self _) _ _ _ _ f_o f_7 f_8 f_12 f_13 hW fr hH (lv_sub hl [1, 0] rfl)
      · have c_15 : ¬ (tz ≤ k) := fun z => c_15 ((nI_leI (by omega) (by omega)).mpr z)
        refine lv_aload_n hx hb dX11_go_18 rfl (lv_at hl 0 rfl) ?_
        refine hp_get hx hb hown hS.2.1 hH (F_X11_36.use hS) f_o rfl dX11_go_19 ?_
        refine lv_iload_n hx hb dX11_go_22 rfl (lv_at hl 1 rfl) ?_
        refine lv_aload_n hx hb dX11_go_23 rfl (lv_at hl 0 rfl) ?_
        refine hp_get hx hb hown hS.2.1 hH (F_X11_33.use hS) f_o rfl dX11_go_24 ?_
        refine lv_iload_n hx hb dX11_go_27 rfl (lv_at hl 1 rfl) ?_
        refine hp_ialdN hx hb hS.ai hH f_7 (by omega) (by omega) dX11_go_28 ?_
        refine hp_iastN hx hb hS.ai hH f_8 (by omega) (by omega) dX11_go_29 (fun H locs μ1 fz fn hH => ?_)
        have hW := hW.put 8 fn (by decide)
        have f_o := (fn _ (by omega)).trans f_o
        have f_7 := (fn _ (by omega)).trans f_7
        have f_12 := (fn _ (by omega)).trans f_12
        have f_13 := (fn _ (by omega)).trans f_13
        have f_8 : μ1 (o + 8) = some (hp_n X 160 (setN sb1 k (tr k))) := fz
        have fr := hp_eqM.put (k := 8) fr (by decide) fn
        clear fz fn
        refine lv_iinc (v := nI (k + 1)) (lv' := [(1, .int (nI (k + 1))), (0, .ref o)]) hx hb dX11_go_30 hl (k := 1) rfl (nI_add _ 1) (by decide) rfl (fun ls hl => ?_)
        refine lv_goto (tgt := 10) hx hb dX11_go_33 (by decide) ?_
        exact ih10 (k + 1) (setN sb1 k (tr k)) (by omega) (fun j hj => (Decidable.em (j = k)).elim (fun e9 => by rw [e9, setN_s]) (fun e9 => (setN_o e9).trans (hc j (by omega)))) (fun j => by unfold setN; split; exact ht01 _; exact h011 j) (by omega) _ _ _ _ f_o f_7 f_8 f_12 f_13 hW fr hH (lv_sub hl [1, 0] rfl)
  exact lp_10 ((tz - 0) + 1) 0 sb (Nat.zero_le _) (fun j hj => absurd hj (Nat.not_lt_zero _)) h01 (Nat.lt_succ_self _) _ _ _ _ f_o f_7 f_8 f_12 f_13 hW fr hH (lv_sub hl [1, 0] rfl)

set_option maxHeartbeats 4000000 in
set_option maxRecDepth 100000 in
theorem c_X11_sendShort (l : Launch) (X : hp_X) {μ : hp_M} {nx : Nat} {o n tz se kd kl tc sd hd an fm fo kc : Nat} {on : Bool} {sb hbb lv st le : Nat → Nat} {sh : Nat → Nat → Nat} (h01 : ∀ j, sb j < 2) (hn16 : n ≤ 16) (hlv : ∀ j, j < n → 1 ≤ lv j ∧ lv j ≤ 3) (hst : ∀ j, j < n → st j < 8) (hle : ∀ j, j < n → 1 ≤ le j ∧ le j ≤ lv j) (hoff : on = false → ∀ j, j < n → st j = 0) (hW : RW X μ o n lv st le sh)  (f_o : μ o = some (hp_o 7 [.int (nI n), .ref (o + 1), .ref (o + 2), .ref (o + 3), .ref (o + 4), .ref (o + 5), .ref (o + 6), .int (nB on), .int (nI tz), .ref (o + 7), .int (nI se), .ref (o + 8), .ref (o + 9), .int (nI kd), .int (nI kl), .int (nI tc), .ref (o + 10), .int (nI sd), .ref (o + 11), .int (nI hd), .ref (o + 12), .int (nI an), .ref (o + 13), .int (nI fm), .int (nI fo), .ref (o + 14), .ref (o + 15), .int (nI kc), .ref (o + 16)])) (f_8 : μ (o + 8) = some (hp_n X 160 sb)) (f_12 : μ (o + 12) = some (hp_n X 64 hbb)) : Ct l X yX11_sendShort cX11_sendShort 3 (none : Option Jvm.ClassFile.FieldType) 5 200 0 0 [.ref o, .int (nI 38)] μ nx (hq_v X (po_v nx (fun z => ∃ (kd9 kl9 tc9 sd9 : Nat) (sb9 H9 : Nat → Nat), z o = some (hp_o 7 [.int (nI n), .ref (o + 1), .ref (o + 2), .ref (o + 3), .ref (o + 4), .ref (o + 5), .ref (o + 6), .int (nB on), .int (nI tz), .ref (o + 7), .int (nI 7), .ref (o + 8), .ref (o + 9), .int (nI kd9), .int (nI kl9), .int (nI tc9), .ref (o + 10), .int (nI sd9), .ref (o + 11), .int (nI (fN n (rqB z0) 7 lv st le sh)), .ref (o + 12), .int (nI an), .ref (o + 13), .int (nI (fm + 1)), .int (nI fo), .ref (o + 14), .ref (o + 15), .int (nI kc), .ref (o + 16)]) ∧ (∀ j, sb9 j < 2) ∧ z (o + 8) = some (hp_n X 160 sb9) ∧ z (o + 12) = some (hp_n X 64 H9) ∧ RW X z o n lv (fS (rqB z0) 7 lv st le sh) (fL (rqB z0) 7 lv st le sh) sh ∧ (∀ x, x < fN n (rqB z0) 7 lv st le sh → H9 x = digN (fO n (rqB z0) 7 lv st le sh) (fZ n (rqB z0) 7 lv st le sh) x) ∧ hp_eqM [0, 4, 5, 8, 9, 10, 11, 12] o z μ))) := by
  refine hp_met (by decide) (Nat.le_of_ble_eq_true rfl) ?_
  intro p e s m below meth c ls hx hb hml hr hlocks hown hin hS hH hl
  have hl : lv_has ls 3 [(0, .ref o), (1, .int (nI 38))] := hl
  have fr : hp_eqM [0, 4, 5, 8, 9, 10, 11, 12] o μ μ := fun _ _ => rfl
  refine lv_aload_n hx hb dX11_sendShort_0 rfl (lv_at hl 0 rfl) ?_
  refine lv_bipush (v := nI 7) hx hb dX11_sendShort_1 (by decide) ?_
  refine hp_put hx hb hown hS.2.1 hH (P_X11_104.use hS) f_o rfl rfl (Nat.le_of_ble_eq_true rfl) dX11_sendShort_3 (fun H locs μ1 fz fn hH => ?_)
  have hW := hW.put 0 fn (by decide)
  have f_8 := (fn _ (by omega)).trans f_8
  have f_12 := (fn _ (by omega)).trans f_12
  have f_o : μ1 o = some (hp_o 7 [.int (nI n), .ref (o + 1), .ref (o + 2), .ref (o + 3), .ref (o + 4), .ref (o + 5), .ref (o + 6), .int (nB on), .int (nI tz), .ref (o + 7), .int (nI 7), .ref (o + 8), .ref (o + 9), .int (nI kd), .int (nI kl), .int (nI tc), .ref (o + 10), .int (nI sd), .ref (o + 11), .int (nI hd), .ref (o + 12), .int (nI an), .ref (o + 13), .int (nI fm), .int (nI fo), .ref (o + 14), .ref (o + 15), .int (nI kc), .ref (o + 16)]) := fz
  have fr := hp_eqM.put (k := 0) fr (by decide) fn
  clear fz fn
  refine lv_iconst (v := nI 0) hx hb dX11_sendShort_6 (by decide) ?_
  refine lv_istore_n (lv' := [(2, .int (nI 0)), (0, .ref o), (1, .int (nI 38))]) hx hb dX11_sendShort_7 rfl hl (by decide) rfl (fun ls hl => ?_)
  have f_8 := f_8.trans (congrArg (fun g => some (hp_n X 160 g)) (show sb = apB sb 0 (nI 38) 0 from (apB_0 _ _ _).symm))
  have lp_8 : ∀ (kk8 : Nat) (k : Nat), (k ≤ 7) → (7 - k) < kk8 → ∀ (μ1 : hp_M) (H : Heap) (locs : List Loc) (ls : Array Slot), (μ1 o = some (hp_o 7 [.int (nI n), .ref (o + 1), .ref (o + 2), .ref (o + 3), .ref (o + 4), .ref (o + 5), .ref (o + 6), .int (nB on), .int (nI tz), .ref (o + 7), .int (nI 7), .ref (o + 8), .ref (o + 9), .int (nI kd), .int (nI kl), .int (nI tc), .ref (o + 10), .int (nI sd), .ref (o + 11), .int (nI hd), .ref (o + 12), .int (nI an), .ref (o + 13), .int (nI fm), .int (nI fo), .ref (o + 14), .ref (o + 15), .int (nI kc), .ref (o + 16)])) → (μ1 (o + 8) = some (hp_n X 160 (apB sb 0 (nI 38) k))) → (μ1 (o + 12) = some (hp_n X 64 hbb)) → (RW X μ1 o n lv st le sh) → hp_eqM [0, 4, 5, 8, 9, 10, 11, 12] o μ1 μ → hp_w X cls μ1 nx H locs → lv_has ls 3 [(0, .ref o), (1, .int (nI 38)), (2, .int (nI k))] → W p l e { frames := 5, cells := 0, slots := 0, locals := 200 } s m [.ref o, .int (nI 38)].toArray below meth c H locs 0 0 (MQ below (hq_v X (po_v nx (fun z => ∃ (kd9 kl9 tc9 sd9 : Nat) (sb9 H9 : Nat → Nat), z o = some (hp_o 7 [.int (nI n), .ref (o + 1), .ref (o + 2), .ref (o + 3), .ref (o + 4), .ref (o + 5), .ref (o + 6), .int (nB on), .int (nI tz), .ref (o + 7), .int (nI 7), .ref (o + 8), .ref (o + 9), .int (nI kd9), .int (nI kl9), .int (nI tc9), .ref (o + 10), .int (nI sd9), .ref (o + 11), .int (nI (fN n (rqB z0) 7 lv st le sh)), .ref (o + 12), .int (nI an), .ref (o + 13), .int (nI (fm + 1)), .int (nI fo), .ref (o + 14), .ref (o + 15), .int (nI kc), .ref (o + 16)]) ∧ (∀ j, sb9 j < 2) ∧ z (o + 8) = some (hp_n X 160 sb9) ∧ z (o + 12) = some (hp_n X 64 H9) ∧ RW X z o n lv (fS (rqB z0) 7 lv st le sh) (fL (rqB z0) 7 lv st le sh) sh ∧ (∀ x, x < fN n (rqB z0) 7 lv st le sh → H9 x = digN (fO n (rqB z0) 7 lv st le sh) (fZ n (rqB z0) 7 lv st le sh) x) ∧ hp_eqM [0, 4, 5, 8, 9, 10, 11, 12] o z μ))) [.ref o, .int (nI 38)].toArray s 0 0 (hp_A X)) (F0 m 8 ls []) := by
    intro kk8
    induction kk8 with
    | zero =>
      intro k hk hkk8
      exact absurd hkk8 (Nat.not_lt_zero _)
    | succ kk8 ih8 =>
      intro k hk hkk8 μ1 H locs ls f_o f_8 f_12 hW fr hH hl
      refine lv_iload_n hx hb dX11_sendShort_8 rfl (lv_at hl 2 rfl) ?_
      refine lv_bipush (v := nI 7) hx hb dX11_sendShort_9 (by decide) ?_
      refine lv_icmp_ge (tgt := 31) hx hb dX11_sendShort_11 (by decide) (fun c_11 => ?_) (fun c_11 => ?_)
      · have c_11 : 7 ≤ k := (nI_leI (by omega) (by omega)).mp c_11
        have ek : k = 7 := by omega
        have f_8 : μ1 (o + 8) = some (hp_n X 160 (rqB sb)) := by rw [ek] at f_8; exact f_8
        refine lv_aload_n hx hb dX11_sendShort_31 rfl (lv_at hl 0 rfl) ?_
        refine hp_kvm (hp_runV (As := []) (rest := []) hx hb hml hown hS hH (c_rsend l X (sb2 := rqB z0) (rqB_congr _ _) (rqB_01 h01) (by omega) hn16 hlv hst hle hoff hW f_o f_8 f_12) M_X11_148 I_X11_send V_X11_send (ci := 7) rfl rfl f_o rfl hl.1 rfl (Nat.le_of_ble_eq_true rfl) dX11_sendShort_32 ⟨Nat.le_of_ble_eq_true rfl, Nat.le_of_ble_eq_true rfl⟩ ⟨Nat.le_of_ble_eq_true rfl, Nat.le_of_ble_eq_true rfl⟩) hH (fun μ1 H locs hp hH => ?_)
        obtain ⟨kd9, kl9, tc9, sd9, H9, fz0, fz1, hW, hH9, fe⟩ := hp
        have f_8 := (fe.at 8 (by decide)).trans f_8
        have f_o := fz0
        have f_12 := fz1
        have hfN := fN_le n (rqB z0) 7 lv st le sh
        have fr := hp_eqM.tr fe fr (by decide)
        clear fe fz0 fz1
        exact hp_rv hx hb hr hlocks hS hH (⟨rfl, _, _, _, _, _, _, f_o, rqB_01 h01, f_8, f_12, hW, hH9, fr⟩) dX11_sendShort_35
      · have c_11 : ¬ (7 ≤ k) := fun z => c_11 ((nI_leI (by omega) (by omega)).mpr z)
        refine lv_aload_n hx hb dX11_sendShort_14 rfl (lv_at hl 0 rfl) ?_
        refine hp_get hx hb hown hS.2.1 hH (F_X11_36.use hS) f_o rfl dX11_sendShort_15 ?_
        refine lv_iload_n hx hb dX11_sendShort_18 rfl (lv_at hl 2 rfl) ?_
        refine lv_iload_n hx hb dX11_sendShort_19 rfl (lv_at hl 1 rfl) ?_
        refine lv_iload_n hx hb dX11_sendShort_20 rfl (lv_at hl 2 rfl) ?_
        refine lv_ishr hx hb dX11_sendShort_21 ?_
        refine lv_iconst (v := nI 1) hx hb dX11_sendShort_22 (by decide) ?_
        refine lv_iand hx hb dX11_sendShort_23 ?_
        refine hp_eqi (z := nI (bitI (nI 38) k)) (z_sbI (by omega)) ?_
        refine hp_iastN hx hb hS.ai hH f_8 (by omega) (by omega) dX11_sendShort_24 (fun H locs μ1 fz fn hH => ?_)
        have hW := hW.put 8 fn (by decide)
        have f_o := (fn _ (by omega)).trans f_o
        have f_12 := (fn _ (by omega)).trans f_12
        have f_8 : μ1 (o + 8) = some (hp_n X 160 (setN (apB sb 0 (nI 38) k) k (bitI (nI 38) k))) := fz
        have fr := hp_eqM.put (k := 8) fr (by decide) fn
        clear fz fn
        refine lv_iinc (v := nI (k + 1)) (lv' := [(2, .int (nI (k + 1))), (0, .ref o), (1, .int (nI 38))]) hx hb dX11_sendShort_25 hl (k := 2) rfl (nI_add _ 1) (by decide) rfl (fun ls hl => ?_)
        refine lv_goto (tgt := 8) hx hb dX11_sendShort_28 (by decide) ?_
        have f_8 := f_8.trans (congrArg (fun g => some (hp_n X 160 g)) (show setN (apB sb 0 (nI 38) k) k (bitI (nI 38) k) = apB sb 0 (nI 38) (k + 1) from (by have := apB_s sb 0 (nI 38) k; rwa [Nat.zero_add] at this)))
        exact ih8 (k + 1) (by omega) (by omega) _ _ _ _ f_o f_8 f_12 hW fr hH (lv_sub hl [1, 2, 0] rfl)
  exact lp_8 ((7 - 0) + 1) 0 (Nat.zero_le _) (Nat.lt_succ_self _) _ _ _ _ f_o f_8 f_12 hW fr hH (lv_sub hl [1, 2, 0] rfl)
