/-! a new tag, on both sides -/
theorem CW.low {X : hp_X} {μ : hp_M} {x n : Nat} {on : Bool} {sent : Nat} {ta lv : Nat → Nat} {aw : Nat → Bool} {st le : Nat → Nat} {sh : Nat → Nat → Nat} {tz : Nat} {tr : Nat → Nat} {lo lz ll cnt : Nat} {nb sz : Nat → Nat} {z : hp_M} (h : CW X μ x n on sent ta lv aw st le sh tz tr lo lz ll cnt nb sz) (hk : ∀ c e, μ c = some e → z c = μ c) : CW X z x n on sent ta lv aw st le sh tz tr lo lz ll cnt nb sz := by
  obtain ⟨mc, q, f, sa, kn, kc, size, aon, aze, alen, rb, hA, f0, f1, f2, f3, f7, f8, f9, h01, f10, f11, f12⟩ := h
  have t : ∀ {c : Nat} {e : va_E}, μ c = some e → z c = some e := fun h1 => (hk _ _ h1).trans h1
  exact ⟨mc, q, f, sa, kn, kc, size, aon, aze, alen, rb, hA.keep (fun c e hc _ => hk c e hc), t f0, t f1, t f2, t f3, t f7, t f8, t f9, h01, t f10, t f11, t f12⟩
theorem Pr_tagL (l : Launch) (X : hp_X) {x k : Nat} {μ : hp_M} {nx : Nat} (hJ : JW X μ x k) (hnx : ∀ c e, μ c = some e → c < nx) {lv2 : Nat} (hl1 : 1 ≤ lv2) (hl3 : lv2 ≤ 3) (a b c1 : Int32) : Pr l X x k yX10_tag cX10_tag 6 yX11_tag cX11_tag 10 [.int (nI (3 * lv2 + 1)), .int a, .int b, .int c1] μ nx := by
  obtain ⟨n, on, sent, ta, lv, aw, st, le, sh, tz, tr, lo, lz, ll, cnt, nb, sz, hC, hF, hP⟩ := id hJ
  obtain ⟨mc, q, f, sa, kn, kc, size, aon, aze, alen, rb, hA, f0, f1, f2, f3, f7, f8, f9, h01, f10, f11, f12⟩ := id hC
  obtain ⟨se, kd, kl, tc, sd, hd, kc2, Nu, G, sb, hb, ab, fz, kb, o0, hR, o2, o3, o7, o8, o12, o13, o14, o15, o16, hsb, hkb, hNu, hG, hab, hfz, hsh⟩ := id hF
  obtain ⟨Z, S, L, sh2, D, J, Bf, o1, o4, o5, o6, o9, o10, o11, hZ, hS, hL, hs2, hJ2⟩ := id hR
  obtain ⟨p1, p2, p3, p4, p5, p6, p7, p8, p9, p10, p11, p12, p13, p14, p15⟩ := id hP
  have p11' : ∀ j, j < n → 1 ≤ le j ∧ le j ≤ 3 := fun j hj => ⟨(p11 j hj).1, Nat.le_trans (p11 j hj).2 (p9 j hj).2⟩
  have hZ17 : ∀ j, j < n → Z (j + 1) < 2 ^ 20 := fun j hj => by have h1 := hZ j hj; have h2 := (p9 j hj).2; omega
  have low : ∀ z, (∀ c9, c9 < nx → z c9 = μ c9) → CW X z x n on sent ta lv aw st le sh tz tr lo lz ll cnt nb sz ∧ FW X z (x + 13) n on sent lv aw st le sh tz tr lo lz ll cnt nb sz := by
    intro z hz
    exact ⟨hC.low (fun c e hc => hz c (hnx c e hc)), hF.keep (fun k h1 => by obtain ⟨e, h2, -⟩ := hF.cells k h1; exact hz _ (hnx _ _ h2))⟩
  have bad : ∀ {E : Int32}, Ct l X yX10_tag cX10_tag 6 (some FieldType.int) 8 320 2 8 [.ref x, .int (nI (3 * lv2 + 1)), .int a, .int b, .int c1] μ nx (hq_i X (po_i (nx + 2) E (fun z => ∀ c9, c9 < nx → z c9 = μ c9))) → (∀ z, FW X z (x + 13) n on sent lv aw st le sh tz tr lo lz ll cnt nb sz → z (x + 13 + 1) = some (hp_n X 17 Z) → z (x + 13 + 2) = some (hp_n X 170 Nu) → ∃ fr2 lo2 : Nat, fr2 ≤ 8 ∧ lo2 ≤ 320 ∧ Ct l X yX11_tag cX11_tag 10 (some FieldType.int) fr2 lo2 0 0 [.ref (x + 13), .int (nI (3 * lv2 + 1)), .int a, .int b, .int c1] z (nx + 2) (hq_i X (po_i (nx + 2) E (fun w => w = z)))) → Pr l X x k yX10_tag cX10_tag 6 yX11_tag cX11_tag 10 [.int (nI (3 * lv2 + 1)), .int a, .int b, .int c1] μ nx := by
    intro E h1 h2
    refine ⟨8, 320, 2, 8, nx + 2, E, _, by decide, by decide, by decide, by decide, h1, fun z hz => ?_⟩
    obtain ⟨hCz, hFz⟩ := low z hz
    obtain ⟨fr2, lo2, q1, q2, q3⟩ := h2 z hFz ((hz _ (hnx _ _ o1)).trans o1) ((hz _ (hnx _ _ o2)).trans o2)
    refine ⟨hFz.o, fr2, lo2, q1, q2, Met.mono q3 (hq_i.mono (fun r w n9 h => ⟨h.1, h.2.1, ?_⟩))⟩
    rw [h.2.2]
    exact ⟨n, on, sent, ta, lv, aw, st, le, sh, tz, tr, lo, lz, ll, cnt, nb, sz, hCz, hFz, hP.more⟩
  by_cases u : nbN a b c1 (3 * lv2 + 1 - 4) = 136
  · refine bad (c_X10_tag_unf l X hl1 hl3 (by rw [shA_un hl1]; exact u) p1 p9 p10 p11' p12 hA f0) (fun z hFz g1 g2 => ?_)
    obtain ⟨se, kd, kl, tc, sd, hd, kc2, -, -, -, -, -, -, -, o0, -⟩ := hFz
    exact ⟨_, _, by decide, by decide, c_X11_tag_unf l X hl1 hl3 p1 hZ17 hNu u o0 g1 g2⟩
  · have u' : ¬ shA a b c1 lv2 (lv2 - 1) % 256 = 136 := by rw [shA_un hl1]; exact u
    by_cases hkn : knN n lv sh lv2 (shA a b c1 lv2)
    · refine bad (c_X10_tag_known l X hl1 hl3 u' (knB_t hkn) p1 p9 p10 p11' p12 hA f0) (fun z hFz g1 g2 => ?_)
      obtain ⟨se, kd, kl, tc, sd, hd, kc2, -, -, -, -, -, -, -, o0, -⟩ := hFz
      exact ⟨_, _, by decide, by decide, c_X11_tag_known l X hl1 hl3 p1 hZ17 hNu u ((kn_same hl1 hl3 hZ hsh).mp hkn) o0 g1 g2⟩
    · have hknR : ∀ j, j < n → ¬ smR Z Nu lv2 a b c1 j := fun j hj h => hkn ((kn_same hl1 hl3 hZ hsh).mpr ⟨j, hj, h⟩)
      by_cases hfull : n = 16
      · refine bad (c_X10_tag_full l X hl1 hl3 u' (knB_f hkn) (by omega) p1 p9 p10 p11' p12 hA f0) (fun z hFz g1 g2 => ?_)
        obtain ⟨se, kd, kl, tc, sd, hd, kc2, -, -, -, -, -, -, -, o0, -⟩ := hFz
        exact ⟨_, _, by decide, by decide, c_X11_tag_full l X hl1 hl3 p1 hZ17 hNu u hknR hfull o0 g1 g2⟩
      · have good : ∀ (NX : Nat) (z : hp_M), (∃ (q' : Nat) (f' : Nat → Option Nat), AW X z (x + 4) (x + 5) (x + 6) (mc + 1) q' (n + 1) on sent f' (setN ta n nx) (setN sa n (nx + 1)) (setN lv n lv2) (setB aw n false) (setN st n (if on = true ∧ false = false then 1 else 0)) (setN le n 1) (setS sh n (shA a b c1 lv2)) ∧ ∀ c9 e9, μ c9 = some e9 → c9 ≠ x + 5 → (0 < n → c9 ≠ q) → z c9 = μ c9) → (∃ fs, z (x + 13) = some (.inr (7, fs))) ∧ ∃ (fr2 lo2 : Nat), fr2 ≤ 8 ∧ lo2 ≤ 320 ∧ Ct l X yX11_tag cX11_tag 10 (some FieldType.int) fr2 lo2 0 0 [.ref (x + 13), .int (nI (3 * lv2 + 1)), .int a, .int b, .int c1] z NX (hq_i X (po_i NX (nI (n + 1)) (fun w => JW X w x (k + 1)))) := by
          intro NX z hz
          obtain ⟨q', f', z1, fe⟩ := hz
          have hk : ∀ c e, μ c = some e → ¬ awE e → z c = μ c := by
            intro c e hc he
            refine fe c e hc (fun q9 => aw_ne hA.2.1 (by simp [awE]) hc he q9.symm) (fun h0 q9 => ?_)
            exact aw_ne (hA.2.2.1.resolve_left (by omega)).2.1 (by simp [awE]) hc he q9.symm
          have hCz := hC.move z1 hk
          have hFz := hF.keep (hF.cells.kept hk)
          have hFC := hFz.cells
          have t : ∀ {c : Nat} {e : va_E}, μ c = some e → ¬ awE e → z c = some e := fun h1 h2 => (hk _ _ h1 h2).trans h1
          refine ⟨hFz.o, ?_⟩
          have o0 := t o0 (by simp [awE])
          have o1 := t o1 (by simp [awE])
          have o2 := t o2 (by simp [awE])
          have o3 := t o3 (by simp [awE])
          have o4 := t o4 (by simp [awE])
          have o5 := t o5 (by simp [awE])
          have o6 := t o6 (by simp [awE])
          have o7 := t o7 (by simp [awE])
          have o8 := t o8 (by simp [awE])
          have o9 := t o9 (by simp [awE])
          have o10 := t o10 (by simp [awE])
          have o11 := t o11 (by simp [awE])
          have o12 := t o12 (by simp [awE])
          have o13 := t o13 (by simp [awE])
          have o14 := t o14 (by simp [awE])
          have o15 := t o15 (by simp [awE])
          have o16 := t o16 (by simp [awE])
          refine ⟨_, _, by decide, by decide, Met.mono (c_X11_tag_ok l X hl1 hl3 p1 hZ17 hNu u hknR (by omega) o0 o1 o2 o3 o4 o5 o6) (hq_i.mono (fun r w n9 h => ⟨h.1, h.2.1, ?_⟩))⟩
          obtain ⟨w0, w1, w2, w3, w4, w5, sh9, w6, wsh, wold, fw⟩ := h.2.2
          refine ⟨n + 1, on, sent, _, _, _, _, _, _, tz, tr, lo, lz, ll, cnt, nb, sz, hCz.keep hFC fw (by decide), ⟨se, kd, kl, tc, sd, hd, kc2, _, _, sb, hb, ab, fz, kb, w0, ⟨_, _, _, sh9, D, J, Bf, w1, w4, w5, w6, (fw.at 9 (by decide)).trans o9, (fw.at 10 (by decide)).trans o10, (fw.at 11 (by decide)).trans o11, ?_, ?_, ?_, ?_, hJ2⟩, w2, w3, (fw.at 7 (by decide)).trans o7, (fw.at 8 (by decide)).trans o8, (fw.at 12 (by decide)).trans o12, (fw.at 13 (by decide)).trans o13, (fw.at 14 (by decide)).trans o14, (fw.at 15 (by decide)).trans o15, (fw.at 16 (by decide)).trans o16, hsb, hkb, ?_, ?_, hab, hfz, ?_⟩, by omega, p2, p3, p4, p5, p6, p7, p8, ?_, ?_, ?_, ?_, ?_, ?_, by omega⟩
          · intro j hj
            by_cases ej : j = n
            · subst ej; rw [setN_s, setN_s]
            · rw [setN_o ej, setN_o (by omega)]; exact hZ j (by omega)
          · intro j hj
            by_cases ej : j = n
            · subst ej; rw [setN_s, setN_s]; cases on <;> rfl
            · rw [setN_o ej, setN_o (by omega)]; exact hS j (by omega)
          · intro j hj
            by_cases ej : j = n
            · subst ej; rw [setN_s, setN_s]
            · rw [setN_o ej, setN_o (by omega)]; exact hL j (by omega)
          · intro j hj i hi2 k2 hk2
            by_cases ej : j = n
            · subst ej
              rw [setN_s] at hi2
              rw [wsh i hi2 k2 hk2]
              show _ = (if j = j then shA a b c1 lv2 else sh j) i / 2 ^ k2 % 2
              rw [if_pos rfl]
            · rw [setN_o ej] at hi2
              have h3 := (p9 j (by omega)).2
              rw [wold _ (Or.inl (by omega)), hs2 j (by omega) i hi2 k2 hk2]
              show _ = (if j = n then shA a b c1 lv2 else sh j) i / 2 ^ k2 % 2
              rw [if_neg ej]
          · intro j
            show (if _ then _ else _) < 2 ^ 20
            by_cases hc : 10 * (n + 1) ≤ j ∧ j < 10 * (n + 1) + (3 * lv2 + 1)
            · rw [if_pos hc]; exact Nat.lt_trans (nbN_lt _ _ _ _) (by decide)
            · rw [if_neg hc]; exact hNu j
          · intro j hj
            by_cases ej : j = n
            · subst ej; rw [setB_s, setB_s]
            · rw [setB_o ej, setB_o (by omega)]; exact hG j (by omega)
          · intro j hj
            by_cases ej : j = n
            · subst ej
              refine ⟨a, b, c1, ?_, ?_⟩
              · rw [setN_s]
                exact if_pos rfl
              · rw [setN_s]
                intro k2 hk2
                exact nuW_at hk2
            · obtain ⟨A, B, C, e1, e2⟩ := hsh j (by omega)
              have h3 := (p9 j (by omega)).2
              refine ⟨A, B, C, ?_, ?_⟩
              · rw [setN_o ej, ← e1]
                exact if_neg ej
              · rw [setN_o ej]
                intro k2 hk2
                rw [← e2 k2 hk2]
                exact if_neg (by omega)
          · intro j hj
            by_cases ej : j = n
            · subst ej; rw [setN_s]; exact ⟨hl1, hl3⟩
            · rw [setN_o ej]; exact p9 j (by omega)
          · intro j hj
            by_cases ej : j = n
            · subst ej; rw [setN_s]; cases on <;> decide
            · rw [setN_o ej]; exact p10 j (by omega)
          · intro j hj
            by_cases ej : j = n
            · subst ej; rw [setN_s, setN_s]; exact ⟨by decide, hl1⟩
            · rw [setN_o ej, setN_o ej]; exact p11 j (by omega)
          · intro j hj i
            by_cases ej : j = n
            · show (if j = n then shA a b c1 lv2 else sh j) i < 2 ^ 40
              rw [if_pos ej]; exact shA_lt _ _ _ _ _
            · show (if j = n then shA a b c1 lv2 else sh j) i < 2 ^ 40
              rw [if_neg ej]; exact p12 j (by omega) i
          · intro i j hi2 hj2 hij
            by_cases ei : i = n
            · by_cases ej : j = n
              · omega
              · rw [ei, setN_s, setN_o ej] at hij
                have h9 := hnx _ _ (hA.2.2.2.1 j (by omega))
                omega
            · by_cases ej : j = n
              · rw [ej, setN_s, setN_o ei] at hij
                have h9 := hnx _ _ (hA.2.2.2.1 i (by omega))
                omega
              · rw [setN_o ei, setN_o ej] at hij
                exact p13 i j (by omega) (by omega) hij
          · intro h0 j hj
            by_cases ej : j = n
            · subst ej; rw [setN_s, h0]; rfl
            · rw [setN_o ej]; exact p14 h0 j (by omega)
        by_cases n0 : n = 0
        · exact ⟨8, 320, 3, 18, nx + 3, _, _, by decide, by decide, by decide, by decide, c_X10_tag_first l X hl1 hl3 u' (knB_f hkn) n0 p1 p9 p10 p11' p12 hA f0, good _⟩
        · by_cases n10 : n = 10
          · exact ⟨8, 320, 3, 23, nx + 3, _, _, by decide, by decide, by decide, by decide, c_X10_tag_10 l X hl1 hl3 u' (knB_f hkn) n10 p1 p9 p10 p11' p12 hA f0, good _⟩
          · by_cases n15 : n = 15
            · exact ⟨8, 320, 3, 30, nx + 3, _, _, by decide, by decide, by decide, by decide, c_X10_tag_15 l X hl1 hl3 u' (knB_f hkn) n15 p1 p9 p10 p11' p12 hA f0, good _⟩
            · exact ⟨8, 320, 2, 8, nx + 2, _, _, by decide, by decide, by decide, by decide, c_X10_tag_room l X hl1 hl3 u' (knB_f hkn) (by omega) (by omega) n10 n15 p1 p9 p10 p11' p12 hA f0, good _⟩
theorem Pr_tag (l : Launch) (X : hp_X) {x k : Nat} {μ : hp_M} {nx : Nat} (hJ : JW X μ x k) (hnx : ∀ c e, μ c = some e → c < nx) (v a b c1 : Int32) : Pr l X x k yX10_tag cX10_tag 6 yX11_tag cX11_tag 10 [.int v, .int a, .int b, .int c1] μ nx := by
  by_cases h1 : v = nI 4
  · rw [h1]; exact Pr_tagL l X hJ hnx (lv2 := 1) (by decide) (by decide) a b c1
  · by_cases h2 : v = nI 7
    · rw [h2]; exact Pr_tagL l X hJ hnx (lv2 := 2) (by decide) (by decide) a b c1
    · by_cases h3 : v = nI 10
      · rw [h3]; exact Pr_tagL l X hJ hnx (lv2 := 3) (by decide) (by decide) a b c1
      · exact Pr.same hJ (c_X10_tag_out l X h1 h2 h3 hJ.x) (c_X11_tag_out l X h1 h2 h3)
