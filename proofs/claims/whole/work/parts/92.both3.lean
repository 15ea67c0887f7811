/-! the calls that change the field, on both sides -/
theorem setB_id (f : Nat → Bool) (k : Nat) : setB f k (f k) = f := by
  funext j
  unfold setB
  by_cases h : j = k
  · rw [if_pos h, h]
  · rw [if_neg h]
theorem setB_s (f : Nat → Bool) (k : Nat) (v : Bool) : setB f k v k = v := if_pos rfl
theorem setB_o {f : Nat → Bool} {k j : Nat} {v : Bool} (h : j ≠ k) : setB f k v j = f j := if_neg h
/-- the class's other cells, when the field alone has changed -/
theorem CW.move {X : hp_X} {μ : hp_M} {x n : Nat} {on : Bool} {sent : Nat} {ta lv : Nat → Nat} {aw : Nat → Bool} {st le : Nat → Nat} {sh : Nat → Nat → Nat} {tz : Nat} {tr : Nat → Nat} {lo lz ll cnt : Nat} {nb sz : Nat → Nat} {z : hp_M} {n2 : Nat} {on2 : Bool} {sent2 mc2 q2 : Nat} {f2 : Nat → Option Nat} {ta2 sa2 lv2 st2 le2 : Nat → Nat} {aw2 : Nat → Bool} {sh2 : Nat → Nat → Nat} (h : CW X μ x n on sent ta lv aw st le sh tz tr lo lz ll cnt nb sz) (hA : AW X z (x + 4) (x + 5) (x + 6) mc2 q2 n2 on2 sent2 f2 ta2 sa2 lv2 aw2 st2 le2 sh2) (hk : ∀ c e, μ c = some e → ¬ awE e → z c = μ c) : CW X z x n2 on2 sent2 ta2 lv2 aw2 st2 le2 sh2 tz tr lo lz ll cnt nb sz := by
  obtain ⟨mc, q, f, sa, kn, kc, size, aon, aze, alen, rb, -, f0, f1, f2, f3, f7, f8, f9, h01, f10, f11, f12⟩ := h
  have t : ∀ {c : Nat} {e : va_E}, μ c = some e → ¬ awE e → z c = some e := fun h1 h2 => (hk _ _ h1 h2).trans h1
  exact ⟨mc2, q2, _, sa2, kn, kc, size, aon, aze, alen, rb, hA, t f0 (by simp [awE]), t f1 (by simp [awE]), t f2 (by simp [awE]), t f3 (by simp [awE]), t f7 (by simp [awE]), t f8 (by simp [awE]), t f9 (by simp [awE]), h01, t f10 (by simp [awE]), t f11 (by simp [awE]), t f12 (by simp [awE])⟩
theorem FC.kept {μ z : hp_M} {o : Nat} (h : FC μ o) (hk : ∀ c e, μ c = some e → ¬ awE e → z c = μ c) : ∀ k, k ≤ 16 → z (o + k) = μ (o + k) := by
  intro k h1
  obtain ⟨e, h2, h3⟩ := h k h1
  exact hk _ _ h2 h3
theorem Pr_out (l : Launch) (X : hp_X) {x k : Nat} {μ : hp_M} {nx : Nat} (hJ : JW X μ x k) (v : Int32) (is : Bool) : Pr l X x k yX10_out cX10_out 3 yX11_out cX11_out 3 [.int v, .int (nB is)] μ nx := by
  obtain ⟨n, on, sent, ta, lv, aw, st, le, sh, tz, tr, lo, lz, ll, cnt, nb, sz, hC, hF, hP⟩ := id hJ
  obtain ⟨mc, q, f, sa, kn, kc, size, aon, aze, alen, rb, hA, f0, f1, f2, f3, f7, f8, f9, h01, f10, f11, f12⟩ := id hC
  obtain ⟨se, kd, kl, tc, sd, hd, kc2, Nu, G, sb, hb, ab, fz, kb, o0, hR, o2, o3, o7, o8, o12, o13, o14, o15, o16, hsb, hkb, hNu, hG, hab, hfz, hsh⟩ := id hF
  obtain ⟨Z, S, L, sh2, D, J, Bf, o1, o4, o5, o6, o9, o10, o11, hZ, hS, hL, hs2, hJ2⟩ := id hR
  obtain ⟨p1, p2, p3, p4, p5, p6, p7, p8, p9, p10, p11, p12, p13, p14, p15⟩ := id hP
  have p11' : ∀ j, j < n → 1 ≤ le j ∧ le j ≤ 3 := fun j hj => ⟨(p11 j hj).1, Nat.le_trans (p11 j hj).2 (p9 j hj).2⟩
  rcases tg_ix v (n := n) (by omega) with h | ⟨i, hi, rfl⟩
  · exact Pr.same hJ (c_X10_out_un l X h hA f0) (c_X11_out_un l X h o0)
  · have hti := hA.2.2.2.1 i hi
    have key : ∀ z, (AW X z (x + 4) (x + 5) (x + 6) mc q n on sent f ta sa lv (setB aw i is) (setN st i (if aw i = is then st i else if on = true ∧ is = false then 1 else 0)) le sh ∧ hp_eq [ta i] z μ) → CW X z x n on sent ta lv (setB aw i is) (setN st i (if aw i = is then st i else if on = true ∧ is = false then 1 else 0)) le sh tz tr lo lz ll cnt nb sz ∧ FW X z (x + 13) n on sent lv aw st le sh tz tr lo lz ll cnt nb sz := by
      intro z hz
      have hk : ∀ c e, μ c = some e → ¬ awE e → z c = μ c := fun c e hc he => hp_e1 hz.2 (fun q9 => aw_ne hti (by simp [awE, hTG]) hc he q9.symm)
      exact ⟨hC.move hz.1 hk, hF.keep (hF.cells.kept hk)⟩
    by_cases hs : aw i = is
    · refine ⟨_, _, 0, 0, nx, _, _, by decide, by decide, by decide, by decide, c_X10_out l X hi p1 p13 hA f0, fun z hz => ?_⟩
      obtain ⟨hCz, hFz⟩ := key z hz
      refine ⟨hFz.o, ?_⟩
      rw [if_pos hs, setN_id, ← hs, setB_id] at hCz
      obtain ⟨se, kd, kl, tc, sd, hd, kc2, Nu, G, sb, hb, ab, fz, kb, o0, hR, o2, o3, o7, o8, o12, o13, o14, o15, o16, hsb, hkb, hNu, hG, hab, hfz, hsh⟩ := id hFz
      rw [if_neg (not_not_intro hs)]
      refine ⟨_, _, by decide, by decide, Met.mono (c_X11_out_same l X hi p1 ((hG i hi).trans hs) o0 o3) (hq_i.mono (fun r w n9 h => ⟨h.1, h.2.1, ?_⟩))⟩
      rw [h.2.2]
      exact ⟨n, on, sent, ta, lv, aw, st, le, sh, tz, tr, lo, lz, ll, cnt, nb, sz, hCz, hFz, hP.more⟩
    · refine ⟨_, _, 0, 0, nx, _, _, by decide, by decide, by decide, by decide, c_X10_out l X hi p1 p13 hA f0, fun z hz => ?_⟩
      obtain ⟨hCz, hFz⟩ := key z hz
      refine ⟨hFz.o, ?_⟩
      rw [if_neg hs] at hCz
      have hFC := hFz.cells
      obtain ⟨se, kd, kl, tc, sd, hd, kc2, Nu, G, sb, hb, ab, fz, kb, o0, hR, o2, o3, o7, o8, o12, o13, o14, o15, o16, hsb, hkb, hNu, hG, hab, hfz, hsh⟩ := id hFz
      obtain ⟨Z, S, L, sh2, D, J, Bf, o1, o4, o5, o6, o9, o10, o11, hZ, hS, hL, hs2, hJ2⟩ := id hR
      rw [if_pos hs]
      refine ⟨_, _, by decide, by decide, Met.mono (c_X11_out l X hi p1 (fun q => hs ((hG i hi).symm.trans q)) o0 o3 o4) (hq_i.mono (fun r w n9 h => ⟨h.1, h.2.1, ?_⟩))⟩
      obtain ⟨w1, w2, fw⟩ := h.2.2
      have v2 : (if on = true ∧ is = false then 1 else 0) < 8 := by
        by_cases hc : on = true ∧ is = false
        · rw [if_pos hc]; decide
        · rw [if_neg hc]; decide
      refine ⟨n, on, sent, ta, lv, setB aw i is, setN st i (if on = true ∧ is = false then 1 else 0), le, sh, tz, tr, lo, lz, ll, cnt, nb, sz, hCz.keep hFC fw (by decide), ⟨se, kd, kl, tc, sd, hd, kc2, Nu, setB G (i + 1) is, sb, hb, ab, fz, kb, (fw.at0 (by decide)).trans o0, ⟨Z, setN S (i + 1) (if on = true ∧ is = false then 1 else 0), L, sh2, D, J, Bf, (fw.at 1 (by decide)).trans o1, w2, (fw.at 5 (by decide)).trans o5, (fw.at 6 (by decide)).trans o6, (fw.at 9 (by decide)).trans o9, (fw.at 10 (by decide)).trans o10, (fw.at 11 (by decide)).trans o11, hZ, ?_, hL, hs2, hJ2⟩, (fw.at 2 (by decide)).trans o2, w1, (fw.at 7 (by decide)).trans o7, (fw.at 8 (by decide)).trans o8, (fw.at 12 (by decide)).trans o12, (fw.at 13 (by decide)).trans o13, (fw.at 14 (by decide)).trans o14, (fw.at 15 (by decide)).trans o15, (fw.at 16 (by decide)).trans o16, hsb, hkb, hNu, ?_, hab, hfz, hsh⟩, p1, p2, p3, p4, p5, p6, p7, p8, p9, ?_, p11, p12, p13, ?_, by omega⟩
      · intro j hj
        by_cases ej : j = i
        · subst ej; rw [setN_s, setN_s]
        · rw [setN_o ej, setN_o (by omega)]; exact hS j hj
      · intro j hj
        by_cases ej : j = i
        · subst ej; rw [setB_s, setB_s]
        · rw [setB_o ej, setB_o (by omega)]; exact hG j hj
      · intro j hj
        by_cases ej : j = i
        · subst ej; rw [setN_s]; exact v2
        · rw [setN_o ej]; exact p10 j hj
      · intro h0 j hj
        by_cases ej : j = i
        · subst ej; rw [setN_s, if_neg (fun q => by rw [h0] at q; exact absurd q.1 (by decide))]
        · rw [setN_o ej]; exact p14 h0 j hj
theorem Pr_field (l : Launch) (X : hp_X) {x k : Nat} {μ : hp_M} {nx : Nat} (hJ : JW X μ x k) (to : Bool) : Pr l X x k yX10_field cX10_field 2 yX11_field cX11_field 3 [.int (nB to)] μ nx := by
  obtain ⟨n, on, sent, ta, lv, aw, st, le, sh, tz, tr, lo, lz, ll, cnt, nb, sz, hC, hF, hP⟩ := id hJ
  obtain ⟨mc, q, f, sa, kn, kc, size, aon, aze, alen, rb, hA, f0, f1, f2, f3, f7, f8, f9, h01, f10, f11, f12⟩ := id hC
  obtain ⟨se, kd, kl, tc, sd, hd, kc2, Nu, G, sb, hb, ab, fz, kb, o0, hR, o2, o3, o7, o8, o12, o13, o14, o15, o16, hsb, hkb, hNu, hG, hab, hfz, hsh⟩ := id hF
  obtain ⟨Z, S, L, sh2, D, J, Bf, o1, o4, o5, o6, o9, o10, o11, hZ, hS, hL, hs2, hJ2⟩ := id hR
  obtain ⟨p1, p2, p3, p4, p5, p6, p7, p8, p9, p10, p11, p12, p13, p14, p15⟩ := id hP
  have p11' : ∀ j, j < n → 1 ≤ le j ∧ le j ≤ 3 := fun j hj => ⟨(p11 j hj).1, Nat.le_trans (p11 j hj).2 (p9 j hj).2⟩
  by_cases hto : on = to
  · exact Pr.same hJ (c_X10_field_same l X hto hA f0) (c_X11_field_same l X hto o0)
  · refine ⟨_, _, 0, 0, nx, _, _, by decide, by decide, by decide, by decide, c_X10_field l X hto p1 p13 hA f0, fun z hz => ?_⟩
    have hk : ∀ c e, μ c = some e → ¬ awE e → z c = μ c := by
      intro c e hc he
      refine hz.2 c ?_
      rintro (q9 | ⟨j, hj, q9⟩)
      · exact aw_ne hA.1 (by simp [awE]) hc he q9.symm
      · exact aw_ne (hA.2.2.2.1 j hj) (by simp [awE, hTG]) hc he q9.symm
    have hCz := hC.move hz.1 hk
    have hFz := hF.keep (hF.cells.kept hk)
    refine ⟨hFz.o, ?_⟩
    have hFC := hFz.cells
    obtain ⟨se, kd, kl, tc, sd, hd, kc2, Nu, G, sb, hb, ab, fz, kb, o0, hR, o2, o3, o7, o8, o12, o13, o14, o15, o16, hsb, hkb, hNu, hG, hab, hfz, hsh⟩ := id hFz
    obtain ⟨Z, S, L, sh2, D, J, Bf, o1, o4, o5, o6, o9, o10, o11, hZ, hS, hL, hs2, hJ2⟩ := id hR
    refine ⟨_, _, by decide, by decide, Met.mono (c_X11_field l X p1 hto o0 o3 o4) (hq_i.mono (fun r w n9 h => ⟨h.1, h.2.1, ?_⟩))⟩
    obtain ⟨w1, w2, fw⟩ := h.2.2
    refine ⟨n, to, sent, ta, lv, aw, _, le, sh, tz, tr, lo, lz, ll, cnt, nb, sz, hCz.keep hFC fw (by decide), ⟨se, kd, kl, tc, sd, hd, kc2, Nu, G, sb, hb, ab, fz, kb, w1, ⟨Z, fdN to G S (n + 1), L, sh2, D, J, Bf, (fw.at 1 (by decide)).trans o1, w2, (fw.at 5 (by decide)).trans o5, (fw.at 6 (by decide)).trans o6, (fw.at 9 (by decide)).trans o9, (fw.at 10 (by decide)).trans o10, (fw.at 11 (by decide)).trans o11, hZ, ?_, hL, hs2, hJ2⟩, (fw.at 2 (by decide)).trans o2, (fw.at 3 (by decide)).trans o3, (fw.at 7 (by decide)).trans o7, (fw.at 8 (by decide)).trans o8, (fw.at 12 (by decide)).trans o12, (fw.at 13 (by decide)).trans o13, (fw.at 14 (by decide)).trans o14, (fw.at 15 (by decide)).trans o15, (fw.at 16 (by decide)).trans o16, hsb, hkb, hNu, hG, hab, hfz, hsh⟩, p1, p2, p3, p4, p5, p6, p7, p8, p9, ?_, p11, p12, p13, ?_, by omega⟩
    · intro j hj
      rw [fdN_at hj, hG j hj]
    · intro j hj
      show (if to = true ∧ aw j = false then 1 else 0) < 8
      by_cases hc : to = true ∧ aw j = false
      · rw [if_pos hc]; decide
      · rw [if_neg hc]; decide
    · intro h0 j hj
      show (if to = true ∧ aw j = false then 1 else 0) = 0
      rw [if_neg (fun q => by rw [h0] at q; exact absurd q.1 (by decide))]
theorem Pr_go (l : Launch) (X : hp_X) {x k : Nat} {μ : hp_M} {nx : Nat} (hJ : JW X μ x k) (hk5 : k ≤ 512) : Pr l X x k yX10_go cX10_go 2 yX11_go cX11_go 2 [] μ nx := by
  obtain ⟨n, on, sent, ta, lv, aw, st, le, sh, tz, tr, lo, lz, ll, cnt, nb, sz, hC, hF, hP⟩ := id hJ
  obtain ⟨mc, q, f, sa, kn, kc, size, aon, aze, alen, rb, hA, f0, f1, f2, f3, f7, f8, f9, h01, f10, f11, f12⟩ := id hC
  obtain ⟨se, kd, kl, tc, sd, hd, kc2, Nu, G, sb, hb, ab, fz, kb, o0, hR, o2, o3, o7, o8, o12, o13, o14, o15, o16, hsb, hkb, hNu, hG, hab, hfz, hsh⟩ := id hF
  obtain ⟨Z, S, L, sh2, D, J, Bf, o1, o4, o5, o6, o9, o10, o11, hZ, hS, hL, hs2, hJ2⟩ := id hR
  obtain ⟨p1, p2, p3, p4, p5, p6, p7, p8, p9, p10, p11, p12, p13, p14, p15⟩ := id hP
  have p11' : ∀ j, j < n → 1 ≤ le j ∧ le j ≤ 3 := fun j hj => ⟨(p11 j hj).1, Nat.le_trans (p11 j hj).2 (p9 j hj).2⟩
  refine ⟨_, _, 0, 0, nx, _, _, by decide, by decide, by decide, by decide, c_X10_go l X p3 p2 (by omega) p1 p9 p10 p11' p12 p13 hA f0 f1 f2 f3, fun z hz => ?_⟩
  obtain ⟨z1, z2, z3, z4, fe⟩ := hz
  have hk : ∀ c e, μ c = some e → ¬ awE e → c ≠ x + 3 → c ≠ x + 1 → c ≠ x + 2 → z c = μ c := by
    intro c e hc he n1 n2 n3
    refine fe c ?_
    rintro (q9 | q9 | q9)
    · exact hA.out hc he n1 q9
    · exact n2 q9
    · exact n3 q9
  have t : ∀ (k : Nat) {e : va_E}, k ≠ 1 → k ≠ 2 → k ≠ 3 → μ (x + k) = some e → ¬ awE e → z (x + k) = some e := fun k e n1 n2 n3 h1 h2 => (hk _ _ h1 h2 (by omega) (by omega) (by omega)).trans h1
  have hCz : CW X z x n on (sent + 1) ta lv aw (fS tr tz lv st le sh) (fL tr tz lv st le sh) sh 0 tr (fO n tr tz lv st le sh) (fZ n tr tz lv st le sh) (fN n tr tz lv st le sh) cnt nb sz := ⟨mc, q, f, sa, kn, kc, size, aon, aze, alen, rb, z1, t 0 (by decide) (by decide) (by decide) f0 (by simp [awE]), z3, z4, z2, t 7 (by decide) (by decide) (by decide) f7 (by simp [awE]), t 8 (by decide) (by decide) (by decide) f8 (by simp [awE]), t 9 (by decide) (by decide) (by decide) f9 (by simp [awE]), h01, t 10 (by decide) (by decide) (by decide) f10 (by simp [awE]), t 11 (by decide) (by decide) (by decide) f11 (by simp [awE]), t 12 (by decide) (by decide) (by decide) f12 (by simp [awE])⟩
  have hFz := hF.keep (z := z) (fun k h1 => by obtain ⟨e, h2, h3⟩ := hF.cells k h1; exact hk _ _ h2 h3 (by omega) (by omega) (by omega))
  refine ⟨hFz.o, ?_⟩
  have hFC := hFz.cells
  obtain ⟨se, kd, kl, tc, sd, hd, kc2, Nu, G, sb, hb, ab, fz, kb, o0, hR, o2, o3, o7, o8, o12, o13, o14, o15, o16, hsb, hkb, hNu, hG, hab, hfz, hsh⟩ := id hFz
  refine ⟨_, _, by decide, by decide, Met.mono (c_X11_go l X p3 hsb p2 p1 p9 p10 p11 p14 hR o0 o7 o8 o12 o13) (hq_i.mono (fun r w n9 h => ⟨h.1, h.2.1, ?_⟩))⟩
  obtain ⟨kd9, kl9, tc9, sd9, sb9, H9, ab9, w0, w01, w8, w12, w13, wR, wab, fw⟩ := h.2.2
  exact ⟨n, on, sent + 1, ta, lv, aw, _, _, sh, 0, tr, _, _, _, cnt, nb, sz, hCz.keep hFC fw (by decide), ⟨tz, kd9, kl9, tc9, sd9, _, kc2, Nu, G, sb9, H9, ab9, fz, kb, w0, wR, (fw.at 2 (by decide)).trans o2, (fw.at 3 (by decide)).trans o3, (fw.at 7 (by decide)).trans o7, w8, w12, w13, (fw.at 14 (by decide)).trans o14, (fw.at 15 (by decide)).trans o15, (fw.at 16 (by decide)).trans o16, w01, hkb, hNu, hG, wab, hfz, hsh⟩, p1, by decide, p3, fO_lt _ _ _ _ _ _ _, fZ_lt _ _ _ _ _ _ _, fN_le _ _ _ _ _ _ _, p7, p8, p9, fS_lt _ _ _ _ p10, fL_in2 p9 p11 _ _, p12, p13, fun h0 => fS_0 (p14 h0), by omega⟩
theorem Pr_round (l : Launch) (X : hp_X) {x k : Nat} {μ : hp_M} {nx : Nat} (hJ : JW X μ x k) (hk5 : k ≤ 512) : Pr l X x k yX10_round cX10_round 2 yX11_round cX11_round 7 [] μ nx := by
  obtain ⟨n, on, sent, ta, lv, aw, st, le, sh, tz, tr, lo, lz, ll, cnt, nb, sz, hC, hF, hP⟩ := id hJ
  obtain ⟨mc, q, f, sa, kn, kc, size, aon, aze, alen, rb, hA, f0, f1, f2, f3, f7, f8, f9, h01, f10, f11, f12⟩ := id hC
  obtain ⟨se, kd, kl, tc, sd, hd, kc2, Nu, G, sb, hb, ab, fz, kb, o0, hR, o2, o3, o7, o8, o12, o13, o14, o15, o16, hsb, hkb, hNu, hG, hab, hfz, hsh⟩ := id hF
  obtain ⟨Z, S, L, sh2, D, J, Bf, o1, o4, o5, o6, o9, o10, o11, hZ, hS, hL, hs2, hJ2⟩ := id hR
  obtain ⟨p1, p2, p3, p4, p5, p6, p7, p8, p9, p10, p11, p12, p13, p14, p15⟩ := id hP
  have p11' : ∀ j, j < n → 1 ≤ le j ∧ le j ≤ 3 := fun j hj => ⟨(p11 j hj).1, Nat.le_trans (p11 j hj).2 (p9 j hj).2⟩
  rcases hres : rnN n lv sh 40 st le sent nb sz 0 with ⟨st9, le9, sent9, nb9, sz9, cnt9⟩
  obtain ⟨r1, r2, r3, r4, r5, r6⟩ := rnN_in p9 40 _ _ _ _ _ _ p10 p11 (fun j hj => absurd hj (Nat.not_lt_zero _)) (by decide) _ _ _ _ _ _ hres
  refine ⟨_, _, 0, 0, nx, _, _, by decide, by decide, by decide, by decide, c_X10_round l X (by omega) h01 p1 p9 p10 p11' p12 p13 hA hres f0 f7 f8 f9 f10 f11 f12, fun z hz => ?_⟩
  obtain ⟨size9, on9, ze9, len9, kn9, kc9, rb9, z01, z7, z8, z9, z10, z11, z12, z1, fe⟩ := hz
  have hk : ∀ c e, μ c = some e → ¬ awE e → (c < x + 7 ∨ x + 13 ≤ c) → z c = μ c := fun c e hc he hn => fe c (hA.out3 hc he (by omega) (by omega) (by omega) (by omega) (by omega) (by omega))
  have t : ∀ (k : Nat) {e : va_E}, k < 7 → μ (x + k) = some e → ¬ awE e → z (x + k) = some e := fun k e n1 h1 h2 => (hk _ _ h1 h2 (by omega)).trans h1
  have hCz : CW X z x n on sent9 ta lv aw st9 le9 sh tz tr lo lz ll cnt9 nb9 sz9 := ⟨mc, q, f, sa, kn9, kc9, size9, on9, ze9, len9, rb9, z1, t 0 (by decide) f0 (by simp [awE]), t 1 (by decide) f1 (by simp [awE]), t 2 (by decide) f2 (by simp [awE]), t 3 (by decide) f3 (by simp [awE]), z7, z8, z9, z01, z10, z11, z12⟩
  have hFz := hF.keep (z := z) (fun k h1 => by obtain ⟨e, h2, h3⟩ := hF.cells k h1; exact hk _ _ h2 h3 (by omega))
  refine ⟨hFz.o, ?_⟩
  have hFC := hFz.cells
  obtain ⟨se, kd, kl, tc, sd, hd, kc2, Nu, G, sb, hb, ab, fz, kb, o0, hR, o2, o3, o7, o8, o12, o13, o14, o15, o16, hsb, hkb, hNu, hG, hab, hfz, hsh⟩ := id hFz
  refine ⟨_, _, by decide, by decide, Met.mono (c_X11_round l X hkb hsb p1 p9 p10 p11 p14 hR hres o0 o8 o12 o14 o15 o16) (hq_i.mono (fun r w n9 h => ⟨h.1, h.2.1, ?_⟩))⟩
  obtain ⟨se8, kd8, kl8, tc8, sd8, hd8, kc8, sb8, H8, fz8, kb8, w0, w01, w8, w12, w14, wfz, w15, wkb, w16, wR, fw⟩ := h.2.2
  exact ⟨n, on, sent9, ta, lv, aw, st9, le9, sh, tz, tr, lo, lz, ll, cnt9, nb9, sz9, hCz.keep hFC fw (by decide), ⟨se8, kd8, kl8, tc8, sd8, hd8, kc8, Nu, G, sb8, H8, ab, fz8, kb8, w0, wR, (fw.at 2 (by decide)).trans o2, (fw.at 3 (by decide)).trans o3, (fw.at 7 (by decide)).trans o7, w8, w12, (fw.at 13 (by decide)).trans o13, w14, w15, w16, w01, wkb, hNu, hG, hab, wfz, hsh⟩, p1, p2, p3, p4, p5, p6, r5, r6, p9, r1, r2, p12, p13, fun h0 => r3 (p14 h0), by omega⟩
