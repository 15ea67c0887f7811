/-! the calls, one by one, on both sides -/
theorem CW.type {X : hp_X} {μ : hp_M} {x n : Nat} {on : Bool} {sent : Nat} {ta lv : Nat → Nat} {aw : Nat → Bool} {st le : Nat → Nat} {sh : Nat → Nat → Nat} {tz : Nat} {tr : Nat → Nat} {lo lz ll cnt : Nat} {nb sz : Nat → Nat} {z : hp_M} {tz2 : Nat} {tr2 : Nat → Nat} (h : CW X μ x n on sent ta lv aw st le sh tz tr lo lz ll cnt nb sz) (hz1 : z (x + 1) = some (hp_o 4 [.ref (x + 2), .int (nI tz2)])) (hz2 : z (x + 2) = some (hp_n X 160 tr2)) (fe : hp_eq [x + 1, x + 2] z μ) : CW X z x n on sent ta lv aw st le sh tz2 tr2 lo lz ll cnt nb sz := by
  obtain ⟨mc, q, f, sa, kn, kc, size, aon, aze, alen, rb, hA, f0, f1, f2, f3, f7, f8, f9, h01, f10, f11, f12⟩ := h
  have t : ∀ (k : Nat) {e : va_E}, k ≠ 1 → k ≠ 2 → μ (x + k) = some e → z (x + k) = some e := fun k e h1 h2 h3 => (hp_e2 fe (by omega) (by omega)).trans h3
  exact ⟨mc, q, f, sa, kn, kc, size, aon, aze, alen, rb, hA.keep (fun c e hc he => hp_e2 fe (aw_ne hc he f1 (by simp [awE])) (aw_ne hc he f2 (by simp [awE]))), t 0 (by decide) (by decide) f0, hz1, hz2, t 3 (by decide) (by decide) f3, t 7 (by decide) (by decide) f7, t 8 (by decide) (by decide) f8, t 9 (by decide) (by decide) f9, h01, t 10 (by decide) (by decide) f10, t 11 (by decide) (by decide) f11, t 12 (by decide) (by decide) f12⟩
theorem Pr.type {l : Launch} {k : Nat} {y1 : MethodName} {c1 : ByteArray} {L1 : Nat} {y2 : MethodName} {c2 : ByteArray} {L2 : Nat} {As : List Value} {nx : Nat} {X : hp_X} {μ : hp_M} {x n : Nat} {on : Bool} {sent : Nat} {ta lv : Nat → Nat} {aw : Nat → Bool} {st le : Nat → Nat} {sh : Nat → Nat → Nat} {tz : Nat} {tr : Nat → Nat} {lo lz ll cnt : Nat} {nb sz : Nat → Nat} (hC : CW X μ x n on sent ta lv aw st le sh tz tr lo lz ll cnt nb sz) (hF : FW X μ (x + 13) n on sent lv aw st le sh tz tr lo lz ll cnt nb sz) (hP : JP n on sent ta lv st le sh tz tr lo lz ll cnt sz k) {tz2 fr lo1 fr2 lo2 : Nat} {tr2 : Nat → Nat} (h160 : tz2 ≤ 160) (h01 : ∀ j, tr2 j < 2) (h1 : Ct l X y1 c1 L1 (some FieldType.int) fr lo1 0 0 (.ref x :: As) μ nx (hq_i X (po_i nx (nI tz2) (fun z => z (x + 1) = some (hp_o 4 [.ref (x + 2), .int (nI tz2)]) ∧ z (x + 2) = some (hp_n X 160 tr2) ∧ hp_eq [x + 1, x + 2] z μ)))) (h2 : ∀ (z : hp_M) (se kd kl tc sd hd kc : Nat), z (x + 13) = some (MO (x + 13) n on tz se kd kl tc sd hd ll sent cnt kc) → z (x + 13 + 7) = some (hp_n X 160 tr) → Ct l X y2 c2 L2 (some FieldType.int) fr2 lo2 0 0 (.ref (x + 13) :: As) z nx (hq_i X (po_i nx (nI tz2) (fun w => w (x + 13) = some (MO (x + 13) n on tz2 se kd kl tc sd hd ll sent cnt kc) ∧ w (x + 13 + 7) = some (hp_n X 160 tr2) ∧ hp_eqM [0, 7] (x + 13) w z)))) (hfr : fr ≤ 8 := by decide) (hlo : lo1 ≤ 320 := by decide) (hfr2 : fr2 ≤ 8 := by decide) (hlo2 : lo2 ≤ 320 := by decide) : Pr l X x k y1 c1 L1 y2 c2 L2 As μ nx := by
  refine ⟨fr, lo1, 0, 0, nx, _, _, hfr, hlo, by decide, by decide, h1, fun z hz => ?_⟩
  obtain ⟨z1, z2, fe⟩ := hz
  have hCz := hC.type z1 z2 fe
  have hFz := hF.keep (z := z) (fun k hk => hp_e2 fe (by omega) (by omega))
  have hFC := hFz.cells
  refine ⟨hFz.o, ?_⟩
  obtain ⟨se, kd, kl, tc, sd, hd, kc2, Nu, G, sb, hb, ab, fz, kb, o0, hR, o2, o3, o7, o8, o12, o13, o14, o15, o16, hp⟩ := id hFz
  refine ⟨fr2, lo2, hfr2, hlo2, Met.mono (h2 z se kd kl tc sd hd kc2 o0 o7) (hq_i.mono (fun r w n9 h => ⟨h.1, h.2.1, ?_⟩))⟩
  obtain ⟨w1, w2, fw⟩ := h.2.2
  obtain ⟨p1, p2, p3, p4, p5, p6, p7, p8, p9, p10, p11, p12, p13, p14, p15⟩ := hP
  exact ⟨n, on, sent, ta, lv, aw, st, le, sh, tz2, tr2, lo, lz, ll, cnt, nb, sz, hCz.keep hFC fw (by decide), ⟨se, kd, kl, tc, sd, hd, kc2, Nu, G, sb, hb, ab, fz, kb, w1, hR.keep fw (by decide), (fw.at 2 (by decide)).trans o2, (fw.at 3 (by decide)).trans o3, w2, (fw.at 8 (by decide)).trans o8, (fw.at 12 (by decide)).trans o12, (fw.at 13 (by decide)).trans o13, (fw.at 14 (by decide)).trans o14, (fw.at 15 (by decide)).trans o15, (fw.at 16 (by decide)).trans o16, hp⟩, p1, h160, h01, p4, p5, p6, p7, p8, p9, p10, p11, p12, p13, p14, by omega⟩
theorem Pr_frames (l : Launch) (X : hp_X) {x k : Nat} {μ : hp_M} {nx : Nat} (hJ : JW X μ x k) : Pr l X x k yX10_frames cX10_frames 1 yX11_frames cX11_frames 1 [] μ nx := by
  obtain ⟨n, on, sent, ta, lv, aw, st, le, sh, tz, tr, lo, lz, ll, cnt, nb, sz, hC, hF, hP⟩ := id hJ
  obtain ⟨mc, q, f, sa, kn, kc, size, aon, aze, alen, rb, hA, f0, f1, f2, f3, f7, f8, f9, h01, f10, f11, f12⟩ := id hC
  obtain ⟨se, kd, kl, tc, sd, hd, kc2, Nu, G, sb, hb, ab, fz, kb, o0, hR, o2, o3, o7, o8, o12, o13, o14, o15, o16, hsb, hkb, hNu, hG, hab, hfz, hsh⟩ := id hF
  obtain ⟨Z, S, L, sh2, D, J, Bf, o1, o4, o5, o6, o9, o10, o11, hZ, hS, hL, hs2, hJ2⟩ := id hR
  obtain ⟨p1, p2, p3, p4, p5, p6, p7, p8, p9, p10, p11, p12, p13, p14, p15⟩ := id hP
  have p11' : ∀ j, j < n → 1 ≤ le j ∧ le j ≤ 3 := fun j hj => ⟨(p11 j hj).1, Nat.le_trans (p11 j hj).2 (p9 j hj).2⟩
  exact Pr.same hJ (c_X10_frames l X hA f0) (c_X11_frames l X o0)
theorem Pr_bits (l : Launch) (X : hp_X) {x k : Nat} {μ : hp_M} {nx : Nat} (hJ : JW X μ x k) (v w : Int32) : Pr l X x k yX10_bits cX10_bits 3 yX11_bits cX11_bits 4 [.int v, .int w] μ nx := by
  obtain ⟨n, on, sent, ta, lv, aw, st, le, sh, tz, tr, lo, lz, ll, cnt, nb, sz, hC, hF, hP⟩ := id hJ
  obtain ⟨mc, q, f, sa, kn, kc, size, aon, aze, alen, rb, hA, f0, f1, f2, f3, f7, f8, f9, h01, f10, f11, f12⟩ := id hC
  obtain ⟨se, kd, kl, tc, sd, hd, kc2, Nu, G, sb, hb, ab, fz, kb, o0, hR, o2, o3, o7, o8, o12, o13, o14, o15, o16, hsb, hkb, hNu, hG, hab, hfz, hsh⟩ := id hF
  obtain ⟨Z, S, L, sh2, D, J, Bf, o1, o4, o5, o6, o9, o10, o11, hZ, hS, hL, hs2, hJ2⟩ := id hR
  obtain ⟨p1, p2, p3, p4, p5, p6, p7, p8, p9, p10, p11, p12, p13, p14, p15⟩ := id hP
  have p11' : ∀ j, j < n → 1 ≤ le j ∧ le j ≤ 3 := fun j hj => ⟨(p11 j hj).1, Nat.le_trans (p11 j hj).2 (p9 j hj).2⟩
  rcases tg_ix w (n := 32) (by decide) with h | ⟨j, hj, rfl⟩
  · exact Pr.same hJ (c_X10_bits_out l X h f0 f1 f2) (c_X11_bits_out l X h)
  · by_cases hr : tz + (j + 1) ≤ 160
    · exact Pr.type hC hF hP hr (apB_01 p3 _ _ _) (c_X10_bits_room l X (by omega) (by omega) p2 hr f0 f1 f2) (fun z se kd kl tc sd hd kc g0 g7 => c_X11_bits_room l X (by omega) (by omega) p2 hr g0 g7)
    · exact Pr.same hJ (c_X10_bits_full l X (by omega) (by omega) p2 (by omega) f0 f1 f2) (c_X11_bits_full l X (by omega) (by omega) p2 (by omega) o0 o7)
theorem Pr_octet (l : Launch) (X : hp_X) {x k : Nat} {μ : hp_M} {nx : Nat} (hJ : JW X μ x k) (v : Int32) : Pr l X x k yX10_octet cX10_octet 2 yX11_octet cX11_octet 2 [.int v] μ nx := by
  obtain ⟨n, on, sent, ta, lv, aw, st, le, sh, tz, tr, lo, lz, ll, cnt, nb, sz, hC, hF, hP⟩ := id hJ
  obtain ⟨mc, q, f, sa, kn, kc, size, aon, aze, alen, rb, hA, f0, f1, f2, f3, f7, f8, f9, h01, f10, f11, f12⟩ := id hC
  obtain ⟨se, kd, kl, tc, sd, hd, kc2, Nu, G, sb, hb, ab, fz, kb, o0, hR, o2, o3, o7, o8, o12, o13, o14, o15, o16, hsb, hkb, hNu, hG, hab, hfz, hsh⟩ := id hF
  obtain ⟨Z, S, L, sh2, D, J, Bf, o1, o4, o5, o6, o9, o10, o11, hZ, hS, hL, hs2, hJ2⟩ := id hR
  obtain ⟨p1, p2, p3, p4, p5, p6, p7, p8, p9, p10, p11, p12, p13, p14, p15⟩ := id hP
  have p11' : ∀ j, j < n → 1 ≤ le j ∧ le j ≤ 3 := fun j hj => ⟨(p11 j hj).1, Nat.le_trans (p11 j hj).2 (p9 j hj).2⟩
  by_cases hr : tz + 9 ≤ 160
  · exact Pr.type hC hF hP hr (apO_01 p3 _ _) (c_X10_octet_room l X p2 hr f0 f1 f2) (fun z se kd kl tc sd hd kc g0 g7 => c_X11_octet_room l X p2 hr g0 g7)
  · exact Pr.same hJ (c_X10_octet_full l X p2 (by omega) f0 f1 f2) (c_X11_octet_full l X p2 (by omega) o0 o7)
theorem Pr_check (l : Launch) (X : hp_X) {x k : Nat} {μ : hp_M} {nx : Nat} (hJ : JW X μ x k) : Pr l X x k yX10_check cX10_check 2 yX11_check cX11_check 4 [] μ nx := by
  obtain ⟨n, on, sent, ta, lv, aw, st, le, sh, tz, tr, lo, lz, ll, cnt, nb, sz, hC, hF, hP⟩ := id hJ
  obtain ⟨mc, q, f, sa, kn, kc, size, aon, aze, alen, rb, hA, f0, f1, f2, f3, f7, f8, f9, h01, f10, f11, f12⟩ := id hC
  obtain ⟨se, kd, kl, tc, sd, hd, kc2, Nu, G, sb, hb, ab, fz, kb, o0, hR, o2, o3, o7, o8, o12, o13, o14, o15, o16, hsb, hkb, hNu, hG, hab, hfz, hsh⟩ := id hF
  obtain ⟨Z, S, L, sh2, D, J, Bf, o1, o4, o5, o6, o9, o10, o11, hZ, hS, hL, hs2, hJ2⟩ := id hR
  obtain ⟨p1, p2, p3, p4, p5, p6, p7, p8, p9, p10, p11, p12, p13, p14, p15⟩ := id hP
  have p11' : ∀ j, j < n → 1 ≤ le j ∧ le j ≤ 3 := fun j hj => ⟨(p11 j hj).1, Nat.le_trans (p11 j hj).2 (p9 j hj).2⟩
  cases hc : ckN tr tz with
  | false => exact Pr.same hJ (c_X10_check_bad l X p3 p2 hc f0 f1 f2) (c_X11_check_bad l X p3 p2 hc o0 o7)
  | true =>
    by_cases hr : tz + 18 ≤ 160
    · exact Pr.type hC hF hP (tz2 := tz + 9 + 9) (by omega) (laX_01 p3 _) (c_X10_check_ok l X p3 p2 hc hr f0 f1 f2) (fun z se kd kl tc sd hd kc g0 g7 => c_X11_check_ok l X p3 p2 hc hr g0 g7)
    · exact Pr.same hJ (c_X10_check_full l X p3 p2 hc (by omega) f0 f1 f2) (c_X11_check_full l X p3 p2 hc (by omega) o0 o7)
theorem Pr_answer (l : Launch) (X : hp_X) {x k : Nat} {μ : hp_M} {nx : Nat} (hJ : JW X μ x k) (v : Int32) : Pr l X x k yX10_answer cX10_answer 2 yX11_answer cX11_answer 2 [.int v] μ nx := by
  obtain ⟨n, on, sent, ta, lv, aw, st, le, sh, tz, tr, lo, lz, ll, cnt, nb, sz, hC, hF, hP⟩ := id hJ
  obtain ⟨mc, q, f, sa, kn, kc, size, aon, aze, alen, rb, hA, f0, f1, f2, f3, f7, f8, f9, h01, f10, f11, f12⟩ := id hC
  obtain ⟨se, kd, kl, tc, sd, hd, kc2, Nu, G, sb, hb, ab, fz, kb, o0, hR, o2, o3, o7, o8, o12, o13, o14, o15, o16, hsb, hkb, hNu, hG, hab, hfz, hsh⟩ := id hF
  obtain ⟨Z, S, L, sh2, D, J, Bf, o1, o4, o5, o6, o9, o10, o11, hZ, hS, hL, hs2, hJ2⟩ := id hR
  obtain ⟨p1, p2, p3, p4, p5, p6, p7, p8, p9, p10, p11, p12, p13, p14, p15⟩ := id hP
  have p11' : ∀ j, j < n → 1 ≤ le j ∧ le j ≤ 3 := fun j hj => ⟨(p11 j hj).1, Nat.le_trans (p11 j hj).2 (p9 j hj).2⟩
  rcases pk_ix v (n := ll) (by omega) with h | h | ⟨j, hj, rfl⟩
  · exact Pr.same hJ (c_X10_answer_out l X (Or.inl h) f0 f3) (c_X11_answer_out l X (Or.inl h) o0)
  · exact Pr.same hJ (c_X10_answer_out l X (Or.inr h) f0 f3) (c_X11_answer_out l X (Or.inr h) o0)
  · have h2 := c_X11_answer l X (nx := nx) hj (by omega) o0 o13
    rw [hab j hj] at h2
    exact Pr.same hJ (c_X10_answer l X hj p4 p5 p6 f0 f3) h2
theorem Pr_state (l : Launch) (X : hp_X) {x k : Nat} {μ : hp_M} {nx : Nat} (hJ : JW X μ x k) (v : Int32) : Pr l X x k yX10_state cX10_state 2 yX11_state cX11_state 2 [.int v] μ nx := by
  obtain ⟨n, on, sent, ta, lv, aw, st, le, sh, tz, tr, lo, lz, ll, cnt, nb, sz, hC, hF, hP⟩ := id hJ
  obtain ⟨mc, q, f, sa, kn, kc, size, aon, aze, alen, rb, hA, f0, f1, f2, f3, f7, f8, f9, h01, f10, f11, f12⟩ := id hC
  obtain ⟨se, kd, kl, tc, sd, hd, kc2, Nu, G, sb, hb, ab, fz, kb, o0, hR, o2, o3, o7, o8, o12, o13, o14, o15, o16, hsb, hkb, hNu, hG, hab, hfz, hsh⟩ := id hF
  obtain ⟨Z, S, L, sh2, D, J, Bf, o1, o4, o5, o6, o9, o10, o11, hZ, hS, hL, hs2, hJ2⟩ := id hR
  obtain ⟨p1, p2, p3, p4, p5, p6, p7, p8, p9, p10, p11, p12, p13, p14, p15⟩ := id hP
  have p11' : ∀ j, j < n → 1 ≤ le j ∧ le j ≤ 3 := fun j hj => ⟨(p11 j hj).1, Nat.le_trans (p11 j hj).2 (p9 j hj).2⟩
  rcases tg_ix v (n := n) (by omega) with h | ⟨i, hi, rfl⟩
  · exact Pr.same hJ (c_X10_state_un l X h hA f0) (c_X11_state_un l X h o0)
  · have h2 := c_X11_state l X (nx := nx) hi p1 (by rw [hS i hi]; exact p10 i hi) (by rw [hL i hi]; exact (p11' i hi).1) (by rw [hL i hi]; exact (p11' i hi).2) o0 o4 o5
    rw [hS i hi, hL i hi] at h2
    exact Pr.same hJ (c_X10_state l X hi p1 p9 p10 p11' p12 hA f0) h2
theorem Pr_found (l : Launch) (X : hp_X) {x k : Nat} {μ : hp_M} {nx : Nat} (hJ : JW X μ x k) (v w : Int32) : Pr l X x k yX10_found cX10_found 3 yX11_found cX11_found 3 [.int v, .int w] μ nx := by
  obtain ⟨n, on, sent, ta, lv, aw, st, le, sh, tz, tr, lo, lz, ll, cnt, nb, sz, hC, hF, hP⟩ := id hJ
  obtain ⟨mc, q, f, sa, kn, kc, size, aon, aze, alen, rb, hA, f0, f1, f2, f3, f7, f8, f9, h01, f10, f11, f12⟩ := id hC
  obtain ⟨se, kd, kl, tc, sd, hd, kc2, Nu, G, sb, hb, ab, fz, kb, o0, hR, o2, o3, o7, o8, o12, o13, o14, o15, o16, hsb, hkb, hNu, hG, hab, hfz, hsh⟩ := id hF
  obtain ⟨Z, S, L, sh2, D, J, Bf, o1, o4, o5, o6, o9, o10, o11, hZ, hS, hL, hs2, hJ2⟩ := id hR
  obtain ⟨p1, p2, p3, p4, p5, p6, p7, p8, p9, p10, p11, p12, p13, p14, p15⟩ := id hP
  have p11' : ∀ j, j < n → 1 ≤ le j ∧ le j ≤ 3 := fun j hj => ⟨(p11 j hj).1, Nat.le_trans (p11 j hj).2 (p9 j hj).2⟩
  by_cases hv : v < 0
  · exact Pr.same hJ (c_X10_found_i l X hv f0 f7 f11 f12) (c_X11_found_i l X hv o0 o14 o15)
  · obtain ⟨i, hi, rfl⟩ := nI_of hv
    by_cases hw : w < 0
    · exact Pr.same hJ (c_X10_found_k l X hw hi p7 f0 f7 f11 f12) (c_X11_found_k l X hw hi p7 o0 o14 o15)
    · obtain ⟨j, hj, rfl⟩ := nI_of hw
      have h2 := c_X11_found l X (nx := nx) hi hj p7 (fun j hj => by rw [hfz j hj]; exact p8 j hj) o0 o14 o15
      have e9 : (if i < cnt ∧ j < fz i then nI (nb (10 * i + j)) else -1) = (if i < cnt ∧ j < sz i then nI (nb (10 * i + j)) else -1) := by
        by_cases h : i < cnt
        · rw [hfz i h]
        · rw [if_neg (fun q => h q.1), if_neg (fun q => h q.1)]
      rw [e9] at h2
      exact Pr.same hJ (c_X10_found l X hi hj p7 p8 f0 f7 f11 f12) h2
