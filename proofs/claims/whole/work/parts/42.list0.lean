/-! arrays of references, ArrayList: rows -/
def xGc : MethodName := ⟨"java/lang/Object", "getClass", "()Ljava/lang/Class;"⟩
set_option maxRecDepth 40000 in
theorem wl_gl : Cond.methodLink RJ7 86 xGc ∈ tb := tb_of (List.mem_of_getElem? (i := 334) rfl) rfl
set_option maxRecDepth 40000 in
theorem wl_gd : Cond.declares xGc ∈ tb := tb_of (List.mem_of_getElem? (i := 908) rfl) rfl
set_option maxRecDepth 40000 in
theorem wl_gs : Cond.selects "[Ljava/lang/Object;" xGc xGc ∈ tb := tb_of (List.mem_of_getElem? (i := 907) rfl) rfl
set_option maxRecDepth 40000 in
theorem wl_gi : Cond.instanceMethod xGc ∈ tb := tb_of (List.mem_of_getElem? (i := 335) rfl) rfl
set_option maxRecDepth 40000 in
theorem wl_gn : Cond.native xGc ∈ tb := tb_of (List.mem_of_getElem? (i := 348) rfl) rfl
set_option maxRecDepth 40000 in
theorem wl_cl : Cond.classLink RJ7 110 "[Ljava/lang/Object;" ∈ tb := tb_of (List.mem_of_getElem? (i := 352) rfl) rfl
set_option maxRecDepth 40000 in
theorem wl_a2 : Cond.classLink RJ7 2 "java/lang/Object" ∈ tb := tb_of (List.mem_of_getElem? (i := 354) rfl) rfl
set_option maxRecDepth 40000 in
theorem wl_a7 : Cond.classLink RJx4a65c 7 "java/lang/Object" ∈ tb := tb_of (List.mem_of_getElem? (i := 362) rfl) rfl
set_option maxRecDepth 40000 in
theorem wl_ao : Cond.arrayOver (.object "java/lang/Object") ∈ tb := tb_of (List.mem_of_getElem? (i := 353) rfl) rfl
set_option maxRecDepth 40000 in
theorem wl_cp : Cond.methodLink RJ7 150 arraycopyName ∈ tb := tb_of (List.mem_of_getElem? (i := 358) rfl) rfl
set_option maxRecDepth 40000 in
theorem wl_cn : Cond.native arraycopyName ∈ tb := tb_of (List.mem_of_getElem? (i := 360) rfl) rfl
set_option maxRecDepth 40000 in
theorem wl_cs : Cond.static arraycopyName ∈ tb := tb_of (List.mem_of_getElem? (i := 359) rfl) rfl
set_option maxRecDepth 40000 in
theorem wl_ci : Cond.initialized "java/lang/System" ∈ tb := tb_of (List.mem_of_getElem? (i := 59) rfl) rfl
set_option maxRecDepth 40000 in
theorem wl_ct : Cond.castable RX9 "java/lang/Object" ∈ tb := tb_of (List.mem_of_getElem? (i := 916) rfl) rfl
set_option maxRecDepth 40000 in
theorem wl_tt : Cond.castable RX9 RX9 ∈ tb := tb_of (List.mem_of_getElem? (i := 905) rfl) rfl
section HPL
variable {p : Program} {l : Launch} {e : Env} {R : Room} {s : State} {m : MethodId} {args : Array Value} {below : List Frame} {meth : Method} {c : Code} {H : Heap} {locs : List Loc} {cells slots : Nat} {Q : State → Prop}
variable {cc : ByteArray} {pc : Nat} {ls : Array Slot} {rest : List Value} {X : hp_X} {a nx index : Nat} {own : String} {μ : hp_M}
theorem hp_aaldN (hx : p.tables.exec = Jvm.exec) (hb : c.code = cc) (hS : KS X s) (hH : hp_w X cls μ nx H locs) {n i t : Nat} {f : Nat → Option Nat} (hμ : μ a = some (hp_q X n f)) (hi : i < n) (hn : n < 2 ^ 31) (ht : f i = some t) (hdg : decode cc pc = .ok (.aaload, 1))
    (kk : W p l e R s m args below meth c H locs cells slots Q (F0 m (pc + 1) ls (.ref t :: rest))) : W p l e R s m args below meth c H locs cells slots Q (F0 m pc ls (.int (nI i) :: .ref a :: rest)) := by
  refine hp_aald hx hb hS.aq hH hμ (vp_in_nI hi hn) hdg ?_
  rw [nI_clamp (Nat.lt_trans hi hn), ht]
  exact kk
theorem KS.ra {X : hp_X} {s : State} (hS : KS X s) : va_RA s (X.2.2.1 2) (.object "java/lang/Object") := (hS.2.1.2 2 _ rfl).2
theorem hp_newq (hx : p.tables.exec = Jvm.exec) (hb : c.code = cc) (hown : s.vm.findClass own = some m.cls) (hS : KS X s) (hk : Cond.classLink own index "java/lang/Object" ∈ tb) (hH : hp_w X cls μ nx H locs) {N : Nat} (hN : N < 2 ^ 20) (hcells : cells + 1 ≤ R.cells) (hslots : slots + N ≤ R.slots) (hdg : decode cc pc = .ok (.anewarray index, 3))
    (kk : ∀ (H1 : Heap) (μ1 : hp_M), μ1 nx = some (hp_q X N (fun _ => none)) → (∀ q, q ≠ nx → μ1 q = μ q) → hp_w X cls μ1 (nx + 1) H1 locs → W p l e R s m args below meth c H1 locs (cells + 1) (slots + N) Q (F0 m (pc + 3) ls (.ref nx :: rest))) : W p l e R s m args below meth c H locs cells slots Q (F0 m pc ls (.int (nI N) :: rest)) := by
  have hc : (nI N).toNatClampNeg = N := nI_clamp (by omega)
  refine W.anew hx hb hown (hS.1 _ hk _) (hS.1 _ wl_ao _) rfl hdg rfl (nI_pos (by omega)) (by rw [hc]; omega) hcells (by rw [hc]; exact hslots) fun cA kA comp f1 f2 f3 f4 => ?_
  obtain ⟨kA', comp', k1, k2, k3, k4⟩ := hS.ra
  have hcA : cA = X.2.2.1 2 := Option.some.inj (f1.symm.trans k4)
  subst hcA
  rw [hc]
  have hz := hH.1
  rw [hz]
  refine kk _ _ (hp_up_s _ _ _) (fun q h => hp_up_n h) (hH.push ?_ ?_ ?_)
  · show _ = some (vp_cell _ _)
    rw [vp_cell_q, ← hz, Array.getElem?_push_size, arrV_new]
    rfl
  · rw [Array.size_push, hz]
  · intro q hq
    rw [Array.getElem?_push, if_neg (by omega)]
theorem hp_any {v ci : Nat} {fs : List Value} {q : vw_C} (hS : KS X s) (hH : hp_w X cls μ nx H locs) (hc : cls[ci]? = some q) (hμ : μ v = some (.inr (ci, fs))) (hk : Cond.castable q.1 "java/lang/Object" ∈ tb) : va_Any "java/lang/Object" s H v := by
  obtain ⟨cell, h1, h2, h3⟩ := hp_recv hS.2.1 hH hc hμ
  obtain ⟨kC, hkC, -⟩ := Vm.findClass_spec h3
  refine ⟨cell, h1, h2, ⟨kC, hkC⟩, fun comp h => ?_⟩
  obtain ⟨c0, t1, f1, f2, f3⟩ := Cond.castable_spec (hS.1 _ hk #[])
  cases h3.symm.trans f1
  cases h.symm.trans f2
  exact f3
theorem hp_aast (hx : p.tables.exec = Jvm.exec) (hb : c.code = cc) (hS : KS X s) (hH : hp_w X cls μ nx H locs) {n i v : Nat} {f : Nat → Option Nat} (hμ : μ a = some (hp_q X n f)) (hr : va_Any "java/lang/Object" s H v) (hi : i < n) (hn : n < 2 ^ 31) (hdg : decode cc pc = .ok (.aastore, 1))
    (kk : ∀ (H1 : Heap) (locs1 : List Loc) (μ1 : hp_M), μ1 a = some (hp_q X n (va_up f i (some v))) → (∀ q, q ≠ a → μ1 q = μ q) → hp_w X cls μ1 nx H1 locs1 → W p l e R s m args below meth c H1 locs1 cells slots Q (F0 m (pc + 1) ls rest)) : W p l e R s m args below meth c H locs cells slots Q (F0 m pc ls (.ref v :: .int (nI i) :: .ref a :: rest)) := by
  have hc : (nI i).toNatClampNeg = i := nI_clamp (by omega)
  obtain ⟨cellV, g1, g3, ⟨kC, hkC⟩, hasg⟩ := hr
  obtain ⟨kA, comp, k1, k2, k3, -⟩ := hS.ra
  obtain ⟨kE, hkE, -⟩ := Vm.findClass_spec k3
  refine W.aast hx hb (hH.2.2.2.1 a _ hμ).2 (fun q h => by cases h) (fun h => by cases h) k1 k2 rfl hkE ⟨nI_pos (by omega), by show _ < (arrV _ _ _).slots.size; rw [arrV_size, hc]; exact hi⟩ g1 (fun q h => by rw [h] at g3; cases g3) hkC (hasg _ k3) rfl rfl hdg fun H1 e z oq => ?_
  refine kk H1 _ _ (hp_up_s _ _ _) (fun q h => hp_up_n h) (hH.set hμ ?_ z oq)
  show H1[a]? = some (vp_cell _ _)
  rw [e]
  rw [vp_cell_q, vp_cell_q, arrV_store, hc]
  congr 2
  funext q
  by_cases hq : q = i
  · subst hq
    simp [updV, va_up, va_rf]
  · simp [updV, va_up, hq]
theorem hp_copyq (hx : p.tables.exec = Jvm.exec) (hb : c.code = cc) (hml : c.maxLocals = ls.size) (hown : s.vm.findClass RJ7 = some m.cls) (hS : KS X s) (hH : hp_w X cls μ nx H locs) {a0 n0 n1 n : Nat} {f g : Nat → Option Nat} (h0 : μ a0 = some (hp_q X n0 f)) (h1 : μ a = some (hp_q X n1 g)) (hn0 : n ≤ n0) (hn1 : n ≤ n1) (hn : n < 2 ^ 31)
    (hel : ∀ i : Nat, i < n → ∀ y : Nat, f i = some y → va_Any "java/lang/Object" s H y) (hframes : 1 ≤ R.frames) (hlocals : (rest.map fun v => v.category).sum + (nativeFrameWords "java/lang/System" "arraycopy" 5 + 11) ≤ R.locals) (hdg : decode cc pc = .ok (.invokestatic 150, 3))
    (kk : ∀ (H1 : Heap) (locs1 : List Loc) (μ1 : hp_M), μ1 a = some (hp_q X n1 (va_cpy f g 0 0 n)) → (∀ q, q ≠ a → μ1 q = μ q) → hp_w X cls μ1 nx H1 locs1 → W p l e R s m args below meth c H1 locs1 cells slots Q (F0 m (pc + 3) ls rest)) : W p l e R s m args below meth c H locs cells slots Q (F0 m pc ls (.int (nI n) :: .int (nI 0) :: .ref a :: .int (nI 0) :: .ref a0 :: rest)) := by
  have hz0 : (nI 0).toNatClampNeg = 0 := nI_clamp (by decide)
  have hzn : (nI n).toNatClampNeg = n := nI_clamp hn
  intro T hT X0
  have hc0 : H[a0]? = some (vp_cell (X.2.2.1 2) (n0, .inr (.inr (.inr (.inr f))))) := (hH.2.2.2.1 a0 _ h0).2
  have hc1 : H[a]? = some (vp_cell (X.2.2.1 2) (n1, .inr (.inr (.inr (.inr g))))) := (hH.2.2.2.1 a _ h1).2
  obtain ⟨-, k0, hk0, cm0, hkk0⟩ := hS.aq n0 (fun j => va_rf (f j))
  obtain ⟨-, k1, hk1, cm1, hkk1⟩ := hS.aq n1 (fun j => va_rf (g j))
  obtain ⟨vm', X', step⟩ := X0.arraycopy hx hown (hS.1 _ wl_cp _) (hS.1 _ wl_cn _) (hS.1 _ wl_cs _) (hS.1 _ wl_ci _) (src := a0) (dst := a) (cs := vp_cell (X.2.2.1 2) (n0, .inr (.inr (.inr (.inr f))))) (cd := vp_cell (X.2.2.1 2) (n1, .inr (.inr (.inr (.inr g))))) (srcPos := nI 0) (destPos := nI 0) (n := nI n) (by rw [hT]; exact hc0) (by rw [hT]; exact hc1)
    (fun _ h => by cases h) (fun _ h => by cases h) (fun h => by cases h) (fun h => by cases h) hk0 hk1 hkk0 hkk1 rfl (nI_pos (by decide)) (nI_pos (by decide)) (nI_pos hn)
    (by rw [nI_toInt (by decide), nI_toInt hn]; show ¬ _ > ((arrV (X.2.2.1 2) n0 (fun j => va_rf (f j))).slots.size : Int); rw [arrV_size]; omega)
    (by rw [nI_toInt (by decide), nI_toInt hn]; show ¬ _ > ((arrV (X.2.2.1 2) n1 (fun j => va_rf (g j))).slots.size : Int); rw [arrV_size]; omega)
    (fun vm₁ hal i hi => by
      rw [hzn] at hi
      have e : (vp_cell (X.2.2.1 2) (n0, .inr (.inr (.inr (.inr f))))).slots.getD ((nI 0).toNatClampNeg + i) .null = va_rf (f i) := by
        show (arrV (X.2.2.1 2) n0 (fun j => va_rf (f j))).slots.getD _ _ = _
        rw [hz0, Nat.zero_add, Array.getD_eq_getD_getElem?, arrV_read _ _ (by omega)]
        rfl
      rw [e]
      cases hy : f i with
      | none => exact ⟨rfl, trivial⟩
      | some y =>
        obtain ⟨cellV, g1, g2, ⟨kC, hkC⟩, hasg⟩ := hel i hi y hy
        obtain ⟨kA, comp, r1, r2, r3, -⟩ := hS.ra
        cases hk1.symm.trans r1
        cases hkk1.symm.trans r2
        obtain ⟨kE, hkE, -⟩ := Vm.findClass_spec r3
        obtain ⟨kC', hkC', -⟩ := hal.2.2 _ _ hkC
        obtain ⟨kE', hkE', -⟩ := hal.2.2 _ _ hkE
        refine ⟨rfl, cellV, (show T.heap[y]? = some cellV by rw [hT]; exact g1), (fun q h => by rw [h] at g2; cases g2), ⟨kC', hkC'⟩, ?_, ?_⟩
        · exact ⟨kE', hkE'⟩
        · show vm₁.assignable _ _ = true
          rw [hal.assignable]
          exact hasg _ r3)
    (g := F0 m pc ls (.int (nI n) :: .int (nI 0) :: .ref a :: .int (nI 0) :: .ref a0 :: rest)) rfl (by rw [hml]) (rest := rest) rfl (by rw [hb]; exact hdg) hframes (by show 2 * 0 + _ + _ ≤ _; omega)
  have e1 : copied (vp_cell (X.2.2.1 2) (n0, .inr (.inr (.inr (.inr f))))) (vp_cell (X.2.2.1 2) (n1, .inr (.inr (.inr (.inr g))))) (nI 0) (nI 0) (nI n) = vp_cell (X.2.2.1 2) (n1, .inr (.inr (.inr (.inr (va_cpy f g 0 0 n))))) := by
    rw [vp_cell_q, vp_cell_q, vp_cell_q]
    have e2 := va_copied (n1 := n1) (sp := 0) (dp := 0) (n := n) (fun z => va_rf z) (X.2.2.1 2) (X.2.2.1 2) f g (show 0 + n ≤ n0 by omega)
    show Cell.storeRun _ (nI 0).toNatClampNeg (Cell.stretch _ (nI 0).toNatClampNeg (nI n).toNatClampNeg) = _
    rw [hz0, hzn]
    exact e2
  rw [e1] at X' step
  have hl : a < H.size := (Array.getElem?_eq_some_iff.mp hc1).1
  have hheap : ((T.setVm vm').setCell a (vp_cell (X.2.2.1 2) (n1, .inr (.inr (.inr (.inr (va_cpy f g 0 0 n))))))).heap = H.setIfInBounds a (vp_cell (X.2.2.1 2) (n1, .inr (.inr (.inr (.inr (va_cpy f g 0 0 n)))))) := by rw [← hT]; rfl
  have oq : ∀ q : Nat, q ≠ a → (H.setIfInBounds a (vp_cell (X.2.2.1 2) (n1, .inr (.inr (.inr (.inr (va_cpy f g 0 0 n)))))))[q]? = H[q]? := fun q hq => by simp [Array.getElem?_setIfInBounds, Ne.symm hq]
  have hw : hp_w X cls (hp_up μ a (hp_q X n1 (va_cpy f g 0 0 n))) nx (H.setIfInBounds a (vp_cell (X.2.2.1 2) (n1, .inr (.inr (.inr (.inr (va_cpy f g 0 0 n))))))) [] := by
    have h9 := hH.set (k := 0) h1 (e := hp_q X n1 (va_cpy f g 0 0 n)) (H1 := H.setIfInBounds a (vp_cell (X.2.2.1 2) (n1, .inr (.inr (.inr (.inr (va_cpy f g 0 0 n))))))) (show (H.setIfInBounds a _)[a]? = some _ by simp [Array.getElem?_setIfInBounds, hl]) (by simp) oq
    exact h9.drop
  have hA := (hH.2.2.2.1 a _ h1).1
  obtain ⟨t, a1, b1⟩ := kk _ _ _ (hp_up_s _ _ _) (fun q h => hp_up_n h) ⟨hw.1, hw.2.1, hw.2.2.1, hw.2.2.2.1, fun q hq => by
      rcases List.mem_append.mp hq with h | h
      · exact hH.2.2.2.2 q h
      · obtain ⟨z, -, hz⟩ := List.mem_map.mp h
        rw [← hz]
        exact hA⟩ _ hheap X'
  exact ⟨t, step t a1, b1⟩
theorem hp_getC (hx : p.tables.exec = Jvm.exec) (hb : c.code = cc) (hml : c.maxLocals = ls.size) (hown : s.vm.findClass RJ7 = some m.cls) (hS : KS X s) (hH : hp_w X cls μ nx H locs) {n : Nat} {f : Nat → Option Nat} (hμ : μ a = some (hp_q X n f)) (hframes : 1 ≤ R.frames) (hlocals : (rest.map fun v => v.category).sum + 14 ≤ R.locals) (hdg : decode cc pc = .ok (.invokevirtual 86, 3))
    (kk : W p l e R s m args below meth c H locs cells slots Q (F0 m (pc + 3) ls (.ref (X.2.2.2 17) :: rest))) : W p l e R s m args below meth c H locs cells slots Q (F0 m pc ls (.ref a :: rest)) := by
  obtain ⟨-, -, -, -, -, k4⟩ := hS.ra
  exact va_getC hx hb hml hown (hS.1 _ wl_gl _) (hS.1 _ wl_gd _) (hS.1 _ wl_gs _) (hS.1 _ wl_gi _) (hS.1 _ wl_gn _) hS.2.2.2.2.2.2.2.2 ⟨_, (hH.2.2.2.1 a _ hμ).2, rfl, k4⟩ hframes hlocals hdg kk
theorem hp_ldcM (hx : p.tables.exec = Jvm.exec) (hb : c.code = cc) (hown : s.vm.findClass RJ7 = some m.cls) (hS : KS X s) (hdg : decode cc pc = .ok (.ldc 110, 2))
    (kk : W p l e R s m args below meth c H locs cells slots Q (F0 m (pc + 2) ls (.ref (X.2.2.2 17) :: rest))) : W p l e R s m args below meth c H locs cells slots Q (F0 m pc ls rest) :=
  va_ldcM hx hb hown (hS.1 _ wl_cl _) hS.2.2.2.2.2.2.2.2 hdg kk
theorem hp_tlen (hx : p.tables.exec = Jvm.exec) (hb : c.code = cc) {N t : Nat} {f : Nat → Value} {ty : FieldType} (hT : va_T ty t N f (hp_A X) s X.2.1) (hH : hp_w X cls μ nx H locs) (hdg : decode cc pc = .ok (.arraylength, 1))
    (kk : W p l e R s m args below meth c H locs cells slots Q (F0 m (pc + 1) ls (.int (nI N) :: rest))) : W p l e R s m args below meth c H locs cells slots Q (F0 m pc ls (.ref t :: rest)) := by
  obtain ⟨cell, h1, h2, h3, h4, h5, h6, h7⟩ := hT
  exact W.alen (n := nI N) hx hb (by rw [hH.2.2.1 t (Nat.not_le.mp h7)]; exact h1) h2 h5 rfl rfl hdg kk
theorem hp_kvp {NX mc ms : Nat} {st0 : List Value} {av : Array Value} (hr : va_Run p l e R s m args below meth c H locs cells slots mc ms (F0 m pc ls st0) rest (hq_v X (po_v NX (fun z => z = μ)) av) (hp_A X)) (hH : hp_w X cls μ nx H locs)
    (kk : ∀ (H1 : Heap) (locs1 : List Loc), hp_w X cls μ NX H1 locs1 → W p l e R s m args below meth c H1 locs1 (cells + mc) (slots + ms) Q (F0 m (pc + 3) ls rest)) : W p l e R s m args below meth c H locs cells slots Q (F0 m pc ls st0) :=
  hp_kvm hr hH (fun μ1 H1 locs1 h hw => by cases h; exact kk H1 locs1 hw)
end HPL
