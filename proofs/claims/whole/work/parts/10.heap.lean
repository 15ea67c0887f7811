/-! my own heap words: a world is a partial map of addresses to cells; the heap that the law began with lies below it and stays -/
abbrev hp_M : Type := Nat → Option va_E
def hp_up (μ : hp_M) (a : Nat) (e : va_E) : hp_M := fun q => if q = a then some e else μ q
theorem hp_up_s (μ : hp_M) (a : Nat) (e : va_E) : hp_up μ a e a = some e := if_pos rfl
theorem hp_up_n {μ : hp_M} {a q : Nat} {e : va_E} (h : q ≠ a) : hp_up μ a e q = μ q := if_neg h
theorem hp_up_e {μ : hp_M} {a q : Nat} {e : va_E} (h : q = a) : hp_up μ a e q = some e := if_pos h
/-- classes and slots; the first heap; the classes of arrays; the addresses of constants -/
abbrev hp_X : Type := va_G × Heap × (Nat → ClassId) × (Nat → Nat)
def hp_w (X : hp_X) (cl : List vw_C) (μ : hp_M) (nx : Nat) (H : Heap) (locs : List Loc) : Prop :=
  H.size = nx ∧ X.2.1.size ≤ nx ∧ (∀ q : Nat, q < X.2.1.size → H[q]? = X.2.1[q]?) ∧ (∀ (a : Nat) (e : va_E), μ a = some e → X.2.1.size ≤ a ∧ va_at X.1 cl (a, e) H) ∧ ∀ q ∈ locs, X.2.1.size ≤ q.base
theorem hp_w.lt {X : hp_X} {cl : List vw_C} {μ : hp_M} {nx : Nat} {H : Heap} {locs : List Loc} (h : hp_w X cl μ nx H locs) {a : Nat} {e : va_E} (ha : μ a = some e) : a < nx := by
  have := (h.2.2.2.1 a e ha).2.lt
  rw [h.1] at this
  exact this
theorem hp_w.fresh {X : hp_X} {cl : List vw_C} {μ : hp_M} {nx : Nat} {H : Heap} {locs : List Loc} (h : hp_w X cl μ nx H locs) {a : Nat} (ha : nx ≤ a) : μ a = none := by
  cases hm : μ a with
  | none => rfl
  | some e => exact absurd (h.lt hm) (by omega)
theorem hp_w.set {X : hp_X} {cl : List vw_C} {μ : hp_M} {nx : Nat} {H H1 : Heap} {locs : List Loc} {a k : Nat} {e0 e : va_E} (h : hp_w X cl μ nx H locs) (ha : μ a = some e0) (he : va_at X.1 cl (a, e) H1) (z : H1.size = H.size) (oq : ∀ q : Nat, q ≠ a → H1[q]? = H[q]?) : hp_w X cl (hp_up μ a e) nx H1 (locs ++ [⟨a, k⟩]) := by
  obtain ⟨h1, h2, h3, h4, h5⟩ := h
  have hA := (h4 a e0 ha).1
  refine ⟨z.trans h1, h2, fun q hq => ?_, fun b x hb => ?_, fun q hq => ?_⟩
  · rw [oq q (by omega)]
    exact h3 q hq
  · by_cases hba : b = a
    · subst hba
      rw [hp_up_s] at hb
      cases hb
      exact ⟨hA, he⟩
    · rw [hp_up_n hba] at hb
      exact ⟨(h4 b x hb).1, (h4 b x hb).2.kept (oq b hba)⟩
  · rcases List.mem_append.mp hq with q1 | q1
    · exact h5 q q1
    · rw [List.mem_singleton.mp q1]
      exact hA
theorem hp_w.push {X : hp_X} {cl : List vw_C} {μ : hp_M} {nx : Nat} {H H1 : Heap} {locs : List Loc} {e : va_E} (h : hp_w X cl μ nx H locs) (he : va_at X.1 cl (nx, e) H1) (z : H1.size = nx + 1) (o : ∀ q : Nat, q < nx → H1[q]? = H[q]?) : hp_w X cl (hp_up μ nx e) (nx + 1) H1 locs := by
  have hf := fun b x hb => h.lt (a := b) (e := x) hb
  obtain ⟨h1, h2, h3, h4, h5⟩ := h
  refine ⟨z, by omega, fun q hq => ?_, fun b x hb => ?_, h5⟩
  · rw [o q (by omega)]
    exact h3 q hq
  · by_cases hba : b = nx
    · subst hba
      rw [hp_up_s] at hb
      cases hb
      exact ⟨h2, he⟩
    · rw [hp_up_n hba] at hb
      exact ⟨(h4 b x hb).1, (h4 b x hb).2.kept (o b (hf b x hb))⟩
theorem hp_w.congr {X : hp_X} {cl : List vw_C} {μ μ' : hp_M} {nx : Nat} {H : Heap} {locs : List Loc} (h : hp_w X cl μ nx H locs) (e : μ = μ') : hp_w X cl μ' nx H locs := e ▸ h
/-- cells -/
abbrev hp_i (X : hp_X) (n : Nat) (f : Nat → Int32) : va_E := .inl (X.2.2.1 0, n, .inl f)
abbrev hp_l (X : hp_X) (n : Nat) (f : Nat → Int64) : va_E := .inl (X.2.2.1 1, n, .inr (.inl f))
abbrev hp_q (X : hp_X) (n : Nat) (f : Nat → Option Nat) : va_E := .inl (X.2.2.1 2, n, .inr (.inr (.inr (.inr f))))
abbrev hp_o (ci : Nat) (fs : List Value) : va_E := .inr (ci, fs)
/-- what a field instruction links -/
def hp_F (cl : List vw_C) (s : State) (args : Array Value) (own : String) (index ci k : Nat) : Prop :=
  ∃ (C : String) (T : u_T) (N : Nat) (ref : String), cl[ci]? = some (C, T, N) ∧ k < N ∧ (∀ w ∈ u_ws C T N, w.before args s = true) ∧ ((Cond.fieldLink own index ref (T k).2.1 (T k).2.2.1).before args s = true ∨ ∃ host : String, (Cond.fieldLinkNest own index ref (T k).2.1 (T k).2.2.1 host).before args s = true) ∧ (∀ x, s.fieldFound? (T k).1 (T k).2.1 (T k).2.2.1 = some x → s.fieldFound? ref (T k).2.1 (T k).2.2.1 = some x)
/-- a class's table is a good one -/
def hp_T (T : u_T) (N : Nat) (ty : Nat → FieldType) : Prop := (∀ k, k < N → parseFieldDescriptor (T k).2.2.1 = some (ty k)) ∧ (∀ a, a < N → ∀ b, b < N → a ≠ b → (T a).2.1 ≠ (T b).2.1)
def hp_P (cl : List vw_C) (s : State) (args : Array Value) (own : String) (index ci k : Nat) (ty : FieldType) (fin : Bool) : Prop :=
  ∃ (C : String) (T : u_T) (N : Nat) (ref : String) (ty0 : Nat → FieldType), cl[ci]? = some (C, T, N) ∧ k < N ∧ (∀ w ∈ u_ws C T N, w.before args s = true) ∧ ((Cond.fieldLink own index ref (T k).2.1 (T k).2.2.1).before args s = true ∨ (fin = false ∧ ∃ host : String, (Cond.fieldLinkNest own index ref (T k).2.1 (T k).2.2.1 host).before args s = true)) ∧ (∀ x, s.fieldFound? (T k).1 (T k).2.1 (T k).2.2.1 = some x → s.fieldFound? ref (T k).2.1 (T k).2.2.1 = some x) ∧ (T k).2.2.2 = fin ∧ parseFieldDescriptor (T k).2.2.1 = some ty ∧ hp_T T N ty0 ∧ (fin = true → (T k).1 = own)
section HPA
variable {p : Program} {l : Launch} {e : Env} {R : Room} {s : State} {m : MethodId} {args : Array Value} {below : List Frame} {meth : Method} {c : Code} {H : Heap} {locs : List Loc} {cells slots : Nat} {Q : State → Prop}
variable {cc : ByteArray} {pc : Nat} {ls : Array Slot} {rest : List Value} {X : hp_X} {cl : List vw_C} {a nx : Nat} {tys : List (ClassId × FieldType)} {μ : hp_M} {own : String} {index ci k : Nat} {fs : List Value} {v : Value}
theorem hp_get (hexec : p.tables.exec = Jvm.exec) (hb : c.code = cc) (hown : s.vm.findClass own = some m.cls) (hK : va_K X.1 cl tys s) (hH : hp_w X cl μ nx H locs) (hF : hp_F cl s args own index ci k) (hμ : μ a = some (.inr (ci, fs))) (hv : fs[k]? = some v) (hdg : decode cc pc = .ok (.getfield index, 3))
    (kk : W p l e R s m args below meth c H locs cells slots Q (F0 m (pc + 3) ls (v :: rest))) : W p l e R s m args below meth c H locs cells slots Q (F0 m pc ls (.ref a :: rest)) := by
  obtain ⟨C, T, N, ref, hc, hk, hin, hlk, hsame⟩ := hF
  obtain ⟨r, h1, cell, q1, q2, q3, q4⟩ := (hH.2.2.2.1 a _ hμ).2
  have hr : r = (C, T, N) := Option.some.inj (h1.symm.trans hc)
  subst hr
  obtain ⟨hS, hfc, kC, hkC, hkind⟩ := hK.1 ci _ hc
  obtain ⟨cf, kf, fi, f, hi, hsl⟩ := hS k hk
  have hst := (u_facts hfc hkC (u_lays hin (fun _ h => h) hk) hi).1
  have hsv : cell.slots[f.slot]? = some v := by
    rw [hsl, q4 k hk]
    simp [vp_V, hv]
  rcases hlk with hl | ⟨host, hl⟩
  · exact W.getf hexec hb hown hl (hsame _ hi) hst q1 (by rw [q3]; exact fun h => by cases h) (v := v) hsv rfl rfl hdg kk
  · exact va_Wgetf hexec hb hown hl (hsame _ hi) hst q1 (by rw [q3]; exact fun h => by cases h) (v := v) hsv rfl rfl hdg kk
theorem hp_put (hexec : p.tables.exec = Jvm.exec) (hb : c.code = cc) (hown : s.vm.findClass own = some m.cls) (hK : va_K X.1 cl tys s) (hH : hp_w X cl μ nx H locs) {ty : FieldType} (hF : hp_P cl s args own index ci k ty false) (hμ : μ a = some (.inr (ci, fs))) (hn : narrow ty v = v) (hfit : fits ty v = true) (hl : k < fs.length) (hdg : decode cc pc = .ok (.putfield index, 3))
    (kk : ∀ (H1 : Heap) (locs1 : List Loc) (μ1 : hp_M), μ1 a = some (.inr (ci, fs.set k v)) → (∀ q, q ≠ a → μ1 q = μ q) → hp_w X cl μ1 nx H1 locs1 → W p l e R s m args below meth c H1 locs1 cells slots Q (F0 m (pc + 3) ls rest)) : W p l e R s m args below meth c H locs cells slots Q (F0 m pc ls (v :: .ref a :: rest)) := by
  obtain ⟨C, T, N, ref, ty0, hc, hk, hin, hlk, hsame, hfin, hd, ⟨hty, hnm⟩, -⟩ := hF
  have hap := va_apart (own := own) hin (fun _ h => h) ty0 hty hnm hK hc
  obtain ⟨r, h1, cell, q1, q2, q3, q4⟩ := (hH.2.2.2.1 a _ hμ).2
  have hr : r = (C, T, N) := Option.some.inj (h1.symm.trans hc)
  subst hr
  obtain ⟨hS, hfc, kC, hkC, hkind⟩ := hK.1 ci _ hc
  obtain ⟨cf, kf, fi, f, hi, hsl⟩ := hS k hk
  have hlay := hin _ (u_in_lay hk)
  unfold u_lay at hlay
  rw [if_neg (by rw [hfin]; decide)] at hlay
  have hst := (u_facts hfc hkC (u_lays hin (fun _ h => h) hk) hi).1
  have h6 := u_store hfc hkC hkind hlay hi hd hn hfit
  rcases hlk with hlk | ⟨-, host, hlk⟩
  · refine W.putK hexec hb (f := f) ⟨hown, hlk, ⟨_, _, _, hsame _ hi⟩, hst⟩ (by rw [q2]; exact h6) q1 q3 (by rw [hsl]; exact k2_hasslot (q4 k hk)) rfl rfl hdg fun H' e1 e2 e3 => ?_
    rw [hsl] at e1 ⊢
    exact kk H' _ _ (hp_up_s _ _ _) (fun q h => hp_up_n h) (hH.set hμ ⟨_, hc, t_OB.to (V := updV (vp_V fs) k v) ⟨_, e1, q2, q3, t_set q4 hap hk v⟩ (fun j _ => vp_updV_set hl v j)⟩ e2 e3)
  · refine va_WputK hexec hb (f := f) hown hlk (hsame _ hi) hst (by rw [q2]; exact h6) q1 q3 (by rw [hsl]; exact k2_hasslot (q4 k hk)) rfl rfl hdg fun H' e1 e2 e3 => ?_
    rw [hsl] at e1 ⊢
    exact kk H' _ _ (hp_up_s _ _ _) (fun q h => hp_up_n h) (hH.set hμ ⟨_, hc, t_OB.to (V := updV (vp_V fs) k v) ⟨_, e1, q2, q3, t_set q4 hap hk v⟩ (fun j _ => vp_updV_set hl v j)⟩ e2 e3)
theorem hp_putF (hexec : p.tables.exec = Jvm.exec) (hb : c.code = cc) (hown : s.vm.findClass own = some m.cls) (hK : va_K X.1 cl tys s) (hH : hp_w X cl μ nx H locs) {ty : FieldType} (hF : hp_P cl s args own index ci k ty true) (hin2 : meth.name = "<init>") (hμ : μ a = some (.inr (ci, fs))) (hn : narrow ty v = v) (hfit : fits ty v = true) (hl : k < fs.length) (hdg : decode cc pc = .ok (.putfield index, 3))
    (kk : ∀ (H1 : Heap) (locs1 : List Loc) (μ1 : hp_M), μ1 a = some (.inr (ci, fs.set k v)) → (∀ q, q ≠ a → μ1 q = μ q) → hp_w X cl μ1 nx H1 locs1 → W p l e R s m args below meth c H1 locs1 cells slots Q (F0 m (pc + 3) ls rest)) : W p l e R s m args below meth c H locs cells slots Q (F0 m pc ls (v :: .ref a :: rest)) := by
  obtain ⟨C, T, N, ref, ty0, hc, hk, hin, hlk, hsame, hfin, hd, ⟨hty, hnm⟩, hdecl⟩ := hF
  have hdecl := hdecl rfl
  have hap := va_apart (own := own) hin (fun _ h => h) ty0 hty hnm hK hc
  obtain ⟨r, h1, cell, q1, q2, q3, q4⟩ := (hH.2.2.2.1 a _ hμ).2
  have hr : r = (C, T, N) := Option.some.inj (h1.symm.trans hc)
  subst hr
  obtain ⟨hS, hfc, kC, hkC, hkind⟩ := hK.1 ci _ hc
  obtain ⟨cf, kf, fi, f, hi, hsl⟩ := hS k hk
  have hlay := hin _ (u_in_lay hk)
  unfold u_lay at hlay
  rw [if_pos hfin] at hlay
  have hst := (u_facts hfc hkC (u_lays hin (fun _ h => h) hk) hi).1
  have hcf : m.cls = cf := by
    obtain ⟨_, _, c', _, _, _, -, -, hf', -, -, -, hown2, -⟩ := Cond.laysFinal_spec hlay
    have e1 : c' = cf := by have := hi.symm.trans hf'; simp at this; exact this.1.symm
    rw [hdecl] at hown2
    rw [← e1]; exact Option.some.inj (hown.symm.trans hown2)
  have h6 := u_fits hfc hkC hkind (Or.inr hlay) hi hd hn hfit
  rcases hlk with hlk | ⟨h0, -⟩
  · refine W.putFinK hexec hb hown hlk (hsame _ hi) hst hcf hin2 (by rw [q2]; exact h6) q1 q3 (by rw [hsl]; exact k2_hasslot (q4 k hk)) rfl rfl hdg fun H' e1 e2 e3 => ?_
    rw [hsl] at e1 ⊢
    exact kk H' _ _ (hp_up_s _ _ _) (fun q h => hp_up_n h) (hH.set hμ ⟨_, hc, t_OB.to (V := updV (vp_V fs) k v) ⟨_, e1, q2, q3, t_set q4 hap hk v⟩ (fun j _ => vp_updV_set hl v j)⟩ e2 e3)
  · cases h0
theorem hp_iald (hexec : p.tables.exec = Jvm.exec) (hb : c.code = cc) (hA : ArrOfT s (X.2.2.1 0) .int) (hH : hp_w X cl μ nx H locs) {n : Nat} {f : Nat → Int32} (hμ : μ a = some (hp_i X n f)) {i : Int32} (hin : vp_in i n) (hdg : decode cc pc = .ok (.iaload, 1))
    (kk : W p l e R s m args below meth c H locs cells slots Q (F0 m (pc + 1) ls (.int (f i.toNatClampNeg) :: rest))) : W p l e R s m args below meth c H locs cells slots Q (F0 m pc ls (.int i :: .ref a :: rest)) := by
  have hlt : i.toNatClampNeg < n := Nat.not_le.mp fun q => hin (Or.inr q)
  exact W.iald (v := .int (f i.toNatClampNeg)) hexec hb (hH.2.2.2.1 a _ hμ).2 (hA n (fun j => .int (f j))) (fun q => by cases q) (by show ¬ (i < 0 ∨ (arrV _ _ _).slots.size ≤ _); rw [arrV_size]; exact hin) (by show (arrV _ _ _).slots[_]? = _; rw [arrV_read _ _ hlt]) rfl rfl hdg kk
theorem hp_lald (hexec : p.tables.exec = Jvm.exec) (hb : c.code = cc) (hA : ArrOfT s (X.2.2.1 1) .long) (hH : hp_w X cl μ nx H locs) {n : Nat} {f : Nat → Int64} (hμ : μ a = some (hp_l X n f)) {i : Int32} (hin : vp_in i n) (hdg : decode cc pc = .ok (.laload, 1))
    (kk : W p l e R s m args below meth c H locs cells slots Q (F0 m (pc + 1) ls (.long (f i.toNatClampNeg) :: rest))) : W p l e R s m args below meth c H locs cells slots Q (F0 m pc ls (.int i :: .ref a :: rest)) := by
  have hlt : i.toNatClampNeg < n := Nat.not_le.mp fun q => hin (Or.inr q)
  exact W.lald (v := .long (f i.toNatClampNeg)) hexec hb (hH.2.2.2.1 a _ hμ).2 (hA n (fun j => .long (f j))) (fun q => by cases q) (by show ¬ (i < 0 ∨ (arrV _ _ _).slots.size ≤ _); rw [arrV_size]; exact hin) (by show (arrV _ _ _).slots[_]? = _; rw [arrV_read _ _ hlt]) rfl rfl hdg kk
theorem hp_aald (hexec : p.tables.exec = Jvm.exec) (hb : c.code = cc) {C : String} (hA : ArrOfT s (X.2.2.1 2) (.object C)) (hH : hp_w X cl μ nx H locs) {n : Nat} {f : Nat → Option Nat} (hμ : μ a = some (hp_q X n f)) {i : Int32} (hin : vp_in i n) (hdg : decode cc pc = .ok (.aaload, 1))
    (kk : W p l e R s m args below meth c H locs cells slots Q (F0 m (pc + 1) ls (va_rf (f i.toNatClampNeg) :: rest))) : W p l e R s m args below meth c H locs cells slots Q (F0 m pc ls (.int i :: .ref a :: rest)) := by
  have hlt : i.toNatClampNeg < n := Nat.not_le.mp fun q => hin (Or.inr q)
  exact W.aald (v := va_rf (f i.toNatClampNeg)) (ty := .object C) hexec hb (hH.2.2.2.1 a _ hμ).2 (hA n (fun j => va_rf (f j))) rfl (fun q => by cases q) (by show ¬ (i < 0 ∨ (arrV _ _ _).slots.size ≤ _); rw [arrV_size]; exact hin) (by show (arrV _ _ _).slots[_]? = _; rw [arrV_read _ _ hlt]) rfl rfl hdg kk
theorem hp_iast (hexec : p.tables.exec = Jvm.exec) (hb : c.code = cc) (hA : ArrOfT s (X.2.2.1 0) .int) (hH : hp_w X cl μ nx H locs) {n : Nat} {f : Nat → Int32} (hμ : μ a = some (hp_i X n f)) {i x : Int32} (hin : vp_in i n) (hdg : decode cc pc = .ok (.iastore, 1))
    (kk : ∀ (H1 : Heap) (locs1 : List Loc) (μ1 : hp_M), μ1 a = some (hp_i X n (upd f i.toNatClampNeg x)) → (∀ q, q ≠ a → μ1 q = μ q) → hp_w X cl μ1 nx H1 locs1 → W p l e R s m args below meth c H1 locs1 cells slots Q (F0 m (pc + 1) ls rest)) : W p l e R s m args below meth c H locs cells slots Q (F0 m pc ls (.int x :: .int i :: .ref a :: rest)) := by
  refine W.iast hexec hb (hH.2.2.2.1 a _ hμ).2 (hA n (fun j => .int (f j))) (fun q => by cases q) (by show ¬ (i < 0 ∨ (arrV _ _ _).slots.size ≤ _); rw [arrV_size]; exact hin) rfl rfl hdg fun H1 e z oq => ?_
  refine kk H1 _ _ (hp_up_s _ _ _) (fun q h => hp_up_n h) (hH.set hμ ?_ z oq)
  show H1[a]? = some (vp_cell _ _)
  rw [e]
  rw [vp_cell_i, vp_cell_i, arrV_store]
  congr 2
  funext q
  by_cases hq : q = i.toNatClampNeg
  · subst hq
    simp [updV, upd]
  · simp [updV, upd, hq]
theorem hp_last (hexec : p.tables.exec = Jvm.exec) (hb : c.code = cc) (hA : ArrOfT s (X.2.2.1 1) .long) (hH : hp_w X cl μ nx H locs) {n : Nat} {f : Nat → Int64} (hμ : μ a = some (hp_l X n f)) {i : Int32} {x : Int64} (hin : vp_in i n) (hdg : decode cc pc = .ok (.lastore, 1))
    (kk : ∀ (H1 : Heap) (locs1 : List Loc) (μ1 : hp_M), μ1 a = some (hp_l X n (vp_updL f i.toNatClampNeg x)) → (∀ q, q ≠ a → μ1 q = μ q) → hp_w X cl μ1 nx H1 locs1 → W p l e R s m args below meth c H1 locs1 cells slots Q (F0 m (pc + 1) ls rest)) : W p l e R s m args below meth c H locs cells slots Q (F0 m pc ls (.long x :: .int i :: .ref a :: rest)) := by
  refine W.last hexec hb (hH.2.2.2.1 a _ hμ).2 (hA n (fun j => .long (f j))) (fun q => by cases q) (by show ¬ (i < 0 ∨ (arrV _ _ _).slots.size ≤ _); rw [arrV_size]; exact hin) rfl rfl hdg fun H1 e z oq => ?_
  refine kk H1 _ _ (hp_up_s _ _ _) (fun q h => hp_up_n h) (hH.set hμ ?_ z oq)
  show H1[a]? = some (vp_cell _ _)
  rw [e]
  rw [vp_cell_l, vp_cell_l, arrV_store]
  congr 2
  funext q
  by_cases hq : q = i.toNatClampNeg
  · subst hq
    simp [updV, vp_updL]
  · simp [updV, vp_updL, hq]
theorem hp_alen (hexec : p.tables.exec = Jvm.exec) (hb : c.code = cc) {cA : ClassId} {ty : FieldType} (hA : ArrOfT s cA ty) (hH : hp_w X cl μ nx H locs) {x : vp_A} (hμ : μ a = some (.inl (cA, x))) {w : Int32} (hv : nI x.1 = w) (hdg : decode cc pc = .ok (.arraylength, 1))
    (kk : W p l e R s m args below meth c H locs cells slots Q (F0 m (pc + 1) ls (.int w :: rest))) : W p l e R s m args below meth c H locs cells slots Q (F0 m pc ls (.ref a :: rest)) := by
  subst hv
  have hc := (hH.2.2.2.1 a _ hμ).2
  obtain ⟨n, f | f | f | f | f⟩ := x
  · exact W.alen (n := Int32.ofNat n) hexec hb hc (hA n (fun j => .int (f j))) (by rw [vp_cell_i, arrV_size] <;> rfl) rfl rfl hdg kk
  · exact W.alen (n := Int32.ofNat n) hexec hb hc (hA n (fun j => .long (f j))) (by rw [vp_cell_l, arrV_size] <;> rfl) rfl rfl hdg kk
  · exact W.alen (n := Int32.ofNat n) hexec hb hc (hA n (fun j => .float (f j))) (by rw [vp_cell_f, arrV_size] <;> rfl) rfl rfl hdg kk
  · exact W.alen (n := Int32.ofNat n) hexec hb hc (hA n (fun j => .double (f j))) (by rw [vp_cell_d, arrV_size] <;> rfl) rfl rfl hdg kk
  · exact W.alen (n := Int32.ofNat n) hexec hb hc (hA n (fun j => va_rf (f j))) (by rw [vp_cell_q, arrV_size] <;> rfl) rfl rfl hdg kk
/-- a new int or long array -/
theorem hp_newi (hexec : p.tables.exec = Jvm.exec) (hb : c.code = cc) (harr : (Cond.arrayClass .int).before args s = true) (hR : s.vm.findClass "[I" = some (X.2.2.1 0)) (hH : hp_w X cl μ nx H locs) {n : Int32} {N : Nat} (hn : ¬ n < 0) (hN : n.toNatClampNeg = N) (hbytes : N * 4 ≤ 536870912) (hcells : cells + 1 ≤ R.cells) (hslots : slots + N ≤ R.slots) (hdg : decode cc pc = .ok (.newarray .int, 2))
    (kk : ∀ (H1 : Heap) (μ1 : hp_M), μ1 nx = some (hp_i X N (fun _ => 0)) → (∀ q, q ≠ nx → μ1 q = μ q) → hp_w X cl μ1 (nx + 1) H1 locs → W p l e R s m args below meth c H1 locs (cells + 1) (slots + N) Q (F0 m (pc + 2) ls (.ref nx :: rest))) : W p l e R s m args below meth c H locs cells slots Q (F0 m pc ls (.int n :: rest)) := by
  refine va_newaK (atype := .int) hexec hb harr rfl hdg rfl hn hN hbytes hcells hslots hH.1 fun H1 cA e1 z1 o1 hAr hNm => ?_
  have hcA : cA = X.2.2.1 0 := Option.some.inj (hNm.symm.trans hR)
  subst hcA
  exact kk H1 _ (hp_up_s _ _ _) (fun q h => hp_up_n h) (hH.push (show H1[nx]? = some (vp_cell _ _) from e1) z1 o1)
theorem hp_newl (hexec : p.tables.exec = Jvm.exec) (hb : c.code = cc) (harr : (Cond.arrayClass .long).before args s = true) (hR : s.vm.findClass "[J" = some (X.2.2.1 1)) (hH : hp_w X cl μ nx H locs) {n : Int32} {N : Nat} (hn : ¬ n < 0) (hN : n.toNatClampNeg = N) (hbytes : N * 8 ≤ 536870912) (hcells : cells + 1 ≤ R.cells) (hslots : slots + N ≤ R.slots) (hdg : decode cc pc = .ok (.newarray .long, 2))
    (kk : ∀ (H1 : Heap) (μ1 : hp_M), μ1 nx = some (hp_l X N (fun _ => 0)) → (∀ q, q ≠ nx → μ1 q = μ q) → hp_w X cl μ1 (nx + 1) H1 locs → W p l e R s m args below meth c H1 locs (cells + 1) (slots + N) Q (F0 m (pc + 2) ls (.ref nx :: rest))) : W p l e R s m args below meth c H locs cells slots Q (F0 m pc ls (.int n :: rest)) := by
  refine va_newaK (atype := .long) hexec hb harr rfl hdg rfl hn hN hbytes hcells hslots hH.1 fun H1 cA e1 z1 o1 hAr hNm => ?_
  have hcA : cA = X.2.2.1 1 := Option.some.inj (hNm.symm.trans hR)
  subst hcA
  exact kk H1 _ (hp_up_s _ _ _) (fun q h => hp_up_n h) (hH.push (show H1[nx]? = some (vp_cell _ _) from e1) z1 o1)
/-- a new object -/
def hp_N (cl : List vw_C) (s : State) (args : Array Value) (own : String) (index ci N : Nat) (fs : List Value) : Prop :=
  ∃ (C : String) (T : u_T) (ty : Nat → FieldType), cl[ci]? = some (C, T, N) ∧ (∀ w ∈ u_ws C T N, w.before args s = true) ∧ (∀ k, k < N → parseFieldDescriptor (T k).2.2.1 = some (ty k)) ∧ (Cond.classLink own index C).before args s = true ∧ (Cond.instantiable C N).before args s = true ∧ (Cond.initialized C).before args s = true ∧ ∀ j, j < N → defaultValue (ty j) = vp_V fs j
theorem hp_new (hexec : p.tables.exec = Jvm.exec) (hb : c.code = cc) (hown : s.vm.findClass own = some m.cls) (hK : va_K X.1 cl tys s) (hH : hp_w X cl μ nx H locs) {N : Nat} (hN : hp_N cl s args own index ci N fs) (hcells : cells + 1 ≤ R.cells) (hslots : slots + N ≤ R.slots) (hdg : decode cc pc = .ok (.new index, 3))
    (kk : ∀ (H1 : Heap) (μ1 : hp_M), μ1 nx = some (.inr (ci, fs)) → (∀ q, q ≠ nx → μ1 q = μ q) → hp_w X cl μ1 (nx + 1) H1 locs → W p l e R s m args below meth c H1 locs (cells + 1) (slots + N) Q (F0 m (pc + 3) ls (.ref nx :: rest))) : W p l e R s m args below meth c H locs cells slots Q (F0 m pc ls rest) := by
  obtain ⟨C, T, ty, hc, hin, hty, hcl, hinst, hini, hfs⟩ := hN
  have hKn := hK.1 ci _ hc
  refine W.newcK hexec hb hown hcl hinst hini rfl hdg hcells hslots hKn.2.1 hH.1 fun H1 kC hkC e1 z1 o1 => ?_
  exact kk H1 _ (hp_up_s _ _ _) (fun q h => hp_up_n h) (hH.push ⟨_, hc, (u_born ty hin (fun _ h => h) hKn hkC e1 hty).to hfs⟩ z1 o1)
/-- who receives a call -/
theorem hp_recv (hK : va_K X.1 cl tys s) (hH : hp_w X cl μ nx H locs) {q : vw_C} (hc : cl[ci]? = some q) (hμ : μ a = some (.inr (ci, fs))) : ∃ cell : Cell, H[a]? = some cell ∧ cell.vm.isStatics = false ∧ s.vm.findClass q.1 = some cell.cls := by
  obtain ⟨q', h1, cell, g1, g2, g3, -⟩ := (hH.2.2.2.1 a _ hμ).2
  exact ⟨cell, g1, by rw [g3]; rfl, by rw [g2]; exact (hK.1 ci q hc).2.1⟩
end HPA
