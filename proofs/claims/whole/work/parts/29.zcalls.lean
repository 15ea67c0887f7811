/-! ends of contracts: the next address, the answer, the world -/
def po_i (NX : Nat) (E : Int32) (P : hp_M → Prop) : Int32 → hp_M → Nat → Prop := fun r μ nx => nx = NX ∧ r = E ∧ P μ
def po_l (NX : Nat) (E : Int64) (P : hp_M → Prop) : Int64 → hp_M → Nat → Prop := fun r μ nx => nx = NX ∧ r = E ∧ P μ
def po_r (NX : Nat) (E : Nat) (P : hp_M → Prop) : Nat → hp_M → Nat → Prop := fun r μ nx => nx = NX ∧ r = E ∧ P μ
def po_v (NX : Nat) (P : hp_M → Prop) : hp_M → Nat → Prop := fun μ nx => nx = NX ∧ P μ
section HPK
variable {p : Program} {l : Launch} {e : Env} {R : Room} {s : State} {m : MethodId} {args : Array Value} {below : List Frame} {meth : Method} {c : Code} {H : Heap} {locs : List Loc} {cells slots : Nat} {Q : State → Prop}
variable {pc : Nat} {ls : Array Slot} {rest st0 : List Value} {X : hp_X} {nx NX mc ms : Nat} {μ : hp_M} {a : Array Value} {P : hp_M → Prop}
theorem hp_kim {E : Int32} (hr : va_Run p l e R s m args below meth c H locs cells slots mc ms (F0 m pc ls st0) rest (hq_i X (po_i NX E P) a) (hp_A X)) (hH : hp_w X cls μ nx H locs)
    (kk : ∀ (μ1 : hp_M) (H1 : Heap) (locs1 : List Loc), P μ1 → hp_w X cls μ1 NX H1 locs1 → W p l e R s m args below meth c H1 locs1 (cells + mc) (slots + ms) Q (F0 m (pc + 3) ls (.int E :: rest))) : W p l e R s m args below meth c H locs cells slots Q (F0 m pc ls st0) :=
  hp_ki hr hH (fun r μ1 nx1 H1 locs1 hp hw => by obtain ⟨rfl, rfl, h⟩ := hp; exact kk μ1 H1 locs1 h hw)
theorem hp_klm {E : Int64} (hr : va_Run p l e R s m args below meth c H locs cells slots mc ms (F0 m pc ls st0) rest (hq_l X (po_l NX E P) a) (hp_A X)) (hH : hp_w X cls μ nx H locs)
    (kk : ∀ (μ1 : hp_M) (H1 : Heap) (locs1 : List Loc), P μ1 → hp_w X cls μ1 NX H1 locs1 → W p l e R s m args below meth c H1 locs1 (cells + mc) (slots + ms) Q (F0 m (pc + 3) ls (.long E :: rest))) : W p l e R s m args below meth c H locs cells slots Q (F0 m pc ls st0) :=
  hp_kl hr hH (fun r μ1 nx1 H1 locs1 hp hw => by obtain ⟨rfl, rfl, h⟩ := hp; exact kk μ1 H1 locs1 h hw)
theorem hp_krm {E : Nat} (hr : va_Run p l e R s m args below meth c H locs cells slots mc ms (F0 m pc ls st0) rest (hq_r X (po_r NX E P) a) (hp_A X)) (hH : hp_w X cls μ nx H locs)
    (kk : ∀ (μ1 : hp_M) (H1 : Heap) (locs1 : List Loc), P μ1 → hp_w X cls μ1 NX H1 locs1 → W p l e R s m args below meth c H1 locs1 (cells + mc) (slots + ms) Q (F0 m (pc + 3) ls (.ref E :: rest))) : W p l e R s m args below meth c H locs cells slots Q (F0 m pc ls st0) :=
  hp_kr hr hH (fun r μ1 nx1 H1 locs1 hp hw => by obtain ⟨rfl, rfl, h⟩ := hp; exact kk μ1 H1 locs1 h hw)
theorem hp_kvm (hr : va_Run p l e R s m args below meth c H locs cells slots mc ms (F0 m pc ls st0) rest (hq_v X (po_v NX P) a) (hp_A X)) (hH : hp_w X cls μ nx H locs)
    (kk : ∀ (μ1 : hp_M) (H1 : Heap) (locs1 : List Loc), P μ1 → hp_w X cls μ1 NX H1 locs1 → W p l e R s m args below meth c H1 locs1 (cells + mc) (slots + ms) Q (F0 m (pc + 3) ls rest)) : W p l e R s m args below meth c H locs cells slots Q (F0 m pc ls st0) :=
  hp_kv hr hH (fun μ1 nx1 H1 locs1 hp hw => by obtain ⟨rfl, h⟩ := hp; exact kk μ1 H1 locs1 h hw)
theorem hp_kip {E : Int32} (hr : va_Run p l e R s m args below meth c H locs cells slots mc ms (F0 m pc ls st0) rest (hq_i X (po_i NX E (fun z => z = μ)) a) (hp_A X)) (hH : hp_w X cls μ nx H locs)
    (kk : ∀ (H1 : Heap) (locs1 : List Loc), hp_w X cls μ NX H1 locs1 → W p l e R s m args below meth c H1 locs1 (cells + mc) (slots + ms) Q (F0 m (pc + 3) ls (.int E :: rest))) : W p l e R s m args below meth c H locs cells slots Q (F0 m pc ls st0) :=
  hp_kim hr hH (fun μ1 H1 locs1 h hw => by cases h; exact kk H1 locs1 hw)
theorem hp_klp {E : Int64} (hr : va_Run p l e R s m args below meth c H locs cells slots mc ms (F0 m pc ls st0) rest (hq_l X (po_l NX E (fun z => z = μ)) a) (hp_A X)) (hH : hp_w X cls μ nx H locs)
    (kk : ∀ (H1 : Heap) (locs1 : List Loc), hp_w X cls μ NX H1 locs1 → W p l e R s m args below meth c H1 locs1 (cells + mc) (slots + ms) Q (F0 m (pc + 3) ls (.long E :: rest))) : W p l e R s m args below meth c H locs cells slots Q (F0 m pc ls st0) :=
  hp_klm hr hH (fun μ1 H1 locs1 h hw => by cases h; exact kk H1 locs1 hw)
theorem hp_krp {E : Nat} (hr : va_Run p l e R s m args below meth c H locs cells slots mc ms (F0 m pc ls st0) rest (hq_r X (po_r NX E (fun z => z = μ)) a) (hp_A X)) (hH : hp_w X cls μ nx H locs)
    (kk : ∀ (H1 : Heap) (locs1 : List Loc), hp_w X cls μ NX H1 locs1 → W p l e R s m args below meth c H1 locs1 (cells + mc) (slots + ms) Q (F0 m (pc + 3) ls (.ref E :: rest))) : W p l e R s m args below meth c H locs cells slots Q (F0 m pc ls st0) :=
  hp_krm hr hH (fun μ1 H1 locs1 h hw => by cases h; exact kk H1 locs1 hw)
end HPK
