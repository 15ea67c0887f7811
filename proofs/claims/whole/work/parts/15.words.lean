/-! the tables' words at every state of a run; what the statics hold; contracts over my heap words -/
def kw_ok (w : Cond) : Bool := goodWord w || (match w with
  | .fieldLinkNest .. => true
  | .methodLinkNest .. => true
  | .castable .. => true
  | .declares .. => true
  | .arrayOver (.object _) => true
  | _ => false)
def tb : List Cond := lw_tbl.filter kw_ok
theorem tb_of {w : Cond} (h : w ∈ lw_tbl) (hk : kw_ok w = true) : w ∈ tb := List.mem_filter.mpr ⟨h, hk⟩
def kw (U : State) : Prop := ∀ w ∈ tb, ∀ A : Array Value, w.before A U = true
theorem kw_move {w : Cond} (hk : kw_ok w = true) {s U : State} (hW : s.WarmedH U.vm) {a : Array Value} (h : w.before a s = true) (A : Array Value) : w.before A U = true := by
  unfold kw_ok at hk
  rw [Bool.or_eq_true] at hk
  rcases hk with hk | hk
  · exact word_at hW (good_of_word hk) h
  · cases w with
    | fieldLinkNest a1 i b n d hh => exact va_Nw.use rfl (va_Nw.warmF hW (va_Nw.of rfl h))
    | methodLinkNest a1 i x hh => exact va_Nw.use rfl (va_Nw.warmM hW (va_Nw.of rfl h))
    | castable C T => exact va_Nw.use rfl (va_Nw.warmC hW (va_Nw.of rfl h))
    | declares x => exact va_Nw.use rfl (va_Nw.warmD hW (va_Nw.of rfl h))
    | arrayOver ty =>
      cases ty with
      | object C => exact va_AO.use (va_AO.moved hW.alike (va_AO.of h))
      | _ => first | cases hk | simp at hk
    | _ => first | cases hk | simp at hk
theorem kw.warm {s U : State} (h : kw s) (hW : s.WarmedH U.vm) : kw U := fun w hw A => kw_move (List.mem_filter.mp hw).2 hW (h w hw #[]) A
theorem kw.of {s : State} {a : Array Value} (h : ∀ w ∈ lw_tbl, w.before a s = true) : kw s := fun w hw A => kw_move (List.mem_filter.mp hw).2 (State.WarmedH.refl s) (h w (List.mem_filter.mp hw).1) A
abbrev hp_A (X : hp_X) : Nat → Prop := fun q => X.2.1.size ≤ q
def nmK : List String := ["BAD", "REQUEST", "WAKE", "SEARCH", "CHOOSE", "HALT", "ACTIVATE", "RELEASE"]
def nmR : List String := ["NOTHING", "A", "REST", "B_MORE", "B_LAST", "C", "D"]
def fdR : List (String × String × String × List Int32) := [("java/lang/Enum", "ordinal", "I", [0, 1, 2, 3, 4, 5, 6])]
abbrev hp_ty (X : hp_X) : List (ClassId × FieldType) := [(X.2.2.1 0, .int), (X.2.2.1 1, .long), (X.2.2.1 2, .object "java/lang/Object"), (X.2.2.1 3, .boolean)]
def KS (X : hp_X) (U : State) : Prop :=
  kw U ∧ va_K X.1 cls (hp_ty X) U ∧ va_En RX5 "LTagField$Kind;" nmK [] (fun i => X.2.2.2 i) (hp_A X) U X.2.1 ∧ va_En RX7 "LTagField$Reply;" nmR fdR (fun i => X.2.2.2 (8 + i)) (hp_A X) U X.2.1 ∧
  va_Z RX0 "$SwitchMap$TagField$Reply" "[I" (.ref (X.2.2.2 15)) (hp_A X) U X.2.1 ∧ va_T .int (X.2.2.2 15) 7 (fun j => .int (nI j)) (hp_A X) U X.2.1 ∧
  va_Z RJx4a65c "DEFAULTCAPACITY_EMPTY_ELEMENTDATA" "[Ljava/lang/Object;" (.ref (X.2.2.2 16)) (hp_A X) U X.2.1 ∧ va_T (.object "java/lang/Object") (X.2.2.2 16) 0 (fun _ => .null) (hp_A X) U X.2.1 ∧ va_Mi "[Ljava/lang/Object;" (X.2.2.2 17) U
theorem KS.warm {X : hp_X} {s U : State} (h : KS X s) (hW : s.WarmedH U.vm) : KS X U := by
  obtain ⟨h1, h2, h3, h4, h5, h6, h7, h8, h9⟩ := h
  exact ⟨h1.warm hW, va_K.moved hW.alike h2, va_En.moved hW.alike h3, va_En.moved hW.alike h4, va_Z.moved hW.alike h5, va_T.moved hW.alike h6, va_Z.moved hW.alike h7, va_T.moved hW.alike h8, va_Mi.moved hW.alike h9⟩
theorem KS.ai {X : hp_X} {s : State} (h : KS X s) : ArrOfT s (X.2.2.1 0) .int := (h.2.1.2 0 _ rfl).1
theorem KS.al {X : hp_X} {s : State} (h : KS X s) : ArrOfT s (X.2.2.1 1) .long := (h.2.1.2 1 _ rfl).1
theorem KS.aq {X : hp_X} {s : State} (h : KS X s) : ArrOfT s (X.2.2.1 2) (.object "java/lang/Object") := (h.2.1.2 2 _ rfl).1
theorem KS.ab {X : hp_X} {s : State} (h : KS X s) : ArrOfT s (X.2.2.1 3) .boolean := (h.2.1.2 3 _ rfl).1
theorem KS.ni {X : hp_X} {s : State} (h : KS X s) : s.vm.findClass "[I" = some (X.2.2.1 0) := (h.2.1.2 0 _ rfl).2
theorem KS.nl {X : hp_X} {s : State} (h : KS X s) : s.vm.findClass "[J" = some (X.2.2.1 1) := (h.2.1.2 1 _ rfl).2
theorem KS.nb {X : hp_X} {s : State} (h : KS X s) : s.vm.findClass "[Z" = some (X.2.2.1 3) := (h.2.1.2 3 _ rfl).2
/-- the world of a state -/
def hp_Wd (X : hp_X) (μ : hp_M) (nx : Nat) (U : State) : Prop := KS X U ∧ hp_w X cls μ nx U.heap []
theorem hp_w.drop {X : hp_X} {μ : hp_M} {nx : Nat} {H : Heap} {locs : List Loc} (h : hp_w X cls μ nx H locs) : hp_w X cls μ nx H [] := ⟨h.1, h.2.1, h.2.2.1, h.2.2.2.1, fun _ q => by cases q⟩
/-- a contract -/
abbrev Ct (l : Launch) (X : hp_X) (y : MethodName) (cc : ByteArray) (maxL : Nat) (ret : Option FieldType) (fr lo mc ms : Nat) (av : List Value) (μ : hp_M) (nx : Nat) (Qc : Array Value → State → Outcome → State → Prop) : Prop :=
  Met l y [Cond.code y cc maxL ret] { frames := fr, cells := mc, slots := ms, locals := lo } (va_Pc av (hp_Wd X μ nx)) Qc mc ms (hp_A X)
def hq_i (X : hp_X) (post : Int32 → hp_M → Nat → Prop) : Array Value → State → Outcome → State → Prop := fun _ _ oc t => ∃ (r : Int32) (μ : hp_M) (nx : Nat), oc = .returned (some (.int r)) ∧ post r μ nx ∧ hp_Wd X μ nx t
def hq_l (X : hp_X) (post : Int64 → hp_M → Nat → Prop) : Array Value → State → Outcome → State → Prop := fun _ _ oc t => ∃ (r : Int64) (μ : hp_M) (nx : Nat), oc = .returned (some (.long r)) ∧ post r μ nx ∧ hp_Wd X μ nx t
def hq_r (X : hp_X) (post : Nat → hp_M → Nat → Prop) : Array Value → State → Outcome → State → Prop := fun _ _ oc t => ∃ (r : Nat) (μ : hp_M) (nx : Nat), oc = .returned (some (.ref r)) ∧ post r μ nx ∧ hp_Wd X μ nx t
def hq_v (X : hp_X) (post : hp_M → Nat → Prop) : Array Value → State → Outcome → State → Prop := fun _ _ oc t => ∃ (μ : hp_M) (nx : Nat), oc = .returned none ∧ post μ nx ∧ hp_Wd X μ nx t
theorem hp_met {l : Launch} {X : hp_X} {y : MethodName} {cc : ByteArray} {maxL : Nat} {ret : Option FieldType} {fr lo mc ms : Nat} {av : List Value} {μ : hp_M} {nx : Nat} {Qc : Array Value → State → Outcome → State → Prop} (hy : plainName y.cls = true) (hn : (lg_sl av).length ≤ maxL)
    (body : ∀ (p : Program) (e : Env) (s : State) (m : MethodId) (below : List Frame) (meth : Method) (c : Code) (ls : Array Slot), p.tables.exec = Jvm.exec → c.code = cc → c.maxLocals = maxL → meth.sig.returnType = ret → meth.locks = false → s.vm.findClass y.cls = some m.cls → meth.name = y.name → KS X s → hp_w X cls μ nx s.heap [] → lv_has ls maxL (lv_args 0 av) →
      W p l e { frames := fr, cells := mc, slots := ms, locals := lo } s m av.toArray below meth c s.heap [] 0 0 (MQ below Qc av.toArray s mc ms (hp_A X)) (F0 m 0 ls [])) : Ct l X y cc maxL ret fr lo mc ms av μ nx Qc := by
  refine Met.ofW (cc := cc) (maxL := maxL) (ret := ret) hy rfl ?_
  intro p e s m args below meth c s₁ B hml hv
  obtain ⟨rfl, hS, hH⟩ := hv
  have hl := lv_entry av (n := maxL) hn
  rw [lg_entry_eq]
  exact body p e s m below meth c _ B.exec B.bytes hml B.returns B.notSynchronized (findClass_of_methodNamed B.named) (name_of_methodNamed B.named B.method).1 hS hH hl
/-- what a call links -/
def mV (own : String) (index : Nat) (y : MethodName) (bytes : ByteArray) (maxL : Nat) (ret : Option FieldType) (n : Nat) : Prop :=
  Cond.code y bytes maxL ret ∈ tb ∧ Cond.initialized y.cls ∈ tb ∧ (y.cls ≠ "java/lang/invoke/MethodHandle" ∧ y.cls ≠ "java/lang/invoke/VarHandle") ∧ (parseMethodDescriptor y.desc).map (fun d => d.parameters.length) = some n ∧ (Cond.methodLink own index y ∈ tb ∨ ∃ host : String, Cond.methodLinkNest own index y host ∈ tb)
theorem mV.len {own : String} {index : Nat} {y : MethodName} {bytes : ByteArray} {maxL n : Nat} {ret : Option FieldType} (h : mV own index y bytes maxL ret n) : ∀ sig, parseMethodDescriptor y.desc = some sig → n = sig.parameters.length := by
  intro sig hs
  have h2 := h.2.2.2.1
  rw [hs] at h2
  exact (Option.some.inj h2).symm
section HPC
variable {p : Program} {l : Launch} {e : Env} {R : Room} {s : State} {m : MethodId} {args : Array Value} {below : List Frame} {meth : Method} {c : Code} {H : Heap} {locs : List Loc} {cells slots : Nat} {Q : State → Prop}
variable {cc : ByteArray} {pc : Nat} {ls : Array Slot} {rest st0 As : List Value} {X : hp_X} {b nx nL : Nat} {μ : hp_M} {own : String} {index n : Nat} {y : MethodName} {bytes : ByteArray} {maxL fr lo mc ms : Nat} {ret : Option FieldType} {Qc : Array Value → State → Outcome → State → Prop}
theorem hp_blind {av : List Value} : FrameBlind (va_Pc av (hp_Wd X μ nx)) := fun a U g mk q => ⟨q.1, q.2.1.warm (State.WarmedH.refl U), q.2.2⟩
theorem hp_pre {av : List Value} (hS : KS X s) (hH : hp_w X cls μ nx H locs) : PreS s H (va_Pc av (hp_Wd X μ nx)) av := ⟨hp_blind, fun U hU hW => ⟨rfl, hS.warm hW, by rw [hU]; exact hH.drop⟩⟩
theorem hp_words (hS : KS X s) (hk : Cond.code y bytes maxL ret ∈ tb) : ∀ w ∈ [Cond.code y bytes maxL ret], ∀ (a' : Array Value) (U : State), s.WarmedH U.vm → w.before a' U = true := by
  intro w hw a' U hW
  rw [List.mem_singleton.mp hw]
  exact hS.1.warm hW _ hk a'
theorem hp_runV (hx : p.tables.exec = Jvm.exec) (hb : c.code = cc) (hml : c.maxLocals = nL) (hown : s.vm.findClass own = some m.cls) (hS : KS X s) (hH : hp_w X cls μ nx H locs) (hM : Ct l X y bytes maxL ret fr lo mc ms (.ref b :: As) μ nx Qc) (hk : mV own index y bytes maxL ret n) (hin : Cond.instanceMethod y ∈ tb) (hse : Cond.selects y.cls y y ∈ tb) {ci : Nat} {q : vw_C} (hc : cls[ci]? = some q) (hq : q.1 = y.cls) {fs : List Value} (hμ : μ b = some (.inr (ci, fs))) (hn : As.length = n) (hsz : ls.size = nL) (hst : st0 = As.reverse ++ .ref b :: rest) (hroom : (rest.map fun v => v.category).sum ≤ 8) (hdg : decode cc pc = .ok (.invokevirtual index, 3)) (hR : fr + 1 ≤ R.frames ∧ 8 + (maxL + 11) + lo ≤ R.locals) (hf : cells + mc ≤ R.cells ∧ slots + ms ≤ R.slots) :
    va_Run p l e R s m args below meth c H locs cells slots mc ms (F0 m pc ls st0) rest (Qc (Value.ref b :: As).toArray) (hp_A X) := by
  have hp : PreV s H y.cls b (va_Pc (.ref b :: As) (hp_Wd X μ nx)) As := ⟨hp_blind, by rw [← hq]; exact hp_recv hS.2.1 hH hc hμ, (hp_pre hS hH).2⟩
  have ok : ∀ {w : Cond}, w ∈ tb → w.before args s = true := fun h => hS.1 _ h args
  rcases hk.2.2.2.2 with hl | ⟨host, hl⟩
  · exact va_runV (Ts := tb) (C := y.cls) ⟨hx, hb, hml, hown, fun w h => hS.1 w h args⟩ hM ⟨⟨rfl, rfl, hR.1, hR.2, hp_words hS hk.1, List.mem_singleton.mpr rfl, ok hk.1, ok hk.2.1, hk.2.2.1, hk.len, ok hl⟩, ok hin, ok hse⟩ hp rfl hn hsz hst (lv_room hroom) hdg hf
  · exact va_runVN (Ts := tb) (C := y.cls) (host := host) ⟨hx, hb, hml, hown, fun w h => hS.1 w h args⟩ hM ⟨⟨⟨rfl, rfl, hR.1, hR.2, hp_words hS hk.1, List.mem_singleton.mpr rfl⟩, ok hk.1, ok hk.2.1, hk.2.2.1, hk.len, ok hl⟩, ok hin, ok hse⟩ hp rfl hn hsz hst (lv_room hroom) hdg hf
theorem hp_runS (hx : p.tables.exec = Jvm.exec) (hb : c.code = cc) (hml : c.maxLocals = nL) (hown : s.vm.findClass own = some m.cls) (hS : KS X s) (hH : hp_w X cls μ nx H locs) (hM : Ct l X y bytes maxL ret fr lo mc ms As μ nx Qc) (hk : mV own index y bytes maxL ret n) (hin : Cond.static y ∈ tb) (hn : As.length = n) (hsz : ls.size = nL) (hst : st0 = As.reverse ++ rest) (hroom : (rest.map fun v => v.category).sum ≤ 8) (hdg : decode cc pc = .ok (.invokestatic index, 3)) (hR : fr + 1 ≤ R.frames ∧ 8 + (maxL + 11) + lo ≤ R.locals) (hf : cells + mc ≤ R.cells ∧ slots + ms ≤ R.slots) :
    va_Run p l e R s m args below meth c H locs cells slots mc ms (F0 m pc ls st0) rest (Qc As.toArray) (hp_A X) := by
  have ok : ∀ {w : Cond}, w ∈ tb → w.before args s = true := fun h => hS.1 _ h args
  rcases hk.2.2.2.2 with hl | ⟨host, hl⟩
  · exact va_runS (Ts := tb) ⟨hx, hb, hml, hown, fun w h => hS.1 w h args⟩ hM ⟨⟨rfl, rfl, hR.1, hR.2, hp_words hS hk.1, List.mem_singleton.mpr rfl, ok hk.1, ok hk.2.1, hk.2.2.1, hk.len, ok hl⟩, ok hin⟩ (hp_pre hS hH) rfl hn hsz hst (lv_room hroom) hdg hf
  · exact va_runSN (Ts := tb) (host := host) ⟨hx, hb, hml, hown, fun w h => hS.1 w h args⟩ hM ⟨⟨⟨rfl, rfl, hR.1, hR.2, hp_words hS hk.1, List.mem_singleton.mpr rfl⟩, ok hk.1, ok hk.2.1, hk.2.2.1, hk.len, ok hl⟩, ok hin, trivial⟩ (hp_pre hS hH) rfl hn hsz hst (lv_room hroom) hdg hf
theorem hp_runI (hx : p.tables.exec = Jvm.exec) (hb : c.code = cc) (hml : c.maxLocals = nL) (hown : s.vm.findClass own = some m.cls) (hS : KS X s) (hH : hp_w X cls μ nx H locs) (hM : Ct l X y bytes maxL none fr lo mc ms (.ref b :: As) μ nx Qc) (hk : mV own index y bytes maxL none n) (hin : Cond.instanceMethod y ∈ tb) (hy1 : y.name = "<init>") (hn : As.length = n) (hsz : ls.size = nL) (hst : st0 = As.reverse ++ .ref b :: rest) (hroom : (rest.map fun v => v.category).sum ≤ 8) (hdg : decode cc pc = .ok (.invokespecial index, 3)) (hR : fr + 1 ≤ R.frames ∧ 8 + (maxL + 11) + lo ≤ R.locals) (hf : cells + mc ≤ R.cells ∧ slots + ms ≤ R.slots) :
    va_Run p l e R s m args below meth c H locs cells slots mc ms (F0 m pc ls st0) rest (Qc (Value.ref b :: As).toArray) (hp_A X) := by
  have ok : ∀ {w : Cond}, w ∈ tb → w.before args s = true := fun h => hS.1 _ h args
  rcases hk.2.2.2.2 with hl | ⟨host, hl⟩
  · exact va_runI (Ts := tb) ⟨hx, hb, hml, hown, fun w h => hS.1 w h args⟩ hM ⟨⟨rfl, rfl, hR.1, hR.2, hp_words hS hk.1, List.mem_singleton.mpr rfl, ok hk.1, ok hk.2.1, hk.2.2.1, hk.len, ok hl⟩, hy1, ok hin⟩ (hp_pre hS hH) rfl hn hsz hst (lv_room hroom) hdg hf
  · exact va_runIN (Ts := tb) (host := host) ⟨hx, hb, hml, hown, fun w h => hS.1 w h args⟩ hM ⟨⟨⟨rfl, rfl, hR.1, hR.2, hp_words hS hk.1, List.mem_singleton.mpr rfl⟩, ok hk.1, ok hk.2.1, hk.2.2.1, hk.len, ok hl⟩, hy1, ok hin⟩ (hp_pre hS hH) rfl hn hsz hst (lv_room hroom) hdg hf
variable {a : Array Value}
theorem hp_back {μ1 : hp_M} {nx1 : Nat} {t T' : State} {L : List Loc} (hH : hp_w X cls μ nx H locs) (hL : ∀ q ∈ L, hp_A X q.base) (e1 : T'.heap = t.heap) (h1 : hp_Wd X μ1 nx1 t) : hp_w X cls μ1 nx1 T'.heap (locs ++ L) := by
  rw [e1]
  refine ⟨h1.2.1, h1.2.2.1, h1.2.2.2.1, h1.2.2.2.2.1, fun q hq => ?_⟩
  rcases List.mem_append.mp hq with h | h
  · exact hH.2.2.2.2 q h
  · exact hL q h
theorem hp_ki {post : Int32 → hp_M → Nat → Prop} (hr : va_Run p l e R s m args below meth c H locs cells slots mc ms (F0 m pc ls st0) rest (hq_i X post a) (hp_A X)) (hH : hp_w X cls μ nx H locs)
    (kk : ∀ (r : Int32) (μ1 : hp_M) (nx1 : Nat) (H1 : Heap) (locs1 : List Loc), post r μ1 nx1 → hp_w X cls μ1 nx1 H1 locs1 → W p l e R s m args below meth c H1 locs1 (cells + mc) (slots + ms) Q (F0 m (pc + 3) ls (.int r :: rest))) : W p l e R s m args below meth c H locs cells slots Q (F0 m pc ls st0) := by
  intro T hT X0
  obtain ⟨v, st₀, t, T', L, h0, X', hL, e1, e2, ⟨r, μ1, nx1, hv, hp, hw⟩, st⟩ := hr T hT X0
  cases hv
  obtain ⟨t2, a1, b1⟩ := kk r μ1 nx1 T'.heap (locs ++ L) hp (hp_back hH hL e1 hw) T' rfl X'
  exact ⟨t2, st t2 a1, b1⟩
theorem hp_kl {post : Int64 → hp_M → Nat → Prop} (hr : va_Run p l e R s m args below meth c H locs cells slots mc ms (F0 m pc ls st0) rest (hq_l X post a) (hp_A X)) (hH : hp_w X cls μ nx H locs)
    (kk : ∀ (r : Int64) (μ1 : hp_M) (nx1 : Nat) (H1 : Heap) (locs1 : List Loc), post r μ1 nx1 → hp_w X cls μ1 nx1 H1 locs1 → W p l e R s m args below meth c H1 locs1 (cells + mc) (slots + ms) Q (F0 m (pc + 3) ls (.long r :: rest))) : W p l e R s m args below meth c H locs cells slots Q (F0 m pc ls st0) := by
  intro T hT X0
  obtain ⟨v, st₀, t, T', L, h0, X', hL, e1, e2, ⟨r, μ1, nx1, hv, hp, hw⟩, st⟩ := hr T hT X0
  cases hv
  obtain ⟨t2, a1, b1⟩ := kk r μ1 nx1 T'.heap (locs ++ L) hp (hp_back hH hL e1 hw) T' rfl X'
  exact ⟨t2, st t2 a1, b1⟩
theorem hp_kr {post : Nat → hp_M → Nat → Prop} (hr : va_Run p l e R s m args below meth c H locs cells slots mc ms (F0 m pc ls st0) rest (hq_r X post a) (hp_A X)) (hH : hp_w X cls μ nx H locs)
    (kk : ∀ (r : Nat) (μ1 : hp_M) (nx1 : Nat) (H1 : Heap) (locs1 : List Loc), post r μ1 nx1 → hp_w X cls μ1 nx1 H1 locs1 → W p l e R s m args below meth c H1 locs1 (cells + mc) (slots + ms) Q (F0 m (pc + 3) ls (.ref r :: rest))) : W p l e R s m args below meth c H locs cells slots Q (F0 m pc ls st0) := by
  intro T hT X0
  obtain ⟨v, st₀, t, T', L, h0, X', hL, e1, e2, ⟨r, μ1, nx1, hv, hp, hw⟩, st⟩ := hr T hT X0
  cases hv
  obtain ⟨t2, a1, b1⟩ := kk r μ1 nx1 T'.heap (locs ++ L) hp (hp_back hH hL e1 hw) T' rfl X'
  exact ⟨t2, st t2 a1, b1⟩
theorem hp_kv {post : hp_M → Nat → Prop} (hr : va_Run p l e R s m args below meth c H locs cells slots mc ms (F0 m pc ls st0) rest (hq_v X post a) (hp_A X)) (hH : hp_w X cls μ nx H locs)
    (kk : ∀ (μ1 : hp_M) (nx1 : Nat) (H1 : Heap) (locs1 : List Loc), post μ1 nx1 → hp_w X cls μ1 nx1 H1 locs1 → W p l e R s m args below meth c H1 locs1 (cells + mc) (slots + ms) Q (F0 m (pc + 3) ls rest)) : W p l e R s m args below meth c H locs cells slots Q (F0 m pc ls st0) := by
  intro T hT X0
  obtain ⟨v, st₀, t, T', L, h0, X', hL, e1, e2, ⟨μ1, nx1, hv, hp, hw⟩, st⟩ := hr T hT X0
  cases hv
  obtain ⟨t2, a1, b1⟩ := kk μ1 nx1 T'.heap (locs ++ L) hp (hp_back hH hL e1 hw) T' rfl X'
  exact ⟨t2, st t2 a1, b1⟩
/-- ends -/
theorem hp_ri {post : Int32 → hp_M → Nat → Prop} {v : Int32} (hx : p.tables.exec = Jvm.exec) (hb : c.code = cc) (hr : meth.sig.returnType = some .int) (hlocks : meth.locks = false) (hS : KS X s) (hH : hp_w X cls μ nx H locs) (hp : post v μ nx) (hdg : decode cc pc = .ok (.ireturn, 1)) : W p l e R s m args below meth c H locs cells slots (MQ below (hq_i X post) args s cells slots (hp_A X)) (F0 m pc ls [.int v]) :=
  W.iret hx hb hr (fun t ht hW => ⟨v, μ, nx, rfl, hp, hS.warm hW, by rw [ht]; exact hH.drop⟩) (fun q hq => hH.2.2.2.2 q hq) hdg hlocks
theorem hp_rz {post : Int32 → hp_M → Nat → Prop} {v : Int32} (hx : p.tables.exec = Jvm.exec) (hb : c.code = cc) (hr : meth.sig.returnType = some .boolean) (hlocks : meth.locks = false) (hS : KS X s) (hH : hp_w X cls μ nx H locs) (hv : narrow .boolean (.int v) = .int v) (hp : post v μ nx) (hdg : decode cc pc = .ok (.ireturn, 1)) : W p l e R s m args below meth c H locs cells slots (MQ below (hq_i X post) args s cells slots (hp_A X)) (F0 m pc ls [.int v]) :=
  W.zret (ty := .boolean) hx hb hr hv (fun t ht hW => ⟨v, μ, nx, rfl, hp, hS.warm hW, by rw [ht]; exact hH.drop⟩) (fun q hq => hH.2.2.2.2 q hq) hdg hlocks
theorem hp_rl {post : Int64 → hp_M → Nat → Prop} {v : Int64} (hx : p.tables.exec = Jvm.exec) (hb : c.code = cc) (hr : meth.sig.returnType = some .long) (hlocks : meth.locks = false) (hS : KS X s) (hH : hp_w X cls μ nx H locs) (hp : post v μ nx) (hdg : decode cc pc = .ok (.lreturn, 1)) : W p l e R s m args below meth c H locs cells slots (MQ below (hq_l X post) args s cells slots (hp_A X)) (F0 m pc ls [.long v]) :=
  W.lret hx hb hr (fun t ht hW => ⟨v, μ, nx, rfl, hp, hS.warm hW, by rw [ht]; exact hH.drop⟩) (fun q hq => hH.2.2.2.2 q hq) hdg hlocks
theorem hp_rr {post : Nat → hp_M → Nat → Prop} {v : Nat} {rt : FieldType} (hx : p.tables.exec = Jvm.exec) (hb : c.code = cc) (hr : meth.sig.returnType = some rt) (hrt : (∃ n, rt = .object n) ∨ ∃ t, rt = .array t) (hlocks : meth.locks = false) (hS : KS X s) (hH : hp_w X cls μ nx H locs) (hp : post v μ nx) (hdg : decode cc pc = .ok (.areturn, 1)) : W p l e R s m args below meth c H locs cells slots (MQ below (hq_r X post) args s cells slots (hp_A X)) (F0 m pc ls [.ref v]) :=
  W.aret (v := .ref v) hx hb hr hrt (Or.inr ⟨v, rfl⟩) (fun t ht hW => ⟨v, μ, nx, rfl, hp, hS.warm hW, by rw [ht]; exact hH.drop⟩) (fun q hq => hH.2.2.2.2 q hq) hdg hlocks
theorem hp_rv {post : hp_M → Nat → Prop} (hx : p.tables.exec = Jvm.exec) (hb : c.code = cc) (hr : meth.sig.returnType = none) (hlocks : meth.locks = false) (hS : KS X s) (hH : hp_w X cls μ nx H locs) (hp : post μ nx) (hdg : decode cc pc = .ok (.return_, 1)) : W p l e R s m args below meth c H locs cells slots (MQ below (hq_v X post) args s cells slots (hp_A X)) (F0 m pc ls []) :=
  W.vret hx hb hr (fun t ht hW => ⟨μ, nx, rfl, hp, hS.warm hW, by rw [ht]; exact hH.drop⟩) (fun q hq => hH.2.2.2.2 q hq) hdg hlocks
/-- a number on the stack by another name -/
theorem hp_eqi {x z : Int32} (h : x = z) (k : W p l e R s m args below meth c H locs cells slots Q (F0 m pc ls (.int z :: rest))) : W p l e R s m args below meth c H locs cells slots Q (F0 m pc ls (.int x :: rest)) := h ▸ k
theorem hp_eql {x z : Int64} (h : x = z) (k : W p l e R s m args below meth c H locs cells slots Q (F0 m pc ls (.long z :: rest))) : W p l e R s m args below meth c H locs cells slots Q (F0 m pc ls (.long x :: rest)) := h ▸ k
end HPC
/-- fields, by membership -/
def sF (own : String) (index ci k : Nat) : Prop :=
  ∃ (C : String) (T : u_T) (N : Nat) (ref : String), cls[ci]? = some (C, T, N) ∧ k < N ∧ (∀ w ∈ u_ws C T N, w ∈ tb) ∧ (Cond.fieldLink own index ref (T k).2.1 (T k).2.2.1 ∈ tb ∨ ∃ host : String, Cond.fieldLinkNest own index ref (T k).2.1 (T k).2.2.1 host ∈ tb) ∧ (ref = (T k).1 ∨ Cond.sameField ref (T k).1 (T k).2.1 (T k).2.2.1 ∈ tb)
theorem sF.use {own : String} {index ci k : Nat} (h : sF own index ci k) {X : hp_X} {s : State} (hS : KS X s) {args : Array Value} : hp_F cls s args own index ci k := by
  obtain ⟨C, T, N, ref, h1, h2, h3, h4, h5⟩ := h
  refine ⟨C, T, N, ref, h1, h2, fun w hw => hS.1 w (h3 w hw) args, ?_, ?_⟩
  · rcases h4 with h4 | ⟨host, h4⟩
    · exact Or.inl (hS.1 _ h4 args)
    · exact Or.inr ⟨host, hS.1 _ h4 args⟩
  · rcases h5 with rfl | h5
    · exact fun _ h => h
    · exact fun x hx => u_same (hS.1 _ h5 args) x hx
def sP (own : String) (index ci k : Nat) (ty : FieldType) (fin : Bool) : Prop :=
  ∃ (C : String) (T : u_T) (N : Nat) (ref : String) (ty0 : Nat → FieldType), cls[ci]? = some (C, T, N) ∧ k < N ∧ (∀ w ∈ u_ws C T N, w ∈ tb) ∧ (Cond.fieldLink own index ref (T k).2.1 (T k).2.2.1 ∈ tb ∨ (fin = false ∧ ∃ host : String, Cond.fieldLinkNest own index ref (T k).2.1 (T k).2.2.1 host ∈ tb)) ∧ (ref = (T k).1 ∨ Cond.sameField ref (T k).1 (T k).2.1 (T k).2.2.1 ∈ tb) ∧ (T k).2.2.2 = fin ∧ parseFieldDescriptor (T k).2.2.1 = some ty ∧ hp_T T N ty0 ∧ (fin = true → (T k).1 = own)
theorem sP.use {own : String} {index ci k : Nat} {ty : FieldType} {fin : Bool} (h : sP own index ci k ty fin) {X : hp_X} {s : State} (hS : KS X s) {args : Array Value} : hp_P cls s args own index ci k ty fin := by
  obtain ⟨C, T, N, ref, ty0, h1, h2, h3, h4, h5, h6, h7, h8, h9⟩ := h
  refine ⟨C, T, N, ref, ty0, h1, h2, fun w hw => hS.1 w (h3 w hw) args, ?_, ?_, h6, h7, h8, h9⟩
  · rcases h4 with h4 | ⟨h0, host, h4⟩
    · exact Or.inl (hS.1 _ h4 args)
    · exact Or.inr ⟨h0, host, hS.1 _ h4 args⟩
  · rcases h5 with rfl | h5
    · exact fun _ h => h
    · exact fun x hx => u_same (hS.1 _ h5 args) x hx
